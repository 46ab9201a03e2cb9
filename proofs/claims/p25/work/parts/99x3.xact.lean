/-! THE LAW: an act -/
def AcR (M : Int → Int) (g x v : Int) (M' : Int → Int) : Prop := ∀ S : Hp, LQ S → GM (S (nw S)) M → ∃ O' : Of, (∀ Q : Option MV → Hp → Prop, Wc 102 [.inr (0, 23), .inl g, .inl x] S Q = Q (some (.inl v)) (edS (acS S O') v)) ∧ GM O' M' ∧ (v < 0 → ∀ c : Nat, c < 23 → O' c = S (nw S) c)
set_option maxHeartbeats 4000000 in
set_option maxRecDepth 100000 in
theorem RR_set3 {O : Of} {M : Int → Int} (h : RR O M) : ∀ w : Int, 0 ≤ w → w ≤ 2 → O 1 w = M (5 + w) ∧ 0 ≤ M (5 + w) ∧ M (5 + w) ≤ 20 := by
  intro w w1 w2
  have a := h.2.2.2.2.2.2.1.2.2.2
  refine ⟨a.1 w w1 (by omega), ?_⟩
  rcases (show w = 0 ∨ w = 1 ∨ w = 2 by omega) with rfl | rfl | rfl
  · have b := a.2.1
    rw [show (5 : Int) + 0 = 5 from rfl]
    omega
  · have b := a.2.2.1
    rw [show (5 : Int) + 1 = 6 from rfl]
    omega
  · have b := a.2.2.2
    rw [show (5 : Int) + 2 = 7 from rfl]
    omega
def cgM (M : Int → Int) (w v : Int) : Int → Int := if setOk w v then (if M (5 + w) = v then M else up M (5 + w) v) else M
def cgR (M : Int → Int) (w v : Int) : Int := if setOk w v then (if M (5 + w) = v then -5 else M (5 + w)) else -2
set_option maxHeartbeats 4000000 in
set_option maxRecDepth 100000 in
theorem SETT {O : Of} {M : Int → Int} {w v : Int} (h : GM O M) : cgV O w v = cgR M w v ∧ GM (cgO O w v) (cgM M w v) ∧ cgM M w v 0 = M 0 ∧ tdR (cgR M w v) ∧ (cgR M w v < 0 → cgO O w v = O) := by
  have hX := XO_set (w := w) (v := v) h.2
  obtain ⟨⟨hT, hS, h9⟩, -⟩ := h
  unfold cgV cgR cgO cgM tdR at *
  by_cases c : setOk w v
  · have a := RR_set3 hT.1 w c.1.1 c.1.2
    rw [if_pos c] at hX
    rw [if_pos c, if_pos c, if_pos c, if_pos c]
    rw [a.1] at hX ⊢
    by_cases e : M (5 + w) = v
    · rw [if_pos e] at hX ⊢
      rw [if_pos e]
      refine ⟨rfl, ⟨⟨?_, ?_, ?_⟩, hX⟩, ?_, by omega, fun _ => rfl⟩
      all_goals (try rw [if_pos e])
      · exact hT
      · exact hS
      · exact h9
    · rw [if_neg e] at hX ⊢
      rw [if_neg e]
      refine ⟨rfl, ⟨⟨?_, ?_, ?_⟩, hX⟩, ?_, by omega, fun q => by omega⟩
      all_goals (try rw [if_neg e])
      · exact T1_set hT c
      · exact SP_set c.1 hS
      · rw [up_ne (by omega)]; exact h9
      · exact up_ne (by omega)
  · rw [if_neg c, if_neg c, if_neg c, if_neg c]
    exact ⟨rfl, ⟨⟨hT, hS, h9⟩, by rw [if_neg c] at hX; exact hX⟩, rfl, by decide, fun _ => rfl⟩
set_option maxHeartbeats 4000000 in
set_option maxRecDepth 100000 in
theorem SELL2 {O : Of} {M : Int → Int} {t : Int} (h : GM O M) : seV O t = slR M t ∧ GM (seO O t) (slM M t) ∧ slM M t 0 = M 0 ∧ tdR (slR M t) ∧ (slR M t < 0 → seO O t = O) := by
  obtain ⟨a, b, c, d, e⟩ := SELL (t := t) h.1.1
  exact ⟨a, ⟨⟨b, SP_sell h.1.2.1, by rw [c]; exact h.1.2.2⟩, XO_sell h.1.1 h.2⟩, c, d, fun q => (e q).2⟩
set_option maxHeartbeats 4000000 in
set_option maxRecDepth 100000 in
theorem DRAW2 {O : Of} {M : Int → Int} {t : Int} (h : GM O M) : dbV O t = dwR M t ∧ GM (dbO O t) (dwM M t) ∧ dwM M t 0 = M 0 ∧ tdR (dwR M t) ∧ (dwR M t < 0 → dbO O t = O) := by
  obtain ⟨a, b, c, d, e⟩ := DRAW (d := t) h.1.1
  exact ⟨a, ⟨⟨b, SP_draw h.1.2.1, by rw [c]; exact h.1.2.2⟩, XO_draw h.1.1 h.2⟩, c, d, fun q => (e q).2⟩
set_option maxHeartbeats 4000000 in
set_option maxRecDepth 100000 in
theorem COME2 {O : Of} {M : Int → Int} {w t : Int} (h : GM O M) : acV O w t = cmR M w t ∧ GM (acO O w t) (cmM M w t) ∧ cmM M w t 0 = M 0 ∧ tdR (cmR M w t) ∧ (cmR M w t < 0 → acO O w t = O) := by
  obtain ⟨a, b, c, d, e⟩ := COME (w := w) (t := t) h.1.1
  exact ⟨a, ⟨⟨b, SP_come h.1.1.1 h.1.2.1, by rw [c]; exact h.1.2.2⟩, XO_come h.2⟩, c, d, fun q => (e q).2⟩
set_option maxHeartbeats 4000000 in
set_option maxRecDepth 100000 in
theorem LEAVE2 {O : Of} {M : Int → Int} {t : Int} (h : GM O M) (ht : 0 ≤ t ∧ t < 600) : rcV O t = lvR M t ∧ GM (rcO O t) (lvT M t).1 ∧ (lvT M t).1 0 = M 0 ∧ tdR (lvR M t) ∧ (lvR M t < 0 → rcO O t = O) := by
  obtain ⟨a, b, c, d⟩ := LEAVE h.1.1 ht
  have hR := RR_Rw h.1.1.1
  have hb := rmvN_b (t := t) hR
  have hv : rcV O t = if rmvN O t = 0 then -5 else rmvN O t := by unfold rcV; rw [if_pos ht]
  refine ⟨a, ⟨⟨b, SP_e h.1.2.1 (DPe_eq (fun j j1 j2 => lvT_hi h.1.1 j (by omega)) (fun v v1 v2 => lvT_hi h.1.1 _ (by omega))), by rw [c]; exact h.1.2.2⟩, XO_leave h.2⟩, c, ?_, fun q => ?_⟩
  · rw [← a, hv]
    unfold tdR
    split <;> omega
  · rw [← a, hv] at q
    unfold rcO
    rw [if_pos ht]
    by_cases e : rmvN O t = 0
    · exact rmv_same hR e
    · rw [if_neg e] at q; omega
set_option maxHeartbeats 4000000 in
set_option maxRecDepth 100000 in
theorem PASS2 {O : Of} {M : Int → Int} {t : Int} (h : GM O M) (ht : 1 ≤ t ∧ t ≤ 99) : paW O t = paR M t ∧ GM (paO O t) (paM M t) ∧ paM M t 0 ≤ M 0 + t ∧ tdR (paR M t) ∧ (paR M t < 0 → paO O t = O) := by
  obtain ⟨a, b, c, d, e⟩ := PASS (t := t) h.1.1 h.1.2.2
  refine ⟨a, ⟨⟨b, SP_pass h.1.1 h.1.2.2 h.1.2.1, c⟩, XO_pass h.1.1 h.1.2.2 h.2⟩, ?_, d, fun q => (e q).2⟩
  unfold paM
  rw [if_pos ht]
  split
  · omega
  · have q := TICKS h.1.1 t.toNat (by have := h.1.2.2; omega)
    rw [q.2]
    omega
set_option maxHeartbeats 4000000 in
set_option maxRecDepth 100000 in
theorem TcP_of {O : Of} {M : Int → Int} {t : Int} (h : T1 O M) (h9 : M 0 ≤ 9999) (ht : t ≤ 99) : ∀ j : Nat, (j : Int) < t → TcP (rvO O j) := fun j hj => TICK_c (TICKS h j (by omega)).1
set_option maxHeartbeats 4000000 in
set_option maxRecDepth 100000 in
theorem AC {O : Of} {M : Int → Int} {g x : Int} (hO : GM O M) (hg : inR g) (hx : inR x) : ∃ (v : Int) (M' : Int → Int), tdR v ∧ M' 0 ≤ M 0 + 30 ∧ AcR M g x v M' := by
  obtain ⟨K, hK⟩ : ∃ K, lwV (g / 8) 16 = K := ⟨_, rfl⟩
  obtain ⟨tk, htk⟩ : ∃ tk, lwV (x / 4) 30 + 100 * lwV (x / 256) 2 = tk := ⟨_, rfl⟩
  have bK := lwV_b (g / 8) (n := 16) (by decide)
  have b1 := lwV_b (x / 4) (n := 30) (by decide)
  have b2 := lwV_b (x / 256) (n := 2) (by decide)
  have b3 := lwV_b x (n := 2) (by decide)
  have b4 := lwV_b x (n := 3) (by decide)
  have b5 := lwV_b (x / 16) (n := 6) (by decide)
  have b6 := lwV_b x (n := 30) (by decide)
  have b7 := lwV_b x (n := 4) (by decide)
  rw [hK] at bK
  have bt : 0 ≤ tk ∧ tk < 600 := by omega
  by_cases k1 : K < 4
  · have a := SELL2 (t := tk) hO
    refine ⟨slR M tk, slM M tk, a.2.2.2.1, by omega, fun S hL hG => ?_⟩
    have b := SELL2 (t := tk) hG
    have hP := LQ_P hL
    refine ⟨seO (S (nw S)) tk, fun Q => ?_, b.2.1, fun q c hc => by rw [b.2.2.2.2 q]⟩
    have r := fun Q => c_sell (S := S) (t := tk) hP.1 hP.2 hG.1.1.1.1.2.1 (RD_Wg hG.1.1.1.2.1) (by unfold tdR; omega) (by rw [b.1]; exact b.2.2.2.1) Q
    rw [b.1] at r
    refine Wc_eq ?_ Q
    unfold Wc
    refine vg_sound (fun _ _ => false) (fun m => m == 102) 60 _ _ _ _ _ _ ?_
    repeat' first | (with_reducible refine vT ?_ ?_; · omega) | (with_reducible refine vF ?_ ?_; · omega) | (with_reducible refine vI (fun _ => ?_) (fun _ => ?_)) | (simp (config := {maxSteps := 1000000}) (disch := (first | assumption | omega | (rw [hr_at]; assumption) | (rw [hr_at]; omega))) only [f_L_act, wg_0, wg_s, wK_none, wK_N, wK_C, wK_R, wQ_some, wQ_none, stR, mZ, mC, stI, ini, mL, gI, gA, sI, sA, bi, gF, pF, kF, kT, kL, c2, mT, mR, f4, tsw, lsw, tgt, inR, Nat.reduceLT, Nat.reduceLeDiff, Nat.reduceEqDiff, Nat.reduceAdd, Nat.reduceSub, ↓reduceIte, Bool.false_eq_true, List.map_cons, List.map_nil, List.length_cons, List.length_nil, List.replicate, List.cons_append, List.nil_append, List.getElem?_cons_zero, List.getElem?_cons_succ, List.set, List.take_succ_cons, List.take_zero, List.drop_succ_cons, List.drop_zero, List.reverse_cons, List.reverse_nil, Int.reduceLE, Int.reduceLT, Int.reduceNeg, Int.reduceToNat, true_and, and_true, and_self, beq_iff_eq, Bool.and_eq_true, Bool.or_eq_true, or_false, false_or, or_true, true_or, and_false, false_and, hu_hr, hr_hr, hr_at, hr_nc, not_false_eq_true, Int.reduceEq, Int.pow_zero, Int.reducePow, Int.reduceMul, Int.reduceAdd, Int.reduceDiv, Int.reduceMod, Int.zero_add, Int.add_zero, Int.mul_one, Int.cast_ofNat_Int, c_low, hK, htk, r])
  · by_cases k2 : K < 6
    · have a := DRAW2 (t := lwV x 2) hO
      refine ⟨dwR M (lwV x 2), dwM M (lwV x 2), a.2.2.2.1, by omega, fun S hL hG => ?_⟩
      have b := DRAW2 (t := lwV x 2) hG
      have hP := LQ_P hL
      refine ⟨dbO (S (nw S)) (lwV x 2), fun Q => ?_, b.2.1, fun q c hc => by rw [b.2.2.2.2 q]⟩
      have h7 := hG.1.1.1.2.2.2.2.2.2.1
      have r := fun Q => c_draw (S := S) (d := lwV x 2) hP.1 hP.2 hG.1.1.1.1.2.1 (RD_Wg hG.1.1.1.2.1) (by have := h7.2.1; omega) (RR_h0 hG.1.1.1) (by unfold tdR; omega) (by rw [b.1]; exact b.2.2.2.1) Q
      rw [b.1] at r
      refine Wc_eq ?_ Q
      unfold Wc
      refine vg_sound (fun _ _ => false) (fun m => m == 102) 60 _ _ _ _ _ _ ?_
      repeat' first | (with_reducible refine vT ?_ ?_; · omega) | (with_reducible refine vF ?_ ?_; · omega) | (with_reducible refine vI (fun _ => ?_) (fun _ => ?_)) | (simp (config := {maxSteps := 1000000}) (disch := (first | assumption | omega | (rw [hr_at]; assumption) | (rw [hr_at]; omega))) only [f_L_act, wg_0, wg_s, wK_none, wK_N, wK_C, wK_R, wQ_some, wQ_none, stR, mZ, mC, stI, ini, mL, gI, gA, sI, sA, bi, gF, pF, kF, kT, kL, c2, mT, mR, f4, tsw, lsw, tgt, inR, Nat.reduceLT, Nat.reduceLeDiff, Nat.reduceEqDiff, Nat.reduceAdd, Nat.reduceSub, ↓reduceIte, Bool.false_eq_true, List.map_cons, List.map_nil, List.length_cons, List.length_nil, List.replicate, List.cons_append, List.nil_append, List.getElem?_cons_zero, List.getElem?_cons_succ, List.set, List.take_succ_cons, List.take_zero, List.drop_succ_cons, List.drop_zero, List.reverse_cons, List.reverse_nil, Int.reduceLE, Int.reduceLT, Int.reduceNeg, Int.reduceToNat, true_and, and_true, and_self, beq_iff_eq, Bool.and_eq_true, Bool.or_eq_true, or_false, false_or, or_true, true_or, and_false, false_and, hu_hr, hr_hr, hr_at, hr_nc, not_false_eq_true, Int.reduceEq, Int.pow_zero, Int.reducePow, Int.reduceMul, Int.reduceAdd, Int.reduceDiv, Int.reduceMod, Int.zero_add, Int.add_zero, Int.mul_one, Int.cast_ofNat_Int, c_low, hK, htk, r])
    · by_cases k3 : K < 12
      · have a := COME2 (w := lwV x 3) (t := tk) hO
        refine ⟨cmR M (lwV x 3) tk, cmM M (lwV x 3) tk, a.2.2.2.1, by omega, fun S hL hG => ?_⟩
        have b := COME2 (w := lwV x 3) (t := tk) hG
        have hP := LQ_P hL
        refine ⟨acO (S (nw S)) (lwV x 3) tk, fun Q => ?_, b.2.1, fun q c hc => by rw [b.2.2.2.2 q]⟩
        have r := fun Q => c_come (S := S) (w := lwV x 3) (t := tk) hP.1 hP.2 (fun w w1 w2 => (RR_o12 hG.1.1.1 w w1 w2).1) (by unfold tdR; omega) (by unfold tdR; omega) (by rw [b.1]; exact b.2.2.2.1) Q
        rw [b.1] at r
        refine Wc_eq ?_ Q
        unfold Wc
        refine vg_sound (fun _ _ => false) (fun m => m == 102) 60 _ _ _ _ _ _ ?_
        repeat' first | (with_reducible refine vT ?_ ?_; · omega) | (with_reducible refine vF ?_ ?_; · omega) | (with_reducible refine vI (fun _ => ?_) (fun _ => ?_)) | (simp (config := {maxSteps := 1000000}) (disch := (first | assumption | omega | (rw [hr_at]; assumption) | (rw [hr_at]; omega))) only [f_L_act, wg_0, wg_s, wK_none, wK_N, wK_C, wK_R, wQ_some, wQ_none, stR, mZ, mC, stI, ini, mL, gI, gA, sI, sA, bi, gF, pF, kF, kT, kL, c2, mT, mR, f4, tsw, lsw, tgt, inR, Nat.reduceLT, Nat.reduceLeDiff, Nat.reduceEqDiff, Nat.reduceAdd, Nat.reduceSub, ↓reduceIte, Bool.false_eq_true, List.map_cons, List.map_nil, List.length_cons, List.length_nil, List.replicate, List.cons_append, List.nil_append, List.getElem?_cons_zero, List.getElem?_cons_succ, List.set, List.take_succ_cons, List.take_zero, List.drop_succ_cons, List.drop_zero, List.reverse_cons, List.reverse_nil, Int.reduceLE, Int.reduceLT, Int.reduceNeg, Int.reduceToNat, true_and, and_true, and_self, beq_iff_eq, Bool.and_eq_true, Bool.or_eq_true, or_false, false_or, or_true, true_or, and_false, false_and, hu_hr, hr_hr, hr_at, hr_nc, not_false_eq_true, Int.reduceEq, Int.pow_zero, Int.reducePow, Int.reduceMul, Int.reduceAdd, Int.reduceDiv, Int.reduceMod, Int.zero_add, Int.add_zero, Int.mul_one, Int.cast_ofNat_Int, c_low, hK, htk, r])
      · by_cases k4 : K = 12
        · by_cases k5 : lwV x 3 = 0
          · have a := LEAVE2 (t := tk) hO bt
            refine ⟨lvR M tk, (lvT M tk).1, a.2.2.2.1, by omega, fun S hL hG => ?_⟩
            have b := LEAVE2 (t := tk) hG bt
            have hP := LQ_P hL
            refine ⟨rcO (S (nw S)) tk, fun Q => ?_, b.2.1, fun q c hc => by rw [b.2.2.2.2 q]⟩
            have r := fun Q => c_leave (S := S) (t := tk) hP.1 hP.2 (RR_Rw hG.1.1.1) (by unfold tdR; omega) (by rw [b.1]; exact b.2.2.2.1) Q
            rw [b.1] at r
            refine Wc_eq ?_ Q
            unfold Wc
            refine vg_sound (fun _ _ => false) (fun m => m == 102) 60 _ _ _ _ _ _ ?_
            repeat' first | (with_reducible refine vT ?_ ?_; · omega) | (with_reducible refine vF ?_ ?_; · omega) | (with_reducible refine vI (fun _ => ?_) (fun _ => ?_)) | (simp (config := {maxSteps := 1000000}) (disch := (first | assumption | omega | (rw [hr_at]; assumption) | (rw [hr_at]; omega))) only [f_L_act, wg_0, wg_s, wK_none, wK_N, wK_C, wK_R, wQ_some, wQ_none, stR, mZ, mC, stI, ini, mL, gI, gA, sI, sA, bi, gF, pF, kF, kT, kL, c2, mT, mR, f4, tsw, lsw, tgt, inR, Nat.reduceLT, Nat.reduceLeDiff, Nat.reduceEqDiff, Nat.reduceAdd, Nat.reduceSub, ↓reduceIte, Bool.false_eq_true, List.map_cons, List.map_nil, List.length_cons, List.length_nil, List.replicate, List.cons_append, List.nil_append, List.getElem?_cons_zero, List.getElem?_cons_succ, List.set, List.take_succ_cons, List.take_zero, List.drop_succ_cons, List.drop_zero, List.reverse_cons, List.reverse_nil, Int.reduceLE, Int.reduceLT, Int.reduceNeg, Int.reduceToNat, true_and, and_true, and_self, beq_iff_eq, Bool.and_eq_true, Bool.or_eq_true, or_false, false_or, or_true, true_or, and_false, false_and, hu_hr, hr_hr, hr_at, hr_nc, not_false_eq_true, Int.reduceEq, Int.pow_zero, Int.reducePow, Int.reduceMul, Int.reduceAdd, Int.reduceDiv, Int.reduceMod, Int.zero_add, Int.add_zero, Int.mul_one, Int.cast_ofNat_Int, c_low, hK, htk, k5, r])
          · have a := SETT (w := lwV x 3) (v := lwV (x / 16) 6) hO
            refine ⟨cgR M (lwV x 3) (lwV (x / 16) 6), cgM M (lwV x 3) (lwV (x / 16) 6), a.2.2.2.1, by omega, fun S hL hG => ?_⟩
            have b := SETT (w := lwV x 3) (v := lwV (x / 16) 6) hG
            have hP := LQ_P hL
            refine ⟨cgO (S (nw S)) (lwV x 3) (lwV (x / 16) 6), fun Q => ?_, b.2.1, fun q c hc => by rw [b.2.2.2.2 q]⟩
            have r := fun Q => c_set (S := S) (w := lwV x 3) (v := lwV (x / 16) 6) hP.1 hP.2 (by unfold tdR; omega) (by unfold tdR; omega) (fun w w1 w2 => by have z := RR_set3 hG.1.1.1 w w1 w2; rw [z.1]; exact z.2) (by rw [b.1]; exact b.2.2.2.1) Q
            rw [b.1] at r
            refine Wc_eq ?_ Q
            unfold Wc
            refine vg_sound (fun _ _ => false) (fun m => m == 102) 60 _ _ _ _ _ _ ?_
            repeat' first | (with_reducible refine vT ?_ ?_; · omega) | (with_reducible refine vF ?_ ?_; · omega) | (with_reducible refine vI (fun _ => ?_) (fun _ => ?_)) | (simp (config := {maxSteps := 1000000}) (disch := (first | assumption | omega | (rw [hr_at]; assumption) | (rw [hr_at]; omega))) only [f_L_act, wg_0, wg_s, wK_none, wK_N, wK_C, wK_R, wQ_some, wQ_none, stR, mZ, mC, stI, ini, mL, gI, gA, sI, sA, bi, gF, pF, kF, kT, kL, c2, mT, mR, f4, tsw, lsw, tgt, inR, Nat.reduceLT, Nat.reduceLeDiff, Nat.reduceEqDiff, Nat.reduceAdd, Nat.reduceSub, ↓reduceIte, Bool.false_eq_true, List.map_cons, List.map_nil, List.length_cons, List.length_nil, List.replicate, List.cons_append, List.nil_append, List.getElem?_cons_zero, List.getElem?_cons_succ, List.set, List.take_succ_cons, List.take_zero, List.drop_succ_cons, List.drop_zero, List.reverse_cons, List.reverse_nil, Int.reduceLE, Int.reduceLT, Int.reduceNeg, Int.reduceToNat, true_and, and_true, and_self, beq_iff_eq, Bool.and_eq_true, Bool.or_eq_true, or_false, false_or, or_true, true_or, and_false, false_and, hu_hr, hr_hr, hr_at, hr_nc, not_false_eq_true, Int.reduceEq, Int.pow_zero, Int.reducePow, Int.reduceMul, Int.reduceAdd, Int.reduceDiv, Int.reduceMod, Int.zero_add, Int.add_zero, Int.mul_one, Int.cast_ofNat_Int, c_low, hK, htk, r])
        · have hp : ∃ n : Int, (n = 30 ∨ n = 4) ∧ n = if K = 15 then 30 else 4 := ⟨if K = 15 then 30 else 4, by split <;> omega, rfl⟩
          obtain ⟨n, hn, hn2⟩ := hp
          obtain ⟨t, ht⟩ : ∃ t, 1 + lwV x n = t := ⟨_, rfl⟩
          have bn := lwV_b x (n := n) (by omega)
          have a := PASS2 (t := t) hO (by omega)
          refine ⟨paR M t, paM M t, a.2.2.2.1, by omega, fun S hL hG => ?_⟩
          have b := PASS2 (t := t) hG (by omega)
          have hP := LQ_P hL
          refine ⟨paO (S (nw S)) t, fun Q => ?_, b.2.1, fun q c hc => by rw [b.2.2.2.2 q]⟩
          have h7 := hG.1.1.1.2.2.2.2.2.2.1.1
          have r := fun Q => c_pass (S := S) (t := t) hP.1 hP.2 (by have := hG.1.2.2; omega) (by unfold tdR; omega) (fun _ _ => TcP_of hG.1.1 hG.1.2.2 (by omega)) (by rw [b.1]; exact b.2.2.2.1) Q
          rw [b.1] at r
          refine Wc_eq ?_ Q
          unfold Wc
          by_cases k6 : K = 15
          · rw [if_pos k6] at hn2
            rw [hn2] at ht
            refine vg_sound (fun _ _ => false) (fun m => m == 102) 60 _ _ _ _ _ _ ?_
            repeat' first | (with_reducible refine vT ?_ ?_; · omega) | (with_reducible refine vF ?_ ?_; · omega) | (with_reducible refine vI (fun _ => ?_) (fun _ => ?_)) | (simp (config := {maxSteps := 1000000}) (disch := (first | assumption | omega | (rw [hr_at]; assumption) | (rw [hr_at]; omega))) only [f_L_act, wg_0, wg_s, wK_none, wK_N, wK_C, wK_R, wQ_some, wQ_none, stR, mZ, mC, stI, ini, mL, gI, gA, sI, sA, bi, gF, pF, kF, kT, kL, c2, mT, mR, f4, tsw, lsw, tgt, inR, Nat.reduceLT, Nat.reduceLeDiff, Nat.reduceEqDiff, Nat.reduceAdd, Nat.reduceSub, ↓reduceIte, Bool.false_eq_true, List.map_cons, List.map_nil, List.length_cons, List.length_nil, List.replicate, List.cons_append, List.nil_append, List.getElem?_cons_zero, List.getElem?_cons_succ, List.set, List.take_succ_cons, List.take_zero, List.drop_succ_cons, List.drop_zero, List.reverse_cons, List.reverse_nil, Int.reduceLE, Int.reduceLT, Int.reduceNeg, Int.reduceToNat, true_and, and_true, and_self, beq_iff_eq, Bool.and_eq_true, Bool.or_eq_true, or_false, false_or, or_true, true_or, and_false, false_and, hu_hr, hr_hr, hr_at, hr_nc, not_false_eq_true, Int.reduceEq, Int.pow_zero, Int.reducePow, Int.reduceMul, Int.reduceAdd, Int.reduceDiv, Int.reduceMod, Int.zero_add, Int.add_zero, Int.mul_one, Int.cast_ofNat_Int, c_low, hK, htk, ht, r])
          · rw [if_neg k6] at hn2
            rw [hn2] at ht
            refine vg_sound (fun _ _ => false) (fun m => m == 102) 60 _ _ _ _ _ _ ?_
            repeat' first | (with_reducible refine vT ?_ ?_; · omega) | (with_reducible refine vF ?_ ?_; · omega) | (with_reducible refine vI (fun _ => ?_) (fun _ => ?_)) | (simp (config := {maxSteps := 1000000}) (disch := (first | assumption | omega | (rw [hr_at]; assumption) | (rw [hr_at]; omega))) only [f_L_act, wg_0, wg_s, wK_none, wK_N, wK_C, wK_R, wQ_some, wQ_none, stR, mZ, mC, stI, ini, mL, gI, gA, sI, sA, bi, gF, pF, kF, kT, kL, c2, mT, mR, f4, tsw, lsw, tgt, inR, Nat.reduceLT, Nat.reduceLeDiff, Nat.reduceEqDiff, Nat.reduceAdd, Nat.reduceSub, ↓reduceIte, Bool.false_eq_true, List.map_cons, List.map_nil, List.length_cons, List.length_nil, List.replicate, List.cons_append, List.nil_append, List.getElem?_cons_zero, List.getElem?_cons_succ, List.set, List.take_succ_cons, List.take_zero, List.drop_succ_cons, List.drop_zero, List.reverse_cons, List.reverse_nil, Int.reduceLE, Int.reduceLT, Int.reduceNeg, Int.reduceToNat, true_and, and_true, and_self, beq_iff_eq, Bool.and_eq_true, Bool.or_eq_true, or_false, false_or, or_true, true_or, and_false, false_and, hu_hr, hr_hr, hr_at, hr_nc, not_false_eq_true, Int.reduceEq, Int.pow_zero, Int.reducePow, Int.reduceMul, Int.reduceAdd, Int.reduceDiv, Int.reduceMod, Int.zero_add, Int.add_zero, Int.mul_one, Int.cast_ofNat_Int, c_low, hK, htk, ht, r])
