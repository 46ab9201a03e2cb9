/-! THE LAW'S BODY: all rounds, the tickets sold first, the start -/
section BODY
variable {P : PT} {Ln : Nat} {xs : Nat → Int32}
set_option maxHeartbeats 4000000 in
set_option maxRecDepth 100000 in
theorem at_end {kk : Nat} {S : Hp} {M : Int → Int} (hL : LQ S) (hG : GM (S (nw S)) M) : LHd P kk 24 S := by
  have hP := LQ_P hL
  have r1 : ∀ Q : Option MV → Hp → Prop, Wc 77 [.inr (0, 23), .inl 600, .inl 0] S Q = Q (some (.inl (-1))) S := fun Q => by
    rw [c_ticketOf hG.1.1.1.1.2.1 (RD_Wn hG.1.1.1.2.1) (RR_Rw hG.1.1.1) (by unfold tdR; omega) (by unfold tdR; omega) Q, if_neg (by omega)]
  have b := COME2 (w := 3) (t := 0) hG
  have e1 : acV (S (nw S)) 3 0 = -1 := by
    unfold acV
    rw [if_neg (by omega)]
  obtain ⟨T, hT⟩ : ∃ T, T = edS (acS S (acO (S (nw S)) 3 0)) (acV (S (nw S)) 3 0) := ⟨_, rfl⟩
  have r2 := fun Q => c_come (S := S) (w := 3) (t := 0) hP.1 hP.2 (fun w w1 w2 => (RR_o12 hG.1.1.1 w w1 w2).1) (by unfold tdR; omega) (by unfold tdR; omega) (by rw [b.1]; exact b.2.2.2.1) Q
  rw [← hT, e1] at r2
  obtain ⟨q1, q2, q3, -⟩ := ed_heap hL hT
  have gT : GM (T (nw T)) (cmM M 3 0) := by rw [q2]; exact GM_sc q3 b.2.1
  have hP3 := LQ_P q1
  have h7 := gT.1.1.1.2.2.2.2.2.2.1.1
  have ev : paW (T (nw T)) 0 = -2 := by
    unfold paW
    rw [if_neg (by omega)]
  obtain ⟨U, hU⟩ : ∃ U, U = edS (acS T (paO (T (nw T)) 0)) (paW (T (nw T)) 0) := ⟨_, rfl⟩
  have r3 := fun Q => c_pass (S := T) (t := 0) hP3.1 hP3.2 (by have := gT.1.2.2; omega) (by unfold tdR; omega) (fun h => absurd h (by omega)) (by rw [ev]; unfold tdR; omega) Q
  rw [← hU, ev] at r3
  refine lg_sound (fun _ => false) 60 _ _ _ _ ?_
  repeat' first | (with_reducible refine lT ?_ ?_; · omega) | (with_reducible refine lF ?_ ?_; · omega) | (with_reducible refine lI (fun _ => ?_) (fun _ => ?_)) | (simp (config := {maxSteps := 1000000}) (disch := (first | assumption | omega | (rw [hr_at]; assumption) | (rw [hr_at]; omega))) only [f_L_law, lg_0, lg_s, lK_none, lK_N, lK_C, lK_R, lQ_some, lQ_none, stR, mZ, mC, stI, ini, mL, gI, gA, sI, sA, bi, gF, pF, kF, kT, kL, c2, mT, mR, f4, tsw, lsw, tgt, inR, Nat.reduceLT, Nat.reduceLeDiff, Nat.reduceEqDiff, Nat.reduceAdd, Nat.reduceSub, ↓reduceIte, Bool.false_eq_true, List.map_cons, List.map_nil, List.length_cons, List.length_nil, List.replicate, List.cons_append, List.nil_append, List.getElem?_cons_zero, List.getElem?_cons_succ, List.set, List.take_succ_cons, List.take_zero, List.drop_succ_cons, List.drop_zero, List.reverse_cons, List.reverse_nil, Int.reduceLE, Int.reduceLT, Int.reduceNeg, Int.reduceToNat, true_and, and_true, and_self, beq_iff_eq, Bool.and_eq_true, Bool.or_eq_true, or_false, false_or, or_true, true_or, and_false, false_and, hu_hr, hr_hr, hr_at, hr_nc, not_false_eq_true, Int.reduceEq, Int.pow_zero, Int.reducePow, Int.reduceMul, Int.reduceAdd, Int.reduceDiv, Int.reduceMod, Int.zero_add, Int.add_zero, Int.mul_one, Int.cast_ofNat_Int, r1, r2, r3])
set_option maxHeartbeats 4000000 in
set_option maxRecDepth 100000 in
theorem all_rounds (hLn : Ln ≤ 260) : ∀ d n : Nat, n + d = 24 → ∀ S : Hp, Inv Ln xs n S → LHd P (6 * d) (n : Int) S := by
  intro d
  induction d with
  | zero =>
    intro n hn S hI
    obtain ⟨hL, ⟨M, hG, -⟩, -⟩ := hI
    have e : (n : Int) = 24 := by omega
    rw [e]
    exact at_end hL hG
  | succ d ih =>
    intro n hn S hI
    have e : 6 * (d + 1) = 6 * d + 6 := by omega
    rw [e]
    refine rd_round (by omega) hLn hI (fun T hT => ?_)
    have q := ih (n + 1) (by omega) T (by rw [Int.natCast_add]; exact hT)
    rw [Int.natCast_add] at q
    exact q
/- tickets sold first -/
abbrev LH0 (P : PT) (kk : Nat) (z : Int) (S : Hp) : Prop := LW P kk 0 10 [some (.inr (0, 40)), some (.inr (0, 23)), some (.inl z), none, none, none, none, none, none, none, none, none, none, none, none, none, none, none] [] S
set_option maxHeartbeats 4000000 in
set_option maxRecDepth 100000 in
theorem sl_step {kk : Nat} {S : Hp} {z : Int} (hz : 0 ≤ z ∧ z < 30) (hLn : Ln ≤ 260) (hI : Inv Ln xs 0 S) (hnext : ∀ T : Hp, Inv Ln xs 0 T → LH0 P kk (z + 1) T) : LH0 P kk z S := by
  obtain ⟨hL, ⟨M, hG, hM⟩, hl⟩ := hI
  have hl0 : 0 ≤ S 0 41 0 ∧ S 0 41 0 ≤ 260 := by rw [hl.1]; omega
  have hP := LQ_P hL
  have rc := fun Q => c_cell (S := S) (k := z % 7) hl0 (by omega) Q
  generalize clV S (z % 7) = c at *
  have lb := lwV_b (c + z) (n := 2) (by decide)
  have rl := fun Q => c_low (S := S) (v := c + z) (n := 2) (by omega) Q
  obtain ⟨t, ht⟩ : ∃ t, z + 100 * lwV (c + z) 2 = t := ⟨_, rfl⟩
  have b := SELL2 (t := t) hG
  obtain ⟨T, hT⟩ : ∃ T, T = edS (acS S (seO (S (nw S)) t)) (seV (S (nw S)) t) := ⟨_, rfl⟩
  have r := fun Q => c_sell (S := S) (t := t) hP.1 hP.2 hG.1.1.1.1.2.1 (RD_Wg hG.1.1.1.2.1) (by unfold tdR; omega) (by rw [b.1]; exact b.2.2.2.1) Q
  rw [← hT] at r
  obtain ⟨q1, q2, q3, q4, q5, -, -⟩ := ed_heap hL hT
  have gT : GM (T (nw T)) (slM M t) := by rw [q2]; exact GM_sc q3 b.2.1
  have hIT : Inv Ln xs 0 T := ⟨q1, ⟨_, gT, by unfold IvM at hM ⊢; omega⟩, by rw [q5 0 41 (by decide)]; exact hl.1, fun j => by rw [q5 0 40 (by decide)]; exact hl.2 j⟩
  have hn := hnext T hIT
  unfold LH0 at hn ⊢
  refine lg_cut (fun pc => pc == 10) 60 _ _ _ _ ?_
  repeat' first | (with_reducible refine lT ?_ ?_; · omega) | (with_reducible refine lF ?_ ?_; · omega) | (with_reducible refine lI (fun _ => ?_) (fun _ => ?_)) | (simp (config := {maxSteps := 1000000}) (disch := (first | assumption | omega | (rw [hr_at]; assumption) | (rw [hr_at]; omega))) only [f_L_law, lg_0, lg_s, lK_none, lK_N, lK_C, lK_R, lQ_some, lQ_none, stR, mZ, mC, stI, ini, mL, gI, gA, sI, sA, bi, gF, pF, kF, kT, kL, c2, mT, mR, f4, tsw, lsw, tgt, inR, Nat.reduceLT, Nat.reduceLeDiff, Nat.reduceEqDiff, Nat.reduceAdd, Nat.reduceSub, ↓reduceIte, Bool.false_eq_true, List.map_cons, List.map_nil, List.length_cons, List.length_nil, List.replicate, List.cons_append, List.nil_append, List.getElem?_cons_zero, List.getElem?_cons_succ, List.set, List.take_succ_cons, List.take_zero, List.drop_succ_cons, List.drop_zero, List.reverse_cons, List.reverse_nil, Int.reduceLE, Int.reduceLT, Int.reduceNeg, Int.reduceToNat, true_and, and_true, and_self, beq_iff_eq, Bool.and_eq_true, Bool.or_eq_true, or_false, false_or, or_true, true_or, and_false, false_and, hu_hr, hr_hr, hr_at, hr_nc, not_false_eq_true, Int.reduceEq, Int.pow_zero, Int.reducePow, Int.reduceMul, Int.reduceAdd, Int.reduceDiv, Int.reduceMod, Int.zero_add, Int.add_zero, Int.mul_one, Int.cast_ofNat_Int, rc, rl, ht, r])
  exact hn
set_option maxHeartbeats 4000000 in
set_option maxRecDepth 100000 in
theorem sl_all {kk : Nat} (hLn : Ln ≤ 260) (h : ∀ T : Hp, Inv Ln xs 0 T → LHd P kk 0 T) : ∀ d n : Nat, n + d = 30 → ∀ S : Hp, Inv Ln xs 0 S → LH0 P kk (n : Int) S := by
  intro d
  induction d with
  | zero =>
    intro n hn S hI
    have e : (n : Int) = 30 := by omega
    rw [e]
    have q := h S hI
    unfold LHd at q
    refine lg_cut (fun pc => pc == 10 || pc == 48) 20 _ _ _ _ ?_
    repeat' first | (with_reducible refine lT ?_ ?_; · omega) | (with_reducible refine lF ?_ ?_; · omega) | (with_reducible refine lI (fun _ => ?_) (fun _ => ?_)) | (simp (config := {maxSteps := 1000000}) (disch := (first | assumption | omega | (rw [hr_at]; assumption) | (rw [hr_at]; omega))) only [f_L_law, lg_0, lg_s, lK_none, lK_N, lK_C, lK_R, lQ_some, lQ_none, stR, mZ, mC, stI, ini, mL, gI, gA, sI, sA, bi, gF, pF, kF, kT, kL, c2, mT, mR, f4, tsw, lsw, tgt, inR, Nat.reduceLT, Nat.reduceLeDiff, Nat.reduceEqDiff, Nat.reduceAdd, Nat.reduceSub, ↓reduceIte, Bool.false_eq_true, List.map_cons, List.map_nil, List.length_cons, List.length_nil, List.replicate, List.cons_append, List.nil_append, List.getElem?_cons_zero, List.getElem?_cons_succ, List.set, List.take_succ_cons, List.take_zero, List.drop_succ_cons, List.drop_zero, List.reverse_cons, List.reverse_nil, Int.reduceLE, Int.reduceLT, Int.reduceNeg, Int.reduceToNat, true_and, and_true, and_self, beq_iff_eq, Bool.and_eq_true, Bool.or_eq_true, or_false, false_or, or_true, true_or, and_false, false_and, hu_hr, hr_hr, hr_at, hr_nc, not_false_eq_true, Int.reduceEq, Int.pow_zero, Int.reducePow, Int.reduceMul, Int.reduceAdd, Int.reduceDiv, Int.reduceMod, Int.zero_add, Int.add_zero, Int.mul_one, Int.cast_ofNat_Int])
    exact q
  | succ d ih =>
    intro n hn S hI
    refine sl_step (by omega) hLn hI (fun T hT => ?_)
    have q := ih (n + 1) (by omega) T hT
    rw [Int.natCast_add] at q
    exact q
end BODY
/- the start -/
set_option maxHeartbeats 4000000 in
set_option maxRecDepth 100000 in
theorem SI_z {c : Nat} (h0 : ¬ c = 0) (h1 : ¬ c = 1) (h7 : ¬ c = 7) (h12 : ¬ c = 12) (h23 : ¬ c = 23) (h24 : ¬ c = 24) (h31 : ¬ c = 31) (j : Int) : SI 0 c j = 0 := by
  unfold SI
  rw [if_neg h0, if_neg h1, if_neg h7, if_neg h12, if_neg h23, if_neg h24, if_neg h31]
set_option maxHeartbeats 4000000 in
set_option maxRecDepth 100000 in
theorem SI_XO : XO (SI 0) := by
  have f : ∀ t k, fb (SI 0) t k = 0 := fun t k => by
    unfold fb
    rw [SI_z (by decide) (by decide) (by decide) (by decide) (by decide) (by decide) (by decide)]
    simp
  have u : ∀ t, unc (SI 0) t = 0 := fun t => by
    unfold unc
    simp only [f]
    rfl
  have z : ∀ n : Nat, sm (fun _ => (0 : Int)) n = 0 := fun n => by
    induction n with
    | zero => rfl
    | succ n ih => rw [sm_s, ih]; rfl
  refine ⟨⟨?_, fun w w1 w2 => ?_, fun t t1 t2 h2 => ?_⟩, fun t t1 t2 hu => ?_⟩
  · have e : ctS (SI 0) = sm (fun _ => (0 : Int)) 600 := sm_congr (fun k hk => by rw [ctV_unc, u, Int.zero_mul])
    rw [e, z 600]
    rfl
  · rw [SI_z (c := 16) (by decide) (by decide) (by decide) (by decide) (by decide) (by decide) (by decide), SI_z (c := 17) (by decide) (by decide) (by decide) (by decide) (by decide) (by decide) (by decide)]
    have e0 : SI 0 0 0 = 0 := rfl
    rw [e0]
    omega
  · rw [f] at h2
    omega
  · rw [u] at hu
    omega
set_option maxHeartbeats 4000000 in
set_option maxRecDepth 100000 in
theorem SI_SP : SP (SI 0 31) := fun v v1 v2 => by
  have z : ∀ k : Nat, pyI (SI 0 31) v (k : Int) = 0 := fun k => by
    unfold pyI
    rw [SI_31 0 (by omega)]
    rfl
  have q := sm_b (f := fun k => pyI (SI 0 31) v (k : Int)) (c := 0) (by decide) 600 (fun k _ => by rw [z k]; omega)
  unfold dP
  rw [SI_31 0 (by omega)]
  omega
set_option maxHeartbeats 4000000 in
set_option maxRecDepth 100000 in
theorem Inv_start (L : Nat) (xs : Nat → Int32) : Inv L xs 0 (SL L xs) := by
  have e : ∀ k c : Nat, ¬ c = 40 → ¬ c = 41 → SL L xs k c = SI k c := fun k c q1 q2 => by
    funext j
    unfold SL
    rw [if_neg q1, if_neg q2]
  have tnw : nw (SL L xs) = 0 := by
    unfold nw
    rw [e 0 23 (by decide) (by decide)]
    rfl
  have z3 : SI 0 23 3 = 0 := rfl
  have a3 : ∀ k : Int, SI 0 24 k = 3 + k := fun k => rfl
  have c0 : SI 0 23 0 = 0 := rfl
  have c1 : SI 0 23 1 = 1 := rfl
  have m0 : SI 0 31 0 = 0 := rfl
  unfold Inv LQ
  rw [tnw, e 0 23 (by decide) (by decide), e 0 24 (by decide) (by decide)]
  refine ⟨⟨by omega, ⟨by omega, by omega, fun k k1 k2 => by rw [a3]; omega⟩, ⟨by omega, by omega, fun k k1 k2 => by rw [a3]; omega⟩, by omega, fun k k1 k2 => by rw [a3, c0, c1]; omega, fun j k j1 j2 k2 => by rw [a3, a3]; omega⟩, ⟨SI 0 31, ?_, by unfold IvM; omega⟩, rfl, fun j => rfl⟩
  exact GM_sc (fun c hc => e 0 c (by omega) (by omega)) ⟨⟨SI_T1, SI_SP, by omega⟩, SI_XO⟩
set_option maxHeartbeats 4000000 in
set_option maxRecDepth 100000 in
theorem pure_law : ∀ (P : PT) (L : Nat) (xs : Nat → Int32), PLn P = L → Pxs P = xs → L ≤ 260 → LW P 1000 0 8 (some (.inr (0, 40)) :: some (.inr (0, 23)) :: List.replicate 16 none) [] (SL L xs) := by
  intro P L xs _ _ hL
  have q := sl_all (P := P) (kk := 6 * 24) hL (fun T hT => all_rounds hL 24 0 (by omega) T hT) 30 0 (by omega) (SL L xs) (Inv_start L xs)
  have g : LW P (6 * 24) 0 8 (some (.inr (0, 40)) :: some (.inr (0, 23)) :: List.replicate 16 none) [] (SL L xs) := by
    refine lg_sound (fun pc => pc == 10) 10 _ _ _ _ ?_
    repeat' first | (with_reducible refine lT ?_ ?_; · omega) | (with_reducible refine lF ?_ ?_; · omega) | (with_reducible refine lI (fun _ => ?_) (fun _ => ?_)) | (simp (config := {maxSteps := 1000000}) (disch := (first | assumption | omega | (rw [hr_at]; assumption) | (rw [hr_at]; omega))) only [f_L_law, lg_0, lg_s, lK_none, lK_N, lK_C, lK_R, lQ_some, lQ_none, stR, mZ, mC, stI, ini, mL, gI, gA, sI, sA, bi, gF, pF, kF, kT, kL, c2, mT, mR, f4, tsw, lsw, tgt, inR, Nat.reduceLT, Nat.reduceLeDiff, Nat.reduceEqDiff, Nat.reduceAdd, Nat.reduceSub, ↓reduceIte, Bool.false_eq_true, List.map_cons, List.map_nil, List.length_cons, List.length_nil, List.replicate, List.cons_append, List.nil_append, List.getElem?_cons_zero, List.getElem?_cons_succ, List.set, List.take_succ_cons, List.take_zero, List.drop_succ_cons, List.drop_zero, List.reverse_cons, List.reverse_nil, Int.reduceLE, Int.reduceLT, Int.reduceNeg, Int.reduceToNat, true_and, and_true, and_self, beq_iff_eq, Bool.and_eq_true, Bool.or_eq_true, or_false, false_or, or_true, true_or, and_false, false_and, hu_hr, hr_hr, hr_at, hr_nc, not_false_eq_true, Int.reduceEq, Int.pow_zero, Int.reducePow, Int.reduceMul, Int.reduceAdd, Int.reduceDiv, Int.reduceMod, Int.zero_add, Int.add_zero, Int.mul_one, Int.cast_ofNat_Int])
    exact q
  refine LW_weak (kk := 6 * 24) (L' := some (.inr (0, 40)) :: some (.inr (0, 23)) :: List.replicate 16 none) (by decide) (Nat.le_refl _) rfl (fun i v hv => ⟨hv, ?_⟩) (fun v hv => by cases hv) g
  match i, hv with
  | 0, hv => cases hv; exact vM_s0 0
  | 1, hv => cases hv; exact vM_o 0
  | i + 2, hv =>
    rw [List.getElem?_cons_succ, List.getElem?_cons_succ, List.getElem?_replicate] at hv
    split at hv <;> simp at hv
