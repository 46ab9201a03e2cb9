/-! THE CLASS: the text is read as the reference reads it -/
set_option maxHeartbeats 4000000 in
set_option maxRecDepth 100000 in
theorem prs_lt {X : Int → Int} {len p o : Int} (hp : p ≤ len) (h : ¬ (prs X len p o).2.1 = -5) : p < (prs X len p o).1 := by
  have h1 := nuM_b (X := X) (a := 0) (b := 599) (by omega) (by omega) hp
  have h2 := nuM_b (X := X) (a := 0) (b := 5) (by omega) (by omega) hp
  have h3 := nuM_b (X := X) (a := 1) (b := 99) (by omega) (by omega) hp
  have h4 := nuM_b (X := X) (a := 0) (b := 2) (by omega) (by omega) hp
  revert h
  unfold prs
  by_cases c1 : o = 115
  · rw [if_pos c1]; dsimp only; omega
  · rw [if_neg c1]
    by_cases c3 : o = 100
    · rw [if_pos c3]; dsimp only; omega
    · rw [if_neg c3]
      by_cases c4 : o = 116
      · rw [if_pos c4]; dsimp only; omega
      · rw [if_neg c4]
        unfold prc
        by_cases c5 : (nuM X len p 0 2).1 = -5
        · rw [if_pos c5]; dsimp only; omega
        · rw [if_neg c5]
          by_cases c6 : nxP X len (nuM X len p 0 2).2 58 58
          · rw [if_pos c6]
            have c7 := c6.1
            have h5 := nuM_b (X := X) (a := 0) (b := 599) (p := (nuM X len p 0 2).2 + 1) (len := len) (by omega) (by omega) (by omega)
            dsimp only
            omega
          · rw [if_neg c6]; dsimp only; omega
set_option maxHeartbeats 4000000 in
set_option maxRecDepth 100000 in
theorem rd_loop {Q : Option MV → Hp → Prop} : ∀ (n : Nat) (S : Hp) (R A B C Rm : Int → Int) (z : Int), TxC (S 0 29) R → 61 ≤ R 6 + n → (0 ≤ z ∧ z ≤ 20 ∧ 3 * z ≤ R 6) → R 1 = z → Rm 5 = R 6 → Rm 7 = R 0 → (∀ R' A' B' C' : Int → Int, R' 0 = R 0 → (0 ≤ (raL (S 0 29) n Rm z).1 → R' 1 = (raL (S 0 29) n Rm z).1 ∧ ∀ k : Nat, z + k < (raL (S 0 29) n Rm z).1 → OrA (S 0 29) (R 0) (plc (S 0 29) (R 0) (R 6) k) A' B' C' (z + k)) → (∀ j : Int, j < z → A' j = A j ∧ B' j = B j ∧ C' j = C j) → Q (some (.inl (if (raL (S 0 29) n Rm z).1 < 0 then -100 - (raL (S 0 29) n Rm z).1 else -5))) (hq S R' A' B' C')) → Wp 45 12 [some (.inr (0, 25)), some (.inl z)] [] (hq S R A B C) Q
  | 0, S, R, A, B, C, Rm, z, hT, hn, hz, hm, h5, h7, h => by
    have := hT.1
    have := hT.2.1
    omega
  | n + 1, S, R, A, B, C, Rm, z, hT, hn, hz, hm, h5, h7, h => by
    have h1 := hT.1
    have h2 := hT.2.1
    by_cases hok : R 6 < R 0 ∧ okO (S 0 29 (R 6))
    · obtain ⟨hl, ho⟩ := hok
      have hz20 : z < 20 := by omega
      obtain ⟨B', C', r1, r2, r3⟩ := c_order (S := S) (R := R) (A := A) (B := B) (C := C) (i := z) hT ⟨hz.1, hz20⟩ hl rfl ho
      have hb := (prs_b (X := S 0 29) (len := R 0) (p := R 6 + 1) (o := S 0 29 (R 6)) (by omega)).1
      have hlt := prs_lt (X := S 0 29) (len := R 0) (p := R 6 + 1) (o := S 0 29 (R 6)) (by omega)
      have hro := roV_ok (X := S 0 29) (Rm := Rm) (by rw [h5, h7]; exact hl) (by rw [h5]; exact ho)
      rw [h5, h7] at hro
      have hps : ∀ k : Nat, plc (S 0 29) (R 0) (R 6) (k + 1) = plc (S 0 29) (R 0) ((prs (S 0 29) (R 0) (R 6 + 1) (S 0 29 (R 6))).1 + 1) k := plc_s (S 0 29) (R 0) (R 6)
      have hp0 : plc (S 0 29) (R 0) (R 6) 0 = R 6 := rfl
      unfold OrA at h
      unfold ckB at r1 r3
      obtain ⟨N, hN⟩ : ∃ N, N = prs (S 0 29) (R 0) (R 6 + 1) (S 0 29 (R 6)) := ⟨_, rfl⟩
      rw [← hN] at r1 r3 hb hlt hro
      have hTN : TxC (S 0 29) (up R 6 N.1) := TxC_p hT (by omega)
      have e6 : up R 6 N.1 6 = N.1 := up_eq rfl
      have e0 : up R 6 N.1 0 = R 0 := up_ne (by decide)
      have e1 : up R 6 N.1 1 = z := by rw [up_ne (by decide)]; exact hm
      by_cases hck : N.2.1 = -5 ∨ N.2.2 = -5 ∨ nxP (S 0 29) (R 0) N.1 48 57
      · rw [if_pos hck] at r1
        have hval : (raL (S 0 29) (n + 1) Rm z).1 = -100 - N.1 := by
          unfold raL
          rw [hro.1, hro.2, h7]
          by_cases c1 : N.2.1 = -5 ∨ N.2.2 = -5
          · rw [if_pos c1, if_neg (by decide)]
          · have c3 : nxP (S 0 29) (R 0) N.1 48 57 := (hck.resolve_left (fun q => c1 (Or.inl q))).resolve_left (fun q => c1 (Or.inr q))
            rw [if_neg c1, if_pos rfl, if_neg (fun q : nxP (S 0 29) (R 0) N.1 59 59 => by have := q.2; have := c3.2; omega)]
            dsimp only
            rw [if_pos c3.1]
        refine rd_fail ⟨hz.1, hz20⟩ r1 ?_
        have hh := h (up R 6 N.1) (up A z (S 0 29 (R 6))) B' C' e0 (fun q => by omega) (fun j hj => ⟨up_ne (by omega), r2 j (by omega)⟩)
        rw [hval, if_pos (by omega)] at hh
        rw [e6]
        have e : -100 - (-100 - N.1) = N.1 := by omega
        rw [e] at hh
        exact hh
      · rw [if_neg hck] at r1
        have g1 : ¬ (N.2.1 = -5 ∨ N.2.2 = -5) := fun q => hck (q.elim Or.inl (fun q => Or.inr (Or.inl q)))
        have g2 : ¬ nxP (S 0 29) (R 0) N.1 48 57 := fun q => hck (Or.inr (Or.inr q))
        have g3 := r3 hck
        have hlt2 := hlt (fun q => g1 (Or.inl q))
        rw [if_neg g1] at hro
        by_cases hp : N.1 < R 0
        · have hx := hT.2.2 N.1 (by omega) (by omega)
          by_cases h59 : S 0 29 N.1 = 59
          · refine rd_more ⟨hz.1, hz20⟩ hTN r1 (by rw [e6, e0]; exact hp) (by rw [e6]; exact h59) ?_
            rw [e6, e1]
            have hval : raL (S 0 29) (n + 1) Rm z = raL (S 0 29) n (up (roR (S 0 29) Rm) 5 (N.1 + 1)) (z + 1) := by
              show (if roV (S 0 29) Rm = 1 then _ else _) = _
              rw [hro.1, hro.2, h7, if_pos rfl, if_pos (show nxP (S 0 29) (R 0) N.1 59 59 from ⟨hp, by omega, by omega⟩)]
            rw [hval] at h
            have f6 : up (up (up R 6 N.1) 1 (z + 1)) 6 (N.1 + 1) 6 = N.1 + 1 := up_eq rfl
            have f0 : up (up (up R 6 N.1) 1 (z + 1)) 6 (N.1 + 1) 0 = R 0 := by rw [up_ne (by decide), up_ne (by decide), e0]
            have f1 : up (up (up R 6 N.1) 1 (z + 1)) 6 (N.1 + 1) 1 = z + 1 := by rw [up_ne (by decide), up_eq rfl]
            refine rd_loop n S _ _ _ _ (up (roR (S 0 29) Rm) 5 (N.1 + 1)) (z + 1) ?_ (by rw [f6]; omega) (by rw [f6]; omega) f1 (by rw [f6, up_eq rfl]) (by rw [f0, up_ne (by decide), roR_ne (by decide), h7]) ?_
            · exact ⟨by rw [f6, f0]; omega, by rw [f0]; exact h2, hT.2.2⟩
            · rw [f0, f6]
              intro R' A' B2 C2 q0 q1 q2
              unfold OrA at q1
              refine h R' A' B2 C2 q0 (fun q => ⟨(q1 q).1, fun k hk => ?_⟩) (fun j hj => ?_)
              · cases k with
                | zero =>
                  rw [hp0, ← hN]
                  have w := q2 (z + ((0 : Nat) : Int)) (by omega)
                  have w0 : z + ((0 : Nat) : Int) = z := by omega
                  rw [w0] at w ⊢
                  rw [w.1, w.2.1, w.2.2]
                  exact ⟨up_eq rfl, g3.1, g3.2⟩
                | succ k =>
                  have w := (q1 q).2 k (by omega)
                  rw [hps, ← hN]
                  have w0 : z + ((k + 1 : Nat) : Int) = z + 1 + (k : Int) := by omega
                  rw [w0]
                  exact w
              · have w := q2 j (by omega)
                rw [w.1, w.2.1, w.2.2, up_ne (by omega)]
                exact ⟨rfl, r2 j (by omega)⟩
          · refine rd_bad ⟨hz.1, hz20⟩ hTN r1 (by rw [e6, e0]; exact hp) (by rw [e6]; exact h59) ?_
            have hval : (raL (S 0 29) (n + 1) Rm z).1 = -100 - N.1 := by
              unfold raL
              rw [hro.1, hro.2, h7, if_pos rfl, if_neg (fun q : nxP (S 0 29) (R 0) N.1 59 59 => by have := q.2; omega)]
              dsimp only
              rw [if_pos hp]
            have hh := h (up (up R 6 N.1) 1 (up R 6 N.1 1 + 1)) (up A z (S 0 29 (R 6))) B' C' (by rw [up_ne (by decide), e0]) (fun q => by omega) (fun j hj => ⟨up_ne (by omega), r2 j (by omega)⟩)
            rw [hval, if_pos (by omega)] at hh
            rw [e6]
            have e : -100 - (-100 - N.1) = N.1 := by omega
            rw [e] at hh
            exact hh
        · refine rd_done ⟨hz.1, hz20⟩ hTN r1 (by rw [e6, e0]; exact hp) ?_
          have hval : (raL (S 0 29) (n + 1) Rm z).1 = z + 1 := by
            unfold raL
            rw [hro.1, hro.2, h7, if_pos rfl, if_neg (fun q : nxP (S 0 29) (R 0) N.1 59 59 => hp q.1)]
            dsimp only
            rw [if_neg hp]
          rw [hval] at h
          have hh := h (up (up R 6 N.1) 1 (up R 6 N.1 1 + 1)) (up A z (S 0 29 (R 6))) B' C' (by rw [up_ne (by decide), e0]) (fun _ => ⟨by rw [up_eq rfl, e1], fun k hk => by
            obtain rfl : k = 0 := by omega
            rw [hp0, ← hN]
            have w0 : z + ((0 : Nat) : Int) = z := by omega
            rw [w0]
            exact ⟨up_eq rfl, g3.1, g3.2⟩⟩) (fun j hj => ⟨up_ne (by omega), r2 j (by omega)⟩)
          rw [if_neg (by omega)] at hh
          exact hh
    · have hro := roV_no (X := S 0 29) (Rm := Rm) (by rw [h5, h7]; exact hok)
      rw [h5] at hro
      have hval : (raL (S 0 29) (n + 1) Rm z).1 = -100 - R 6 := by
        unfold raL
        rw [hro.1, hro.2, if_neg (by decide)]
      have hh := h R A B C rfl (fun q => by omega) (fun j hj => ⟨rfl, rfl, rfl⟩)
      rw [hval, if_pos (by omega)] at hh
      have e : -100 - (-100 - R 6) = R 6 := by omega
      rw [e] at hh
      by_cases hz20 : z = 20
      · exact rd_exit hz20 hh
      · exact rd_fail ⟨hz.1, by omega⟩ (fun Q => c_no hT ⟨hz.1, by omega⟩ hok Q) hh
/- the class's reading: what it tells, and the orders -/
def RdA (X : Int → Int) (len m : Int) (A B C : Int → Int) : Prop := ∀ k : Nat, (k : Int) < m → OrA X len (plc X len 0 k) A B C k
set_option maxHeartbeats 4000000 in
set_option maxRecDepth 100000 in
theorem c_read {S : Hp} {Rm : Int → Int} {Q : Option MV → Hp → Prop} (hl : 0 ≤ S 0 25 0 ∧ S 0 25 0 ≤ 60) (hx : ∀ i : Int, 0 ≤ i → i < 60 → 0 ≤ S 0 29 i ∧ S 0 29 i < 65536) (h7 : Rm 7 = S 0 25 0) (h : ∀ R' A' B' C' : Int → Int, R' 0 = S 0 25 0 → (0 ≤ (raM (S 0 29) Rm).1 → R' 1 = (raM (S 0 29) Rm).1 ∧ RdA (S 0 29) (S 0 25 0) (raM (S 0 29) Rm).1 A' B' C') → Q (some (.inl (if (raM (S 0 29) Rm).1 < 0 then -100 - (raM (S 0 29) Rm).1 else -5))) (hq S R' A' B' C')) : Wc 45 [.inr (0, 25)] S Q := by
  have g : Wc 45 [.inr (0, 25)] (hq S (S 0 25) (S 0 26) (S 0 27) (S 0 28)) Q := by
    unfold Wc
    have er : raM (S 0 29) Rm = raL (S 0 29) 61 (up Rm 5 0) 0 := rfl
    rw [er] at h
    have e6 : up (up (S 0 25) 6 0) 1 0 6 = 0 := by rw [up_ne (by decide), up_eq rfl]
    have e0 : up (up (S 0 25) 6 0) 1 0 0 = S 0 25 0 := by rw [up_ne (by decide), up_ne (by decide)]
    have go := rd_loop (Q := Q) 61 S (up (up (S 0 25) 6 0) 1 0) (S 0 26) (S 0 27) (S 0 28) (up Rm 5 0) 0 ⟨by rw [e6, e0]; omega, by rw [e0]; exact hl.2, hx⟩ (by rw [e6]; omega) (by rw [e6]; omega) (up_eq rfl) (by rw [e6, up_eq rfl]) (by rw [e0, up_ne (by decide)]; exact h7) (by
      rw [e6, e0]
      intro R' A' B' C' q0 q1 q2
      refine h R' A' B' C' q0 (fun q => ⟨(q1 q).1, fun k hk => ?_⟩)
      have w := (q1 q).2 k (by omega)
      have w0 : 0 + (k : Int) = k := by omega
      rw [w0] at w
      exact w)
    refine vg_sound (fun m pc => (m == 45 && pc == 12)) (fun m => m == 45) 20 _ _ _ _ _ _ ?_
    repeat' first | (with_reducible refine vT ?_ ?_; · omega) | (with_reducible refine vF ?_ ?_; · omega) | (with_reducible refine vI (fun _ => ?_) (fun _ => ?_)) | (simp (config := {maxSteps := 1000000}) only [f_X4_read, wg_0, wg_s, wK_none, wK_N, wK_C, wK_R, wQ_some, wQ_none, stR, mZ, mC, stI, ini, mL, gI, gA, sI, sA, bi, gF, pF, kF, kT, kL, c2, mT, mR, f4, tsw, lsw, tgt, inR, Nat.reduceLT, Nat.reduceLeDiff, Nat.reduceEqDiff, Nat.reduceAdd, Nat.reduceSub, ↓reduceIte, Bool.false_eq_true, List.map_cons, List.map_nil, List.length_cons, List.length_nil, List.replicate, List.cons_append, List.nil_append, List.getElem?_cons_zero, List.getElem?_cons_succ, List.set, List.take_succ_cons, List.take_zero, List.drop_succ_cons, List.drop_zero, List.reverse_cons, List.reverse_nil, Int.reduceLE, Int.reduceLT, Int.reduceNeg, Int.reduceToNat, true_and, and_true, and_self, beq_iff_eq, Bool.and_eq_true, Bool.or_eq_true, or_false, false_or, or_true, true_or, and_false, false_and, hu_q25, hu_q26, hu_q27, hu_q28, q_25, q_26, q_27, q_28, q_nc, not_false_eq_true, Int.reduceEq, Int.pow_zero, Int.reducePow, Int.reduceMul, Int.reduceAdd, Int.reduceDiv, Int.reduceMod, Int.zero_add, Int.add_zero, Int.mul_one, Int.cast_ofNat_Int])
    exact go
  rw [hq_id] at g
  exact g
