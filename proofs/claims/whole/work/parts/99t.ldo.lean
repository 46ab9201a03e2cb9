/-! THE LAW: doAll, one order, the orders -/
set_option maxHeartbeats 4000000 in
set_option maxRecDepth 100000 in
theorem roV_okO {X R : Int → Int} (hv : roV X R = 1) : okO (ordO X R) := by
  unfold roV at hv
  by_cases q : okO (ordO X R)
  · exact q
  · rw [if_neg q] at hv; omega
set_option maxHeartbeats 4000000 in
set_option maxRecDepth 100000 in
theorem roR_9 {X R : Int → Int} (h : okO (ordO X R)) : roR X R 9 = ordO X R ∧ roR X R 10 = (prs X (R 7) (R 5 + 1) (ordO X R)).2.1 ∧ roR X R 11 = (prs X (R 7) (R 5 + 1) (ordO X R)).2.2 := by
  unfold roR
  rw [if_pos h]
  refine ⟨?_, ?_, ?_⟩
  · rw [up_ne (by decide), up_ne (by decide), up_ne (by decide), up_eq rfl]
  · rw [up_eq rfl]
  · rw [up_ne (by decide), up_eq rfl]
set_option maxHeartbeats 4000000 in
set_option maxRecDepth 100000 in
theorem ORDER {O : Of} {M R X A B C : Int → Int} {len z : Int} (hO : Ok1 O M) (hv : roV X R = 1) (h7 : R 7 = len) (hA : OrA X len (R 5) A B C z) : okO (A z) ∧ tdR (C z) ∧ (A z = 99 → tdR (B z)) ∧ odV O (A z) (B z) (C z) = ordV M (roR X R) ∧ Ok1 (odO O (A z) (B z) (C z)) (ordM M (roR X R)) ∧ tdR (ordV M (roR X R)) := by
  have ho := roV_okO hv
  have hl := ordO_lt ho
  have e : ordO X R = X (R 5) := if_pos hl
  obtain ⟨e9, e10, e11⟩ := roR_9 ho
  rw [e] at ho e9 e10 e11
  have hb := (prs_b (X := X) (len := R 7) (p := R 5 + 1) (o := X (R 5)) (by omega)).2
  subst h7
  obtain ⟨a1, a2, a3⟩ := hA
  rw [← e10, ← e11] at hb a2
  rw [← e10] at a3
  have t10 : tdR (roR X R 10) := by unfold tdR; omega
  have t11 : tdR (roR X R 11) := by unfold tdR; omega
  obtain ⟨hT, hS, h9⟩ := hO
  rcases ho with h | h | h | h
  · have c := a3 (by omega)
    obtain ⟨e1, e2, e3, e4, e5⟩ := SELL (t := roR X R 10) hT
    have v1 : odV O (A z) (B z) (C z) = seV O (roR X R 10) := by unfold odV; rw [a1, h, c, if_pos rfl]
    have v2 : odO O (A z) (B z) (C z) = seO O (roR X R 10) := by unfold odO; rw [a1, h, c, if_pos rfl]
    have v3 : ordV M (roR X R) = slR M (roR X R 10) := by unfold ordV; rw [e9, h, if_pos rfl]
    have v4 : ordM M (roR X R) = slM M (roR X R 10) := by unfold ordM; rw [e9, h, if_pos rfl]
    rw [v1, v2, v3, v4, a1, h, c]
    exact ⟨Or.inl rfl, t10, fun q => absurd q (by decide), e1, ⟨e2, SP_sell hS, by rw [e3]; exact h9⟩, e4⟩
  · obtain ⟨b, c⟩ := a2 h
    obtain ⟨e1, e2, e3, e4, e5⟩ := COME (w := roR X R 10) (t := roR X R 11) hT
    have v1 : odV O (A z) (B z) (C z) = acV O (roR X R 10) (roR X R 11) := by unfold odV; rw [a1, h, b, c, if_neg (by decide), if_pos rfl]
    have v2 : odO O (A z) (B z) (C z) = acO O (roR X R 10) (roR X R 11) := by unfold odO; rw [a1, h, b, c, if_neg (by decide), if_pos rfl]
    have v3 : ordV M (roR X R) = cmR M (roR X R 10) (roR X R 11) := by unfold ordV; rw [e9, h, if_neg (by decide), if_neg (by decide), if_neg (by decide)]
    have v4 : ordM M (roR X R) = cmM M (roR X R 10) (roR X R 11) := by unfold ordM; rw [e9, h, if_neg (by decide), if_neg (by decide), if_neg (by decide)]
    rw [v1, v2, v3, v4, a1, h, b, c]
    exact ⟨Or.inr (Or.inl rfl), t11, fun _ => t10, e1, ⟨e2, SP_come hT.1 hS, by rw [e3]; exact h9⟩, e4⟩
  · have c := a3 (by omega)
    obtain ⟨e1, e2, e3, e4, e5⟩ := DRAW (d := roR X R 10) hT
    have v1 : odV O (A z) (B z) (C z) = dbV O (roR X R 10) := by unfold odV; rw [a1, h, c, if_neg (by decide), if_neg (by decide), if_pos rfl]
    have v2 : odO O (A z) (B z) (C z) = dbO O (roR X R 10) := by unfold odO; rw [a1, h, c, if_neg (by decide), if_neg (by decide), if_pos rfl]
    have v3 : ordV M (roR X R) = dwR M (roR X R 10) := by unfold ordV; rw [e9, h, if_neg (by decide), if_pos rfl]
    have v4 : ordM M (roR X R) = dwM M (roR X R 10) := by unfold ordM; rw [e9, h, if_neg (by decide), if_pos rfl]
    rw [v1, v2, v3, v4, a1, h, c]
    exact ⟨Or.inr (Or.inr (Or.inl rfl)), t10, fun q => absurd q (by decide), e1, ⟨e2, SP_draw hS, by rw [e3]; exact h9⟩, e4⟩
  · have c := a3 (by omega)
    obtain ⟨e1, e2, e3, e4, e5⟩ := PASS (t := roR X R 10) hT h9
    have v1 : odV O (A z) (B z) (C z) = paW O (roR X R 10) := by unfold odV; rw [a1, h, c, if_neg (by decide), if_neg (by decide), if_neg (by decide)]
    have v2 : odO O (A z) (B z) (C z) = paO O (roR X R 10) := by unfold odO; rw [a1, h, c, if_neg (by decide), if_neg (by decide), if_neg (by decide)]
    have v3 : ordV M (roR X R) = paR M (roR X R 10) := by unfold ordV; rw [e9, h, if_neg (by decide), if_neg (by decide), if_pos rfl]
    have v4 : ordM M (roR X R) = paM M (roR X R 10) := by unfold ordM; rw [e9, h, if_neg (by decide), if_neg (by decide), if_pos rfl]
    rw [v1, v2, v3, v4, a1, h, c]
    exact ⟨Or.inr (Or.inr (Or.inr rfl)), t10, fun q => absurd q (by decide), e1, ⟨e2, SP_pass hT h9 hS, e3⟩, e4⟩
set_option maxHeartbeats 4000000 in
set_option maxRecDepth 100000 in
theorem OdP_of {O : Of} {M : Int → Int} (h : Ok1 O M) : OdP O ∧ OpP M := by
  obtain ⟨hT, hS, h9⟩ := h
  have hl := hT.1.2.2.2.2.2.2.1.2.1
  have hl1 := hT.1.2.2.2.2.2.2.1.1
  refine ⟨⟨hT.1.1.2.1, RD_Wg hT.1.2.1, by rw [hl.1]; exact hl.2, RR_h0 hT.1, fun u u1 u2 => ?_, by rw [hl1.1]; exact ⟨hl1.2.1, h9⟩, fun t t1 t2 j hj => ?_⟩, hT.1.1.1, hT.1.2.1.1, hl.2, fun u u1 u2 => (hT.1.2.2.2.1 u u1 u2).1.1, ⟨hl1.2.1, h9⟩, fun t t1 t2 k hk => TICK_k (TICKS hT k (by omega)).1⟩
  · have b := (hT.1.2.2.2.1 u u1 u2).1
    rw [b.2]
    exact b.1
  · rw [hl1.1] at t2
    exact TICK_c (TICKS hT j (by omega)).1
set_option maxHeartbeats 4000000 in
set_option maxRecDepth 100000 in
theorem roV_eq {X R R1 : Int → Int} (h5 : R1 5 = R 5) (h7 : R1 7 = R 7) : roV X R1 = roV X R ∧ roR X R1 5 = roR X R 5 ∧ roR X R1 7 = roR X R 7 := by
  have eo : ordO X R1 = ordO X R := by unfold ordO; rw [h5, h7]
  refine ⟨by unfold roV; rw [eo, h5, h7], ?_, by rw [roR_ne (by decide), roR_ne (by decide), h7]⟩
  by_cases c : okO (ordO X R)
  · rw [roR_5 (by rw [eo]; exact c), roR_5 c, eo, h5, h7]
  · rw [roR_5n (by rw [eo]; exact c), roR_5n c, h5]
set_option maxHeartbeats 4000000 in
set_option maxRecDepth 100000 in
theorem roR_l2 {X R : Int → Int} (hv : roV X R = 1) : R 5 + 2 ≤ roR X R 5 := by
  have ho := roV_okO hv
  have hl := ordO_lt ho
  have e : ordO X R = X (R 5) := if_pos hl
  rw [e] at ho
  obtain ⟨q1, q2⟩ := roV_ok hl ho
  have h2 := prs_lt (X := X) (len := R 7) (p := R 5 + 1) (o := X (R 5)) (by omega)
  rw [hv] at q1
  have h3 : ¬ ((prs X (R 7) (R 5 + 1) (X (R 5))).2.1 = -5 ∨ (prs X (R 7) (R 5 + 1) (X (R 5))).2.2 = -5) := fun q => by
    rw [if_pos q] at q1
    omega
  have h4 := h2 (fun q => h3 (Or.inl q))
  rw [q2]
  omega
/- orders that can be read one behind another -/
def GdP (X : Int → Int) : Nat → (Int → Int) → Prop
  | 0, _ => True
  | n + 1, R => TxP X R ∧ roV X R = 1 ∧ GdP X n (up (roR X R) 5 (roR X R 5 + 1))
set_option maxHeartbeats 4000000 in
set_option maxRecDepth 100000 in
theorem TxP_e {X R R1 : Int → Int} (hT : TxP X R) (h5 : R1 5 = R 5) (h7 : R1 7 = R 7) : TxP X R1 := by
  unfold TxP
  rw [h5, h7]
  exact hT
set_option maxHeartbeats 4000000 in
set_option maxRecDepth 100000 in
theorem raL_gd {X : Int → Int} : ∀ (n : Nat) (R R1 : Int → Int) (m : Int), TxP X R → R1 5 = R 5 → R1 7 = R 7 → 61 ≤ R 5 + n → (0 ≤ m ∧ 3 * m ≤ R 5) → 0 ≤ (raL X n R m).1 → m < (raL X n R m).1 ∧ (raL X n R m).1 ≤ 20 ∧ ∀ k : Nat, (k : Int) = (raL X n R m).1 - m → GdP X k R1
  | 0, R, R1, m, hT, h5, h7, hn, hm, h => by
    have := hT.1
    have := hT.2.1
    omega
  | n + 1, R, R1, m, hT, h5, h7, hn, hm, h => by
    have hT1 := roR_T hT
    have h1 := hT.1
    have h2 := hT.2.1
    have hb := roR_b hT
    have e7 : roR X R 7 = R 7 := roR_ne (by decide)
    obtain ⟨q1, q2, q3⟩ := roV_eq (X := X) h5 h7
    unfold raL at h ⊢
    by_cases hv : roV X R = 1
    · have l2 := roR_l2 hv
      rw [if_pos hv] at h ⊢
      by_cases hx : nxP X (R 7) (roR X R 5) 59 59
      · have hx1 := hx.1
        rw [if_pos hx] at h ⊢
        have ih := raL_gd n (up (roR X R) 5 (roR X R 5 + 1)) (up (roR X R1) 5 (roR X R1 5 + 1)) (m + 1) (TxP_p hT1 (by rw [e7]; omega)) (by rw [up_eq rfl, up_eq rfl, q2]) (by rw [up_ne (by decide), up_ne (by decide), q3]) (by rw [up_eq rfl]; omega) (by rw [up_eq rfl]; omega) h
        refine ⟨by omega, ih.2.1, fun k hk => ?_⟩
        cases k with
        | zero => exact absurd hk (by omega)
        | succ k => exact ⟨TxP_e hT h5 h7, by rw [q1]; exact hv, ih.2.2 k (by omega)⟩
      · rw [if_neg hx] at h ⊢
        dsimp only at h ⊢
        have hp : ¬ roR X R 5 < R 7 := fun q => by
          rw [if_pos q] at h
          omega
        rw [if_neg hp]
        refine ⟨by omega, by omega, fun k hk => ?_⟩
        obtain rfl : k = 1 := by omega
        exact ⟨TxP_e hT h5 h7, by rw [q1]; exact hv, trivial⟩
    · rw [if_neg hv] at h
      dsimp only at h
      omega
set_option maxHeartbeats 4000000 in
set_option maxRecDepth 100000 in
theorem daL_row {X : Int → Int} : ∀ (n : Nat) (R M : Int → Int) (t : Int), daP X n R M t → (∀ i : Int, ¬ i = 5 ∧ ¬ i = 9 ∧ ¬ i = 10 ∧ ¬ i = 11 → (daL X n R M t).1 i = R i) ∧ (tdR (R 10) → tdR ((daL X n R M t).1 10)) ∧ (tdR (R 11) → tdR ((daL X n R M t).1 11))
  | 0, R, M, t, h => ⟨fun _ _ => rfl, fun q => q, fun q => q⟩
  | n + 1, R, M, t, h => by
    unfold daP at h
    unfold daL
    by_cases hc : 0 ≤ t ∨ t = -5
    · rw [if_pos hc]
      have h2 := h.2 hc
      have ih := daL_row n _ _ _ h2.2.2
      have tx := roR_tx h2.1
      exact ⟨fun i hi => by rw [ih.1 i hi, up_ne hi.1, roR_ne hi], fun q => ih.2.1 (by rw [up_ne (by decide)]; exact tx.2.1 q), fun q => ih.2.2 (by rw [up_ne (by decide)]; exact tx.2.2 q)⟩
    · rw [if_neg hc]
      exact ⟨fun _ _ => rfl, fun q => q, fun q => q⟩
set_option maxHeartbeats 4000000 in
set_option maxRecDepth 100000 in
theorem daL_bad {X R M : Int → Int} {t : Int} (h : ¬ (0 ≤ t ∨ t = -5)) : ∀ n : Nat, daL X n R M t = (R, M, t)
  | 0 => rfl
  | n + 1 => by
    unfold daL
    rw [if_neg h]
set_option maxHeartbeats 4000000 in
set_option maxRecDepth 100000 in
theorem daP_bad {X R M : Int → Int} {t : Int} (h : ¬ (0 ≤ t ∨ t = -5)) (ht : tdR t) : ∀ n : Nat, daP X n R M t
  | 0 => ht
  | n + 1 => ⟨ht, fun q => absurd q h⟩
set_option maxHeartbeats 4000000 in
set_option maxRecDepth 100000 in
theorem dl_loop {S : Hp} {b : Nat} {p m : Int} {X : Int → Int} {len : Int} (hm : 0 ≤ m ∧ m ≤ 20) : ∀ (n : Nat) (O : Of) (M R : Int → Int) (t z : Int), z + n = m → 0 ≤ z → tdR t → (0 ≤ t ∨ t = -5) → Ok1 O M → GdP X n R → R 7 = len → (∀ k : Nat, k < n → OrA X len (plc X len (R 5) k) (S 0 26) (S 0 27) (S 0 28) (z + k)) → daP X n R M t ∧ ∃ O' : Of, Ok1 O' (daL X n R M t).2.1 ∧ tdR (daL X n R M t).2.2 ∧ ∀ (Q : Option MV → Hp → Prop) (y1 y2 : Option MV), ((0 ≤ (daL X n R M t).2.2 ∨ (daL X n R M t).2.2 = -5) → ∀ u1 u2 : Option MV, Wp 87 35 [some (.inr (0, 23)), some (.inl p), some (.inr (b, 0)), some (.inl m), some (.inl m), u1, u2] [] (ho S b O') Q) → (¬ (0 ≤ (daL X n R M t).2.2 ∨ (daL X n R M t).2.2 = -5) → Q (some (.inl (daL X n R M t).2.2)) (hr (ho S b O') 0 23 (up (up (S 0 23) 0 ((S 0 23 1).toNat : Int)) 1 (b : Int)))) → Wp 87 35 [some (.inr (0, 23)), some (.inl p), some (.inr (b, 0)), some (.inl m), some (.inl z), y1, y2] [] (ho S b O) Q
  | 0, O, M, R, t, z, hz, hz0, ht, hg, hO, hG, h7, hA => by
    obtain rfl : z = m := by omega
    exact ⟨ht, O, hO, ht, fun Q y1 y2 h1 _ => h1 hg y1 y2⟩
  | n + 1, O, M, R, t, z, hz, hz0, ht, hg, hO, hG, h7, hA => by
    obtain ⟨hT, hv, hG1⟩ := hG
    have a0 := hA 0 (by omega)
    have w0 : z + ((0 : Nat) : Int) = z := by omega
    rw [w0] at a0
    obtain ⟨k1, k2, k3, k4, k5, k6⟩ := ORDER (A := S 0 26) (B := S 0 27) (C := S 0 28) (z := z) hO hv h7 a0
    obtain ⟨pO, pM⟩ := OdP_of hO
    have ho := roV_okO hv
    have e : ordO X R = X (R 5) := if_pos (ordO_lt ho)
    have e5 : up (roR X R) 5 (roR X R 5 + 1) 5 = (prs X len (R 5 + 1) (X (R 5))).1 + 1 := by rw [up_eq rfl, roR_5 ho, e, h7]
    have e7 : up (roR X R) 5 (roR X R 5 + 1) 7 = len := by rw [up_ne (by decide), roR_ne (by decide), h7]
    unfold daP daL
    rw [if_pos hg]
    by_cases c : 0 ≤ ordV M (roR X R) ∨ ordV M (roR X R) = -5
    · obtain ⟨d1, O', d2, d3, d4⟩ := dl_loop hm n (odO O (S 0 26 z) (S 0 27 z) (S 0 28 z)) (ordM M (roR X R)) (up (roR X R) 5 (roR X R 5 + 1)) (ordV M (roR X R)) (z + 1) (by omega) (by omega) k6 c k5 hG1 e7 (fun k hk => by
        have q := hA (k + 1) (by omega)
        rw [plc_s] at q
        rw [e5]
        have w1 : z + ((k + 1 : Nat) : Int) = z + 1 + (k : Int) := by omega
        rw [w1] at q
        exact q)
      refine ⟨⟨ht, fun _ => ⟨hT, pM, d1⟩⟩, O', d2, d3, fun Q y1 y2 h1 h2 => ?_⟩
      exact dc_step pO hm ⟨hz0, by omega⟩ k1 k2 k3 (by rw [k4]; exact k6) (fun _ u1 u2 => d4 Q u1 u2 h1 h2) (fun q => absurd c (by rw [k4] at q; exact q))
    · have b1 := daL_bad (X := X) (R := up (roR X R) 5 (roR X R 5 + 1)) (M := ordM M (roR X R)) c n
      refine ⟨⟨ht, fun _ => ⟨hT, pM, daP_bad c k6 n⟩⟩, odO O (S 0 26 z) (S 0 27 z) (S 0 28 z), by rw [b1]; exact k5, by rw [b1]; exact k6, fun Q y1 y2 h1 h2 => ?_⟩
      rw [b1] at h2
      refine dc_step pO hm ⟨hz0, by omega⟩ k1 k2 k3 (by rw [k4]; exact k6) (fun q => absurd (by rw [k4] at q; exact q) c) (fun _ => ?_)
      rw [k4]
      exact h2 c
