/-! THE LAW: states, texts, settings, who goes -/
set_option maxHeartbeats 4000000 in
set_option maxRecDepth 100000 in
theorem Wc_get {m : Nat} {as : List MV} {S : Hp} {Q : Option MV → Hp → Prop} (h : Wc m as S Q) : ∃ r T, Q r T ∧ Wc m as S (fun r' T' => r' = r ∧ T' = T) := by
  obtain ⟨n, r, T, h1, h2⟩ := h
  exact ⟨r, T, h2, n, r, T, h1, rfl, rfl⟩
set_option maxHeartbeats 4000000 in
set_option maxRecDepth 100000 in
theorem LR_cg2 {S T : Hp} (h : LRel S) (hc : ∀ k c : Nat, (c < 25 ∨ c = 31 ∨ c = 32 ∨ c = 34) → T k c = S k c) (h6' : T 0 30 6 = S 0 30 6) (h8 : T 0 30 8 = S 0 30 8) (hX : TxL T) : LRel T := by
  obtain ⟨⟨hs, h6⟩, hD, hN, hH, hP, -⟩ := h
  have tnw : nw T = nw S := by unfold nw; rw [hc 0 23 (by decide)]
  unfold LRel
  rw [tnw, hc 0 23 (by decide), hc 0 24 (by decide), hc 0 31 (by decide), hc 0 32 (by decide), hc 0 34 (by decide), h6', h8]
  exact ⟨⟨hs, h6⟩, hD, Ok1_sc (fun c q => hc _ c (by omega)) (fun _ _ _ => rfl) hN, fun k k1 k2 => Ok1_sc (fun c q => hc _ c (by omega)) (fun _ _ _ => rfl) (hH k k1 k2), ⟨hP.1, hP.2.1, fun q => Ok1_sc (fun c q => hc _ c (by omega)) (fun _ _ _ => rfl) (hP.2.2 q)⟩, hX⟩
set_option maxHeartbeats 4000000 in
set_option maxRecDepth 100000 in
theorem LR_cg {S T : Hp} (h : LRel S) (hc : ∀ k c : Nat, (c < 25 ∨ c = 29 ∨ c = 31 ∨ c = 32 ∨ c = 34 ∨ c = 35) → T k c = S k c) (h25 : T 0 25 0 = S 0 25 0) (h30 : ∀ j : Int, (j = 6 ∨ j = 7 ∨ j = 8) → T 0 30 j = S 0 30 j) (t10 : tdR (T 0 30 10)) (t11 : tdR (T 0 30 11)) : LRel T := by
  have hX := h.2.2.2.2.2
  refine LR_cg2 h (fun k c q => hc k c (by omega)) (h30 6 (by omega)) (h30 8 (by omega)) ?_
  unfold TxL at hX ⊢
  rw [hc 0 29 (by decide), hc 0 35 (by decide), h25, h30 7 (by omega)]
  exact ⟨hX.1, hX.2.1, hX.2.2.1, hX.2.2.2.1, t10, t11⟩
set_option maxHeartbeats 4000000 in
set_option maxRecDepth 100000 in
theorem raL_td {X : Int → Int} : ∀ (n : Nat) (R : Int → Int) (m : Int), TxP X R → tdR (R 10) → tdR (R 11) → tdR ((raL X n R m).2 10) ∧ tdR ((raL X n R m).2 11)
  | 0, R, m, _, h10, h11 => ⟨h10, h11⟩
  | n + 1, R, m, hT, h10, h11 => by
    have hT1 := roR_T hT
    have tx := roR_tx hT
    have hb := roR_b hT
    have e7 : roR X R 7 = R 7 := roR_ne (by decide)
    unfold raL
    by_cases hv : roV X R = 1
    · rw [if_pos hv]
      by_cases hx : nxP X (R 7) (roR X R 5) 59 59
      · rw [if_pos hx]
        have hx1 := hx.1
        have h1 := hT.1
        exact raL_td n _ _ (TxP_p hT1 (by rw [e7]; omega)) (by rw [up_ne (by decide)]; exact tx.2.1 h10) (by rw [up_ne (by decide)]; exact tx.2.2 h11)
      · rw [if_neg hx]
        exact ⟨tx.2.1 h10, tx.2.2 h11⟩
    · rw [if_neg hv]
      exact ⟨tx.2.1 h10, tx.2.2 h11⟩
set_option maxHeartbeats 4000000 in
set_option maxRecDepth 100000 in
theorem raM_td {X R : Int → Int} (hT : TxQ X R) (h10 : tdR (R 10)) (h11 : tdR (R 11)) : tdR ((raM X R).2 10) ∧ tdR ((raM X R).2 11) := raL_td 61 (up R 5 0) 0 (TxP_0 hT) (by rw [up_ne (by decide)]; exact h10) (by rw [up_ne (by decide)]; exact h11)
set_option maxHeartbeats 4000000 in
set_option maxRecDepth 100000 in
theorem LO_fault {S : Hp} (h : LRel S) : Two S 86 [.inr (0, 23)] 169 [.inr (0, 30)] := by
  obtain ⟨x1, x2, x3, x4, x5, x6⟩ := h.2.2.2.2.2
  have hTQ : TxQ (S 0 35) (S 0 30) := ⟨x3, x4⟩
  have hb := raM_b hTQ
  obtain ⟨r, T, ⟨hr, R', A', B', C', hR0, hT⟩, hW⟩ := Wc_get (c_read (S := S) (Rm := S 0 30) (Q := fun r T => r = some (.inl (if (raM (S 0 35) (S 0 30)).1 < 0 then -100 - (raM (S 0 35) (S 0 30)).1 else -5)) ∧ ∃ R' A' B' C', R' 0 = S 0 25 0 ∧ T = hq S R' A' B' C') (by rw [x2]; exact x3) (by rw [x1]; exact x4) x2.symm (fun R' A' B' C' q0 q1 => by
    rw [x1]
    exact ⟨rfl, R', A', B', C', q0, rfl⟩))
  subst hr hT
  have q30 : hq S R' A' B' C' 0 30 = S 0 30 := q_nc (by decide)
  have q35 : hq S R' A' B' C' 0 35 = S 0 35 := q_nc (by decide)
  refine ⟨hq S R' A' B' C', hr (hq S R' A' B' C') 0 30 (raM (S 0 35) (S 0 30)).2, if (raM (S 0 35) (S 0 30)).1 < 0 then -100 - (raM (S 0 35) (S 0 30)).1 else -5, fun Q => ?_, q_nc (by decide), q_nc (by decide), fun Q => ?_, by rw [hr_nc (by decide), q_nc (by decide)], by rw [hr_nc (by decide), q_nc (by decide)], ?_⟩
  · exact Wc_eq (c_fault hW ⟨rfl, rfl⟩) Q
  · have q := m_fault (S := hq S R' A' B' C') (by rw [q30, q35]; exact hTQ) Q
    rw [q30, q35] at q
    exact q
  · have e : ∀ k c : Nat, ¬ c = 25 → ¬ c = 26 → ¬ c = 27 → ¬ c = 28 → ¬ c = 30 → hr (hq S R' A' B' C') 0 30 (raM (S 0 35) (S 0 30)).2 k c = S k c := fun k c c1 c3 c4 c5 c6 => by rw [hr_nc c6, q_nc (by omega)]
    have td := raM_td hTQ x5 x6
    refine LR_cg h (fun k c q => e k c (by omega) (by omega) (by omega) (by omega) (by omega)) (by rw [hr_nc (by decide), q_25]; exact hR0) (fun j hj => by rw [hr_at]; exact hb.2.2.2.2 j (by omega)) ?_ ?_
    · rw [hr_at]; exact td.1
    · rw [hr_at]; exact td.2
set_option maxHeartbeats 4000000 in
set_option maxRecDepth 100000 in
theorem LO_type {S : Hp} {z : Int} (h : LRel S) (hz : 0 ≤ z ∧ z < 65536) : Two S 84 [.inr (0, 23), .inl z] 162 [.inr (0, 30), .inl z] := by
  obtain ⟨x1, x2, x3, x4, x5, x6⟩ := h.2.2.2.2.2
  have r1 := fun Q => c_type (S := S) (z := z) (by rw [x2]; exact x3) hz Q
  rw [x2] at r1
  by_cases c : S 0 30 7 = 60
  · simp only [if_pos c] at r1
    refine two_same h r1 (fun Q => ?_)
    have r2 := m_type (S := S) (z := z) x3 hz Q
    simp only [if_pos c] at r2
    exact r2
  · simp only [if_neg c] at r1
    obtain ⟨S1, hS1⟩ : ∃ S1, S1 = hr (hr S 0 29 (up (S 0 29) (S 0 30 7) z)) 0 25 (up (S 0 25) 0 (S 0 30 7 + 1)) := ⟨_, rfl⟩
    rw [← hS1] at r1
    have n1 : ∀ k c : Nat, ¬ c = 29 → ¬ c = 25 → S1 k c = S k c := fun k c q1 q2 => by rw [hS1, hr_nc q2, hr_nc q1]
    have s29 : S1 0 29 = up (S 0 29) (S 0 30 7) z := by rw [hS1, hr_nc (by decide), hr_at]
    have s25 : S1 0 25 = up (S 0 25) 0 (S 0 30 7 + 1) := by rw [hS1, hr_at]
    have r2 := fun Q => m_type (S := S1) (z := z) (by rw [n1 0 30 (by decide) (by decide)]; exact x3) hz Q
    rw [n1 0 30 (by decide) (by decide), n1 0 35 (by decide) (by decide)] at r2
    simp only [if_neg c] at r2
    obtain ⟨S2, hS2⟩ : ∃ S2, S2 = hr (hr S1 0 35 (up (S 0 35) (S 0 30 7) z)) 0 30 (up (S 0 30) 7 (S 0 30 7 + 1)) := ⟨_, rfl⟩
    rw [← hS2] at r2
    have n2 : ∀ k c : Nat, ¬ c = 35 → ¬ c = 30 → S2 k c = S1 k c := fun k c q1 q2 => by rw [hS2, hr_nc q2, hr_nc q1]
    have s35 : S2 0 35 = up (S 0 35) (S 0 30 7) z := by rw [hS2, hr_nc (by decide), hr_at]
    have s30 : S2 0 30 = up (S 0 30) 7 (S 0 30 7 + 1) := by rw [hS2, hr_at]
    refine ⟨S1, S2, S 0 30 7 + 1, r1, n1 0 40 (by decide) (by decide), n1 0 41 (by decide) (by decide), r2, by rw [n2 0 40 (by decide) (by decide), n1 0 40 (by decide) (by decide)], by rw [n2 0 41 (by decide) (by decide), n1 0 41 (by decide) (by decide)], LR_cg2 h (fun k c q => by rw [n2 k c (by omega) (by omega), n1 k c (by omega) (by omega)]) (by rw [s30, up_ne (by decide)]) (by rw [s30, up_ne (by decide)]) ?_⟩
    unfold TxL
    rw [n2 0 29 (by decide) (by decide), n2 0 25 (by decide) (by decide), s29, s25, s35, s30, x1, up_eq rfl, up_eq rfl, up_ne (show ¬ (10 : Int) = 7 by decide), up_ne (show ¬ (11 : Int) = 7 by decide)]
    refine ⟨rfl, rfl, by omega, fun i i1 i2 => ?_, x5, x6⟩
    by_cases e : i = S 0 30 7
    · rw [up_eq e]; exact hz
    · rw [up_ne e]; exact x4 i i1 i2
set_option maxHeartbeats 4000000 in
set_option maxRecDepth 100000 in
theorem LO_clearText {S : Hp} (h : LRel S) : Two S 85 [.inr (0, 23)] 163 [.inr (0, 30)] := by
  obtain ⟨x1, x2, x3, x4, x5, x6⟩ := h.2.2.2.2.2
  have r1 := fun Q => c_clearText (S := S) Q
  rw [x2] at r1
  have r2 := fun Q => m_clearText (S := hr S 0 25 (up (S 0 25) 0 0)) Q
  rw [hr_nc (by decide)] at r2
  obtain ⟨S2, hS2⟩ : ∃ S2, S2 = hr (hr S 0 25 (up (S 0 25) 0 0)) 0 30 (up (S 0 30) 7 0) := ⟨_, rfl⟩
  rw [← hS2] at r2
  have n2 : ∀ k c : Nat, ¬ c = 25 → ¬ c = 30 → S2 k c = S k c := fun k c q1 q2 => by rw [hS2, hr_nc q2, hr_nc q1]
  have s25 : S2 0 25 = up (S 0 25) 0 0 := by rw [hS2, hr_nc (by decide), hr_at]
  have s30 : S2 0 30 = up (S 0 30) 7 0 := by rw [hS2, hr_at]
  refine ⟨_, S2, S 0 30 7, r1, hr_nc (by decide), hr_nc (by decide), r2, n2 0 40 (by decide) (by decide), n2 0 41 (by decide) (by decide), LR_cg2 h (fun k c q => n2 k c (by omega) (by omega)) (by rw [s30, up_ne (by decide)]) (by rw [s30, up_ne (by decide)]) ?_⟩
  unfold TxL
  rw [n2 0 29 (by decide) (by decide), n2 0 35 (by decide) (by decide), s25, s30, up_eq rfl, up_eq rfl, up_ne (show ¬ (10 : Int) = 7 by decide), up_ne (show ¬ (11 : Int) = 7 by decide)]
  exact ⟨x1, rfl, by omega, x4, x5, x6⟩
