/-! THE LAW: undo -/
set_option maxHeartbeats 4000000 in
set_option maxRecDepth 100000 in
theorem LO_undo {S : Hp} (h : LRel S) : Two S 88 [.inr (0, 23)] 172 [.inr (0, 30)] := by
  obtain ⟨hP', hne⟩ := LR_PmB h
  obtain ⟨⟨hs, h6⟩, hD, hN, hH, hP, hX⟩ := id h
  obtain ⟨⟨a1, a2, a3⟩, ⟨b1, b2, b3⟩, c1, c3, c4⟩ := id hD
  have r1 := fun Q => c_undo (S := S) hP' a1 Q
  unfold unV at r1
  by_cases c : S 0 23 3 = 0
  · have eS : unS S = S := by unfold unS; rw [if_pos c]
    rw [if_pos c, eS] at r1
    have r2 := fun Q => m_undo (S := S) (RR_R0k h) Q
    rw [h6, if_pos c, if_pos c] at r2
    exact two_same h r1 r2
  · rw [if_neg c] at r1
    obtain ⟨W, hW⟩ : ∃ W, W = unS S := ⟨_, rfl⟩
    rw [← hW] at r1
    unfold unS at hW
    rw [if_neg c] at hW
    have w23 : W 0 23 = up (up (S 0 23) 3 (S 0 23 3 - 1)) 0 (S 0 24 (S 0 23 3 - 1)) := by rw [hW, hr_at]
    have w24 : W 0 24 = up (S 0 24) (S 0 23 3 - 1) (S 0 23 0) := by rw [hW, hr_nc (by decide), hr_at]
    have wc : ∀ k c : Nat, ¬ c = 23 → ¬ c = 24 → W k c = S k c := fun k c q1 q2 => by rw [hW, hr_nc q1, hr_nc q2, hr_nc q1]
    have r2 := fun Q => m_undo (S := W) (by rw [wc 0 30 (by decide) (by decide)]; exact RR_R0k h) Q
    rw [wc 0 30 (by decide) (by decide), wc 0 31 (by decide) (by decide), wc 0 34 (by decide) (by decide), h6, if_neg c, if_neg c] at r2
    obtain ⟨T, hTd⟩ : ∃ T, T = hr (hr W 0 30 (up (S 0 30) 6 (S 0 23 3 - 1))) 0 31 (cpF (S 0 31) (fun j => S 0 34 (3833 * (S 0 23 3 - 1) + j)) 3833) := ⟨_, rfl⟩
    rw [← hTd] at r2
    have t31 : T 0 31 = cpF (S 0 31) (fun j => S 0 34 (3833 * (S 0 23 3 - 1) + j)) 3833 := by rw [hTd, hr_at]
    have t30 : T 0 30 = up (S 0 30) 6 (S 0 23 3 - 1) := by rw [hTd, hr_nc (by decide), hr_at]
    have tc : ∀ k c : Nat, ¬ c = 30 → ¬ c = 31 → T k c = W k c := fun k c q1 q2 => by rw [hTd, hr_nc q2, hr_nc q1]
    have te : ∀ k c : Nat, ¬ c = 23 → ¬ c = 24 → ¬ c = 30 → ¬ c = 31 → T k c = S k c := fun k c q1 q2 q3 q4 => by rw [tc k c q3 q4, wc k c q1 q2]
    refine ⟨W, T, S 0 23 3 - 1, r1, wc 0 40 (by decide) (by decide), wc 0 41 (by decide) (by decide), r2, te 0 40 (by decide) (by decide) (by decide) (by decide), te 0 41 (by decide) (by decide) (by decide) (by decide), ?_⟩
    have t23 : T 0 23 = up (up (S 0 23) 3 (S 0 23 3 - 1)) 0 (S 0 24 (S 0 23 3 - 1)) := by rw [tc 0 23 (by decide) (by decide), w23]
    have t24 : T 0 24 = up (S 0 24) (S 0 23 3 - 1) (S 0 23 0) := by rw [tc 0 24 (by decide) (by decide), w24]
    have tnw : nw T = (S 0 24 (S 0 23 3 - 1)).toNat := by unfold nw; rw [t23, up_eq rfl]
    have hA : ∀ k : Int, up (S 0 24) (S 0 23 3 - 1) (S 0 23 0) k = if k = S 0 23 3 - 1 then S 0 23 0 else S 0 24 k := fun k => rfl
    have p0 := c3 (S 0 23 3 - 1) (by omega) (by omega)
    have n0 := a3 (S 0 23 3 - 1) (by omega) (by omega)
    have m0 := b3 (S 0 23 3 - 1) (by omega) (by omega)
    have e0 : up (up (S 0 23) 3 (S 0 23 3 - 1)) 0 (S 0 24 (S 0 23 3 - 1)) 0 = S 0 24 (S 0 23 3 - 1) := up_eq rfl
    have e1 : up (up (S 0 23) 3 (S 0 23 3 - 1)) 0 (S 0 24 (S 0 23 3 - 1)) 1 = S 0 23 1 := by rw [up_ne (by decide), up_ne (by decide)]
    have e3 : up (up (S 0 23) 3 (S 0 23 3 - 1)) 0 (S 0 24 (S 0 23 3 - 1)) 3 = S 0 23 3 - 1 := by rw [up_ne (by decide), up_eq rfl]
    have e5 : up (up (S 0 23) 3 (S 0 23 3 - 1)) 0 (S 0 24 (S 0 23 3 - 1)) 5 = S 0 23 5 := by rw [up_ne (by decide), up_ne (by decide)]
    have hof : ∀ k c : Nat, c < 23 → T k c = S k c := fun k c hc => te k c (by omega) (by omega) (by omega) (by omega)
    unfold LRel TxL DsC
    rw [tnw, t23, t24, t30, t31, te 0 34 (by decide) (by decide) (by decide) (by decide), te 0 32 (by decide) (by decide) (by decide) (by decide), te 0 29 (by decide) (by decide) (by decide) (by decide), te 0 35 (by decide) (by decide) (by decide) (by decide), te 0 25 (by decide) (by decide) (by decide) (by decide), e0, e1, e3, e5, up_eq rfl, up_ne (show ¬ (8 : Int) = 6 by decide), up_ne (show ¬ (7 : Int) = 6 by decide), up_ne (show ¬ (10 : Int) = 6 by decide), up_ne (show ¬ (11 : Int) = 6 by decide)]
    refine ⟨⟨by omega, rfl⟩, ⟨⟨n0, a2, fun k k1 k2 => ?_⟩, ⟨m0, b2, fun k k1 k2 => ?_⟩, p0.2, fun k k1 k2 => ?_, fun j k j1 j2 k2 => ?_⟩, ?_, fun k k1 k2 => ?_, ⟨hP.1, hP.2.1, fun q => Ok1_sc (fun c hc => hof _ c hc) (fun _ _ _ => rfl) (hP.2.2 q)⟩, hX⟩
    · rw [hA]; split
      · exact a1
      · exact a3 k k1 k2
    · rw [hA]; split
      · exact b1
      · exact b3 k k1 k2
    · rw [hA]; split
      · exact ⟨fun q => p0.1 q.symm, c1⟩
      · next q =>
        refine ⟨fun r => ?_, (c3 k k1 k2).2⟩
        rcases Int.lt_or_le k (S 0 23 3 - 1) with z | z
        · exact c4 k _ k1 z (by omega) r
        · exact c4 (S 0 23 3 - 1) k (by omega) (by omega) k2 r.symm
    · rw [hA, hA]
      have pj := c3 j j1 (by omega)
      have pk := c3 k (by omega) k2
      have pc := c4 j k j1 j2 k2
      split
      · split
        · omega
        · exact fun q => pk.1 q.symm
      · split
        · exact pj.1
        · exact pc
    · exact Ok1_sc (fun c hc => hof _ c hc) (fun j j1 j2 => cpF_in ⟨j1, j2⟩) (hH (S 0 23 3 - 1) (by omega) (by omega))
    · rw [hA, if_neg (by omega)]
      exact Ok1_sc (fun c hc => hof _ c hc) (fun _ _ _ => rfl) (hH k k1 (by omega))
