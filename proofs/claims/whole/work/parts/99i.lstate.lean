/-! THE LAW: settings and states -/
set_option maxHeartbeats 4000000 in
set_option maxRecDepth 100000 in
theorem LR_eq {S T : Hp} (h : LRel S) (e : ∀ k c : Nat, ¬ c = 33 → T k c = S k c) : LRel T := by
  obtain ⟨h0, hD, hN, hH, hP, hX⟩ := h
  have tnw : nw T = nw S := by unfold nw; rw [e 0 23 (by decide)]
  unfold LRel TxL
  rw [tnw, e 0 23 (by decide), e 0 24 (by decide), e 0 30 (by decide), e 0 34 (by decide), e 0 32 (by decide), e 0 29 (by decide), e 0 35 (by decide), e 0 25 (by decide), e 0 31 (by decide)]
  exact ⟨h0, hD, Ok1_sc (fun c hc => e _ c (by omega)) (fun _ _ _ => rfl) hN, fun k k1 k2 => Ok1_sc (fun c hc => e _ c (by omega)) (fun _ _ _ => rfl) (hH k k1 k2), ⟨hP.1, hP.2.1, fun q => Ok1_sc (fun c hc => e _ c (by omega)) (fun _ _ _ => rfl) (hP.2.2 q)⟩, hX⟩
set_option maxHeartbeats 4000000 in
set_option maxRecDepth 100000 in
theorem ac_hi {S : Hp} {O' : Of} {c : Nat} (h : 23 ≤ c) : acS S O' 0 c = S 0 c := by
  unfold acS bgS
  rw [ho_nc (by omega), ho_nc (by omega)]
set_option maxHeartbeats 4000000 in
set_option maxRecDepth 100000 in
theorem LR_ac3 {S : Hp} {O' : Of} {M' : Int → Int} {v : Int} (h : LRel S) (hT : Ok1 O' M') (hv : 0 ≤ v) (hm : ∀ j : Int, ¬ (0 ≤ j ∧ j < 3833) → M' j = S 0 31 j) : LRel (hr (rcS (edS (acS S O') v) (S 0 31)) 0 31 M') := by
  have q := LR_act (v := v) h hT (fun q => by omega)
  have q31 : edS (acS S O') v 0 31 = S 0 31 := ed_nc (by decide)
  have ec : cpF M' (S 0 31) 3833 = S 0 31 := by
    funext j
    by_cases c : 0 ≤ j ∧ j < 3833
    · exact cpF_in c
    · rw [cpF_out c]; exact hm j c
  unfold actS at q
  rw [if_neg (by omega), q31, ec] at q
  generalize edS (acS S O') v = W at *
  refine LR_eq q (fun k c hc => ?_)
  rw [hr_nc (c := 33) hc]
  unfold rcS
  by_cases c1 : c = 31
  · subst c1
    by_cases k0 : k = 0
    · subst k0
      simp (disch := decide) only [hr_at, hr_nc]
    · unfold hr
      simp only [k0, false_and, and_false, ↓reduceIte]
  · rw [hr_nc c1]
    simp (disch := decide) only [hr_at, hr_nc]
    unfold hr
    simp only [c1, false_and, and_false, ↓reduceIte]
