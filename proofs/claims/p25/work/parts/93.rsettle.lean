/-! THE RELATION is kept: the clerk settles, a tick ends -/
set_option maxHeartbeats 4000000 in
set_option maxRecDepth 100000 in
theorem cn_i {M : Int → Int} {w t : Int} : cnI M w t = 1 ↔ (0 < pd M w t ∧ qb M t (5 + w).toNat = 0) := by
  unfold cnI
  split
  · next h => exact ⟨fun _ => h, fun _ => rfl⟩
  · next h => exact ⟨fun q => absurd q (by decide), fun q => absurd q h⟩
set_option maxHeartbeats 4000000 in
set_option maxRecDepth 100000 in
theorem bs_first {M : Int → Int} {t f : Int} (hf : 0 ≤ f ∧ f < 3) (h1 : cnI M f t = 1) (h2 : ∀ w : Int, 0 ≤ w → w < 3 → cnI M w t = 1 → pd M f t < pd M w t ∨ (pd M f t = pd M w t ∧ f ≤ w)) : bsM M t 3 = f := by
  have b0 : bsM M t 1 = if cnI M 0 t = 1 then 0 else -5 := by
    show (if cnI M ((0 : Nat) : Int) t = 1 ∧ (bsM M t 0 = -5 ∨ _) then _ else _) = _
    have e : bsM M t 0 = -5 := rfl
    by_cases c : cnI M 0 t = 1
    · rw [if_pos ⟨c, Or.inl e⟩, if_pos c]; rfl
    · rw [if_neg (fun q => c q.1), if_neg c, e]
  have s1 : bsM M t 2 = if cnI M 1 t = 1 ∧ (bsM M t 1 = -5 ∨ pd M 1 t < pd M (bsM M t 1) t) then 1 else bsM M t 1 := rfl
  have s2 : bsM M t 3 = if cnI M 2 t = 1 ∧ (bsM M t 2 = -5 ∨ pd M 2 t < pd M (bsM M t 2) t) then 2 else bsM M t 2 := rfl
  have g0 := h2 0 (by omega) (by omega)
  have g1 := h2 1 (by omega) (by omega)
  have g2 := h2 2 (by omega) (by omega)
  rcases (show f = 0 ∨ f = 1 ∨ f = 2 by omega) with rfl | rfl | rfl
  · rw [if_pos h1] at b0
    rw [b0] at s1
    rw [if_neg (fun q => by have := g1 q.1; have := q.2; omega)] at s1
    rw [s1] at s2
    rw [if_neg (fun q => by have := g2 q.1; have := q.2; omega)] at s2
    exact s2
  · have e1 : bsM M t 2 = 1 := by
      rw [s1, if_pos]
      refine ⟨h1, ?_⟩
      by_cases c : cnI M 0 t = 1
      · rw [b0, if_pos c]
        have := g0 c
        right; omega
      · rw [b0, if_neg c]; exact Or.inl rfl
    rw [e1] at s2
    rw [if_neg (fun q => by have := g2 q.1; have := q.2; omega)] at s2
    exact s2
  · rw [s2, if_pos]
    refine ⟨h1, ?_⟩
    by_cases c1 : cnI M 1 t = 1 ∧ (bsM M t 1 = -5 ∨ pd M 1 t < pd M (bsM M t 1) t)
    · rw [s1, if_pos c1]
      have := g1 c1.1
      right; omega
    · rw [s1, if_neg c1, b0]
      by_cases c : cnI M 0 t = 1
      · rw [if_pos c]
        have := g0 c
        right; omega
      · rw [if_neg c]; exact Or.inl rfl
set_option maxHeartbeats 4000000 in
set_option maxRecDepth 100000 in
theorem bs_none {M : Int → Int} {t : Int} (h : ∀ w : Int, 0 ≤ w → w < 3 → ¬ cnI M w t = 1) : bsM M t 3 = -5 := by
  have b0 : bsM M t 1 = -5 := by
    show (if cnI M ((0 : Nat) : Int) t = 1 ∧ (bsM M t 0 = -5 ∨ _) then _ else _) = _
    rw [if_neg (fun q => h 0 (by omega) (by omega) q.1)]; rfl
  have s1 : bsM M t 2 = if cnI M 1 t = 1 ∧ (bsM M t 1 = -5 ∨ pd M 1 t < pd M (bsM M t 1) t) then 1 else bsM M t 1 := rfl
  have s2 : bsM M t 3 = if cnI M 2 t = 1 ∧ (bsM M t 2 = -5 ∨ pd M 2 t < pd M (bsM M t 2) t) then 2 else bsM M t 2 := rfl
  rw [s2, if_neg (fun q => h 2 (by omega) (by omega) q.1), s1, if_neg (fun q => h 1 (by omega) (by omega) q.1), b0]
/- the class's first payer is the model's best -/
set_option maxHeartbeats 4000000 in
set_option maxRecDepth 100000 in
theorem fp_eq {O : Of} {M : Int → Int} (h : RR O M) {t : Int} (ht : 0 ≤ t ∧ t < 600) : fpO O t = bsM M t 3 := by
  obtain ⟨a1, a2, a3⟩ := h.2.2.1 t ht.1 ht.2
  unfold fpO
  by_cases c : O 4 t = 0
  · rw [if_pos c]
    refine (bs_none (fun w w1 w2 q => ?_)).symm
    have b := (a2 w w1 w2).2 (cn_i.1 q).1
    omega
  · rw [if_neg c]
    have b := a3 c
    refine (bs_first (by omega) (cn_i.2 ⟨by rw [b.1]; omega, b.2⟩) (fun w w1 w2 q => ?_)).symm
    have d := (a2 w w1 w2).2 (cn_i.1 q).1
    rw [b.1]
    omega
set_option maxHeartbeats 4000000 in
set_option maxRecDepth 100000 in
theorem RR_ss {O : Of} {M : Int → Int} {t b p z : Int} (h : RR O M) (ht : 0 ≤ t ∧ t < 600) (hz : 0 ≤ z ∧ z < 3) (hb : b = fpO O t) (hp : p = przM M t) : RR (ssO O t b p z) (stM M z t b) ∧ ssO O t b p z 4 = O 4 ∧ przM (stM M z t b) t = przM M t := by
  have e8 := RF_p h.1 ht hz
  have e11 := RF_c h.1 ht hz
  have hq := qb_01 M t (5 + z).toNat
  have hD : SmD M (mkM M t (5 + z).toNat 1) := SmD_ad h.1.1 ht (by omega)
  have hpz : przM (mkM M t (5 + z).toNat 1) t = przM M t := prz_c hD ht
  have h3 : mkM M t (5 + z).toNat 1 3 = M 3 := mk_ne (by omega)
  unfold ssO stM
  rw [e8, e11, hpz, h3]
  by_cases c : ¬ z = b ∧ cnI M z t = 1
  · have c1 := cn_i.1 c.2
    have c3 : ¬ z = b ∧ pyI M z t = 1 ∧ qb M t (5 + z).toNat = 0 := ⟨c.1, by unfold pyI; rw [if_pos c1.1], c1.2⟩
    rw [if_pos c, if_pos c3]
    have a2 := ((h.2.2.1 t ht.1 ht.2).2.1 z hz.1 hz.2).2 c1.1
    have hbz : ¬ z = (O 4 t - 1) % 3 := by
      have q := c.1
      rw [hb] at q
      unfold fpO at q
      rw [if_neg (by omega)] at q
      exact q
    rw [hp]
    refine ⟨RR_call h ht hz hbz c1.1 c1.2 rfl, by rw [oc_nc (by decide), adO_nc (by decide)], ?_⟩
    exact prz_c (SmD_tr hD (SmD_up (by omega))) ht
  · have c3 : ¬ (¬ z = b ∧ pyI M z t = 1 ∧ qb M t (5 + z).toNat = 0) := by
      intro q
      apply c
      refine ⟨q.1, cn_i.2 ⟨?_, q.2.2⟩⟩
      have q1 := q.2.1
      unfold pyI at q1
      rcases Int.lt_or_le 0 (M (2033 + 600 * z + t)) with r | r
      · exact r
      · rw [if_neg (by omega)] at q1; omega
    rw [if_neg c, if_neg c3]
    exact ⟨h, rfl, rfl⟩
set_option maxHeartbeats 4000000 in
set_option maxRecDepth 100000 in
theorem fp_c {O O' : Of} {t : Int} (h : O' 4 = O 4) : fpO O' t = fpO O t := by
  unfold fpO
  rw [h]
set_option maxHeartbeats 4000000 in
set_option maxRecDepth 100000 in
theorem RR_settle {O : Of} {M : Int → Int} (h : RR O M) : RR (stO O) (csM M) := by
  have e := fd_eq h.2.2.2.2.2.1
  have hn := opC_b M
  have ho := h.2.2.2.2.2.1.1.1
  unfold stO csM
  by_cases c : O 21 0 = 0
  · rw [if_pos c] at e
    rw [if_pos c, if_pos e]
    exact h
  · rw [if_neg c] at e
    have b := (h.2.2.2.2.2.1.2.2.1 0 (by omega) (by omega)).1
    rw [if_neg c, e, if_neg (by omega)]
    have g := RR_close h (by omega)
    obtain ⟨t, ht⟩ : ∃ t, t = O 22 0 := ⟨_, rfl⟩
    rw [← ht] at b g ⊢
    have e4 : st1O O 4 = O 4 := st1O_nc (by decide)
    have hfp : fpO O t = fpO (st1O O) t := by unfold fpO; rw [e4]
    have hbs := fp_eq g b
    rw [hfp, ← hbs]
    have hpz := pz_eq g.1 g.2.1 b
    rw [hpz]
    generalize st1O O = X at *
    generalize up M (1433 + t) 0 = P at *
    unfold ss3O
    have r0 := RR_ss (b := fpO X t) (p := przM P t) (z := 0) g b (by omega) rfl rfl
    have f1 : fpO X t = fpO (ssO X t (fpO X t) (przM P t) 0) t := (fp_c r0.2.1).symm
    have r1 := RR_ss (b := fpO X t) (p := przM P t) (z := 1) r0.1 b (by omega) f1 r0.2.2.symm
    have f2 : fpO X t = fpO (ssO (ssO X t (fpO X t) (przM P t) 0) t (fpO X t) (przM P t) 1) t := (fp_c (r1.2.1.trans r0.2.1)).symm
    have r2 := RR_ss (b := fpO X t) (p := przM P t) (z := 2) r1.1 b (by omega) f2 (by rw [r1.2.2, r0.2.2])
    exact r2.1
