/-! THE RELATION is kept: a payment -/
set_option maxHeartbeats 4000000 in
set_option maxRecDepth 100000 in
theorem pyC_3 (M : Int → Int) (t : Int) : pyC M t = pyI M 0 t + pyI M 1 t + pyI M 2 t := by
  unfold pyC
  simp only [sm, Int.ofNat_zero, Int.zero_add]
  rfl
set_option maxHeartbeats 4000000 in
set_option maxRecDepth 100000 in
theorem pay0_ne {M : Int → Int} {w t j : Int} (h1 : ¬ j = 8 + 15 * w + 11) (h2 : ¬ j = 8 + 15 * w + 12) (h3 : ¬ j = 2033 + 600 * w + t) : payM0 M w t j = M j := by
  unfold payM0 moM
  rw [up_ne h3, up_ne h2, up_ne h1]
set_option maxHeartbeats 4000000 in
set_option maxRecDepth 100000 in
theorem RR_pay {O : Of} {M : Int → Int} {w t : Int} (h : RR O M) (hw : 0 ≤ w ∧ w < 3) (ht : 0 ≤ t ∧ t < 600) (hp : pd M w t = 0) (hc : ¬ clM M t = 0) (h9 : M (8 + 15 * w + 9) = 0) : RR (pyO3 O w t) (payM1 M w t) := by
  obtain ⟨h1, h2, h3, h4, h5, h6, h7, h8⟩ := h
  have hT := h7.1
  obtain ⟨M1, hM1⟩ : ∃ M1, M1 = payM0 M w t := ⟨_, rfl⟩
  have k11 : M1 (8 + 15 * w + 11) = M (8 + 15 * w + 11) + przM M t := by rw [hM1]; unfold payM0 moM; rw [up_ne (by omega), up_ne (by omega), up_eq rfl]
  have k12 : M1 (8 + 15 * w + 12) = M (8 + 15 * w + 12) + 1 := by rw [hM1]; unfold payM0 moM; rw [up_ne (by omega), up_eq rfl, up_ne (by omega)]
  have kp : pd M1 w t = M 0 + 1 := by rw [hM1]; unfold pd payM0 moM; rw [up_eq rfl, up_ne (by omega), up_ne (by omega)]
  have kn : ∀ j : Int, ¬ j = 8 + 15 * w + 11 → ¬ j = 8 + 15 * w + 12 → ¬ j = 2033 + 600 * w + t → M1 j = M j := fun j j1 j2 j3 => by rw [hM1]; exact pay0_ne j1 j2 j3
  have hq1 : ∀ s f, 0 ≤ s → s < 600 → qb M1 s f = qb M s f := fun s f s1 s2 => by unfold qb; rw [kn _ (by omega) (by omega) (by omega)]
  have hD1 : SmD M M1 := ⟨fun j j1 j2 => kn j (by omega) (by omega) (by omega), fun s s1 s2 => hq1 s 0 s1 s2⟩
  have hF1 : FlB M1 := fun s s1 s2 => by rw [kn _ (by omega) (by omega) (by omega)]; exact h1.1 s s1 s2
  have hO2n : ∀ c : Nat, ¬ c = 14 → ¬ c = 15 → ¬ c = 0 → pyO2 O w t c = O c := fun c c1 c3 c4 => pyO2_nc ⟨c1, c3, c4⟩
  have hRF2 : RF (pyO2 O w t) M := RF_cg h1 (hO2n 3 (by decide) (by decide) (by decide)) (fun _ _ => rfl)
  have hRF3 : RF (adO (pyO2 O w t) t (8 + w).toNat) M1 := by
    refine RF_ad hRF2 hF1 hD1 (by omega) (fun s s1 s2 j j1 j2 j3 => ?_)
    unfold bitM
    rw [hq1 s _ s1 s2, hq1 s _ s1 s2, hq1 s _ s1 s2, hq1 s _ s1 s2]
    have eo : opI M1 s = opI M s := by unfold opI; rw [kn _ (by omega) (by omega) (by omega)]
    rw [eo]
    by_cases c8 : j < 8
    · rw [if_pos c8, if_pos c8, if_neg (show ¬ (s = t ∧ j = (8 + w).toNat) by omega)]
    · rw [if_neg c8, if_neg c8]
      by_cases c11 : j < 11
      · rw [if_pos c11, if_pos c11]
        rw [if_neg (show ¬ j = 0 by omega), if_neg (show ¬ j = 1 by omega), if_neg (show ¬ j = 2 by omega), if_neg (show ¬ j = 0 by omega), if_neg (show ¬ j = 1 by omega), if_neg (show ¬ j = 2 by omega)]
        unfold pyI
        by_cases e : s = t ∧ j = (8 + w).toNat
        · rw [if_pos e]
          obtain ⟨e1, e2⟩ := e
          have e3 : (j : Int) - 8 = w := by omega
          rw [e1, e3]
          have kp2 : M1 (2033 + 600 * w + t) = M 0 + 1 := kp
          rw [kp2, if_pos (by omega)]
        · rw [if_neg e, kn _ (by omega) (by omega) (by omega)]
      · rw [if_neg c11, if_neg c11, if_neg (show ¬ (s = t ∧ j = (8 + w).toNat) by omega)]
  have hRF4 : RF (npO (adO (pyO2 O w t) t (8 + w).toNat) w t) M1 := RF_cg hRF3 (npO_nc (by decide)) (fun _ _ => rfl)
  have hRF5 : RF (pyO3 O w t) (mkM M1 t (2 + w).toNat 1) := RF_set hRF4 ht (by omega)
  have ePM : payM1 M w t = mkM M1 t (2 + w).toNat 1 := by unfold payM1; rw [← hM1]
  rw [ePM]
  have hn : ∀ j : Int, ¬ j = 833 + t → ¬ j = 8 + 15 * w + 11 → ¬ j = 8 + 15 * w + 12 → ¬ j = 2033 + 600 * w + t → mkM M1 t (2 + w).toNat 1 j = M j := fun j j1 j2 j3 j4 => by rw [mk_ne j1]; exact kn j j2 j3 j4
  have hD : SmD M (mkM M1 t (2 + w).toNat 1) := SmD_tr hD1 (SmD_ad hF1 ht (by omega))
  have hq5 : ∀ s v : Int, 0 ≤ s → s < 600 → 0 ≤ v → v < 3 → qb (mkM M1 t (2 + w).toNat 1) s (5 + v).toNat = qb M s (5 + v).toNat := fun s v s1 s2 v1 v2 => by rw [qbn hF1 (by omega) (Or.inr rfl) ⟨s1, s2⟩ (by omega)]; exact hq1 s _ s1 s2
  have o3n : ∀ c : Nat, ¬ c = 14 → ¬ c = 15 → ¬ c = 0 → ¬ c = 3 → ¬ c = 4 → pyO3 O w t c = O c := fun c c1 c3 c4 c5 c6 => pyO3_nc ⟨c1, c3, c4, c5, c6⟩
  have epd : ∀ v s : Int, 0 ≤ v → v < 3 → 0 ≤ s → s < 600 → pd (mkM M1 t (2 + w).toNat 1) v s = if v = w ∧ s = t then M 0 + 1 else pd M v s := by
    intro v s v1 v2 s1 s2
    by_cases e : v = w ∧ s = t
    · obtain ⟨rfl, rfl⟩ := e
      rw [if_pos ⟨rfl, rfl⟩, ← kp]
      exact mk_ne (by omega)
    · rw [if_neg e]
      exact hn _ (by omega) (by omega) (by omega) (by omega)
  refine ⟨hRF5, RD_cg h2 ⟨o3n 6 (by decide) (by decide) (by decide) (by decide) (by decide), o3n 7 (by decide) (by decide) (by decide) (by decide) (by decide), o3n 8 (by decide) (by decide) (by decide) (by decide) (by decide)⟩ hD, ?_, ?_, RM_cg h5 ⟨by rw [o3n 18 (by decide) (by decide) (by decide) (by decide) (by decide)], o3n 19 (by decide) (by decide) (by decide) (by decide) (by decide), o3n 20 (by decide) (by decide) (by decide) (by decide) (by decide)⟩ (hn 0 (by omega) (by omega) (by omega) (by omega)) (hn 2 (by omega) (by omega) (by omega) (by omega)) (fun j j1 j2 => hn j (by omega) (by omega) (by omega) (by omega)), RQ_cg h6 ⟨o3n 21 (by decide) (by decide) (by decide) (by decide) (by decide), o3n 22 (by decide) (by decide) (by decide) (by decide) (by decide)⟩ (hn 4 (by omega) (by omega) (by omega) (by omega)) (fun j j1 j2 => hn j (by omega) (by omega) (by omega) (by omega)), ?_, ?_⟩
  · have e4 : pyO3 O w t 4 = npO O w t 4 := by
      unfold pyO3
      rw [adO_nc (by decide)]
      unfold npO
      rw [adO_nc (by decide), hO2n 4 (by decide) (by decide) (by decide), adO_nc (by decide), pyO2_0]
      split
      · rw [oc_at, oc_at]
      · rw [adO_nc (by decide), hO2n 4 (by decide) (by decide) (by decide)]
    intro s s1 s2
    obtain ⟨a1, a2, a3⟩ := h3 s s1 s2
    have e0 : mkM M1 t (2 + w).toNat 1 0 = M 0 := hn 0 (by omega) (by omega) (by omega) (by omega)
    rw [e4, e0]
    have hold : (∀ c : O 4 s = npO O w t 4 s, (s = t → ¬ O 4 s = 0 ∧ O 4 s ≤ M 0 * 3 + w + 1) → (0 ≤ npO O w t 4 s ∧ (∀ v : Int, 0 ≤ v → v < 3 → (0 ≤ pd (mkM M1 t (2 + w).toNat 1) v s ∧ pd (mkM M1 t (2 + w).toNat 1) v s ≤ M 0 + 1) ∧ (0 < pd (mkM M1 t (2 + w).toNat 1) v s → 0 < npO O w t 4 s ∧ npO O w t 4 s ≤ (pd (mkM M1 t (2 + w).toNat 1) v s - 1) * 3 + v + 1)) ∧ (¬ npO O w t 4 s = 0 → pd (mkM M1 t (2 + w).toNat 1) ((npO O w t 4 s - 1) % 3) s = (npO O w t 4 s - 1) / 3 + 1 ∧ qb (mkM M1 t (2 + w).toNat 1) s (5 + (npO O w t 4 s - 1) % 3).toNat = 0))) := by
      intro c hc2
      rw [← c]
      refine ⟨a1, fun v v1 v2 => ?_, fun q => ?_⟩
      · rw [epd v s v1 v2 s1 s2]
        have b := a2 v v1 v2
        by_cases e : v = w ∧ s = t
        · rw [if_pos e]
          have c5 := hc2 e.2
          omega
        · rw [if_neg e]; exact b
      · have b := a3 q
        rw [epd _ s (by omega) (by omega) s1 s2, hq5 s _ s1 s2 (by omega) (by omega)]
        by_cases e : (O 4 s - 1) % 3 = w ∧ s = t
        · exfalso
          have q1 := b.1
          rw [e.1, e.2, hp] at q1
          rw [e.2] at q a1
          omega
        · rw [if_neg e]; exact b
    by_cases hs : s = t
    · subst hs
      by_cases hx : O 4 s = 0 ∨ O 0 0 * 3 + w + 1 < O 4 s
      · have en : npO O w s 4 s = M 0 * 3 + w + 1 := by
          unfold npO
          rw [if_pos hx, oc_at, up_eq rfl, hT.1]
        rw [hT.1] at hx
        rw [en]
        refine ⟨by omega, fun v v1 v2 => ?_, fun q => ?_⟩
        · rw [epd v s v1 v2 s1 s2]
          have b := a2 v v1 v2
          by_cases e : v = w ∧ s = s
          · rw [if_pos e]
            have e1 := e.1
            omega
          · rw [if_neg e]
            refine ⟨b.1, fun q => ?_⟩
            have b2 := b.2 q
            omega
        · have d1 : (M 0 * 3 + w + 1 - 1) % 3 = w := by omega
          have d2 : (M 0 * 3 + w + 1 - 1) / 3 = M 0 := by omega
          rw [d1, d2, epd w s hw.1 hw.2 s1 s2, if_pos ⟨rfl, rfl⟩, hq5 s w s1 s2 hw.1 hw.2]
          refine ⟨rfl, ?_⟩
          have b := (h8 s w s1 s2 hw.1 hw.2).2.1
          rcases qb_01 M s (5 + w).toNat with g | g
          · exact g
          · have := b g; omega
      · have en : O 4 s = npO O w s 4 s := by
          unfold npO
          rw [if_neg hx]
        rw [hT.1] at hx
        exact hold en (fun _ => by omega)
    · have en : O 4 s = npO O w t 4 s := by
        unfold npO
        split
        · rw [oc_at, up_ne hs]
        · rfl
      exact hold en (fun q => absurd q hs)
  · intro v v1 v2
    obtain ⟨a1, a2, a3, a4, a5, a6, a7, a8, a9⟩ := h4 v v1 v2
    have e14 : pyO3 O w t 14 = up (O 14) w (O 14 w + pzO O t) := by
      unfold pyO3
      rw [adO_nc (by decide), npO_nc (by decide), adO_nc (by decide)]
      unfold pyO2 pyO1
      split
      · rw [oc_nc (by decide), oc_nc (by decide), oc_at]
      · rw [oc_nc (by decide), oc_at]
    have e15 : pyO3 O w t 15 = up (O 15) w (O 15 w + 1) := by
      unfold pyO3
      rw [adO_nc (by decide), npO_nc (by decide), adO_nc (by decide)]
      unfold pyO2 pyO1
      split
      · rw [oc_nc (by decide), oc_at]
      · rw [oc_at]
    have hn2 : ∀ j : Int, 8 ≤ j → j < 53 → ¬ j = 8 + 15 * w + 11 → ¬ j = 8 + 15 * w + 12 → mkM M1 t (2 + w).toNat 1 j = M j := fun j j1 j2 j3 j4 => hn j (by omega) j3 j4 (by omega)
    rw [o3n 10 (by decide) (by decide) (by decide) (by decide) (by decide), o3n 11 (by decide) (by decide) (by decide) (by decide) (by decide), o3n 12 (by decide) (by decide) (by decide) (by decide) (by decide), o3n 13 (by decide) (by decide) (by decide) (by decide) (by decide), o3n 16 (by decide) (by decide) (by decide) (by decide) (by decide), o3n 17 (by decide) (by decide) (by decide) (by decide) (by decide), e14, e15, hn2 (8 + 15 * v) (by omega) (by omega) (by omega) (by omega), hn2 (8 + 15 * v + 9) (by omega) (by omega) (by omega) (by omega), hn2 (8 + 15 * v + 10) (by omega) (by omega) (by omega) (by omega), hn2 (8 + 15 * v + 13) (by omega) (by omega) (by omega) (by omega), hn2 (8 + 15 * v + 14) (by omega) (by omega) (by omega) (by omega), hn 0 (by omega) (by omega) (by omega) (by omega)]
    refine ⟨a1, fun z z1 z2 => by rw [hn2 _ (by omega) (by omega) (by omega) (by omega)]; exact a2 z z1 z2, fun z z1 z2 => by rw [hn2 _ (by omega) (by omega) (by omega) (by omega)]; exact a3 z z1 z2, a4, a5, ?_, ?_, a8, a9⟩
    · by_cases e : v = w
      · subst e
        rw [up_eq rfl, mk_ne (by omega), k11, a6, pz_eq h1 h2 ht]
      · rw [up_ne e, hn2 _ (by omega) (by omega) (by omega) (by omega)]; exact a6
    · by_cases e : v = w
      · subst e
        rw [up_eq rfl, mk_ne (by omega), k12, a7]
      · rw [up_ne e, hn2 _ (by omega) (by omega) (by omega) (by omega)]; exact a7
  · obtain ⟨b1, b2, b3, b4, b5, b6, b7⟩ := h7
    have e0 : pyO3 O w t 0 = pyO2 O w t 0 := by
      unfold pyO3
      rw [adO_nc (by decide), npO_nc (by decide), adO_nc (by decide)]
    have hpy : ∀ s : Int, 0 ≤ s → s < 600 → pyC (mkM M1 t (2 + w).toNat 1) s = if s = t then pyC M t + 1 else pyC M s := by
      intro s s1 s2
      have hv : ∀ v : Int, 0 ≤ v → v < 3 → pyI (mkM M1 t (2 + w).toNat 1) v s = if v = w ∧ s = t then 1 else pyI M v s := by
        intro v v1 v2
        have q := epd v s v1 v2 s1 s2
        unfold pd at q
        unfold pyI
        rw [q]
        by_cases e : v = w ∧ s = t
        · rw [if_pos e, if_pos e, if_pos (by omega)]
        · rw [if_neg e, if_neg e]
      rw [pyC_3, pyC_3, pyC_3, hv 0 (by omega) (by omega), hv 1 (by omega) (by omega), hv 2 (by omega) (by omega)]
      have hz : pyI M w t = 0 := by unfold pyI; rw [if_neg (by unfold pd at hp; omega)]
      by_cases e : s = t
      · subst e
        rw [if_pos rfl]
        rcases (show w = 0 ∨ w = 1 ∨ w = 2 by omega) with rfl | rfl | rfl
        · simp only [and_true, if_true, Int.reduceEq, if_false]; omega
        · simp only [and_true, if_true, Int.reduceEq, if_false]; omega
        · simp only [and_true, if_true, Int.reduceEq, if_false]; omega
      · rw [if_neg e, if_neg (fun q => e q.2), if_neg (fun q => e q.2), if_neg (fun q => e q.2)]
    have hpt : ptC (mkM M1 t (2 + w).toNat 1) = ptC M + if pyC M t = 1 then 1 else 0 := by
      have e1 : ptC (mkM M1 t (2 + w).toNat 1) = sm (fun k => if k = t.toNat then ptI (mkM M1 t (2 + w).toNat 1) t else ptI M (k : Int)) 600 := by
        refine sm_congr (fun k hk => ?_)
        by_cases e : k = t.toNat
        · rw [if_pos e]
          have e2 : (k : Int) = t := by omega
          rw [e2]
        · rw [if_neg e]
          unfold ptI
          rw [hpy _ (by omega) (by omega), if_neg (show ¬ (k : Int) = t by omega)]
      rw [e1, sm_upd _ _ (show t.toNat < 600 by omega)]
      have e3 : ((t.toNat : Nat) : Int) = t := by omega
      have hb := pyC_b M t
      unfold ptC
      rw [e3]
      unfold ptI
      rw [hpy t ht.1 ht.2, if_pos rfl]
      generalize sm _ 600 = A
      by_cases q1 : pyC M t = 1
      · rw [if_neg (show ¬ 1 < pyC M t by omega), if_pos (show 1 < pyC M t + 1 by omega), if_pos q1]; omega
      · rw [if_neg q1]
        by_cases q2 : 1 < pyC M t
        · rw [if_pos q2, if_pos (show 1 < pyC M t + 1 by omega)]; omega
        · rw [if_neg q2, if_neg (show ¬ 1 < pyC M t + 1 by omega)]; omega
    have hbt := bt_paid h1 ht
    unfold R0
    rw [o3n 1 (by decide) (by decide) (by decide) (by decide) (by decide), e0, hn 0 (by omega) (by omega) (by omega) (by omega), hn 1 (by omega) (by omega) (by omega) (by omega), hn 3 (by omega) (by omega) (by omega) (by omega), hn 5 (by omega) (by omega) (by omega) (by omega), hn 6 (by omega) (by omega) (by omega) (by omega), hn 7 (by omega) (by omega) (by omega) (by omega), hpt, cbA_c hq5]
    have hO0 : ∀ j : Int, pyO2 O w t 0 j = if j = 8 ∧ pyC M t = 1 then O 0 8 + 1 else O 0 j := by
      intro j
      unfold pyO2 pyO1
      rw [hbt]
      by_cases q1 : pyC M t = 1
      · rw [if_pos q1, oc_at]
        by_cases q2 : j = 8
        · rw [up_eq q2, if_pos ⟨q2, q1⟩]
        · rw [up_ne q2, if_neg (fun q => q2 q.1)]
      · rw [if_neg q1, if_neg (fun q => q1 q.2), oc_nc (by decide), oc_nc (by decide)]
    rw [hO0 0, hO0 1, hO0 8, hO0 9, hO0 10, if_neg (by omega), if_neg (by omega), if_neg (show ¬ ((9 : Int) = 8 ∧ pyC M t = 1) by omega), if_neg (show ¬ ((10 : Int) = 8 ∧ pyC M t = 1) by omega)]
    refine ⟨b1, b2, ⟨?_, b3.2.1, b3.2.2⟩, fun i i1 i2 => by rw [hn _ (by omega) (by omega) (by omega) (by omega)]; exact b4 i i1 i2, b5, b6, b7⟩
    by_cases q1 : pyC M t = 1
    · rw [if_pos ⟨rfl, q1⟩, if_pos q1, b3.1]
    · rw [if_neg (fun q => q1 q.2), if_neg q1, Int.add_zero, b3.1]
  · intro s v s1 s2 v1 v2
    obtain ⟨a1, a2, a3, a4⟩ := h8 s v s1 s2 v1 v2
    have eds : ds (mkM M1 t (2 + w).toNat 1) s = ds M s := hn _ (by omega) (by omega) (by omega) (by omega)
    rw [epd v s v1 v2 s1 s2, eds, clM_c hD ⟨s1, s2⟩, hq5 s v s1 s2 v1 v2, hn (8 + 15 * v + 9) (by omega) (by omega) (by omega) (by omega)]
    have hm2 : qb M s (2 + v).toNat = 1 ∨ (v = w ∧ s = t) → qb (mkM M1 t (2 + w).toNat 1) s (2 + v).toNat = 1 := by
      intro q
      rw [qb_ad hF1 ⟨s1, s2⟩ (by omega)]
      by_cases e : s = t ∧ (2 + v).toNat = (2 + w).toNat
      · rw [if_pos e]
      · rw [if_neg e, hq1 s _ s1 s2]
        rcases q with g | g
        · exact g
        · exact absurd ⟨g.2, by rw [g.1]⟩ e
    by_cases e : v = w ∧ s = t
    · rw [if_pos e]
      obtain ⟨rfl, rfl⟩ := e
      refine ⟨fun _ => ⟨hm2 (Or.inr ⟨rfl, rfl⟩), hc⟩, fun _ => by omega, fun q => ?_, a4⟩
      rw [h9] at q; omega
    · rw [if_neg e]
      exact ⟨fun q => ⟨hm2 (Or.inl (a1 q).1), (a1 q).2⟩, a2, a3, a4⟩
