/-! THE RELATION is kept: a tick ends; what the walks ask follows -/
set_option maxHeartbeats 4000000 in
set_option maxRecDepth 100000 in
theorem RR_Sv {O : Of} {M : Int → Int} {w : Int} (h : RR O M) (hw : 0 ≤ w ∧ w < 3) (hn : M 2 < 149) : SvP O w := by
  obtain ⟨h1, h2, h3, h4, h5, h6, h7, h8⟩ := h
  obtain ⟨b1, b2, b3, b4, b5, -⟩ := h4 w hw.1 hw.2
  obtain ⟨t0, t1, t2⟩ := h7.1
  have e0 := h7.2.2.2.1 0 (by omega) (by omega)
  have e2 := h7.2.2.2.1 2 (by omega) (by omega)
  have s5 := h7.2.2.2.2.1
  have s7 := h7.2.2.2.2.2.2
  have n18 := h5.2.1
  have n2 := h5.1
  refine ⟨h1.2.1, RD_Wn h2, RD_Wg h2, by omega, by omega, RP_b h3 h7.1.2, by rw [e0]; exact s5, by rw [e2]; have e7 : (5 : Int) + 2 = 7 := rfl; rw [e7]; omega, ?_, ?_, by rw [b1.2]; exact b1.1, ?_⟩
  · rw [b4.2]; split <;> omega
  · by_cases c : M (8 + 15 * w + 9) = 0
    · left; rw [b4.2, if_pos c]
    · right; rw [b5.2.1 c]; omega
  · by_cases c : M (8 + 15 * w) = 0
    · left; rw [b1.2]; exact c
    · right
      have q := b2 0 (by omega) (by omega)
      rw [Int.add_zero] at q
      rw [q]
      exact b3 0 (by omega) (by omega)
set_option maxHeartbeats 4000000 in
set_option maxRecDepth 100000 in
theorem RR_St {O : Of} {M : Int → Int} (h : RR O M) : StP O := by
  obtain ⟨h1, h2, h3, h4, h5, h6, h7, h8⟩ := h
  have hn := opC_b M
  have ho := h6.1
  refine ⟨h1.2.1, RD_Wn h2, RP_b h3 h7.1.2, by omega, ?_⟩
  by_cases c : O 21 0 = 0
  · exact Or.inl c
  · exact Or.inr (h6.2.2.1 0 (by omega) (by omega)).1
set_option maxHeartbeats 4000000 in
set_option maxRecDepth 100000 in
theorem RR_12 {O : Of} {M : Int → Int} (h : RR O M) : ∀ w : Int, 0 ≤ w → w < 3 → -5 ≤ O 12 w ∧ O 12 w < 600 := by
  intro w w1 w2
  have b := (h.2.2.2.1 w w1 w2).2.2.2.1
  rw [b.2]
  split <;> omega
set_option maxHeartbeats 4000000 in
set_option maxRecDepth 100000 in
theorem RR_tick0 {O : Of} {M : Int → Int} (h : RR O M) (hd : ∀ i : Int, 0 ≤ i → i < M 2 → M 0 + 1 ≤ M (65 + 3 * i)) (h0 : M 0 < 20000) : RR (tdO O) (up M 0 (M 0 + 1)) := by
  obtain ⟨h1, h2, h3, h4, h5, h6, h7, h8⟩ := h
  have hn : ∀ j : Int, ¬ j = 0 → up M 0 (M 0 + 1) j = M j := fun j hj => up_ne hj
  have n0 : up M 0 (M 0 + 1) 0 = M 0 + 1 := up_eq rfl
  have ho : ∀ c : Nat, ¬ c = 0 → tdO O c = O c := fun c hc => oc_nc hc
  have hq : ∀ s f, 0 ≤ s → qb (up M 0 (M 0 + 1)) s f = qb M s f := fun s f s1 => by unfold qb; rw [hn _ (by omega)]
  have hD : SmD M (up M 0 (M 0 + 1)) := ⟨fun j j1 j2 => hn j (by omega), fun s s1 s2 => hq s 0 s1⟩
  refine ⟨RF_cg h1 (ho 3 (by decide)) (fun j j1 => hn j (by omega)), RD_cg h2 ⟨ho 6 (by decide), ho 7 (by decide), ho 8 (by decide)⟩ hD, RP_cg h3 (ho 4 (by decide)) (by rw [n0]; omega) (fun j j1 j2 => hn j (by omega)) (fun s v s1 _ _ _ => hq s _ s1), RW_cg h4 (fun c c1 c3 => ho c (by omega)) (by rw [n0]; omega) (fun j j1 j2 => hn j (by omega)), ?_, RQ_cg h6 ⟨ho 21 (by decide), ho 22 (by decide)⟩ (hn 4 (by omega)) (fun j j1 j2 => hn j (by omega)), ?_, RI_cg h8 hD (fun j j1 => hn j (by omega)) (fun v v1 v2 => Or.inl (hn _ (by omega))) (fun s v s1 _ _ _ c => by rw [hq s _ s1]; exact c) (fun s v s1 _ _ _ => hq s _ s1)⟩
  · obtain ⟨a1, a2, a3⟩ := h5
    refine ⟨by rw [hn 2 (by omega)]; exact a1, by rw [ho 18 (by decide), hn 2 (by omega)]; exact a2, fun i i1 i2 => ?_⟩
    rw [hn 2 (by omega)] at i2
    obtain ⟨⟨b1, b2, b3, b4⟩, b5, b6⟩ := a3 i i1 i2
    have q := hd i i1 i2
    unfold MsV
    rw [ho 19 (by decide), ho 20 (by decide), n0, hn (65 + 3 * i) (by omega), hn (65 + 3 * i + 1) (by omega), hn (65 + 3 * i + 2) (by omega)]
    exact ⟨⟨by omega, b2, b3, b4⟩, b5, b6⟩
  · obtain ⟨b1, b2, b3, b4, b5, b6, b7⟩ := h7
    have e : ∀ j : Int, ¬ j = 0 → tdO O 0 j = O 0 j := fun j hj => by unfold tdO; rw [oc_at, up_ne hj]
    have e0 : tdO O 0 0 = O 0 0 + 1 := by unfold tdO; rw [oc_at, up_eq rfl]
    unfold R0
    rw [e0, e 1 (by omega), e 8 (by omega), e 9 (by omega), e 10 (by omega), ho 1 (by decide), n0, hn 1 (by omega), hn 3 (by omega), hn 5 (by omega), hn 6 (by omega), hn 7 (by omega), ptC_c (fun j j1 j2 => hn j (by omega)), cbA_c (fun s v s1 _ _ _ => hq s _ s1)]
    exact ⟨by omega, b2, b3, fun i i1 i2 => by rw [hn _ (by omega)]; exact b4 i i1 i2, b5, b6, b7⟩
set_option maxHeartbeats 4000000 in
set_option maxRecDepth 100000 in
theorem RR_cw {O : Of} {M : Int → Int} {w : Int} (h : RR O M) (hw : 0 ≤ w ∧ w < 3) (hl : M (8 + 15 * w + 10) < M 0) : RR (cw1 O w) (twM M w) := by
  have b4 := (h.2.2.2.1 w hw.1 hw.2).2.2.2.1
  unfold cw1 twM
  by_cases c : 0 < M (8 + 15 * w + 9)
  · have c1 : ¬ O 12 w = -5 := by rw [b4.2, if_neg (by omega)]; omega
    rw [if_pos c, if_neg c1]
    have hn : ∀ j : Int, ¬ j = 8 + 15 * w + 10 → moM M w 10 1 j = M j := fun j hj => by unfold moM; rw [up_ne hj]
    have n10 : moM M w 10 1 (8 + 15 * w + 10) = M (8 + 15 * w + 10) + 1 := by unfold moM; rw [up_eq rfl]
    have ho : ∀ c : Nat, ¬ c = 13 → oc O 13 (up (O 13) w (O 13 w + 1)) c = O c := fun c hc => oc_nc hc
    refine RR_win h (fun c hc => ho c (by omega)) (fun j hj => hn j (by omega)) (fun v v1 v2 => ?_) (fun v v1 v2 => Or.inl (hn _ (by omega)))
    obtain ⟨a1, a2, a3, a4, a5, a6, a7, a8, a9⟩ := h.2.2.2.1 v v1 v2
    rw [ho 10 (by decide), ho 11 (by decide), ho 12 (by decide), ho 14 (by decide), ho 15 (by decide), ho 16 (by decide), ho 17 (by decide), oc_at, hn (8 + 15 * v) (by omega), hn (8 + 15 * v + 9) (by omega), hn (8 + 15 * v + 11) (by omega), hn (8 + 15 * v + 12) (by omega), hn (8 + 15 * v + 13) (by omega), hn (8 + 15 * v + 14) (by omega), hn 0 (by omega)]
    refine ⟨a1, fun z z1 z2 => by rw [hn _ (by omega)]; exact a2 z z1 z2, fun z z1 z2 => by rw [hn _ (by omega)]; exact a3 z z1 z2, a4, ?_, a6, a7, a8, a9⟩
    by_cases e : v = w
    · subst e
      rw [n10, up_eq rfl]
      refine ⟨fun q => by omega, fun q => by rw [a5.2.1 q], by omega, by omega⟩
    · rw [up_ne e, hn _ (by omega)]
      exact a5
  · have c1 : O 12 w = -5 := by rw [b4.2, if_pos (by omega)]
    rw [if_neg c, if_pos c1]
    exact h
set_option maxHeartbeats 4000000 in
set_option maxRecDepth 100000 in
theorem RR_end {O : Of} {M : Int → Int} (h : RR O M) (hd : ∀ i : Int, 0 ≤ i → i < M 2 → M 0 + 1 ≤ M (65 + 3 * i)) (h0 : M 0 < 20000) : RR (cwO (tdO O)) (tnM (up M 0 (M 0 + 1)) 3) := by
  have g := RR_tick0 h hd h0
  have hb := fun w (w1 : 0 ≤ w) (w2 : w < 3) => (h.2.2.2.1 w w1 w2).2.2.2.2.1.2.2.2
  have e : ∀ w : Int, 0 ≤ w → up M 0 (M 0 + 1) (8 + 15 * w + 10) = M (8 + 15 * w + 10) := fun w w1 => up_ne (by omega)
  have e0 : up M 0 (M 0 + 1) 0 = M 0 + 1 := up_eq rfl
  have b0 := hb 0 (by omega) (by omega)
  have b1 := hb 1 (by omega) (by omega)
  have b2 := hb 2 (by omega) (by omega)
  have s0 := RR_cw (w := 0) g (by omega) (by rw [e 0 (by omega), e0]; omega)
  have s1 := RR_cw (w := 1) s0 (by omega) (by rw [tw_ne (by omega), tw_ne (by omega), e 1 (by omega), e0]; omega)
  have s2 := RR_cw (w := 2) s1 (by omega) (by rw [tw_ne (by omega), tw_ne (by omega), tw_ne (by omega), tw_ne (by omega), e 2 (by omega), e0]; omega)
  exact s2
/- counts at the tick's end -/
set_option maxHeartbeats 4000000 in
set_option maxRecDepth 100000 in
theorem RC_end {M M' : Int → Int} (h : RS M (fun _ => 1) 147) (hv : ∀ i : Int, 0 ≤ i → i < M 2 → M (65 + 3 * i) ≤ M 0 + 9) (h0 : M' 0 = M 0 + 1) (hn : 0 ≤ M 2) (hm : ∀ j : Int, j = 2 ∨ (65 ≤ j ∧ j < 65 + 3 * M 2) → M' j = M j) (hw : ∀ v : Int, 0 ≤ v → v < 3 → wt M' v = wt M v) : RC M' := by
  obtain ⟨h1, h2, h3⟩ := h
  have e2 := hm 2 (by omega)
  have en : nM M' = nM M := by unfold nM; rw [e2]
  have ec : ∀ g : Gw, cm g M' (nM M') = cm g M (nM M) := fun g => by
    rw [en]
    refine sm_congr (fun k hk => ?_)
    unfold nM at hk
    rw [hm _ (by omega), hm _ (by omega)]
  have zero : ∀ g : Gw, (∀ (i : Nat) (D C : Int), D ≤ M 0 + 9 → g i D C = 0) → cm g M (nM M) = 0 := fun g hg => by
    have e : cm g M (nM M) = sm (fun _ => (0 : Int)) (nM M) := sm_congr (fun k hk => hg _ _ _ (hv _ (by omega) (by unfold nM at hk; omega)))
    rw [e]
    generalize nM M = n
    induction n with
    | zero => rfl
    | succ n ih => rw [sm_s, ih]; rfl
  refine ⟨fun w d w1 w2 d1 d2 => ?_, fun i i1 i2 => ?_⟩
  · rw [h0] at d1 d2
    rw [ec, ec, ec, ec, h0, hw w w1 w2]
    by_cases c : d ≤ M 0 + 9
    · have a := h1 w d w1 w2 d1 c
      dsimp only at a
      omega
    · have a := h1 w (M 0 + 1) w1 w2 (by omega) (by omega)
      dsimp only at a
      have b := wt_b M w
      have z0 := zero (gM w d) (fun i D C q => by unfold gM; rw [if_neg (fun r => by have := r.2.2; omega)])
      have z1 := zero (gQ w d) (fun i D C q => by unfold gQ; rw [if_neg (fun r => by have := r.2.2; omega)])
      have z2 := zero (gR w d) (fun i D C q => by unfold gR; rw [if_neg (fun r => by have := r.2.2; omega)])
      rw [z0, z1, z2]
      omega
  · rw [e2] at i2
    rw [h0, hm _ (by omega)]
    have := hv i i1 i2
    omega
