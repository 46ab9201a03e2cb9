/-! THE RELATION is kept: waiting begun, a customer taken out, payments, disputes opened -/
set_option maxHeartbeats 4000000 in
set_option maxRecDepth 100000 in
theorem RR_win2 {O O' : Of} {M M' : Int → Int} (h : RR O M) (ho : ∀ c : Nat, (c < 10 ∨ 17 < c) → O' c = O c) (hm : ∀ j : Int, (j < 8 ∨ 53 ≤ j) → M' j = M j) (hW : RW O' M') (hI : RI M') : RR O' M' := by
  obtain ⟨h1, h2, h3, h4, h5, h6, h7, h8⟩ := h
  have hq : ∀ s f, 0 ≤ s → qb M' s f = qb M s f := fun s f s1 => by unfold qb; rw [hm _ (by omega)]
  have hD : SmD M M' := ⟨fun j j1 j2 => hm j (by omega), fun s s1 s2 => hq s 0 s1⟩
  exact ⟨RF_cg h1 (ho 3 (by decide)) (fun j j1 => hm j (by omega)), RD_cg h2 ⟨ho 6 (by decide), ho 7 (by decide), ho 8 (by decide)⟩ hD, RP_cg h3 (ho 4 (by decide)) (by rw [hm 0 (by omega)]; exact Int.le_refl _) (fun j j1 j2 => hm j (by omega)) (fun s w s1 _ _ _ => hq s _ s1), hW, RM_cg h5 ⟨by rw [ho 18 (by decide)], ho 19 (by decide), ho 20 (by decide)⟩ (hm 0 (by omega)) (hm 2 (by omega)) (fun j j1 j2 => hm j (by omega)), RQ_cg h6 ⟨ho 21 (by decide), ho 22 (by decide)⟩ (hm 4 (by omega)) (fun j j1 j2 => hm j (by omega)), R0_cg h7 ⟨ho 0 (by decide), ho 1 (by decide)⟩ (fun j j1 => hm j (by omega)) (fun j j1 j2 => hm j (by omega)) (fun s w s1 _ _ _ => hq s _ s1), hI⟩
set_option maxHeartbeats 4000000 in
set_option maxRecDepth 100000 in
theorem RR_wait {O : Of} {M : Int → Int} {w t : Int} (h : RR O M) (hw : 0 ≤ w ∧ w < 3) (ht : 0 ≤ t ∧ t < 600) (hp : pd M w t = 0) (hc : ¬ clM M t = 0) : RR (oc (oc O 12 (up (O 12) w t)) 13 (up (O 13) w 0)) (up (up M (8 + 15 * w + 9) (t + 1)) (8 + 15 * w + 10) 0) := by
  obtain ⟨M', hM⟩ : ∃ M', M' = up (up M (8 + 15 * w + 9) (t + 1)) (8 + 15 * w + 10) 0 := ⟨_, rfl⟩
  obtain ⟨O', hO⟩ : ∃ O', O' = oc (oc O 12 (up (O 12) w t)) 13 (up (O 13) w 0) := ⟨_, rfl⟩
  rw [← hM, ← hO]
  have hn : ∀ j : Int, ¬ j = 8 + 15 * w + 9 → ¬ j = 8 + 15 * w + 10 → M' j = M j := fun j j1 j2 => by rw [hM, up_ne j2, up_ne j1]
  have h9 : M' (8 + 15 * w + 9) = t + 1 := by rw [hM, up_ne (by omega), up_eq rfl]
  have h10 : M' (8 + 15 * w + 10) = 0 := by rw [hM, up_eq rfl]
  have ho : ∀ c : Nat, ¬ c = 12 → ¬ c = 13 → O' c = O c := fun c c1 c3 => by rw [hO, oc_nc c3, oc_nc c1]
  have e12 : O' 12 = up (O 12) w t := by rw [hO, oc_nc (by decide), oc_at]
  have e13 : O' 13 = up (O 13) w 0 := by rw [hO, oc_at]
  have hT := h.2.2.2.2.2.2.1.1.2.1
  have hI := h.2.2.2.2.2.2.2
  have hq : ∀ s f, 0 ≤ s → qb M' s f = qb M s f := fun s f s1 => by unfold qb; rw [hn _ (by omega) (by omega)]
  have hD : SmD M M' := ⟨fun j j1 j2 => hn j (by omega) (by omega), fun s s1 s2 => hq s 0 s1⟩
  refine RR_win2 h (fun c hc => ho c (by omega) (by omega)) (fun j j1 => hn j (by omega) (by omega)) (fun v v1 v2 => ?_) (fun s v s1 s2 v1 v2 => ?_)
  · obtain ⟨a1, a2, a3, a4, a5, a6, a7, a8, a9⟩ := h.2.2.2.1 v v1 v2
    rw [ho 10 (by decide) (by decide), ho 11 (by decide) (by decide), ho 14 (by decide) (by decide), ho 15 (by decide) (by decide), ho 16 (by decide) (by decide), ho 17 (by decide) (by decide), e12, e13, hn (8 + 15 * v) (by omega) (by omega), hn (8 + 15 * v + 11) (by omega) (by omega), hn (8 + 15 * v + 12) (by omega) (by omega), hn (8 + 15 * v + 13) (by omega) (by omega), hn (8 + 15 * v + 14) (by omega) (by omega), hn 0 (by omega) (by omega)]
    have a2' : ∀ z : Int, 0 ≤ z → z < M (8 + 15 * v) → O 10 (v * 8 + z) = M' (8 + 15 * v + (1 + z)) := fun z z1 z2 => by rw [hn _ (by omega) (by omega)]; exact a2 z z1 z2
    have a3' : ∀ z : Int, 0 ≤ z → z < 8 → 0 ≤ M' (8 + 15 * v + (1 + z)) ∧ M' (8 + 15 * v + (1 + z)) < 600 := fun z z1 z2 => by rw [hn _ (by omega) (by omega)]; exact a3 z z1 z2
    by_cases e : v = w
    · subst e
      rw [h9, h10, up_eq rfl, up_eq rfl]
      exact ⟨a1, a2', a3', ⟨by omega, by rw [if_neg (by omega)]; omega⟩, ⟨fun _ => rfl, fun _ => rfl, by omega, hT⟩, a6, a7, a8, a9⟩
    · rw [up_ne e, up_ne e, hn (8 + 15 * v + 9) (by omega) (by omega), hn (8 + 15 * v + 10) (by omega) (by omega)]
      exact ⟨a1, a2', a3', a4, a5, a6, a7, a8, a9⟩
  · obtain ⟨b1, b2, b3, b4⟩ := hI s v s1 s2 v1 v2
    have e1 : pd M' v s = pd M v s := hn _ (by omega) (by omega)
    have e2 : ds M' s = ds M s := hn _ (by omega) (by omega)
    rw [e1, e2, clM_c hD ⟨s1, s2⟩, hq s _ s1, hq s _ s1]
    refine ⟨b1, b2, fun c => ?_, b4⟩
    by_cases e : v = w
    · subst e
      rw [h9] at c
      obtain rfl : s = t := by omega
      exact ⟨hp, hc⟩
    · rw [hn _ (by omega) (by omega)] at c
      exact b3 c
set_option maxHeartbeats 4000000 in
set_option maxRecDepth 100000 in
theorem RR_out {O : Of} {M : Int → Int} {w : Int} (h : RR O M) (hw : 0 ≤ w ∧ w < 3) (hl : 0 < M (8 + 15 * w)) : RR (tfO O w) (toM M w) := by
  rw [to_eq M hw]
  have hat := fun i => toR_at (M := M) (w := w) (r := 0) (by omega) i
  have hn : ∀ j : Int, (j < 8 + 15 * w ∨ 8 + 15 * w + 8 < j) → toR M w 0 j = M j := fun j j1 => by rw [hat, if_neg (by omega), if_neg (by omega), if_neg (by omega)]
  have ho : ∀ c : Nat, ¬ c = 10 → ¬ c = 11 → tfO O w c = O c := fun c c1 c3 => tfO_nc ⟨c1, c3⟩
  refine RR_win h (fun c hc => ho c (by omega) (by omega)) (fun j j1 => hn j (by omega)) (fun v v1 v2 => ?_) (fun v v1 v2 => Or.inl (hn _ (by omega)))
  obtain ⟨a1, a2, a3, a4, a5, a6, a7, a8, a9⟩ := h.2.2.2.1 v v1 v2
  obtain ⟨b1, b2, b3, -⟩ := h.2.2.2.1 w hw.1 hw.2
  have e10 : tfO O w 10 = tfR (O 10) w ((O 11 w).toNat - 1) := by unfold tfO; rw [oc_nc (by decide), oc_at]
  have e11 : tfO O w 11 = up (O 11) w (O 11 w - 1) := by unfold tfO; rw [oc_at]
  rw [ho 12 (by decide) (by decide), ho 13 (by decide) (by decide), ho 14 (by decide) (by decide), ho 15 (by decide) (by decide), ho 16 (by decide) (by decide), ho 17 (by decide) (by decide), e10, e11, hn (8 + 15 * v + 9) (by omega), hn (8 + 15 * v + 10) (by omega), hn (8 + 15 * v + 11) (by omega), hn (8 + 15 * v + 12) (by omega), hn (8 + 15 * v + 13) (by omega), hn (8 + 15 * v + 14) (by omega), hn 0 (by omega)]
  have hsz : toR M w 0 (8 + 15 * w) = M (8 + 15 * w) - 1 := by rw [hat, if_neg (by omega), if_pos rfl]
  refine ⟨?_, fun z z1 z2 => ?_, fun z z1 z2 => ?_, a4, a5, a6, a7, a8, a9⟩
  · by_cases e : v = w
    · subst e; rw [hsz, up_eq rfl, a1.2]; omega
    · rw [up_ne e, hn _ (by omega)]; exact a1
  · rw [tfR_at]
    by_cases e : v = w
    · subst e
      rw [hsz] at z2
      rw [if_pos (by omega), hat, if_neg (by omega), if_neg (by omega), if_pos (by omega)]
      have q := a2 (z + 1) (by omega) (by omega)
      have q1 : v * 8 + (z + 1) = v * 8 + z + 1 := by omega
      have q2 : 8 + 15 * v + (1 + (z + 1)) = 8 + 15 * v + (1 + z) + 1 := by omega
      rw [q1, q2] at q
      exact q
    · rw [hn (8 + 15 * v) (by omega)] at z2
      rw [if_neg (by omega), hn _ (by omega)]
      exact a2 z z1 z2
  · by_cases e : v = w
    · subst e; exact slots_toR (by omega) a3 z z1 z2
    · rw [hn _ (by omega)]; exact a3 z z1 z2
/- how often a ticket was paid -/
set_option maxHeartbeats 4000000 in
set_option maxRecDepth 100000 in
theorem bt_paid {O : Of} {M : Int → Int} (h : RF O M) {t : Int} (ht : 0 ≤ t ∧ t < 600) : bt3 (O 3 t / 256 % 8) = pyC M t := by
  have p0 := RF_p h ht (w := 0) (by omega)
  have p1 := RF_p h ht (w := 1) (by omega)
  have p2 := RF_p h ht (w := 2) (by omega)
  have e : pyC M t = pyI M 0 t + pyI M 1 t + pyI M 2 t := by
    unfold pyC
    simp only [sm, Int.ofNat_zero, Int.zero_add]
    rfl
  rw [e, ← p0, ← p1, ← p2]
  unfold fb bt3
  simp only [Int.reduceAdd, Int.add_zero, Int.reduceToNat, Int.reducePow]
  omega
set_option maxHeartbeats 4000000 in
set_option maxRecDepth 100000 in
theorem bt_called {O : Of} {M : Int → Int} (h : RF O M) {t : Int} (ht : 0 ≤ t ∧ t < 600) : bt3 (O 3 t / 2048 % 8) = cbC M t := by
  have p0 := RF_c h ht (w := 0) (by omega)
  have p1 := RF_c h ht (w := 1) (by omega)
  have p2 := RF_c h ht (w := 2) (by omega)
  have e : cbC M t = qb M t (5 + (0 : Int)).toNat + qb M t (5 + (1 : Int)).toNat + qb M t (5 + (2 : Int)).toNat := by
    unfold cbC
    simp only [sm, Int.ofNat_zero, Int.zero_add]
    rfl
  rw [e, ← p0, ← p1, ← p2]
  unfold fb bt3
  simp only [Int.reduceAdd, Int.add_zero, Int.reduceToNat, Int.reducePow]
  omega
