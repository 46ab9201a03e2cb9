/-! THE RELATION is kept: marks, lendings, messages, waiting, who is sent away -/
set_option maxHeartbeats 4000000 in
set_option maxRecDepth 100000 in
theorem qbn {M : Int → Int} {t : Int} {f : Nat} {b s : Int} {g : Nat} (hF : FlB M) (hf : f < 8) (hb : b = 0 ∨ b = 1) (hs : 0 ≤ s ∧ s < 600) (h : ¬ g = f) : qb (mkM M t f b) s g = qb M s g := by
  rcases hb with rfl | rfl
  · rw [qb_rm hF hs, if_neg (fun q => h q.2)]
  · rw [qb_ad hF hs hf, if_neg (fun q => h q.2)]
/- a flag that is no calling back -/
set_option maxHeartbeats 4000000 in
set_option maxRecDepth 100000 in
theorem RR_flag {O O' : Of} {M : Int → Int} {t b : Int} {f : Nat} (h : RR O M) (ht : 0 ≤ t ∧ t < 600) (hf : 1 ≤ f ∧ f < 5) (hb : b = 0 ∨ b = 1) (hb2 : b = 0 → f = 1) (ho : ∀ c : Nat, ¬ c = 3 → O' c = O c) (hF : RF O' (mkM M t f b)) : RR O' (mkM M t f b) := by
  obtain ⟨h1, h2, h3, h4, h5, h6, h7, h8⟩ := h
  have hD : SmD M (mkM M t f b) := by
    rcases hb with rfl | rfl
    · exact SmD_rm h1.1 ht hf.1
    · exact SmD_ad h1.1 ht (by omega)
  have hn : ∀ j : Int, ¬ j = 833 + t → mkM M t f b j = M j := fun j hj => mk_ne hj
  have hq5 : ∀ s w : Int, 0 ≤ s → s < 600 → 0 ≤ w → w < 3 → qb (mkM M t f b) s (5 + w).toNat = qb M s (5 + w).toNat := fun s w s1 s2 w1 w2 => qbn h1.1 (by omega) hb ⟨s1, s2⟩ (by omega)
  refine ⟨hF, RD_cg h2 ⟨ho 6 (by decide), ho 7 (by decide), ho 8 (by decide)⟩ hD, RP_cg h3 (ho 4 (by decide)) (by rw [hn 0 (by omega)]; exact Int.le_refl _) (fun j j1 j2 => hn j (by omega)) hq5, RW_cg h4 (fun c c1 c3 => ho c (by omega)) (by rw [hn 0 (by omega)]; exact Int.le_refl _) (fun j j1 j2 => hn j (by omega)), RM_cg h5 ⟨by rw [ho 18 (by decide)], ho 19 (by decide), ho 20 (by decide)⟩ (hn 0 (by omega)) (hn 2 (by omega)) (fun j j1 j2 => hn j (by omega)), RQ_cg h6 ⟨ho 21 (by decide), ho 22 (by decide)⟩ (hn 4 (by omega)) (fun j j1 j2 => hn j (by omega)), R0_cg h7 ⟨ho 0 (by decide), ho 1 (by decide)⟩ (fun j j1 => hn j (by omega)) (fun j j1 j2 => hn j (by omega)) hq5, RI_cg h8 hD (fun j j1 => hn j (by omega)) (fun w w1 w2 => Or.inl (hn _ (by omega))) (fun s w s1 s2 w1 w2 c => ?_) hq5⟩
  by_cases e : (2 + w).toNat = f
  · rcases hb with g | g
    · have := hb2 g; omega
    · subst g
      rw [qb_ad h1.1 ⟨s1, s2⟩ (by omega)]
      split
      · rfl
      · exact c
  · rw [qbn h1.1 (by omega) hb ⟨s1, s2⟩ e]; exact c
set_option maxHeartbeats 4000000 in
set_option maxRecDepth 100000 in
theorem adO_o {O : Of} {t : Int} {i : Nat} : ∀ c : Nat, ¬ c = 3 → adO O t i c = O c := fun _ h => adO_nc h
set_option maxHeartbeats 4000000 in
set_option maxRecDepth 100000 in
theorem rmO_o {O : Of} {t : Int} {i : Nat} : ∀ c : Nat, ¬ c = 3 → rmO O t i c = O c := fun _ h => rmO_nc h
set_option maxHeartbeats 4000000 in
set_option maxRecDepth 100000 in
theorem RR_mark {O : Of} {M : Int → Int} {w t : Int} (h : RR O M) (hw : 0 ≤ w ∧ w < 3) (ht : 0 ≤ t ∧ t < 600) : RR (adO O t (5 + w).toNat) (mkM M t (2 + w).toNat 1) :=
  RR_flag h ht (by omega) (Or.inr rfl) (by omega) adO_o (RF_set h.1 ht (by omega))
set_option maxHeartbeats 4000000 in
set_option maxRecDepth 100000 in
theorem RR_lend {O : Of} {M : Int → Int} {t : Int} (h : RR O M) (ht : 0 ≤ t ∧ t < 600) : RR (adO O t 1) (mkM M t 1 1) :=
  RR_flag h ht (by omega) (Or.inr rfl) (by omega) adO_o (RF_set h.1 ht (by omega))
set_option maxHeartbeats 4000000 in
set_option maxRecDepth 100000 in
theorem RR_free {O : Of} {M : Int → Int} {t : Int} (h : RR O M) (ht : 0 ≤ t ∧ t < 600) : RR (rmO O t 1) (mkM M t 1 0) :=
  RR_flag h ht (by omega) (Or.inl rfl) (by omega) rmO_o (RF_clr h.1 ht (by omega))
/- a message -/
set_option maxHeartbeats 4000000 in
set_option maxRecDepth 100000 in
theorem sd_ne {M : Int → Int} {a b c d j : Int} (h2 : ¬ j = 2) (h : j < 65 + 3 * M 2 ∨ 65 + 3 * M 2 + 2 < j) : sdM M a b c d j = M j := by
  unfold sdM
  rw [up_ne h2, up_ne (by omega), up_ne (by omega), up_ne (by omega)]
set_option maxHeartbeats 4000000 in
set_option maxRecDepth 100000 in
theorem sd_at {M : Int → Int} {a b c d : Int} (h : 0 ≤ M 2) : sdM M a b c d (65 + 3 * M 2) = M 0 + M 6 ∧ sdM M a b c d (65 + 3 * M 2 + 1) = 100 * a + 10 * b + c ∧ sdM M a b c d (65 + 3 * M 2 + 2) = d := by
  unfold sdM
  refine ⟨?_, ?_, ?_⟩
  · rw [up_ne (by omega), up_ne (by omega), up_ne (by omega), up_eq rfl]
  · rw [up_ne (by omega), up_ne (by omega), up_eq rfl]
  · rw [up_ne (by omega), up_eq rfl]
/- rows that differ where only messages lie -/
set_option maxHeartbeats 4000000 in
set_option maxRecDepth 100000 in
theorem RR_mail {O O' : Of} {M M' : Int → Int} (h : RR O M) (ho : ∀ c : Nat, ¬ c = 18 → ¬ c = 19 → ¬ c = 20 → O' c = O c) (hm : ∀ j : Int, ¬ j = 2 → (j < 65 ∨ 833 ≤ j) → M' j = M j) (hM : RM O' M') : RR O' M' := by
  obtain ⟨h1, h2, h3, h4, h5, h6, h7, h8⟩ := h
  have hq : ∀ s f, 0 ≤ s → qb M' s f = qb M s f := fun s f s1 => by unfold qb; rw [hm _ (by omega) (by omega)]
  have hD : SmD M M' := ⟨fun j j1 j2 => hm j (by omega) (by omega), fun s s1 s2 => hq s 0 s1⟩
  refine ⟨RF_cg h1 (ho 3 (by decide) (by decide) (by decide)) (fun j j1 => hm j (by omega) (by omega)), RD_cg h2 ⟨ho 6 (by decide) (by decide) (by decide), ho 7 (by decide) (by decide) (by decide), ho 8 (by decide) (by decide) (by decide)⟩ hD, RP_cg h3 (ho 4 (by decide) (by decide) (by decide)) (by rw [hm 0 (by omega) (by omega)]; exact Int.le_refl _) (fun j j1 j2 => hm j (by omega) (by omega)) (fun s w s1 _ _ _ => hq s _ s1), RW_cg h4 (fun c c1 c3 => ho c (by omega) (by omega) (by omega)) (by rw [hm 0 (by omega) (by omega)]; exact Int.le_refl _) (fun j j1 j2 => hm j (by omega) (by omega)), hM, RQ_cg h6 ⟨ho 21 (by decide) (by decide) (by decide), ho 22 (by decide) (by decide) (by decide)⟩ (hm 4 (by omega) (by omega)) (fun j j1 j2 => hm j (by omega) (by omega)), R0_cg h7 ⟨ho 0 (by decide) (by decide) (by decide), ho 1 (by decide) (by decide) (by decide)⟩ (fun j j1 => hm j (by omega) (by omega)) (fun j j1 j2 => hm j (by omega) (by omega)) (fun s w s1 _ _ _ => hq s _ s1), RI_cg h8 hD (fun j j1 => hm j (by omega) (by omega)) (fun w w1 w2 => Or.inl (hm _ (by omega) (by omega))) (fun s w s1 _ _ _ c => by rw [hq s _ s1]; exact c) (fun s w s1 _ _ _ => hq s _ s1)⟩
set_option maxHeartbeats 4000000 in
set_option maxRecDepth 100000 in
theorem RR_send {O : Of} {M : Int → Int} {a b c t kind w : Int} (h : RR O M) (hn : M 2 < 150) (ha : 0 ≤ a ∧ a ≤ 3) (hb : 0 ≤ b ∧ b < 3) (hc : 0 ≤ c ∧ c < 3) (ht : 0 ≤ t ∧ t < 600) (hq : a = 1 → b = t % 3) (hk : (a = 0 ∧ kind = 0 ∧ w = b) ∨ (a = 1 ∧ kind = 1 ∧ w = c) ∨ (a = 2 ∧ kind = 3 ∧ w = b) ∨ (a = 3 ∧ kind = 2 ∧ w = b)) : RR (snO O kind w t (O 0 0 + O 1 1)) (sdM M a b c t) := by
  have h5 := h.2.2.2.2.1
  have h7 := h.2.2.2.2.2.2.1
  obtain ⟨m1, m2', m3'⟩ := h5
  have e6 : O 1 1 = M 6 := h7.2.2.2.1 1 (by omega) (by omega)
  have e0 : O 0 0 = M 0 := h7.1.1
  have h6 := h7.2.2.2.2.2.1
  have hs := sd_at (M := M) (a := a) (b := b) (c := c) (d := t) m1.1
  have hz : sdM M a b c t 0 = M 0 := sd_ne (by omega) (by omega)
  have h2 : sdM M a b c t 2 = M 2 + 1 := sdM_2
  refine RR_mail h (fun c c1 c3 c4 => snO_nc ⟨c1, c3, c4⟩) (fun j j1 j2 => sd_ne j1 (by omega)) ?_
  refine ⟨by rw [h2]; omega, by rw [snO_n, h2, m2'], fun i i1 i2 => ?_⟩
  rw [h2] at i2
  have f19 : snO O kind w t (O 0 0 + O 1 1) 19 = up (O 19) (O 18 0) (O 0 0 + O 1 1) := by
    unfold snO
    rw [oc_nc (by decide), oc_nc (by decide), oc_at]
  have f20 : snO O kind w t (O 0 0 + O 1 1) 20 = up (O 20) (O 18 0) ((kind * 3 + w) * 600 + t) := by
    unfold snO
    rw [oc_nc (by decide), oc_at]
  rw [f19, f20, m2']
  by_cases e : i = M 2
  · subst e
    rw [up_eq rfl, up_eq rfl, hs.1, hs.2.1, hs.2.2, e6, e0]
    refine ⟨?_, rfl, ?_⟩
    · unfold MsV
      rw [hz, hs.1, hs.2.1, hs.2.2]
      omega
    · unfold ctM
      rcases hk with ⟨rfl, rfl, rfl⟩ | ⟨rfl, rfl, rfl⟩ | ⟨rfl, rfl, rfl⟩ | ⟨rfl, rfl, rfl⟩
      · rw [if_pos (by omega)]; omega
      · rw [if_neg (by omega), if_pos (by omega)]; omega
      · rw [if_neg (by omega), if_neg (by omega), if_pos (by omega)]; omega
      · rw [if_neg (by omega), if_neg (by omega), if_neg (by omega)]; omega
  · obtain ⟨b1, b2, b3⟩ := m3' i i1 (by omega)
    rw [up_ne e, up_ne e, sd_ne (j := 65 + 3 * i) (by omega) (by omega), sd_ne (j := 65 + 3 * i + 1) (by omega) (by omega), sd_ne (j := 65 + 3 * i + 2) (by omega) (by omega)]
    exact ⟨MsV_cg b1 hz (sd_ne (by omega) (by omega)) (sd_ne (by omega) (by omega)) (sd_ne (by omega) (by omega)), b2, b3⟩
/- rows that differ only in the windows -/
set_option maxHeartbeats 4000000 in
set_option maxRecDepth 100000 in
theorem RR_win {O O' : Of} {M M' : Int → Int} (h : RR O M) (ho : ∀ c : Nat, (c < 10 ∨ 17 < c) → O' c = O c) (hm : ∀ j : Int, (j < 8 ∨ 53 ≤ j) → M' j = M j) (hW : RW O' M') (h9 : ∀ w : Int, 0 ≤ w → w < 3 → M' (8 + 15 * w + 9) = M (8 + 15 * w + 9) ∨ M' (8 + 15 * w + 9) = 0) : RR O' M' := by
  obtain ⟨h1, h2, h3, h4, h5, h6, h7, h8⟩ := h
  have hq : ∀ s f, 0 ≤ s → qb M' s f = qb M s f := fun s f s1 => by unfold qb; rw [hm _ (by omega)]
  have hD : SmD M M' := ⟨fun j j1 j2 => hm j (by omega), fun s s1 s2 => hq s 0 s1⟩
  refine ⟨RF_cg h1 (ho 3 (by decide)) (fun j j1 => hm j (by omega)), RD_cg h2 ⟨ho 6 (by decide), ho 7 (by decide), ho 8 (by decide)⟩ hD, RP_cg h3 (ho 4 (by decide)) (by rw [hm 0 (by omega)]; exact Int.le_refl _) (fun j j1 j2 => hm j (by omega)) (fun s w s1 _ _ _ => hq s _ s1), hW, RM_cg h5 ⟨by rw [ho 18 (by decide)], ho 19 (by decide), ho 20 (by decide)⟩ (hm 0 (by omega)) (hm 2 (by omega)) (fun j j1 j2 => hm j (by omega)), RQ_cg h6 ⟨ho 21 (by decide), ho 22 (by decide)⟩ (hm 4 (by omega)) (fun j j1 j2 => hm j (by omega)), R0_cg h7 ⟨ho 0 (by decide), ho 1 (by decide)⟩ (fun j j1 => hm j (by omega)) (fun j j1 j2 => hm j (by omega)) (fun s w s1 _ _ _ => hq s _ s1), RI_cg h8 hD (fun j j1 => hm j (by omega)) h9 (fun s w s1 _ _ _ c => by rw [hq s _ s1]; exact c) (fun s w s1 _ _ _ => hq s _ s1)⟩
set_option maxHeartbeats 4000000 in
set_option maxRecDepth 100000 in
theorem RR_unwait {O : Of} {M : Int → Int} {w : Int} (h : RR O M) (hw : 0 ≤ w ∧ w < 3) : RR (frO O w) (frM M w) := by
  have hn : ∀ j : Int, ¬ j = 8 + 15 * w + 9 → ¬ j = 8 + 15 * w + 10 → frM M w j = M j := fun j j1 j2 => by unfold frM; rw [up_ne j2, up_ne j1]
  have h9 : frM M w (8 + 15 * w + 9) = 0 := by unfold frM; rw [up_ne (by omega), up_eq rfl]
  have h10 : frM M w (8 + 15 * w + 10) = 0 := by unfold frM; rw [up_eq rfl]
  have ho : ∀ c : Nat, ¬ c = 12 → frO O w c = O c := fun c hc => oc_nc hc
  have hT := h.2.2.2.2.2.2.1.1.2.1
  refine RR_win h (fun c hc => ho c (by omega)) (fun j j1 => hn j (by omega) (by omega)) (fun v v1 v2 => ?_) (fun v v1 v2 => ?_)
  · obtain ⟨a1, a2, a3, a4, a5, a6, a7, a8, a9⟩ := h.2.2.2.1 v v1 v2
    have e12 : frO O w 12 = up (O 12) w (-5) := oc_at _ _ _
    rw [ho 10 (by decide), ho 11 (by decide), ho 13 (by decide), ho 14 (by decide), ho 15 (by decide), ho 16 (by decide), ho 17 (by decide), e12, hn (8 + 15 * v) (by omega) (by omega), hn (8 + 15 * v + 11) (by omega) (by omega), hn (8 + 15 * v + 12) (by omega) (by omega), hn (8 + 15 * v + 13) (by omega) (by omega), hn (8 + 15 * v + 14) (by omega) (by omega), hn 0 (by omega) (by omega)]
    have a2' : ∀ z : Int, 0 ≤ z → z < M (8 + 15 * v) → O 10 (v * 8 + z) = frM M w (8 + 15 * v + (1 + z)) := fun z z1 z2 => by rw [hn _ (by omega) (by omega)]; exact a2 z z1 z2
    have a3' : ∀ z : Int, 0 ≤ z → z < 8 → 0 ≤ frM M w (8 + 15 * v + (1 + z)) ∧ frM M w (8 + 15 * v + (1 + z)) < 600 := fun z z1 z2 => by rw [hn _ (by omega) (by omega)]; exact a3 z z1 z2
    by_cases e : v = w
    · subst e
      rw [h9, h10, up_eq rfl]
      exact ⟨a1, a2', a3', ⟨by omega, by rw [if_pos rfl]⟩, ⟨fun _ => rfl, fun q => absurd rfl q, by omega, hT⟩, a6, a7, a8, a9⟩
    · rw [up_ne e, hn (8 + 15 * v + 9) (by omega) (by omega), hn (8 + 15 * v + 10) (by omega) (by omega)]
      exact ⟨a1, a2', a3', a4, a5, a6, a7, a8, a9⟩
  · by_cases e : v = w
    · subst e; exact Or.inr h9
    · exact Or.inl (hn _ (by omega) (by omega))
set_option maxHeartbeats 4000000 in
set_option maxRecDepth 100000 in
theorem RR_away {O : Of} {M : Int → Int} {w r : Int} (h : RR O M) (hw : 0 ≤ w ∧ w < 3) : RR (awO O w r) (awM M w r) := by
  have hn : ∀ j : Int, ¬ j = 8 + 15 * w + 13 → ¬ j = 8 + 15 * w + 14 → awM M w r j = M j := fun j j1 j2 => by unfold awM; rw [up_ne j2, up_ne j1]
  have h13 : awM M w r (8 + 15 * w + 13) = M (8 + 15 * w + 13) + 1 := by unfold awM; rw [up_ne (by omega), up_eq rfl]
  have h14 : awM M w r (8 + 15 * w + 14) = r := by unfold awM; rw [up_eq rfl]
  have ho : ∀ c : Nat, ¬ c = 16 → ¬ c = 17 → awO O w r c = O c := fun c hc hc2 => by unfold awO; rw [oc_nc hc2, oc_nc hc]
  refine RR_win h (fun c hc => ho c (by omega) (by omega)) (fun j j1 => hn j (by omega) (by omega)) (fun v v1 v2 => ?_) (fun v v1 v2 => Or.inl (hn _ (by omega) (by omega)))
  obtain ⟨a1, a2, a3, a4, a5, a6, a7, a8, a9⟩ := h.2.2.2.1 v v1 v2
  have e16 : awO O w r 16 = up (O 16) w (O 16 w + 1) := by unfold awO; rw [oc_nc (by decide), oc_at]
  have e17 : awO O w r 17 = up (O 17) w r := by unfold awO; rw [oc_at]
  rw [ho 10 (by decide) (by decide), ho 11 (by decide) (by decide), ho 12 (by decide) (by decide), ho 13 (by decide) (by decide), ho 14 (by decide) (by decide), ho 15 (by decide) (by decide), e16, e17, hn (8 + 15 * v) (by omega) (by omega), hn (8 + 15 * v + 9) (by omega) (by omega), hn (8 + 15 * v + 10) (by omega) (by omega), hn (8 + 15 * v + 11) (by omega) (by omega), hn (8 + 15 * v + 12) (by omega) (by omega), hn 0 (by omega) (by omega)]
  have a2' : ∀ z : Int, 0 ≤ z → z < M (8 + 15 * v) → O 10 (v * 8 + z) = awM M w r (8 + 15 * v + (1 + z)) := fun z z1 z2 => by rw [hn _ (by omega) (by omega)]; exact a2 z z1 z2
  have a3' : ∀ z : Int, 0 ≤ z → z < 8 → 0 ≤ awM M w r (8 + 15 * v + (1 + z)) ∧ awM M w r (8 + 15 * v + (1 + z)) < 600 := fun z z1 z2 => by rw [hn _ (by omega) (by omega)]; exact a3 z z1 z2
  refine ⟨a1, a2', a3', a4, a5, a6, a7, ?_, ?_⟩
  · by_cases e : v = w
    · subst e; rw [h13, up_eq rfl, a8]
    · rw [up_ne e, hn _ (by omega) (by omega)]; exact a8
  · by_cases e : v = w
    · subst e; rw [h14, up_eq rfl]
    · rw [up_ne e, hn _ (by omega) (by omega)]; exact a9
