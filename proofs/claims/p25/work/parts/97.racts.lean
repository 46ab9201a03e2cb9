/-! THE RELATION is kept by a sale, by who comes, by a setting -/
set_option maxHeartbeats 4000000 in
set_option maxRecDepth 100000 in
theorem RF_ad2 {O : Of} {M M' : Int → Int} {t : Int} {i : Nat} (h : RF O M) (hF : FlB M') (hD : ∀ s : Int, 0 ≤ s → s < 600 → clM M' s = clM M s) (hi : i < 14 ∧ ¬ i = 3 ∧ ¬ i = 4) (hb : ∀ s : Int, 0 ≤ s → s < 600 → ∀ j : Nat, j < 14 → ¬ j = 3 → ¬ j = 4 → bitM M' s j = if s = t ∧ j = i then 1 else bitM M s j) : RF (adO O t i) M' := by
  obtain ⟨h1, h2, h3⟩ := h
  refine ⟨hF, adO_B h2 hi.1, fun s s1 s2 => ⟨?_, fun j j1 j2 j3 => ?_⟩⟩
  · have q3 := fb_ad (t := t) (i := i) (j := 3) h2 ⟨s1, s2⟩ hi.1
    have q4 := fb_ad (t := t) (i := i) (j := 4) h2 ⟨s1, s2⟩ hi.1
    rw [if_neg (by omega)] at q3 q4
    unfold fb at q3 q4
    rw [cls_bits, q3, q4, ← cls_bits, hD s s1 s2]
    exact (h3 s s1 s2).1
  · rw [fb_ad h2 ⟨s1, s2⟩ hi.1, hb s s1 s2 j j1 j2 j3, (h3 s s1 s2).2 j j1 j2 j3]
set_option maxHeartbeats 4000000 in
set_option maxRecDepth 100000 in
theorem RR_fl {O O' : Of} {M M' : Int → Int} (h : RR O M) (ho : ∀ c : Nat, ¬ c = 0 → ¬ c = 3 → ¬ c = 6 → ¬ c = 7 → ¬ c = 8 → O' c = O c) (ho0 : O' 0 1 = M' 1 ∧ (0 ≤ M' 1 ∧ M' 1 < 65537) ∧ ∀ j : Int, ¬ j = 1 → O' 0 j = O 0 j) (hm : ∀ j : Int, ¬ (53 ≤ j ∧ j < 65) → ¬ (833 ≤ j ∧ j < 1433) → ¬ j = 1 → M' j = M j) (hq : ∀ s : Int, ∀ f : Nat, 0 ≤ s → s < 600 → 1 ≤ f → f < 8 → qb M' s f = qb M s f) (hF : RF O' M') (hD : RD O' M') (hc : ∀ s : Int, 0 ≤ s → s < 600 → ¬ clM M s = 0 → ¬ clM M' s = 0) : RR O' M' := by
  obtain ⟨h1, h2, h3, h4, h5, h6, h7, h8⟩ := h
  refine ⟨hF, hD, RP_cg h3 (ho 4 (by decide) (by decide) (by decide) (by decide) (by decide)) (by rw [hm 0 (by omega) (by omega) (by omega)]; exact Int.le_refl _) (fun j j1 j2 => hm j (by omega) (by omega) (by omega)) (fun s v s1 s2 v1 v2 => hq s _ s1 s2 (by omega) (by omega)), RW_cg h4 (fun c c1 c3 => ho c (by omega) (by omega) (by omega) (by omega) (by omega)) (by rw [hm 0 (by omega) (by omega) (by omega)]; exact Int.le_refl _) (fun j j1 j2 => hm j (by omega) (by omega) (by omega)), RM_cg h5 ⟨by rw [ho 18 (by decide) (by decide) (by decide) (by decide) (by decide)], ho 19 (by decide) (by decide) (by decide) (by decide) (by decide), ho 20 (by decide) (by decide) (by decide) (by decide) (by decide)⟩ (hm 0 (by omega) (by omega) (by omega)) (hm 2 (by omega) (by omega) (by omega)) (fun j j1 j2 => hm j (by omega) (by omega) (by omega)), RQ_cg h6 ⟨ho 21 (by decide) (by decide) (by decide) (by decide) (by decide), ho 22 (by decide) (by decide) (by decide) (by decide) (by decide)⟩ (hm 4 (by omega) (by omega) (by omega)) (fun j j1 j2 => hm j (by omega) (by omega) (by omega)), ?_, ?_⟩
  · obtain ⟨b1, b2, b3, b4, b5, b6, b7⟩ := h7
    unfold R0
    rw [ho0.2.2 0 (by omega), ho0.1, ho0.2.2 8 (by omega), ho0.2.2 9 (by omega), ho0.2.2 10 (by omega), ho 1 (by decide) (by decide) (by decide) (by decide) (by decide), hm 0 (by omega) (by omega) (by omega), hm 3 (by omega) (by omega) (by omega), hm 5 (by omega) (by omega) (by omega), hm 6 (by omega) (by omega) (by omega), hm 7 (by omega) (by omega) (by omega), ptC_c (fun j j1 j2 => hm j (by omega) (by omega) (by omega)), cbA_c (fun s v s1 s2 v1 v2 => hq s _ s1 s2 (by omega) (by omega))]
    exact ⟨b1, ⟨rfl, ho0.2.1⟩, b3, fun i i1 i2 => by rw [hm _ (by omega) (by omega) (by omega)]; exact b4 i i1 i2, b5, b6, b7⟩
  · intro s v s1 s2 v1 v2
    obtain ⟨a1, a2, a3, a4⟩ := h8 s v s1 s2 v1 v2
    have e1 : pd M' v s = pd M v s := hm _ (by omega) (by omega) (by omega)
    have e2 : ds M' s = ds M s := hm _ (by omega) (by omega) (by omega)
    rw [e1, e2, hq s _ s1 s2 (by omega) (by omega), hq s _ s1 s2 (by omega) (by omega), hm (8 + 15 * v + 9) (by omega) (by omega) (by omega)]
    exact ⟨fun q => ⟨(a1 q).1, hc s s1 s2 (a1 q).2⟩, a2, fun q => ⟨(a3 q).1, hc s s1 s2 (a3 q).2⟩, fun q => hc s s1 s2 (a4 q)⟩
/- rows that are the same where messages, payments and waiting are counted -/
set_option maxHeartbeats 4000000 in
set_option maxRecDepth 100000 in
theorem T1_cg {O O' : Of} {M M' : Int → Int} (h : T1 O M) (hR : RR O' M') (hm : ∀ j : Int, j = 0 ∨ j = 2 ∨ j = 4 ∨ (65 ≤ j ∧ j < 833) → M' j = M j) (hw : ∀ v : Int, 0 ≤ v → v < 3 → M' (8 + 15 * v + 9) = M (8 + 15 * v + 9) ∧ M' (8 + 15 * v + 11) = M (8 + 15 * v + 11) ∧ M' (8 + 15 * v + 12) = M (8 + 15 * v + 12)) : T1 O' M' := by
  obtain ⟨h1, ⟨h2, h3⟩, h4, h5⟩ := h
  have hn := h1.2.2.2.2.1.1
  have e0 := hm 0 (by omega)
  have e2 := hm 2 (by omega)
  have en : nM M' = nM M := by unfold nM; rw [e2]
  have ec : ∀ g : Gw, cm g M' (nM M') = cm g M (nM M) := fun g => by
    rw [en]
    refine sm_congr (fun k hk => ?_)
    unfold nM at hk
    rw [hm _ (by omega), hm _ (by omega)]
  have ew : ∀ v : Int, 0 ≤ v → v < 3 → wt M' v = wt M v := fun v v1 v2 => wt_ne (hw v v1 v2).1
  refine ⟨hR, ⟨fun w d w1 w2 d1 d2 => ?_, fun i i1 i2 => ?_⟩, fun v v1 v2 => ?_, by rw [hm 4 (by omega), e0]; exact h5⟩
  · rw [e0] at d1 d2
    rw [ec, ec, ec, ec, e0, ew w w1 w2]
    exact h2 w d w1 w2 d1 d2
  · rw [e2] at i2
    rw [e0, hm _ (by omega)]
    exact h3 i i1 i2
  · rw [ew v v1 v2, (hw v v1 v2).2.1, (hw v v1 v2).2.2, e0]
    exact h4 v v1 v2
set_option maxHeartbeats 4000000 in
set_option maxRecDepth 100000 in
theorem SELL {O : Of} {M : Int → Int} {t : Int} (h : T1 O M) : seV O t = slR M t ∧ T1 (seO O t) (slM M t) ∧ slM M t 0 = M 0 ∧ tdR (slR M t) ∧ (slR M t < 0 → slM M t = M ∧ seO O t = O) := by
  have hR := h.1
  obtain ⟨h1, h2, h3, h4, h5, h6, h7, h8⟩ := h.1
  unfold seV slR seO slM tdR
  by_cases c0 : 0 ≤ t ∧ t < 600
  · rw [if_pos c0, if_pos c0, if_pos c0, if_pos c0]
    have hW := h2.1 (t / 100) (by omega) (by omega)
    obtain ⟨d1, d2, d3⟩ := h2.2 (t / 100) (by omega) (by omega)
    by_cases c1 : M (53 + 2 * (t / 100)) = 1
    · have e7 : ¬ O 7 (t / 100) = -5 := by rw [d1, if_pos c1]; omega
      rw [if_neg e7, if_pos c1, if_neg e7, if_pos c1]
      exact ⟨rfl, h, rfl, by decide, fun _ => ⟨rfl, rfl⟩⟩
    · have e7 : O 7 (t / 100) = -5 := by rw [d1, if_neg c1]
      rw [if_pos e7, if_neg c1, if_pos e7, if_neg c1, RF_0 h1 c0]
      by_cases c3 : qb M t 0 = 1
      · rw [if_pos c3, if_pos c3, if_pos c3, if_pos c3]
        exact ⟨rfl, h, rfl, by decide, fun _ => ⟨rfl, rfl⟩⟩
      · rw [if_neg c3, if_neg c3, if_neg c3, if_neg c3]
        have q0 : qb M t 0 = 0 := by have := qb_01 M t 0; omega
        have hn : ∀ j : Int, ¬ j = 833 + t → mkM M t 0 1 j = M j := fun j hj => mk_ne hj
        have hqq : ∀ s : Int, ∀ f : Nat, 0 ≤ s → s < 600 → qb (mkM M t 0 1) s f = if s = t ∧ f = 0 then 1 else qb M s f := fun s f s1 s2 => qb_ad h1.1 ⟨s1, s2⟩ (by decide)
        have hcl : ∀ s : Int, 0 ≤ s → s < 600 → clM (mkM M t 0 1) s = clM M s := fun s s1 s2 => by
          by_cases e : s = t
          · have q1 : qb (mkM M t 0 1) t 0 = 1 := by rw [hqq t 0 c0.1 c0.2, if_pos ⟨rfl, rfl⟩]
            rw [e]
            unfold clM
            rw [q1, hn _ (by omega), hn _ (by omega), if_pos rfl, if_neg c1, if_neg c3]
          · have q1 : qb (mkM M t 0 1) s 0 = qb M s 0 := by rw [hqq s 0 s1 s2, if_neg (fun q => e q.1)]
            unfold clM
            rw [q1, hn _ (by omega), hn _ (by omega)]
        have hsd : sdC (mkM M t 0 1) (t / 100) = sdC M (t / 100) + 1 := by
          have e1 : sdC (mkM M t 0 1) (t / 100) = sm (fun k => if k = (t % 100).toNat then 1 else qb M (100 * (t / 100) + k) 0) 100 := by
            refine sm_congr (fun k hk => ?_)
            rw [hqq _ 0 (by omega) (by omega)]
            by_cases e : k = (t % 100).toNat
            · rw [if_pos e, if_pos ⟨by omega, rfl⟩]
            · rw [if_neg e, if_neg (fun q => by have := q.1; omega)]
          have e2 : 100 * (t / 100) + (((t % 100).toNat : Nat) : Int) = t := by omega
          rw [e1, sm_upd _ _ (show (t % 100).toNat < 100 by omega), e2, q0]
          unfold sdC
          omega
        have hb := sdC_b M (t / 100)
        have hRF : RF (adO O t 0) (mkM M t 0 1) := by
          refine RF_ad2 h1 (FlB_mk h1.1 (by decide) (Or.inr rfl)) hcl (by omega) (fun s s1 s2 j j1 j2 j3 => ?_)
          unfold bitM opI pyI
          rw [hqq s 0 s1 s2, hqq s 1 s1 s2, if_neg (show ¬ (s = t ∧ 1 = 0) by omega), hn (1433 + s) (by omega)]
          by_cases e0 : j = 0
          · rw [if_pos e0, if_pos e0]
            by_cases e : s = t
            · rw [if_pos ⟨e, rfl⟩, if_pos ⟨e, e0⟩]
            · rw [if_neg (fun q => e q.1), if_neg (fun q => e q.1)]
          · rw [if_neg e0, if_neg e0, if_neg (show ¬ (s = t ∧ j = 0) from fun q => e0 q.2)]
            by_cases e8 : j < 8
            · rw [if_pos e8, if_pos e8]
              by_cases e12 : j = 1 ∨ j = 2
              · rcases e12 with g | g
                · rw [if_pos g, if_pos g]
                · rw [if_neg (show ¬ j = 1 by omega), if_pos g, if_neg (show ¬ j = 1 by omega), if_pos g]
              · rw [hqq s (j - 3) s1 s2, if_neg (show ¬ (s = t ∧ j - 3 = 0) by omega)]
            · rw [if_neg e8, if_neg e8, hn (2033 + 600 * ((j : Int) - 8) + s) (by omega), hqq s (j - 6) s1 s2, if_neg (show ¬ (s = t ∧ j - 6 = 0) by omega)]
        have ho6 : ∀ c : Nat, ¬ c = 3 → ¬ c = 6 → oc (adO O t 0) 6 (up (O 6) (t / 100) (O 6 (t / 100) + 1)) c = O c := fun c c1 c3 => by rw [oc_nc c3, adO_nc c1]
        have hRR : RR (oc (adO O t 0) 6 (up (O 6) (t / 100) (O 6 (t / 100) + 1))) (mkM M t 0 1) := by
          refine RR_fl hR (fun c c1 c3 c4 c5 c6 => ho6 c c3 c4) ⟨by rw [ho6 0 (by decide) (by decide), hn 1 (by omega)]; exact h7.2.1.1, by rw [hn 1 (by omega)]; exact h7.2.1.2, fun j hj => by rw [ho6 0 (by decide) (by decide)]⟩ (fun j j1 j2 j3 => hn j (by omega)) (fun s f s1 s2 f1 f2 => by rw [hqq s f s1 s2, if_neg (by omega)]) (RF_cg hRF (oc_nc (by decide)) (fun _ _ => rfl)) ?_ (fun s s1 s2 q => by rw [hcl s s1 s2]; exact q)
          refine ⟨fun d e1 e2 => by rw [hn _ (by omega), hn _ (by omega)]; exact h2.1 d e1 e2, fun d e1 e2 => ?_⟩
          obtain ⟨k1, k2, k3⟩ := h2.2 d e1 e2
          rw [ho6 7 (by decide) (by decide), ho6 8 (by decide) (by decide), oc_at, hn (53 + 2 * d) (by omega), hn (53 + 2 * d + 1) (by omega)]
          refine ⟨k1, ?_, fun c c1 c3 => ?_⟩
          · by_cases e : d = t / 100
            · rw [up_eq e, e, hsd, d2]
            · rw [up_ne e, k2]
              refine sm_congr (fun k hk => ?_)
              rw [hqq _ 0 (by omega) (by omega), if_neg (fun q => by have := q.1; omega)]
          · rw [k3 c c1 c3]
            have ec : ofC (mkM M t 0 1) d c = ofC M d c := ct_congr (fun k hk => by rw [hcl _ (by omega) (by omega)])
            rw [ec]
        refine ⟨?_, T1_cg h hRR (fun j hj => hn j (by omega)) (fun v v1 v2 => ⟨hn _ (by omega), hn _ (by omega), hn _ (by omega)⟩), hn 0 (by omega), by omega, fun q => by omega⟩
        rw [d2, hsd, Int.mul_comm]
  · rw [if_neg c0, if_neg c0, if_neg c0, if_neg c0]
    exact ⟨rfl, h, rfl, by decide, fun _ => ⟨rfl, rfl⟩⟩
set_option maxHeartbeats 4000000 in
set_option maxRecDepth 100000 in
theorem COME {O : Of} {M : Int → Int} {w t : Int} (h : T1 O M) : acV O w t = cmR M w t ∧ T1 (acO O w t) (cmM M w t) ∧ cmM M w t 0 = M 0 ∧ tdR (cmR M w t) ∧ (cmR M w t < 0 → cmM M w t = M ∧ acO O w t = O) := by
  unfold acV cmR acO cmM tdR
  by_cases c0 : (0 ≤ w ∧ w ≤ 2) ∧ 0 ≤ t ∧ t < 600
  · have c0' : (0 ≤ w ∧ w < 3) ∧ 0 ≤ t ∧ t < 600 := by omega
    rw [if_pos c0, if_pos c0, if_pos c0', if_pos c0']
    obtain ⟨b1, b2, b3, -⟩ := h.1.2.2.2.1 w c0'.1.1 c0'.1.2
    rw [b1.2]
    by_cases c1 : M (8 + 15 * w) = 8
    · rw [if_pos (by omega), if_pos c1, if_pos (by omega), if_pos c1]
      exact ⟨rfl, h, rfl, by decide, fun _ => ⟨rfl, rfl⟩⟩
    · rw [if_neg (by omega), if_neg c1, if_neg (by omega), if_neg c1]
      have hn : ∀ j : Int, ¬ j = 8 + 15 * w → ¬ j = 8 + 15 * w + (1 + M (8 + 15 * w)) → moM (cm0 M w t) w 0 1 j = M j := fun j j1 j2 => by
        unfold moM cm0
        rw [up_ne (by omega), up_ne j2]
      have hs : moM (cm0 M w t) w 0 1 (8 + 15 * w) = M (8 + 15 * w) + 1 := cm_size b1.1.1
      have hl : moM (cm0 M w t) w 0 1 (8 + 15 * w + (1 + M (8 + 15 * w))) = t := by
        unfold moM cm0
        rw [up_ne (by omega), up_eq rfl]
      have ho : ∀ c : Nat, ¬ c = 10 → ¬ c = 11 → oc (oc O 10 (up (O 10) (w * 8 + M (8 + 15 * w)) t)) 11 (up (O 11) w (M (8 + 15 * w) + 1)) c = O c := fun c c1 c3 => by rw [oc_nc c3, oc_nc c1]
      have hRR : RR (oc (oc O 10 (up (O 10) (w * 8 + M (8 + 15 * w)) t)) 11 (up (O 11) w (M (8 + 15 * w) + 1))) (moM (cm0 M w t) w 0 1) := by
        refine RR_win h.1 (fun c hc => ho c (by omega) (by omega)) (fun j hj => hn j (by omega) (by omega)) (fun v v1 v2 => ?_) (fun v v1 v2 => Or.inl (hn _ (by omega) (by omega)))
        obtain ⟨a1, a2, a3, a4, a5, a6, a7, a8, a9⟩ := h.1.2.2.2.1 v v1 v2
        have e10 : oc (oc O 10 (up (O 10) (w * 8 + M (8 + 15 * w)) t)) 11 (up (O 11) w (M (8 + 15 * w) + 1)) 10 = up (O 10) (w * 8 + M (8 + 15 * w)) t := by rw [oc_nc (by decide), oc_at]
        have e11 : oc (oc O 10 (up (O 10) (w * 8 + M (8 + 15 * w)) t)) 11 (up (O 11) w (M (8 + 15 * w) + 1)) 11 = up (O 11) w (M (8 + 15 * w) + 1) := by rw [oc_at]
        rw [ho 12 (by decide) (by decide), ho 13 (by decide) (by decide), ho 14 (by decide) (by decide), ho 15 (by decide) (by decide), ho 16 (by decide) (by decide), ho 17 (by decide) (by decide), e10, e11, hn (8 + 15 * v + 9) (by omega) (by omega), hn (8 + 15 * v + 10) (by omega) (by omega), hn (8 + 15 * v + 11) (by omega) (by omega), hn (8 + 15 * v + 12) (by omega) (by omega), hn (8 + 15 * v + 13) (by omega) (by omega), hn (8 + 15 * v + 14) (by omega) (by omega), hn 0 (by omega) (by omega)]
        refine ⟨?_, fun z z1 z2 => ?_, fun z z1 z2 => ?_, a4, a5, a6, a7, a8, a9⟩
        · by_cases e : v = w
          · rw [e, hs, up_eq rfl]; omega
          · rw [up_ne e, hn _ (by omega) (by omega)]; exact a1
        · by_cases e : v = w
          · rw [e, hs] at z2
            rw [e]
            by_cases e2 : z = M (8 + 15 * w)
            · rw [e2, up_eq rfl, hl]
            · rw [up_ne (by omega), hn _ (by omega) (by omega)]
              exact b2 z z1 (by omega)
          · rw [hn (8 + 15 * v) (by omega) (by omega)] at z2
            rw [up_ne (by omega), hn _ (by omega) (by omega)]
            exact a2 z z1 z2
        · by_cases e : v = w ∧ z = M (8 + 15 * w)
          · rw [e.1, e.2, hl]; exact c0.2
          · rw [hn _ (by omega) (by omega)]; exact a3 z z1 z2
      exact ⟨rfl, T1_cg h hRR (fun j hj => hn j (by omega) (by omega)) (fun v v1 v2 => ⟨hn _ (by omega) (by omega), hn _ (by omega) (by omega), hn _ (by omega) (by omega)⟩), hn 0 (by omega) (by omega), by omega, fun q => by omega⟩
  · have c0' : ¬ ((0 ≤ w ∧ w < 3) ∧ 0 ≤ t ∧ t < 600) := by omega
    rw [if_neg c0, if_neg c0, if_neg c0', if_neg c0']
    exact ⟨rfl, h, rfl, by decide, fun _ => ⟨rfl, rfl⟩⟩
set_option maxHeartbeats 4000000 in
set_option maxRecDepth 100000 in
theorem RR_set {O : Of} {M : Int → Int} {w v : Int} (h : RR O M) (hok : setOk w v) : RR (oc O 1 (up (O 1) w v)) (up M (5 + w) v) := by
  obtain ⟨h1, h2, h3, h4, h5, h6, h7, h8⟩ := h
  unfold setOk mstC at hok
  have hn : ∀ j : Int, ¬ j = 5 + w → up M (5 + w) v j = M j := fun j hj => up_ne hj
  have ho : ∀ c : Nat, ¬ c = 1 → oc O 1 (up (O 1) w v) c = O c := fun c hc => oc_nc hc
  have hq : ∀ s f, 0 ≤ s → qb (up M (5 + w) v) s f = qb M s f := fun s f s1 => by unfold qb; rw [hn _ (by omega)]
  have hD : SmD M (up M (5 + w) v) := ⟨fun j j1 j2 => hn j (by omega), fun s s1 s2 => hq s 0 s1⟩
  refine ⟨RF_cg h1 (ho 3 (by decide)) (fun j j1 => hn j (by omega)), RD_cg h2 ⟨ho 6 (by decide), ho 7 (by decide), ho 8 (by decide)⟩ hD, RP_cg h3 (ho 4 (by decide)) (by rw [hn 0 (by omega)]; exact Int.le_refl _) (fun j j1 j2 => hn j (by omega)) (fun s u s1 _ _ _ => hq s _ s1), RW_cg h4 (fun c c1 c3 => ho c (by omega)) (by rw [hn 0 (by omega)]; exact Int.le_refl _) (fun j j1 j2 => hn j (by omega)), RM_cg h5 ⟨by rw [ho 18 (by decide)], ho 19 (by decide), ho 20 (by decide)⟩ (hn 0 (by omega)) (hn 2 (by omega)) (fun j j1 j2 => hn j (by omega)), RQ_cg h6 ⟨ho 21 (by decide), ho 22 (by decide)⟩ (hn 4 (by omega)) (fun j j1 j2 => hn j (by omega)), ?_, RI_cg h8 hD (fun j j1 => hn j (by omega)) (fun u u1 u2 => Or.inl (hn _ (by omega))) (fun s u s1 _ _ _ c => by rw [hq s _ s1]; exact c) (fun s u s1 _ _ _ => hq s _ s1)⟩
  obtain ⟨b1, b2, b3, b4, b5, b6, b7⟩ := h7
  unfold R0
  rw [ho 0 (by decide), oc_at, hn 0 (by omega), hn 1 (by omega), hn 3 (by omega), ptC_c (fun j j1 j2 => hn j (by omega)), cbA_c (fun s u s1 _ _ _ => hq s _ s1)]
  refine ⟨b1, b2, b3, fun i i1 i2 => ?_, ?_, ?_, ?_⟩
  · by_cases e : i = w
    · rw [up_eq e, up_eq (by omega)]
    · rw [up_ne e, hn _ (by omega)]; exact b4 i i1 i2
  · by_cases e : w = 0
    · rw [up_eq (by omega)]; rw [if_pos e, if_pos e] at hok; omega
    · rw [hn _ (by omega)]; exact b5
  · by_cases e : w = 1
    · rw [up_eq (by omega)]; rw [if_neg (by omega), if_neg (by omega), if_pos e] at hok; omega
    · rw [hn _ (by omega)]; exact b6
  · by_cases e : w = 2
    · rw [up_eq (by omega)]; rw [if_neg (by omega), if_neg (by omega), if_neg (by omega)] at hok; omega
    · rw [hn _ (by omega)]; exact b7
