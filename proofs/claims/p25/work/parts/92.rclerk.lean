/-! THE RELATION is kept: the clerk -/
set_option maxHeartbeats 4000000 in
set_option maxRecDepth 100000 in
theorem fd_p (M : Int → Int) : ∀ k : Nat, (fdM M k = -5 ∧ ∀ t : Int, 0 ≤ t → t < k → ¬ 0 < ds M t) ∨ ((0 ≤ fdM M k ∧ fdM M k < k) ∧ 0 < ds M (fdM M k) ∧ ∀ t : Int, 0 ≤ t → t < k → 0 < ds M t → ds M (fdM M k) ≤ ds M t)
  | 0 => Or.inl ⟨rfl, fun t t1 t2 => by omega⟩
  | k + 1 => by
    have ih := fd_p M k
    have e : fdM M (k + 1) = if 0 < M (1433 + (k : Int)) ∧ (fdM M k = -5 ∨ M (1433 + (k : Int)) < M (1433 + fdM M k)) then (k : Int) else fdM M k := rfl
    have hd : ∀ t, ds M t = M (1433 + t) := fun _ => rfl
    rw [e]
    by_cases c : 0 < M (1433 + (k : Int)) ∧ (fdM M k = -5 ∨ M (1433 + (k : Int)) < M (1433 + fdM M k))
    · rw [if_pos c]
      right
      refine ⟨by omega, c.1, fun t t1 t2 t3 => ?_⟩
      by_cases q : t = (k : Int)
      · rw [q]; exact Int.le_refl _
      · rcases ih with ⟨-, i2⟩ | ⟨i1, i2, i3⟩
        · exact absurd t3 (i2 t t1 (by omega))
        · have b := i3 t t1 (by omega) t3
          have b2 := c.2.resolve_left (by omega)
          rw [hd] at b ⊢
          omega
    · rw [if_neg c]
      rcases ih with ⟨i1, i2⟩ | ⟨i1, i2, i3⟩
      · left
        refine ⟨i1, fun t t1 t2 => ?_⟩
        by_cases q : t = (k : Int)
        · rw [q]
          exact fun r => c ⟨r, Or.inl i1⟩
        · exact i2 t t1 (by omega)
      · right
        refine ⟨by omega, i2, fun t t1 t2 t3 => ?_⟩
        by_cases q : t = (k : Int)
        · rw [q] at t3 ⊢
          rcases Int.lt_or_le (M (1433 + (k : Int))) (M (1433 + fdM M k)) with r | r
          · exact absurd ⟨t3, Or.inr r⟩ c
          · exact r
        · exact i3 t t1 (by omega) t3
set_option maxHeartbeats 4000000 in
set_option maxRecDepth 100000 in
theorem fd_eq {O : Of} {M : Int → Int} (h : RQ O M) : fdM M 600 = if O 21 0 = 0 then -5 else O 22 0 := by
  obtain ⟨a1, a2, a3, a4, a5, a6⟩ := h
  have hn := opC_b M
  rcases fd_p M 600 with ⟨i1, i2⟩ | ⟨i1, i2, i3⟩
  · by_cases c : O 21 0 = 0
    · rw [if_pos c]; exact i1
    · have b := a3 0 (by omega) (by omega)
      exact absurd b.2 (i2 _ b.1.1 (by omega))
  · obtain ⟨i, j1, j2, j3⟩ := a5 _ i1.1 (by omega) i2
    rw [if_neg (by omega)]
    have b := a3 0 (by omega) (by omega)
    have q := i3 _ b.1.1 (by omega) b.2
    by_cases e : i = 0
    · rw [← j3, e]
    · have r := a4 0 i (by omega) (by omega) j2
      rw [j3] at r
      omega
set_option maxHeartbeats 4000000 in
set_option maxRecDepth 100000 in
theorem RR_close {O : Of} {M : Int → Int} (h : RR O M) (hn : 0 < O 21 0) : RR (st1O O) (up M (1433 + O 22 0) 0) := by
  obtain ⟨h1, h2, h3, h4, h5, h6, h7, h8⟩ := h
  obtain ⟨t, ht⟩ : ∃ t, t = O 22 0 := ⟨_, rfl⟩
  obtain ⟨M', hM⟩ : ∃ M', M' = up M (1433 + t) 0 := ⟨_, rfl⟩
  rw [← ht, ← hM]
  have q0 := h6.2.2.1 0 (by omega) hn
  rw [← ht] at q0
  have hn' : ∀ j : Int, ¬ j = 1433 + t → M' j = M j := fun j j1 => by rw [hM, up_ne j1]
  have mt : ds M' t = 0 := by rw [hM]; exact up_eq rfl
  have mds : ∀ s : Int, ¬ s = t → ds M' s = ds M s := fun s hs => hn' _ (by omega)
  have hq : ∀ s f, 0 ≤ s → s < 600 → qb M' s f = qb M s f := fun s f s1 s2 => by unfold qb; rw [hn' _ (by omega)]
  have hD : SmD M M' := ⟨fun j j1 j2 => hn' j (by omega), fun s s1 s2 => hq s 0 s1 s2⟩
  have hF : FlB M' := fun s s1 s2 => by rw [hn' _ (by omega)]; exact h1.1 s s1 s2
  have hdf : RF (dfO O) M := RF_cg h1 (dfO_nc (by decide)) (fun _ _ => rfl)
  have hRF : RF (st1O O) M' := by
    unfold st1O
    rw [← ht]
    refine RF_rm hdf hF hD (by omega) (fun s s1 s2 j j1 j2 j3 => ?_)
    unfold bitM
    rw [hq s _ s1 s2, hq s _ s1 s2, hq s _ s1 s2, hq s _ s1 s2]
    by_cases c0 : j = 2
    · rw [if_neg (show ¬ j = 0 by omega), if_neg (show ¬ j = 1 by omega), if_pos c0]
      by_cases e : s = t
      · rw [if_pos ⟨e, c0⟩, e]
        unfold opI
        have q : M' (1433 + t) = 0 := mt
        rw [q]; rfl
      · rw [if_neg (fun q => e q.1), if_neg (show ¬ j = 0 by omega), if_neg (show ¬ j = 1 by omega), if_pos c0]
        unfold opI
        rw [hn' _ (by omega)]
    · rw [if_neg (show ¬ (s = t ∧ j = 2) from fun q => c0 q.2), if_neg c0, if_neg c0]
      by_cases c8 : j < 8
      · rw [if_pos c8, if_pos c8]
      · have ep : pyI M' ((j : Int) - 8) s = pyI M ((j : Int) - 8) s := by
          unfold pyI
          rw [hn' _ (by omega)]
        rw [ep]
  have hop : opC M' = opC M - 1 := by
    have e1 : opC M' = sm (fun k => if k = t.toNat then 0 else opI M (k : Int)) 600 := by
      refine sm_congr (fun k hk => ?_)
      unfold opI
      by_cases e : k = t.toNat
      · have e2 : (k : Int) = t := by omega
        have q : M' (1433 + t) = 0 := mt
        rw [if_pos e, e2, q]; rfl
      · rw [if_neg e, hn' _ (by omega)]
    have e3 : ((t.toNat : Nat) : Int) = t := by omega
    have e4 : opI M t = 1 := by unfold opI; rw [if_pos (by have := q0.2; unfold ds at this; exact this)]
    rw [e1, sm_upd _ _ (show t.toNat < 600 by omega), e3, e4]
    unfold opC
    omega
  have ho : ∀ c : Nat, ¬ c = 21 → ¬ c = 22 → ¬ c = 3 → st1O O c = O c := fun c c1 c3 c4 => st1O_nc ⟨c1, c3, c4⟩
  have e22 : st1O O 22 = qfR (O 22) ((O 21 0).toNat - 1) := by
    unfold st1O
    rw [rmO_nc (by decide)]
    unfold dfO
    rw [oc_nc (by decide), oc_at]
  have e21 : st1O O 21 = up (O 21) 0 (O 21 0 - 1) := by
    unfold st1O
    rw [rmO_nc (by decide)]
    unfold dfO
    rw [oc_at]
  refine ⟨hRF, RD_cg h2 ⟨ho 6 (by decide) (by decide) (by decide), ho 7 (by decide) (by decide) (by decide), ho 8 (by decide) (by decide) (by decide)⟩ hD, RP_cg h3 (ho 4 (by decide) (by decide) (by decide)) (by rw [hn' 0 (by omega)]; exact Int.le_refl _) (fun j j1 j2 => hn' j (by omega)) (fun s v s1 s2 _ _ => hq s _ s1 s2), RW_cg h4 (fun c c1 c3 => ho c (by omega) (by omega) (by omega)) (by rw [hn' 0 (by omega)]; exact Int.le_refl _) (fun j j1 j2 => hn' j (by omega)), RM_cg h5 ⟨by rw [ho 18 (by decide) (by decide) (by decide)], ho 19 (by decide) (by decide) (by decide), ho 20 (by decide) (by decide) (by decide)⟩ (hn' 0 (by omega)) (hn' 2 (by omega)) (fun j j1 j2 => hn' j (by omega)), ?_, R0_cg h7 ⟨ho 0 (by decide) (by decide) (by decide), ho 1 (by decide) (by decide) (by decide)⟩ (fun j j1 => hn' j (by omega)) (fun j j1 j2 => hn' j (by omega)) (fun s v s1 s2 _ _ => hq s _ s1 s2), ?_⟩
  · obtain ⟨a1, a2, a3, a4, a5, a6⟩ := h6
    have n1 : st1O O 21 0 = O 21 0 - 1 := by rw [e21, up_eq rfl]
    have n2 : st1O O 21 1 = O 21 1 := by rw [e21, up_ne (by decide)]
    have es : ∀ i : Int, 0 ≤ i → i < O 21 0 - 1 → st1O O 22 i = O 22 (i + 1) := fun i i1 i2 => by rw [e22, qfR_at, if_pos (by omega)]
    have hnt : ∀ i : Int, 0 < i → i < O 21 0 → ¬ O 22 i = t := fun i i1 i2 q => by
      have b := a4 0 i (by omega) i1 i2
      rw [q, ht] at b
      omega
    unfold RQ
    rw [n1, n2, hop, hn' 4 (by omega)]
    refine ⟨⟨by omega, by omega⟩, a2, fun i i1 i2 => ?_, fun i j i1 i2 i3 => ?_, fun s s1 s2 s3 => ?_, fun s s1 s2 => ?_⟩
    · rw [es i i1 i2, mds _ (hnt _ (by omega) (by omega))]
      exact a3 (i + 1) (by omega) (by omega)
    · rw [es i i1 (by omega), es j (by omega) i3, mds _ (hnt _ (by omega) (by omega)), mds _ (hnt _ (by omega) (by omega))]
      exact a4 (i + 1) (j + 1) (by omega) (by omega) (by omega)
    · have e : ¬ s = t := fun q => by rw [q, mt] at s3; omega
      rw [mds s e] at s3
      obtain ⟨i, i1, i2, i3⟩ := a5 s s1 s2 s3
      have i0 : ¬ i = 0 := fun q => e (by rw [← i3, q, ht])
      refine ⟨i - 1, by omega, by omega, ?_⟩
      rw [es _ (by omega) (by omega)]
      have q : i - 1 + 1 = i := by omega
      rw [q]; exact i3
    · by_cases e : s = t
      · rw [e, mt]; omega
      · rw [mds s e]; exact a6 s s1 s2
  · intro s v s1 s2 v1 v2
    obtain ⟨b1, b2, b3, b4⟩ := h8 s v s1 s2 v1 v2
    have ep : pd M' v s = pd M v s := hn' _ (by omega)
    rw [ep, clM_c hD ⟨s1, s2⟩, hq s _ s1 s2, hq s _ s1 s2, hn' (8 + 15 * v + 9) (by omega)]
    refine ⟨b1, b2, b3, fun q => ?_⟩
    by_cases e : s = t
    · rw [e, mt] at q; omega
    · rw [mds s e] at q; exact b4 q
set_option maxHeartbeats 4000000 in
set_option maxRecDepth 100000 in
theorem RR_call {O : Of} {M : Int → Int} {t z : Int} (h : RR O M) (ht : 0 ≤ t ∧ t < 600) (hz : 0 ≤ z ∧ z < 3) (hb : ¬ z = (O 4 t - 1) % 3) (hp : 0 < pd M z t) (hq0 : qb M t (5 + z).toNat = 0) {p : Int} (hpr : p = przM M t) : RR (oc (adO O t (11 + z).toNat) 0 (up (up (O 0) 9 (O 0 9 + 1)) 10 (O 0 10 + p))) (up (mkM M t (5 + z).toNat 1) 3 (M 3 + p)) := by
  obtain ⟨h1, h2, h3, h4, h5, h6, h7, h8⟩ := h
  obtain ⟨M1, hM1⟩ : ∃ M1, M1 = mkM M t (5 + z).toNat 1 := ⟨_, rfl⟩
  rw [← hM1]
  have hRF : RF (adO O t (11 + z).toNat) M1 := by rw [hM1]; exact RF_set h1 ht (by omega)
  have hn1 : ∀ j : Int, ¬ j = 833 + t → M1 j = M j := fun j hj => by rw [hM1]; exact mk_ne hj
  have hn : ∀ j : Int, ¬ j = 833 + t → ¬ j = 3 → up M1 3 (M 3 + p) j = M j := fun j j1 j2 => by rw [up_ne j2, hn1 j j1]
  have hqq : ∀ s f, 0 ≤ s → s < 600 → qb (up M1 3 (M 3 + p)) s f = if s = t ∧ f = (5 + z).toNat then 1 else qb M s f := fun s f s1 s2 => by
    have e : qb (up M1 3 (M 3 + p)) s f = qb M1 s f := by unfold qb; rw [up_ne (by omega)]
    rw [e, hM1, qb_ad h1.1 ⟨s1, s2⟩ (by omega)]
  have hD : SmD M (up M1 3 (M 3 + p)) := ⟨fun j j1 j2 => hn j (by omega) (by omega), fun s s1 s2 => by rw [hqq s 0 s1 s2, if_neg (by omega)]⟩
  have ho : ∀ c : Nat, ¬ c = 3 → ¬ c = 0 → oc (adO O t (11 + z).toNat) 0 (up (up (O 0) 9 (O 0 9 + 1)) 10 (O 0 10 + p)) c = O c := fun c c1 c3 => by rw [oc_nc c3, adO_nc c1]
  refine ⟨RF_cg hRF (oc_nc (by decide)) (fun j j1 => up_ne (by omega)), RD_cg h2 ⟨ho 6 (by decide) (by decide), ho 7 (by decide) (by decide), ho 8 (by decide) (by decide)⟩ hD, ?_, RW_cg h4 (fun c c1 c3 => ho c (by omega) (by omega)) (by rw [hn 0 (by omega) (by omega)]; exact Int.le_refl _) (fun j j1 j2 => hn j (by omega) (by omega)), RM_cg h5 ⟨by rw [ho 18 (by decide) (by decide)], ho 19 (by decide) (by decide), ho 20 (by decide) (by decide)⟩ (hn 0 (by omega) (by omega)) (hn 2 (by omega) (by omega)) (fun j j1 j2 => hn j (by omega) (by omega)), RQ_cg h6 ⟨ho 21 (by decide) (by decide), ho 22 (by decide) (by decide)⟩ (hn 4 (by omega) (by omega)) (fun j j1 j2 => hn j (by omega) (by omega)), ?_, ?_⟩
  · intro s s1 s2
    obtain ⟨a1, a2, a3⟩ := h3 s s1 s2
    have ep : ∀ v : Int, 0 ≤ v → v < 3 → pd (up M1 3 (M 3 + p)) v s = pd M v s := fun v v1 v2 => hn _ (by omega) (by omega)
    rw [ho 4 (by decide) (by decide), hn 0 (by omega) (by omega)]
    refine ⟨a1, fun v v1 v2 => by rw [ep v v1 v2]; exact a2 v v1 v2, fun c => ?_⟩
    rw [ep _ (by omega) (by omega), hqq s _ s1 s2]
    have b := a3 c
    rw [if_neg (fun q => by
      have q1 := q.1
      rw [q1] at q
      omega)]
    exact b
  · obtain ⟨b1, b2, b3, b4, b5, b6, b7⟩ := h7
    have hcb : cbA (up M1 3 (M 3 + p)) = cbA M + 1 := by
      have e3 : ((t.toNat : Nat) : Int) = t := by omega
      have e5 : ∀ s : Int, 0 ≤ s → s < 600 → cbC (up M1 3 (M 3 + p)) s = if s = t then cbC M t + 1 else cbC M s := by
        intro s s1 s2
        have e : ∀ P : Int → Int, cbC P s = qb P s (5 + (0 : Int)).toNat + qb P s (5 + (1 : Int)).toNat + qb P s (5 + (2 : Int)).toNat := fun P => by
          unfold cbC
          simp only [sm, Int.ofNat_zero, Int.zero_add]
          rfl
        by_cases c : s = t
        · subst c
          rw [if_pos rfl, e, e M, hqq s _ s1 s2, hqq s _ s1 s2, hqq s _ s1 s2]
          rcases (show z = 0 ∨ z = 1 ∨ z = 2 by omega) with g | g | g
          · subst g
            rw [if_pos ⟨rfl, rfl⟩, if_neg (fun q => absurd q.2 (by decide)), if_neg (fun q => absurd q.2 (by decide)), hq0]; omega
          · subst g
            rw [if_neg (fun q => absurd q.2 (by decide)), if_pos ⟨rfl, rfl⟩, if_neg (fun q => absurd q.2 (by decide)), hq0]; omega
          · subst g
            rw [if_neg (fun q => absurd q.2 (by decide)), if_neg (fun q => absurd q.2 (by decide)), if_pos ⟨rfl, rfl⟩, hq0]; omega
        · rw [if_neg c, e, e M, hqq s _ s1 s2, hqq s _ s1 s2, hqq s _ s1 s2, if_neg (fun q => c q.1), if_neg (fun q => c q.1), if_neg (fun q => c q.1)]
      have e1 : cbA (up M1 3 (M 3 + p)) = sm (fun k => if k = t.toNat then cbC M t + 1 else cbC M (k : Int)) 600 := by
        refine sm_congr (fun k hk => ?_)
        rw [e5 _ (by omega) (by omega)]
        by_cases e : k = t.toNat
        · rw [if_pos e, if_pos (show (k : Int) = t by omega)]
        · rw [if_neg e, if_neg (show ¬ (k : Int) = t by omega)]
      rw [e1, sm_upd _ _ (show t.toNat < 600 by omega), e3]
      unfold cbA
      omega
    have hpt : ptC (up M1 3 (M 3 + p)) = ptC M := ptC_c (fun j j1 j2 => hn j (by omega) (by omega))
    have e0 : ∀ j : Int, oc (adO O t (11 + z).toNat) 0 (up (up (O 0) 9 (O 0 9 + 1)) 10 (O 0 10 + p)) 0 j = up (up (O 0) 9 (O 0 9 + 1)) 10 (O 0 10 + p) j := fun j => by rw [oc_at]
    unfold R0
    rw [ho 1 (by decide) (by decide), e0, e0, e0, e0, e0, hpt, hcb, up_eq rfl, hn 0 (by omega) (by omega), hn 1 (by omega) (by omega), hn 5 (by omega) (by omega), hn 6 (by omega) (by omega), hn 7 (by omega) (by omega), up_eq (show (3 : Int) = 3 from rfl)]
    rw [up_ne (show ¬ (0 : Int) = 10 by decide), up_ne (show ¬ (0 : Int) = 9 by decide), up_ne (show ¬ (1 : Int) = 10 by decide), up_ne (show ¬ (1 : Int) = 9 by decide), up_ne (show ¬ (8 : Int) = 10 by decide), up_ne (show ¬ (8 : Int) = 9 by decide), up_ne (show ¬ (9 : Int) = 10 by decide), up_eq rfl]
    exact ⟨b1, b2, ⟨b3.1, by rw [b3.2.1], by rw [b3.2.2]⟩, fun i i1 i2 => by rw [hn _ (by omega) (by omega)]; exact b4 i i1 i2, b5, b6, b7⟩
  · intro s v s1 s2 v1 v2
    obtain ⟨b1, b2, b3, b4⟩ := h8 s v s1 s2 v1 v2
    have ep : pd (up M1 3 (M 3 + p)) v s = pd M v s := hn _ (by omega) (by omega)
    have ed : ds (up M1 3 (M 3 + p)) s = ds M s := hn _ (by omega) (by omega)
    rw [ep, ed, clM_c hD ⟨s1, s2⟩, hqq s _ s1 s2, hqq s _ s1 s2, hn (8 + 15 * v + 9) (by omega) (by omega), if_neg (show ¬ (s = t ∧ (2 + v).toNat = (5 + z).toNat) by omega)]
    refine ⟨b1, fun q => ?_, b3, b4⟩
    by_cases e : s = t ∧ (5 + v).toNat = (5 + z).toNat
    · have e2 : v = z := by omega
      rw [e.1, e2]; exact hp
    · rw [if_neg e] at q; exact b2 q
