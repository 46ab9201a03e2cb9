/-! THE LAW: what would be -/
set_option maxHeartbeats 4000000 in
set_option maxRecDepth 100000 in
theorem LR_sp {S T : Hp} (h : LRel S) (tc : ∀ k c : Nat, c < 23 → ¬ k = sp S → T k c = S k c) (tk : ∀ c : Nat, 23 ≤ c → ¬ c = 31 → ¬ c = 33 → T 0 c = S 0 c) (t31 : ∀ j : Int, 0 ≤ j → j < 3833 → T 0 31 j = S 0 31 j) : LRel T := by
  obtain ⟨h0, hD, hN, hH, hP, hX⟩ := h
  obtain ⟨⟨a1, a2, a3⟩, ⟨b1, b2, b3⟩, c1, c3, c4⟩ := id hD
  have hns : ¬ nw S = sp S := by unfold nw sp; omega
  have hs2 : ¬ 2 = sp S := by unfold sp; omega
  have hA : ∀ k : Int, 0 ≤ k → k < 4 → ¬ (S 0 24 k).toNat = sp S := fun k k1 k2 => by
    have p := c3 k k1 k2
    have q := a3 k k1 k2
    unfold sp
    omega
  have tnw : nw T = nw S := by unfold nw; rw [tk 23 (by decide) (by decide) (by decide)]
  unfold LRel TxL
  rw [tnw, tk 23 (by decide) (by decide) (by decide), tk 24 (by decide) (by decide) (by decide), tk 30 (by decide) (by decide) (by decide), tk 34 (by decide) (by decide) (by decide), tk 32 (by decide) (by decide) (by decide), tk 29 (by decide) (by decide) (by decide), tk 35 (by decide) (by decide) (by decide), tk 25 (by decide) (by decide) (by decide)]
  exact ⟨h0, hD, Ok1_sc (fun c hc => tc _ c hc hns) t31 hN, fun k k1 k2 => Ok1_sc (fun c hc => tc _ c hc (hA k k1 (by omega))) (fun _ _ _ => rfl) (hH k k1 k2), ⟨hP.1, hP.2.1, fun q => Ok1_sc (fun c hc => tc 2 c hc hs2) (fun _ _ _ => rfl) (hP.2.2 q)⟩, hX⟩
set_option maxHeartbeats 4000000 in
set_option maxRecDepth 100000 in
theorem s3_py {O : Of} {M : Int → Int} (h : RW O M) : s3 (O 15) = pyS M := by
  have e0 := (h 0 (by omega) (by omega)).2.2.2.2.2.2.1
  have e1 := (h 1 (by omega) (by omega)).2.2.2.2.2.2.1
  have e2 := (h 2 (by omega) (by omega)).2.2.2.2.2.2.1
  unfold s3 pyS
  rw [e0, e1, e2]
  rfl
set_option maxHeartbeats 4000000 in
set_option maxRecDepth 100000 in
theorem s3_aw {O : Of} {M : Int → Int} (h : RW O M) : s3 (O 16) = awS M := by
  have e0 := (h 0 (by omega) (by omega)).2.2.2.2.2.2.2.1
  have e1 := (h 1 (by omega) (by omega)).2.2.2.2.2.2.2.1
  have e2 := (h 2 (by omega) (by omega)).2.2.2.2.2.2.2.1
  unfold s3 awS
  rw [e0, e1, e2]
  rfl
set_option maxHeartbeats 4000000 in
set_option maxRecDepth 100000 in
theorem LO_ifRule {S : Hp} {r t a : Int} (h : LRel S) (hr0 : tdR r) (ht : tdR t) (ha : tdR a) : Two S 97 [.inr (0, 23), .inl r, .inl t, .inl a] 186 [.inr (0, 30), .inl r, .inl t, .inl a] := by
  obtain ⟨hP, hne⟩ := LR_PmB h
  obtain ⟨hT, hS, h9⟩ := h.2.2.1
  have r1 := fun Q => c_ifRule (S := S) (r := r) (t := t) (a := a) hne hr0 ht ha (fun hr j hj => TICK_c (RULE (X := S (sp S)) hT h9 (by omega) j (by omega)).1) Q
  have r2 := fun (W : Hp) (q31 : W 0 31 = S 0 31) Q => m_ifRule (S := W) (r := r) (t := t) (a := a) hr0 ht ha (fun hr k hk => by rw [q31]; exact TICK_k (RULE (X := S (sp S)) hT h9 (by omega) k (by omega)).1) (fun hr k hk => by
    rw [q31]
    have g := (RULE (X := S (sp S)) hT h9 (r := r) (by omega) k hk).1.1
    exact RP_pb g.2.2.1 g.2.2.2.2.2.2.1.1.2) Q
  by_cases c : (0 ≤ r ∧ r ≤ 2) ∧ (1 ≤ t ∧ t ≤ 99) ∧ 0 ≤ a ∧ a ≤ 3
  · rw [if_pos c, if_pos c] at r1
    have g := (RULE (X := S (sp S)) hT h9 (r := r) (by omega) t.toNat (by omega)).1.1
    have ev : irW (ruO (S (sp S)) (S (nw S)) r t.toNat) (S (nw S)) a = irV (S 0 31) r t a := by
      unfold irW irV
      rw [s3_py g.2.2.2.1, s3_py hT.1.2.2.2.1, s3_aw g.2.2.2.1, s3_aw hT.1.2.2.2.1, (Q_paid g).1, (Q_paid hT.1).1, g.2.2.2.2.2.2.1.2.2.1.1]
    rw [ev] at r1
    obtain ⟨W, hW⟩ : ∃ W, W = ho S (sp S) (ruO (S (sp S)) (S (nw S)) r t.toNat) := ⟨_, rfl⟩
    rw [← hW] at r1
    have wc : ∀ k c : Nat, 23 ≤ c → W k c = S k c := fun k c hc => by rw [hW, ho_nc (by omega)]
    have wo : ∀ k c : Nat, ¬ k = sp S → W k c = S k c := fun k c q => by rw [hW, ho_nk q]
    have q := r2 W (wc 0 31 (by decide))
    rw [if_pos c, if_pos c, wc 0 31 (by decide)] at q
    refine ⟨W, _, _, r1, wc 0 40 (by decide), wc 0 41 (by decide), q, by rw [hr_nc (by decide), hr_nc (by decide), wc 0 40 (by decide)], by rw [hr_nc (by decide), hr_nc (by decide), wc 0 41 (by decide)], LR_sp h (fun k c hc q => by rw [hr_nc (by omega), hr_nc (by omega), wo k c q]) (fun c h1 h2 h3 => by rw [hr_nc h2, hr_nc h3, wc 0 c h1]) (fun j j1 j2 => by rw [hr_at]; exact cpF_in ⟨j1, j2⟩)⟩
  · rw [if_neg c, if_neg c] at r1
    have q := r2 S rfl
    rw [if_neg c, if_neg c] at q
    exact two_same h r1 q
