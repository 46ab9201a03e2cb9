/-! THE LAW: who goes -/
set_option maxHeartbeats 4000000 in
set_option maxRecDepth 100000 in
theorem LR_neg {S T : Hp} {O' : Of} (h : LRel S) (hT : Ok1 O' (T 0 31)) (tc : ∀ k c : Nat, c < 23 → T k c = acS S O' k c) (tk : ∀ c : Nat, 23 ≤ c → ¬ c = 31 → ¬ c = 33 → T 0 c = S 0 c) : LRel T := by
  obtain ⟨⟨hs, h6⟩, hD, hN, hH, hP, hX⟩ := h
  obtain ⟨⟨a1, a2, a3⟩, ⟨b1, b2, b3⟩, c1, c3, c4⟩ := id hD
  have hn2 : ¬ 2 = nw S := by unfold nw; omega
  have hs2 : ¬ 2 = sp S := by unfold sp; omega
  have wn : ∀ c : Nat, c < 23 → acS S O' (nw S) c = O' c := fun c hc => by
    unfold acS
    rw [ho_at hc]
  have wo : ∀ k c : Nat, ¬ k = nw S → ¬ k = sp S → acS S O' k c = S k c := fun k c q1 q2 => by
    unfold acS bgS
    rw [ho_nk q1, ho_nk q2]
  have hA : ∀ k : Int, 0 ≤ k → k < 4 → ¬ (S 0 24 k).toNat = nw S ∧ ¬ (S 0 24 k).toNat = sp S := fun k k1 k2 => by
    have p := c3 k k1 k2
    have q := a3 k k1 k2
    unfold nw sp
    omega
  have tnw : nw T = nw S := by unfold nw; rw [tk 23 (by decide) (by decide) (by decide)]
  unfold LRel TxL
  rw [tnw, tk 23 (by decide) (by decide) (by decide), tk 24 (by decide) (by decide) (by decide), tk 30 (by decide) (by decide) (by decide), tk 34 (by decide) (by decide) (by decide), tk 32 (by decide) (by decide) (by decide), tk 29 (by decide) (by decide) (by decide), tk 35 (by decide) (by decide) (by decide), tk 25 (by decide) (by decide) (by decide)]
  refine ⟨⟨hs, h6⟩, hD, Ok1_sc (fun c hc => by rw [tc _ c hc, wn c hc]) (fun _ _ _ => rfl) hT, fun k k1 k2 => ?_, ⟨hP.1, hP.2.1, fun q => Ok1_sc (fun c hc => by rw [tc _ c hc, wo 2 c hn2 hs2]) (fun _ _ _ => rfl) (hP.2.2 q)⟩, hX⟩
  have q := hA k k1 (by omega)
  exact Ok1_sc (fun c hc => by rw [tc _ c hc, wo _ c q.1 q.2]) (fun _ _ _ => rfl) (hH k k1 k2)
set_option maxHeartbeats 4000000 in
set_option maxRecDepth 100000 in
theorem ed_neg {S : Hp} {v : Int} (hv : v < 0) : edS S v = S := by
  unfold edS
  rw [if_neg (by omega)]
set_option maxHeartbeats 4000000 in
set_option maxRecDepth 100000 in
theorem LR_ac2 {S : Hp} {O' : Of} {M' : Int → Int} {v : Int} (h : LRel S) (hT : Ok1 O' M') (hn : v < 0 → Ok1 O' (S 0 31)) : LRel (actS (edS (acS S O') v) M' v) := by
  by_cases hv : v < 0
  · have w23 : ∀ k c : Nat, 23 ≤ c → acS S O' k c = S k c := fun k c hc => by
      unfold acS bgS
      rw [ho_nc (by omega), ho_nc (by omega)]
    rw [ed_neg hv]
    unfold actS
    rw [if_pos hv]
    refine LR_neg (O' := O') h ?_ (fun k c hc => ?_) (fun c h1 h2 h3 => ?_)
    · rw [hr_at, w23 0 31 (by decide)]
      exact Ok1_sc (fun _ _ => rfl) (fun j j1 j2 => cpF_in ⟨j1, j2⟩) (hn hv)
    · rw [hr_nc (by omega), hr_nc (by omega)]
    · rw [hr_nc h2, hr_nc h3, w23 0 c h1]
  · exact LR_act h hT (fun q => absurd q hv)
set_option maxHeartbeats 4000000 in
set_option maxRecDepth 100000 in
theorem lvT_hi {O : Of} {M : Int → Int} {t : Int} (h : T1 O M) (j : Int) (hj : 46 < j ∨ j = 20 ∨ j = 35 ∨ j = 50) : (lvT M t).1 j = M j := by
  have g0 := RR_go (p := (M, 0)) (w := 0) (t := t) h.1 (by omega)
  have g1 := RR_go (w := 1) (t := t) g0.1 (by omega)
  have g2 := RR_go (w := 2) (t := t) g1.1 (by omega)
  unfold lvT
  rw [g2.2.2 j (by omega), g1.2.2 j (by omega), g0.2.2 j (by omega)]
set_option maxHeartbeats 4000000 in
set_option maxRecDepth 100000 in
theorem lvi_id {t w : Int} : ∀ (n : Nat) (p : (Int → Int) × Int), (lvi t w n p).2 = p.2 → (lvi t w n p).1 = p.1
  | 0, p, _ => rfl
  | n + 1, p, h => by
    have el : lvi t w (n + 1) p = lvi t w n (if p.1 (8 + 15 * w + (1 + (n : Int))) = t then toR p.1 w n else p.1, if p.1 (8 + 15 * w + (1 + (n : Int))) = t then p.2 + 1 else p.2) := rfl
    rw [el] at h ⊢
    have b := (lvi_b t w n (if p.1 (8 + 15 * w + (1 + (n : Int))) = t then toR p.1 w n else p.1, if p.1 (8 + 15 * w + (1 + (n : Int))) = t then p.2 + 1 else p.2)).1
    by_cases c : p.1 (8 + 15 * w + (1 + (n : Int))) = t
    · rw [if_pos c, if_pos c] at h b
      dsimp only at b
      omega
    · rw [if_neg c, if_neg c] at h ⊢
      exact lvi_id n _ h
set_option maxHeartbeats 4000000 in
set_option maxRecDepth 100000 in
theorem lvT_id {M : Int → Int} {t : Int} (h : (lvT M t).2 = 0) : (lvT M t).1 = M := by
  have b0 : (0 : Int) ≤ (lvW t 0 (M, 0)).2 := (lvi_b t 0 _ (M, 0)).1
  have b1 : (lvW t 0 (M, 0)).2 ≤ (lvW t 1 (lvW t 0 (M, 0))).2 := (lvi_b t 1 _ _).1
  have b2 : (lvW t 1 (lvW t 0 (M, 0))).2 ≤ (lvT M t).2 := (lvi_b t 2 _ _).1
  have i0 : (lvW t 0 (M, 0)).1 = M := lvi_id _ (M, 0) (show (lvW t 0 (M, 0)).2 = 0 by omega)
  have i1 : (lvW t 1 (lvW t 0 (M, 0))).1 = (lvW t 0 (M, 0)).1 := lvi_id _ _ (show (lvW t 1 (lvW t 0 (M, 0))).2 = (lvW t 0 (M, 0)).2 by omega)
  have i2 : (lvT M t).1 = (lvW t 1 (lvW t 0 (M, 0))).1 := lvi_id _ _ (show (lvT M t).2 = (lvW t 1 (lvW t 0 (M, 0))).2 by omega)
  rw [i2, i1, i0]
set_option maxHeartbeats 4000000 in
set_option maxRecDepth 100000 in
theorem LO_leave {S : Hp} {t : Int} (h : LRel S) (ht : tdR t) : Two S 81 [.inr (0, 23), .inl t] 158 [.inr (0, 30), .inl t] := by
  obtain ⟨hP, hne⟩ := LR_PmB h
  obtain ⟨hT, hS, h9⟩ := h.2.2.1
  have hw : RwB (S (nw S)) := fun u u1 u2 => by
    obtain ⟨b1, b2, b3, -⟩ := hT.1.2.2.2.1 u u1 u2
    rw [b1.2]
    exact ⟨b1.1, fun z z1 z2 => by
      rw [b2 z z1 z2]
      exact b3 z z1 (by omega)⟩
  have hb : SlB (S 0 31) := fun u u1 u2 => ⟨(hT.1.2.2.2.1 u u1 u2).1.1, (hT.1.2.2.2.1 u u1 u2).2.2.1⟩
  by_cases c : 0 ≤ t ∧ t < 600
  · obtain ⟨e1, e2, e3, e4⟩ := LEAVE (t := t) hT c
    have eS : SP (lvT (S 0 31) t).1 := SP_e hS (DPe_eq (fun j j1 j2 => lvT_hi hT j (by omega)) (fun u u1 u2 => lvT_hi hT _ (by omega)))
    have hv : tdR (lvR (S 0 31) t) := lvR_b hb
    have hk : Ok1 (rcO (S (nw S)) t) (lvT (S 0 31) t).1 := ⟨e2, eS, by rw [e3]; exact h9⟩
    refine ⟨edS (acS S (rcO (S (nw S)) t)) (lvR (S 0 31) t), actS (edS (acS S (rcO (S (nw S)) t)) (lvR (S 0 31) t)) (lvT (S 0 31) t).1 (lvR (S 0 31) t), lvR (S 0 31) t, fun Q => ?_, ed_nc (by decide), ed_nc (by decide), fun Q => ?_, by rw [act_nc (by decide), ed_nc (by decide)], by rw [act_nc (by decide), ed_nc (by decide)], LR_ac2 h hk (fun q => by rw [← lvT_id (e4 q)]; exact hk)⟩
    · have q := c_leave (S := S) (t := t) hP hne hw ht (by rw [e1]; exact hv) Q
      rw [e1] at q
      exact q
    · have q31 : edS (acS S (rcO (S (nw S)) t)) (lvR (S 0 31) t) 0 31 = S 0 31 := ed_nc (by decide)
      have q30 : edS (acS S (rcO (S (nw S)) t)) (lvR (S 0 31) t) 0 30 = S 0 30 := ed_nc (by decide)
      have q := m_leave (S := edS (acS S (rcO (S (nw S)) t)) (lvR (S 0 31) t)) (t := t) (by rw [q30]; exact RR_R0k h) (by rw [q31]; exact hb) ht Q
      rw [q31, if_pos c, if_pos c] at q
      exact q
  · have ev : rcV (S (nw S)) t = -1 := by unfold rcV; rw [if_neg c]
    have eo : rcO (S (nw S)) t = S (nw S) := by unfold rcO; rw [if_neg c]
    have r1 := fun Q => c_leave (S := S) (t := t) hP hne hw ht (by rw [ev]; unfold tdR; omega) Q
    rw [ev, eo, ed_neg (by decide)] at r1
    have w23 : ∀ k c : Nat, 23 ≤ c → acS S (S (nw S)) k c = S k c := fun k c hc => by
      unfold acS bgS
      rw [ho_nc (by omega), ho_nc (by omega)]
    refine ⟨acS S (S (nw S)), acS S (S (nw S)), -1, r1, w23 0 40 (by decide), w23 0 41 (by decide), fun Q => ?_, w23 0 40 (by decide), w23 0 41 (by decide), LR_neg (O' := S (nw S)) h (by rw [w23 0 31 (by decide)]; exact ⟨hT, hS, h9⟩) (fun _ _ _ => rfl) (fun c h1 _ _ => w23 0 c h1)⟩
    have q := m_leave (S := acS S (S (nw S))) (t := t) (by rw [w23 0 30 (by decide)]; exact RR_R0k h) (by rw [w23 0 31 (by decide)]; exact hb) ht Q
    rw [if_neg c, if_neg c] at q
    exact q
