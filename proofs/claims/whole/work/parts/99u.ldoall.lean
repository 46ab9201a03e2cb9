/-! THE LAW: doAll, all of it -/
set_option maxHeartbeats 4000000 in
set_option maxRecDepth 100000 in
theorem LR_30 {S T : Hp} (h : LRel S) (e : ∀ k c : Nat, ¬ (k = 0 ∧ c = 30) → T k c = S k c) (h30 : ∀ j : Int, (j = 6 ∨ j = 7 ∨ j = 8) → T 0 30 j = S 0 30 j) (t10 : tdR (T 0 30 10)) (t11 : tdR (T 0 30 11)) : LRel T := LR_cg h (fun k c q => e k c (by omega)) (by rw [e 0 25 (by decide)]) h30 t10 t11
set_option maxHeartbeats 4000000 in
set_option maxRecDepth 100000 in
theorem act_30 {W : Hp} {f M' : Int → Int} {v : Int} (h6 : f 6 = W 0 30 6) (hv : 0 ≤ v) : (∀ k c : Nat, ¬ (k = 0 ∧ c = 30) → actS (hr W 0 30 f) M' v k c = actS W M' v k c) ∧ actS (hr W 0 30 f) M' v 0 30 = up f 6 (rcK (W 0 30 6) + 1) ∧ actS W M' v 0 30 = up (W 0 30) 6 (rcK (W 0 30 6) + 1) := by
  unfold actS
  rw [if_neg (by omega), if_neg (by omega)]
  unfold rcS
  simp (disch := decide) only [hr_at, hr_nc]
  refine ⟨fun k c h => ?_, by rw [h6], trivial⟩
  rw [h6]
  unfold hr
  by_cases k0 : k = 0
  · subst k0
    have c30 : ¬ c = 30 := fun q => h ⟨rfl, q⟩
    simp only [c30, and_false, ↓reduceIte]
  · simp only [k0, false_and, ↓reduceIte]
set_option maxHeartbeats 4000000 in
set_option maxRecDepth 100000 in
theorem LR_sw {S T : Hp} {O' : Of} (h : LRel S) (tc : ∀ k c : Nat, c < 23 → T k c = acS S O' k c) (t23 : T 0 23 = up (up (S 0 23) 0 ((S 0 23 1).toNat : Int)) 1 (nw S : Int)) (tk : ∀ c : Nat, 24 ≤ c → ¬ c = 30 → ¬ c = 31 → ¬ c = 33 → T 0 c = S 0 c) (t31 : ∀ j : Int, 0 ≤ j → j < 3833 → T 0 31 j = S 0 31 j) (t30 : ∀ j : Int, (j = 6 ∨ j = 7 ∨ j = 8) → T 0 30 j = S 0 30 j) (t10 : tdR (T 0 30 10)) (t11 : tdR (T 0 30 11)) : LRel T := by
  obtain ⟨⟨hs, h6⟩, hD, hN, hH, hP, hX⟩ := h
  obtain ⟨⟨a1, a2, a3⟩, ⟨b1, b2, b3⟩, c1, c3, c4⟩ := id hD
  have hns : ¬ sp S = nw S := by unfold nw sp; omega
  have hn2 : ¬ 2 = nw S := by unfold nw; omega
  have hs2 : ¬ 2 = sp S := by unfold sp; omega
  have ws : ∀ c : Nat, c < 23 → T (sp S) c = cpO (S (sp S)) (S (nw S)) c := fun c hc => by
    rw [tc _ c hc]
    unfold acS bgS
    rw [ho_nk hns, ho_at hc]
  have wo : ∀ k c : Nat, c < 23 → ¬ k = nw S → ¬ k = sp S → T k c = S k c := fun k c hc q1 q2 => by
    rw [tc _ c hc]
    unfold acS bgS
    rw [ho_nk q1, ho_nk q2]
  have hA : ∀ k : Int, 0 ≤ k → k < 4 → ¬ (S 0 24 k).toNat = nw S ∧ ¬ (S 0 24 k).toNat = sp S := fun k k1 k2 => by
    have p := c3 k k1 k2
    have q := a3 k k1 k2
    unfold nw sp
    omega
  have n0 : (nw S : Int) = S 0 23 0 := by unfold nw; omega
  have s0 : ((S 0 23 1).toNat : Int) = S 0 23 1 := by omega
  rw [n0, s0] at t23
  have r0 : T 0 23 0 = S 0 23 1 := by rw [t23, up_ne (by decide), up_eq rfl]
  have r1 : T 0 23 1 = S 0 23 0 := by rw [t23, up_eq rfl]
  have r3 : T 0 23 3 = S 0 23 3 := by rw [t23, up_ne (by decide), up_ne (by decide)]
  have r5 : T 0 23 5 = S 0 23 5 := by rw [t23, up_ne (by decide), up_ne (by decide)]
  have tnw : nw T = sp S := by unfold nw sp; rw [r0]
  unfold LRel TxL DsC
  rw [tnw, r0, r1, r3, r5, tk 24 (by decide) (by decide) (by decide) (by decide), tk 34 (by decide) (by decide) (by decide) (by decide), tk 32 (by decide) (by decide) (by decide) (by decide), tk 29 (by decide) (by decide) (by decide) (by decide), tk 35 (by decide) (by decide) (by decide) (by decide), tk 25 (by decide) (by decide) (by decide) (by decide), t30 6 (by omega), t30 7 (by omega), t30 8 (by omega)]
  refine ⟨⟨hs, h6⟩, ⟨⟨a2, a1, a3⟩, ⟨b2, b1, b3⟩, fun q => c1 q.symm, fun k k1 k2 => ⟨(c3 k k1 k2).2, (c3 k k1 k2).1⟩, c4⟩, ?_, fun k k1 k2 => ?_, ⟨hP.1, hP.2.1, fun q => Ok1_sc (fun c hc => wo 2 c hc hn2 hs2) (fun _ _ _ => rfl) (hP.2.2 q)⟩, hX.1, hX.2.1, hX.2.2.1, hX.2.2.2.1, t10, t11⟩
  · exact Ok1_sc (O := cpO (S (sp S)) (S (nw S))) (M := S 0 31) (fun c hc => ws c hc) t31 ⟨T1_eqo hN.1 (cpO_eq _ _), hN.2⟩
  · have q := hA k k1 (by omega)
    exact Ok1_sc (fun c hc => wo _ c hc q.1 q.2) (fun _ _ _ => rfl) (hH k k1 k2)
set_option maxHeartbeats 4000000 in
set_option maxRecDepth 100000 in
theorem LO_doAll {S : Hp} (h : LRel S) : Two S 87 [.inr (0, 23)] 171 [.inr (0, 30)] := by
  obtain ⟨x1, x2, x3, x4, x5, x6⟩ := h.2.2.2.2.2
  have hTQ : TxQ (S 0 35) (S 0 30) := ⟨x3, x4⟩
  have hb := raM_b hTQ
  have td := raM_td hTQ x5 x6
  obtain ⟨r, T, ⟨hr0, R', A', B', C', q0, q1, hT⟩, hW⟩ := Wc_get (c_read (S := S) (Rm := S 0 30) (Q := fun r T => r = some (.inl (if (raM (S 0 35) (S 0 30)).1 < 0 then -100 - (raM (S 0 35) (S 0 30)).1 else -5)) ∧ ∃ R' A' B' C', R' 0 = S 0 25 0 ∧ (0 ≤ (raM (S 0 35) (S 0 30)).1 → R' 1 = (raM (S 0 35) (S 0 30)).1 ∧ RdA (S 0 35) (S 0 25 0) (raM (S 0 35) (S 0 30)).1 A' B' C') ∧ T = hq S R' A' B' C') (by rw [x2]; exact x3) (by rw [x1]; exact x4) x2.symm (fun R' A' B' C' q0 q1 => by
    rw [x1] at q1 ⊢
    exact ⟨rfl, R', A', B', C', q0, q1, rfl⟩))
  have tn : ∀ k c : Nat, (c < 25 ∨ 28 < c) → T k c = S k c := fun k c q => by rw [hT]; exact q_nc q
  have t25 : T 0 25 = R' := by rw [hT]; exact q_25
  have t26 : T 0 26 = A' := by rw [hT]; exact q_26
  have t27 : T 0 27 = B' := by rw [hT]; exact q_27
  have t28 : T 0 28 = C' := by rw [hT]; exact q_28
  have hL : LRel T := LR_cg h (fun k c q => tn k c (by omega)) (by rw [t25]; exact q0) (fun j hj => by rw [tn 0 30 (by decide)]) (by rw [tn 0 30 (by decide)]; exact x5) (by rw [tn 0 30 (by decide)]; exact x6)
  clear hT
  have t30 := tn 0 30 (by decide)
  have t31 := tn 0 31 (by decide)
  have t35 := tn 0 35 (by decide)
  have t40 := tn 0 40 (by decide)
  have t41 := tn 0 41 (by decide)
  by_cases c : (raM (S 0 35) (S 0 30)).1 < 0
  · rw [if_pos c] at hr0
    subst hr0
    have e100 : -100 - (-100 - (raM (S 0 35) (S 0 30)).1) = (raM (S 0 35) (S 0 30)).1 := by omega
    have r1 : ∀ Q : Option MV → Hp → Prop, Wc 87 [.inr (0, 23)] S Q = Q (some (.inl (raM (S 0 35) (S 0 30)).1)) T := fun Q => Wc_eq (dc_fault hW (by omega) ⟨by rw [e100], rfl⟩) Q
    have r2 : ∀ Q : Option MV → Hp → Prop, Wc 171 [.inr (0, 30)] T Q = Q (some (.inl (raM (S 0 35) (S 0 30)).1)) (hr T 0 30 (raM (S 0 35) (S 0 30)).2) := fun Q => by
      have q := m_doAll (S := T) (by rw [t30, t35]; exact hTQ) (RR_R0k hL) (by rw [t30, t35]; exact td.1) (by rw [t30, t35]; exact td.2) (by rw [t30, t35]; exact fun q => absurd c (by omega)) Q
      rw [t30, t35, if_pos c, if_pos c] at q
      exact q
    refine ⟨T, _, _, r1, t40, t41, r2, by rw [hr_nc (by decide)]; exact t40, by rw [hr_nc (by decide)]; exact t41, LR_30 hL (fun k c q => by unfold hr; rw [if_neg q]) (fun j hj => by rw [hr_at, t30]; exact hb.2.2.2.2 j (by omega)) (by rw [hr_at]; exact td.1) (by rw [hr_at]; exact td.2)⟩
  · rw [if_neg c] at hr0
    subst hr0
    obtain ⟨hPm, hne⟩ := LR_PmB hL
    have c0 : 0 ≤ (raM (S 0 35) (S 0 30)).1 := by omega
    obtain ⟨q2, q3⟩ := q1 c0
    have gd := raL_gd (X := S 0 35) 61 (up (S 0 30) 5 0) (up (raM (S 0 35) (S 0 30)).2 5 0) 0 (TxP_0 hTQ) (by rw [up_eq rfl, up_eq rfl]) (by rw [up_ne (by decide), up_ne (by decide), hb.2.2.2.2 7 (by decide)]) (by rw [up_eq rfl]; omega) (by rw [up_eq rfl]; omega) c0
    have em : raL (S 0 35) 61 (up (S 0 30) 5 0) 0 = raM (S 0 35) (S 0 30) := rfl
    rw [em] at gd
    have hm : 0 ≤ (raM (S 0 35) (S 0 30)).1 ∧ (raM (S 0 35) (S 0 30)).1 ≤ 20 := ⟨c0, gd.2.1⟩
    have hN := hL.2.2.1
    rw [t31] at hN
    have b26 : ∀ c : Nat, ¬ c < 23 → bgS T 0 c = T 0 c := fun c q => by unfold bgS; exact ho_nc q
    obtain ⟨dP, O', k1, k2, k3⟩ := dl_loop (S := bgS T) (b := nw T) (p := -5) (X := S 0 35) (len := S 0 25 0) hm (raM (S 0 35) (S 0 30)).1.toNat (T (nw T)) (S 0 31) (up (raM (S 0 35) (S 0 30)).2 5 0) 0 0 (by omega) (by omega) (by unfold tdR; omega) (Or.inl (by omega)) hN (gd.2.2 _ (by omega)) (by rw [up_ne (by decide), hb.2.2.2.2 7 (by decide), x2]) (fun k hk => by
      have q := q3 k (by omega)
      rw [b26 26 (by decide), b26 27 (by decide), b26 28 (by decide), t26, t27, t28, up_eq rfl, Int.zero_add]
      exact q)
    have eD : daL (S 0 35) (raM (S 0 35) (S 0 30)).1.toNat (up (raM (S 0 35) (S 0 30)).2 5 0) (S 0 31) 0 = daT (S 0 35) (S 0 30) (S 0 31) := rfl
    have dR := daL_row _ _ _ _ dP
    rw [eD] at k1 k2 k3 dR
    have d10 := dR.2.1 (by rw [up_ne (by decide)]; exact td.1)
    have d11 := dR.2.2 (by rw [up_ne (by decide)]; exact td.2)
    have dI : ∀ j : Int, (j = 6 ∨ j = 7 ∨ j = 8) → (daT (S 0 35) (S 0 30) (S 0 31)).1 j = S 0 30 j := fun j hj => by rw [dR.1 j (by omega), up_ne (by omega), hb.2.2.2.2 j (by omega)]
    have hm2 : ∀ W : Hp, W 0 30 = S 0 30 → W 0 31 = S 0 31 → W 0 35 = S 0 35 → ∀ Q : Option MV → Hp → Prop, Wc 171 [.inr (0, 30)] W Q = Q (some (.inl (daR (S 0 35) (S 0 30) (S 0 31)))) (actS (hr W 0 30 (daT (S 0 35) (S 0 30) (S 0 31)).1) (daT (S 0 35) (S 0 30) (S 0 31)).2.1 (daR (S 0 35) (S 0 30) (S 0 31))) := fun W w30 w31 w35 Q => by
      have q := m_doAll (S := W) (by rw [w30, w35]; exact hTQ) (by rw [w30]; exact RR_R0k h) (by rw [w30, w35]; exact td.1) (by rw [w30, w35]; exact td.2) (by rw [w30, w31, w35]; exact fun _ => dP) Q
      rw [w30, w31, w35, if_neg c, if_neg c] at q
      exact q
    have a23 : ∀ c : Nat, 23 ≤ c → acS T O' 0 c = T 0 c := fun c hc => ac_hi hc
    have k25 : T 0 25 1 = (raM (S 0 35) (S 0 30)).1 := by rw [t25]; exact q2
    generalize hDg : daT (S 0 35) (S 0 30) (S 0 31) = D at *
    generalize hmg : (raM (S 0 35) (S 0 30)).1 = m at *
    by_cases g : 0 ≤ D.2.2 ∨ D.2.2 = -5
    · have hv : daR (S 0 35) (S 0 30) (S 0 31) = m := by
        unfold daR
        rw [hDg, hmg, if_neg (by omega)]
      rw [hv] at hm2
      have r1 : ∀ Q : Option MV → Hp → Prop, Wc 87 [.inr (0, 23)] S Q = Q (some (.inl m)) (edS (acS T O') m) := fun Q => Wc_eq (dc_begin hW hne (fun y1 y2 => by
        rw [k25]
        exact k3 _ y1 y2 (fun _ u1 u2 => dc_end (ac_P hPm) hm rfl ⟨rfl, rfl⟩) (fun q => absurd g q))) Q
      have e0 : ∀ c : Nat, 28 < c → edS (acS T O') m 0 c = S 0 c := fun c hc => by rw [ed_nc (by omega), tn 0 c (by omega)]
      have r2 := hm2 (edS (acS T O') m) (e0 30 (by decide)) (e0 31 (by decide)) (e0 35 (by decide))
      have hA := LR_act (v := m) hL k1 (fun q => absurd q (by omega))
      obtain ⟨f1, f2, f3⟩ := act_30 (W := edS (acS T O') m) (f := D.1) (M' := D.2.1) (v := m) (by rw [e0 30 (by decide)]; exact dI 6 (by omega)) c0
      refine ⟨_, _, m, r1, e0 40 (by decide), e0 41 (by decide), r2, by rw [f1 0 40 (by decide), act_nc (by decide), e0 40 (by decide)], by rw [f1 0 41 (by decide), act_nc (by decide), e0 41 (by decide)], LR_30 hA f1 (fun j hj => ?_) (by rw [f2, up_ne (by decide)]; exact d10) (by rw [f2, up_ne (by decide)]; exact d11)⟩
      rw [f2, f3, e0 30 (by decide)]
      by_cases j6 : j = 6
      · rw [up_eq j6, up_eq j6]
      · rw [up_ne j6, up_ne j6]
        exact dI j hj
    · have hv : daR (S 0 35) (S 0 30) (S 0 31) = D.2.2 := by
        unfold daR
        rw [hDg, if_pos (by omega)]
      rw [hv] at hm2
      have hneg : D.2.2 < 0 := by omega
      obtain ⟨W, hWd⟩ : ∃ W, W = hr (acS T O') 0 23 (up (up (T 0 23) 0 ((T 0 23 1).toNat : Int)) 1 (nw T : Int)) := ⟨_, rfl⟩
      have r1 : ∀ Q : Option MV → Hp → Prop, Wc 87 [.inr (0, 23)] S Q = Q (some (.inl D.2.2)) W := fun Q => Wc_eq (dc_begin hW hne (fun y1 y2 => by
        rw [k25]
        refine k3 _ y1 y2 (fun q => absurd q g) (fun _ => ⟨rfl, ?_⟩)
        rw [b26 23 (by decide), hWd]
        rfl)) Q
      have e0 : ∀ c : Nat, 28 < c → W 0 c = S 0 c := fun c hc => by rw [hWd, hr_nc (by omega), a23 c (by omega), tn 0 c (by omega)]
      have r2 := hm2 W (e0 30 (by decide)) (e0 31 (by decide)) (e0 35 (by decide))
      have w23 : W 0 23 = up (up (T 0 23) 0 ((T 0 23 1).toNat : Int)) 1 (nw T : Int) := by rw [hWd, hr_at]
      have wn : ∀ k c : Nat, ¬ c = 23 → W k c = acS T O' k c := fun k c q => by rw [hWd, hr_nc q]
      obtain ⟨V, hVd⟩ : ∃ V, V = actS (hr W 0 30 D.1) D.2.1 D.2.2 := ⟨_, rfl⟩
      rw [← hVd] at r2
      have vc : ∀ k c : Nat, ¬ c = 30 → ¬ c = 31 → ¬ c = 33 → V k c = W k c := fun k c p1 p2 p3 => by
        rw [hVd]
        unfold actS
        rw [if_pos hneg, hr_nc p2, hr_nc p3, hr_nc p1]
      have v30 : V 0 30 = D.1 := by
        rw [hVd]
        unfold actS
        rw [if_pos hneg, hr_nc (by decide), hr_nc (by decide), hr_at]
      have v31 : V 0 31 = cpF D.2.1 (S 0 31) 3833 := by
        rw [hVd]
        unfold actS
        rw [if_pos hneg, hr_at, hr_nc (by decide), e0 31 (by decide)]
      refine ⟨W, V, D.2.2, r1, e0 40 (by decide), e0 41 (by decide), r2, by rw [vc 0 40 (by decide) (by decide) (by decide), e0 40 (by decide)], by rw [vc 0 41 (by decide) (by decide) (by decide), e0 41 (by decide)], ?_⟩
      refine LR_sw (O' := O') hL (fun k c hc => by rw [vc k c (by omega) (by omega) (by omega), wn k c (by omega)]) (by rw [vc 0 23 (by decide) (by decide) (by decide), w23]) (fun c p0 p1 p2 p3 => by rw [vc 0 c p1 p2 p3, wn 0 c (by omega), a23 c (by omega)]) (fun j j1 j2 => by rw [v31, t31]; exact cpF_in ⟨j1, j2⟩) (fun j hj => by rw [v30, t30]; exact dI j hj) (by rw [v30]; exact d10) (by rw [v30]; exact d11)
