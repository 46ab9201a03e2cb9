/-! THE ACCOUNTS: the acts keep them -/
/- the same but for tickets of one draw, which have no payments -/
set_option maxHeartbeats 4000000 in
set_option maxRecDepth 100000 in
theorem XV_draw {O O' : Of} {d j T B : Int} (hu0 : ∀ s : Int, 0 ≤ s → s < 600 → s / 100 = d → unc O s = 0 ∨ (O 3 s / 8 % 4 = 0 ∧ O' 3 s / 8 % 4 = 0)) (hb : ∀ s : Int, 0 ≤ s → s < 600 → ∀ k : Nat, k < 14 → ¬ k = 0 → ¬ k = 3 → ¬ k = 4 → fb O' s k = fb O s k) (hc : ∀ s : Int, 0 ≤ s → s < 600 → ¬ s / 100 = d → O' 3 s / 8 % 4 = O 3 s / 8 % 4) (h6 : ∀ e : Int, ¬ e = d → O' 6 e = O 6 e) (h8 : ∀ e c : Int, ¬ e = d → 1 ≤ c → c ≤ 3 → O' 8 (e * 3 + c - 1) = O 8 (e * 3 + c - 1)) (h14 : O' 14 = O 14) (h16 : O' 16 = O 16) (h17 : O' 17 = O 17) (h0 : O' 0 10 = O 0 10) (h18 : O' 18 = O 18) (h19 : O' 19 = O 19) (h20 : O' 20 = O 20) (hX : XV O j T B) : XV O' j T B := by
  obtain ⟨⟨x1, x2, x3⟩, x4⟩ := hX
  have eu : ∀ s : Int, 0 ≤ s → s < 600 → unc O' s = unc O s := fun s s1 s2 => by
    have f := hb s s1 s2
    unfold unc
    rw [f 8 (by decide) (by decide) (by decide) (by decide), f 9 (by decide) (by decide) (by decide) (by decide), f 10 (by decide) (by decide) (by decide) (by decide), f 11 (by decide) (by decide) (by decide) (by decide), f 12 (by decide) (by decide) (by decide) (by decide), f 13 (by decide) (by decide) (by decide) (by decide)]
  have ec : ∀ s : Int, 0 ≤ s → s < 600 → ctV O' s = ctV O s := fun s s1 s2 => by
    rw [ctV_unc, ctV_unc, eu s s1 s2]
    by_cases e : s / 100 = d
    · rcases hu0 s s1 s2 e with g | ⟨g1, g2⟩
      · rw [g, Int.zero_mul, Int.zero_mul]
      · have z : ∀ X : Of, X 3 s / 8 % 4 = 0 → pzO X s = 0 := fun X hx => by unfold pzO prO; rw [if_pos hx]
        rw [z O g1, z O' g2]
    · rw [pz_same (hc s s1 s2 e) (h6 _ e) (fun c c1 c3 => h8 _ c e c1 c3)]
  refine ⟨⟨?_, ?_, fun t t1 t2 h2 => ?_⟩, fun t t1 t2 hu => ?_⟩
  · have e : ctS O' = ctS O := sm_congr (fun k hk => ec k (by omega) (by omega))
    rw [e, x1]
    unfold cbW
    rw [h14, h0]
  · unfold XA
    rw [h16, h17]
    exact x2
  · have f := hb t t1 t2
    rw [f 2 (by decide) (by decide) (by decide) (by decide)] at h2
    rw [f 8 (by decide) (by decide) (by decide) (by decide), f 9 (by decide) (by decide) (by decide) (by decide), f 10 (by decide) (by decide) (by decide) (by decide)]
    exact x3 t t1 t2 h2
  · rw [eu t t1 t2] at hu
    rcases x4 t t1 t2 hu with g | ⟨i, w, i1, i2, w1, e1, e2⟩
    · exact Or.inl (by rw [hb t t1 t2 2 (by decide) (by decide) (by decide) (by decide)]; exact g)
    · right
      rw [h18, h19, h20]
      exact ⟨i, w, i1, i2, w1, e1, by rw [hb t t1 t2 _ (by omega) (by omega) (by omega) (by omega)]; exact e2⟩
set_option maxHeartbeats 4000000 in
set_option maxRecDepth 100000 in
theorem XO_sell {O : Of} {M : Int → Int} {t : Int} (hT : T1 O M) (hX : XO O) : XO (seO O t) := by
  unfold seO
  by_cases c1 : 0 ≤ t ∧ t < 600
  · rw [if_pos c1]
    by_cases c2 : O 7 (t / 100) = -5
    · rw [if_pos c2]
      by_cases c3 : fb O t 0 = 1
      · rw [if_pos c3]; exact hX
      · rw [if_neg c3]
        have hB := hT.1.1.2.1
        have hcl := RR_h0 hT.1 (t / 100) (by omega) (by omega) c2
        have n : ∀ c : Nat, ¬ c = 6 → ¬ c = 3 → oc (adO O t 0) 6 (up (O 6) (t / 100) (O 6 (t / 100) + 1)) c = O c := fun c h1 h2 => by rw [oc_nc h1, adO_nc h2]
        have ef : ∀ s : Int, 0 ≤ s → s < 600 → ∀ k : Nat, k < 14 → fb (oc (adO O t 0) 6 (up (O 6) (t / 100) (O 6 (t / 100) + 1))) s k = if s = t ∧ k = 0 then 1 else fb O s k := fun s s1 s2 k hk => by
          have e : fb (oc (adO O t 0) 6 (up (O 6) (t / 100) (O 6 (t / 100) + 1))) s k = fb (adO O t 0) s k := by unfold fb; rw [oc_nc (by decide)]
          rw [e]
          exact fb_ad hB ⟨s1, s2⟩ (by decide)
        have e6 : oc (adO O t 0) 6 (up (O 6) (t / 100) (O 6 (t / 100) + 1)) 6 = up (O 6) (t / 100) (O 6 (t / 100) + 1) := oc_at _ _ _
        have e00 : oc (adO O t 0) 6 (up (O 6) (t / 100) (O 6 (t / 100) + 1)) 0 = O 0 := n 0 (by decide) (by decide)
        unfold XO
        rw [e00]
        generalize oc (adO O t 0) 6 (up (O 6) (t / 100) (O 6 (t / 100) + 1)) = R at *
        have ec : ∀ s : Int, 0 ≤ s → s < 600 → R 3 s / 8 % 4 = O 3 s / 8 % 4 := fun s s1 s2 => cls_fb (by rw [ef s s1 s2 3 (by decide), if_neg (by omega)]) (by rw [ef s s1 s2 4 (by decide), if_neg (by omega)])
        refine XV_draw (d := t / 100) (fun s s1 s2 e => Or.inr ?_) (fun s s1 s2 k hk k0 _ _ => by rw [ef s s1 s2 k hk, if_neg (by omega)]) (fun s s1 s2 _ => ec s s1 s2) (fun e he => by rw [e6, up_ne he]) (fun e c _ _ _ => by rw [n 8 (by decide) (by decide)]) (n 14 (by decide) (by decide)) (n 16 (by decide) (by decide)) (n 17 (by decide) (by decide)) (by rw [e00]) (n 18 (by decide) (by decide)) (n 19 (by decide) (by decide)) (n 20 (by decide) (by decide)) hX
        have q := hcl (s - t / 100 * 100) (by omega) (by omega)
        have e2 : t / 100 * 100 + (s - t / 100 * 100) = s := by omega
        rw [e2] at q
        exact ⟨q, by rw [ec s s1 s2]; exact q⟩
    · rw [if_neg c2]; exact hX
  · rw [if_neg c1]; exact hX
set_option maxHeartbeats 4000000 in
set_option maxRecDepth 100000 in
theorem unc_0 {O : Of} {M : Int → Int} (h : RR O M) {s : Int} (hs : 0 ≤ s ∧ s < 600) (hc : O 3 s / 8 % 4 = 0) : unc O s = 0 := by
  have hm : clM M s = 0 := by rw [← (h.1.2.2 s hs.1 hs.2).1]; exact hc
  have z : ∀ w : Int, 0 ≤ w → w < 3 → fb O s (8 + w).toNat = 0 ∧ fb O s (11 + w).toNat = 0 := fun w w1 w2 => by
    obtain ⟨r1, r2, -, -⟩ := h.2.2.2.2.2.2.2 s w hs.1 hs.2 w1 w2
    have r3 := ((h.2.2.1 s hs.1 hs.2).2.1 w w1 w2).1.1
    have np : ¬ 0 < pd M w s := fun c => (r1 c).2 hm
    refine ⟨fb_pd h hs ⟨w1, w2⟩ (by omega), ?_⟩
    have q := fb_01 O s (11 + w).toNat
    rw [RF_c h.1 hs ⟨w1, w2⟩] at q ⊢
    rcases q with q | q
    · exact q
    · exact absurd (r2 q) np
  have z0 := z 0 (by omega) (by omega)
  have z1 := z 1 (by omega) (by omega)
  have z2 := z 2 (by omega) (by omega)
  have a0 : fb O s 8 = 0 := z0.1
  have a1 : fb O s 9 = 0 := z1.1
  have a2 : fb O s 10 = 0 := z2.1
  have a3 : fb O s 11 = 0 := z0.2
  have a4 : fb O s 12 = 0 := z1.2
  have a5 : fb O s 13 = 0 := z2.2
  unfold unc
  rw [a0, a1, a2, a3, a4, a5]
  rfl
set_option maxHeartbeats 4000000 in
set_option maxRecDepth 100000 in
theorem XO_draw {O : Of} {M : Int → Int} {d : Int} (hT : T1 O M) (hX : XO O) : XO (dbO O d) := by
  unfold dbO
  by_cases c1 : 0 ≤ d ∧ d < 6
  · rw [if_pos c1]
    by_cases c2 : O 7 d = -5
    · rw [if_pos c2]
      have hB := hT.1.1.2.1
      have hcl := RR_h0 hT.1 d c1.1 c1.2 c2
      obtain ⟨w, hw⟩ : ∃ w, w = lotN (O 0 1) % 100 := ⟨_, rfl⟩
      have n0 : ∀ c : Nat, ¬ c = 0 → ¬ c = 7 → dw0 O d c = O c := fun c h1 h2 => by unfold dw0; rw [oc_nc h2, oc_nc h1]
      have n00 : ∀ j : Int, ¬ j = 1 → dw0 O d 0 j = O 0 j := fun j hj => by unfold dw0; rw [oc_nc (by decide), oc_at, up_ne hj]
      rw [← hw]
      have e3 : dw0 O d 3 = O 3 := n0 3 (by decide) (by decide)
      obtain ⟨a1, a2, a3, a4⟩ := dwI_at (O := dw0 O d) (w := w) c1 (fun n m1 m2 => by rw [e3]; exact ⟨(hB _ (by omega) (by omega)).1, hcl n m1 m2⟩) 100 (Nat.le_refl _)
      have hi := dwI_hi (O := dw0 O d) (d := d) (w := w) 100
      generalize dwI (dw0 O d) d w 100 = R at *
      have n : ∀ c : Nat, ¬ c = 0 → ¬ c = 7 → ¬ c = 3 → ¬ c = 8 → R c = O c := fun c h1 h2 h3 h4 => by rw [a4 c h3 h4, n0 c h1 h2]
      have e00 : ∀ j : Int, ¬ j = 1 → R 0 j = O 0 j := fun j hj => by rw [a4 0 (by decide) (by decide), n00 j hj]
      have hin : ∀ s : Int, 0 ≤ s → s < 600 → s / 100 = d → R 3 s = O 3 s + 8 * clX (dw0 O d) d w (s - d * 100) := fun s s1 s2 e => by
        have q := a1 (s - d * 100) (by omega) (by omega)
        have e2 : d * 100 + (s - d * 100) = s := by omega
        rw [e2, e3] at q
        exact q
      have hout : ∀ s : Int, 0 ≤ s → s < 600 → ¬ s / 100 = d → R 3 s = O 3 s := fun s s1 s2 e => by rw [hi s (by omega), e3]
      have hc0 : ∀ s : Int, 0 ≤ s → s < 600 → s / 100 = d → O 3 s / 8 % 4 = 0 := fun s s1 s2 e => by
        have q := hcl (s - d * 100) (by omega) (by omega)
        have e2 : d * 100 + (s - d * 100) = s := by omega
        rw [e2] at q
        exact q
      unfold XO
      rw [e00 0 (by decide)]
      refine XV_draw (d := d) (fun s s1 s2 e => Or.inl (unc_0 hT.1 ⟨s1, s2⟩ (hc0 s s1 s2 e))) (fun s s1 s2 k hk _ k3 k4 => ?_) (fun s s1 s2 e => by rw [hout s s1 s2 e]) (fun e he => by rw [n 6 (by decide) (by decide) (by decide) (by decide)]) (fun e c he h1 h3 => ?_) (n 14 (by decide) (by decide) (by decide) (by decide)) (n 16 (by decide) (by decide) (by decide) (by decide)) (n 17 (by decide) (by decide) (by decide) (by decide)) (e00 10 (by decide)) (n 18 (by decide) (by decide) (by decide) (by decide)) (n 19 (by decide) (by decide) (by decide) (by decide)) (n 20 (by decide) (by decide) (by decide) (by decide)) hX
      · by_cases e : s / 100 = d
        · unfold fb
          rw [hin s s1 s2 e]
          exact fb_cls (hB s s1 s2).1 (hc0 s s1 s2 e) (clX_03 _ _ _ _) hk k3 k4
        · unfold fb
          rw [hout s s1 s2 e]
      · rw [a3 _ (by omega), n0 8 (by decide) (by decide)]
    · rw [if_neg c2]; exact hX
  · rw [if_neg c1]; exact hX
set_option maxHeartbeats 4000000 in
set_option maxRecDepth 100000 in
theorem XO_nc {O O' : Of} (h : ∀ c : Nat, ¬ c = 1 → ¬ c = 10 → ¬ c = 11 → O' c = O c) (hX : XO O) : XO O' := by
  have n : ∀ c : Nat, ¬ c = 1 → ¬ c = 10 → ¬ c = 11 → O' c = O c := h
  unfold XO
  rw [n 0 (by decide) (by decide) (by decide)]
  exact XV_sm (SmX_nc (n 3 (by decide) (by decide) (by decide)) (n 6 (by decide) (by decide) (by decide)) (n 8 (by decide) (by decide) (by decide)) (n 14 (by decide) (by decide) (by decide)) (n 16 (by decide) (by decide) (by decide)) (n 17 (by decide) (by decide) (by decide)) (by rw [n 0 (by decide) (by decide) (by decide)]) (by rw [n 18 (by decide) (by decide) (by decide)]) (n 19 (by decide) (by decide) (by decide)) (n 20 (by decide) (by decide) (by decide))) hX
set_option maxHeartbeats 4000000 in
set_option maxRecDepth 100000 in
theorem XO_come {O : Of} {w t : Int} (hX : XO O) : XO (acO O w t) := by
  unfold acO
  split
  · split
    · exact hX
    · exact XO_nc (fun c h1 h2 h3 => by rw [oc_nc h3, oc_nc h2]) hX
  · exact hX
set_option maxHeartbeats 4000000 in
set_option maxRecDepth 100000 in
theorem rgO_nc {O : Of} {t w : Int} {c : Nat} (h1 : ¬ c = 10) (h2 : ¬ c = 11) : rgO O t w c = O c := by
  unfold rgO
  rw [oc_nc h2, oc_nc h1]
set_option maxHeartbeats 4000000 in
set_option maxRecDepth 100000 in
theorem XO_leave {O : Of} {t : Int} (hX : XO O) : XO (rcO O t) := by
  unfold rcO
  split
  · exact XO_nc (fun c h1 h2 h3 => by unfold rmvO; rw [rgO_nc h2 h3, rgO_nc h2 h3, rgO_nc h2 h3]) hX
  · exact hX
set_option maxHeartbeats 4000000 in
set_option maxRecDepth 100000 in
theorem XO_set {O : Of} {w v : Int} (hX : XO O) : XO (cgO O w v) := by
  unfold cgO
  split
  · split
    · exact hX
    · exact XO_nc (fun c h1 h2 h3 => by rw [oc_nc h1]) hX
  · exact hX
set_option maxHeartbeats 4000000 in
set_option maxRecDepth 100000 in
theorem XO_pass {O : Of} {M : Int → Int} {t : Int} (hT : T1 O M) (h9 : M 0 ≤ 9999) (hX : XO O) : XO (paO O t) := by
  unfold paO
  split
  · next c =>
    split
    · exact hX
    · next c2 =>
      have e0 := hT.1.2.2.2.2.2.2.1.1.1
      exact XO_ticks hT hX t.toNat (by omega)
  · exact hX
/- who leaves when none does -/
set_option maxHeartbeats 4000000 in
set_option maxRecDepth 100000 in
theorem raW_same {f : Int → Int} {t w : Int} : ∀ j : Nat, (raW f t w j).2 = j → (raW f t w j).1 = f
  | 0, _ => rfl
  | j + 1, h => by
    have hb := raW_b (f := f) (t := t) (w := w) j
    unfold raW at h ⊢
    dsimp only at h ⊢
    by_cases c : (raW f t w j).1 (w * 8 + (j : Int)) = t
    · rw [if_pos c] at h
      omega
    · rw [if_neg c] at h ⊢
      have ih := raW_same (f := f) (t := t) (w := w) j (by omega)
      have e : (raW f t w j).2 = j := by omega
      rw [ih, e]
      exact up_id f _
set_option maxHeartbeats 4000000 in
set_option maxRecDepth 100000 in
theorem rg_same {O : Of} {t w : Int} (hn : 0 ≤ O 11 w) (h : rgN O t w = 0) : rgO O t w = O := by
  unfold rgN at h
  unfold rgO
  have e : (raW (O 10) t w (O 11 w).toNat).2 = ((O 11 w).toNat : Int) := by omega
  rw [raW_same _ e, e]
  have e2 : ((O 11 w).toNat : Int) = O 11 w := by omega
  rw [e2, up_id, oc_id, oc_id]
set_option maxHeartbeats 4000000 in
set_option maxRecDepth 100000 in
theorem rmv_same {O : Of} {t : Int} (hR : RwB O) (h : rmvN O t = 0) : rmvO O t = O := by
  have b0 := hR 0 (by omega) (by omega)
  have b1 := hR 1 (by omega) (by omega)
  have b2 := hR 2 (by omega) (by omega)
  have f1 := rgO_w (O := O) (t := t) (w := 0) (v := 1) (by omega) (by omega) b0.1
  have f2 := rgO_w (O := O) (t := t) (w := 0) (v := 2) (by omega) (by omega) b0.1
  have f3 := rgO_w (O := rgO O t 0) (t := t) (w := 1) (v := 2) (by omega) (by omega) (by rw [f1.1]; exact b1.1)
  have g0 := rgN_b (t := t) b0.1
  have g1 := rgN_b (O := rgO O t 0) (t := t) (w := 1) (by rw [f1.1]; exact b1.1)
  have g2 := rgN_b (O := rgO (rgO O t 0) t 1) (t := t) (w := 2) (by rw [f3.1, f2.1]; exact b2.1)
  unfold rmvN at h
  have e0 := rg_same (O := O) (t := t) (w := 0) b0.1.1 (by omega)
  unfold rmvO
  rw [e0] at h g1 g2 ⊢
  have e1 := rg_same (O := O) (t := t) (w := 1) b1.1.1 (by omega)
  rw [e1] at h g2 ⊢
  exact rg_same (O := O) (t := t) (w := 2) b2.1.1 (by omega)
