/-! THE ACCOUNTS: windows serve, the clerk settles, a tick -/
set_option maxHeartbeats 4000000 in
set_option maxRecDepth 100000 in
theorem SmX_sw {O : Of} {w t : Int} : SmX O (swO O w t) := by
  unfold swO
  refine SmX_tr (SmX_sn (O := O) (kind := 1) (w := w) (t := t) (d := O 0 0 + O 1 1)) ?_
  generalize snO O 1 w t (O 0 0 + O 1 1) = P
  have n : ∀ c : Nat, ¬ c = 12 → ¬ c = 13 → oc (oc P 12 (up (O 12) w t)) 13 (up (O 13) w 0) c = P c := fun c h1 h2 => by rw [oc_nc h2, oc_nc h1]
  exact SmX_nc (n 3 (by decide) (by decide)) (n 6 (by decide) (by decide)) (n 8 (by decide) (by decide)) (n 14 (by decide) (by decide)) (n 16 (by decide) (by decide)) (n 17 (by decide) (by decide)) (by rw [n 0 (by decide) (by decide)]) (by rw [n 18 (by decide) (by decide)]) (n 19 (by decide) (by decide)) (n 20 (by decide) (by decide))
set_option maxHeartbeats 4000000 in
set_option maxRecDepth 100000 in
theorem SmX_tf {O : Of} {w : Int} : SmX O (tfO O w) := by
  have n : ∀ c : Nat, ¬ c = 10 → ¬ c = 11 → tfO O w c = O c := fun c h1 h2 => tfO_nc ⟨h1, h2⟩
  exact SmX_nc (n 3 (by decide) (by decide)) (n 6 (by decide) (by decide)) (n 8 (by decide) (by decide)) (n 14 (by decide) (by decide)) (n 16 (by decide) (by decide)) (n 17 (by decide) (by decide)) (by rw [n 0 (by decide) (by decide)]) (by rw [n 18 (by decide) (by decide)]) (n 19 (by decide) (by decide)) (n 20 (by decide) (by decide))
set_option maxHeartbeats 4000000 in
set_option maxRecDepth 100000 in
theorem XV_serve {O : Of} {M : Int → Int} {w B : Int} (h : RR O M) (hw : 0 ≤ w ∧ w < 3) (hX : XV O 0 0 B) : XV (svO O w) 0 0 (B + 2) := by
  have hX1 : XV (sv1O O w) 0 0 (B + 1) := by
    unfold sv1O
    split
    · exact XV_aw hw (by omega) (XV_sm SmX_fr hX)
    · exact XV_le hX (by omega)
  have e3 : sv1O O w 3 = O 3 := sv1O_nc (by decide)
  have e10 : sv1O O w 10 = O 10 := sv1O_nc (by decide)
  have e11 : sv1O O w 11 = O 11 := sv1O_nc (by decide)
  have e18 : sv1O O w 18 = O 18 := sv1O_nc (by decide)
  unfold svO
  split
  · split
    · exact XV_le hX1 (by omega)
    · next h11 =>
      rw [e11] at h11
      obtain ⟨b1, b2, b3, -⟩ := h.2.2.2.1 w hw.1 hw.2
      have q := b2 0 (by omega) (by omega)
      have q3 := b3 0 (by omega) (by omega)
      rw [Int.add_zero] at q
      rw [← q, ← e10] at q3
      have hX2 : XV (tfO (sv1O O w) w) 0 0 (B + 1) := XV_sm SmX_tf hX1
      have g3 : tfO (sv1O O w) w 3 = O 3 := by rw [tfO_nc (by decide), e3]
      have g18 : tfO (sv1O O w) w 18 = O 18 := by rw [tfO_nc (by decide), e18]
      generalize sv1O O w 10 (w * 8) = t at *
      generalize tfO (sv1O O w) w = P at *
      have hf : ∀ s k, fb P s k = fb O s k := fun s k => by unfold fb; rw [g3]
      have hBP : FxB P := fun s s1 s2 => by rw [g3]; exact h.1.2.1 s s1 s2
      have rb := rsO_b P w t
      unfold sv2O
      by_cases c1 : rsO P w t = 0
      · rw [if_pos c1]
        by_cases c2 : P 1 0 = 1 ∧ ¬ t % 3 = w
        · rw [if_pos c2]
          exact XV_le (XV_sm SmX_sw hX2) (by omega)
        · rw [if_neg c2]
          have hm : ¬ fb P t (5 + w).toNat = 1 := by
            intro c
            unfold rsO at c1
            split at c1
            · omega
            · split at c1
              · omega
              · split at c1
                · omega
                · omega
          rw [hf, RF_m h.1 q3 hw] at hm
          have hpd : pd M w t = 0 := by
            have r1 := (h.2.2.2.2.2.2.2 t w q3.1 q3.2 hw.1 hw.2).1
            have r2 := ((h.2.2.1 t q3.1 q3.2).2.1 w hw.1 hw.2).1.1
            by_cases c : 0 < pd M w t
            · exact absurd (r1 c).1 hm
            · omega
          have n0 := h.2.2.2.2.1.1.1
          have n1 := h.2.2.2.2.1.2.1
          refine XV_le (XV_pay hw q3 (by rw [hf]; exact fb_pd h q3 hw hpd) (by rw [g18]; omega) (by rw [g18]; omega) (PyF_pay hBP hw) hX2) (by omega)
      · rw [if_neg c1]
        exact XV_le (XV_aw hw (by omega) hX2) (by omega)
  · exact XV_le hX1 (by omega)
/- a payment called back -/
set_option maxHeartbeats 4000000 in
set_option maxRecDepth 100000 in
theorem X3_ss {P : Of} {t b p z B : Int} (hB : FxB P) (ht : 0 ≤ t ∧ t < 600) (hz : 0 ≤ z ∧ z < 3) (hp : pzO P t = p) (hX : X3 P B) : X3 (ssO P t b p z) B ∧ pzO (ssO P t b p z) t = p ∧ FxB (ssO P t b p z) ∧ (∀ s : Int, 0 ≤ s → s < 600 → ∀ k : Nat, k < 14 → fb (ssO P t b p z) s k = if (s = t ∧ k = (11 + z).toNat) ∧ ¬ z = b ∧ fb P t (8 + z).toNat = 1 then 1 else fb P s k) ∧ ∀ c : Nat, ¬ c = 0 → ¬ c = 3 → ssO P t b p z c = P c := by
  unfold ssO
  by_cases c : ¬ z = b ∧ fb P t (8 + z).toNat = 1 ∧ fb P t (11 + z).toNat = 0
  · rw [if_pos c]
    have n : ∀ c : Nat, ¬ c = 0 → ¬ c = 3 → oc (adO P t (11 + z).toNat) 0 (up (up (P 0) 9 (P 0 9 + 1)) 10 (P 0 10 + p)) c = P c := fun c h1 h2 => by rw [oc_nc h1, adO_nc h2]
    have ef : ∀ s : Int, 0 ≤ s → s < 600 → ∀ k : Nat, k < 14 → fb (oc (adO P t (11 + z).toNat) 0 (up (up (P 0) 9 (P 0 9 + 1)) 10 (P 0 10 + p))) s k = if s = t ∧ k = (11 + z).toNat then 1 else fb P s k := fun s s1 s2 k hk => by
      have e : fb (oc (adO P t (11 + z).toNat) 0 (up (up (P 0) 9 (P 0 9 + 1)) 10 (P 0 10 + p))) s k = fb (adO P t (11 + z).toNat) s k := by
        unfold fb
        rw [oc_nc (by decide)]
      rw [e]
      exact fb_ad hB ⟨s1, s2⟩ (by omega)
    have e010 : oc (adO P t (11 + z).toNat) 0 (up (up (P 0) 9 (P 0 9 + 1)) 10 (P 0 10 + p)) 0 10 = P 0 10 + p := by rw [oc_at, up_eq rfl]
    have hBR : FxB (oc (adO P t (11 + z).toNat) 0 (up (up (P 0) 9 (P 0 9 + 1)) 10 (P 0 10 + p))) := FxB_nc (by decide) (adO_B hB (by omega))
    generalize oc (adO P t (11 + z).toNat) 0 (up (up (P 0) 9 (P 0 9 + 1)) 10 (P 0 10 + p)) = R at *
    have epz : ∀ s : Int, 0 ≤ s → s < 600 → pzO R s = pzO P s := fun s s1 s2 => pz_same (cls_fb (by rw [ef s s1 s2 3 (by decide), if_neg (by omega)]) (by rw [ef s s1 s2 4 (by decide), if_neg (by omega)])) (by rw [n 6 (by decide) (by decide)]) (fun c _ _ => by rw [n 8 (by decide) (by decide)])
    have eun : ∀ s : Int, 0 ≤ s → s < 600 → ¬ s = t → unc R s = unc P s := fun s s1 s2 e => by
      have f : ∀ k : Nat, k < 14 → fb R s k = fb P s k := fun k hk => by rw [ef s s1 s2 k hk, if_neg (by omega)]
      unfold unc
      rw [f 8 (by decide), f 9 (by decide), f 10 (by decide), f 11 (by decide), f 12 (by decide), f 13 (by decide)]
    have eut : unc R t = unc P t - 1 := by
      have f := ef t ht.1 ht.2
      have c3 := c.2.2
      unfold unc
      rcases (show z = 0 ∨ z = 1 ∨ z = 2 by omega) with rfl | rfl | rfl
      · have q2 : fb P t 11 = 0 := c3
        rw [f 8 (by decide), f 9 (by decide), f 10 (by decide), f 11 (by decide), f 12 (by decide), f 13 (by decide), if_neg (by omega), if_neg (by omega), if_neg (by omega), if_pos (by omega), if_neg (by omega), if_neg (by omega), q2]
        omega
      · have q2 : fb P t 12 = 0 := c3
        rw [f 8 (by decide), f 9 (by decide), f 10 (by decide), f 11 (by decide), f 12 (by decide), f 13 (by decide), if_neg (by omega), if_neg (by omega), if_neg (by omega), if_neg (by omega), if_pos (by omega), if_neg (by omega), q2]
        omega
      · have q2 : fb P t 13 = 0 := c3
        rw [f 8 (by decide), f 9 (by decide), f 10 (by decide), f 11 (by decide), f 12 (by decide), f 13 (by decide), if_neg (by omega), if_neg (by omega), if_neg (by omega), if_neg (by omega), if_neg (by omega), if_pos (by omega), q2]
        omega
    obtain ⟨x1, x2, x3⟩ := hX
    refine ⟨⟨?_, ?_, fun s s1 s2 h2 => ?_⟩, by rw [epz t ht.1 ht.2]; exact hp, hBR, fun s s1 s2 k hk => ?_, n⟩
    · have e := ctS_one (O := P) (O' := R) ht (fun s s1 s2 e => by rw [ctV_unc, ctV_unc, eun s s1 s2 e, epz s s1 s2])
      rw [ctV_unc, ctV_unc, eut, epz t ht.1 ht.2, hp, Int.sub_mul] at e
      unfold cbW at x1 ⊢
      rw [n 14 (by decide) (by decide), e010]
      omega
    · unfold XA
      rw [n 16 (by decide) (by decide), n 17 (by decide) (by decide)]
      exact x2
    · rw [ef s s1 s2 2 (by decide), if_neg (by omega)] at h2
      have f : ∀ k : Nat, k < 11 → fb R s k = fb P s k := fun k hk => by rw [ef s s1 s2 k (by omega), if_neg (by omega)]
      rw [f 8 (by decide), f 9 (by decide), f 10 (by decide)]
      exact x3 s s1 s2 h2
    · rw [ef s s1 s2 k hk]
      by_cases e : s = t ∧ k = (11 + z).toNat
      · rw [if_pos e, if_pos ⟨e, c.1, c.2.1⟩]
      · rw [if_neg e, if_neg (fun q => e q.1)]
  · rw [if_neg c]
    refine ⟨hX, hp, hB, fun s s1 s2 k hk => ?_, fun _ _ _ => rfl⟩
    split
    · next e =>
      obtain ⟨⟨rfl, rfl⟩, e3, e4⟩ := e
      have q := fb_01 P s (11 + z).toNat
      by_cases c0 : fb P s (11 + z).toNat = 0
      · exact absurd ⟨e3, e4, c0⟩ c
      · omega
    · rfl
set_option maxHeartbeats 4000000 in
set_option maxRecDepth 100000 in
theorem XV_settle {O : Of} {M : Int → Int} {B : Int} (h : RR O M) (hX : XV O 0 0 B) : XV (stO O) 0 0 B := by
  have hS := RR_St h
  unfold stO
  by_cases c : O 21 0 = 0
  · rw [if_pos c]; exact hX
  · rw [if_neg c]
    have ht : 0 ≤ O 22 0 ∧ O 22 0 < 600 := by
      rcases hS.2.2.2.2 with q | q
      · exact absurd q c
      · exact q
    unfold ss3O st1O
    generalize O 22 0 = t at *
    generalize fpO O t = b at *
    have n1 : ∀ c : Nat, ¬ c = 21 → ¬ c = 22 → ¬ c = 3 → rmO (dfO O) t 2 c = O c := fun c h1 h2 h3 => by rw [rmO_nc h3, dfO_nc ⟨h1, h2⟩]
    have hBd : FxB (dfO O) := fun s h1 h2 => by rw [dfO_nc (by decide)]; exact h.1.2.1 s h1 h2
    have f1 : ∀ s : Int, 0 ≤ s → s < 600 → ∀ k : Nat, fb (rmO (dfO O) t 2) s k = if s = t ∧ k = 2 then 0 else fb O s k := fun s s1 s2 k => by
      rw [fb_rm hBd ⟨s1, s2⟩]
      have e : fb (dfO O) s k = fb O s k := by unfold fb; rw [dfO_nc (by decide)]
      rw [e]
    have hBP : FxB (rmO (dfO O) t 2) := rmO_B hBd (by decide)
    generalize rmO (dfO O) t 2 = P at *
    have fo : ∀ s : Int, 0 ≤ s → s < 600 → ∀ k : Nat, ¬ k = 2 → fb P s k = fb O s k := fun s s1 s2 k hk => by rw [f1 s s1 s2 k, if_neg (by omega)]
    obtain ⟨⟨x1, x2, x3⟩, x4⟩ := hX
    have hX1 : X3 P B := by
      refine ⟨?_, ?_, fun s s1 s2 h2 => ?_⟩
      · have e : ctS P = ctS O := sm_congr (fun k hk => by
          have f := fo k (by omega) (by omega)
          rw [ctV_unc, ctV_unc, pz_same (cls_fb (f 3 (by decide)) (f 4 (by decide))) (by rw [n1 6 (by decide) (by decide) (by decide)]) (fun c _ _ => by rw [n1 8 (by decide) (by decide) (by decide)])]
          unfold unc
          rw [f 8 (by decide), f 9 (by decide), f 10 (by decide), f 11 (by decide), f 12 (by decide), f 13 (by decide)])
        rw [e, x1]
        unfold cbW
        rw [n1 14 (by decide) (by decide) (by decide), n1 0 (by decide) (by decide) (by decide)]
      · unfold XA
        rw [n1 16 (by decide) (by decide) (by decide), n1 17 (by decide) (by decide) (by decide)]
        exact x2
      · have f := fo s s1 s2
        rw [f 8 (by decide), f 9 (by decide), f 10 (by decide)]
        rw [f1 s s1 s2 2] at h2
        split at h2
        · omega
        · exact x3 s s1 s2 h2
    obtain ⟨p, hp⟩ : ∃ p, pzO P t = p := ⟨_, rfl⟩
    rw [hp]
    obtain ⟨a1, a2, a3, a4, a5⟩ := X3_ss (b := b) (z := 0) hBP ht (by omega) hp hX1
    obtain ⟨b1, b2, b3, b4, b5⟩ := X3_ss (b := b) (z := 1) a3 ht (by omega) a2 a1
    obtain ⟨c1, c2, c3, c4, c5⟩ := X3_ss (b := b) (z := 2) b3 ht (by omega) b2 b1
    generalize ssO P t b p 0 = R0 at *
    generalize ssO R0 t b p 1 = R1 at *
    generalize ssO R1 t b p 2 = R2 at *
    refine ⟨c1, fun s s1 s2 hu => ?_⟩
    have nr : ∀ c : Nat, ¬ c = 0 → ¬ c = 3 → ¬ c = 21 → ¬ c = 22 → R2 c = O c := fun c h1 h2 h3 h4 => by rw [c5 c h1 h2, b5 c h1 h2, a5 c h1 h2, n1 c h3 h4 h2]
    by_cases e : s = t
    · subst e
      have q8 : fb R2 s 8 = fb P s 8 := by rw [c4 s s1 s2 8 (by decide), if_neg (by omega), b4 s s1 s2 8 (by decide), if_neg (by omega), a4 s s1 s2 8 (by decide), if_neg (by omega)]
      have q9 : fb R2 s 9 = fb P s 9 := by rw [c4 s s1 s2 9 (by decide), if_neg (by omega), b4 s s1 s2 9 (by decide), if_neg (by omega), a4 s s1 s2 9 (by decide), if_neg (by omega)]
      have q10 : fb R2 s 10 = fb P s 10 := by rw [c4 s s1 s2 10 (by decide), if_neg (by omega), b4 s s1 s2 10 (by decide), if_neg (by omega), a4 s s1 s2 10 (by decide), if_neg (by omega)]
      have r9 : fb R0 s 9 = fb P s 9 := by rw [a4 s s1 s2 9 (by decide), if_neg (by omega)]
      have r10 : fb R1 s 10 = fb P s 10 := by rw [b4 s s1 s2 10 (by decide), if_neg (by omega), a4 s s1 s2 10 (by decide), if_neg (by omega)]
      have q11 : ¬ (0 : Int) = b → fb P s 8 = 1 → fb R2 s 11 = 1 := fun h1 h2 => by rw [c4 s s1 s2 11 (by decide), if_neg (by omega), b4 s s1 s2 11 (by decide), if_neg (by omega), a4 s s1 s2 11 (by decide), if_pos ⟨⟨rfl, rfl⟩, h1, h2⟩]
      have q12 : ¬ (1 : Int) = b → fb P s 9 = 1 → fb R2 s 12 = 1 := fun h1 h2 => by rw [c4 s s1 s2 12 (by decide), if_neg (by omega), b4 s s1 s2 12 (by decide), if_pos ⟨⟨rfl, rfl⟩, h1, by rw [show (8 + (1 : Int)).toNat = 9 from rfl, r9]; exact h2⟩]
      have q13 : ¬ (2 : Int) = b → fb P s 10 = 1 → fb R2 s 13 = 1 := fun h1 h2 => by rw [c4 s s1 s2 13 (by decide), if_pos ⟨⟨rfl, rfl⟩, h1, by rw [show (8 + (2 : Int)).toNat = 10 from rfl, r10]; exact h2⟩]
      have d8 := fb_01 P s 8
      have d9 := fb_01 P s 9
      have d10 := fb_01 P s 10
      have d11 := fb_01 R2 s 11
      have d12 := fb_01 R2 s 12
      have d13 := fb_01 R2 s 13
      unfold unc at hu
      rw [q8, q9, q10] at hu
      exfalso
      by_cases g0 : (0 : Int) = b
      · by_cases g1 : fb P s 9 = 1
        · have z1 := q12 (by omega) g1
          by_cases g2 : fb P s 10 = 1
          · have z2 := q13 (by omega) g2
            omega
          · omega
        · by_cases g2 : fb P s 10 = 1
          · have z2 := q13 (by omega) g2
            omega
          · omega
      · by_cases g1 : fb P s 8 = 1
        · have z0 := q11 g0 g1
          by_cases g3 : (1 : Int) = b
          · by_cases g2 : fb P s 10 = 1
            · have z2 := q13 (by omega) g2
              omega
            · omega
          · by_cases g2 : fb P s 9 = 1
            · have z2 := q12 g3 g2
              omega
            · omega
        · by_cases g3 : (1 : Int) = b
          · by_cases g2 : fb P s 10 = 1
            · have z2 := q13 (by omega) g2
              omega
            · omega
          · by_cases g2 : fb P s 9 = 1
            · have z2 := q12 g3 g2
              omega
            · omega
    · have fr : ∀ k : Nat, k < 14 → fb R2 s k = fb O s k := fun k hk => by
        rw [c4 s s1 s2 k hk, if_neg (fun q => e q.1.1), b4 s s1 s2 k hk, if_neg (fun q => e q.1.1), a4 s s1 s2 k hk, if_neg (fun q => e q.1.1), f1 s s1 s2 k, if_neg (fun q => e q.1)]
      have eu : unc R2 s = unc O s := by
        unfold unc
        rw [fr 8 (by decide), fr 9 (by decide), fr 10 (by decide), fr 11 (by decide), fr 12 (by decide), fr 13 (by decide)]
      rw [eu] at hu
      rcases x4 s s1 s2 hu with g | ⟨i, w, i1, i2, w1, e1, e2⟩
      · exact Or.inl (by rw [fr 2 (by decide)]; exact g)
      · right
        rw [nr 18 (by decide) (by decide) (by decide) (by decide), nr 19 (by decide) (by decide) (by decide) (by decide), nr 20 (by decide) (by decide) (by decide) (by decide)]
        exact ⟨i, w, i1, i2, w1, e1, by rw [fr _ (by omega)]; exact e2⟩
set_option maxHeartbeats 4000000 in
set_option maxRecDepth 100000 in
theorem SmX_td {O : Of} : SmX O (tdO O) := by
  have n : ∀ c : Nat, ¬ c = 0 → tdO O c = O c := fun c h => oc_nc h
  exact SmX_nc (n 3 (by decide)) (n 6 (by decide)) (n 8 (by decide)) (n 14 (by decide)) (n 16 (by decide)) (n 17 (by decide)) (by unfold tdO; rw [oc_at, up_ne (by decide)]) (by rw [n 18 (by decide)]) (n 19 (by decide)) (n 20 (by decide))
set_option maxHeartbeats 4000000 in
set_option maxRecDepth 100000 in
theorem SmX_cw {O : Of} {w : Int} : SmX O (cw1 O w) := by
  have n : ∀ c : Nat, ¬ c = 13 → cw1 O w c = O c := fun c h => cw1_nc h
  exact SmX_nc (n 3 (by decide)) (n 6 (by decide)) (n 8 (by decide)) (n 14 (by decide)) (n 16 (by decide)) (n 17 (by decide)) (by rw [n 0 (by decide)]) (by rw [n 18 (by decide)]) (n 19 (by decide)) (n 20 (by decide))
def XO (O : Of) : Prop := XV O 0 0 (160 * O 0 0)
set_option maxHeartbeats 4000000 in
set_option maxRecDepth 100000 in
theorem XO_tick {O : Of} {M : Int → Int} (hT : T1 O M) (h0 : M 0 < 20000) (hX : XO O) : XO (tkO O) := by
  obtain ⟨r0, r1, r2, r3, -⟩ := tick_way hT
  have hT2 := TICK hT h0
  have e0 : tkO O 0 0 = O 0 0 + 1 := by rw [hT2.1.1.2.2.2.2.2.2.1.1.1, hT2.2, hT.1.2.2.2.2.2.2.1.1.1]
  unfold XO
  rw [e0]
  unfold tkO cwO
  have s1 := XV_bring hT hX
  have s2 := XV_serve (w := 0) r0 (by omega) s1
  have s3 := XV_serve (w := 1) r1 (by omega) s2
  have s4 := XV_serve (w := 2) r2 (by omega) s3
  have s5 := XV_settle r3 s4
  refine XV_sm SmX_cw (XV_sm SmX_cw (XV_sm SmX_cw (XV_sm SmX_td (XV_le s5 (by omega)))))
set_option maxHeartbeats 4000000 in
set_option maxRecDepth 100000 in
theorem XO_ticks {O : Of} {M : Int → Int} (hT : T1 O M) (hX : XO O) : ∀ k : Nat, M 0 + k ≤ 20000 → XO (rvO O k)
  | 0, _ => hX
  | k + 1, hk => by
    have ih := XO_ticks hT hX k (by omega)
    have q := TICKS hT k (by omega)
    exact XO_tick q.1 (by omega) ih
