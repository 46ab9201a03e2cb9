/-! THE ACCOUNTS: the mail is brought -/
set_option maxHeartbeats 4000000 in
set_option maxRecDepth 100000 in
theorem fb_pd {O : Of} {M : Int → Int} {w t : Int} (h : RR O M) (ht : 0 ≤ t ∧ t < 600) (hw : 0 ≤ w ∧ w < 3) (hp : pd M w t = 0) : fb O t (8 + w).toNat = 0 := by
  rw [RF_p h.1 ht hw]
  unfold pyI
  have e : M (2033 + 600 * w + t) = 0 := hp
  rw [e]
  rfl
set_option maxHeartbeats 4000000 in
set_option maxRecDepth 100000 in
theorem fb_wait {O : Of} {M : Int → Int} {w t : Int} (h : RR O M) (ht : 0 ≤ t ∧ t < 600) (hw : 0 ≤ w ∧ w < 3) (h12 : O 12 w = t) : fb O t (8 + w).toNat = 0 := by
  have b := (h.2.2.2.1 w hw.1 hw.2).2.2.2.1
  have c : M (8 + 15 * w + 9) = t + 1 := by
    have q := b.2
    rw [h12] at q
    split at q
    · omega
    · omega
  exact fb_pd h ht hw ((h.2.2.2.2.2.2.2 t w ht.1 ht.2 hw.1 hw.2).2.2.1 c).1
set_option maxHeartbeats 4000000 in
set_option maxRecDepth 100000 in
theorem XV_next {O : Of} {z T B : Int} (hX : XV O z T B) (hd : ∀ w t : Int, 0 ≤ w → w < 3 → 0 ≤ t → t < 600 → O 20 z = w * 600 + t → fb O t (8 + w).toNat = 1 → fb O t 2 = 1 ∨ T < O 19 z) : XV O (z + 1) T B := by
  refine ⟨hX.1, fun t t1 t2 hu => ?_⟩
  rcases hX.2 t t1 t2 hu with g | ⟨i, w, i1, i2, w1, e1, e2⟩
  · exact Or.inl g
  · by_cases e : i = z
    · subst e
      rcases hd w t w1.1 w1.2 t1 t2 e1 e2 with g | g
      · exact Or.inl g
      · exact Or.inr ⟨i, w, i1, Or.inr g, w1, e1, e2⟩
    · exact Or.inr ⟨i, w, i1, by omega, w1, e1, e2⟩
set_option maxHeartbeats 4000000 in
set_option maxRecDepth 100000 in
theorem PyF_20 {O O' : Of} {w t i : Int} (h : PyF O O' w t) (hi : 0 ≤ i ∧ i < O 18 0) : O' 20 i = O 20 i := (h.2.2.2.1 i hi.1 hi.2).2
set_option maxHeartbeats 4000000 in
set_option maxRecDepth 100000 in
theorem SmX_fr {O : Of} {w : Int} : SmX O (frO O w) := by
  have n : ∀ c : Nat, ¬ c = 12 → frO O w c = O c := fun c hc => oc_nc hc
  exact SmX_nc (n 3 (by decide)) (n 6 (by decide)) (n 8 (by decide)) (n 14 (by decide)) (n 16 (by decide)) (n 17 (by decide)) (by rw [n 0 (by decide)]) (by rw [n 18 (by decide)]) (n 19 (by decide)) (n 20 (by decide))
set_option maxHeartbeats 4000000 in
set_option maxRecDepth 100000 in
theorem fr_c {O : Of} {w : Int} {c : Nat} (hc : ¬ c = 12) : frO O w c = O c := oc_nc hc
set_option maxHeartbeats 4000000 in
set_option maxRecDepth 100000 in
theorem aw_c {O : Of} {w r : Int} {c : Nat} (h1 : ¬ c = 16) (h2 : ¬ c = 17) : awO O w r c = O c := by
  unfold awO
  rw [oc_nc h2, oc_nc h1]
set_option maxHeartbeats 4000000 in
set_option maxRecDepth 100000 in
theorem XV_due {O : Of} {M : Int → Int} {z T B : Int} (h : RR O M) (hz : 0 ≤ z ∧ z < M 2) (hn : M 2 < 149) (hX : XV O z T B) : XV (dpO O (O 20 z / 600 / 3) (O 20 z / 600 % 3) (O 20 z % 600)) (z + 1) T (B + 1) := by
  have hP := RR_Bm h hz hn
  have hB : FxB O := hP.1
  have h20 : 0 ≤ O 20 z ∧ O 20 z < 7200 := hP.2.2.2.2.2.2.1
  have e18 := h.2.2.2.2.1.2.1
  obtain ⟨w, hw⟩ : ∃ w, w = O 20 z / 600 % 3 := ⟨_, rfl⟩
  obtain ⟨t, ht⟩ : ∃ t, t = O 20 z % 600 := ⟨_, rfl⟩
  obtain ⟨kd, hk⟩ : ∃ kd, kd = O 20 z / 600 / 3 := ⟨_, rfl⟩
  rw [← hw, ← ht, ← hk]
  have hw1 : 0 ≤ w ∧ w < 3 := by omega
  have ht1 : 0 ≤ t ∧ t < 600 := by omega
  have hz2 : 0 ≤ z ∧ z < O 18 0 := by omega
  unfold dpO
  rcases (show kd = 0 ∨ kd = 1 ∨ kd = 2 ∨ kd = 3 by omega) with g | g | g | g
  · rw [if_pos g]
    have e20 : O 20 z = w * 600 + t := by omega
    have hB1 : FxB (adO O t (5 + w).toNat) := adO_B hB (by omega)
    have hS : SmX O (adO O t (5 + w).toNat) := SmX_ad hB (by omega) (by omega)
    have hX1 := XV_sm hS hX
    have a20 : adO O t (5 + w).toNat 20 = O 20 := adO_nc (by decide)
    have q8 := fb_01 (adO O t (5 + w).toNat) t (8 + w).toNat
    have q2 := fb_01 (adO O t (5 + w).toNat) t 2
    unfold tmO
    generalize adO O t (5 + w).toNat = P at *
    by_cases c1 : fb P t (8 + w).toNat = 1
    · rw [if_pos c1]
      by_cases c2 : fb P t 2 = 0
      · rw [if_pos c2]
        have hpd : fb P t 8 = 1 ∨ fb P t 9 = 1 ∨ fb P t 10 = 1 := by
          rcases (show w = 0 ∨ w = 1 ∨ w = 2 by omega) with rfl | rfl | rfl
          · exact Or.inl c1
          · exact Or.inr (Or.inl c1)
          · exact Or.inr (Or.inr c1)
        obtain ⟨hX2, hf⟩ := XV_open hB1 ht1 hpd hX1
        refine XV_le (XV_next hX2 (fun w' t' w1 w2 t1 t2 e1 e2 => ?_)) (by omega)
        have d20 : dsO (adO P t 2) t 20 z = O 20 z := by
          unfold dsO
          rw [oc_nc (by decide), oc_nc (by decide), adO_nc (by decide), a20]
        rw [d20, e20] at e1
        left
        rw [hf t' t1 t2 2 (by decide), if_pos ⟨by omega, rfl⟩]
      · rw [if_neg c2]
        refine XV_le (XV_next hX1 (fun w' t' w1 w2 t1 t2 e1 e2 => ?_)) (by omega)
        rw [a20, e20] at e1
        left
        have et : t' = t := by omega
        rw [et]; omega
    · rw [if_neg c1]
      refine XV_le (XV_next hX1 (fun w' t' w1 w2 t1 t2 e1 e2 => ?_)) (by omega)
      rw [a20, e20] at e1
      have et : t' = t := by omega
      have ew : w' = w := by omega
      rw [et, ew] at e2
      exact absurd e2 c1
  · rw [if_neg (by omega), if_pos g]
    have big : ∀ X : Of, X 20 z = O 20 z → XV X z T B → XV X (z + 1) T (B + 1) := fun X e hx => XV_le (XV_next hx (fun w' t' w1 w2 t1 t2 e1 _ => by rw [e] at e1; omega)) (by omega)
    unfold tqO
    split
    · exact big _ (snO_20 hz2.2) (XV_sm SmX_sn hX)
    · have e : adO O t 1 18 = O 18 := adO_nc (by decide)
      refine big _ ?_ (XV_sm (SmX_tr (SmX_ad hB (by decide) (Or.inl rfl)) SmX_sn) hX)
      rw [snO_20 (by rw [e]; exact hz2.2), adO_nc (by decide)]
  · rw [if_neg (by omega), if_neg (by omega), if_neg (by omega)]
    have big : ∀ X : Of, X 20 z = O 20 z → XV X z T (B + 1) → XV X (z + 1) T (B + 1) := fun X e hx => XV_next hx (fun w' t' w1 w2 t1 t2 e1 _ => by rw [e] at e1; omega)
    unfold tnO
    split
    · refine big _ ?_ (XV_aw hw1 (by omega) (XV_sm SmX_fr hX))
      rw [aw_c (by decide) (by decide), fr_c (by decide)]
    · exact big _ rfl (XV_le hX (by omega))
  · rw [if_neg (by omega), if_neg (by omega), if_pos g]
    have big : ∀ X : Of, X 20 z = O 20 z → XV X z T B → XV X (z + 1) T (B + 1) := fun X e hx => XV_le (XV_next hx (fun w' t' w1 w2 t1 t2 e1 _ => by rw [e] at e1; omega)) (by omega)
    unfold tyO
    by_cases c : O 12 w = t
    · rw [if_pos c]
      have hBf : FxB (frO O w) := FxB_nc (by decide) hB
      have hF := PyF_pay (O := frO O w) (w := w) (t := t) hBf hw1
      have ef : fb (frO O w) t (8 + w).toNat = fb O t (8 + w).toNat := by unfold fb; rw [fr_c (by decide)]
      have e18' : frO O w 18 = O 18 := fr_c (by decide)
      refine big _ ?_ (XV_pay hw1 ht1 (by rw [ef]; exact fb_wait h ht1 hw1 c) (by rw [e18']; omega) (by rw [e18']; omega) hF (XV_sm SmX_fr hX))
      rw [PyF_20 hF (by rw [e18']; exact hz2), fr_c (by decide)]
    · rw [if_neg c]
      refine big _ (by rw [rmO_nc (by decide)]) (XV_sm (SmX_rm hB (Or.inl rfl)) hX)
set_option maxHeartbeats 4000000 in
set_option maxRecDepth 100000 in
theorem XV_step {O : Of} {M : Int → Int} {z T B : Int} (h : RR O M) (hz : 0 ≤ z ∧ z < M 2) (hn : M 2 < 149) (hT : O 0 0 = T) (hX : XV O z T B) : XV (bmS O z) (z + 1) T (B + 1) := by
  unfold bmS
  by_cases c : O 19 z ≤ O 0 0
  · rw [if_pos c]
    exact XV_due h hz hn hX
  · rw [if_neg c]
    exact XV_le (XV_next hX (fun w t _ _ _ _ _ _ => Or.inr (by omega))) (by omega)
/- what is not due is kept -/
set_option maxHeartbeats 4000000 in
set_option maxRecDepth 100000 in
theorem dd_keep {O : Of} {T : Int} : ∀ (k : Nat) (i : Int), 0 ≤ i → i < k → T < O 19 i → ∃ i' : Int, (0 ≤ i' ∧ i' < (ddO O T k).2) ∧ (ddO O T k).1 20 i' = O 20 i
  | 0, i, h1, h2, _ => by omega
  | k + 1, i, h1, h2, hi => by
    have hb := ddO_b (O := O) (T := T) k
    have hh := ddO_hi (O := O) (T := T) k k (Int.le_refl _)
    unfold ddO
    dsimp only
    rw [hh.1, hh.2]
    by_cases e : i = k
    · subst e
      rw [if_pos hi, if_pos hi]
      refine ⟨(ddO O T k).2, by omega, ?_⟩
      rw [oc_at, up_eq rfl]
    · obtain ⟨i', a, b⟩ := dd_keep k i h1 (by omega) hi
      by_cases c : T < O 19 (k : Int)
      · rw [if_pos c, if_pos c]
        refine ⟨i', by omega, ?_⟩
        rw [oc_at, up_ne (by omega)]
        exact b
      · rw [if_neg c, if_neg c]
        exact ⟨i', a, b⟩
set_option maxHeartbeats 4000000 in
set_option maxRecDepth 100000 in
theorem XV_bring {O : Of} {M : Int → Int} {B : Int} (hT : T1 O M) (hX : XV O 0 0 B) : XV (bnO O) 0 0 (B + 150) := by
  obtain ⟨hR, hC, hP, h4⟩ := hT
  have dl := DL hR hC
  have eN : nN O = nM M := by unfold nN nM; rw [hR.2.2.2.2.1.2.1]
  have hn := hR.2.2.2.2.1.1
  have en : ((nM M : Nat) : Int) = M 2 := by unfold nM; omega
  have e0 := hR.2.2.2.2.2.2.1.1.1
  have key : ∀ j : Nat, j ≤ nM M → XV (bmI O j) j (M 0) (B + j) := by
    intro j
    induction j with
    | zero =>
      intro _
      refine ⟨⟨hX.1.1, XA_le hX.1.2.1 (by omega), hX.1.2.2⟩, fun t t1 t2 hu => ?_⟩
      rcases hX.2 t t1 t2 hu with g | ⟨i, w, i1, i2, r⟩
      · exact Or.inl g
      · exact Or.inr ⟨i, w, i1, Or.inl i1.1, r⟩
    | succ j ih =>
      intro hj
      obtain ⟨a1, a2, a3, a4, a5, a6⟩ := dl j (by omega)
      have hb := RJ_n a2
      have hx := XV_step (z := (j : Int)) a1 (by omega) (by omega) (by rw [a1.2.2.2.2.2.2.1.1.1]; exact a3) (ih (by omega))
      show XV (bmS (bmI O j) j) ((j + 1 : Nat) : Int) (M 0) (B + ((j + 1 : Nat) : Int))
      rw [Int.natCast_add]
      have e1 : B + (j : Int) + 1 = B + ((j : Int) + ((1 : Nat) : Int)) := by omega
      rw [← e1]
      exact hx
  have hx := key (nM M) (Nat.le_refl _)
  obtain ⟨a1, a2, a3, a4, a5, a6⟩ := dl (nM M) (Nat.le_refl _)
  unfold bnO bmO
  rw [eN]
  have m18 := a1.2.2.2.2.1.2.1
  have m2 := a1.2.2.2.2.1.1
  have m0 := a1.2.2.2.2.2.2.1.1.1
  have mV := a1.2.2.2.2.1.2.2
  generalize bmI O (nM M) = X at *
  have eN2 : ((nN X : Nat) : Int) = X 18 0 := by unfold nN; omega
  have nc : ∀ c : Nat, ¬ c = 18 → ¬ c = 19 → ¬ c = 20 → oc (ddO X (X 0 0) (nN X)).1 18 (up (X 18) 0 (ddO X (X 0 0) (nN X)).2) c = X c := fun c h1 h2 h3 => by rw [oc_nc h1, ddO_nc ⟨h2, h3⟩]
  have hkeep := dd_keep (O := X) (T := X 0 0) (nN X)
  have e20 : oc (ddO X (X 0 0) (nN X)).1 18 (up (X 18) 0 (ddO X (X 0 0) (nN X)).2) 20 = (ddO X (X 0 0) (nN X)).1 20 := oc_nc (by decide)
  have e18 : oc (ddO X (X 0 0) (nN X)).1 18 (up (X 18) 0 (ddO X (X 0 0) (nN X)).2) 18 0 = (ddO X (X 0 0) (nN X)).2 := by rw [oc_at, up_eq rfl]
  generalize oc (ddO X (X 0 0) (nN X)).1 18 (up (X 18) 0 (ddO X (X 0 0) (nN X)).2) = Y at *
  have ef : ∀ s k, fb Y s k = fb X s k := fun s k => by unfold fb; rw [nc 3 (by decide) (by decide) (by decide)]
  have eu : ∀ s, unc Y s = unc X s := fun s => by unfold unc; simp only [ef]
  have ep : ∀ s, pzO Y s = pzO X s := fun s => by unfold pzO prO; rw [nc 3 (by decide) (by decide) (by decide), nc 6 (by decide) (by decide) (by decide), nc 8 (by decide) (by decide) (by decide)]
  obtain ⟨⟨x1, x2, x3⟩, x4⟩ := hx
  refine ⟨⟨?_, ?_, fun t t1 t2 h2 => ?_⟩, fun t t1 t2 hu => ?_⟩
  · have e : ctS Y = ctS X := sm_congr (fun k hk => by rw [ctV_unc, ctV_unc, eu, ep])
    rw [e, x1]
    unfold cbW
    rw [nc 14 (by decide) (by decide) (by decide), nc 0 (by decide) (by decide) (by decide)]
  · unfold XA
    rw [nc 16 (by decide) (by decide) (by decide), nc 17 (by decide) (by decide) (by decide)]
    exact XA_le x2 (by omega)
  · rw [ef] at h2
    rw [ef, ef, ef]
    exact x3 t t1 t2 h2
  · rw [eu] at hu
    rcases x4 t t1 t2 hu with g | ⟨i, w, i1, i2, w1, q1, q2⟩
    · exact Or.inl (by rw [ef]; exact g)
    · right
      have hdue : X 0 0 < X 19 i := by
        rcases i2 with c | c
        · obtain ⟨v1, v2, v3⟩ := mV i i1.1 (by omega)
          have := a6 i (by omega) (by omega)
          rw [v2]
          omega
        · omega
      obtain ⟨i', b1, b2⟩ := hkeep i i1.1 (by omega) hdue
      exact ⟨i', w, by rw [e18]; exact b1, Or.inl b1.1, w1, by rw [e20, b2]; exact q1, by rw [ef]; exact q2⟩
