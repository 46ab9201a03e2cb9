/-! THE RELATION is kept: what comes with the mail -/
def clI (M : Int → Int) (t : Int) : Int := if clM M t = 0 then 0 else 1
set_option maxHeartbeats 4000000 in
set_option maxRecDepth 100000 in
theorem sm_le {f g : Nat → Int} : ∀ {n : Nat}, (∀ k, k < n → f k ≤ g k) → sm f n ≤ sm g n
  | 0, _ => Int.le_refl _
  | n + 1, h => by
    have h1 := sm_le (f := f) (g := g) (n := n) (fun k hk => h k (by omega))
    have h2 := h n (by omega)
    rw [sm_s, sm_s]
    omega
set_option maxHeartbeats 4000000 in
set_option maxRecDepth 100000 in
theorem sm_add (f : Nat → Int) (a : Nat) : ∀ b : Nat, sm f (a + b) = sm f a + sm (fun i => f (a + i)) b
  | 0 => by simp [sm]
  | b + 1 => by
    have h := sm_add f a b
    rw [← Nat.add_assoc, sm_s, sm_s, h]
    omega
set_option maxHeartbeats 4000000 in
set_option maxRecDepth 100000 in
theorem clN19 : ∀ w : Nat, w < 100 → sm (fun i => if clN (i : Int) (w : Int) = 0 then 0 else 1) 100 ≤ 19 := by decide +kernel
set_option maxHeartbeats 4000000 in
set_option maxRecDepth 100000 in
theorem cl_draw {M : Int → Int} (hW : DrW M) (d : Nat) (hd : d < 6) : sm (fun i => clI M ((100 * d + i : Nat) : Int)) 100 ≤ 19 := by
  have hw := hW d (by omega) (by omega)
  have h := clN19 (M (53 + 2 * (d : Int) + 1)).toNat (by omega)
  refine Int.le_trans (sm_le (fun k hk => ?_)) h
  have e : ((M (53 + 2 * (d : Int) + 1)).toNat : Int) = M (53 + 2 * (d : Int) + 1) := by omega
  rw [e]
  unfold clI clM
  have e1 : ((100 * d + k : Nat) : Int) / 100 = (d : Int) := by omega
  have e2 : ((100 * d + k : Nat) : Int) % 100 = (k : Int) := by omega
  rw [e1, e2]
  generalize clN (k : Int) (M (53 + 2 * (d : Int) + 1)) = c
  repeat' split
  all_goals omega
set_option maxHeartbeats 4000000 in
set_option maxRecDepth 100000 in
theorem cl114 {M : Int → Int} (hW : DrW M) : sm (fun k => clI M (k : Int)) 600 ≤ 114 := by
  have c0 := cl_draw hW 0 (by decide)
  have c1 := cl_draw hW 1 (by decide)
  have c3 := cl_draw hW 2 (by decide)
  have c4 := cl_draw hW 3 (by decide)
  have c5 := cl_draw hW 4 (by decide)
  have c6 := cl_draw hW 5 (by decide)
  have a1 := sm_add (fun k => clI M (k : Int)) 0 100
  have a2 := sm_add (fun k => clI M (k : Int)) 100 100
  have a3 := sm_add (fun k => clI M (k : Int)) 200 100
  have a4 := sm_add (fun k => clI M (k : Int)) 300 100
  have a5 := sm_add (fun k => clI M (k : Int)) 400 100
  have a6 := sm_add (fun k => clI M (k : Int)) 500 100
  have z : sm (fun k => clI M (k : Int)) 0 = 0 := rfl
  simp only [Nat.mul_zero, Nat.mul_one, Nat.reduceMul, Nat.reduceAdd] at c0 c1 c3 c4 c5 c6 a1 a2 a3 a4 a5 a6
  omega
set_option maxHeartbeats 4000000 in
set_option maxRecDepth 100000 in
theorem opC_b (M : Int → Int) : 0 ≤ opC M ∧ opC M ≤ 600 := by
  have h := sm_b (f := fun k => opI M (k : Int)) (c := 1) (by omega) 600 (fun k _ => by unfold opI; split <;> omega)
  unfold opC
  omega
set_option maxHeartbeats 4000000 in
set_option maxRecDepth 100000 in
theorem op_lt {O : Of} {M : Int → Int} {t : Int} (h : RR O M) (ht : 0 ≤ t ∧ t < 600) (hd : ds M t = 0) (hc : ¬ clM M t = 0) : O 21 0 < 114 := by
  obtain ⟨h1, h2, h3, h4, h5, h6, h7, h8⟩ := h
  have b := cl114 h2.1
  have e1 := sm_upd (fun k => opI M (k : Int)) 1 (i := t.toNat) (n := 600) (by omega)
  have e2 : sm (fun k => if k = t.toNat then 1 else opI M (k : Int)) 600 ≤ sm (fun k => clI M (k : Int)) 600 := by
    refine sm_le (fun k hk => ?_)
    unfold clI
    by_cases e : k = t.toNat
    · have e3 : (k : Int) = t := by omega
      rw [if_pos e, e3, if_neg hc]
      exact Int.le_refl _
    · rw [if_neg e]
      have q := (h8 (k : Int) 0 (by omega) (by omega) (by omega) (by omega)).2.2.2
      unfold opI
      unfold ds at q
      split
      · next g => rw [if_neg (q g)]; exact Int.le_refl _
      · split <;> omega
  have e3 : ((t.toNat : Nat) : Int) = t := by omega
  have e4 : opI M t = 0 := by unfold opI; unfold ds at hd; rw [hd]; rfl
  rw [e3, e4] at e1
  have e5 := h6.1.1
  unfold opC at e5
  omega
set_option maxHeartbeats 4000000 in
set_option maxRecDepth 100000 in
theorem RR_open {O : Of} {M : Int → Int} {t : Int} (h : RR O M) (ht : 0 ≤ t ∧ t < 600) (hd : ds M t = 0) (hc : ¬ clM M t = 0) : RR (dsO (adO O t 2) t) (up (up M 4 (M 4 + 1)) (1433 + t) (M 4 + 1)) := by
  have hlt := op_lt h ht hd hc
  obtain ⟨h1, h2, h3, h4, h5, h6, h7, h8⟩ := h
  obtain ⟨M', hM⟩ : ∃ M', M' = up (up M 4 (M 4 + 1)) (1433 + t) (M 4 + 1) := ⟨_, rfl⟩
  rw [← hM]
  have hn : ∀ j : Int, ¬ j = 4 → ¬ j = 1433 + t → M' j = M j := fun j j1 j2 => by rw [hM, up_ne j2, up_ne j1]
  have m4 : M' 4 = M 4 + 1 := by rw [hM, up_ne (by omega), up_eq rfl]
  have mt : ds M' t = M 4 + 1 := by rw [hM]; exact up_eq rfl
  have mds : ∀ s : Int, 0 ≤ s → ¬ s = t → ds M' s = ds M s := fun s s1 hs => hn _ (by omega) (by omega)
  have hq : ∀ s f, 0 ≤ s → s < 600 → qb M' s f = qb M s f := fun s f s1 s2 => by unfold qb; rw [hn _ (by omega) (by omega)]
  have hD : SmD M M' := ⟨fun j j1 j2 => hn j (by omega) (by omega), fun s s1 s2 => hq s 0 s1 s2⟩
  have hF : FlB M' := fun s s1 s2 => by rw [hn _ (by omega) (by omega)]; exact h1.1 s s1 s2
  have e3 : dsO (adO O t 2) t 3 = adO O t 2 3 := by unfold dsO; rw [oc_nc (by decide), oc_nc (by decide)]
  have e22 : dsO (adO O t 2) t 22 = up (O 22) (O 21 0) t := by unfold dsO; rw [oc_nc (by decide), oc_at, adO_nc (by decide), adO_nc (by decide)]
  have e21 : dsO (adO O t 2) t 21 = up (up (O 21) 0 (O 21 0 + 1)) 1 (O 21 1 + 1) := by unfold dsO; rw [oc_at, adO_nc (by decide)]
  have ho : ∀ c : Nat, ¬ c = 3 → ¬ c = 21 → ¬ c = 22 → dsO (adO O t 2) t c = O c := fun c c1 c3 c4 => by unfold dsO; rw [oc_nc c3, oc_nc c4, adO_nc c1]
  have hRF : RF (adO O t 2) M' := by
    refine RF_ad h1 hF hD (by omega) (fun s s1 s2 j j1 j2 j3 => ?_)
    unfold bitM
    rw [hq s _ s1 s2, hq s _ s1 s2, hq s _ s1 s2, hq s _ s1 s2]
    have ep : pyI M' ((j : Int) - 8) s = pyI M ((j : Int) - 8) s ∨ j < 8 := by
      by_cases c8 : j < 8
      · exact Or.inr c8
      · left
        unfold pyI
        rw [hn _ (by omega) (by omega)]
    by_cases c0 : j = 2
    · rw [if_neg (by omega), if_neg (by omega), if_pos c0]
      by_cases e : s = t
      · rw [if_pos ⟨e, c0⟩, e]
        unfold opI
        have q : M' (1433 + t) = M 4 + 1 := mt
        rw [q, if_pos (by have := h6.2.1.2; omega)]
      · rw [if_neg (fun q => e q.1), if_neg (by omega), if_neg (by omega), if_pos c0]
        unfold opI
        rw [hn _ (by omega) (by omega)]
    · rw [if_neg (show ¬ (s = t ∧ j = 2) from fun q => c0 q.2), if_neg c0, if_neg c0]
      rcases ep with g | g
      · rw [g]
      · rw [if_pos g, if_pos g]
  have hop : opC M' = opC M + 1 := by
    have e1 : opC M' = sm (fun k => if k = t.toNat then 1 else opI M (k : Int)) 600 := by
      refine sm_congr (fun k hk => ?_)
      unfold opI
      by_cases e : k = t.toNat
      · have e2 : (k : Int) = t := by omega
        have q : M' (1433 + t) = M 4 + 1 := mt
        rw [if_pos e, e2, q, if_pos (by have := h6.2.1.2; omega)]
      · rw [if_neg e, hn _ (by omega) (by omega)]
    have e3 : ((t.toNat : Nat) : Int) = t := by omega
    have e4 : opI M t = 0 := by unfold opI; unfold ds at hd; rw [hd]; rfl
    rw [e1, sm_upd _ _ (show t.toNat < 600 by omega), e3, e4]
    unfold opC
    omega
  refine ⟨RF_cg hRF e3 (fun _ _ => rfl), RD_cg h2 ⟨ho 6 (by decide) (by decide) (by decide), ho 7 (by decide) (by decide) (by decide), ho 8 (by decide) (by decide) (by decide)⟩ hD, RP_cg h3 (ho 4 (by decide) (by decide) (by decide)) (by rw [hn 0 (by omega) (by omega)]; exact Int.le_refl _) (fun j j1 j2 => hn j (by omega) (by omega)) (fun s v s1 s2 _ _ => hq s _ s1 s2), RW_cg h4 (fun c c1 c3 => ho c (by omega) (by omega) (by omega)) (by rw [hn 0 (by omega) (by omega)]; exact Int.le_refl _) (fun j j1 j2 => hn j (by omega) (by omega)), RM_cg h5 ⟨by rw [ho 18 (by decide) (by decide) (by decide)], ho 19 (by decide) (by decide) (by decide), ho 20 (by decide) (by decide) (by decide)⟩ (hn 0 (by omega) (by omega)) (hn 2 (by omega) (by omega)) (fun j j1 j2 => hn j (by omega) (by omega)), ?_, R0_cg h7 ⟨ho 0 (by decide) (by decide) (by decide), ho 1 (by decide) (by decide) (by decide)⟩ (fun j j1 => hn j (by omega) (by omega)) (fun j j1 j2 => hn j (by omega) (by omega)) (fun s v s1 s2 _ _ => hq s _ s1 s2), ?_⟩
  · obtain ⟨a1, a2, a3, a4, a5, a6⟩ := h6
    have n1 : dsO (adO O t 2) t 21 0 = O 21 0 + 1 := by rw [e21, up_ne (by decide), up_eq rfl]
    have n2 : dsO (adO O t 2) t 21 1 = O 21 1 + 1 := by rw [e21, up_eq rfl]
    have hnt : ∀ i : Int, 0 ≤ i → i < O 21 0 → ¬ O 22 i = t := fun i i1 i2 q => by
      have b := (a3 i i1 i2).2
      rw [q, hd] at b
      omega
    unfold RQ
    rw [n1, n2, hop, m4, e22]
    refine ⟨⟨by omega, by omega⟩, ⟨by omega, by omega⟩, fun i i1 i2 => ?_, fun i j i1 i2 i3 => ?_, fun s s1 s2 s3 => ?_, fun s s1 s2 => ?_⟩
    · by_cases e : i = O 21 0
      · rw [up_eq e, mt]
        exact ⟨ht, by omega⟩
      · rw [up_ne e]
        have b := a3 i i1 (by omega)
        rw [mds _ b.1.1 (hnt i i1 (by omega))]
        exact b
    · rw [up_ne (show ¬ i = O 21 0 by omega)]
      have b := a3 i i1 (by omega)
      rw [mds _ b.1.1 (hnt i i1 (by omega))]
      by_cases e : j = O 21 0
      · rw [up_eq e, mt]
        have := (a6 _ b.1.1 b.1.2).2
        omega
      · rw [up_ne e]
        have c := a3 j (by omega) (by omega)
        rw [mds _ c.1.1 (hnt j (by omega) (by omega))]
        exact a4 i j i1 i2 (by omega)
    · by_cases e : s = t
      · exact ⟨O 21 0, by have := opC_b M; omega, by omega, by rw [up_eq rfl, e]⟩
      · rw [mds s s1 e] at s3
        obtain ⟨i, i1, i2, i3⟩ := a5 s s1 s2 s3
        exact ⟨i, i1, by omega, by rw [up_ne (by omega)]; exact i3⟩
    · by_cases e : s = t
      · rw [e, mt]; omega
      · rw [mds s s1 e]
        have := a6 s s1 s2
        omega
  · intro s v s1 s2 v1 v2
    obtain ⟨b1, b2, b3, b4⟩ := h8 s v s1 s2 v1 v2
    have ep : pd M' v s = pd M v s := hn _ (by omega) (by omega)
    rw [ep, clM_c hD ⟨s1, s2⟩, hq s _ s1 s2, hq s _ s1 s2, hn (8 + 15 * v + 9) (by omega) (by omega)]
    refine ⟨b1, b2, b3, fun q => ?_⟩
    by_cases e : s = t
    · rw [e]; exact hc
    · rw [mds s s1 e] at q; exact b4 q
/- a mark comes -/
set_option maxHeartbeats 4000000 in
set_option maxRecDepth 100000 in
theorem RR_mcome {O : Of} {M : Int → Int} {w t : Int} (h : RR O M) (hw : 0 ≤ w ∧ w < 3) (ht : 0 ≤ t ∧ t < 600) : RR (tmO O w t) (mcM M w t) := by
  have g := RR_mark h hw ht
  unfold tmO mcM
  obtain ⟨O1, hO⟩ : ∃ O1, O1 = adO O t (5 + w).toNat := ⟨_, rfl⟩
  obtain ⟨M1, hM⟩ : ∃ M1, M1 = mkM M t (2 + w).toNat 1 := ⟨_, rfl⟩
  rw [← hO, ← hM] at g ⊢
  have p1 := RF_p g.1 ht hw
  have p2 := RF_2 g.1 ht
  rw [p1, p2]
  unfold pyI opI
  by_cases c1 : 0 < M1 (2033 + 600 * w + t)
  · rw [if_pos c1, if_pos rfl, if_pos c1]
    have b := g.2.2.2.2.2.1.2.2.2.2.2 t ht.1 ht.2
    unfold ds at b
    by_cases c3 : M1 (1433 + t) = 0
    · rw [if_pos c3, if_neg (show ¬ (0 : Int) < M1 (1433 + t) by omega), if_pos rfl]
      have hcl := ((g.2.2.2.2.2.2.2 t w ht.1 ht.2 hw.1 hw.2).1 c1).2
      have q := RR_open g ht c3 hcl
      have e4 : up M1 4 (M1 4 + 1) 4 = M1 4 + 1 := up_eq rfl
      rw [e4]
      exact q
    · rw [if_neg c3, if_pos (show (0 : Int) < M1 (1433 + t) by omega), if_neg (show ¬ (1 : Int) = 0 by decide)]
      exact g
  · rw [if_neg c1, if_neg (show ¬ (0 : Int) = 1 by decide), if_neg c1]
    exact g
/- the condition of the class's method -/
set_option maxHeartbeats 4000000 in
set_option maxRecDepth 100000 in
theorem mc_pre {O : Of} {M : Int → Int} {w t : Int} (h : RR O M) (hw : 0 ≤ w ∧ w < 3) (ht : 0 ≤ t ∧ t < 600) : fb (adO O t (5 + w).toNat) t (8 + w).toNat = 0 ∨ fb (adO O t (5 + w).toNat) t 2 = 1 ∨ O 21 0 < 114 := by
  have g := RR_mark h hw ht
  have p1 := RF_p g.1 ht hw
  have p2 := RF_2 g.1 ht
  rw [p1, p2]
  have e0 : adO O t (5 + w).toNat 21 = O 21 := adO_nc (by decide)
  by_cases c1 : 0 < pd (mkM M t (2 + w).toNat 1) w t
  · have b := g.2.2.2.2.2.1.2.2.2.2.2 t ht.1 ht.2
    by_cases c3 : ds (mkM M t (2 + w).toNat 1) t = 0
    · have hcl := ((g.2.2.2.2.2.2.2 t w ht.1 ht.2 hw.1 hw.2).1 c1).2
      have q := op_lt g ht c3 hcl
      rw [e0] at q
      exact Or.inr (Or.inr q)
    · right; left
      unfold opI
      rw [if_pos (by unfold ds at b c3; omega)]
  · left
    unfold pyI
    rw [if_neg c1]
/- a question comes -/
set_option maxHeartbeats 4000000 in
set_option maxRecDepth 100000 in
theorem RR_qcome {O : Of} {M : Int → Int} {a t : Int} (h : RR O M) (hn : M 2 < 150) (ha : 0 ≤ a ∧ a < 3) (ht : 0 ≤ t ∧ t < 600) : RR (tqO O a t) (qcM M (t % 3) a t) := by
  unfold tqO qcM
  have p1 := RF_1 h.1 ht
  have p2 := RF_m h.1 ht (w := t % 3) (by omega)
  rw [p1, p2]
  have q1 := qb_01 M t 1
  have q2 := qb_01 M t (2 + t % 3).toNat
  by_cases c1 : qb M t 1 = 0
  · rw [if_pos c1]
    by_cases c3 : qb M t (2 + t % 3).toNat = 0
    · rw [if_pos c3, if_neg (by omega)]
      have g := RR_lend h ht
      have m2e : mkM M t 1 1 2 = M 2 := mk_ne (by omega)
      have e0 : adO O t 1 0 = O 0 := adO_nc (by decide)
      have e1 : adO O t 1 1 = O 1 := adO_nc (by decide)
      have r := RR_send (a := 2) (b := a) (c := t % 3) (t := t) (kind := 3) (w := a) g (by rw [m2e]; exact hn) (by omega) ha (by omega) ht (by omega) (by omega)
      rw [e0, e1] at r
      exact r
    · rw [if_neg c3, if_pos (by omega)]
      exact RR_send (a := 3) (b := a) (c := t % 3) (t := t) (kind := 2) (w := a) h hn (by omega) ha (by omega) ht (by omega) (by omega)
  · rw [if_neg c1, if_pos (by omega)]
    exact RR_send (a := 3) (b := a) (c := t % 3) (t := t) (kind := 2) (w := a) h hn (by omega) ha (by omega) ht (by omega) (by omega)
/- a payment with its marks -/
set_option maxHeartbeats 4000000 in
set_option maxRecDepth 100000 in
theorem RR_payAll {O : Of} {M : Int → Int} {w t : Int} (h : RR O M) (hn : M 2 < 149) (hw : 0 ≤ w ∧ w < 3) (ht : 0 ≤ t ∧ t < 600) (hp : pd M w t = 0) (hc : ¬ clM M t = 0) (h9 : M (8 + 15 * w + 9) = 0) : RR (pyO O w t) (payM M w t) := by
  have g := RR_pay h hw ht hp hc h9
  have m2e : payM1 M w t 2 = M 2 := payM1_2 hw ht
  have e0 : pyO3 O w t 0 0 = O 0 0 := pyO3_0
  have e1 : pyO3 O w t 1 = O 1 := pyO3_nc (by decide)
  unfold pyO s2O payM
  have two : ∀ a b : Int, 0 ≤ a → a < 3 → 0 ≤ b → b < 3 → RR (snO (snO (pyO3 O w t) 0 a t (O 0 0 + O 1 1)) 0 b t (O 0 0 + O 1 1)) (sdM (sdM (payM1 M w t) 0 a w t) 0 b w t) := by
    intro a b a1 a2 b1 b2
    have r1 := RR_send (a := 0) (b := a) (c := w) (t := t) (kind := 0) (w := a) g (by rw [m2e]; omega) (by omega) ⟨a1, a2⟩ hw ht (by omega) (by omega)
    rw [e0, e1] at r1
    have f0 : snO (pyO3 O w t) 0 a t (O 0 0 + O 1 1) 0 0 = O 0 0 := by rw [snO_nc (by decide), e0]
    have f1 : snO (pyO3 O w t) 0 a t (O 0 0 + O 1 1) 1 = O 1 := by rw [snO_nc (by decide), e1]
    have r2 := RR_send (a := 0) (b := b) (c := w) (t := t) (kind := 0) (w := b) r1 (by rw [sdM_2, m2e]; omega) (by omega) ⟨b1, b2⟩ hw ht (by omega) (by omega)
    rw [f0, f1] at r2
    exact r2
  by_cases w0 : w = 0
  · rw [if_pos w0, if_pos w0]; exact two 1 2 (by omega) (by omega) (by omega) (by omega)
  · rw [if_neg w0, if_neg w0]
    by_cases w1 : w = 1
    · rw [if_pos w1, if_pos w1]; exact two 0 2 (by omega) (by omega) (by omega) (by omega)
    · rw [if_neg w1, if_neg w1]; exact two 0 1 (by omega) (by omega) (by omega) (by omega)
/- an answer comes -/
set_option maxHeartbeats 4000000 in
set_option maxRecDepth 100000 in
theorem RR_ycome {O : Of} {M : Int → Int} {w t : Int} (h : RR O M) (hn : M (8 + 15 * w + 9) = t + 1 → M 2 < 149) (hw : 0 ≤ w ∧ w < 3) (ht : 0 ≤ t ∧ t < 600) : RR (tyO O w t) (acM M w t 1) := by
  unfold tyO acM
  have b := (h.2.2.2.1 w hw.1 hw.2).2.2.2.1
  by_cases c1 : M (8 + 15 * w + 9) = t + 1
  · have e : O 12 w = t := by rw [b.2, if_neg (by omega)]; omega
    rw [if_pos c1, if_pos e, if_neg (by decide)]
    have g := RR_unwait h hw
    have q := (h.2.2.2.2.2.2.2 t w ht.1 ht.2 hw.1 hw.2).2.2.1 c1
    have fn : ∀ j : Int, ¬ j = 8 + 15 * w + 9 → ¬ j = 8 + 15 * w + 10 → frM M w j = M j := fun j j1 j2 => by unfold frM; rw [up_ne j2, up_ne j1]
    have hD : SmD M (frM M w) := ⟨fun j j1 j2 => fn j (by omega) (by omega), fun s s1 s2 => by unfold qb; rw [fn _ (by omega) (by omega)]⟩
    refine RR_payAll g (by rw [fn 2 (by omega) (by omega)]; exact hn c1) hw ht ?_ ?_ ?_
    · unfold pd; rw [fn _ (by omega) (by omega)]; exact q.1
    · rw [clM_c hD ht]; exact q.2
    · unfold frM; rw [up_ne (by omega), up_eq rfl]
  · have e : ¬ O 12 w = t := by
      rw [b.2]
      split <;> omega
    rw [if_neg c1, if_neg e, if_neg (by decide)]
    exact RR_free h ht
set_option maxHeartbeats 4000000 in
set_option maxRecDepth 100000 in
theorem RR_ncome {O : Of} {M : Int → Int} {w t : Int} (h : RR O M) (hw : 0 ≤ w ∧ w < 3) (ht : 0 ≤ t ∧ t < 600) : RR (tnO O w t) (acM M w t 0) := by
  unfold tnO acM
  have b := (h.2.2.2.1 w hw.1 hw.2).2.2.2.1
  by_cases c1 : M (8 + 15 * w + 9) = t + 1
  · have e : O 12 w = t := by rw [b.2, if_neg (by omega)]; omega
    rw [if_pos c1, if_pos e, if_pos rfl]
    exact RR_away (RR_unwait h hw) hw
  · have e : ¬ O 12 w = t := by
      rw [b.2]
      split <;> omega
    rw [if_neg c1, if_neg e, if_pos rfl]
    exact h
