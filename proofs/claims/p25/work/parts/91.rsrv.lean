/-! MESSAGES FIT: as the windows serve -/
def Srv (M M' : Int → Int) (w : Int) : Prop := (M' 0 = M 0 ∧ M' 4 = M 4) ∧ ((Ap0 M M' ∧ ∀ v : Int, 0 ≤ v → v < 3 → wt M' v ≤ wt M v) ∨ (∃ c, Ap1 M M' c ∧ c / 100 = 1 ∧ c % 10 = w ∧ ∀ v : Int, 0 ≤ v → v < 3 → ¬ v = w → wt M' v ≤ wt M v) ∨ (∃ M1 b1 b2, Ap1 M M1 b1 ∧ Ap1 M1 M' b2 ∧ b1 / 100 = 0 ∧ b2 / 100 = 0 ∧ b1 % 10 = w ∧ b2 % 10 = w ∧ ∀ v : Int, 0 ≤ v → v < 3 → wt M' v ≤ wt M v))
set_option maxHeartbeats 4000000 in
set_option maxRecDepth 100000 in
theorem Srv_0 {M P M' : Int → Int} {w : Int} (h : Ap0 M P) (h4 : P 4 = M 4) (hw : ∀ v : Int, 0 ≤ v → v < 3 → wt P v ≤ wt M v) (hS : Srv P M' w) : Srv M M' w := by
  obtain ⟨⟨a0, a4⟩, hS⟩ := hS
  refine ⟨⟨by rw [a0, h.1], by rw [a4, h4]⟩, ?_⟩
  rcases hS with ⟨b1, b2⟩ | ⟨c, b1, b2, b3, b4⟩ | ⟨M1, c1, c3, b1, b2, b3, b4, b5, b6, b7⟩
  · exact Or.inl ⟨Ap0_0 h b1, fun v v1 v2 => Int.le_trans (b2 v v1 v2) (hw v v1 v2)⟩
  · exact Or.inr (Or.inl ⟨c, Ap0_1 h b1, b2, b3, fun v v1 v2 e => Int.le_trans (b4 v v1 v2 e) (hw v v1 v2)⟩)
  · exact Or.inr (Or.inr ⟨M1, c1, c3, Ap0_1 h b1, b2, b3, b4, b5, b6, fun v v1 v2 => Int.le_trans (b7 v v1 v2) (hw v v1 v2)⟩)
def svQ (M : Int → Int) (w t : Int) : Int → Int := if 0 < reM M w t then awM M w (reM M w t) else if M 5 = 1 ∧ ¬ t % 3 = w then up (up (sdM M 1 (t % 3) w t) (8 + 15 * w + 9) (t + 1)) (8 + 15 * w + 10) 0 else payM M w t
set_option maxHeartbeats 4000000 in
set_option maxRecDepth 100000 in
theorem svQ_eff {M : Int → Int} {w t : Int} (hw : 0 ≤ w ∧ w < 3) (ht : 0 ≤ t ∧ t < 600) (hn : 0 ≤ M 2 ∧ M 2 ≤ 200) (h9 : M (8 + 15 * w + 9) = 0) : Srv M (svQ M w t) w ∧ ∀ s s' : Int → Int, PB M s → s w = 0 → s' w = 1 → (∀ v : Int, 0 ≤ v → v < 3 → ¬ v = w → s' v = s v) → PB (svQ M w t) s' := by
  have w0 : wt M w = 0 := by unfold wt; rw [if_pos h9]
  unfold svQ
  by_cases c1 : 0 < reM M w t
  · rw [if_pos c1]
    have an : ∀ j : Int, ¬ j = 8 + 15 * w + 13 → ¬ j = 8 + 15 * w + 14 → awM M w (reM M w t) j = M j := fun j j1 j2 => by unfold awM; rw [up_ne j2, up_ne j1]
    refine ⟨⟨⟨an 0 (by omega) (by omega), an 4 (by omega) (by omega)⟩, Or.inl ⟨Ap0_ne (fun j hj => an j (by omega) (by omega)), fun v v1 v2 => by rw [wt_ne (an _ (by omega) (by omega))]; exact Int.le_refl _⟩⟩, fun s s' hP e0 e1 e2 v v1 v2 => ?_⟩
    have a := hP v v1 v2
    rw [an (8 + 15 * v + 12) (by omega) (by omega), an (8 + 15 * v + 11) (by omega) (by omega), an 0 (by omega) (by omega), wt_ne (an _ (by omega) (by omega))]
    by_cases e : v = w
    · rw [e] at a ⊢; omega
    · rw [e2 v v1 v2 e]; exact a
  · rw [if_neg c1]
    by_cases c3 : M 5 = 1 ∧ ¬ t % 3 = w
    · rw [if_pos c3]
      have sn : ∀ j : Int, ¬ j = 2 → (j < 65 ∨ 833 ≤ j) → sdM M 1 (t % 3) w t j = M j := fun j j1 j2 => sd_ne j1 (by omega)
      have un : ∀ j : Int, ¬ j = 8 + 15 * w + 9 → ¬ j = 8 + 15 * w + 10 → up (up (sdM M 1 (t % 3) w t) (8 + 15 * w + 9) (t + 1)) (8 + 15 * w + 10) 0 j = sdM M 1 (t % 3) w t j := fun j j1 j2 => by rw [up_ne j2, up_ne j1]
      have uw : ∀ v : Int, 0 ≤ v → v < 3 → ¬ v = w → wt (up (up (sdM M 1 (t % 3) w t) (8 + 15 * w + 9) (t + 1)) (8 + 15 * w + 10) 0) v = wt M v := fun v v1 v2 e => wt_ne (by rw [un _ (by omega) (by omega), sn _ (by omega) (by omega)])
      refine ⟨⟨⟨by rw [un 0 (by omega) (by omega), sn 0 (by omega) (by omega)], by rw [un 4 (by omega) (by omega), sn 4 (by omega) (by omega)]⟩, Or.inr (Or.inl ⟨100 * 1 + 10 * (t % 3) + w, Ap1_0 (Ap1_sd hn.1) (Ap0_ne (fun j hj => un j (by rw [sdM_2] at hj; omega) (by rw [sdM_2] at hj; omega))) hn.1, by omega, by omega, fun v v1 v2 e => by rw [uw v v1 v2 e]; exact Int.le_refl _⟩)⟩, fun s s' hP e0 e1 e2 v v1 v2 => ?_⟩
      have a := hP v v1 v2
      rw [un (8 + 15 * v + 12) (by omega) (by omega), un (8 + 15 * v + 11) (by omega) (by omega), un 0 (by omega) (by omega), sn (8 + 15 * v + 12) (by omega) (by omega), sn (8 + 15 * v + 11) (by omega) (by omega), sn 0 (by omega) (by omega)]
      by_cases e : v = w
      · have b := wt_b (up (up (sdM M 1 (t % 3) w t) (8 + 15 * w + 9) (t + 1)) (8 + 15 * w + 10) 0) v
        rw [e] at a b ⊢
        omega
      · rw [e2 v v1 v2 e, uw v v1 v2 e]; exact a
    · rw [if_neg c3]
      obtain ⟨M1, b1, b2, p1, p2, p3, p4, p5, p6, p7⟩ := pay_eff hw ht hn
      refine ⟨⟨⟨by rw [p2.1, p1.1], ?_⟩, Or.inr (Or.inr ⟨M1, b1, b2, p1, p2, p3, p4, p5, p6, fun v v1 v2 => by rw [wt_ne (p7 v v1 v2)]; exact Int.le_refl _⟩)⟩, fun s s' hP e0 e1 e2 => ?_⟩
      · rw [pay_f hw ht hn (by omega) (by omega), payM1_ne (by omega) (by omega) (by omega) (by omega)]
      · have hP' : PB M s' := fun v v1 v2 => by
          have a := hP v v1 v2
          by_cases e : v = w
          · rw [e] at a ⊢; omega
          · rw [e2 v v1 v2 e]; exact a
        refine PB_pay hP' hw ht hn ?_
        have a := hP w hw.1 hw.2
        omega
set_option maxHeartbeats 4000000 in
set_option maxRecDepth 100000 in
theorem wa_eff {O : Of} {M : Int → Int} {w : Int} (h : RR O M) (hw : 0 ≤ w ∧ w < 3) : Srv M (waM M w) w ∧ ∀ s s' : Int → Int, PB M s → s w = 0 → s' w = 1 → (∀ v : Int, 0 ≤ v → v < 3 → ¬ v = w → s' v = s v) → PB (waM M w) s' := by
  have g := RR_sv1 h hw
  have hn := h.2.2.2.2.1.1
  have an : ∀ j : Int, ¬ j = 8 + 15 * w + 9 → ¬ j = 8 + 15 * w + 10 → ¬ j = 8 + 15 * w + 13 → ¬ j = 8 + 15 * w + 14 → wa1 M w j = M j := fun j j1 j2 j3 j4 => by
    unfold wa1
    split
    · unfold awM frM
      rw [up_ne j4, up_ne j3, up_ne j2, up_ne j1]
    · rfl
  have aw : ∀ v : Int, 0 ≤ v → v < 3 → wt (wa1 M w) v ≤ wt M v := fun v v1 v2 => by
    by_cases e : v = w
    · rw [e]
      unfold wa1
      split
      · have q : wt (awM (frM M w) w 6) w = 0 := by
          unfold wt awM frM
          rw [up_ne (by omega), up_ne (by omega), up_ne (by omega), up_eq rfl, if_pos rfl]
        rw [q]; exact (wt_b M w).1
      · exact Int.le_refl _
    · rw [wt_ne (an _ (by omega) (by omega) (by omega) (by omega))]; exact Int.le_refl _
  have a0 : Ap0 M (wa1 M w) := Ap0_ne (fun j hj => an j (by omega) (by omega) (by omega) (by omega))
  have hPw : ∀ s, PB M s → PB (wa1 M w) s := fun s hP => PB_le hP (an 0 (by omega) (by omega) (by omega) (by omega)) aw (fun v v1 v2 => ⟨an _ (by omega) (by omega) (by omega) (by omega), an _ (by omega) (by omega) (by omega) (by omega)⟩)
  have a4 := an 4 (by omega) (by omega) (by omega) (by omega)
  have a2 := an 2 (by omega) (by omega) (by omega) (by omega)
  unfold waM
  generalize wa1 M w = P at *
  by_cases c : P (8 + 15 * w + 9) = 0 ∧ 0 < P (8 + 15 * w)
  · rw [if_pos c]
    have ht := (g.2.2.2.1 w hw.1 hw.2).2.2.1 0 (by omega) (by omega)
    rw [Int.add_zero] at ht
    have tn : ∀ j : Int, (j < 8 + 15 * w ∨ 8 + 15 * w + 8 < j) → toM P w j = P j := fun j hj => to_ne hj
    have q := svQ_eff (M := toM P w) (w := w) (t := P (8 + 15 * w + 1)) hw ht (by rw [tn 2 (by omega), a2]; omega) (by rw [tn _ (by omega)]; exact c.1)
    have es : svM P w = svQ (toM P w) w (P (8 + 15 * w + 1)) := rfl
    rw [es]
    have t0 : Ap0 P (toM P w) := Ap0_ne (fun j hj => tn j (by omega))
    refine ⟨Srv_0 a0 a4 aw (Srv_0 t0 (tn 4 (by omega)) (fun v v1 v2 => by rw [wt_ne (tn _ (by omega))]; exact Int.le_refl _) q.1), fun s s' hP e0 e1 e2 => ?_⟩
    refine q.2 s s' (PB_le (hPw s hP) (tn 0 (by omega)) (fun v v1 v2 => by rw [wt_ne (tn _ (by omega))]; exact Int.le_refl _) (fun v v1 v2 => ⟨tn _ (by omega), tn _ (by omega)⟩)) e0 e1 e2
  · rw [if_neg c]
    refine ⟨⟨⟨a0.1, a4⟩, Or.inl ⟨a0, aw⟩⟩, fun s s' hP e0 e1 e2 v v1 v2 => ?_⟩
    have a := hPw s hP v v1 v2
    by_cases e : v = w
    · rw [e] at a ⊢; omega
    · rw [e2 v v1 v2 e]; exact a
set_option maxHeartbeats 4000000 in
set_option maxRecDepth 100000 in
theorem RS_srv {M M' : Int → Int} {w B : Int} {s s' : Int → Int} (h : RS M s B) (hn : 0 ≤ M 2) (h6 : 1 ≤ M 6) (hS : Srv M M' w) (hw : 0 ≤ w ∧ w < 3) (e0 : s w = 0) (e1 : s' w = 1) (e2 : ∀ v : Int, 0 ≤ v → v < 3 → ¬ v = w → s' v = s v) : RS M' s' (B + 2) := by
  obtain ⟨h1, h2, h3⟩ := h
  obtain ⟨⟨m0, -⟩, hS⟩ := hS
  rcases hS with ⟨hA, hw1⟩ | ⟨c, hA, c1, c3, hw1⟩ | ⟨M1, b1, b2, hA1, hA2, p1, p2, p3, p4, hw1⟩
  · refine ⟨fun v d v1 v2 d1 d2 => ?_, by rw [hA.2.2.1]; omega, fun i i1 i2 => ?_⟩
    · rw [m0] at d1 d2 ⊢
      have a := h1 v d v1 v2 d1 d2
      have u := hw1 v v1 v2
      rw [cm_0 hA hn, cm_0 hA hn, cm_0 hA hn, cm_0 hA hn]
      by_cases e : v = w
      · rw [e] at a u ⊢; omega
      · rw [e2 v v1 v2 e]; omega
    · rw [hA.2.2.1] at i2
      rw [m0, hA.2.2.2 _ (by omega) (by omega)]
      exact h3 i i1 i2
  · refine ⟨fun v d v1 v2 d1 d2 => ?_, by rw [hA.2.2.1]; omega, ?_⟩
    · rw [m0] at d1 d2 ⊢
      have a := h1 v d v1 v2 d1 d2
      have k0 := (g0 (w := v) (d := d) (D := M 0 + M 6) (C := c) (i := nM M)).2 (by omega)
      have k1 := g1 (w := v) (d := d) (D := M 0 + M 6) (C := c) (i := nM M)
      have k1' := g1 (w := v) (d := M 0 + 1) (D := M 0 + M 6) (C := c) (i := nM M)
      have k2 := (g2 (w := v) (d := d) (D := M 0 + M 6) (C := c) (i := nM M)).2 (by omega)
      rw [cm_1 hA hn, cm_1 hA hn, cm_1 hA hn, cm_1 hA hn, k0, k2]
      by_cases e : v = w
      · have u := wt_b M w
        have u' := wt_b M' w
        rw [e] at a k1 k1' ⊢
        omega
      · have u := hw1 v v1 v2 e
        rw [e2 v v1 v2 e, k1.2 (by omega), k1'.2 (by omega)]
        omega
    · exact ap1_due hA (by omega) h6 (fun i i1 i2 => h3 i i1 i2)
  · have hn1 : 0 ≤ M1 2 := by rw [hA1.2.2.1]; omega
    refine ⟨fun v d v1 v2 d1 d2 => ?_, by rw [hA2.2.2.1, hA1.2.2.1]; omega, ?_⟩
    · rw [m0] at d1 d2 ⊢
      have a := h1 v d v1 v2 d1 d2
      have u := hw1 v v1 v2
      have k0 := g0 (w := v) (d := d) (D := M 0 + M 6) (C := b1) (i := nM M)
      have k1 := (g1 (w := v) (d := d) (D := M 0 + M 6) (C := b1) (i := nM M)).2 (by omega)
      have k1' := (g1 (w := v) (d := M 0 + 1) (D := M 0 + M 6) (C := b1) (i := nM M)).2 (by omega)
      have k2 := (g2 (w := v) (d := d) (D := M 0 + M 6) (C := b1) (i := nM M)).2 (by omega)
      have l0 := g0 (w := v) (d := d) (D := M1 0 + M1 6) (C := b2) (i := nM M1)
      have l1 := (g1 (w := v) (d := d) (D := M1 0 + M1 6) (C := b2) (i := nM M1)).2 (by omega)
      have l1' := (g1 (w := v) (d := M 0 + 1) (D := M1 0 + M1 6) (C := b2) (i := nM M1)).2 (by omega)
      have l2 := (g2 (w := v) (d := d) (D := M1 0 + M1 6) (C := b2) (i := nM M1)).2 (by omega)
      rw [cm_1 hA2 hn1, cm_1 hA2 hn1, cm_1 hA2 hn1, cm_1 hA2 hn1, cm_1 hA1 hn, cm_1 hA1 hn, cm_1 hA1 hn, cm_1 hA1 hn, k1, k1', k2, l1, l1', l2]
      by_cases e : v = w
      · rw [e] at a u k0 l0 ⊢
        omega
      · rw [e2 v v1 v2 e, k0.2 (by omega), l0.2 (by omega)]
        omega
    · exact ap1_due hA2 (by omega) (by rw [hA1.2.1]; exact h6) (ap1_due hA1 (by omega) h6 (fun i i1 i2 => h3 i i1 i2))
