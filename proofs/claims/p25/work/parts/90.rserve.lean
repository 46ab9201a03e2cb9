/-! THE RELATION is kept as a window serves -/
set_option maxHeartbeats 4000000 in
set_option maxRecDepth 100000 in
theorem RR_rs {O : Of} {M : Int → Int} (h : RR O M) {w t : Int} (hw : 0 ≤ w ∧ w < 3) (ht : 0 ≤ t ∧ t < 600) : rsO O w t = reM M w t := by
  obtain ⟨h1, h2, h3, h4, h5, h6, h7, h8⟩ := h
  have e0 := RF_0 h1 ht
  have e1 := RF_1 h1 ht
  have em := RF_m h1 ht hw
  have ez := pz_eq h1 h2 ht
  have eR : O 1 0 = M 5 := h7.2.2.2.1 0 (by omega) (by omega)
  obtain ⟨d1, d2, d3⟩ := h2.2 (t / 100) (by omega) (by omega)
  have hW := h2.1 (t / 100) (by omega) (by omega)
  have m0 := RF_m h1 ht (w := 0) (by omega)
  have m1 := RF_m h1 ht (w := 1) (by omega)
  have m2 := RF_m h1 ht (w := 2) (by omega)
  have q0 := qb_01 M t 0
  have q1 := qb_01 M t 1
  have q2 := qb_01 M t 2
  have q3 := qb_01 M t 3
  have q4 := qb_01 M t 4
  have qw := qb_01 M t (2 + w).toNat
  have e3 : O 3 t / 32 % 8 = qb M t 2 + 2 * qb M t 3 + 4 * qb M t 4 := by
    simp only [Int.reduceAdd, Int.add_zero, Int.reduceToNat] at m0 m1 m2
    rw [← m0, ← m1, ← m2]
    unfold fb
    simp only [Int.reducePow]
    omega
  have im : imE M w t = if (¬ w = 0 ∧ qb M t 2 = 1) ∨ (¬ w = 1 ∧ qb M t 3 = 1) ∨ (¬ w = 2 ∧ qb M t 4 = 1) then 1 else 0 := rfl
  have hown : (w = 0 → qb M t (2 + w).toNat = qb M t 2) ∧ (w = 1 → qb M t (2 + w).toNat = qb M t 3) ∧ (w = 2 → qb M t (2 + w).toNat = qb M t 4) := by
    refine ⟨fun g => by rw [g]; rfl, fun g => by rw [g]; rfl, fun g => by rw [g]; rfl⟩
  unfold rsO reM
  rw [e0, e1, em, ez, eR, e3, d1, im]
  have f7 : ((if M (53 + 2 * (t / 100)) = 1 then M (53 + 2 * (t / 100) + 1) else -5) = -5) = (M (53 + 2 * (t / 100)) = 0) := propext (by
    split
    · constructor <;> intro <;> omega
    · constructor <;> intro <;> omega)
  simp only [f7]
  by_cases c0 : qb M t 0 = 0
  · rw [if_pos c0, if_pos c0]
  · rw [if_neg c0, if_neg c0]
    by_cases c1 : M (53 + 2 * (t / 100)) = 0
    · rw [if_pos c1, if_pos c1]
    · rw [if_neg c1, if_neg c1]
      by_cases c3 : przM M t = 0
      · rw [if_pos c3, if_pos c3]
      · rw [if_neg c3, if_neg c3]
        by_cases c4 : qb M t (2 + w).toNat = 1
        · rw [if_pos c4, if_pos c4]
        · rw [if_neg c4, if_neg c4]
          by_cases r1 : M 5 = 1
          · rw [if_pos r1]
            by_cases r2 : t % 3 = w
            · rw [if_pos r2]
              by_cases r3 : qb M t 1 = 1
              · rw [if_pos r3, if_pos (Or.inl ⟨r1, r2, r3⟩)]
              · rw [if_neg r3, if_neg (fun q => q.elim (fun q => r3 q.2.2) (fun q => by have := q.1; omega))]
            · rw [if_neg r2, if_neg (fun q => q.elim (fun q => r2 q.2.1) (fun q => by have := q.1; omega))]
          · rw [if_neg r1]
            by_cases r2 : M 5 = 2
            · rw [if_pos r2]
              by_cases r3 : (¬ w = 0 ∧ qb M t 2 = 1) ∨ (¬ w = 1 ∧ qb M t 3 = 1) ∨ (¬ w = 2 ∧ qb M t 4 = 1)
              · rw [if_neg (show ¬ qb M t 2 + 2 * qb M t 3 + 4 * qb M t 4 = 0 by omega), if_pos r3, if_pos (Or.inr ⟨r2, rfl⟩)]
              · rw [if_pos (show qb M t 2 + 2 * qb M t 3 + 4 * qb M t 4 = 0 by
                  obtain ⟨g0, g1, g2⟩ := hown
                  rcases (show w = 0 ∨ w = 1 ∨ w = 2 by omega) with g | g | g
                  · have := g0 g; omega
                  · have := g1 g; omega
                  · have := g2 g; omega), if_neg r3, if_neg (fun q => q.elim (fun q => r1 q.1) (fun q => absurd q.2 (by decide)))]
            · rw [if_neg r2, if_neg (fun q => q.elim (fun q => r1 q.1) (fun q => r2 q.1))]
set_option maxHeartbeats 4000000 in
set_option maxRecDepth 100000 in
theorem re_0 {M : Int → Int} {w t : Int} (h : reM M w t = 0) : ¬ clM M t = 0 ∧ ¬ qb M t (2 + w).toNat = 1 := by
  unfold reM at h
  by_cases c0 : qb M t 0 = 0
  · rw [if_pos c0] at h; omega
  · rw [if_neg c0] at h
    by_cases c1 : M (53 + 2 * (t / 100)) = 0
    · rw [if_pos c1] at h; omega
    · rw [if_neg c1] at h
      by_cases c3 : przM M t = 0
      · rw [if_pos c3] at h; omega
      · rw [if_neg c3] at h
        by_cases c4 : qb M t (2 + w).toNat = 1
        · rw [if_pos c4] at h; omega
        · refine ⟨fun q => c3 ?_, c4⟩
          unfold przM
          rw [if_pos q]
set_option maxHeartbeats 4000000 in
set_option maxRecDepth 100000 in
theorem RR_sv1 {O : Of} {M : Int → Int} {w : Int} (h : RR O M) (hw : 0 ≤ w ∧ w < 3) : RR (sv1O O w) (wa1 M w) := by
  obtain ⟨-, -, -, b4, b5, -⟩ := h.2.2.2.1 w hw.1 hw.2
  have e7 : O 1 2 = M 7 := h.2.2.2.2.2.2.1.2.2.2.1 2 (by omega) (by omega)
  unfold sv1O wa1
  by_cases c : 0 < M (8 + 15 * w + 9) ∧ M 7 ≤ M (8 + 15 * w + 10)
  · have c1 : ¬ O 12 w = -5 ∧ O 1 2 ≤ O 13 w := by
      rw [b4.2, if_neg (by omega), b5.2.1 (by omega), e7]
      omega
    rw [if_pos c, if_pos c1]
    exact RR_away (RR_unwait h hw) hw
  · have c1 : ¬ (¬ O 12 w = -5 ∧ O 1 2 ≤ O 13 w) := by
      intro q
      apply c
      by_cases g : M (8 + 15 * w + 9) = 0
      · rw [b4.2, if_pos g] at q; exact absurd rfl q.1
      · have := q.2
        rw [b5.2.1 g, e7] at this
        omega
    rw [if_neg c, if_neg c1]
    exact h
set_option maxHeartbeats 4000000 in
set_option maxRecDepth 100000 in
theorem RR_sv2 {O : Of} {M : Int → Int} {w t : Int} (h : RR O M) (hw : 0 ≤ w ∧ w < 3) (ht : 0 ≤ t ∧ t < 600) (h9 : M (8 + 15 * w + 9) = 0) (hn : M 2 < 149) : RR (sv2O O w t) (if 0 < reM M w t then awM M w (reM M w t) else if M 5 = 1 ∧ ¬ t % 3 = w then up (up (sdM M 1 (t % 3) w t) (8 + 15 * w + 9) (t + 1)) (8 + 15 * w + 10) 0 else payM M w t) := by
  have e := RR_rs h hw ht
  have hb := re_b M w t
  have eR : O 1 0 = M 5 := h.2.2.2.2.2.2.1.2.2.2.1 0 (by omega) (by omega)
  unfold sv2O
  rw [e, eR]
  by_cases c : reM M w t = 0
  · obtain ⟨r1, r2⟩ := re_0 c
    have hp : pd M w t = 0 := by
      have q1 := (h.2.2.2.2.2.2.2 t w ht.1 ht.2 hw.1 hw.2).1
      have q2 := ((h.2.2.1 t ht.1 ht.2).2.1 w hw.1 hw.2).1.1
      rcases Int.lt_or_le 0 (pd M w t) with q | q
      · exact absurd (q1 q).1 r2
      · omega
    rw [if_pos c, if_neg (show ¬ 0 < reM M w t by omega)]
    by_cases c1 : M 5 = 1 ∧ ¬ t % 3 = w
    · rw [if_pos c1, if_pos c1]
      have g := RR_send (a := 1) (b := t % 3) (c := w) (t := t) (kind := 1) (w := w) h (by omega) (by omega) (by omega) hw ht (by omega) (by omega)
      have sn : ∀ j : Int, ¬ j = 2 → (j < 65 ∨ 833 ≤ j) → sdM M 1 (t % 3) w t j = M j := fun j j1 j2 => by
        have := h.2.2.2.2.1.1
        exact sd_ne j1 (by omega)
      have hD : SmD M (sdM M 1 (t % 3) w t) := ⟨fun j j1 j2 => sn j (by omega) (by omega), fun s s1 s2 => by unfold qb; rw [sn _ (by omega) (by omega)]⟩
      have g2 := RR_wait g hw ht (by unfold pd; rw [sn _ (by omega) (by omega)]; exact hp) (by rw [clM_c hD ht]; exact r1)
      have e12 : snO O 1 w t (O 0 0 + O 1 1) 12 = O 12 := snO_nc (by decide)
      have e13 : snO O 1 w t (O 0 0 + O 1 1) 13 = O 13 := snO_nc (by decide)
      rw [e12, e13] at g2
      exact g2
    · rw [if_neg c1, if_neg c1]
      exact RR_payAll h hn hw ht hp r1 h9
  · rw [if_neg c, if_pos (show 0 < reM M w t by omega)]
    exact RR_away h hw
set_option maxHeartbeats 4000000 in
set_option maxRecDepth 100000 in
theorem RR_serve {O : Of} {M : Int → Int} {w : Int} (h : RR O M) (hw : 0 ≤ w ∧ w < 3) (hn : M 2 < 149) : RR (svO O w) (waM M w) := by
  have g := RR_sv1 h hw
  have e2 : wa1 M w 2 = M 2 := by
    unfold wa1
    split
    · unfold awM frM
      rw [up_ne (by omega), up_ne (by omega), up_ne (by omega), up_ne (by omega)]
    · rfl
  unfold svO waM
  rw [← e2] at hn
  generalize sv1O O w = X at *
  generalize wa1 M w = P at *
  obtain ⟨b1, b2, b3, b4, b5, -⟩ := g.2.2.2.1 w hw.1 hw.2
  rw [b4.2, b1.2]
  by_cases c1 : P (8 + 15 * w + 9) = 0
  · rw [if_pos c1, if_pos rfl]
    by_cases c3 : P (8 + 15 * w) = 0
    · rw [if_pos c3, if_neg (by omega)]
      exact g
    · rw [if_neg c3, if_pos ⟨c1, by omega⟩]
      have et : X 10 (w * 8) = P (8 + 15 * w + 1) := by
        have q := b2 0 (by omega) (by omega)
        rw [Int.add_zero] at q
        exact q
      have ht : 0 ≤ P (8 + 15 * w + 1) ∧ P (8 + 15 * w + 1) < 600 := b3 0 (by omega) (by omega)
      rw [et]
      have go := RR_out g hw (by omega)
      have o9 : toM P w (8 + 15 * w + 9) = P (8 + 15 * w + 9) := to_ne (by omega)
      have o2 : toM P w 2 = P 2 := to_ne (by omega)
      exact RR_sv2 go hw ht (by rw [o9]; exact c1) (by rw [o2]; exact hn)
  · rw [if_neg c1, if_neg (by omega), if_neg (fun q => c1 q.1)]
    exact g
