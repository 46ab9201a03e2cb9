/-! MESSAGES FIT: as they are delivered -/
set_option maxHeartbeats 4000000 in
set_option maxRecDepth 100000 in
theorem g0 {w d D C : Int} {i : Nat} : (0 ≤ gM w d i D C ∧ gM w d i D C ≤ 1) ∧ (¬ (C / 100 = 0 ∧ C % 10 = w) → gM w d i D C = 0) := by
  unfold gM
  split
  · exact ⟨by omega, fun q => by omega⟩
  · exact ⟨by omega, fun _ => rfl⟩
set_option maxHeartbeats 4000000 in
set_option maxRecDepth 100000 in
theorem g1 {w d D C : Int} {i : Nat} : (0 ≤ gQ w d i D C ∧ gQ w d i D C ≤ 1) ∧ (¬ (C / 100 = 1 ∧ C % 10 = w) → gQ w d i D C = 0) := by
  unfold gQ
  split
  · exact ⟨by omega, fun q => by omega⟩
  · exact ⟨by omega, fun _ => rfl⟩
set_option maxHeartbeats 4000000 in
set_option maxRecDepth 100000 in
theorem g2 {w d D C : Int} {i : Nat} : (0 ≤ gR w d i D C ∧ gR w d i D C ≤ 1) ∧ (¬ (2 ≤ C / 100 ∧ C / 10 % 10 = w) → gR w d i D C = 0) := by
  unfold gR
  split
  · exact ⟨by omega, fun q => by omega⟩
  · exact ⟨by omega, fun _ => rfl⟩
set_option maxHeartbeats 4000000 in
set_option maxRecDepth 100000 in
theorem g3 {w T D C : Int} {i j : Nat} : (0 ≤ gP w T j i D C ∧ gP w T j i D C ≤ 1) ∧ (¬ (C / 100 = 1 ∧ C % 10 = w) → gP w T j i D C = 0) := by
  unfold gP
  split
  · exact ⟨by omega, fun q => by omega⟩
  · exact ⟨by omega, fun _ => rfl⟩
set_option maxHeartbeats 4000000 in
set_option maxRecDepth 100000 in
theorem g4 {T D C : Int} {i j : Nat} : (0 ≤ gU T j i D C ∧ gU T j i D C ≤ 1) ∧ (¬ (C / 100 = 1) → gU T j i D C = 0) := by
  unfold gU
  split
  · exact ⟨by omega, fun q => by omega⟩
  · exact ⟨by omega, fun _ => rfl⟩
set_option maxHeartbeats 4000000 in
set_option maxRecDepth 100000 in
theorem RJ_next {M : Int → Int} {j : Nat} (h : RJ M j) (hj : j < nM M) (hd : M 0 + 1 ≤ M (65 + 3 * (j : Int))) : RJ M (j + 1) := by
  refine ⟨fun w d w1 w2 d1 d2 => ?_, ?_⟩
  · have a := h.1 w d w1 w2 d1 d2
    rw [cmP_s, if_pos hj, if_neg (fun q => q.2.2 hd), Int.sub_zero]
    exact a
  · have a := h.2
    rw [cmU_s, if_pos hj, if_neg (fun q => by have := q.2; omega), Int.sub_zero]
    exact a
/- a message is delivered: what it does to the mail and to who waits -/
def Eff (M M' : Int → Int) (c : Int) : Prop := (Ap0 M M' ∧ ∀ v : Int, 0 ≤ v → v < 3 → wt M' v ≤ wt M v) ∨ (c / 100 = 1 ∧ ∃ b, Ap1 M M' b ∧ 2 ≤ b / 100 ∧ b / 10 % 10 = c % 10 ∧ ∀ v : Int, 0 ≤ v → v < 3 → wt M' v = wt M v) ∨ (∃ w M1 b1 b2, 0 ≤ w ∧ w < 3 ∧ Ap1 M M1 b1 ∧ Ap1 M1 M' b2 ∧ b1 / 100 = 0 ∧ b2 / 100 = 0 ∧ b1 % 10 = w ∧ b2 % 10 = w ∧ wt M w = 1 ∧ wt M' w = 0 ∧ ∀ v : Int, 0 ≤ v → v < 3 → ¬ v = w → wt M' v = wt M v)
set_option maxHeartbeats 4000000 in
set_option maxRecDepth 100000 in
theorem RJ_eff {M M' : Int → Int} {j : Nat} (h : RJ M j) (hj : j < nM M) (hn : 0 ≤ M 2) (hd : M (65 + 3 * (j : Int)) = M 0) (hE : Eff M M' (M (65 + 3 * (j : Int) + 1))) : RJ M' (j + 1) := by
  obtain ⟨c, hc⟩ : ∃ c, c = M (65 + 3 * (j : Int) + 1) := ⟨_, rfl⟩
  rw [← hc] at hE
  have eP : ∀ w : Int, cm (gP w (M 0) (j + 1)) M (nM M) = cm (gP w (M 0) j) M (nM M) - (if c / 100 = 1 ∧ c % 10 = w then 1 else 0) := fun w => by
    rw [cmP_s, if_pos hj, ← hc, hd]
    by_cases q : c / 100 = 1 ∧ c % 10 = w
    · rw [if_pos ⟨q.1, q.2, by omega⟩, if_pos q]
    · rw [if_neg (fun r => q ⟨r.1, r.2.1⟩), if_neg q]
  have eU : cm (gU (M 0) (j + 1)) M (nM M) = cm (gU (M 0) j) M (nM M) - (if c / 100 = 1 then 1 else 0) := by
    rw [cmU_s, if_pos hj, ← hc, hd]
    by_cases q : c / 100 = 1
    · rw [if_pos ⟨q, rfl⟩, if_pos q]
    · rw [if_neg (fun r => q r.1), if_neg q]
  rcases hE with ⟨hA, hw⟩ | ⟨hq, b, hA, hb, hb2, hw⟩ | ⟨w, M1, b1, b2, hw1, hw2, hA1, hA2, p1, p2, p3, p4, u1, u2, u3⟩
  · have e0 := hA.1
    refine ⟨fun v d v1 v2 d1 d2 => ?_, ?_⟩
    · rw [e0] at d1 d2 ⊢
      have a := h.1 v d v1 v2 d1 d2
      have u := hw v v1 v2
      rw [cm_0 hA hn, cm_0 hA hn, cm_0 hA hn, cm_0 hA hn, eP]
      split <;> omega
    · have a := h.2
      have u0 := hw 0 (by omega) (by omega)
      have u1 := hw 1 (by omega) (by omega)
      have u2 := hw 2 (by omega) (by omega)
      rw [e0, cm_0 hA hn, eU, hA.2.2.1]
      split <;> omega
  · have e0 := hA.1
    refine ⟨fun v d v1 v2 d1 d2 => ?_, ?_⟩
    · rw [e0] at d1 d2 ⊢
      have a := h.1 v d v1 v2 d1 d2
      rw [cm_1 hA hn, cm_1 hA hn, cm_1 hA hn, cm_1 hA hn, eP, hw v v1 v2]
      have k0 := (g0 (w := v) (d := d) (D := M 0 + M 6) (C := b) (i := nM M)).2 (by omega)
      have k1 := (g1 (w := v) (d := d) (D := M 0 + M 6) (C := b) (i := nM M)).2 (by omega)
      have k2 := g2 (w := v) (d := d) (D := M 0 + M 6) (C := b) (i := nM M)
      have k3 := (g3 (w := v) (T := M 0) (D := M 0 + M 6) (C := b) (i := nM M) (j := j + 1)).2 (by omega)
      rw [k0, k1, k3]
      by_cases e : c % 10 = v
      · rw [if_pos ⟨hq, e⟩]
        omega
      · rw [if_neg (fun q => e q.2)]
        have := k2.2 (by omega)
        omega
    · have a := h.2
      have k4 := (g4 (T := M 0) (D := M 0 + M 6) (C := b) (i := nM M) (j := j + 1)).2 (by omega)
      rw [e0, cm_1 hA hn, eU, hA.2.2.1, if_pos hq, k4, hw 0 (by omega) (by omega), hw 1 (by omega) (by omega), hw 2 (by omega) (by omega)]
      omega
  · have e0 : M' 0 = M 0 := by rw [hA2.1, hA1.1]
    have hn1 : 0 ≤ M1 2 := by rw [hA1.2.2.1]; omega
    refine ⟨fun v d v1 v2 d1 d2 => ?_, ?_⟩
    · rw [e0] at d1 d2 ⊢
      have a := h.1 v d v1 v2 d1 d2
      rw [cm_1 hA2 hn1, cm_1 hA2 hn1, cm_1 hA2 hn1, cm_1 hA2 hn1, cm_1 hA1 hn, cm_1 hA1 hn, cm_1 hA1 hn, cm_1 hA1 hn, eP]
      have k0 := g0 (w := v) (d := d) (D := M 0 + M 6) (C := b1) (i := nM M)
      have k1 := (g1 (w := v) (d := d) (D := M 0 + M 6) (C := b1) (i := nM M)).2 (by omega)
      have k2 := (g2 (w := v) (d := d) (D := M 0 + M 6) (C := b1) (i := nM M)).2 (by omega)
      have k3 := (g3 (w := v) (T := M 0) (D := M 0 + M 6) (C := b1) (i := nM M) (j := j + 1)).2 (by omega)
      have l0 := g0 (w := v) (d := d) (D := M1 0 + M1 6) (C := b2) (i := nM M1)
      have l1 := (g1 (w := v) (d := d) (D := M1 0 + M1 6) (C := b2) (i := nM M1)).2 (by omega)
      have l2 := (g2 (w := v) (d := d) (D := M1 0 + M1 6) (C := b2) (i := nM M1)).2 (by omega)
      have l3 := (g3 (w := v) (T := M 0) (D := M1 0 + M1 6) (C := b2) (i := nM M1) (j := j + 1)).2 (by omega)
      rw [k1, k2, k3, l1, l2, l3]
      have z : 0 ≤ (if c / 100 = 1 ∧ c % 10 = v then (1 : Int) else 0) := by split <;> omega
      by_cases e : v = w
      · rw [e] at a k0 l0 z ⊢
        rw [u1] at a
        rw [u2]
        omega
      · rw [u3 v v1 v2 e]
        have := k0.2 (by omega)
        have := l0.2 (by omega)
        omega
    · have a := h.2
      have k4 := (g4 (T := M 0) (D := M 0 + M 6) (C := b1) (i := nM M) (j := j + 1)).2 (by omega)
      have l4 := (g4 (T := M 0) (D := M1 0 + M1 6) (C := b2) (i := nM M1) (j := j + 1)).2 (by omega)
      rw [e0, cm_1 hA2 hn1, cm_1 hA1 hn, eU, hA2.2.2.1, hA1.2.2.1, k4, l4]
      have z : 0 ≤ (if c / 100 = 1 then (1 : Int) else 0) := by split <;> omega
      rcases (show w = 0 ∨ w = 1 ∨ w = 2 by omega) with e | e | e
      · rw [e] at u1 u2
        have := u3 1 (by omega) (by omega) (by omega)
        have := u3 2 (by omega) (by omega) (by omega)
        omega
      · rw [e] at u1 u2
        have := u3 0 (by omega) (by omega) (by omega)
        have := u3 2 (by omega) (by omega) (by omega)
        omega
      · rw [e] at u1 u2
        have := u3 0 (by omega) (by omega) (by omega)
        have := u3 1 (by omega) (by omega) (by omega)
        omega
/- the effect of each kind -/
set_option maxHeartbeats 4000000 in
set_option maxRecDepth 100000 in
theorem mc_at {M : Int → Int} {w t j : Int} (h1 : ¬ j = 833 + t) (h2 : ¬ j = 4) (h3 : ¬ j = 1433 + t) : mcM M w t j = M j := by
  unfold mcM
  split
  · split
    · rw [up_ne h3, up_ne h2, mk_ne h1]
    · exact mk_ne h1
  · exact mk_ne h1
set_option maxHeartbeats 4000000 in
set_option maxRecDepth 100000 in
theorem wt_ne {M M' : Int → Int} {v : Int} (h : M' (8 + 15 * v + 9) = M (8 + 15 * v + 9)) : wt M' v = wt M v := by
  unfold wt
  rw [h]
set_option maxHeartbeats 4000000 in
set_option maxRecDepth 100000 in
theorem payM1_ne {M : Int → Int} {w t j : Int} (h1 : ¬ j = 833 + t) (h2 : ¬ j = 8 + 15 * w + 11) (h3 : ¬ j = 8 + 15 * w + 12) (h4 : ¬ j = 2033 + 600 * w + t) : payM1 M w t j = M j := by
  unfold payM1
  rw [mk_ne h1, pay0_ne h2 h3 h4]
/- a payment sends two marks -/
set_option maxHeartbeats 4000000 in
set_option maxRecDepth 100000 in
theorem pay_eff {M : Int → Int} {w t : Int} (hw : 0 ≤ w ∧ w < 3) (ht : 0 ≤ t ∧ t < 600) (hn : 0 ≤ M 2 ∧ M 2 ≤ 200) : ∃ M1 b1 b2, Ap1 M M1 b1 ∧ Ap1 M1 (payM M w t) b2 ∧ b1 / 100 = 0 ∧ b2 / 100 = 0 ∧ b1 % 10 = w ∧ b2 % 10 = w ∧ ∀ v : Int, 0 ≤ v → v < 3 → payM M w t (8 + 15 * v + 9) = M (8 + 15 * v + 9) := by
  have h0 : Ap0 M (payM1 M w t) := Ap0_ne (fun j hj => payM1_ne (by omega) (by omega) (by omega) (by omega))
  have m2e : payM1 M w t 2 = M 2 := payM1_2 hw ht
  have two : ∀ a b : Int, 0 ≤ a → a < 3 → 0 ≤ b → b < 3 → payM M w t = sdM (sdM (payM1 M w t) 0 a w t) 0 b w t → ∃ M1 b1 b2, Ap1 M M1 b1 ∧ Ap1 M1 (payM M w t) b2 ∧ b1 / 100 = 0 ∧ b2 / 100 = 0 ∧ b1 % 10 = w ∧ b2 % 10 = w ∧ ∀ v : Int, 0 ≤ v → v < 3 → payM M w t (8 + 15 * v + 9) = M (8 + 15 * v + 9) := by
    intro a b a1 a2 b1 b2 e
    rw [e]
    refine ⟨sdM (payM1 M w t) 0 a w t, 100 * 0 + 10 * a + w, 100 * 0 + 10 * b + w, Ap0_1 h0 (Ap1_sd (by rw [m2e]; exact hn.1)), Ap1_sd (by rw [sdM_2, m2e]; omega), by omega, by omega, by omega, by omega, fun v v1 v2 => ?_⟩
    rw [sd_ne (by omega) (by rw [sdM_2, m2e]; omega), sd_ne (by omega) (by rw [m2e]; omega), payM1_ne (by omega) (by omega) (by omega) (by omega)]
  by_cases w0 : w = 0
  · exact two 1 2 (by omega) (by omega) (by omega) (by omega) (by unfold payM; rw [if_pos w0])
  · by_cases w1 : w = 1
    · exact two 0 2 (by omega) (by omega) (by omega) (by omega) (by unfold payM; rw [if_neg w0, if_pos w1])
    · exact two 0 1 (by omega) (by omega) (by omega) (by omega) (by unfold payM; rw [if_neg w0, if_neg w1])
set_option maxHeartbeats 4000000 in
set_option maxRecDepth 100000 in
theorem dq2 {x y : Int} (hx : 0 ≤ x ∧ x < 3) (hy : 0 ≤ y ∧ y < 3) : 2 ≤ (100 * 2 + 10 * x + y) / 100 ∧ (100 * 2 + 10 * x + y) / 10 % 10 = x := by omega
set_option maxHeartbeats 4000000 in
set_option maxRecDepth 100000 in
theorem dq3 {x y : Int} (hx : 0 ≤ x ∧ x < 3) (hy : 0 ≤ y ∧ y < 3) : 2 ≤ (100 * 3 + 10 * x + y) / 100 ∧ (100 * 3 + 10 * x + y) / 10 % 10 = x := by omega
set_option maxHeartbeats 4000000 in
set_option maxRecDepth 100000 in
theorem co_eff {M : Int → Int} {c t : Int} (hn : 0 ≤ M 2 ∧ M 2 ≤ 200) (hc : 0 ≤ c ∧ c / 100 ≤ 3 ∧ c / 10 % 10 < 3 ∧ c % 10 < 3) (ht : 0 ≤ t ∧ t < 600) : Eff M (coM M (c / 100) (c / 10 % 10) (c % 10) t) c := by
  have fn : ∀ w j : Int, ¬ j = 8 + 15 * w + 9 → ¬ j = 8 + 15 * w + 10 → frM M w j = M j := fun w j j1 j2 => by unfold frM; rw [up_ne j2, up_ne j1]
  have f9 : ∀ w : Int, frM M w (8 + 15 * w + 9) = 0 := fun w => by unfold frM; rw [up_ne (by omega), up_eq rfl]
  have fw : ∀ w : Int, wt (frM M w) w = 0 := fun w => by unfold wt; rw [f9, if_pos rfl]
  have fo : ∀ w v : Int, 0 ≤ v → v < 3 → 0 ≤ w → w < 3 → ¬ v = w → wt (frM M w) v = wt M v := fun w v v1 v2 w1 w2 e => wt_ne (fn w _ (by omega) (by omega))
  rcases (show c / 100 = 0 ∨ c / 100 = 1 ∨ c / 100 = 2 ∨ c / 100 = 3 by omega) with g | g | g | g
  · left
    have v2 : coM M (c / 100) (c / 10 % 10) (c % 10) t = mcM M (c / 10 % 10) t := by unfold coM; rw [if_pos g]
    rw [v2]
    exact ⟨Ap0_ne (fun j hj => mc_at (by omega) (by omega) (by omega)), fun v v1 v2 => by rw [wt_ne (mc_at (by omega) (by omega) (by omega))]; exact Int.le_refl _⟩
  · right; left
    refine ⟨g, ?_⟩
    have v2 : coM M (c / 100) (c / 10 % 10) (c % 10) t = qcM M (c / 10 % 10) (c % 10) t := by unfold coM; rw [g, if_neg (show ¬ (1 : Int) = 0 by decide), if_pos rfl]
    rw [v2]
    have hk : Ap0 M (mkM M t 1 1) := Ap0_ne (fun j hj => mk_ne (by omega))
    have m2e : mkM M t 1 1 2 = M 2 := mk_ne (by omega)
    unfold qcM
    by_cases c1 : qb M t 1 = 0
    · rw [if_pos c1]
      by_cases c3 : qb M t (2 + c / 10 % 10).toNat = 0
      · rw [if_pos c3]
        refine ⟨_, Ap0_1 hk (Ap1_sd (by rw [m2e]; exact hn.1)), (dq2 (by omega) (by omega)).1, (dq2 (by omega) (by omega)).2, fun v v1 v2 => wt_ne ?_⟩
        rw [sd_ne (by omega) (by rw [m2e]; omega), mk_ne (by omega)]
      · rw [if_neg c3]
        exact ⟨_, Ap1_sd hn.1, (dq3 (by omega) (by omega)).1, (dq3 (by omega) (by omega)).2, fun v v1 v2 => wt_ne (sd_ne (by omega) (by omega))⟩
    · rw [if_neg c1]
      exact ⟨_, Ap1_sd hn.1, (dq3 (by omega) (by omega)).1, (dq3 (by omega) (by omega)).2, fun v v1 v2 => wt_ne (sd_ne (by omega) (by omega))⟩
  · have v2 : coM M (c / 100) (c / 10 % 10) (c % 10) t = acM M (c / 10 % 10) t 1 := by unfold coM; rw [g, if_neg (show ¬ (2 : Int) = 0 by decide), if_neg (show ¬ (2 : Int) = 1 by decide), if_pos rfl]
    rw [v2]
    obtain ⟨w, hw⟩ : ∃ w, w = c / 10 % 10 := ⟨_, rfl⟩
    rw [← hw]
    unfold acM
    by_cases c1 : M (8 + 15 * w + 9) = t + 1
    · rw [if_pos c1, if_neg (by decide)]
      right; right
      have f2 : frM M w 2 = M 2 := fn w 2 (by omega) (by omega)
      obtain ⟨M1, b1, b2, p1, p2, p3, p4, p5, p6, p7⟩ := pay_eff (M := frM M w) (w := w) (t := t) (by omega) ht (by rw [f2]; exact hn)
      have hf : Ap0 M (frM M w) := Ap0_ne (fun j hj => fn w j (by omega) (by omega))
      refine ⟨w, M1, b1, b2, by omega, by omega, Ap0_1 hf p1, p2, p3, p4, p5, p6, ?_, ?_, fun v v1 v2 e => ?_⟩
      · unfold wt; rw [if_neg (by omega)]
      · rw [wt_ne (p7 w (by omega) (by omega))]; exact fw w
      · rw [wt_ne (p7 v v1 v2)]; exact fo w v v1 v2 (by omega) (by omega) e
    · rw [if_neg c1, if_neg (by decide)]
      left
      exact ⟨Ap0_ne (fun j hj => mk_ne (by omega)), fun v v1 v2 => by rw [wt_ne (mk_ne (by omega))]; exact Int.le_refl _⟩
  · have v2 : coM M (c / 100) (c / 10 % 10) (c % 10) t = acM M (c / 10 % 10) t 0 := by unfold coM; rw [g, if_neg (show ¬ (3 : Int) = 0 by decide), if_neg (show ¬ (3 : Int) = 1 by decide), if_neg (show ¬ (3 : Int) = 2 by decide)]
    rw [v2]
    obtain ⟨w, hw⟩ : ∃ w, w = c / 10 % 10 := ⟨_, rfl⟩
    rw [← hw]
    left
    unfold acM
    by_cases c1 : M (8 + 15 * w + 9) = t + 1
    · rw [if_pos c1, if_pos rfl]
      have an : ∀ j : Int, ¬ j = 8 + 15 * w + 13 → ¬ j = 8 + 15 * w + 14 → awM (frM M w) w 5 j = frM M w j := fun j j1 j2 => by unfold awM; rw [up_ne j2, up_ne j1]
      refine ⟨Ap0_ne (fun j hj => by rw [an j (by omega) (by omega), fn w j (by omega) (by omega)]), fun v v1 v2 => ?_⟩
      rw [wt_ne (an (8 + 15 * v + 9) (by omega) (by omega))]
      by_cases e : v = w
      · rw [e, fw]; exact (wt_b M w).1
      · rw [fo w v v1 v2 (by omega) (by omega) e]; exact Int.le_refl _
    · rw [if_neg c1, if_pos rfl]
      exact ⟨Ap0_refl M, fun v v1 v2 => Int.le_refl _⟩
