/-! COINS never fall as ticks pass -/
def CoM (M M' : Int → Int) : Prop := ∀ v : Int, 0 ≤ v → v < 3 → M (8 + 15 * v + 11) ≤ M' (8 + 15 * v + 11)
set_option maxHeartbeats 4000000 in
set_option maxRecDepth 100000 in
theorem CoM_tr {M M' M'' : Int → Int} (h : CoM M M') (h' : CoM M' M'') : CoM M M'' := fun v v1 v2 => Int.le_trans (h v v1 v2) (h' v v1 v2)
set_option maxHeartbeats 4000000 in
set_option maxRecDepth 100000 in
theorem CoM_eq {M M' : Int → Int} (h : ∀ v : Int, 0 ≤ v → v < 3 → M' (8 + 15 * v + 11) = M (8 + 15 * v + 11)) : CoM M M' := fun v v1 v2 => by rw [h v v1 v2]; exact Int.le_refl _
set_option maxHeartbeats 4000000 in
set_option maxRecDepth 100000 in
theorem CoM_pay {M : Int → Int} {w t : Int} (hw : 0 ≤ w ∧ w < 3) (ht : 0 ≤ t ∧ t < 600) (hn : 0 ≤ M 2 ∧ M 2 ≤ 200) : CoM M (payM M w t) := by
  have hp := prz_b M ht
  intro v v1 v2
  rw [pay_f hw ht hn (by omega) (by omega)]
  by_cases e : v = w
  · subst e
    have e11 : payM1 M v t (8 + 15 * v + 11) = M (8 + 15 * v + 11) + przM M t := by
      unfold payM1
      rw [mk_ne (by omega)]
      unfold payM0 moM
      rw [up_ne (by omega), up_ne (by omega), up_eq rfl]
    omega
  · rw [payM1_ne (by omega) (by omega) (by omega) (by omega)]
    exact Int.le_refl _
set_option maxHeartbeats 4000000 in
set_option maxRecDepth 100000 in
theorem CoM_co {M : Int → Int} {c t : Int} (hn : 0 ≤ M 2 ∧ M 2 ≤ 200) (hc : 0 ≤ c ∧ c / 100 ≤ 3 ∧ c / 10 % 10 < 3 ∧ c % 10 < 3) (ht : 0 ≤ t ∧ t < 600) : CoM M (coM M (c / 100) (c / 10 % 10) (c % 10) t) := by
  have fn : ∀ w j : Int, ¬ j = 8 + 15 * w + 9 → ¬ j = 8 + 15 * w + 10 → frM M w j = M j := fun w j j1 j2 => by unfold frM; rw [up_ne j2, up_ne j1]
  have hk : 0 ≤ c / 10 % 10 := by omega
  have hk2 : 0 ≤ c % 10 := by omega
  generalize c / 10 % 10 = w at *
  generalize c % 10 = f at *
  unfold coM
  split
  · exact CoM_eq (fun v v1 v2 => mc_at (by omega) (by omega) (by omega))
  · split
    · refine CoM_eq (fun v v1 v2 => ?_)
      have m2e : mkM M t 1 1 2 = M 2 := mk_ne (by omega)
      unfold qcM
      split
      · split
        · rw [sd_ne (by omega) (by rw [m2e]; omega), mk_ne (by omega)]
        · exact sd_ne (by omega) (by omega)
      · exact sd_ne (by omega) (by omega)
    · split
      · unfold acM
        by_cases c1 : M (8 + 15 * w + 9) = t + 1
        · rw [if_pos c1, if_neg (by decide)]
          have f2 : frM M w 2 = M 2 := fn w 2 (by omega) (by omega)
          exact CoM_tr (CoM_eq (fun v v1 v2 => fn w _ (by omega) (by omega))) (CoM_pay (by omega) ht (by rw [f2]; exact hn))
        · rw [if_neg c1, if_neg (by decide)]
          exact CoM_eq (fun v v1 v2 => mk_ne (by omega))
      · unfold acM
        by_cases c1 : M (8 + 15 * w + 9) = t + 1
        · rw [if_pos c1, if_pos rfl]
          refine CoM_eq (fun v v1 v2 => ?_)
          unfold awM
          rw [up_ne (by omega), up_ne (by omega), fn w _ (by omega) (by omega)]
        · rw [if_neg c1, if_pos rfl]
          exact CoM_eq (fun v v1 v2 => rfl)
set_option maxHeartbeats 4000000 in
set_option maxRecDepth 100000 in
theorem CoM_m1 {O : Of} {M : Int → Int} (h : RR O M) (hC : RC M) : ∀ j : Nat, j ≤ nM M → CoM M (m1 M j)
  | 0, _ => CoM_eq (fun _ _ _ => rfl)
  | j + 1, hj => by
    have ih := CoM_m1 h hC j (by omega)
    obtain ⟨a1, a2, a3, a4, a5, a6⟩ := DL h hC j (by omega)
    have hn := h.2.2.2.2.1.1
    have en : ((nM M : Nat) : Int) = M 2 := by unfold nM; omega
    have hb := RJ_n a2
    obtain ⟨⟨b1, b2, b3, b4⟩, -⟩ := a1.2.2.2.2.1.2.2 (j : Int) (by omega) (by omega)
    have e2 : m1 M (j + 1) = if m1 M j (65 + 3 * (j : Int)) = m1 M j 0 then coM (m1 M j) (m1 M j (65 + 3 * (j : Int) + 1) / 100) (m1 M j (65 + 3 * (j : Int) + 1) / 10 % 10) (m1 M j (65 + 3 * (j : Int) + 1) % 10) (m1 M j (65 + 3 * (j : Int) + 2)) else m1 M j := rfl
    rw [e2]
    split
    · exact CoM_tr ih (CoM_co (by omega) b2 b3)
    · exact ih
set_option maxHeartbeats 4000000 in
set_option maxRecDepth 100000 in
theorem CoM_wa {O : Of} {M : Int → Int} {w : Int} (h : RR O M) (hw : 0 ≤ w ∧ w < 3) : CoM M (waM M w) := by
  have g := RR_sv1 h hw
  have hn := h.2.2.2.2.1.1
  have an : ∀ j : Int, ¬ j = 8 + 15 * w + 9 → ¬ j = 8 + 15 * w + 10 → ¬ j = 8 + 15 * w + 13 → ¬ j = 8 + 15 * w + 14 → wa1 M w j = M j := fun j j1 j2 j3 j4 => by
    unfold wa1
    split
    · unfold awM frM
      rw [up_ne j4, up_ne j3, up_ne j2, up_ne j1]
    · rfl
  have a0 : CoM M (wa1 M w) := CoM_eq (fun v v1 v2 => an _ (by omega) (by omega) (by omega) (by omega))
  have a2 := an 2 (by omega) (by omega) (by omega) (by omega)
  unfold waM
  refine CoM_tr a0 ?_
  generalize wa1 M w = P at *
  by_cases c : P (8 + 15 * w + 9) = 0 ∧ 0 < P (8 + 15 * w)
  · rw [if_pos c]
    have ht := (g.2.2.2.1 w hw.1 hw.2).2.2.1 0 (by omega) (by omega)
    rw [Int.add_zero] at ht
    have tn : ∀ j : Int, (j < 8 + 15 * w ∨ 8 + 15 * w + 8 < j) → toM P w j = P j := fun j hj => to_ne hj
    refine CoM_tr (CoM_eq (fun v v1 v2 => tn _ (by omega))) ?_
    have t2 := tn 2 (by omega)
    unfold svM
    generalize toM P w = T at *
    split
    · refine CoM_eq (fun v v1 v2 => ?_)
      unfold awM
      rw [up_ne (by omega), up_ne (by omega)]
    · split
      · refine CoM_eq (fun v v1 v2 => ?_)
        rw [up_ne (by omega), up_ne (by omega), sd_ne (by omega) (by omega)]
      · exact CoM_pay hw ht (by omega)
  · rw [if_neg c]
    exact CoM_eq (fun _ _ _ => rfl)
set_option maxHeartbeats 4000000 in
set_option maxRecDepth 100000 in
theorem CoM_tick {O : Of} {M : Int → Int} (h : T1 O M) : CoM M (tkM M (nT M)) := by
  obtain ⟨r0, r1, r2, r3, s3, p3, -, e0, e4⟩ := tick_way h
  obtain ⟨-, -, -, ej⟩ := RR_brought h.1 h.2.1
  have k0 := CoM_m1 h.1 h.2.1 (nM M) (Nat.le_refl _)
  have k1 : CoM (mD M) (mE M) := CoM_eq (fun v v1 v2 => ej _ (by omega) (by omega))
  have k2 := CoM_wa (w := 0) r0 (by omega)
  have k3 := CoM_wa (w := 1) r1 (by omega)
  have k4 := CoM_wa (w := 2) r2 (by omega)
  rw [tk_x]
  refine CoM_tr k0 (CoM_tr k1 (CoM_tr k2 (CoM_tr k3 (CoM_tr k4 (CoM_eq (fun v v1 v2 => ?_))))))
  rw [tn_ne 3 (fun i _ => by omega), up_ne (by omega), cs_ne (by omega) (by omega)]
set_option maxHeartbeats 4000000 in
set_option maxRecDepth 100000 in
theorem CoM_ticks {O : Of} {M : Int → Int} (h : T1 O M) : ∀ k : Nat, M 0 + k ≤ 20000 → CoM M (pvM M k)
  | 0, _ => CoM_eq (fun _ _ _ => rfl)
  | k + 1, hk => CoM_tr (CoM_ticks h k (by omega)) (CoM_tick (TICKS h k (by omega)).1)
set_option maxHeartbeats 4000000 in
set_option maxRecDepth 100000 in
theorem coS_b {O : Of} {M : Int → Int} (h : T1 O M) : 0 ≤ coS M ∧ coS M ≤ 1200 * M 0 := by
  have a0 := h.2.2.1 0 (by omega) (by omega)
  have a1 := h.2.2.1 1 (by omega) (by omega)
  have a2 := h.2.2.1 2 (by omega) (by omega)
  have w0 := wt_b M 0
  have w1 := wt_b M 1
  have w2 := wt_b M 2
  simp only [Int.reduceMul, Int.reduceAdd, Int.mul_zero, Int.add_zero, Int.mul_one] at a0 a1 a2
  unfold coS
  omega
/- passing time: what is told, and the relation -/
set_option maxHeartbeats 4000000 in
set_option maxRecDepth 100000 in
theorem s3_coS {O : Of} {M : Int → Int} (h : RW O M) : s3 (O 14) = coS M := by
  have a0 := (h 0 (by omega) (by omega)).2.2.2.2.2.1
  have a1 := (h 1 (by omega) (by omega)).2.2.2.2.2.1
  have a2 := (h 2 (by omega) (by omega)).2.2.2.2.2.1
  unfold s3 coS
  rw [a0, a1, a2]
  simp only [Int.reduceMul, Int.reduceAdd, Int.mul_zero, Int.add_zero, Int.mul_one]
set_option maxHeartbeats 4000000 in
set_option maxRecDepth 100000 in
theorem PASS {O : Of} {M : Int → Int} {t : Int} (h : T1 O M) (h9 : M 0 ≤ 9999) : paW O t = paR M t ∧ T1 (paO O t) (paM M t) ∧ paM M t 0 ≤ 9999 ∧ tdR (paR M t) ∧ (paR M t < 0 → paM M t = M ∧ paO O t = O) := by
  have e0 : O 0 0 = M 0 := h.1.2.2.2.2.2.2.1.1.1
  unfold paW paR paO paM tdR
  rw [e0]
  by_cases c1 : 1 ≤ t ∧ t ≤ 99
  · rw [if_pos c1, if_pos c1, if_pos c1, if_pos c1]
    by_cases c3 : 9999 < M 0 + t
    · rw [if_pos c3, if_pos c3, if_pos c3, if_pos c3]
      exact ⟨rfl, h, h9, by decide, fun _ => ⟨rfl, rfl⟩⟩
    · rw [if_neg c3, if_neg c3, if_neg c3, if_neg c3]
      have q := TICKS h t.toNat (by omega)
      have m := CoM_ticks h t.toNat (by omega)
      have b := coS_b q.1
      have b0 := coS_b h
      have m0 := m 0 (by omega) (by omega)
      have m1 := m 1 (by omega) (by omega)
      have m2 := m 2 (by omega) (by omega)
      simp only [Int.reduceMul, Int.reduceAdd, Int.mul_zero, Int.add_zero, Int.mul_one] at m0 m1 m2
      have hm : coS M ≤ coS (pvM M t.toNat) := by unfold coS; omega
      refine ⟨by rw [s3_coS q.1.1.2.2.2.1, s3_coS h.1.2.2.2.1], q.1, by rw [q.2]; omega, by omega, fun r => by omega⟩
  · rw [if_neg c1, if_neg c1, if_neg c1, if_neg c1]
    exact ⟨rfl, h, h9, by decide, fun _ => ⟨rfl, rfl⟩⟩
