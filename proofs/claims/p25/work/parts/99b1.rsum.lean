/-! PAYMENTS told by windows and by tickets: what is called back is no more than was paid -/
def dP (M : Int → Int) (w : Int) : Int := sm (fun k => pyI M w (k : Int)) 600 - M (8 + 15 * w + 12)
def DPe (M M' : Int → Int) : Prop := ∀ v : Int, 0 ≤ v → v < 3 → dP M' v = dP M v
set_option maxHeartbeats 4000000 in
set_option maxRecDepth 100000 in
theorem DPe_tr {M M' M'' : Int → Int} (h : DPe M M') (h' : DPe M' M'') : DPe M M'' := fun v v1 v2 => by rw [h' v v1 v2, h v v1 v2]
set_option maxHeartbeats 4000000 in
set_option maxRecDepth 100000 in
theorem DPe_eq {M M' : Int → Int} (hp : ∀ j : Int, 2033 ≤ j → j < 3833 → M' j = M j) (h : ∀ v : Int, 0 ≤ v → v < 3 → M' (8 + 15 * v + 12) = M (8 + 15 * v + 12)) : DPe M M' := fun v v1 v2 => by
  unfold dP
  rw [h v v1 v2]
  congr 1
  exact sm_congr (fun k hk => by unfold pyI; rw [hp _ (by omega) (by omega)])
set_option maxHeartbeats 4000000 in
set_option maxRecDepth 100000 in
theorem DPe_pay {M : Int → Int} {w t : Int} (hw : 0 ≤ w ∧ w < 3) (ht : 0 ≤ t ∧ t < 600) (hn : 0 ≤ M 2 ∧ M 2 ≤ 200) (h0 : 0 ≤ M 0) (hp : pd M w t = 0) : DPe M (payM M w t) := by
  have e : ∀ v s : Int, 0 ≤ v → v < 3 → 0 ≤ s → s < 600 → pyI (payM M w t) v s = if v = w ∧ s = t then 1 else pyI M v s := fun v s v1 v2 s1 s2 => by
    unfold pyI
    rw [pay_f hw ht hn (by omega) (by omega)]
    by_cases c : v = w ∧ s = t
    · rw [if_pos c, c.1, c.2]
      have q : payM1 M w t (2033 + 600 * w + t) = M 0 + 1 := by
        unfold payM1
        rw [mk_ne (by omega)]
        unfold payM0 moM
        rw [up_eq rfl, up_ne (by omega), up_ne (by omega)]
      rw [q, if_pos (by omega)]
    · rw [if_neg c, payM1_ne (by omega) (by omega) (by omega) (by omega)]
  intro v v1 v2
  unfold dP
  rw [pay_f hw ht hn (by omega) (by omega)]
  by_cases c : v = w
  · subst c
    have e12 : payM1 M v t (8 + 15 * v + 12) = M (8 + 15 * v + 12) + 1 := by
      unfold payM1
      rw [mk_ne (by omega)]
      unfold payM0 moM
      rw [up_ne (by omega), up_eq rfl, up_ne (by omega)]
    have e1 : sm (fun k => pyI (payM M v t) v (k : Int)) 600 = sm (fun k => if k = t.toNat then 1 else pyI M v (k : Int)) 600 := sm_congr (fun k hk => by
      rw [e v _ v1 v2 (by omega) (by omega)]
      by_cases q : k = t.toNat
      · rw [if_pos q, if_pos ⟨rfl, by omega⟩]
      · rw [if_neg q, if_neg (fun r => by have := r.2; omega)])
    have e2 : ((t.toNat : Nat) : Int) = t := by omega
    have e3 : pyI M v t = 0 := by unfold pyI; unfold pd at hp; rw [hp]; rfl
    rw [e12, e1, sm_upd _ _ (show t.toNat < 600 by omega), e2, e3]
    omega
  · rw [payM1_ne (by omega) (by omega) (by omega) (by omega)]
    have e1 : sm (fun k => pyI (payM M w t) v (k : Int)) 600 = sm (fun k => pyI M v (k : Int)) 600 := sm_congr (fun k hk => by
      rw [e v _ v1 v2 (by omega) (by omega), if_neg (fun r => c r.1)])
    rw [e1]
set_option maxHeartbeats 4000000 in
set_option maxRecDepth 100000 in
theorem DPe_co {M : Int → Int} {c t : Int} (hn : 0 ≤ M 2 ∧ M 2 ≤ 200) (h0 : 0 ≤ M 0) (hc : 0 ≤ c ∧ c / 100 ≤ 3 ∧ c / 10 % 10 < 3 ∧ c % 10 < 3) (ht : 0 ≤ t ∧ t < 600) (hI : ∀ w : Int, 0 ≤ w → w < 3 → M (8 + 15 * w + 9) = t + 1 → pd M w t = 0) : DPe M (coM M (c / 100) (c / 10 % 10) (c % 10) t) := by
  have fn : ∀ w j : Int, ¬ j = 8 + 15 * w + 9 → ¬ j = 8 + 15 * w + 10 → frM M w j = M j := fun w j j1 j2 => by unfold frM; rw [up_ne j2, up_ne j1]
  have hk : 0 ≤ c / 10 % 10 := by omega
  have hk2 : 0 ≤ c % 10 := by omega
  generalize c / 10 % 10 = w at *
  generalize c % 10 = f at *
  unfold coM
  split
  · exact DPe_eq (fun j j1 j2 => mc_at (by omega) (by omega) (by omega)) (fun v v1 v2 => mc_at (by omega) (by omega) (by omega))
  · split
    · have hq : ∀ j : Int, ¬ j = 2 → (j < 65 ∨ 1433 ≤ j) → qcM M w f t j = M j := by
        intro j j1 j2
        have m2e : mkM M t 1 1 2 = M 2 := mk_ne (by omega)
        unfold qcM
        split
        · split
          · rw [sd_ne j1 (by rw [m2e]; omega), mk_ne (by omega)]
          · exact sd_ne j1 (by omega)
        · exact sd_ne j1 (by omega)
      exact DPe_eq (fun j j1 j2 => hq j (by omega) (by omega)) (fun v v1 v2 => hq _ (by omega) (by omega))
    · split
      · unfold acM
        by_cases c1 : M (8 + 15 * w + 9) = t + 1
        · rw [if_pos c1, if_neg (by decide)]
          have f2 : frM M w 2 = M 2 := fn w 2 (by omega) (by omega)
          have f0 : frM M w 0 = M 0 := fn w 0 (by omega) (by omega)
          refine DPe_tr (DPe_eq (fun j j1 j2 => fn w j (by omega) (by omega)) (fun v v1 v2 => fn w _ (by omega) (by omega))) (DPe_pay (by omega) ht (by rw [f2]; exact hn) (by rw [f0]; exact h0) ?_)
          have q := hI w (by omega) (by omega) c1
          unfold pd at q ⊢
          rw [fn w _ (by omega) (by omega)]
          exact q
        · rw [if_neg c1, if_neg (by decide)]
          exact DPe_eq (fun j j1 j2 => mk_ne (by omega)) (fun v v1 v2 => mk_ne (by omega))
      · unfold acM
        by_cases c1 : M (8 + 15 * w + 9) = t + 1
        · rw [if_pos c1, if_pos rfl]
          have an : ∀ j : Int, ¬ j = 8 + 15 * w + 13 → ¬ j = 8 + 15 * w + 14 → awM (frM M w) w 5 j = frM M w j := fun j j1 j2 => by unfold awM; rw [up_ne j2, up_ne j1]
          exact DPe_eq (fun j j1 j2 => by rw [an j (by omega) (by omega), fn w j (by omega) (by omega)]) (fun v v1 v2 => by rw [an _ (by omega) (by omega), fn w _ (by omega) (by omega)])
        · rw [if_neg c1, if_pos rfl]
          exact DPe_eq (fun j j1 j2 => rfl) (fun v v1 v2 => rfl)
set_option maxHeartbeats 4000000 in
set_option maxRecDepth 100000 in
theorem RI_aw {M : Int → Int} (h : RI M) {t : Int} (ht : 0 ≤ t ∧ t < 600) : ∀ w : Int, 0 ≤ w → w < 3 → M (8 + 15 * w + 9) = t + 1 → pd M w t = 0 := fun w w1 w2 q => ((h t w ht.1 ht.2 w1 w2).2.2.1 q).1
set_option maxHeartbeats 4000000 in
set_option maxRecDepth 100000 in
theorem DPe_m1 {O : Of} {M : Int → Int} (h : RR O M) (hC : RC M) : ∀ j : Nat, j ≤ nM M → DPe M (m1 M j)
  | 0, _ => DPe_eq (fun _ _ _ => rfl) (fun _ _ _ => rfl)
  | j + 1, hj => by
    have ih := DPe_m1 h hC j (by omega)
    obtain ⟨a1, a2, a3, a4, a5, a6⟩ := DL h hC j (by omega)
    have hn := h.2.2.2.2.1.1
    have en : ((nM M : Nat) : Int) = M 2 := by unfold nM; omega
    have hb := RJ_n a2
    have hT := a1.2.2.2.2.2.2.1.1.2.1
    obtain ⟨⟨b1, b2, b3, b4⟩, -⟩ := a1.2.2.2.2.1.2.2 (j : Int) (by omega) (by omega)
    have e2 : m1 M (j + 1) = if m1 M j (65 + 3 * (j : Int)) = m1 M j 0 then coM (m1 M j) (m1 M j (65 + 3 * (j : Int) + 1) / 100) (m1 M j (65 + 3 * (j : Int) + 1) / 10 % 10) (m1 M j (65 + 3 * (j : Int) + 1) % 10) (m1 M j (65 + 3 * (j : Int) + 2)) else m1 M j := rfl
    rw [e2]
    split
    · exact DPe_tr ih (DPe_co (by omega) hT b2 b3 (RI_aw a1.2.2.2.2.2.2.2 b3))
    · exact ih
set_option maxHeartbeats 4000000 in
set_option maxRecDepth 100000 in
theorem DPe_wa {O : Of} {M : Int → Int} {w : Int} (h : RR O M) (hw : 0 ≤ w ∧ w < 3) : DPe M (waM M w) := by
  have g := RR_sv1 h hw
  have hn := h.2.2.2.2.1.1
  have an : ∀ j : Int, ¬ j = 8 + 15 * w + 9 → ¬ j = 8 + 15 * w + 10 → ¬ j = 8 + 15 * w + 13 → ¬ j = 8 + 15 * w + 14 → wa1 M w j = M j := fun j j1 j2 j3 j4 => by
    unfold wa1
    split
    · unfold awM frM
      rw [up_ne j4, up_ne j3, up_ne j2, up_ne j1]
    · rfl
  have a0 : DPe M (wa1 M w) := DPe_eq (fun j j1 j2 => an j (by omega) (by omega) (by omega) (by omega)) (fun v v1 v2 => an _ (by omega) (by omega) (by omega) (by omega))
  have a2 := an 2 (by omega) (by omega) (by omega) (by omega)
  unfold waM
  refine DPe_tr a0 ?_
  generalize wa1 M w = P at *
  generalize sv1O O w = X at *
  by_cases c : P (8 + 15 * w + 9) = 0 ∧ 0 < P (8 + 15 * w)
  · rw [if_pos c]
    have ht := (g.2.2.2.1 w hw.1 hw.2).2.2.1 0 (by omega) (by omega)
    rw [Int.add_zero] at ht
    have tn : ∀ j : Int, (j < 8 + 15 * w ∨ 8 + 15 * w + 8 < j) → toM P w j = P j := fun j hj => to_ne hj
    have go := RR_out g hw c.2
    refine DPe_tr (DPe_eq (fun j j1 j2 => tn j (by omega)) (fun v v1 v2 => tn _ (by omega))) ?_
    have t2 := tn 2 (by omega)
    unfold svM
    generalize P (8 + 15 * w + 1) = t at *
    generalize toM P w = T at *
    have hb := re_b T w t
    by_cases r : 0 < reM T w t
    · rw [if_pos r]
      have aw : ∀ j : Int, ¬ j = 8 + 15 * w + 13 → ¬ j = 8 + 15 * w + 14 → awM T w (reM T w t) j = T j := fun j j1 j2 => by unfold awM; rw [up_ne j2, up_ne j1]
      exact DPe_eq (fun j j1 j2 => aw j (by omega) (by omega)) (fun v v1 v2 => aw _ (by omega) (by omega))
    · rw [if_neg r]
      split
      · exact DPe_eq (fun j j1 j2 => by rw [up_ne (by omega), up_ne (by omega), sd_ne (by omega) (by omega)]) (fun v v1 v2 => by rw [up_ne (by omega), up_ne (by omega), sd_ne (by omega) (by omega)])
      · have q := (re_0 (M := T) (w := w) (t := t) (by omega)).2
        have k1 := (go.2.2.2.2.2.2.2 t w ht.1 ht.2 hw.1 hw.2).1
        have k2 := ((go.2.2.1 t ht.1 ht.2).2.1 w hw.1 hw.2).1.1
        refine DPe_pay hw ht (by omega) go.2.2.2.2.2.2.1.1.2.1 ?_
        rcases Int.lt_or_le 0 (pd T w t) with z | z
        · exact absurd (k1 z).1 q
        · omega
  · rw [if_neg c]
    exact DPe_eq (fun _ _ _ => rfl) (fun _ _ _ => rfl)
set_option maxHeartbeats 4000000 in
set_option maxRecDepth 100000 in
theorem DPe_tick {O : Of} {M : Int → Int} (h : T1 O M) : DPe M (tkM M (nT M)) := by
  obtain ⟨r0, r1, r2, r3, s3, p3, -, e0, e4⟩ := tick_way h
  obtain ⟨-, -, -, ej⟩ := RR_brought h.1 h.2.1
  have k0 := DPe_m1 h.1 h.2.1 (nM M) (Nat.le_refl _)
  have k1 : DPe (mD M) (mE M) := DPe_eq (fun j j1 j2 => ej j (by omega) (by omega)) (fun v v1 v2 => ej _ (by omega) (by omega))
  have k2 := DPe_wa (w := 0) r0 (by omega)
  have k3 := DPe_wa (w := 1) r1 (by omega)
  have k4 := DPe_wa (w := 2) r2 (by omega)
  rw [tk_x]
  exact DPe_tr k0 (DPe_tr k1 (DPe_tr k2 (DPe_tr k3 (DPe_tr k4 (DPe_eq (fun j j1 j2 => by rw [tn_ne 3 (fun i _ => by omega), up_ne (by omega), cs_ne (by omega) (by omega)]) (fun v v1 v2 => by rw [tn_ne 3 (fun i _ => by omega), up_ne (by omega), cs_ne (by omega) (by omega)]))))))
set_option maxHeartbeats 4000000 in
set_option maxRecDepth 100000 in
theorem DPe_ticks {O : Of} {M : Int → Int} (h : T1 O M) : ∀ k : Nat, M 0 + k ≤ 20000 → DPe M (pvM M k)
  | 0, _ => DPe_eq (fun _ _ _ => rfl) (fun _ _ _ => rfl)
  | k + 1, hk => DPe_tr (DPe_ticks h k (by omega)) (DPe_tick (TICKS h k (by omega)).1)
/- the invariant: accounts of payments agree -/
def SP (M : Int → Int) : Prop := ∀ v : Int, 0 ≤ v → v < 3 → dP M v = 0
set_option maxHeartbeats 4000000 in
set_option maxRecDepth 100000 in
theorem SP_e {M M' : Int → Int} (h : SP M) (h' : DPe M M') : SP M' := fun v v1 v2 => by rw [h' v v1 v2, h v v1 v2]
set_option maxHeartbeats 4000000 in
set_option maxRecDepth 100000 in
theorem cb_py {O : Of} {M : Int → Int} (h : RR O M) (hs : SP M) : 0 ≤ cbA M ∧ cbA M ≤ pyS M := by
  have d0 := hs 0 (by omega) (by omega)
  have d1 := hs 1 (by omega) (by omega)
  have d2 := hs 2 (by omega) (by omega)
  unfold dP at d0 d1 d2
  simp only [Int.reduceMul, Int.reduceAdd, Int.mul_zero, Int.add_zero, Int.mul_one] at d0 d1 d2
  have e : ∀ s : Int, cbC M s = qb M s (5 + (0 : Int)).toNat + qb M s (5 + (1 : Int)).toNat + qb M s (5 + (2 : Int)).toNat := fun s => by
    unfold cbC
    simp only [sm, Int.ofNat_zero, Int.zero_add]
    rfl
  have hq : ∀ w s : Int, 0 ≤ w → w < 3 → 0 ≤ s → s < 600 → qb M s (5 + w).toNat ≤ pyI M w s := fun w s w1 w2 s1 s2 => by
    have a := (h.2.2.2.2.2.2.2 s w s1 s2 w1 w2).2.1
    have q := qb_01 M s (5 + w).toNat
    unfold pyI
    rcases q with q | q
    · rw [q]; split <;> omega
    · have c := a q
      rw [q, if_pos c]; exact Int.le_refl _
  have le : cbA M ≤ sm (fun k => pyI M 0 (k : Int) + pyI M 1 (k : Int) + pyI M 2 (k : Int)) 600 := sm_le (fun k hk => by
    rw [e]
    have a := hq 0 (k : Int) (by omega) (by omega) (by omega) (by omega)
    have b := hq 1 (k : Int) (by omega) (by omega) (by omega) (by omega)
    have c := hq 2 (k : Int) (by omega) (by omega) (by omega) (by omega)
    omega)
  rw [sm_lin, sm_lin] at le
  have lo := sm_b (f := fun k => cbC M (k : Int)) (c := 3) (by omega) 600 (fun k _ => by
    have q0 := qb_01 M (k : Int) (5 + (0 : Int)).toNat
    have q1 := qb_01 M (k : Int) (5 + (1 : Int)).toNat
    have q2 := qb_01 M (k : Int) (5 + (2 : Int)).toNat
    rw [e]
    omega)
  unfold cbA at le ⊢
  unfold pyS
  omega
