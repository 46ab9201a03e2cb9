/-! THE RELATION is kept as all messages of a tick are delivered -/
def RC (M : Int → Int) : Prop := (∀ w d : Int, 0 ≤ w → w < 3 → M 0 ≤ d → d ≤ M 0 + 9 → cm (gM w d) M (nM M) + 2 * wt M w ≤ 2 * (M 0 - d + 10) ∧ cm (gQ w d) M (nM M) ≤ M 0 - d + 9 ∧ cm (gR w d) M (nM M) + cm (gQ w (M 0)) M (nM M) ≤ M 0 - d + 18) ∧ ∀ i : Int, 0 ≤ i → i < M 2 → M (65 + 3 * i) ≤ M 0 + 8
set_option maxHeartbeats 4000000 in
set_option maxRecDepth 100000 in
theorem sm_lin (f g : Nat → Int) : ∀ n : Nat, sm (fun i => f i + g i) n = sm f n + sm g n
  | 0 => rfl
  | n + 1 => by
    rw [sm_s, sm_s, sm_s, sm_lin f g n]
    omega
set_option maxHeartbeats 4000000 in
set_option maxRecDepth 100000 in
theorem sm_one : ∀ n : Nat, sm (fun _ => (1 : Int)) n = n
  | 0 => rfl
  | n + 1 => by
    rw [sm_s, sm_one n]
    omega
set_option maxHeartbeats 4000000 in
set_option maxRecDepth 100000 in
theorem part1 {T D C : Int} {i : Nat} (hD : T ≤ D) (hC : 0 ≤ C ∧ C / 100 ≤ 3 ∧ C / 10 % 10 < 3 ∧ C % 10 < 3) : 1 ≤ gM 0 T i D C + gM 1 T i D C + gM 2 T i D C + (gQ 0 T i D C + gQ 1 T i D C + gQ 2 T i D C) + (gR 0 T i D C + gR 1 T i D C + gR 2 T i D C) := by
  unfold gM gQ gR
  have e : ∀ q : Prop, (q ∧ T ≤ D) = q := fun q => propext ⟨fun h => h.1, fun h => ⟨h, hD⟩⟩
  obtain ⟨h1, h2, h3, h4⟩ := hC
  have h5 : 0 ≤ C / 10 % 10 := by omega
  have h6 : 0 ≤ C % 10 := by omega
  have h7 : 0 ≤ C / 100 := by omega
  generalize C / 10 % 10 = x at *
  generalize C % 10 = y at *
  generalize C / 100 = k at *
  repeat' split
  all_goals omega
set_option maxHeartbeats 4000000 in
set_option maxRecDepth 100000 in
theorem part2 {T D C : Int} {i : Nat} (hC : C % 10 < 3) (h0 : 0 ≤ C) : gU T 0 i D C ≤ gQ 0 T i D C + gQ 1 T i D C + gQ 2 T i D C := by
  unfold gU gQ
  have h6 : 0 ≤ C % 10 := by omega
  generalize C % 10 = y at *
  repeat' split
  all_goals omega
set_option maxHeartbeats 4000000 in
set_option maxRecDepth 100000 in
theorem RJ_0 {O : Of} {M : Int → Int} (h : RR O M) (hC : RC M) : RJ M 0 := by
  obtain ⟨hn, h18, hv⟩ := h.2.2.2.2.1
  have en : ((nM M : Nat) : Int) = M 2 := by unfold nM; omega
  have hk : ∀ k : Nat, k < nM M → MsV M (k : Int) := fun k hk => (hv k (by omega) (by omega)).1
  have eP : ∀ w : Int, cm (gP w (M 0) 0) M (nM M) = cm (gQ w (M 0)) M (nM M) := fun w => sm_congr (fun k hk2 => by
    have v := (hk k hk2).1.1
    unfold gP gQ
    by_cases q : M (65 + 3 * (k : Int) + 1) / 100 = 1 ∧ M (65 + 3 * (k : Int) + 1) % 10 = w
    · rw [if_pos ⟨q.1, q.2, Or.inr (Nat.zero_le _)⟩, if_pos ⟨q.1, q.2, v⟩]
    · rw [if_neg (fun r => q ⟨r.1, r.2.1⟩), if_neg (fun r => q ⟨r.1, r.2.1⟩)])
  refine ⟨fun w d w1 w2 d1 d2 => ?_, ?_⟩
  · rw [eP]
    exact hC.1 w d w1 w2 (by omega) d2
  · have a0 := hC.1 0 (M 0) (by omega) (by omega) (by omega) (by omega)
    have a1 := hC.1 1 (M 0) (by omega) (by omega) (by omega) (by omega)
    have a2 := hC.1 2 (M 0) (by omega) (by omega) (by omega) (by omega)
    have p1 : ((nM M : Nat) : Int) ≤ cm (gM 0 (M 0)) M (nM M) + cm (gM 1 (M 0)) M (nM M) + cm (gM 2 (M 0)) M (nM M) + (cm (gQ 0 (M 0)) M (nM M) + cm (gQ 1 (M 0)) M (nM M) + cm (gQ 2 (M 0)) M (nM M)) + (cm (gR 0 (M 0)) M (nM M) + cm (gR 1 (M 0)) M (nM M) + cm (gR 2 (M 0)) M (nM M)) := by
      rw [← sm_one (nM M)]
      unfold cm
      rw [← sm_lin, ← sm_lin, ← sm_lin, ← sm_lin, ← sm_lin, ← sm_lin, ← sm_lin, ← sm_lin]
      exact sm_le (fun k hk2 => part1 (hk k hk2).1.1 (hk k hk2).2.1)
    have p2 : cm (gU (M 0) 0) M (nM M) ≤ cm (gQ 0 (M 0)) M (nM M) + cm (gQ 1 (M 0)) M (nM M) + cm (gQ 2 (M 0)) M (nM M) := by
      unfold cm
      rw [← sm_lin, ← sm_lin]
      exact sm_le (fun k hk2 => part2 (hk k hk2).2.1.2.2.2 (hk k hk2).2.1.1)
    omega
set_option maxHeartbeats 4000000 in
set_option maxRecDepth 100000 in
theorem eff_0 {M M' : Int → Int} {c : Int} (h : Eff M M' c) : M' 0 = M 0 ∧ M' 6 = M 6 ∧ M 2 ≤ M' 2 ∧ M' 2 ≤ M 2 + 2 := by
  rcases h with ⟨a, -⟩ | ⟨-, b, a, -⟩ | ⟨w, M1, b1, b2, -, -, a1, a2, -⟩
  · exact ⟨a.1, a.2.1, by rw [a.2.2.1]; omega, by rw [a.2.2.1]; omega⟩
  · exact ⟨a.1, a.2.1, by rw [a.2.2.1]; omega, by rw [a.2.2.1]; omega⟩
  · exact ⟨by rw [a2.1, a1.1], by rw [a2.2.1, a1.2.1], by rw [a2.2.2.1, a1.2.2.1]; omega, by rw [a2.2.2.1, a1.2.2.1]; omega⟩
set_option maxHeartbeats 4000000 in
set_option maxRecDepth 100000 in
theorem ap1_due {M M' : Int → Int} {c lo : Int} (h : Ap1 M M' c) (hl : 0 ≤ lo) (h6 : 1 ≤ M 6) (hd : ∀ i : Int, lo ≤ i → i < M 2 → M 0 + 1 ≤ M (65 + 3 * i)) : ∀ i : Int, lo ≤ i → i < M' 2 → M' 0 + 1 ≤ M' (65 + 3 * i) := by
  intro i i1 i2
  rw [h.2.2.1] at i2
  rw [h.1]
  by_cases e : i = M 2
  · rw [e, h.2.2.2.2.1]; omega
  · rw [h.2.2.2.1 _ (by omega) (by omega)]; exact hd i i1 (by omega)
set_option maxHeartbeats 4000000 in
set_option maxRecDepth 100000 in
theorem eff_due {M M' : Int → Int} {c lo : Int} (h : Eff M M' c) (hl : 0 ≤ lo) (h6 : 1 ≤ M 6) (hd : ∀ i : Int, lo ≤ i → i < M 2 → M 0 + 1 ≤ M (65 + 3 * i)) : ∀ i : Int, lo ≤ i → i < M' 2 → M' 0 + 1 ≤ M' (65 + 3 * i) := by
  rcases h with ⟨a, -⟩ | ⟨-, b, a, -⟩ | ⟨w, M1, b1, b2, -, -, a1, a2, -⟩
  · intro i i1 i2
    rw [a.2.2.1] at i2
    rw [a.1, a.2.2.2 _ (by omega) (by omega)]
    exact hd i i1 i2
  · exact ap1_due a hl h6 hd
  · exact ap1_due a2 hl (by rw [a1.2.1]; exact h6) (ap1_due a1 hl h6 hd)
set_option maxHeartbeats 4000000 in
set_option maxRecDepth 100000 in
theorem DL {O : Of} {M : Int → Int} (h : RR O M) (hC : RC M) : ∀ j : Nat, j ≤ nM M → RR (bmI O j) (m1 M j) ∧ RJ (m1 M j) j ∧ m1 M j 0 = M 0 ∧ m1 M j 6 = M 6 ∧ M 2 ≤ m1 M j 2 ∧ ∀ i : Int, M 2 ≤ i → i < m1 M j 2 → m1 M j 0 + 1 ≤ m1 M j (65 + 3 * i)
  | 0, _ => ⟨h, RJ_0 h hC, rfl, rfl, Int.le_refl _, fun i i1 i2 => absurd i2 (by show ¬ i < M 2; omega)⟩
  | j + 1, hj => by
    obtain ⟨a1, a2, a3, a4, a5, a6⟩ := DL h hC j (by omega)
    have hn := h.2.2.2.2.1.1
    have en : ((nM M : Nat) : Int) = M 2 := by unfold nM; omega
    have hjn : (j : Int) < m1 M j 2 := by omega
    have hnj : j < nM (m1 M j) := by unfold nM; omega
    have hb := RJ_n a2
    have s6 := a1.2.2.2.2.2.2.1.2.2.2.2.2.1
    obtain ⟨⟨b1, b2, b3, b4⟩, -⟩ := a1.2.2.2.2.1.2.2 (j : Int) (by omega) hjn
    have g := RR_dlv (z := (j : Int)) a1 ⟨by omega, hjn⟩ (by omega)
    have e1 : bmI O (j + 1) = bmS (bmI O j) (j : Int) := rfl
    have e2 : m1 M (j + 1) = if m1 M j (65 + 3 * (j : Int)) = m1 M j 0 then coM (m1 M j) (m1 M j (65 + 3 * (j : Int) + 1) / 100) (m1 M j (65 + 3 * (j : Int) + 1) / 10 % 10) (m1 M j (65 + 3 * (j : Int) + 1) % 10) (m1 M j (65 + 3 * (j : Int) + 2)) else m1 M j := rfl
    rw [e1, e2]
    generalize m1 M j = P at *
    generalize bmI O j = X at *
    refine ⟨g, ?_⟩
    by_cases hd : P (65 + 3 * (j : Int)) = P 0
    · rw [if_pos hd]
      have hE := co_eff (M := P) (c := P (65 + 3 * (j : Int) + 1)) (t := P (65 + 3 * (j : Int) + 2)) (by omega) b2 b3
      have f0 := eff_0 hE
      exact ⟨RJ_eff a2 hnj (by omega) hd hE, by rw [f0.1, a3], by rw [f0.2.1, a4], by omega, eff_due hE (by omega) (by omega) a6⟩
    · rw [if_neg hd]
      exact ⟨RJ_next a2 hnj (by omega), a3, a4, a5, a6⟩
/- the row when all are delivered -/
def mD (M : Int → Int) : Int → Int := m1 M (nM M)
set_option maxHeartbeats 4000000 in
set_option maxRecDepth 100000 in
theorem m1_st {O : Of} {M : Int → Int} (h : RR O M) (hC : RC M) : ∀ d : Nat, ((nM M + d : Nat) : Int) ≤ mD M 2 → m1 M (nM M + d) = mD M
  | 0, _ => rfl
  | d + 1, hd => by
    have ih := m1_st h hC d (by omega)
    obtain ⟨a1, a2, a3, a4, a5, a6⟩ := DL h hC (nM M) (Nat.le_refl _)
    have hn := h.2.2.2.2.1.1
    have en : ((nM M : Nat) : Int) = M 2 := by unfold nM; omega
    show (if m1 M (nM M + d) (65 + 3 * ((nM M + d : Nat) : Int)) = m1 M (nM M + d) 0 then _ else m1 M (nM M + d)) = _
    rw [ih]
    have q := a6 ((nM M + d : Nat) : Int) (by omega) (by unfold mD at hd; omega)
    rw [if_neg (by unfold mD; omega)]
set_option maxHeartbeats 4000000 in
set_option maxRecDepth 100000 in
theorem nT_eq (M : Int → Int) : nT M = (mD M 2).toNat := rfl
set_option maxHeartbeats 4000000 in
set_option maxRecDepth 100000 in
theorem m1_nT {O : Of} {M : Int → Int} (h : RR O M) (hC : RC M) : m1 M (nT M) = mD M := by
  obtain ⟨a1, a2, a3, a4, a5, a6⟩ := DL h hC (nM M) (Nat.le_refl _)
  have hn := h.2.2.2.2.1.1
  have en : ((nM M : Nat) : Int) = M 2 := by unfold nM; omega
  obtain ⟨d, hd⟩ : ∃ d, nT M = nM M + d := ⟨nT M - nM M, by rw [nT_eq]; unfold mD; omega⟩
  rw [hd]
  refine m1_st h hC d ?_
  rw [← hd, nT_eq]
  unfold mD
  omega
set_option maxHeartbeats 4000000 in
set_option maxRecDepth 100000 in
theorem m1_any {O : Of} {M : Int → Int} (h : RR O M) (hC : RC M) {k : Nat} (hk : k ≤ nT M) : (k ≤ nM M ∨ m1 M k = mD M) := by
  by_cases c : k ≤ nM M
  · exact Or.inl c
  · right
    obtain ⟨d, hd⟩ : ∃ d, k = nM M + d := ⟨k - nM M, by omega⟩
    rw [hd]
    refine m1_st h hC d ?_
    rw [← hd]
    rw [nT_eq] at hk
    omega
/- payments and disputes stay small -/
def PB (M : Int → Int) (s : Int → Int) : Prop := ∀ v : Int, 0 ≤ v → v < 3 → 0 ≤ M (8 + 15 * v + 12) ∧ M (8 + 15 * v + 12) + wt M v ≤ M 0 + s v ∧ 0 ≤ M (8 + 15 * v + 11) ∧ M (8 + 15 * v + 11) ≤ 400 * M (8 + 15 * v + 12)
set_option maxHeartbeats 4000000 in
set_option maxRecDepth 100000 in
theorem PB_le {M M' : Int → Int} {s : Int → Int} (h : PB M s) (h0 : M' 0 = M 0) (hw : ∀ v : Int, 0 ≤ v → v < 3 → wt M' v ≤ wt M v) (h1 : ∀ v : Int, 0 ≤ v → v < 3 → M' (8 + 15 * v + 11) = M (8 + 15 * v + 11) ∧ M' (8 + 15 * v + 12) = M (8 + 15 * v + 12)) : PB M' s := by
  intro v v1 v2
  have a := h v v1 v2
  have b := hw v v1 v2
  rw [(h1 v v1 v2).1, (h1 v v1 v2).2, h0]
  omega
set_option maxHeartbeats 4000000 in
set_option maxRecDepth 100000 in
theorem pay_f {M : Int → Int} {w t : Int} (hw : 0 ≤ w ∧ w < 3) (ht : 0 ≤ t ∧ t < 600) (hn : 0 ≤ M 2 ∧ M 2 ≤ 200) {j : Int} (hj : ¬ j = 2) (hj2 : j < 65 ∨ 833 ≤ j) : payM M w t j = payM1 M w t j := by
  have m2e : payM1 M w t 2 = M 2 := payM1_2 hw ht
  unfold payM
  split
  · rw [sd_ne hj (by rw [sdM_2, m2e]; omega), sd_ne hj (by rw [m2e]; omega)]
  · split
    · rw [sd_ne hj (by rw [sdM_2, m2e]; omega), sd_ne hj (by rw [m2e]; omega)]
    · rw [sd_ne hj (by rw [sdM_2, m2e]; omega), sd_ne hj (by rw [m2e]; omega)]
set_option maxHeartbeats 4000000 in
set_option maxRecDepth 100000 in
theorem PB_pay {M : Int → Int} {s : Int → Int} {w t : Int} (h : PB M s) (hw : 0 ≤ w ∧ w < 3) (ht : 0 ≤ t ∧ t < 600) (hn : 0 ≤ M 2 ∧ M 2 ≤ 200) (h1 : M (8 + 15 * w + 12) + 1 + wt M w ≤ M 0 + s w) : PB (payM M w t) s := by
  have hp := prz_b M ht
  intro v v1 v2
  have a := h v v1 v2
  have e9 : wt (payM M w t) v = wt M v := by
    refine wt_ne ?_
    rw [pay_f hw ht hn (by omega) (by omega), payM1_ne (by omega) (by omega) (by omega) (by omega)]
  have e0 : payM M w t 0 = M 0 := by rw [pay_f hw ht hn (by omega) (by omega), payM1_ne (by omega) (by omega) (by omega) (by omega)]
  rw [e9, e0, pay_f hw ht hn (j := 8 + 15 * v + 12) (by omega) (by omega), pay_f hw ht hn (j := 8 + 15 * v + 11) (by omega) (by omega)]
  by_cases e : v = w
  · subst e
    have e11 : payM1 M v t (8 + 15 * v + 11) = M (8 + 15 * v + 11) + przM M t := by
      unfold payM1
      rw [mk_ne (by omega)]
      unfold payM0 moM
      rw [up_ne (by omega), up_ne (by omega), up_eq rfl]
    have e12 : payM1 M v t (8 + 15 * v + 12) = M (8 + 15 * v + 12) + 1 := by
      unfold payM1
      rw [mk_ne (by omega)]
      unfold payM0 moM
      rw [up_ne (by omega), up_eq rfl, up_ne (by omega)]
    rw [e11, e12]
    omega
  · rw [payM1_ne (j := 8 + 15 * v + 12) (by omega) (by omega) (by omega) (by omega), payM1_ne (j := 8 + 15 * v + 11) (by omega) (by omega) (by omega) (by omega)]
    exact a
set_option maxHeartbeats 4000000 in
set_option maxRecDepth 100000 in
theorem co_pb {M : Int → Int} {c t : Int} (h : PB M (fun _ => 0)) (hn : 0 ≤ M 2 ∧ M 2 ≤ 200) (hc : 0 ≤ c ∧ c / 100 ≤ 3 ∧ c / 10 % 10 < 3 ∧ c % 10 < 3) (ht : 0 ≤ t ∧ t < 600) : PB (coM M (c / 100) (c / 10 % 10) (c % 10) t) (fun _ => 0) ∧ coM M (c / 100) (c / 10 % 10) (c % 10) t 4 ≤ M 4 + 1 := by
  have fn : ∀ w j : Int, ¬ j = 8 + 15 * w + 9 → ¬ j = 8 + 15 * w + 10 → frM M w j = M j := fun w j j1 j2 => by unfold frM; rw [up_ne j2, up_ne j1]
  have f9 : ∀ w : Int, frM M w (8 + 15 * w + 9) = 0 := fun w => by unfold frM; rw [up_ne (by omega), up_eq rfl]
  have fw : ∀ w : Int, wt (frM M w) w = 0 := fun w => by unfold wt; rw [f9, if_pos rfl]
  have fl : ∀ w v : Int, 0 ≤ v → v < 3 → 0 ≤ w → w < 3 → wt (frM M w) v ≤ wt M v := fun w v v1 v2 w1 w2 => by
    by_cases e : v = w
    · rw [e, fw]; exact (wt_b M w).1
    · rw [wt_ne (fn w _ (by omega) (by omega))]; exact Int.le_refl _
  rcases (show c / 100 = 0 ∨ c / 100 = 1 ∨ c / 100 = 2 ∨ c / 100 = 3 by omega) with g | g | g | g
  · have v2 : coM M (c / 100) (c / 10 % 10) (c % 10) t = mcM M (c / 10 % 10) t := by unfold coM; rw [if_pos g]
    rw [v2]
    refine ⟨PB_le h (mc_at (by omega) (by omega) (by omega)) (fun v v1 v2 => by rw [wt_ne (mc_at (by omega) (by omega) (by omega))]; exact Int.le_refl _) (fun v v1 v2 => ⟨mc_at (by omega) (by omega) (by omega), mc_at (by omega) (by omega) (by omega)⟩), ?_⟩
    unfold mcM
    split
    · split
      · rw [up_ne (by omega), up_eq rfl, mk_ne (by omega)]; omega
      · rw [mk_ne (by omega)]; omega
    · rw [mk_ne (by omega)]; omega
  · have v2 : coM M (c / 100) (c / 10 % 10) (c % 10) t = qcM M (c / 10 % 10) (c % 10) t := by unfold coM; rw [g, if_neg (show ¬ (1 : Int) = 0 by decide), if_pos rfl]
    rw [v2]
    have hq : ∀ j : Int, ¬ j = 2 → j < 65 → qcM M (c / 10 % 10) (c % 10) t j = M j := by
      intro j j1 j2
      have m2e : mkM M t 1 1 2 = M 2 := mk_ne (by omega)
      unfold qcM
      split
      · split
        · rw [sd_ne j1 (by rw [m2e]; omega), mk_ne (by omega)]
        · exact sd_ne j1 (by omega)
      · exact sd_ne j1 (by omega)
    exact ⟨PB_le h (hq 0 (by omega) (by omega)) (fun v v1 v2 => by rw [wt_ne (hq _ (by omega) (by omega))]; exact Int.le_refl _) (fun v v1 v2 => ⟨hq _ (by omega) (by omega), hq _ (by omega) (by omega)⟩), by rw [hq 4 (by omega) (by omega)]; omega⟩
  · have v2 : coM M (c / 100) (c / 10 % 10) (c % 10) t = acM M (c / 10 % 10) t 1 := by unfold coM; rw [g, if_neg (show ¬ (2 : Int) = 0 by decide), if_neg (show ¬ (2 : Int) = 1 by decide), if_pos rfl]
    rw [v2]
    obtain ⟨w, hw⟩ : ∃ w, w = c / 10 % 10 := ⟨_, rfl⟩
    rw [← hw]
    unfold acM
    by_cases c1 : M (8 + 15 * w + 9) = t + 1
    · rw [if_pos c1, if_neg (by decide)]
      have f2 : frM M w 2 = M 2 := fn w 2 (by omega) (by omega)
      have hP : PB (frM M w) (fun _ => 0) := PB_le h (fn w 0 (by omega) (by omega)) (fun v v1 v2 => fl w v v1 v2 (by omega) (by omega)) (fun v v1 v2 => ⟨fn w _ (by omega) (by omega), fn w _ (by omega) (by omega)⟩)
      refine ⟨PB_pay hP (by omega) ht (by rw [f2]; exact hn) ?_, ?_⟩
      · have a := h w (by omega) (by omega)
        have w1 : wt M w = 1 := by unfold wt; rw [if_neg (by omega)]
        rw [fw, fn w 0 (by omega) (by omega), fn w _ (by omega) (by omega)]
        dsimp only at a ⊢
        omega
      · rw [pay_f (by omega) ht (by rw [f2]; exact hn) (by omega) (by omega), payM1_ne (by omega) (by omega) (by omega) (by omega), fn w 4 (by omega) (by omega)]; omega
    · rw [if_neg c1, if_neg (by decide)]
      exact ⟨PB_le h (mk_ne (by omega)) (fun v v1 v2 => by rw [wt_ne (mk_ne (by omega))]; exact Int.le_refl _) (fun v v1 v2 => ⟨mk_ne (by omega), mk_ne (by omega)⟩), by rw [mk_ne (by omega)]; omega⟩
  · have v2 : coM M (c / 100) (c / 10 % 10) (c % 10) t = acM M (c / 10 % 10) t 0 := by unfold coM; rw [g, if_neg (show ¬ (3 : Int) = 0 by decide), if_neg (show ¬ (3 : Int) = 1 by decide), if_neg (show ¬ (3 : Int) = 2 by decide)]
    rw [v2]
    obtain ⟨w, hw⟩ : ∃ w, w = c / 10 % 10 := ⟨_, rfl⟩
    rw [← hw]
    unfold acM
    by_cases c1 : M (8 + 15 * w + 9) = t + 1
    · rw [if_pos c1, if_pos rfl]
      have an : ∀ j : Int, ¬ j = 8 + 15 * w + 13 → ¬ j = 8 + 15 * w + 14 → awM (frM M w) w 5 j = frM M w j := fun j j1 j2 => by unfold awM; rw [up_ne j2, up_ne j1]
      refine ⟨PB_le h (by rw [an 0 (by omega) (by omega), fn w 0 (by omega) (by omega)]) (fun v v1 v2 => by rw [wt_ne (an (8 + 15 * v + 9) (by omega) (by omega))]; exact fl w v v1 v2 (by omega) (by omega)) (fun v v1 v2 => ⟨by rw [an _ (by omega) (by omega), fn w _ (by omega) (by omega)], by rw [an _ (by omega) (by omega), fn w _ (by omega) (by omega)]⟩), ?_⟩
      rw [an 4 (by omega) (by omega), fn w 4 (by omega) (by omega)]; omega
    · rw [if_neg c1, if_pos rfl]
      exact ⟨h, by omega⟩
set_option maxHeartbeats 4000000 in
set_option maxRecDepth 100000 in
theorem DP {O : Of} {M : Int → Int} (h : RR O M) (hC : RC M) (hP : PB M (fun _ => 0)) : ∀ j : Nat, j ≤ nM M → PB (m1 M j) (fun _ => 0) ∧ m1 M j 4 ≤ M 4 + j
  | 0, _ => ⟨hP, by show M 4 ≤ M 4 + ((0 : Nat) : Int); omega⟩
  | j + 1, hj => by
    have ih := DP h hC hP j (by omega)
    obtain ⟨a1, a2, a3, a4, a5, a6⟩ := DL h hC j (by omega)
    have hn := h.2.2.2.2.1.1
    have en : ((nM M : Nat) : Int) = M 2 := by unfold nM; omega
    have hb := RJ_n a2
    obtain ⟨⟨b1, b2, b3, b4⟩, -⟩ := a1.2.2.2.2.1.2.2 (j : Int) (by omega) (by omega)
    have e2 : m1 M (j + 1) = if m1 M j (65 + 3 * (j : Int)) = m1 M j 0 then coM (m1 M j) (m1 M j (65 + 3 * (j : Int) + 1) / 100) (m1 M j (65 + 3 * (j : Int) + 1) / 10 % 10) (m1 M j (65 + 3 * (j : Int) + 1) % 10) (m1 M j (65 + 3 * (j : Int) + 2)) else m1 M j := rfl
    rw [e2]
    by_cases hd : m1 M j (65 + 3 * (j : Int)) = m1 M j 0
    · rw [if_pos hd]
      have q := co_pb ih.1 (c := m1 M j (65 + 3 * (j : Int) + 1)) (t := m1 M j (65 + 3 * (j : Int) + 2)) (by omega) b2 b3
      exact ⟨q.1, by omega⟩
    · rw [if_neg hd]
      exact ⟨ih.1, by omega⟩
/- what the relation says of the row and of the office -/
set_option maxHeartbeats 4000000 in
set_option maxRecDepth 100000 in
theorem RR_Gm {O : Of} {M : Int → Int} (h : RR O M) (h4 : M 4 < 2147483648) : Gm M := by
  obtain ⟨h1, h2, h3, h4', h5, h6, h7, h8⟩ := h
  refine ⟨h1.1, h2.1, RP_pb h3 h7.1.2, fun t t1 t2 => ?_, fun w w1 w2 => (h4' w w1 w2).2.2.2.1.1, by have := h5.1; omega⟩
  have := h6.2.2.2.2.2 t t1 t2
  unfold ds at this
  omega
set_option maxHeartbeats 4000000 in
set_option maxRecDepth 100000 in
theorem RR_Bm {O : Of} {M : Int → Int} {z : Int} (h : RR O M) (hz : 0 ≤ z ∧ z < M 2) (hn : M 2 < 149) : BmP O z := by
  have hm := fun w t w1 w2 t1 t2 => mc_pre (w := w) (t := t) h ⟨w1, w2⟩ ⟨t1, t2⟩
  obtain ⟨h1, h2, h3, h4, h5, h6, h7, h8⟩ := h
  obtain ⟨n1, n2, n3⟩ := h5
  obtain ⟨⟨b1, b2, b3, b4⟩, c1, c3⟩ := n3 z hz.1 hz.2
  obtain ⟨t0, t1, t2⟩ := h7.1
  refine ⟨h1.2.1, RD_Wn h2, by omega, by omega, RP_b h3 h7.1.2, fun w w1 w2 => ?_, ?_, by omega, ⟨?_, fun w t w1 w2 t1 t2 => hm w t w1 w2 t1 t2⟩⟩
  · have b := (h4 w w1 w2).2.2.2.1
    rw [b.2]
    split <;> omega
  · rw [c3]
    unfold ctM
    generalize M (65 + 3 * z + 1) = c at *
    repeat' split
    all_goals omega
  · have := opC_b M
    have := h6.1
    omega
