/-! THE RELATION is kept as the messages delivered are dropped -/
set_option maxHeartbeats 4000000 in
set_option maxRecDepth 100000 in
theorem cp_at {M : Int → Int} {l k : Int} : cpM M l k (65 + 3 * l) = M (65 + 3 * k) ∧ cpM M l k (65 + 3 * l + 1) = M (65 + 3 * k + 1) ∧ cpM M l k (65 + 3 * l + 2) = M (65 + 3 * k + 2) := by
  unfold cpM
  refine ⟨?_, ?_, ?_⟩
  · rw [up_ne (by omega), up_ne (by omega), up_eq rfl]
  · rw [up_ne (by omega), up_eq rfl, up_ne (by omega)]
  · rw [up_eq rfl, up_ne (by omega), up_ne (by omega)]
/- a kept message: as it was, and not due -/
def KpV (O : Of) (M : Int → Int) (T i : Int) : Prop := (T + 1 ≤ M (65 + 3 * i) ∧ M (65 + 3 * i) ≤ T + 9) ∧ (0 ≤ M (65 + 3 * i + 1) ∧ M (65 + 3 * i + 1) / 100 ≤ 3 ∧ M (65 + 3 * i + 1) / 10 % 10 < 3 ∧ M (65 + 3 * i + 1) % 10 < 3) ∧ (0 ≤ M (65 + 3 * i + 2) ∧ M (65 + 3 * i + 2) < 600) ∧ (M (65 + 3 * i + 1) / 100 = 1 → M (65 + 3 * i + 1) / 10 % 10 = M (65 + 3 * i + 2) % 3) ∧ O 19 i = M (65 + 3 * i) ∧ O 20 i = ctM (M (65 + 3 * i + 1)) (M (65 + 3 * i + 2))
set_option maxHeartbeats 4000000 in
set_option maxRecDepth 100000 in
theorem KpV_cg {O O' : Of} {M M' : Int → Int} {T i i' : Int} (h : KpV O M T i) (e0 : M' (65 + 3 * i') = M (65 + 3 * i)) (e1 : M' (65 + 3 * i' + 1) = M (65 + 3 * i + 1)) (e2 : M' (65 + 3 * i' + 2) = M (65 + 3 * i + 2)) (e3 : O' 19 i' = O 19 i) (e4 : O' 20 i' = O 20 i) : KpV O' M' T i' := by
  unfold KpV at *
  rw [e0, e1, e2, e3, e4]
  exact h
/- a weight that hangs on no place and weighs nothing that is due -/
def GwT (g : Gw) (T : Int) : Prop := (∀ (i j : Nat) (D C : Int), g i D C = g j D C) ∧ ∀ (i : Nat) (C : Int), g i T C = 0
set_option maxHeartbeats 4000000 in
set_option maxRecDepth 100000 in
theorem DD {X : Of} {P : Int → Int} (h : RR X P) {T : Int} (hT : P 0 = T) : ∀ k : Nat, (k : Int) ≤ P 2 → (m2 P k).2 = (ddO X T k).2 ∧ (∀ i : Int, 0 ≤ i → i < (m2 P k).2 → KpV (ddO X T k).1 (m2 P k).1 T i) ∧ ∀ g : Gw, GwT g T → cm g (m2 P k).1 (m2 P k).2.toNat = cm g P k
  | 0, _ => ⟨rfl, fun i i1 i2 => absurd i2 (by show ¬ i < 0; omega), fun g _ => rfl⟩
  | k + 1, hk => by
    obtain ⟨a1, a2, a3⟩ := DD h hT k (by omega)
    obtain ⟨b1, b2, b3, b4⟩ := m2_b P k
    have c1 := ddO_hi (O := X) (T := T) k k (Int.le_refl _)
    obtain ⟨v1, v2, v3⟩ := h.2.2.2.2.1.2.2 (k : Int) (by omega) (by omega)
    have d0 : (m2 P k).1 (65 + 3 * (k : Int)) = P (65 + 3 * (k : Int)) := b4 _ (by omega)
    have d1 : (m2 P k).1 (65 + 3 * (k : Int) + 1) = P (65 + 3 * (k : Int) + 1) := b4 _ (by omega)
    have d2 : (m2 P k).1 (65 + 3 * (k : Int) + 2) = P (65 + 3 * (k : Int) + 2) := b4 _ (by omega)
    have d3 : (m2 P k).1 0 = T := by rw [b3 0 (by omega), hT]
    have e1 : m2 P (k + 1) = if (m2 P k).1 (65 + 3 * (k : Int)) = (m2 P k).1 0 then m2 P k else (cpM (m2 P k).1 (m2 P k).2 k, (m2 P k).2 + 1) := rfl
    have e2 : ddO X T (k + 1) = (if T < (ddO X T k).1 19 k then oc (oc (ddO X T k).1 19 (up ((ddO X T k).1 19) (ddO X T k).2 ((ddO X T k).1 19 k))) 20 (up ((ddO X T k).1 20) (ddO X T k).2 ((ddO X T k).1 20 k)) else (ddO X T k).1, if T < (ddO X T k).1 19 k then (ddO X T k).2 + 1 else (ddO X T k).2) := rfl
    have hcm : ∀ g : Gw, cm g P (k + 1) = cm g P k + g k (P (65 + 3 * (k : Int))) (P (65 + 3 * (k : Int) + 1)) := fun g => rfl
    rw [e1, e2, d0, d3, c1.1, c1.2, v2]
    have v0 := v1.1
    rw [hT] at v0
    by_cases hd : P (65 + 3 * (k : Int)) = T
    · rw [if_pos hd, if_neg (by omega), if_neg (by omega)]
      refine ⟨a1, a2, fun g hg => ?_⟩
      rw [a3 g hg, hcm, hd, hg.2]
      omega
    · rw [if_neg hd, if_pos (by omega), if_pos (by omega)]
      dsimp only
      refine ⟨by omega, fun i i1 i2 => ?_, fun g hg => ?_⟩
      · have f19 : ∀ u v : Int → Int, oc (oc (ddO X T k).1 19 u) 20 v 19 = u := fun u v => by rw [oc_nc (by decide), oc_at]
        have f20 : ∀ u v : Int → Int, oc (oc (ddO X T k).1 19 u) 20 v 20 = v := fun u v => by rw [oc_at]
        by_cases e : i = (m2 P k).2
        · rw [e]
          have q := cp_at (M := (m2 P k).1) (l := (m2 P k).2) (k := (k : Int))
          unfold KpV
          rw [q.1, q.2.1, q.2.2, d0, d1, d2, f19, f20, a1, up_eq rfl, up_eq rfl, v3]
          exact ⟨by omega, v1.2.1, v1.2.2.1, v1.2.2.2, rfl, rfl⟩
        · refine KpV_cg (a2 i i1 (by omega)) (cp_ne (by omega)) (cp_ne (by omega)) (cp_ne (by omega)) ?_ ?_
          · rw [f19, up_ne (by omega)]
          · rw [f20, up_ne (by omega)]
      · have et : ((m2 P k).2 + 1).toNat = (m2 P k).2.toNat + 1 := by omega
        have es : (((m2 P k).2.toNat : Nat) : Int) = (m2 P k).2 := by omega
        have q := cp_at (M := (m2 P k).1) (l := (m2 P k).2) (k := (k : Int))
        rw [et, hcm, ← a3 g hg]
        unfold cm
        rw [sm_s, es, q.1, q.2.1, d0, d1, hg.1 _ k]
        congr 1
        refine sm_congr (fun i hi => ?_)
        rw [cp_ne (by omega), cp_ne (by omega)]
set_option maxHeartbeats 4000000 in
set_option maxRecDepth 100000 in
theorem gM_T {w d T : Int} (h : T + 1 ≤ d) : GwT (gM w d) T := ⟨fun _ _ _ _ => rfl, fun i C => by unfold gM; rw [if_neg (fun q => by have := q.2.2; omega)]⟩
set_option maxHeartbeats 4000000 in
set_option maxRecDepth 100000 in
theorem gQ_T {w d T : Int} (h : T + 1 ≤ d) : GwT (gQ w d) T := ⟨fun _ _ _ _ => rfl, fun i C => by unfold gQ; rw [if_neg (fun q => by have := q.2.2; omega)]⟩
set_option maxHeartbeats 4000000 in
set_option maxRecDepth 100000 in
theorem gR_T {w d T : Int} (h : T + 1 ≤ d) : GwT (gR w d) T := ⟨fun _ _ _ _ => rfl, fun i C => by unfold gR; rw [if_neg (fun q => by have := q.2.2; omega)]⟩
/- while the windows serve: s says who has -/
def RS (M : Int → Int) (s : Int → Int) (B : Int) : Prop := (∀ w d : Int, 0 ≤ w → w < 3 → M 0 + 1 ≤ d → d ≤ M 0 + 9 → cm (gM w d) M (nM M) + 2 * wt M w ≤ 2 * (M 0 - d + 10) + 2 * s w ∧ cm (gQ w d) M (nM M) ≤ M 0 - d + 9 + s w ∧ cm (gR w d) M (nM M) + cm (gQ w (M 0 + 1)) M (nM M) ≤ M 0 - d + 18 + s w) ∧ M 2 ≤ B ∧ ∀ i : Int, 0 ≤ i → i < M 2 → M 0 + 1 ≤ M (65 + 3 * i)
/- the row after the messages -/
def mE (M : Int → Int) : Int → Int := mmM M (nT M)
set_option maxHeartbeats 4000000 in
set_option maxRecDepth 100000 in
theorem mE_x {O : Of} {M : Int → Int} (h : RR O M) (hC : RC M) : mE M 2 = (m2 (mD M) (nT M)).2 ∧ (∀ j : Int, ¬ j = 2 → (j < 65 + 3 * (m2 (mD M) (nT M)).2 ∨ 833 ≤ j) → mE M j = (m2 (mD M) (nT M)).1 j) := by
  have e : mE M = up (m3 (m2 (mD M) (nT M)).1 (3 * (m2 (mD M) (nT M)).2) (3 * ((nT M : Nat) : Int) - 3 * (m2 (mD M) (nT M)).2).toNat) 2 (m2 (mD M) (nT M)).2 := by
    unfold mE mmM
    rw [m1_nT h hC]
  obtain ⟨a1, a2, a3, a4, a5, a6⟩ := DL h hC (nM M) (Nat.le_refl _)
  have b := m2_b (mD M) (nT M)
  have hb := RJ_n a2
  have hn : ((nT M : Nat) : Int) ≤ 141 := by
    rw [nT_eq]
    unfold mD
    omega
  refine ⟨by rw [e, up_eq rfl], fun j j1 j2 => ?_⟩
  rw [e, up_ne j1, m3_ne]
  omega
set_option maxHeartbeats 4000000 in
set_option maxRecDepth 100000 in
theorem RR_brought {O : Of} {M : Int → Int} (h : RR O M) (hC : RC M) : RR (bnO O) (mE M) ∧ RS (mE M) (fun _ => 0) 141 ∧ mE M 0 = M 0 ∧ (∀ j : Int, ¬ j = 2 → (j < 65 ∨ 833 ≤ j) → mE M j = mD M j) := by
  obtain ⟨a1, a2, a3, a4, a5, a6⟩ := DL h hC (nM M) (Nat.le_refl _)
  have hb := RJ_n a2
  have hn := h.2.2.2.2.1.1
  have hx := mE_x h hC
  have eN : nN O = nM M := by unfold nN nM; rw [h.2.2.2.2.1.2.1]
  have a1' : RR (bmI O (nN O)) (mD M) := by rw [eN]; exact a1
  have eN2 : nN (bmI O (nN O)) = nT M := by
    unfold nN
    rw [nT_eq, ← a1'.2.2.2.2.1.2.1]
    rfl
  have hT : mD M 0 = M 0 := a3
  have hm2 : ((nT M : Nat) : Int) = mD M 2 := by rw [nT_eq]; unfold mD; omega
  have e0 : bmI O (nN O) 0 0 = M 0 := by rw [a1'.2.2.2.2.2.2.1.1.1, hT]
  obtain ⟨d1, d2, d3⟩ := DD a1' hT (nT M) (by omega)
  obtain ⟨b1, b2, b3, b4⟩ := m2_b (mD M) (nT M)
  have eB : bnO O = oc (ddO (bmI O (nN O)) (M 0) (nT M)).1 18 (up (bmI O (nN O) 18) 0 (ddO (bmI O (nN O)) (M 0) (nT M)).2) := by
    unfold bnO bmO
    rw [eN2, e0]
  have ho : ∀ c : Nat, ¬ c = 18 → ¬ c = 19 → ¬ c = 20 → bnO O c = bmI O (nN O) c := fun c c1 c3 c4 => by rw [eB, oc_nc c1, ddO_nc ⟨c3, c4⟩]
  have hj : ∀ j : Int, ¬ j = 2 → (j < 65 ∨ 833 ≤ j) → mE M j = mD M j := by
    intro j j1 j2
    rw [hx.2 j j1 (by omega)]
    rcases j2 with q | q
    · exact b3 j q
    · exact b4 j (by unfold mD at hm2; omega)
  have z0 : mE M 0 = M 0 := by rw [hj 0 (by omega) (by omega), hT]
  have hent : ∀ i : Int, 0 ≤ i → i < mE M 2 → KpV (bnO O) (mE M) (M 0) i := by
    intro i i1 i2
    rw [hx.1] at i2
    refine KpV_cg (d2 i i1 i2) (hx.2 _ (by omega) (by omega)) (hx.2 _ (by omega) (by omega)) (hx.2 _ (by omega) (by omega)) ?_ ?_
    · rw [eB, oc_nc (by decide)]
    · rw [eB, oc_nc (by decide)]
  have hcm : ∀ g : Gw, GwT g (M 0) → cm g (mE M) (nM (mE M)) = cm g (mD M) (nM (mD M)) := by
    intro g hg
    have e1 : nM (mE M) = (m2 (mD M) (nT M)).2.toNat := by unfold nM; rw [hx.1]
    have e2 : nM (mD M) = nT M := by rw [nT_eq]; rfl
    rw [e1, e2, ← d3 g hg]
    unfold cm
    refine sm_congr (fun k hk => ?_)
    rw [hx.2 _ (by omega) (by omega), hx.2 _ (by omega) (by omega)]
  refine ⟨RR_mail a1' ho hj ?_, ⟨fun w d w1 w2 q1 q2 => ?_, ?_, fun i i1 i2 => ?_⟩, z0, hj⟩
  · refine ⟨?_, ?_, fun i i1 i2 => ?_⟩
    · rw [hx.1]; unfold mD at hm2; omega
    · rw [eB, oc_at, up_eq rfl, hx.1, d1]
    · obtain ⟨k1, k2, k3, k4, k5, k6⟩ := hent i i1 i2
      refine ⟨?_, k5, k6⟩
      unfold MsV
      rw [z0]
      exact ⟨by omega, k2, k3, k4⟩
  · rw [z0] at q1 q2 ⊢
    have q := a2.1 w d w1 w2 (by rw [a3]; exact q1) (by rw [a3]; exact q2)
    rw [a3] at q
    have ew : wt (mE M) w = wt (mD M) w := wt_ne (hj _ (by omega) (by omega))
    have lP : cm (gQ w (M 0 + 1)) (mD M) (nM (mD M)) ≤ cm (gP w (M 0) (nM M)) (mD M) (nM (mD M)) := by
      refine sm_le (fun k hk => ?_)
      unfold gQ gP
      by_cases r : mD M (65 + 3 * (k : Int) + 1) / 100 = 1 ∧ mD M (65 + 3 * (k : Int) + 1) % 10 = w ∧ M 0 + 1 ≤ mD M (65 + 3 * (k : Int))
      · rw [if_pos r, if_pos ⟨r.1, r.2.1, Or.inl r.2.2⟩]
        exact Int.le_refl _
      · rw [if_neg r]
        split <;> omega
    have u1 := hcm _ (gM_T (w := w) q1)
    have u2 := hcm _ (gQ_T (w := w) q1)
    have u3 := hcm _ (gR_T (w := w) q1)
    have u4 := hcm _ (gQ_T (w := w) (Int.le_refl (M 0 + 1)))
    rw [u1, u2, u3, u4, ew]
    dsimp only
    unfold mD at *
    omega
  · rw [hx.1]; unfold mD at hm2; omega
  · rw [z0]
    exact (hent i i1 i2).1.1
