/-! THE RELATION: payments, windows, mail, disputes, the rest -/
abbrev pd (M : Int → Int) (w t : Int) : Int := M (2033 + 600 * w + t)
def RP (O : Of) (M : Int → Int) : Prop := ∀ t : Int, 0 ≤ t → t < 600 → 0 ≤ O 4 t ∧ (∀ w : Int, 0 ≤ w → w < 3 → (0 ≤ pd M w t ∧ pd M w t ≤ M 0 + 1) ∧ (0 < pd M w t → 0 < O 4 t ∧ O 4 t ≤ (pd M w t - 1) * 3 + w + 1)) ∧ (¬ O 4 t = 0 → pd M ((O 4 t - 1) % 3) t = (O 4 t - 1) / 3 + 1 ∧ qb M t (5 + (O 4 t - 1) % 3).toNat = 0)
set_option maxHeartbeats 4000000 in
set_option maxRecDepth 100000 in
theorem RP_cg {O O' : Of} {M M' : Int → Int} (h : RP O M) (ho : O' 4 = O 4) (h0 : M 0 ≤ M' 0) (hp : ∀ j : Int, 2033 ≤ j → j < 3833 → M' j = M j) (hq : ∀ t w : Int, 0 ≤ t → t < 600 → 0 ≤ w → w < 3 → qb M' t (5 + w).toNat = qb M t (5 + w).toNat) : RP O' M' := by
  intro t t1 t2
  obtain ⟨a1, a2, a3⟩ := h t t1 t2
  have e : ∀ w : Int, 0 ≤ w → w < 3 → pd M' w t = pd M w t := fun w w1 w2 => hp _ (by omega) (by omega)
  rw [ho]
  refine ⟨a1, fun w w1 w2 => ?_, fun c => ?_⟩
  · rw [e w w1 w2]
    have := a2 w w1 w2
    exact ⟨⟨this.1.1, by omega⟩, this.2⟩
  · rw [e _ (by omega) (by omega), hq t _ t1 t2 (by omega) (by omega)]
    exact a3 c
set_option maxHeartbeats 4000000 in
set_option maxRecDepth 100000 in
theorem RP_b {O : Of} {M : Int → Int} (h : RP O M) (h0 : 0 ≤ M 0 ∧ M 0 ≤ 20000) : ∀ t : Int, 0 ≤ t → t < 600 → 0 ≤ O 4 t ∧ O 4 t < 1000000 := by
  intro t t1 t2
  obtain ⟨a1, a2, a3⟩ := h t t1 t2
  refine ⟨a1, ?_⟩
  by_cases c : O 4 t = 0
  · omega
  · have b1 := (a3 c).1
    have b2 := (a2 ((O 4 t - 1) % 3) (by omega) (by omega)).1.2
    rw [b1] at b2
    omega
set_option maxHeartbeats 4000000 in
set_option maxRecDepth 100000 in
theorem RP_pb {O : Of} {M : Int → Int} (h : RP O M) (h0 : 0 ≤ M 0 ∧ M 0 ≤ 20000) : PdB M := by
  intro w t w1 w2 t1 t2
  have := ((h t t1 t2).2.1 w w1 w2).1
  unfold pd at this
  omega
/- windows -/
def RW (O : Of) (M : Int → Int) : Prop := ∀ w : Int, 0 ≤ w → w < 3 → ((0 ≤ M (8 + 15 * w) ∧ M (8 + 15 * w) ≤ 8) ∧ O 11 w = M (8 + 15 * w)) ∧ (∀ z : Int, 0 ≤ z → z < M (8 + 15 * w) → O 10 (w * 8 + z) = M (8 + 15 * w + (1 + z))) ∧ (∀ z : Int, 0 ≤ z → z < 8 → 0 ≤ M (8 + 15 * w + (1 + z)) ∧ M (8 + 15 * w + (1 + z)) < 600) ∧ ((0 ≤ M (8 + 15 * w + 9) ∧ M (8 + 15 * w + 9) ≤ 600) ∧ O 12 w = (if M (8 + 15 * w + 9) = 0 then -5 else M (8 + 15 * w + 9) - 1)) ∧ ((M (8 + 15 * w + 9) = 0 → M (8 + 15 * w + 10) = 0) ∧ (¬ M (8 + 15 * w + 9) = 0 → O 13 w = M (8 + 15 * w + 10)) ∧ 0 ≤ M (8 + 15 * w + 10) ∧ M (8 + 15 * w + 10) ≤ M 0) ∧ O 14 w = M (8 + 15 * w + 11) ∧ O 15 w = M (8 + 15 * w + 12) ∧ O 16 w = M (8 + 15 * w + 13) ∧ O 17 w = M (8 + 15 * w + 14)
set_option maxHeartbeats 4000000 in
set_option maxRecDepth 100000 in
theorem RW_cg {O O' : Of} {M M' : Int → Int} (h : RW O M) (ho : ∀ c : Nat, 10 ≤ c → c < 18 → O' c = O c) (h0 : M 0 ≤ M' 0) (hm : ∀ j : Int, 8 ≤ j → j < 53 → M' j = M j) : RW O' M' := by
  intro w w1 w2
  obtain ⟨a1, a2, a3, a4, a5, a6, a7, a8, a9⟩ := h w w1 w2
  rw [ho 10 (by decide) (by decide), ho 11 (by decide) (by decide), ho 12 (by decide) (by decide), ho 13 (by decide) (by decide), ho 14 (by decide) (by decide), ho 15 (by decide) (by decide), ho 16 (by decide) (by decide), ho 17 (by decide) (by decide), hm (8 + 15 * w) (by omega) (by omega), hm (8 + 15 * w + 9) (by omega) (by omega), hm (8 + 15 * w + 10) (by omega) (by omega), hm (8 + 15 * w + 11) (by omega) (by omega), hm (8 + 15 * w + 12) (by omega) (by omega), hm (8 + 15 * w + 13) (by omega) (by omega), hm (8 + 15 * w + 14) (by omega) (by omega)]
  refine ⟨a1, fun z z1 z2 => ?_, fun z z1 z2 => ?_, a4, ⟨a5.1, a5.2.1, a5.2.2.1, by omega⟩, a6, a7, a8, a9⟩
  · rw [hm _ (by omega) (by omega)]; exact a2 z z1 z2
  · rw [hm _ (by omega) (by omega)]; exact a3 z z1 z2
/- mail -/
def ctM (c t : Int) : Int := if c / 100 = 0 then (c / 10 % 10) * 600 + t else if c / 100 = 1 then (3 + c % 10) * 600 + t else if c / 100 = 2 then (9 + c / 10 % 10) * 600 + t else (6 + c / 10 % 10) * 600 + t
def MsV (M : Int → Int) (i : Int) : Prop := (M 0 ≤ M (65 + 3 * i) ∧ M (65 + 3 * i) ≤ M 0 + 9) ∧ (0 ≤ M (65 + 3 * i + 1) ∧ M (65 + 3 * i + 1) / 100 ≤ 3 ∧ M (65 + 3 * i + 1) / 10 % 10 < 3 ∧ M (65 + 3 * i + 1) % 10 < 3) ∧ (0 ≤ M (65 + 3 * i + 2) ∧ M (65 + 3 * i + 2) < 600) ∧ (M (65 + 3 * i + 1) / 100 = 1 → M (65 + 3 * i + 1) / 10 % 10 = M (65 + 3 * i + 2) % 3)
def RM (O : Of) (M : Int → Int) : Prop := (0 ≤ M 2 ∧ M 2 ≤ 150) ∧ O 18 0 = M 2 ∧ ∀ i : Int, 0 ≤ i → i < M 2 → MsV M i ∧ O 19 i = M (65 + 3 * i) ∧ O 20 i = ctM (M (65 + 3 * i + 1)) (M (65 + 3 * i + 2))
set_option maxHeartbeats 4000000 in
set_option maxRecDepth 100000 in
theorem MsV_cg {M M' : Int → Int} {i : Int} (h : MsV M i) (h0 : M' 0 = M 0) (e0 : M' (65 + 3 * i) = M (65 + 3 * i)) (e1 : M' (65 + 3 * i + 1) = M (65 + 3 * i + 1)) (e2 : M' (65 + 3 * i + 2) = M (65 + 3 * i + 2)) : MsV M' i := by
  unfold MsV
  rw [h0, e0, e1, e2]
  exact h
set_option maxHeartbeats 4000000 in
set_option maxRecDepth 100000 in
theorem RM_cg {O O' : Of} {M M' : Int → Int} (h : RM O M) (ho : O' 18 0 = O 18 0 ∧ O' 19 = O 19 ∧ O' 20 = O 20) (h0 : M' 0 = M 0) (h2 : M' 2 = M 2) (hm : ∀ j : Int, 65 ≤ j → j < 833 → M' j = M j) : RM O' M' := by
  obtain ⟨a1, a2, a3⟩ := h
  unfold RM
  rw [h2, ho.1, ho.2.1, ho.2.2]
  refine ⟨a1, a2, fun i i1 i2 => ?_⟩
  obtain ⟨b1, b2, b3⟩ := a3 i i1 i2
  rw [hm (65 + 3 * i) (by omega) (by omega), hm (65 + 3 * i + 1) (by omega) (by omega), hm (65 + 3 * i + 2) (by omega) (by omega)]
  exact ⟨MsV_cg b1 h0 (hm _ (by omega) (by omega)) (hm _ (by omega) (by omega)) (hm _ (by omega) (by omega)), b2, b3⟩
/- disputes -/
abbrev ds (M : Int → Int) (t : Int) : Int := M (1433 + t)
def RQ (O : Of) (M : Int → Int) : Prop := (O 21 0 = opC M ∧ O 21 0 ≤ 114) ∧ (O 21 1 = M 4 ∧ 0 ≤ M 4) ∧ (∀ i : Int, 0 ≤ i → i < O 21 0 → (0 ≤ O 22 i ∧ O 22 i < 600) ∧ 0 < ds M (O 22 i)) ∧ (∀ i j : Int, 0 ≤ i → i < j → j < O 21 0 → ds M (O 22 i) < ds M (O 22 j)) ∧ (∀ t : Int, 0 ≤ t → t < 600 → 0 < ds M t → ∃ i : Int, 0 ≤ i ∧ i < O 21 0 ∧ O 22 i = t) ∧ ∀ t : Int, 0 ≤ t → t < 600 → 0 ≤ ds M t ∧ ds M t ≤ M 4
set_option maxHeartbeats 4000000 in
set_option maxRecDepth 100000 in
theorem opC_c {M M' : Int → Int} (hm : ∀ j : Int, 1433 ≤ j → j < 2033 → M' j = M j) : opC M' = opC M := sm_congr (fun k hk => by unfold opI; rw [hm _ (by omega) (by omega)])
set_option maxHeartbeats 4000000 in
set_option maxRecDepth 100000 in
theorem RQ_cg {O O' : Of} {M M' : Int → Int} (h : RQ O M) (ho : O' 21 = O 21 ∧ O' 22 = O 22) (h4 : M' 4 = M 4) (hm : ∀ j : Int, 1433 ≤ j → j < 2033 → M' j = M j) : RQ O' M' := by
  obtain ⟨a1, a2, a3, a4, a5, a6⟩ := h
  have e : ∀ t : Int, 0 ≤ t → t < 600 → ds M' t = ds M t := fun t t1 t2 => hm _ (by omega) (by omega)
  unfold RQ
  rw [ho.1, ho.2, h4, opC_c hm]
  refine ⟨a1, a2, fun i i1 i2 => ?_, fun i j i1 i2 i3 => ?_, fun t t1 t2 t3 => ?_, fun t t1 t2 => ?_⟩
  · have b := a3 i i1 i2
    rw [e _ b.1.1 b.1.2]; exact b
  · have b := (a3 i i1 (by omega)).1
    have c := (a3 j (by omega) i3).1
    rw [e _ b.1 b.2, e _ c.1 c.2]; exact a4 i j i1 i2 i3
  · rw [e t t1 t2] at t3; exact a5 t t1 t2 t3
  · rw [e t t1 t2]; exact a6 t t1 t2
/- tick, lot, settings, sums -/
def R0 (O : Of) (M : Int → Int) : Prop := (O 0 0 = M 0 ∧ 0 ≤ M 0 ∧ M 0 ≤ 20000) ∧ (O 0 1 = M 1 ∧ 0 ≤ M 1 ∧ M 1 < 65537) ∧ (O 0 8 = ptC M ∧ O 0 9 = cbA M ∧ O 0 10 = M 3) ∧ (∀ i : Int, 0 ≤ i → i < 3 → O 1 i = M (5 + i)) ∧ (0 ≤ M 5 ∧ M 5 ≤ 2) ∧ (1 ≤ M 6 ∧ M 6 ≤ 9) ∧ (1 ≤ M 7 ∧ M 7 ≤ 20)
set_option maxHeartbeats 4000000 in
set_option maxRecDepth 100000 in
theorem ptC_c {M M' : Int → Int} (hp : ∀ j : Int, 2033 ≤ j → j < 3833 → M' j = M j) : ptC M' = ptC M := sm_congr (fun k hk => by
  have e : pyC M' (k : Int) = pyC M (k : Int) := sm_congr (fun j hj => by unfold pyI; rw [hp _ (by omega) (by omega)])
  unfold ptI
  rw [e])
set_option maxHeartbeats 4000000 in
set_option maxRecDepth 100000 in
theorem cbA_c {M M' : Int → Int} (hq : ∀ t w : Int, 0 ≤ t → t < 600 → 0 ≤ w → w < 3 → qb M' t (5 + w).toNat = qb M t (5 + w).toNat) : cbA M' = cbA M := sm_congr (fun k hk => sm_congr (fun j hj => hq _ _ (by omega) (by omega) (by omega) (by omega)))
set_option maxHeartbeats 4000000 in
set_option maxRecDepth 100000 in
theorem R0_cg {O O' : Of} {M M' : Int → Int} (h : R0 O M) (ho : O' 0 = O 0 ∧ O' 1 = O 1) (hm : ∀ j : Int, (0 ≤ j ∧ j < 2) ∨ j = 3 ∨ (5 ≤ j ∧ j < 8) → M' j = M j) (hp : ∀ j : Int, 2033 ≤ j → j < 3833 → M' j = M j) (hq : ∀ t w : Int, 0 ≤ t → t < 600 → 0 ≤ w → w < 3 → qb M' t (5 + w).toNat = qb M t (5 + w).toNat) : R0 O' M' := by
  obtain ⟨a1, a2, a3, a4, a5, a6, a7⟩ := h
  unfold R0
  rw [ho.1, ho.2, hm 0 (by omega), hm 1 (by omega), hm 3 (by omega), hm 5 (by omega), hm 6 (by omega), hm 7 (by omega), ptC_c hp, cbA_c hq]
  exact ⟨a1, a2, a3, fun i i1 i2 => by rw [hm _ (by omega)]; exact a4 i i1 i2, a5, a6, a7⟩
/- what always holds of a row -/
def RI (M : Int → Int) : Prop := ∀ t w : Int, 0 ≤ t → t < 600 → 0 ≤ w → w < 3 → (0 < pd M w t → qb M t (2 + w).toNat = 1 ∧ ¬ clM M t = 0) ∧ (qb M t (5 + w).toNat = 1 → 0 < pd M w t) ∧ (M (8 + 15 * w + 9) = t + 1 → pd M w t = 0 ∧ ¬ clM M t = 0) ∧ (0 < ds M t → ¬ clM M t = 0)
set_option maxHeartbeats 4000000 in
set_option maxRecDepth 100000 in
theorem RI_cg {M M' : Int → Int} (h : RI M) (hD : SmD M M') (hp : ∀ j : Int, (1433 ≤ j ∧ j < 3833) → M' j = M j) (h9 : ∀ w : Int, 0 ≤ w → w < 3 → M' (8 + 15 * w + 9) = M (8 + 15 * w + 9) ∨ M' (8 + 15 * w + 9) = 0) (hq2 : ∀ t w : Int, 0 ≤ t → t < 600 → 0 ≤ w → w < 3 → qb M t (2 + w).toNat = 1 → qb M' t (2 + w).toNat = 1) (hq5 : ∀ t w : Int, 0 ≤ t → t < 600 → 0 ≤ w → w < 3 → qb M' t (5 + w).toNat = qb M t (5 + w).toNat) : RI M' := by
  intro t w t1 t2 w1 w2
  obtain ⟨a1, a2, a3, a4⟩ := h t w t1 t2 w1 w2
  have e1 : pd M' w t = pd M w t := hp _ (by omega)
  have e2 : ds M' t = ds M t := hp _ (by omega)
  rw [e1, e2, clM_c hD ⟨t1, t2⟩, hq5 t w t1 t2 w1 w2]
  refine ⟨fun c => ⟨hq2 t w t1 t2 w1 w2 (a1 c).1, (a1 c).2⟩, a2, fun c => ?_, a4⟩
  rcases h9 w w1 w2 with g | g
  · rw [g] at c; exact a3 c
  · omega
def RR (O : Of) (M : Int → Int) : Prop := RF O M ∧ RD O M ∧ RP O M ∧ RW O M ∧ RM O M ∧ RQ O M ∧ R0 O M ∧ RI M
