/-! THE LAW: the start's rows, the rest -/
set_option maxHeartbeats 4000000 in
set_option maxRecDepth 100000 in
theorem SI_RD : RD (SI 0) (SI 0 31) := by
  refine ⟨fun d d1 d2 => by rw [SI_31 0 (j := 53 + 2 * d) (by omega), SI_31 0 (j := 53 + 2 * d + 1) (by omega)]; omega, fun d d1 d2 => ?_⟩
  rw [SI_31 0 (j := 53 + 2 * d) (by omega), if_neg (by decide)]
  refine ⟨?_, ?_, fun c c1 c2 => by rw [if_neg (by decide)]; rfl⟩
  · show (if 0 ≤ d ∧ d < 6 then (-5 : Int) else 0) = -5
    rw [if_pos ⟨d1, d2⟩]
  · have e : sdC (SI 0 31) d = 0 := sm_z (fun k hk => SI_q 0 (by omega))
    rw [e]
    rfl
set_option maxHeartbeats 4000000 in
set_option maxRecDepth 100000 in
theorem SI_RW : RW (SI 0) (SI 0 31) := fun w w1 w2 => by
  rw [SI_31 0 (j := 8 + 15 * w) (by omega), SI_31 0 (j := 8 + 15 * w + 9) (by omega), SI_31 0 (j := 8 + 15 * w + 10) (by omega), SI_31 0 (j := 8 + 15 * w + 11) (by omega), SI_31 0 (j := 8 + 15 * w + 12) (by omega), SI_31 0 (j := 8 + 15 * w + 13) (by omega), SI_31 0 (j := 8 + 15 * w + 14) (by omega), SI_31 0 (j := 0) (by omega), if_pos rfl]
  refine ⟨⟨by omega, rfl⟩, fun z z1 z2 => by omega, fun z z1 z2 => by rw [SI_31 0 (by omega)]; omega, ⟨by omega, ?_⟩, ⟨fun _ => rfl, fun h => absurd rfl h, by omega, by omega⟩, rfl, rfl, rfl, rfl⟩
  show (if 0 ≤ w ∧ w < 3 then (-5 : Int) else 0) = -5
  rw [if_pos ⟨w1, w2⟩]
set_option maxHeartbeats 4000000 in
set_option maxRecDepth 100000 in
theorem SI_RM : RM (SI 0) (SI 0 31) := by
  have e : SI 0 31 2 = 0 := rfl
  refine ⟨by omega, rfl, fun i i1 i2 => by omega⟩
set_option maxHeartbeats 4000000 in
set_option maxRecDepth 100000 in
theorem SI_RQ : RQ (SI 0) (SI 0 31) := by
  have e : opC (SI 0 31) = 0 := sm_z (fun k hk => SI_o (by omega))
  have e1 : SI 0 21 0 = 0 := rfl
  have e4 : SI 0 31 4 = 0 := rfl
  refine ⟨⟨by rw [e]; rfl, by omega⟩, ⟨rfl, by omega⟩, fun i i1 i2 => by omega, fun i j i1 i2 i3 => by omega, fun t t1 t2 h => ?_, fun t t1 t2 => ?_⟩
  · unfold ds at h
    rw [SI_31 0 (by omega)] at h
    omega
  · unfold ds
    rw [SI_31 0 (j := 1433 + t) (by omega)]
    omega
set_option maxHeartbeats 4000000 in
set_option maxRecDepth 100000 in
theorem SI_R0 : R0 (SI 0) (SI 0 31) := by
  have e0 : SI 0 31 0 = 0 := rfl
  have e1 : SI 0 31 1 = 1 := rfl
  have e5 : SI 0 31 5 = 0 := rfl
  have e6 : SI 0 31 6 = 3 := rfl
  have e7 : SI 0 31 7 = 12 := rfl
  have p : ptC (SI 0 31) = 0 := sm_z (fun k hk => by
    unfold ptI
    have z : pyC (SI 0 31) (k : Int) = 0 := sm_z (fun j hj => SI_p (by omega) (by omega))
    rw [z]
    rfl)
  have c : cbA (SI 0 31) = 0 := sm_z (fun k hk => sm_z (fun j hj => SI_q _ (by omega)))
  refine ⟨⟨rfl, by omega, by omega⟩, ⟨rfl, by omega, by omega⟩, ⟨by rw [p]; rfl, by rw [c]; rfl, rfl⟩, fun i i1 i2 => ?_, by omega, by omega, by omega⟩
  rcases (show i = 0 ∨ i = 1 ∨ i = 2 by omega) with rfl | rfl | rfl <;> rfl
set_option maxHeartbeats 4000000 in
set_option maxRecDepth 100000 in
theorem SI_RC : RC (SI 0 31) := by
  have e0 : SI 0 31 0 = 0 := rfl
  have e2 : SI 0 31 2 = 0 := rfl
  have en : nM (SI 0 31) = 0 := rfl
  have z : ∀ g : Gw, cm g (SI 0 31) 0 = 0 := fun g => rfl
  refine ⟨fun w d w1 w2 d1 d2 => ?_, fun i i1 i2 => by omega⟩
  rw [en, z, z, z, z]
  unfold wt
  rw [SI_31 0 (j := 8 + 15 * w + 9) (by omega), if_pos rfl]
  omega
set_option maxHeartbeats 4000000 in
set_option maxRecDepth 100000 in
theorem SI_T1 : T1 (SI 0) (SI 0 31) := ⟨⟨SI_RF, SI_RD, SI_RP, SI_RW, SI_RM, SI_RQ, SI_R0, SI_RI⟩, SI_RC, SI_PB, by
  have e0 : SI 0 31 0 = 0 := rfl
  have e4 : SI 0 31 4 = 0 := rfl
  omega⟩
