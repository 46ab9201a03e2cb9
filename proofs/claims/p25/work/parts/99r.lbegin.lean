/-! THE LAW: the start's rows -/
set_option maxHeartbeats 4000000 in
set_option maxRecDepth 100000 in
theorem SI_q {t : Int} (f : Nat) (ht : 0 ≤ t) : qb (SI 0 31) t f = 0 := by
  unfold qb
  rw [SI_31 0 (by omega), Int.zero_ediv]
  rfl
set_option maxHeartbeats 4000000 in
set_option maxRecDepth 100000 in
theorem SI_c {t : Int} (ht : 0 ≤ t) : clM (SI 0 31) t = 0 := by
  unfold clM
  rw [SI_q 0 ht, if_neg (by decide)]
set_option maxHeartbeats 4000000 in
set_option maxRecDepth 100000 in
theorem SI_p {t w : Int} (ht : 0 ≤ t) (hw : 0 ≤ w) : pyI (SI 0 31) w t = 0 := by
  unfold pyI
  rw [SI_31 0 (by omega)]
  rfl
set_option maxHeartbeats 4000000 in
set_option maxRecDepth 100000 in
theorem SI_o {t : Int} (ht : 0 ≤ t) : opI (SI 0 31) t = 0 := by
  unfold opI
  rw [SI_31 0 (by omega)]
  rfl
set_option maxHeartbeats 4000000 in
set_option maxRecDepth 100000 in
theorem sm_z {f : Nat → Int} {n : Nat} (h : ∀ k, k < n → f k = 0) : sm f n = 0 := by
  have q := sm_b (f := f) (c := 0) (by decide) n (fun k hk => by rw [h k hk]; omega)
  omega
set_option maxHeartbeats 4000000 in
set_option maxRecDepth 100000 in
theorem SI_RF : RF (SI 0) (SI 0 31) := by
  refine ⟨fun t t1 t2 => by rw [SI_31 0 (by omega)]; omega, fun t t1 t2 => ⟨show (0 : Int) ≤ 0 by decide, show (0 : Int) < 16384 by decide⟩, fun t t1 t2 => ⟨?_, fun j j1 j3 j4 => ?_⟩⟩
  · rw [SI_c t1]; rfl
  · have e : fb (SI 0) t j = 0 := by
      unfold fb
      show (0 : Int) / 2 ^ j % 2 = 0
      rw [Int.zero_ediv]
      rfl
    rw [e]
    unfold bitM
    rw [SI_q 0 t1, SI_q 1 t1, SI_o t1, SI_q _ t1, SI_q _ t1]
    split
    · rfl
    · split
      · rfl
      · split
        · rfl
        · split
          · rfl
          · split
            · exact (SI_p t1 (by omega)).symm
            · rfl
set_option maxHeartbeats 4000000 in
set_option maxRecDepth 100000 in
theorem SI_RP : RP (SI 0) (SI 0 31) := fun t t1 t2 => ⟨show (0 : Int) ≤ 0 by decide, fun w w1 w2 => by
  unfold pd
  rw [SI_31 0 (j := 2033 + 600 * w + t) (by omega), SI_31 0 (j := 0) (by omega)]
  omega, fun h => absurd rfl h⟩
set_option maxHeartbeats 4000000 in
set_option maxRecDepth 100000 in
theorem SI_RI : RI (SI 0 31) := fun t w t1 t2 w1 w2 => by
  unfold pd ds
  rw [SI_31 0 (j := 2033 + 600 * w + t) (by omega), SI_31 0 (j := 1433 + t) (by omega), SI_31 0 (j := 8 + 15 * w + 9) (by omega), SI_q (2 + w).toNat t1, SI_q (5 + w).toNat t1]
  exact ⟨fun c => absurd c (by omega), fun c => absurd c (by omega), fun c => absurd c (by omega), fun c => absurd c (by omega)⟩
set_option maxHeartbeats 4000000 in
set_option maxRecDepth 100000 in
theorem SI_PB : PB (SI 0 31) (fun _ => 0) := fun v v1 v2 => by
  unfold wt
  rw [SI_31 0 (j := 8 + 15 * v + 12) (by omega), SI_31 0 (j := 8 + 15 * v + 9) (by omega), SI_31 0 (j := 8 + 15 * v + 11) (by omega), SI_31 0 (j := 0) (by omega), if_pos rfl]
  dsimp only
  omega
