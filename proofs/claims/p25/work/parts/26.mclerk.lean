/-! THE REFERENCE's row: the windows act, the clerk settles -/
set_option maxHeartbeats 4000000 in
set_option maxRecDepth 100000 in
theorem af_ne {M : Int → Int} {w r j : Int} (h : j ≤ 8 + 15 * w + 8 ∨ 8 + 15 * w + 14 < j) : awM (frM M w) w r j = M j := by
  simp only [awM, frM]
  repeat rw [up_ne (by omega)]
set_option maxHeartbeats 4000000 in
set_option maxRecDepth 100000 in
theorem af_9 (M : Int → Int) (w r : Int) : awM (frM M w) w r (8 + 15 * w + 9) = 0 := by
  simp only [awM, frM]
  rw [up_ne (by omega), up_ne (by omega), up_ne (by omega), up_eq rfl]
def wa1 (M : Int → Int) (w : Int) : Int → Int := if 0 < M (8 + 15 * w + 9) ∧ M 7 ≤ M (8 + 15 * w + 10) then awM (frM M w) w 6 else M
def waM (M : Int → Int) (w : Int) : Int → Int := if wa1 M w (8 + 15 * w + 9) = 0 ∧ 0 < wa1 M w (8 + 15 * w) then svM (wa1 M w) w else wa1 M w
/- the clerk: the first dispute -/
def fdM (M : Int → Int) : Nat → Int
  | 0 => -5
  | k + 1 => if 0 < M (1433 + (k : Int)) ∧ (fdM M k = -5 ∨ M (1433 + (k : Int)) < M (1433 + fdM M k)) then (k : Int) else fdM M k
set_option maxHeartbeats 4000000 in
set_option maxRecDepth 100000 in
theorem fdM_b (M : Int → Int) : ∀ k : Nat, fdM M k = -5 ∨ (0 ≤ fdM M k ∧ fdM M k < k) := by
  intro k
  induction k with
  | zero => exact Or.inl rfl
  | succ k ih =>
    unfold fdM
    split
    · right
      omega
    · omega
def cnI (M : Int → Int) (w t : Int) : Int := if 0 < M (2033 + 600 * w + t) ∧ qb M t (5 + w).toNat = 0 then 1 else 0
set_option maxHeartbeats 4000000 in
set_option maxRecDepth 100000 in
theorem cn_01 (M : Int → Int) (w t : Int) : cnI M w t = 0 ∨ cnI M w t = 1 := by
  unfold cnI
  split <;> omega
def bsM (M : Int → Int) (t : Int) : Nat → Int
  | 0 => -5
  | k + 1 => if cnI M (k : Int) t = 1 ∧ (bsM M t k = -5 ∨ M (2033 + 600 * (k : Int) + t) < M (2033 + 600 * bsM M t k + t)) then (k : Int) else bsM M t k
set_option maxHeartbeats 4000000 in
set_option maxRecDepth 100000 in
theorem bs_b (M : Int → Int) (t : Int) : ∀ k : Nat, bsM M t k = -5 ∨ (0 ≤ bsM M t k ∧ bsM M t k < k) := by
  intro k
  induction k with
  | zero => exact Or.inl rfl
  | succ k ih =>
    unfold bsM
    split
    · right
      omega
    · omega
def stM (M : Int → Int) (z t b : Int) : Int → Int := if ¬ z = b ∧ cnI M z t = 1 then up (mkM M t (5 + z).toNat 1) 3 (mkM M t (5 + z).toNat 1 3 + przM (mkM M t (5 + z).toNat 1) t) else M
set_option maxHeartbeats 4000000 in
set_option maxRecDepth 100000 in
theorem st_ne {M : Int → Int} {z t b j : Int} (h : ¬ j = 3) (h2 : ¬ j = 833 + t) : stM M z t b j = M j := by
  unfold stM
  split
  · rw [up_ne h, mk_ne h2]
  · rfl
set_option maxHeartbeats 4000000 in
set_option maxRecDepth 100000 in
theorem FlB_st {M : Int → Int} {z t b : Int} (hF : FlB M) (hz : 0 ≤ z ∧ z < 3) : FlB (stM M z t b) := by
  unfold stM
  split
  · exact FlB_up (FlB_mk hF (by omega) (Or.inr rfl)) (by omega)
  · exact hF
def snM (M : Int → Int) (t b : Int) : Nat → (Int → Int)
  | 0 => M
  | k + 1 => stM (snM M t b k) (k : Int) t b
set_option maxHeartbeats 4000000 in
set_option maxRecDepth 100000 in
theorem sn_ne {M : Int → Int} {t b j : Int} (h : ¬ j = 3) (h2 : ¬ j = 833 + t) : ∀ k : Nat, snM M t b k j = M j := by
  intro k
  induction k with
  | zero => rfl
  | succ k ih =>
    unfold snM
    rw [st_ne h h2]
    exact ih
set_option maxHeartbeats 4000000 in
set_option maxRecDepth 100000 in
theorem FlB_sn {M : Int → Int} {t b : Int} (hF : FlB M) : ∀ k : Nat, k ≤ 3 → FlB (snM M t b k) := by
  intro k
  induction k with
  | zero => intro _; exact hF
  | succ k ih =>
    intro hk
    unfold snM
    exact FlB_st (ih (by omega)) (by omega)
def csM (M : Int → Int) : Int → Int := if fdM M 600 = -5 then M else snM (up M (1433 + fdM M 600) 0) (fdM M 600) (bsM (up M (1433 + fdM M 600) 0) (fdM M 600) 3) 3