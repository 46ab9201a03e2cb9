/-! THE REFERENCE's row: who goes, the whole of it -/
set_option maxHeartbeats 4000000 in
set_option maxRecDepth 100000 in
theorem tsM_at {M : Int → Int} {w r : Int} : ∀ (n : Nat) (i : Int), tsM M w r n i = if 8 + 15 * w + (1 + r) ≤ i ∧ i < 8 + 15 * w + (1 + r) + n then M (i + 1) else M i
  | 0, i => by
    rw [if_neg (by omega)]
    rfl
  | n + 1, i => by
    unfold tsM
    by_cases h : i = 8 + 15 * w + (1 + (r + (n : Int)))
    · rw [up_eq h, tsM_at n, if_neg (by omega), if_pos (by omega), h]
      congr 1
      omega
    · rw [up_ne h, tsM_at n]
      by_cases h2 : 8 + 15 * w + (1 + r) ≤ i ∧ i < 8 + 15 * w + (1 + r) + n
      · rw [if_pos h2, if_pos (by omega)]
      · rw [if_neg h2, if_neg (by omega)]
set_option maxHeartbeats 4000000 in
set_option maxRecDepth 100000 in
theorem toR_at {M : Int → Int} {w r : Int} (h0 : 0 ≤ r ∧ r < 8) (i : Int) : toR M w r i = if i = 8 + 15 * w + 8 then 0 else if i = 8 + 15 * w then M (8 + 15 * w) - 1 else if 8 + 15 * w + (1 + r) ≤ i ∧ i < 8 + 15 * w + 8 then M (i + 1) else M i := by
  unfold toR
  by_cases h : i = 8 + 15 * w + 8
  · rw [up_eq h, if_pos h]
  · rw [up_ne h, if_neg h, tsM_at]
    unfold moM
    by_cases h2 : i = 8 + 15 * w
    · rw [if_neg (by omega), up_eq (by omega), if_pos h2, Int.add_zero]
      omega
    · rw [if_neg h2]
      by_cases h3 : 8 + 15 * w + (1 + r) ≤ i ∧ i < 8 + 15 * w + 8
      · rw [if_pos (by omega), if_pos h3, up_ne (by omega)]
      · rw [if_neg (by omega), if_neg h3, up_ne (by omega)]
def SlB (M : Int → Int) : Prop := ∀ w : Int, 0 ≤ w → w < 3 → (0 ≤ M (8 + 15 * w) ∧ M (8 + 15 * w) ≤ 8) ∧ ∀ j : Int, 0 ≤ j → j < 8 → 0 ≤ M (8 + 15 * w + (1 + j)) ∧ M (8 + 15 * w + (1 + j)) < 600
set_option maxHeartbeats 4000000 in
set_option maxRecDepth 100000 in
theorem slots_toR {M : Int → Int} {w r : Int} (h0 : 0 ≤ r ∧ r < 8) (h : ∀ j : Int, 0 ≤ j → j < 8 → 0 ≤ M (8 + 15 * w + (1 + j)) ∧ M (8 + 15 * w + (1 + j)) < 600) : ∀ j : Int, 0 ≤ j → j < 8 → 0 ≤ toR M w r (8 + 15 * w + (1 + j)) ∧ toR M w r (8 + 15 * w + (1 + j)) < 600 := by
  intro j h1 h2
  rw [toR_at h0]
  by_cases h3 : j = 7
  · rw [if_pos (by omega)]; omega
  · rw [if_neg (by omega), if_neg (by omega)]
    split
    · have e : 8 + 15 * w + (1 + j) + 1 = 8 + 15 * w + (1 + (j + 1)) := by omega
      rw [e]
      exact h (j + 1) (by omega) (by omega)
    · exact h j h1 h2
def lvi (t w : Int) : Nat → (Int → Int) × Int → (Int → Int) × Int
  | 0, p => p
  | n + 1, p => lvi t w n (if p.1 (8 + 15 * w + (1 + (n : Int))) = t then toR p.1 w n else p.1, if p.1 (8 + 15 * w + (1 + (n : Int))) = t then p.2 + 1 else p.2)
set_option maxHeartbeats 4000000 in
set_option maxRecDepth 100000 in
theorem lvi_b (t w : Int) : ∀ (n : Nat) (p : (Int → Int) × Int), p.2 ≤ (lvi t w n p).2 ∧ (lvi t w n p).2 ≤ p.2 + n
  | 0, p => ⟨Int.le_refl _, by simp [lvi]⟩
  | n + 1, p => by
    have h := lvi_b t w n (if p.1 (8 + 15 * w + (1 + (n : Int))) = t then toR p.1 w n else p.1, if p.1 (8 + 15 * w + (1 + (n : Int))) = t then p.2 + 1 else p.2)
    unfold lvi
    revert h
    dsimp only
    generalize lvi t w n _ = q
    intro h
    by_cases hc : p.1 (8 + 15 * w + (1 + (n : Int))) = t
    · rw [if_pos hc] at h; omega
    · rw [if_neg hc] at h; omega
set_option maxHeartbeats 4000000 in
set_option maxRecDepth 100000 in
theorem lvi_ne (t w : Int) : ∀ (n : Nat) (p : (Int → Int) × Int) (i : Int), n ≤ 8 → ¬ (8 + 15 * w ≤ i ∧ i ≤ 8 + 15 * w + 8) → (lvi t w n p).1 i = p.1 i
  | 0, p, i, _, _ => rfl
  | n + 1, p, i, hn, hi => by
    unfold lvi
    rw [lvi_ne t w n _ i (by omega) hi]
    dsimp only
    split
    · rw [toR_at (by omega), if_neg (by omega), if_neg (by omega), if_neg (by omega)]
    · rfl
def lvW (t w : Int) (p : (Int → Int) × Int) : (Int → Int) × Int := lvi t w (p.1 (8 + 15 * w)).toNat p
def lvT (M : Int → Int) (t : Int) : (Int → Int) × Int := lvW t 2 (lvW t 1 (lvW t 0 (M, 0)))
def lvR (M : Int → Int) (t : Int) : Int := if (lvT M t).2 = 0 then -5 else (lvT M t).2
set_option maxHeartbeats 4000000 in
set_option maxRecDepth 100000 in
theorem lvW_ne {t w : Int} {p : (Int → Int) × Int} {i : Int} (hs : 0 ≤ p.1 (8 + 15 * w) ∧ p.1 (8 + 15 * w) ≤ 8) (hi : ¬ (8 + 15 * w ≤ i ∧ i ≤ 8 + 15 * w + 8)) : (lvW t w p).1 i = p.1 i := lvi_ne t w _ p i (by omega) hi
set_option maxHeartbeats 4000000 in
set_option maxRecDepth 100000 in
theorem lvW_b {t w : Int} {p : (Int → Int) × Int} (hs : 0 ≤ p.1 (8 + 15 * w) ∧ p.1 (8 + 15 * w) ≤ 8) : p.2 ≤ (lvW t w p).2 ∧ (lvW t w p).2 ≤ p.2 + 8 := by
  have h := lvi_b t w (p.1 (8 + 15 * w)).toNat p
  unfold lvW
  omega