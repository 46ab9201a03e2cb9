/-! PURE: the first one taken out of a row, said in two ways -/
set_option maxHeartbeats 4000000 in
set_option maxRecDepth 100000 in
theorem to_eq (M : Int → Int) {w : Int} (hw : 0 ≤ w ∧ w < 3) : toM M w = toR M w 0 := by
  funext i
  rw [toR_at (by omega)]
  unfold toM moM
  simp only [up_ap]
  obtain ⟨b, hb⟩ : ∃ b, b = 8 + 15 * w := ⟨_, rfl⟩
  rw [← hb]
  rcases (show i = b ∨ i = b + 1 ∨ i = b + 2 ∨ i = b + 3 ∨ i = b + 4 ∨ i = b + 5 ∨ i = b + 6 ∨ i = b + 7 ∨ i = b + 8 ∨ (i < b ∨ b + 8 < i) by omega) with rfl | rfl | rfl | rfl | rfl | rfl | rfl | rfl | rfl | h
  · repeat (first | rw [if_pos (by omega)] | rw [if_neg (by omega)])
    rw [Int.add_zero]
    omega
  · repeat (first | rw [if_pos (by omega)] | rw [if_neg (by omega)])
    congr 1
    omega
  · repeat (first | rw [if_pos (by omega)] | rw [if_neg (by omega)])
    congr 1
    omega
  · repeat (first | rw [if_pos (by omega)] | rw [if_neg (by omega)])
    congr 1
    omega
  · repeat (first | rw [if_pos (by omega)] | rw [if_neg (by omega)])
    congr 1
    omega
  · repeat (first | rw [if_pos (by omega)] | rw [if_neg (by omega)])
    congr 1
    omega
  · repeat (first | rw [if_pos (by omega)] | rw [if_neg (by omega)])
    congr 1
    omega
  · repeat (first | rw [if_pos (by omega)] | rw [if_neg (by omega)])
    congr 1
    omega
  · repeat (first | rw [if_pos (by omega)] | rw [if_neg (by omega)])
  · repeat (first | rw [if_pos (by omega)] | rw [if_neg (by omega)])
