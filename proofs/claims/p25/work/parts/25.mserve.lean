/-! THE REFERENCE's row: windows serve, the clerk -/
def toM (M : Int → Int) (w : Int) : Int → Int :=
  let A := moM M w 0 (-1)
  let A1 := up A (8 + 15 * w + 1) (A (8 + 15 * w + 2))
  let A2 := up A1 (8 + 15 * w + 2) (A1 (8 + 15 * w + 3))
  let A3 := up A2 (8 + 15 * w + 3) (A2 (8 + 15 * w + 4))
  let A4 := up A3 (8 + 15 * w + 4) (A3 (8 + 15 * w + 5))
  let A5 := up A4 (8 + 15 * w + 5) (A4 (8 + 15 * w + 6))
  let A6 := up A5 (8 + 15 * w + 6) (A5 (8 + 15 * w + 7))
  let A7 := up A6 (8 + 15 * w + 7) (A6 (8 + 15 * w + 8))
  up A7 (8 + 15 * w + 8) 0
def svM (M : Int → Int) (w : Int) : Int → Int :=
  if 0 < reM (toM M w) w (M (8 + 15 * w + 1)) then awM (toM M w) w (reM (toM M w) w (M (8 + 15 * w + 1)))
  else if toM M w 5 = 1 ∧ ¬ M (8 + 15 * w + 1) % 3 = w then up (up (sdM (toM M w) 1 (M (8 + 15 * w + 1) % 3) w (M (8 + 15 * w + 1))) (8 + 15 * w + 9) (M (8 + 15 * w + 1) + 1)) (8 + 15 * w + 10) 0
  else payM (toM M w) w (M (8 + 15 * w + 1))
set_option maxHeartbeats 4000000 in
set_option maxRecDepth 100000 in
theorem to_ne {M : Int → Int} {w j : Int} (h : j < 8 + 15 * w ∨ 8 + 15 * w + 8 < j) : toM M w j = M j := by
  simp only [toM, moM]
  repeat rw [up_ne (by omega)]
set_option maxHeartbeats 4000000 in
set_option maxRecDepth 100000 in
theorem re_b (M : Int → Int) (w t : Int) : 0 ≤ reM M w t ∧ reM M w t ≤ 5 := by
  unfold reM
  repeat' split
  all_goals omega