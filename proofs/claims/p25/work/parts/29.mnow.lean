/-! THE REFERENCE's row: a sale, a draw, who comes -/
def slR (M : Int → Int) (t : Int) : Int := if 0 ≤ t ∧ t < 600 then (if M (53 + 2 * (t / 100)) = 1 then -4 else if qb M t 0 = 1 then -5 else 10 * sdC (mkM M t 0 1) (t / 100)) else -1
def slM (M : Int → Int) (t : Int) : Int → Int := if 0 ≤ t ∧ t < 600 then (if M (53 + 2 * (t / 100)) = 1 then M else if qb M t 0 = 1 then M else mkM M t 0 1) else M
def lotM (M : Int → Int) (d : Int) : Int → Int := up (up M 1 ((75 * M 1 + 74) % ((65537 : Nat) : Int))) (53 + 2 * d) 1
def dwM (M : Int → Int) (d : Int) : Int → Int := if 0 ≤ d ∧ d ≤ 5 then (if M (53 + 2 * d) = 1 then M else up (lotM M d) (53 + 2 * d + 1) (lotM M d 1 % 100)) else M
def dwR (M : Int → Int) (d : Int) : Int := if 0 ≤ d ∧ d ≤ 5 then (if M (53 + 2 * d) = 1 then -4 else (75 * M 1 + 74) % ((65537 : Nat) : Int) % 100) else -1
set_option maxHeartbeats 4000000 in
set_option maxRecDepth 100000 in
theorem lot_1 {M : Int → Int} {d : Int} (hd : 0 ≤ d) : lotM M d 1 = (75 * M 1 + 74) % ((65537 : Nat) : Int) := by
  unfold lotM
  rw [up_ne (by omega), up_eq rfl]
def cm0 (M : Int → Int) (w t : Int) : Int → Int := up M (8 + 15 * w + (1 + M (8 + 15 * w))) t
def cmM (M : Int → Int) (w t : Int) : Int → Int := if (0 ≤ w ∧ w ≤ 2) ∧ 0 ≤ t ∧ t < 600 then (if M (8 + 15 * w) = 8 then M else moM (cm0 M w t) w 0 1) else M
def cmR (M : Int → Int) (w t : Int) : Int := if (0 ≤ w ∧ w ≤ 2) ∧ 0 ≤ t ∧ t < 600 then (if M (8 + 15 * w) = 8 then -3 else M (8 + 15 * w) + 1) else -1
set_option maxHeartbeats 4000000 in
set_option maxRecDepth 100000 in
theorem cm_size {M : Int → Int} {w t : Int} (h : 0 ≤ M (8 + 15 * w)) : moM (cm0 M w t) w 0 1 (8 + 15 * w) = M (8 + 15 * w) + 1 := by
  unfold moM cm0
  rw [up_eq (by omega), up_ne (by omega), Int.add_zero]