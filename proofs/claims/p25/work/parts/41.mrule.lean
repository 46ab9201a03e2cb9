/-! THE REFERENCE: paid by tickets, what rules would bring -/
def pdV (M : Int → Int) (t : Int) : Int := if 0 < cnI M 0 t + cnI M 1 t + cnI M 2 t then (cnI M 0 t + cnI M 1 t + cnI M 2 t) * przM M t else 0
def pdC (M : Int → Int) : Int := sm (fun k => pdV M (k : Int)) 600
set_option maxHeartbeats 4000000 in
set_option maxRecDepth 100000 in
theorem cnI_01 (M : Int → Int) (w t : Int) : cnI M w t = 0 ∨ cnI M w t = 1 := by
  unfold cnI
  split <;> omega
/- a rule tried -/
def rtM (M : Int → Int) (r : Int) (n : Nat) : Int → Int := pvM (up M 5 r) n
def pyS (M : Int → Int) : Int := M 20 + M 35 + M 50
def awS (M : Int → Int) : Int := M 21 + M 36 + M 51
def irV (M : Int → Int) (r t a : Int) : Int := if a = 0 then pyS (rtM M r t.toNat) - pyS M else if a = 1 then ptC (rtM M r t.toNat) else if a = 2 then awS (rtM M r t.toNat) - awS M else coS (rtM M r t.toNat) - rtM M r t.toNat 3 - (coS M - M 3) + 100000