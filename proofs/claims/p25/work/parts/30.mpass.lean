/-! THE REFERENCE's row: time passes -/
def coS (M : Int → Int) : Int := M 19 + M 34 + M 49
/- how many messages there are when those of a tick have been delivered -/
def nT (M : Int → Int) : Nat := (m1 M (M 2).toNat 2).toNat
def pvM (M : Int → Int) : Nat → (Int → Int)
  | 0 => M
  | k + 1 => tkM (pvM M k) (nT (pvM M k))
def paM (M : Int → Int) (t : Int) : Int → Int := if 1 ≤ t ∧ t ≤ 99 then (if 9999 < M 0 + t then M else pvM M t.toNat) else M
def paR (M : Int → Int) (t : Int) : Int := if 1 ≤ t ∧ t ≤ 99 then (if 9999 < M 0 + t then -3 else coS (pvM M t.toNat) - coS M) else -2