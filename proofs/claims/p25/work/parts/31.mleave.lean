/-! THE REFERENCE's row: a customer goes -/
def tsM (M : Int → Int) (w r : Int) : Nat → (Int → Int)
  | 0 => M
  | j + 1 => up (tsM M w r j) (8 + 15 * w + (1 + (r + (j : Int)))) (tsM M w r j (8 + 15 * w + (1 + (r + (j : Int)) + 1)))
def toR (M : Int → Int) (w r : Int) : Int → Int := up (tsM (moM M w 0 (-1)) w r (7 - r).toNat) (8 + 15 * w + 8) 0