/-! THE REFERENCE: the text typed, states kept -/
def shI (M : Int → Int) (w : Int) : Int := 2 * M (8 + 15 * w) + (if 0 < M (8 + 15 * w + 9) then 1 else 0)
def shV (M : Int → Int) : Int := if shI M 1 < shI M 0 then (if shI M 2 < shI M 1 then 2 else 1) else (if shI M 2 < shI M 0 then 2 else 0)