/-! THE REFERENCE's row: what is counted -/
def pyI (M : Int → Int) (w t : Int) : Int := if 0 < M (2033 + 600 * w + t) then 1 else 0
def pyC (M : Int → Int) (t : Int) : Int := sm (fun k => pyI M (k : Int) t) 3
set_option maxHeartbeats 4000000 in
set_option maxRecDepth 100000 in
theorem py_01 (M : Int → Int) (w t : Int) : 0 ≤ pyI M w t ∧ pyI M w t ≤ 1 := by
  unfold pyI
  split <;> omega
set_option maxHeartbeats 4000000 in
set_option maxRecDepth 100000 in
theorem pyC_b (M : Int → Int) (t : Int) : 0 ≤ pyC M t ∧ pyC M t ≤ 3 := by
  have h := sm_b (f := fun k => pyI M (k : Int) t) (c := 1) (by omega) 3 (fun k _ => py_01 M k t)
  unfold pyC
  omega
def ptI (M : Int → Int) (t : Int) : Int := if 1 < pyC M t then 1 else 0
def ptC (M : Int → Int) : Int := sm (fun k => ptI M (k : Int)) 600
def opI (M : Int → Int) (t : Int) : Int := if 0 < M (1433 + t) then 1 else 0
def opC (M : Int → Int) : Int := sm (fun k => opI M (k : Int)) 600
def cbC (M : Int → Int) (t : Int) : Int := sm (fun x => qb M t (5 + (x : Int)).toNat) 3
def cbA (M : Int → Int) : Int := sm (fun k => cbC M (k : Int)) 600