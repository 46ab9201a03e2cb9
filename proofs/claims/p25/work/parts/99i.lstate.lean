/-! THE LAW: settings and states -/
set_option maxHeartbeats 4000000 in
set_option maxRecDepth 100000 in
theorem ac_hi {S : Hp} {O' : Of} {c : Nat} (h : 23 ≤ c) : acS S O' 0 c = S 0 c := by
  unfold acS bgS
  rw [ho_nc (by omega), ho_nc (by omega)]