/-! THE LAW: acts -/
set_option maxHeartbeats 4000000 in
set_option maxRecDepth 100000 in
theorem ed_nc {S : Hp} {O' : Of} {v : Int} {c : Nat} (h1 : 24 < c) : edS (acS S O') v 0 c = S 0 c := by
  have w : acS S O' 0 c = S 0 c := by
    unfold acS bgS
    rw [ho_nc (by omega), ho_nc (by omega)]
  unfold edS
  split
  · unfold rcT
    rw [hr_nc (by omega), hr_nc (by omega), w]
  · exact w
/- two calls, of the class and of the model, with one answer -/
set_option maxHeartbeats 4000000 in
set_option maxRecDepth 100000 in
theorem SP_sell {M : Int → Int} {t : Int} (h : SP M) : SP (slM M t) := by
  unfold slM
  split
  · split
    · exact h
    · split
      · exact h
      · exact SP_e h (DPe_eq (fun j j1 j2 => mk_ne (by omega)) (fun v v1 v2 => mk_ne (by omega)))
  · exact h
set_option maxHeartbeats 4000000 in
set_option maxRecDepth 100000 in
theorem SP_draw {M : Int → Int} {d : Int} (h : SP M) : SP (dwM M d) := by
  unfold dwM
  split
  · split
    · exact h
    · refine SP_e h (DPe_eq (fun j j1 j2 => ?_) (fun v v1 v2 => ?_))
      · unfold lotM
        rw [up_ne (by omega), up_ne (by omega), up_ne (by omega)]
      · unfold lotM
        rw [up_ne (by omega), up_ne (by omega), up_ne (by omega)]
  · exact h
set_option maxHeartbeats 4000000 in
set_option maxRecDepth 100000 in
theorem SP_come {O : Of} {M : Int → Int} {w t : Int} (hR : RR O M) (h : SP M) : SP (cmM M w t) := by
  unfold cmM
  split
  · next c =>
    have b := (hR.2.2.2.1 w (by omega) (by omega)).1.1
    split
    · exact h
    · refine SP_e h (DPe_eq (fun j j1 j2 => ?_) (fun v v1 v2 => ?_))
      · unfold moM cm0
        rw [up_ne (by omega), up_ne (by omega)]
      · unfold moM cm0
        rw [up_ne (by omega), up_ne (by omega)]
  · exact h
set_option maxHeartbeats 4000000 in
set_option maxRecDepth 100000 in
theorem SP_pass {O : Of} {M : Int → Int} {t : Int} (hT : T1 O M) (h9 : M 0 ≤ 9999) (h : SP M) : SP (paM M t) := by
  unfold paM
  split
  · split
    · exact h
    · exact SP_e h (DPe_ticks hT _ (by omega))
  · exact h