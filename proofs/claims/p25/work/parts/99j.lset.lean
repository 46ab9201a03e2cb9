/-! THE LAW: settings and states, the calls -/
set_option maxHeartbeats 4000000 in
set_option maxRecDepth 100000 in
theorem SP_set {M : Int → Int} {w v : Int} (hw : 0 ≤ w ∧ w ≤ 2) (h : SP M) : SP (up M (5 + w) v) := SP_e h (DPe_eq (fun j j1 j2 => up_ne (by omega)) (fun u u1 u2 => up_ne (by omega)))