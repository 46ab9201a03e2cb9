/-! THE LAW: what would be -/
set_option maxHeartbeats 4000000 in
set_option maxRecDepth 100000 in
theorem s3_py {O : Of} {M : Int → Int} (h : RW O M) : s3 (O 15) = pyS M := by
  have e0 := (h 0 (by omega) (by omega)).2.2.2.2.2.2.1
  have e1 := (h 1 (by omega) (by omega)).2.2.2.2.2.2.1
  have e2 := (h 2 (by omega) (by omega)).2.2.2.2.2.2.1
  unfold s3 pyS
  rw [e0, e1, e2]
  rfl
set_option maxHeartbeats 4000000 in
set_option maxRecDepth 100000 in
theorem s3_aw {O : Of} {M : Int → Int} (h : RW O M) : s3 (O 16) = awS M := by
  have e0 := (h 0 (by omega) (by omega)).2.2.2.2.2.2.2.1
  have e1 := (h 1 (by omega) (by omega)).2.2.2.2.2.2.2.1
  have e2 := (h 2 (by omega) (by omega)).2.2.2.2.2.2.2.1
  unfold s3 awS
  rw [e0, e1, e2]
  rfl