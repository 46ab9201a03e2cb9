/-! THE LAW: all of it over the small machine -/
set_option maxHeartbeats 4000000 in
set_option maxRecDepth 100000 in
theorem i32_td (x : Int32) : tdR x.toInt := by
  have h1 := Int32.le_toInt x
  have h2 := Int32.toInt_lt x
  unfold tdR
  omega
set_option maxHeartbeats 4000000 in
set_option maxRecDepth 100000 in
theorem pure_law : ∀ (L : Nat) (xs : Nat → Int32), L ≤ 2048 → Wp 0 18 [some (.inr (0, 40)), some (.inr (0, 23)), some (.inr (0, 30)), some (.inl 0)] [] (SL L xs) (fun v _ => v = some (.inl 1)) := fun L xs hL => law_loop (fun S h => LO_doAll h) (L := (L : Int)) (by omega) (X := fun j => (xs j.toNat).toInt) (fun j => i32_td _) (fun T => rfl) L 0 (SL L xs) (LR_start SI_T1 L xs) rfl rfl (by omega) (by omega) (by omega)
