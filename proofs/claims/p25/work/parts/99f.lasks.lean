/-! THE LAW: what is told -/
set_option maxHeartbeats 4000000 in
set_option maxRecDepth 100000 in
theorem RR_Rw {O : Of} {M : Int → Int} (h : RR O M) : RwB O := by
  intro w w1 w2
  obtain ⟨b1, b2, b3, -⟩ := h.2.2.2.1 w w1 w2
  rw [b1.2]
  exact ⟨b1.1, fun z z1 z2 => by rw [b2 z z1 z2]; exact b3 z z1 (by omega)⟩
set_option maxHeartbeats 4000000 in
set_option maxRecDepth 100000 in
theorem RR_Sl {O : Of} {M : Int → Int} (h : RR O M) : SlB M := fun w w1 w2 => ⟨(h.2.2.2.1 w w1 w2).1.1, (h.2.2.2.1 w w1 w2).2.2.1⟩
set_option maxHeartbeats 4000000 in
set_option maxRecDepth 100000 in
theorem RR_w9 {O : Of} {M : Int → Int} (h : RR O M) : ∀ w : Int, 0 ≤ w → w < 3 → (0 ≤ M (8 + 15 * w) ∧ M (8 + 15 * w) ≤ 8) ∧ 0 ≤ M (8 + 15 * w + 9) ∧ M (8 + 15 * w + 9) ≤ 600 := fun w w1 w2 => ⟨(h.2.2.2.1 w w1 w2).1.1, (h.2.2.2.1 w w1 w2).2.2.2.1.1⟩
set_option maxHeartbeats 4000000 in
set_option maxRecDepth 100000 in
theorem RR_o12 {O : Of} {M : Int → Int} (h : RR O M) : ∀ w : Int, 0 ≤ w → w < 3 → (0 ≤ O 11 w ∧ O 11 w ≤ 8) ∧ -5 ≤ O 12 w ∧ O 12 w < 600 := fun w w1 w2 => ⟨by have b := (h.2.2.2.1 w w1 w2).1; rw [b.2]; exact b.1, RR_12 h w w1 w2⟩
set_option maxHeartbeats 4000000 in
set_option maxRecDepth 100000 in
theorem Ok_Gm {O : Of} {M : Int → Int} (h : Ok1 O M) : Gm M := RR_Gm h.1.1 (by have := h.1.2.2.2; have := h.2.2; omega)