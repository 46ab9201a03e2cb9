/-! THE REFERENCE's row: marks, messages, payments -/
def mkM (M : Int → Int) (t : Int) (f : Nat) (b : Int) : Int → Int := up M (833 + t) (M (833 + t) + (b - qb M t f) * 2 ^ f)
set_option maxHeartbeats 4000000 in
set_option maxRecDepth 100000 in
theorem xor_bit : ∀ f, f < 8 → ∀ a, a < 256 → (a ^^^ 2 ^ f) + 2 * (a / 2 ^ f % 2 * 2 ^ f) = a + 2 ^ f := by decide +kernel
set_option maxHeartbeats 4000000 in
set_option maxRecDepth 100000 in
theorem xorI {z : Int} {f : Nat} (hz : 0 ≤ z ∧ z < 256) (hf : f < 8) : bXor z (2 ^ f) = z + 2 ^ f - 2 * (z / 2 ^ f % 2 * 2 ^ f) := by
  obtain ⟨a, rfl⟩ : ∃ a : Nat, z = a := ⟨z.toNat, by omega⟩
  have hp : (2 : Nat) ^ f < 256 := Nat.pow_lt_pow_right (by decide) hf
  have e := bX a (2 ^ f) (by omega) (by omega)
  have e2 : (((2 : Nat) ^ f : Nat) : Int) = 2 ^ f := by simp
  rw [e2] at e
  rw [e]
  have h := xor_bit f hf a (by omega)
  have h3 : (((a ^^^ 2 ^ f) + 2 * (a / 2 ^ f % 2 * 2 ^ f) : Nat) : Int) = ((a + 2 ^ f : Nat) : Int) := by rw [h]
  push_cast at h3
  omega
def sdM (M : Int → Int) (kind to from_ t : Int) : Int → Int := up (up (up (up M (65 + 3 * M 2) (M 0 + M 6)) (65 + 3 * M 2 + 1) (100 * kind + 10 * to + from_)) (65 + 3 * M 2 + 2) t) 2 (M 2 + 1)
def awM (M : Int → Int) (w r : Int) : Int → Int := up (up M (8 + 15 * w + 13) (M (8 + 15 * w + 13) + 1)) (8 + 15 * w + 14) r
def frM (M : Int → Int) (w : Int) : Int → Int := up (up M (8 + 15 * w + 9) 0) (8 + 15 * w + 10) 0
set_option maxHeartbeats 4000000 in
set_option maxRecDepth 100000 in
theorem FlB_up {M : Int → Int} {i v : Int} (hF : FlB M) (hi : i < 833 ∨ 1433 ≤ i) : FlB (up M i v) := by
  intro t h1 h2
  rw [up_ne (by omega)]
  exact hF t h1 h2
set_option maxHeartbeats 4000000 in
set_option maxRecDepth 100000 in
theorem DrW_up {M : Int → Int} {i v : Int} (hW : DrW M) (hi : i < 53 ∨ 65 ≤ i) : DrW (up M i v) := by
  intro d h1 h2
  rw [up_ne (by omega), up_ne (by omega)]
  exact hW d h1 h2
set_option maxHeartbeats 4000000 in
set_option maxRecDepth 100000 in
theorem FlB_mk {M : Int → Int} {t : Int} {f : Nat} {b : Int} (hF : FlB M) (hf : f < 8) (hb : b = 0 ∨ b = 1) : FlB (mkM M t f b) := by
  intro t' h1 h2
  unfold mkM
  by_cases e : t' = t
  · subst e
    rw [up_eq rfl]
    have h := hF t' h1 h2
    unfold qb
    rcases (show f = 0 ∨ f = 1 ∨ f = 2 ∨ f = 3 ∨ f = 4 ∨ f = 5 ∨ f = 6 ∨ f = 7 by omega) with rfl | rfl | rfl | rfl | rfl | rfl | rfl | rfl <;> simp only [Int.reducePow, Int.pow_zero] <;> omega
  · rw [up_ne (by omega)]
    exact hF t' h1 h2
def moM (M : Int → Int) (w f b : Int) : Int → Int := up M (8 + 15 * w + f) (M (8 + 15 * w + f) + b)
def payM0 (M : Int → Int) (w t : Int) : Int → Int := up (moM (moM M w 11 (przM M t)) w 12 1) (2033 + 600 * w + t) (moM (moM M w 11 (przM M t)) w 12 1 0 + 1)
def payM1 (M : Int → Int) (w t : Int) : Int → Int := mkM (payM0 M w t) t (2 + w).toNat 1
def payM (M : Int → Int) (w t : Int) : Int → Int :=
  if w = 0 then sdM (sdM (payM1 M w t) 0 1 w t) 0 2 w t else if w = 1 then sdM (sdM (payM1 M w t) 0 0 w t) 0 2 w t else sdM (sdM (payM1 M w t) 0 0 w t) 0 1 w t
set_option maxHeartbeats 4000000 in
set_option maxRecDepth 100000 in
theorem FlB_mo {M : Int → Int} {w f b : Int} (hF : FlB M) (hw : 0 ≤ w ∧ w < 3) (hf : 0 ≤ f ∧ f < 15) : FlB (moM M w f b) := FlB_up hF (by omega)
set_option maxHeartbeats 4000000 in
set_option maxRecDepth 100000 in
theorem FlB_pay0 {M : Int → Int} {w t : Int} (hF : FlB M) (hw : 0 ≤ w ∧ w < 3) (ht : 0 ≤ t ∧ t < 600) : FlB (payM0 M w t) := FlB_up (FlB_mo (FlB_mo hF hw (by omega)) hw (by omega)) (by omega)
set_option maxHeartbeats 4000000 in
set_option maxRecDepth 100000 in
theorem payM1_2 {M : Int → Int} {w t : Int} (hw : 0 ≤ w ∧ w < 3) (ht : 0 ≤ t ∧ t < 600) : payM1 M w t 2 = M 2 := by
  unfold payM1 mkM payM0 moM
  rw [up_ne (by omega), up_ne (by omega), up_ne (by omega), up_ne (by omega)]
set_option maxHeartbeats 4000000 in
set_option maxRecDepth 100000 in
theorem sdM_2 {M : Int → Int} {a b c d : Int} : sdM M a b c d 2 = M 2 + 1 := up_eq rfl