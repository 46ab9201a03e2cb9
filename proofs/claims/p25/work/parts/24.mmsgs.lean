/-! THE REFERENCE's row: the messages of a tick -/
def Gm (M : Int → Int) : Prop := FlB M ∧ DrW M ∧ PdB M ∧ DsB M ∧ (∀ w : Int, 0 ≤ w → w < 3 → 0 ≤ M (8 + 15 * w + 9) ∧ M (8 + 15 * w + 9) ≤ 600) ∧ (0 ≤ M 2 ∧ M 2 < 255)
def coM (M : Int → Int) (kind to fr t : Int) : Int → Int := if kind = 0 then mcM M to t else if kind = 1 then qcM M to fr t else if kind = 2 then acM M to t 1 else acM M to t 0
/- the messages 0 .. k - 1 have come -/
def m1 (M : Int → Int) : Nat → (Int → Int)
  | 0 => M
  | k + 1 => if m1 M k (65 + 3 * (k : Int)) = m1 M k 0 then coM (m1 M k) (m1 M k (65 + 3 * (k : Int) + 1) / 100) (m1 M k (65 + 3 * (k : Int) + 1) / 10 % 10) (m1 M k (65 + 3 * (k : Int) + 1) % 10) (m1 M k (65 + 3 * (k : Int) + 2)) else m1 M k
/- a message is as it should be -/
def MsW (M : Int → Int) (i : Int) : Prop := (0 ≤ M (65 + 3 * i) ∧ M (65 + 3 * i) < 2147483648) ∧ (0 ≤ M (65 + 3 * i + 1) ∧ M (65 + 3 * i + 1) / 100 ≤ 3 ∧ M (65 + 3 * i + 1) / 10 % 10 < 3) ∧ 0 ≤ M (65 + 3 * i + 2) ∧ M (65 + 3 * i + 2) < 600
def cpM (M : Int → Int) (l k : Int) : Int → Int := up (up (up M (65 + 3 * l) (M (65 + 3 * k))) (65 + 3 * l + 1) (up M (65 + 3 * l) (M (65 + 3 * k)) (65 + 3 * k + 1))) (65 + 3 * l + 2) (up (up M (65 + 3 * l) (M (65 + 3 * k))) (65 + 3 * l + 1) (up M (65 + 3 * l) (M (65 + 3 * k)) (65 + 3 * k + 1)) (65 + 3 * k + 2))
set_option maxHeartbeats 4000000 in
set_option maxRecDepth 100000 in
theorem cp_ne {M : Int → Int} {l k j : Int} (h : j < 65 + 3 * l ∨ 65 + 3 * l + 2 < j) : cpM M l k j = M j := by
  unfold cpM
  rw [up_ne (by omega), up_ne (by omega), up_ne (by omega)]
def m2 (M : Int → Int) : Nat → (Int → Int) × Int
  | 0 => (M, 0)
  | k + 1 => if (m2 M k).1 (65 + 3 * (k : Int)) = (m2 M k).1 0 then m2 M k else (cpM (m2 M k).1 (m2 M k).2 k, (m2 M k).2 + 1)
def m3 (M : Int → Int) (a : Int) : Nat → (Int → Int)
  | 0 => M
  | j + 1 => up (m3 M a j) (65 + (a + (j : Int))) 0
set_option maxHeartbeats 4000000 in
set_option maxRecDepth 100000 in
theorem m2_b (M : Int → Int) : ∀ k : Nat, 0 ≤ (m2 M k).2 ∧ (m2 M k).2 ≤ k ∧ (∀ j : Int, j < 65 → (m2 M k).1 j = M j) ∧ ∀ j : Int, 65 + 3 * (m2 M k).2 ≤ j → (m2 M k).1 j = M j := by
  intro k
  induction k with
  | zero => exact ⟨Int.le_refl _, Int.le_refl _, fun _ _ => rfl, fun _ _ => rfl⟩
  | succ k ih =>
    obtain ⟨h1, h2, h3, h4⟩ := ih
    unfold m2
    split
    · exact ⟨h1, by omega, h3, h4⟩
    · refine ⟨by show 0 ≤ (m2 M k).2 + 1; omega, by show (m2 M k).2 + 1 ≤ _; omega, fun j hj => ?_, fun j hj => ?_⟩
      · show cpM _ _ _ j = _
        rw [cp_ne (by omega)]
        exact h3 j hj
      · have hj2 : 65 + 3 * ((m2 M k).2 + 1) ≤ j := hj
        show cpM _ _ _ j = _
        rw [cp_ne (by omega)]
        exact h4 j (by omega)
set_option maxHeartbeats 4000000 in
set_option maxRecDepth 100000 in
theorem m3_ne (M : Int → Int) (a j : Int) : ∀ n : Nat, (j < 65 + a ∨ 65 + a + n ≤ j) → m3 M a n j = M j := by
  intro n
  induction n with
  | zero => intro _; rfl
  | succ n ih =>
    intro h
    unfold m3
    rw [up_ne (by omega)]
    exact ih (by omega)
set_option maxHeartbeats 4000000 in
set_option maxRecDepth 100000 in
theorem m3_in (M : Int → Int) (a j : Int) : ∀ n : Nat, 65 + a ≤ j → j < 65 + a + n → m3 M a n j = 0 := by
  intro n
  induction n with
  | zero => intro h1 h2; omega
  | succ n ih =>
    intro h1 h2
    unfold m3
    by_cases e : j = 65 + (a + (n : Int))
    · rw [up_eq e]
    · rw [up_ne e]
      exact ih h1 (by omega)
def mmM (M : Int → Int) (N : Nat) : Int → Int := up (m3 (m2 (m1 M N) N).1 (3 * (m2 (m1 M N) N).2) (3 * (N : Int) - 3 * (m2 (m1 M N) N).2).toNat) 2 (m2 (m1 M N) N).2