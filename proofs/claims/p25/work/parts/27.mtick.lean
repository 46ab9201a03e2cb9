/-! THE REFERENCE's row: a tick -/
def Ap (M : Int → Int) (w : Int) : Prop := FlB M ∧ DrW M ∧ (0 ≤ M 5 ∧ M 5 ≤ 2) ∧ (0 ≤ M 2 ∧ M 2 < 255) ∧ (0 ≤ M (8 + 15 * w + 1) ∧ M (8 + 15 * w + 1) < 600) ∧ (0 ≤ M 7 ∧ M 7 < 2147483648) ∧ (0 ≤ M (8 + 15 * w + 9) ∧ M (8 + 15 * w + 9) ≤ 600) ∧ (0 ≤ M (8 + 15 * w + 10) ∧ M (8 + 15 * w + 10) < 2147483648) ∧ (0 ≤ M (8 + 15 * w) ∧ M (8 + 15 * w) ≤ 8)
def wsM (M : Int → Int) : Nat → (Int → Int)
  | 0 => M
  | k + 1 => waM (wsM M k) (k : Int)
def twM (M : Int → Int) (w : Int) : Int → Int := if 0 < M (8 + 15 * w + 9) then moM M w 10 1 else M
def tnM (M : Int → Int) : Nat → (Int → Int)
  | 0 => M
  | k + 1 => twM (tnM M k) (k : Int)
set_option maxHeartbeats 4000000 in
set_option maxRecDepth 100000 in
theorem tw_ne {M : Int → Int} {w j : Int} (h : ¬ j = 8 + 15 * w + 10) : twM M w j = M j := by
  unfold twM moM
  split
  · exact up_ne h
  · rfl
set_option maxHeartbeats 4000000 in
set_option maxRecDepth 100000 in
theorem tn_ne {M : Int → Int} {j : Int} : ∀ k : Nat, (∀ i : Nat, i < k → ¬ j = 8 + 15 * (i : Int) + 10) → tnM M k j = M j := by
  intro k
  induction k with
  | zero => intro _; rfl
  | succ k ih =>
    intro h
    unfold tnM
    rw [tw_ne (h k (by omega))]
    exact ih (fun i hi => h i (by omega))
set_option maxHeartbeats 4000000 in
set_option maxRecDepth 100000 in
theorem cs_ne {M : Int → Int} {j : Int} (h : ¬ j = 3) (h2 : j < 833 ∨ 2033 ≤ j) : csM M j = M j := by
  have hf := fdM_b M 600
  unfold csM
  split
  · rfl
  · rw [sn_ne h (by omega), up_ne (by omega)]
def tcM (M : Int → Int) : Int → Int := up (csM M) 0 (csM M 0 + 1)
def tkM (M : Int → Int) (N : Nat) : Int → Int := tnM (tcM (wsM (mmM M N) 3)) 3
/- what a tick asks of the row -/
def TkP (M : Int → Int) (N : Nat) : Prop :=
  (N ≤ 255 ∧ (∀ k : Nat, k < N → Gm (m1 M k) ∧ (0 ≤ m1 M k 0 ∧ m1 M k 0 < 2147483648) ∧ MsW (m1 M k) k ∧ (k : Int) < m1 M k 2) ∧ (0 ≤ m1 M N 0 ∧ m1 M N 0 < 2147483648) ∧ m1 M N 2 = N ∧ ∀ k : Nat, k < N → 0 ≤ m1 M N (65 + 3 * (k : Int)) ∧ m1 M N (65 + 3 * (k : Int)) < 2147483648) ∧
  (∀ k : Nat, k < 3 → Ap (wsM (mmM M N) k) (k : Int)) ∧
  (FlB (wsM (mmM M N) 3) ∧ PdB (wsM (mmM M N) 3) ∧ DrW (wsM (mmM M N) 3) ∧ DsB (wsM (mmM M N) 3)) ∧
  ∀ w : Int, 0 ≤ w → w < 3 → 0 ≤ wsM (mmM M N) 3 (8 + 15 * w + 9) ∧ wsM (mmM M N) 3 (8 + 15 * w + 9) ≤ 600