/-! THE REFERENCE's row: bits, sold, classes, prizes -/
/- ticket flags are bytes -/
def FlB (M : Int → Int) : Prop := ∀ t : Int, 0 ≤ t → t < 600 → 0 ≤ M (833 + t) ∧ M (833 + t) < 256
/- a flag of a ticket, 0 or 1 -/
def qb (M : Int → Int) (t : Int) (f : Nat) : Int := M (833 + t) / 2 ^ f % 2
set_option maxHeartbeats 4000000 in
set_option maxRecDepth 100000 in
theorem qb_01 (M : Int → Int) (t : Int) (f : Nat) : qb M t f = 0 ∨ qb M t f = 1 := by
  unfold qb
  omega
def sdC (M : Int → Int) (d : Int) : Int := sm (fun k => qb M (100 * d + k) 0) 100
def clM (M : Int → Int) (t : Int) : Int := if qb M t 0 = 1 then (if M (53 + 2 * (t / 100)) = 1 then clN (t % 100) (M (53 + 2 * (t / 100) + 1)) else 0) else 0
def ofC (M : Int → Int) (d c : Int) : Int := ct (fun k => clM M (100 * d + k) == c) 100
def przM (M : Int → Int) (t : Int) : Int := if clM M t = 0 then 0 else 10 * sdC M (t / 100) * shr (clM M t) / 100 / ofC M (t / 100) (clM M t)
def DrW (M : Int → Int) : Prop := ∀ d : Int, 0 ≤ d → d < 6 → (M (53 + 2 * d) = 0 ∨ M (53 + 2 * d) = 1) ∧ 0 ≤ M (53 + 2 * d + 1) ∧ M (53 + 2 * d + 1) < 100
set_option maxHeartbeats 4000000 in
set_option maxRecDepth 100000 in
theorem clM_03 (M : Int → Int) (t : Int) : 0 ≤ clM M t ∧ clM M t ≤ 3 := by
  unfold clM clN
  repeat' split
  all_goals omega
set_option maxHeartbeats 4000000 in
set_option maxRecDepth 100000 in
theorem sm_b {f : Nat → Int} {c : Int} (hc : 0 ≤ c) : ∀ (n : Nat), (∀ k, k < n → 0 ≤ f k ∧ f k ≤ c) → 0 ≤ sm f n ∧ sm f n ≤ n * c
  | 0, _ => ⟨Int.le_refl _, by simp [sm]⟩
  | n + 1, h => by
    have h1 := sm_b hc n (fun k hk => h k (by omega))
    have h2 := h n (by omega)
    rw [sm_s, Int.natCast_add, Int.add_mul]
    omega
set_option maxHeartbeats 4000000 in
set_option maxRecDepth 100000 in
theorem sdC_b (M : Int → Int) (d : Int) : 0 ≤ sdC M d ∧ sdC M d ≤ 100 := by
  have h := sm_b (f := fun k => qb M (100 * d + k) 0) (c := 1) (by omega) 100 (fun k _ => by have := qb_01 M (100 * d + k) 0; omega)
  unfold sdC
  omega
set_option maxHeartbeats 4000000 in
set_option maxRecDepth 100000 in
theorem ofC_b (M : Int → Int) (d c : Int) : 0 ≤ ofC M d c ∧ ofC M d c ≤ 100 := ct_le _ 100
set_option maxHeartbeats 4000000 in
set_option maxRecDepth 100000 in
theorem ofC_pos {M : Int → Int} {t : Int} (ht : 0 ≤ t ∧ t < 600) : 0 < ofC M (t / 100) (clM M t) := by
  refine ct_pos (i := (t % 100).toNat) (by omega) ?_
  have e : 100 * (t / 100) + ((t % 100).toNat : Int) = t := by omega
  rw [e]
  simp