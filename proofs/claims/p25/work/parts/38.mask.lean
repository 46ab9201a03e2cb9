/-! THE REFERENCE: what is told -/
set_option maxHeartbeats 4000000 in
set_option maxRecDepth 100000 in
theorem and7 {z : Int} (h : 0 ≤ z) (h2 : z < 2147483648) : bAnd z 7 = z % 8 := by
  obtain ⟨a, rfl⟩ : ∃ a : Nat, z = a := ⟨z.toNat, by omega⟩
  have e := bA a 7 (by omega)
  rw [show (7 : Nat) = 2 ^ 3 - 1 from rfl, Nat.and_two_pow_sub_one_eq_mod] at e
  have e2 : bAnd (a : Int) 7 = ((a % 2 ^ 3 : Nat) : Int) := e
  rw [e2]
  omega
def wwI (M : Int → Int) (t w : Int) (n : Nat) : Int := sm (fun r => if M (8 + 15 * w + (1 + (r : Int))) = t then 1 else 0) n
def wwC (M : Int → Int) (t : Int) : Int := wwI M t 0 (M 8).toNat + wwI M t 1 (M 23).toNat + wwI M t 2 (M 38).toNat
def tkV (M : Int → Int) (t a : Int) : Int := if 0 ≤ t ∧ t < 600 then (if a = 0 then qb M t 0 else if a = 1 then clM M t else if a = 2 then przM M t else if a = 3 then pyC M t else if a = 4 then bt3 (M (833 + t) / 32 % 8) else if a = 5 then M (833 + t) / 4 % 8 else if a = 6 then qb M t 1 else if a = 7 then wwC M t else if a = 8 then opI M t else -2) else -1