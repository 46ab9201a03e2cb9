/-! THE CLASS: an office is a copy, comps 0 to 22 -/
abbrev Of : Type := Nat → Int → Int
def oc (O : Of) (c : Nat) (f : Int → Int) : Of := fun c' => if c' = c then f else O c'
def ho (S : Hp) (k : Nat) (O : Of) : Hp := fun k' c' => if k' = k ∧ c' < 23 then O c' else S k' c'
set_option maxHeartbeats 4000000 in
set_option maxRecDepth 100000 in
theorem oc_at (O : Of) (c : Nat) (f : Int → Int) : oc O c f c = f := if_pos rfl
set_option maxHeartbeats 4000000 in
set_option maxRecDepth 100000 in
theorem oc_nc {O : Of} {c c' : Nat} {f : Int → Int} (h : ¬ c' = c) : oc O c f c' = O c' := if_neg h
set_option maxHeartbeats 4000000 in
set_option maxRecDepth 100000 in
theorem oc_oc (O : Of) (c : Nat) (f g : Int → Int) : oc (oc O c f) c g = oc O c g := by
  funext c'
  unfold oc
  split <;> rfl
set_option maxHeartbeats 4000000 in
set_option maxRecDepth 100000 in
theorem oc_id (O : Of) (c : Nat) : oc O c (O c) = O := by
  funext c'
  unfold oc
  split
  · next h => rw [h]
  · rfl
set_option maxHeartbeats 4000000 in
set_option maxRecDepth 100000 in
theorem oc_comm (O : Of) {c d : Nat} (f g : Int → Int) (h : ¬ c = d) : oc (oc O c f) d g = oc (oc O d g) c f := by
  funext c'
  unfold oc
  by_cases h1 : c' = d
  · rw [if_pos h1, if_neg (by omega), if_pos h1]
  · rw [if_neg h1, if_neg h1]
set_option maxHeartbeats 4000000 in
set_option maxRecDepth 100000 in
theorem ho_at {S : Hp} {k : Nat} {O : Of} {c : Nat} (h : c < 23) : ho S k O k c = O c := if_pos ⟨rfl, h⟩
set_option maxHeartbeats 4000000 in
set_option maxRecDepth 100000 in
theorem ho_nc {S : Hp} {k k' : Nat} {O : Of} {c : Nat} (h : ¬ c < 23) : ho S k O k' c = S k' c := if_neg (fun q => h q.2)
set_option maxHeartbeats 4000000 in
set_option maxRecDepth 100000 in
theorem ho_nk {S : Hp} {k k' : Nat} {O : Of} {c : Nat} (h : ¬ k' = k) : ho S k O k' c = S k' c := if_neg (fun q => h q.1)
set_option maxHeartbeats 4000000 in
set_option maxRecDepth 100000 in
theorem ho_id (S : Hp) (k : Nat) : ho S k (S k) = S := by
  funext k' c'
  unfold ho
  split
  · next h => rw [h.1]
  · rfl
set_option maxHeartbeats 4000000 in
set_option maxRecDepth 100000 in
theorem ho_ho (S : Hp) (k : Nat) (O O' : Of) : ho (ho S k O) k O' = ho S k O' := by
  funext k' c'
  unfold ho
  split <;> rfl
set_option maxHeartbeats 4000000 in
set_option maxRecDepth 100000 in
theorem hu_ho {S : Hp} {k : Nat} {O : Of} {c : Nat} {j v : Int} (h : c < 23) : hu (ho S k O) k c j v = ho S k (oc O c (up (O c) j v)) := by
  funext k' c' j'
  unfold hu ho oc up
  by_cases h1 : k' = k
  · by_cases h2 : c' = c
    · by_cases h3 : j' = j <;> simp [h1, h2, h3, h]
    · simp [h1, h2]
  · simp [h1]
/- facts: bits below 2 ^ 14 -/
def fb (O : Of) (t : Int) (i : Nat) : Int := O 3 t / 2 ^ i % 2
set_option maxHeartbeats 4000000 in
set_option maxRecDepth 100000 in
theorem fb_01 (O : Of) (t : Int) (i : Nat) : fb O t i = 0 ∨ fb O t i = 1 := by
  unfold fb
  omega
def FxB (O : Of) : Prop := ∀ t : Int, 0 ≤ t → t < 600 → 0 ≤ O 3 t ∧ O 3 t < 16384
set_option maxHeartbeats 4000000 in
set_option maxRecDepth 100000 in
theorem p2c (i : Nat) : (((2 : Nat) ^ i : Nat) : Int) = 2 ^ i := by simp
set_option maxHeartbeats 4000000 in
set_option maxRecDepth 100000 in
theorem p2b {i : Nat} (h : i < 14) : (2 : Nat) ^ i ≤ 8192 := by
  have := Nat.pow_le_pow_right (n := 2) (by decide) (show i ≤ 13 by omega)
  omega
set_option maxHeartbeats 4000000 in
set_option maxRecDepth 100000 in
theorem or_one {q : Nat} (h : q % 2 = 0) : q ||| 1 = q + 1 := by
  have e : q = (q / 2) <<< 1 := by rw [Nat.shiftLeft_eq]; omega
  have h1 := Nat.shiftLeft_add_eq_or_of_lt (show 1 < 2 ^ 1 by decide) (q / 2)
  rw [← e] at h1
  exact h1.symm
set_option maxHeartbeats 4000000 in
set_option maxRecDepth 100000 in
theorem or_tb {a i : Nat} (h : a / 2 ^ i % 2 = 0) : a ||| 2 ^ i = a + 2 ^ i := by
  have hp : 0 < 2 ^ i := Nat.two_pow_pos i
  have hr : a % 2 ^ i < 2 ^ i := Nat.mod_lt _ hp
  have e : (a / 2 ^ i) <<< i + a % 2 ^ i = a := by
    rw [Nat.shiftLeft_eq, Nat.mul_comm]
    exact Nat.div_add_mod a (2 ^ i)
  have h1 := Nat.shiftLeft_add_eq_or_of_lt hr (a / 2 ^ i)
  have h2 := Nat.shiftLeft_add_eq_or_of_lt hr (a / 2 ^ i ||| 1)
  rw [Nat.shiftLeft_or_distrib, Nat.one_shiftLeft, Nat.or_assoc, Nat.or_comm (2 ^ i), ← Nat.or_assoc, ← h1, e] at h2
  have h3 : (a / 2 ^ i) <<< i ||| 2 ^ i = (a / 2 ^ i + 1) <<< i := by
    have q := Nat.shiftLeft_or_distrib (a := a / 2 ^ i) (b := 1) (i := i)
    rw [Nat.one_shiftLeft, or_one h] at q
    exact q.symm
  rw [h3, Nat.shiftLeft_eq, Nat.add_mul, Nat.one_mul, Nat.mul_comm] at h2
  rw [Nat.shiftLeft_eq, Nat.mul_comm] at e
  omega
set_option maxHeartbeats 4000000 in
set_option maxRecDepth 100000 in
theorem or_tb1 {a i : Nat} (h : a.testBit i = true) : a ||| 2 ^ i = a := by
  apply Nat.eq_of_testBit_eq
  intro j
  rw [Nat.testBit_or, Nat.testBit_two_pow]
  by_cases hj : i = j
  · subst hj
    rw [h]
    rfl
  · simp [hj]
set_option maxHeartbeats 4000000 in
set_option maxRecDepth 100000 in
theorem and_tb {a i : Nat} : a &&& 2 ^ i = (a.testBit i).toNat * 2 ^ i := by
  apply Nat.eq_of_testBit_eq
  intro j
  rw [Nat.testBit_and, Nat.testBit_two_pow]
  cases h : a.testBit i
  · by_cases hj : i = j
    · subst hj; simp [h]
    · simp [hj]
  · by_cases hj : i = j
    · subst hj; simp [h]
    · have h2 := Nat.testBit_two_pow (n := i) (m := j)
      simp [hj]
set_option maxHeartbeats 4000000 in
set_option maxRecDepth 100000 in
theorem bit_ao {i a : Nat} : a &&& 2 ^ i = a / 2 ^ i % 2 * 2 ^ i ∧ (a ||| 2 ^ i) + a / 2 ^ i % 2 * 2 ^ i = a + 2 ^ i := by
  refine ⟨by rw [and_tb, Nat.toNat_testBit], ?_⟩
  have ht := Nat.toNat_testBit a i
  cases h : a.testBit i
  · rw [h] at ht
    have h0 : a / 2 ^ i % 2 = 0 := ht.symm
    rw [h0, or_tb h0]
    omega
  · rw [h] at ht
    have h0 : a / 2 ^ i % 2 = 1 := ht.symm
    rw [h0, or_tb1 h]
    omega
set_option maxHeartbeats 4000000 in
set_option maxRecDepth 100000 in
theorem and_bit {z : Int} {i : Nat} (hz : 0 ≤ z ∧ z < 16384) (hi : i < 14) : bAnd z (2 ^ i) = z / 2 ^ i % 2 * 2 ^ i := by
  obtain ⟨a, rfl⟩ : ∃ a : Nat, z = a := ⟨z.toNat, by omega⟩
  have e := bA a (2 ^ i) (by omega)
  rw [p2c] at e
  rw [e, bit_ao.1]
  simp
set_option maxHeartbeats 4000000 in
set_option maxRecDepth 100000 in
theorem or_bit {z : Int} {i : Nat} (hz : 0 ≤ z ∧ z < 16384) (hi : i < 14) : bOr z (2 ^ i) = z + (1 - z / 2 ^ i % 2) * 2 ^ i := by
  obtain ⟨a, rfl⟩ : ∃ a : Nat, z = a := ⟨z.toNat, by omega⟩
  have hp := p2b hi
  have e := bO a (2 ^ i) (by omega) (by omega)
  rw [p2c] at e
  rw [e]
  have h := (bit_ao (i := i) (a := a)).2
  have h3 : (((a ||| 2 ^ i) + a / 2 ^ i % 2 * 2 ^ i : Nat) : Int) = ((a + 2 ^ i : Nat) : Int) := by rw [h]
  push_cast at h3
  rw [Int.sub_mul, Int.one_mul]
  omega
/- a bit put or taken -/
def adO (O : Of) (t : Int) (i : Nat) : Of := oc O 3 (up (O 3) t (O 3 t + (1 - fb O t i) * 2 ^ i))
def rmO (O : Of) (t : Int) (i : Nat) : Of := oc O 3 (up (O 3) t (O 3 t - fb O t i * 2 ^ i))
set_option maxHeartbeats 4000000 in
set_option maxRecDepth 100000 in
theorem p2I {i : Nat} (h : i < 14) : (1 : Int) ≤ 2 ^ i ∧ (2 : Int) ^ i ≤ 8192 := by
  have h1 : (1 : Nat) ≤ 2 ^ i := Nat.one_le_two_pow
  have h2 := p2b h
  have e := p2c i
  omega
set_option maxHeartbeats 4000000 in
set_option maxRecDepth 100000 in
theorem adO_B {O : Of} {t : Int} {i : Nat} (h : FxB O) (hi : i < 14) : FxB (adO O t i) := by
  intro s h1 h2
  unfold adO
  rw [oc_at]
  by_cases e : s = t
  · subst e
    rw [up_eq rfl]
    have hs := h s h1 h2
    have hp := p2I hi
    have e1 := or_bit hs hi
    obtain ⟨a, ha⟩ : ∃ a : Nat, O 3 s = a := ⟨(O 3 s).toNat, by omega⟩
    have e2 := bO a (2 ^ i) (by omega) (by have := p2b hi; omega)
    rw [p2c, ← ha, e1] at e2
    have hlt : a ||| 2 ^ i < 2 ^ 14 := Nat.or_lt_two_pow (by omega) (by have := p2b hi; omega)
    unfold fb
    rw [e2]
    omega
  · rw [up_ne e]; exact h s h1 h2
set_option maxHeartbeats 4000000 in
set_option maxRecDepth 100000 in
theorem rmO_B {O : Of} {t : Int} {i : Nat} (h : FxB O) (hi : i < 14) : FxB (rmO O t i) := by
  intro s h1 h2
  unfold rmO
  rw [oc_at]
  by_cases e : s = t
  · subst e
    rw [up_eq rfl]
    have hs := h s h1 h2
    have hp := p2I hi
    rcases fb_01 O s i with g | g
    · rw [g]; omega
    · have hq : 2 ^ i ≤ O 3 s := by
        rcases Int.lt_or_le (O 3 s) (2 ^ i) with q | q
        · unfold fb at g
          rw [Int.ediv_eq_zero_of_lt hs.1 q] at g
          omega
        · exact q
      rw [g]; omega
  · rw [up_ne e]; exact h s h1 h2
set_option maxHeartbeats 4000000 in
set_option maxRecDepth 100000 in
theorem FxB_nc {O : Of} {c : Nat} {f : Int → Int} (h : ¬ 3 = c) (hB : FxB O) : FxB (oc O c f) := by
  intro t h1 h2
  rw [oc_nc h]
  exact hB t h1 h2
set_option maxHeartbeats 4000000 in
set_option maxRecDepth 100000 in
theorem adO_nc {O : Of} {t : Int} {i c : Nat} (h : ¬ c = 3) : adO O t i c = O c := oc_nc h
set_option maxHeartbeats 4000000 in
set_option maxRecDepth 100000 in
theorem rmO_nc {O : Of} {t : Int} {i c : Nat} (h : ¬ c = 3) : rmO O t i c = O c := oc_nc h
