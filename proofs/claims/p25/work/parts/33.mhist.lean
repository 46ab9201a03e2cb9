/-! THE REFERENCE: states copied, recorded, taken back -/
set_option maxHeartbeats 4000000 in
set_option maxRecDepth 100000 in
theorem cpF_out {f g : Int → Int} {n j : Int} (h : ¬ (0 ≤ j ∧ j < n)) : cpF f g n j = f j := if_neg h
set_option maxHeartbeats 4000000 in
set_option maxRecDepth 100000 in
theorem cpF_0 (f g : Int → Int) : cpF f g 0 = f := by
  funext j
  exact if_neg (by omega)
set_option maxHeartbeats 4000000 in
set_option maxRecDepth 100000 in
theorem cpF_s (f g : Int → Int) {n : Int} (hn : 0 ≤ n) : up (cpF f g n) n (g n) = cpF f g (n + 1) := by
  funext j
  by_cases h : j = n
  · rw [up_eq h, cpF_in (by omega), h]
  · rw [up_ne h]
    unfold cpF
    by_cases h2 : 0 ≤ j ∧ j < n
    · rw [if_pos h2, if_pos (by omega)]
    · rw [if_neg h2, if_neg (by omega)]
set_option maxHeartbeats 4000000 in
set_option maxRecDepth 100000 in
theorem up_up (f : Int → Int) (i a b : Int) : up (up f i a) i b = up f i b := by
  funext j
  unfold up
  split <;> rfl
set_option maxHeartbeats 4000000 in
set_option maxRecDepth 100000 in
theorem hr_comm (S : Hp) {k c k' c' : Nat} (f g : Int → Int) (h : ¬ c = c') : hr (hr S k c f) k' c' g = hr (hr S k' c' g) k c f := by
  funext a b
  unfold hr
  by_cases h1 : a = k' ∧ b = c'
  · rw [if_pos h1, if_neg (by omega), if_pos h1]
  · rw [if_neg h1]
    by_cases h2 : a = k ∧ b = c
    · rw [if_pos h2, if_pos h2]
    · rw [if_neg h2, if_neg h2, if_neg h1]
/- the history: shifted if it is full, and a row put behind -/
def shF (h : Int → Int) (n : Int) : Int → Int := fun j => if 0 ≤ j ∧ j < n then h (j + 3833) else h j
set_option maxHeartbeats 4000000 in
set_option maxRecDepth 100000 in
theorem shF_0 (h : Int → Int) : shF h 0 = h := by
  funext j
  exact if_neg (by omega)
set_option maxHeartbeats 4000000 in
set_option maxRecDepth 100000 in
theorem shF_s (h : Int → Int) {n : Int} (hn : 0 ≤ n) : up (shF h n) n (shF h n (n + 3833)) = shF h (n + 1) := by
  funext j
  have e : shF h n (n + 3833) = h (n + 3833) := if_neg (by omega)
  rw [e]
  by_cases h1 : j = n
  · rw [up_eq h1]
    unfold shF
    rw [if_pos (by omega), h1]
  · rw [up_ne h1]
    unfold shF
    by_cases h2 : 0 ≤ j ∧ j < n
    · rw [if_pos h2, if_pos (by omega)]
    · rw [if_neg h2, if_neg (by omega)]
def ptF (h g : Int → Int) (b n : Int) : Int → Int := fun j => if b ≤ j ∧ j < b + n then g (j - b) else h j
set_option maxHeartbeats 4000000 in
set_option maxRecDepth 100000 in
theorem ptF_0 (h g : Int → Int) (b : Int) : ptF h g b 0 = h := by
  funext j
  exact if_neg (by omega)
set_option maxHeartbeats 4000000 in
set_option maxRecDepth 100000 in
theorem ptF_s (h g : Int → Int) {b n : Int} (hn : 0 ≤ n) : up (ptF h g b n) (b + n) (g n) = ptF h g b (n + 1) := by
  funext j
  by_cases h1 : j = b + n
  · rw [up_eq h1]
    unfold ptF
    rw [if_pos (by omega), h1]
    congr 1
    omega
  · rw [up_ne h1]
    unfold ptF
    by_cases h2 : b ≤ j ∧ j < b + n
    · rw [if_pos h2, if_pos (by omega)]
    · rw [if_neg h2, if_neg (by omega)]
def rcK (k : Int) : Int := if k = 4 then 3 else k
def rcH (h : Int → Int) (k : Int) (g : Int → Int) : Int → Int := ptF (if k = 4 then shF h 11499 else h) g (3833 * rcK k) 3833
def rcS (S : Hp) (g : Int → Int) : Hp := hr (hr S 0 34 (rcH (S 0 34) (S 0 30 6) g)) 0 30 (up (S 0 30) 6 (rcK (S 0 30 6) + 1))
set_option maxHeartbeats 4000000 in
set_option maxRecDepth 100000 in
theorem cpF_cc (f g : Int → Int) (n : Int) : cpF (cpF f g n) (cpF g f n) n = f := by
  funext j
  unfold cpF
  by_cases h : 0 ≤ j ∧ j < n
  · rw [if_pos h, if_pos h]
  · rw [if_neg h, if_neg h]
def setS (S : Hp) (t : Int) : Hp := if t < 0 then hr S 0 31 (cpF (S 0 31) (S 0 33) 3833) else hr (rcS S (cpF (S 0 31) (S 0 33) 3833)) 0 33 (cpF (S 0 33) (S 0 31) 3833)