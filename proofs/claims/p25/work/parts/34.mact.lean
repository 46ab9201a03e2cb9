/-! THE REFERENCE: acts -/
/- the heap after an act that made the row M' and told r -/
def actS (S : Hp) (M' : Int → Int) (r : Int) : Hp := if r < 0 then hr (hr S 0 33 (cpF (S 0 33) (S 0 31) 3833)) 0 31 (cpF M' (S 0 31) 3833) else hr (rcS (hr S 0 31 M') (cpF M' (S 0 31) 3833)) 0 33 (cpF (cpF (S 0 33) (S 0 31) 3833) M' 3833)
set_option maxHeartbeats 4000000 in
set_option maxRecDepth 100000 in
theorem cpF_abs (f g h : Int → Int) (n : Int) : cpF f (cpF g h n) n = cpF f h n := by
  funext j
  unfold cpF
  split <;> rfl
set_option maxHeartbeats 4000000 in
set_option maxRecDepth 100000 in
theorem actS_eq (S : Hp) (M' : Int → Int) (r : Int) : setS (hr (hr S 0 33 (cpF (S 0 33) (S 0 31) 3833)) 0 31 M') r = actS S M' r := by
  unfold setS actS
  by_cases h : r < 0
  · rw [if_pos h, if_pos h, hr_at, hr_nc (by decide), hr_at, cpF_abs, hr_hr]
  · rw [if_neg h, if_neg h, hr_at, hr_nc (by decide), hr_at, cpF_abs]
    unfold rcS
    rw [hr_nc (by decide), hr_nc (by decide), hr_nc (by decide), hr_nc (by decide), hr_nc (by decide), hr_nc (by decide)]
    funext a b
    unfold hr
    by_cases h0 : a = 0
    · subst h0
      by_cases h1 : b = 33
      · subst h1; simp
      · simp [h1]
    · simp [h0]
set_option maxHeartbeats 4000000 in
set_option maxRecDepth 100000 in
theorem kp_1 {S : Hp} {f g : Int → Int} (hk : 0 ≤ S 0 30 6 ∧ S 0 30 6 ≤ 4) : 0 ≤ hr (hr S 0 33 f) 0 31 g 0 30 6 ∧ hr (hr S 0 33 f) 0 31 g 0 30 6 ≤ 4 := by
  rw [hr_nc (by decide), hr_nc (by decide)]
  exact hk
/- what is told -/
set_option maxHeartbeats 4000000 in
set_option maxRecDepth 100000 in
theorem lvR_b {M : Int → Int} {t : Int} (hB : SlB M) : tdR (lvR M t) := by
  have b0 := hB 0 (by omega) (by omega)
  have b1 := hB 1 (by omega) (by omega)
  have b2 := hB 2 (by omega) (by omega)
  have c0 := lvW_b (t := t) (w := 0) (p := (M, 0)) b0.1
  have f0 : ∀ i : Int, ¬ (8 ≤ i ∧ i ≤ 16) → (lvW t 0 (M, 0)).1 i = M i := fun i hi => lvW_ne (p := (M, 0)) b0.1 (by omega)
  unfold tdR lvR lvT
  generalize lvW t 0 (M, 0) = p at *
  have g1 : p.1 (8 + 15 * 1) = M (8 + 15 * 1) := f0 _ (by omega)
  have c1 := lvW_b (t := t) (w := 1) (p := p) (by rw [g1]; exact b1.1)
  have f1 : ∀ i : Int, ¬ (23 ≤ i ∧ i ≤ 31) → (lvW t 1 p).1 i = p.1 i := fun i hi => lvW_ne (by rw [g1]; exact b1.1) (by omega)
  generalize lvW t 1 p = q at *
  have g2 : q.1 (8 + 15 * 2) = M (8 + 15 * 2) := by rw [f1 _ (by omega), f0 _ (by omega)]
  have c2 := lvW_b (t := t) (w := 2) (p := q) (by rw [g2]; exact b2.1)
  dsimp only at c0
  split <;> omega
def stR1 (M : Int → Int) (w v : Int) : Int := if setOk w v then (if M (5 + w) = v then -5 else M (5 + w)) else -2
def stH (S : Hp) (w v : Int) : Hp := if setOk w v then (if S 0 31 (5 + w) = v then S else hr (rcS S (S 0 31)) 0 31 (up (S 0 31) (5 + w) v)) else S