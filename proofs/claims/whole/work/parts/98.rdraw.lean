/-! THE RELATION is kept by a draw -/
def clX (O : Of) (d w n : Int) : Int := if fb O (d * 100 + n) 0 = 1 then clN n w else 0
set_option maxHeartbeats 4000000 in
set_option maxRecDepth 100000 in
theorem clX_03 (O : Of) (d w n : Int) : 0 ≤ clX O d w n ∧ clX O d w n ≤ 3 := by
  have := clN_03 n w
  unfold clX
  split <;> omega
set_option maxHeartbeats 4000000 in
set_option maxRecDepth 100000 in
theorem fb_cls {x c : Int} (hx : 0 ≤ x) (h0 : x / 8 % 4 = 0) (hc : 0 ≤ c ∧ c ≤ 3) {j : Nat} (hj : j < 14) (h3 : ¬ j = 3) (h4 : ¬ j = 4) : (x + 8 * c) / 2 ^ j % 2 = x / 2 ^ j % 2 := by
  have hs : j = 0 ∨ j = 1 ∨ j = 2 ∨ j = 5 ∨ j = 6 ∨ j = 7 ∨ j = 8 ∨ j = 9 ∨ j = 10 ∨ j = 11 ∨ j = 12 ∨ j = 13 := by omega
  rcases hs with rfl | rfl | rfl | rfl | rfl | rfl | rfl | rfl | rfl | rfl | rfl | rfl
  all_goals simp only [Int.reducePow, Int.pow_zero, Int.pow_one]
  all_goals omega
/- what the loop makes -/
set_option maxHeartbeats 4000000 in
set_option maxRecDepth 100000 in
theorem dwI_at {O : Of} {d w : Int} (hd : 0 ≤ d ∧ d < 6) (h0 : ∀ n : Int, 0 ≤ n → n < 100 → 0 ≤ O 3 (d * 100 + n) ∧ O 3 (d * 100 + n) / 8 % 4 = 0) : ∀ j : Nat, j ≤ 100 → (∀ n : Int, 0 ≤ n → n < j → dwI O d w j 3 (d * 100 + n) = O 3 (d * 100 + n) + 8 * clX O d w n) ∧ (∀ c : Int, 1 ≤ c → c ≤ 3 → dwI O d w j 8 (d * 3 + c - 1) = O 8 (d * 3 + c - 1) + ct (fun k => clX O d w (k : Int) == c) j) ∧ (∀ i : Int, (i < d * 3 ∨ d * 3 + 3 ≤ i) → dwI O d w j 8 i = O 8 i) ∧ (∀ c : Nat, ¬ c = 3 → ¬ c = 8 → dwI O d w j c = O c)
  | 0, _ => ⟨fun n n1 n2 => by omega, fun c c1 c3 => by show O 8 _ = _ + 0; omega, fun i hi => rfl, fun c c1 c3 => rfl⟩
  | j + 1, hj => by
    obtain ⟨a1, a2, a3, a4⟩ := dwI_at (w := w) hd h0 j (by omega)
    have hh := dwI_hi (O := O) (d := d) (w := w) j (d * 100 + (j : Int)) (by omega)
    have hc := clN_03 (j : Int) w
    have hx := clX_03 O d w (j : Int)
    have e : dwI O d w (j + 1) = dwS (dwI O d w j) d w (j : Int) := rfl
    have hfb : fb (dwI O d w j) (d * 100 + (j : Int)) 0 = fb O (d * 100 + (j : Int)) 0 := by unfold fb; rw [hh]
    rw [e]
    unfold dwS
    rw [hfb]
    by_cases c : 0 < clN (j : Int) w ∧ fb O (d * 100 + (j : Int)) 0 = 1
    · have ex : clX O d w (j : Int) = clN (j : Int) w := by unfold clX; rw [if_pos c.2]
      rw [if_pos c, ← ex]
      rw [← ex] at c
      have e3 : ∀ u : Int → Int, oc (axO (dwI O d w j) (d * 100 + (j : Int)) (clX O d w (j : Int))) 8 u 3 = up (dwI O d w j 3) (d * 100 + (j : Int)) (dwI O d w j 3 (d * 100 + (j : Int)) + 8 * clX O d w (j : Int)) := fun u => by
        rw [oc_nc (by decide)]
        unfold axO
        rw [oc_at]
      refine ⟨fun n n1 n2 => ?_, fun b b1 b3 => ?_, fun i hi => ?_, fun b b1 b3 => ?_⟩
      · rw [e3]
        by_cases q : n = (j : Int)
        · rw [up_eq (by omega), hh, q]
        · rw [up_ne (by omega)]
          exact a1 n n1 (by omega)
      · rw [oc_at, ct_s]
        by_cases q : b = clX O d w (j : Int)
        · rw [up_eq (by omega), ← q, a2 b b1 b3, if_pos (by rw [q]; simp)]
          omega
        · rw [up_ne (by omega), a2 b b1 b3, if_neg (by
            simp only [beq_iff_eq]
            exact fun r => q r.symm)]
          omega
      · rw [oc_at, up_ne (by omega)]
        exact a3 i hi
      · rw [oc_nc b3]
        unfold axO
        rw [oc_nc b1]
        exact a4 b b1 b3
    · have ex : clX O d w (j : Int) = 0 := by
        unfold clX
        by_cases q : fb O (d * 100 + (j : Int)) 0 = 1
        · rw [if_pos q]
          rcases Int.lt_or_le 0 (clN (j : Int) w) with r | r
          · exact absurd ⟨r, q⟩ c
          · omega
        · rw [if_neg q]
      rw [if_neg c]
      refine ⟨fun n n1 n2 => ?_, fun b b1 b3 => ?_, a3, a4⟩
      · by_cases q : n = (j : Int)
        · rw [q, hh, ex]; omega
        · exact a1 n n1 (by omega)
      · rw [a2 b b1 b3, ct_s, ex, if_neg (by
          simp only [beq_iff_eq]
          omega)]
        omega
/- a draw not drawn has no class in its tickets -/
set_option maxHeartbeats 4000000 in
set_option maxRecDepth 100000 in
theorem RR_h0 {O : Of} {M : Int → Int} (h : RR O M) : ∀ d : Int, 0 ≤ d → d < 6 → O 7 d = -5 → ∀ n : Int, 0 ≤ n → n < 100 → O 3 (d * 100 + n) / 8 % 4 = 0 := by
  intro d d1 d2 h7 n n1 n2
  rw [(h.1.2.2 _ (by omega) (by omega)).1]
  have q := (h.2.1.2 d d1 d2).1
  have hW := h.2.1.1 d d1 d2
  have e1 : (d * 100 + n) / 100 = d := by omega
  have c : ¬ M (53 + 2 * d) = 1 := fun r => by rw [h7, if_pos r] at q; omega
  unfold clM
  rw [e1, if_neg c]
  split <;> rfl
