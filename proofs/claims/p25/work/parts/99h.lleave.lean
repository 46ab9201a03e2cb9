/-! THE LAW: who goes -/
set_option maxHeartbeats 4000000 in
set_option maxRecDepth 100000 in
theorem ed_neg {S : Hp} {v : Int} (hv : v < 0) : edS S v = S := by
  unfold edS
  rw [if_neg (by omega)]
set_option maxHeartbeats 4000000 in
set_option maxRecDepth 100000 in
theorem lvT_hi {O : Of} {M : Int → Int} {t : Int} (h : T1 O M) (j : Int) (hj : 46 < j ∨ j = 20 ∨ j = 35 ∨ j = 50) : (lvT M t).1 j = M j := by
  have g0 := RR_go (p := (M, 0)) (w := 0) (t := t) h.1 (by omega)
  have g1 := RR_go (w := 1) (t := t) g0.1 (by omega)
  have g2 := RR_go (w := 2) (t := t) g1.1 (by omega)
  unfold lvT
  rw [g2.2.2 j (by omega), g1.2.2 j (by omega), g0.2.2 j (by omega)]
set_option maxHeartbeats 4000000 in
set_option maxRecDepth 100000 in
theorem lvi_id {t w : Int} : ∀ (n : Nat) (p : (Int → Int) × Int), (lvi t w n p).2 = p.2 → (lvi t w n p).1 = p.1
  | 0, p, _ => rfl
  | n + 1, p, h => by
    have el : lvi t w (n + 1) p = lvi t w n (if p.1 (8 + 15 * w + (1 + (n : Int))) = t then toR p.1 w n else p.1, if p.1 (8 + 15 * w + (1 + (n : Int))) = t then p.2 + 1 else p.2) := rfl
    rw [el] at h ⊢
    have b := (lvi_b t w n (if p.1 (8 + 15 * w + (1 + (n : Int))) = t then toR p.1 w n else p.1, if p.1 (8 + 15 * w + (1 + (n : Int))) = t then p.2 + 1 else p.2)).1
    by_cases c : p.1 (8 + 15 * w + (1 + (n : Int))) = t
    · rw [if_pos c, if_pos c] at h b
      dsimp only at b
      omega
    · rw [if_neg c, if_neg c] at h ⊢
      exact lvi_id n _ h
set_option maxHeartbeats 4000000 in
set_option maxRecDepth 100000 in
theorem lvT_id {M : Int → Int} {t : Int} (h : (lvT M t).2 = 0) : (lvT M t).1 = M := by
  have b0 : (0 : Int) ≤ (lvW t 0 (M, 0)).2 := (lvi_b t 0 _ (M, 0)).1
  have b1 : (lvW t 0 (M, 0)).2 ≤ (lvW t 1 (lvW t 0 (M, 0))).2 := (lvi_b t 1 _ _).1
  have b2 : (lvW t 1 (lvW t 0 (M, 0))).2 ≤ (lvT M t).2 := (lvi_b t 2 _ _).1
  have i0 : (lvW t 0 (M, 0)).1 = M := lvi_id _ (M, 0) (show (lvW t 0 (M, 0)).2 = 0 by omega)
  have i1 : (lvW t 1 (lvW t 0 (M, 0))).1 = (lvW t 0 (M, 0)).1 := lvi_id _ _ (show (lvW t 1 (lvW t 0 (M, 0))).2 = (lvW t 0 (M, 0)).2 by omega)
  have i2 : (lvT M t).1 = (lvW t 1 (lvW t 0 (M, 0))).1 := lvi_id _ _ (show (lvT M t).2 = (lvW t 1 (lvW t 0 (M, 0))).2 by omega)
  rw [i2, i1, i0]