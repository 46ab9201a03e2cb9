/-! THE REFERENCE's row: messages that come, reasons -/
def PdB (M : Int → Int) : Prop := ∀ w t : Int, 0 ≤ w → w < 3 → 0 ≤ t → t < 600 → 0 ≤ M (2033 + 600 * w + t) ∧ M (2033 + 600 * w + t) < 2147483648
def DsB (M : Int → Int) : Prop := ∀ t : Int, 0 ≤ t → t < 600 → 0 ≤ M (1433 + t) ∧ M (1433 + t) < 2147483648
def mcM (M : Int → Int) (w t : Int) : Int → Int :=
  if 0 < mkM M t (2 + w).toNat 1 (2033 + 600 * w + t) then (if mkM M t (2 + w).toNat 1 (1433 + t) = 0 then up (up (mkM M t (2 + w).toNat 1) 4 (mkM M t (2 + w).toNat 1 4 + 1)) (1433 + t) (up (mkM M t (2 + w).toNat 1) 4 (mkM M t (2 + w).toNat 1 4 + 1) 4) else mkM M t (2 + w).toNat 1) else mkM M t (2 + w).toNat 1
set_option maxHeartbeats 4000000 in
set_option maxRecDepth 100000 in
theorem mk_ne {M : Int → Int} {t : Int} {f : Nat} {b j : Int} (h : ¬ j = 833 + t) : mkM M t f b j = M j := up_ne h
def qcM (M : Int → Int) (h fr t : Int) : Int → Int := if qb M t 1 = 0 then (if qb M t (2 + h).toNat = 0 then sdM (mkM M t 1 1) 2 fr h t else sdM M 3 fr h t) else sdM M 3 fr h t
def acM (M : Int → Int) (w t y : Int) : Int → Int := if M (8 + 15 * w + 9) = t + 1 then (if y = 0 then awM (frM M w) w 5 else payM (frM M w) w t) else (if y = 0 then M else mkM M t 1 0)
set_option maxHeartbeats 4000000 in
set_option maxRecDepth 100000 in
theorem prz_b (M : Int → Int) {t : Int} (ht : 0 ≤ t ∧ t < 600) : 0 ≤ przM M t ∧ przM M t ≤ 400 := by
  have hs := sdC_b M (t / 100)
  have hp := ofC_pos (M := M) ht
  unfold przM
  split
  · omega
  · have h1 : 0 ≤ 10 * sdC M (t / 100) * shr (clM M t) / 100 ∧ 10 * sdC M (t / 100) * shr (clM M t) / 100 ≤ 400 := by
      unfold shr
      repeat' split
      all_goals omega
    refine ⟨Int.ediv_nonneg h1.1 (by omega), ?_⟩
    have := Int.ediv_le_self (b := ofC M (t / 100) (clM M t)) h1.1
    omega
def imE (M : Int → Int) (w t : Int) : Int := if (¬ w = 0 ∧ qb M t 2 = 1) ∨ (¬ w = 1 ∧ qb M t 3 = 1) ∨ (¬ w = 2 ∧ qb M t 4 = 1) then 1 else 0
def reM (M : Int → Int) (w t : Int) : Int := if qb M t 0 = 0 then 1 else if M (53 + 2 * (t / 100)) = 0 then 2 else if przM M t = 0 then 3 else if qb M t (2 + w).toNat = 1 then 4 else if (M 5 = 1 ∧ t % 3 = w ∧ qb M t 1 = 1) ∨ (M 5 = 2 ∧ imE M w t = 1) then 5 else 0