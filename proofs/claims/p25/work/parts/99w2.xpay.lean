/-! THE ACCOUNTS: a payment, a dispute opened -/
set_option maxHeartbeats 4000000 in
set_option maxRecDepth 100000 in
theorem sm_on1 {f g : Nat → Int} {k : Nat} : ∀ {n : Nat}, k < n → (∀ i, i < n → ¬ i = k → g i = f i) → sm g n = sm f n + (g k - f k)
  | 0, h, _ => absurd h (Nat.not_lt_zero k)
  | n + 1, h, e => by
    rw [sm_s, sm_s]
    rcases Nat.lt_or_ge k n with q | q
    · rw [sm_on1 q (fun i hi hn => e i (by omega) hn), e n (by omega) (by omega)]
      omega
    · obtain rfl : k = n := by omega
      rw [sm_congr (f := g) (g := f) (fun i hi => e i (by omega) (by omega))]
      omega
set_option maxHeartbeats 4000000 in
set_option maxRecDepth 100000 in
theorem ctS_one {O O' : Of} {t : Int} (ht : 0 ≤ t ∧ t < 600) (h : ∀ s : Int, 0 ≤ s → s < 600 → ¬ s = t → ctV O' s = ctV O s) : ctS O' = ctS O + (ctV O' t - ctV O t) := by
  obtain ⟨k, rfl⟩ : ∃ k : Nat, t = k := ⟨t.toNat, by omega⟩
  exact sm_on1 (k := k) (by omega) (fun i hi hn => h i (by omega) (by omega) (by omega))
/- what a payment puts -/
def PyF (O O' : Of) (w t : Int) : Prop := (∀ s : Int, 0 ≤ s → s < 600 → ∀ j : Nat, j < 14 → fb O' s j = if s = t ∧ (j = (8 + w).toNat ∨ j = (5 + w).toNat) then 1 else fb O s j) ∧ (O' 6 = O 6 ∧ O' 8 = O 8 ∧ O' 14 = up (O 14) w (O 14 w + pzO O t) ∧ O' 16 = O 16 ∧ O' 17 = O 17 ∧ O' 0 10 = O 0 10) ∧ O 18 0 ≤ O' 18 0 ∧ (∀ i : Int, 0 ≤ i → i < O 18 0 → O' 19 i = O 19 i ∧ O' 20 i = O 20 i) ∧ ∀ v : Int, 0 ≤ v → v < 3 → ¬ v = w → ∃ i : Int, O 18 0 ≤ i ∧ i < O' 18 0 ∧ O' 20 i = v * 600 + t
set_option maxHeartbeats 4000000 in
set_option maxRecDepth 100000 in
theorem XV_pay {O O' : Of} {j T B w t : Int} (hw : 0 ≤ w ∧ w < 3) (ht : 0 ≤ t ∧ t < 600) (hp : fb O t (8 + w).toNat = 0) (hj : j ≤ O 18 0) (h0 : 0 ≤ O 18 0) (hF : PyF O O' w t) (hX : XV O j T B) : XV O' j T B := by
  obtain ⟨f1, ⟨b1, b2, b3, b4, b5, b6⟩, f3, f4, f5⟩ := hF
  obtain ⟨⟨x1, x2, x3⟩, x4⟩ := hX
  have hsame : ∀ s : Int, 0 ≤ s → s < 600 → ∀ k : Nat, k < 14 → ¬ k = (8 + w).toNat → ¬ k = (5 + w).toNat → fb O' s k = fb O s k := fun s s1 s2 k k1 k2 k3 => by
    rw [f1 s s1 s2 k k1, if_neg (by omega)]
  have hoth : ∀ s : Int, 0 ≤ s → s < 600 → ¬ s = t → ∀ k : Nat, k < 14 → fb O' s k = fb O s k := fun s s1 s2 e k k1 => by
    rw [f1 s s1 s2 k k1, if_neg (by omega)]
  have hput : fb O' t (8 + w).toNat = 1 := by rw [f1 t ht.1 ht.2 _ (by omega), if_pos (by omega)]
  have epz : ∀ s : Int, 0 ≤ s → s < 600 → pzO O' s = pzO O s := fun s s1 s2 => pz_same (cls_fb (hsame s s1 s2 3 (by omega) (by omega) (by omega)) (hsame s s1 s2 4 (by omega) (by omega) (by omega))) (by rw [b1]) (fun c _ _ => by rw [b2])
  have eun : ∀ s : Int, 0 ≤ s → s < 600 → ¬ s = t → unc O' s = unc O s := fun s s1 s2 e => by
    have f := hoth s s1 s2 e
    unfold unc
    rw [f 8 (by decide), f 9 (by decide), f 10 (by decide), f 11 (by decide), f 12 (by decide), f 13 (by decide)]
  have eut : unc O' t = unc O t + 1 := by
    have f := hsame t ht.1 ht.2
    unfold unc
    rw [f 11 (by decide) (by omega) (by omega), f 12 (by decide) (by omega) (by omega), f 13 (by decide) (by omega) (by omega)]
    rcases (show w = 0 ∨ w = 1 ∨ w = 2 by omega) with rfl | rfl | rfl
    · have q1 : fb O' t 8 = 1 := hput
      have q2 : fb O t 8 = 0 := hp
      rw [q1, q2, f 9 (by decide) (by omega) (by omega), f 10 (by decide) (by omega) (by omega)]
      omega
    · have q1 : fb O' t 9 = 1 := hput
      have q2 : fb O t 9 = 0 := hp
      rw [q1, q2, f 8 (by decide) (by omega) (by omega), f 10 (by decide) (by omega) (by omega)]
      omega
    · have q1 : fb O' t 10 = 1 := hput
      have q2 : fb O t 10 = 0 := hp
      rw [q1, q2, f 8 (by decide) (by omega) (by omega), f 9 (by decide) (by omega) (by omega)]
      omega
  have grow : ∀ s : Int, 0 ≤ s → s < 600 → ∀ k : Nat, k < 14 → fb O s k = 1 → fb O' s k = 1 := fun s s1 s2 k k1 e => by
    rw [f1 s s1 s2 k k1]
    split
    · rfl
    · exact e
  refine ⟨⟨?_, ?_, fun s s1 s2 h2 => ?_⟩, fun s s1 s2 hu => ?_⟩
  · have e := ctS_one (O := O) (O' := O') ht (fun s s1 s2 e => by rw [ctV_unc, ctV_unc, eun s s1 s2 e, epz s s1 s2])
    rw [ctV_unc, ctV_unc, eut, epz t ht.1 ht.2, Int.add_mul] at e
    have es : s3 (O' 14) = s3 (O 14) + pzO O t := by
      rw [b3]
      unfold s3
      rcases (show w = 0 ∨ w = 1 ∨ w = 2 by omega) with rfl | rfl | rfl
      · rw [up_eq rfl, up_ne (by omega), up_ne (by omega)]; omega
      · rw [up_eq rfl, up_ne (by omega), up_ne (by omega)]; omega
      · rw [up_eq rfl, up_ne (by omega), up_ne (by omega)]; omega
    unfold cbW at x1 ⊢
    rw [es, b6]
    omega
  · unfold XA
    rw [b4, b5]
    exact x2
  · rw [hsame s s1 s2 2 (by omega) (by omega) (by omega)] at h2
    rcases x3 s s1 s2 h2 with g | g | g
    · exact Or.inl (grow s s1 s2 8 (by decide) g)
    · exact Or.inr (Or.inl (grow s s1 s2 9 (by decide) g))
    · exact Or.inr (Or.inr (grow s s1 s2 10 (by decide) g))
  · by_cases e : s = t
    · subst e
      rw [eut] at hu
      have b8 := fb_01 O s 8
      have b9 := fb_01 O s 9
      have b10 := fb_01 O s 10
      have b11 := fb_01 O s 11
      have b12 := fb_01 O s 12
      have b13 := fb_01 O s 13
      have hv : ∃ v : Int, (0 ≤ v ∧ v < 3) ∧ ¬ v = w ∧ fb O s (8 + v).toNat = 1 := by
        unfold unc at hu
        rcases (show fb O s 8 = 1 ∨ fb O s 9 = 1 ∨ fb O s 10 = 1 by omega) with g | g | g
        · exact ⟨0, by omega, fun q => by subst q; rw [show (8 + (0 : Int)).toNat = 8 from rfl] at hp; omega, g⟩
        · exact ⟨1, by omega, fun q => by subst q; rw [show (8 + (1 : Int)).toNat = 9 from rfl] at hp; omega, g⟩
        · exact ⟨2, by omega, fun q => by subst q; rw [show (8 + (2 : Int)).toNat = 10 from rfl] at hp; omega, g⟩
      obtain ⟨v, v1, v2, v3⟩ := hv
      obtain ⟨i, i1, i2, i3⟩ := f5 v v1.1 v1.2 v2
      exact Or.inr ⟨i, v, ⟨by omega, i2⟩, Or.inl (by omega), v1, i3, grow s s1 s2 _ (by omega) v3⟩
    · rw [eun s s1 s2 e] at hu
      rcases x4 s s1 s2 hu with g | ⟨i, v, i1, i2, v1, e1, e2⟩
      · exact Or.inl (grow s s1 s2 2 (by decide) g)
      · have q := f4 i i1.1 i1.2
        exact Or.inr ⟨i, v, ⟨i1.1, by omega⟩, by rw [q.1]; exact i2, v1, by rw [q.2]; exact e1, grow s s1 s2 _ (by omega) e2⟩
/- pay does that -/
set_option maxHeartbeats 4000000 in
set_option maxRecDepth 100000 in
theorem py3_fb {O : Of} {w t s : Int} {j : Nat} (hB : FxB O) (hw : 0 ≤ w ∧ w < 3) (hs : 0 ≤ s ∧ s < 600) (hj : j < 14) : fb (pyO3 O w t) s j = if s = t ∧ (j = (8 + w).toNat ∨ j = (5 + w).toNat) then 1 else fb O s j := by
  have hB2 := pyO2_B (w := w) (t := t) hB
  have hB3 := adO_B (t := t) (i := (8 + w).toNat) hB2 (by omega)
  have hB4 := npO_B (w := w) (t := t) hB3
  unfold pyO3
  rw [fb_ad hB4 hs (by omega)]
  have e4 : fb (npO (adO (pyO2 O w t) t (8 + w).toNat) w t) s j = fb (adO (pyO2 O w t) t (8 + w).toNat) s j := by
    unfold fb
    rw [npO_nc (by decide)]
  rw [e4, fb_ad hB2 hs (by omega)]
  have e2 : fb (pyO2 O w t) s j = fb O s j := by
    unfold fb
    rw [pyO2_nc (by decide)]
  rw [e2]
  by_cases c1 : s = t ∧ j = (5 + w).toNat
  · rw [if_pos c1, if_pos (by omega)]
  · rw [if_neg c1]
    by_cases c2 : s = t ∧ j = (8 + w).toNat
    · rw [if_pos c2, if_pos (by omega)]
    · rw [if_neg c2, if_neg (by omega)]
set_option maxHeartbeats 4000000 in
set_option maxRecDepth 100000 in
theorem py3_14 {O : Of} {w t : Int} : pyO3 O w t 14 = up (O 14) w (O 14 w + pzO O t) := by
  unfold pyO3
  rw [adO_nc (by decide), npO_nc (by decide), adO_nc (by decide)]
  unfold pyO2 pyO1
  split
  · rw [oc_nc (by decide), oc_nc (by decide), oc_at]
  · rw [oc_nc (by decide), oc_at]
set_option maxHeartbeats 4000000 in
set_option maxRecDepth 100000 in
theorem py3_010 {O : Of} {w t : Int} : pyO3 O w t 0 10 = O 0 10 := by
  unfold pyO3
  rw [adO_nc (by decide), npO_nc (by decide), adO_nc (by decide)]
  unfold pyO2 pyO1
  split
  · rw [oc_at, up_ne (by decide)]
  · rw [oc_nc (by decide), oc_nc (by decide)]
set_option maxHeartbeats 4000000 in
set_option maxRecDepth 100000 in
theorem s2_two {P : Of} {a b t d : Int} : snO (snO P 0 a t d) 0 b t d 18 0 = P 18 0 + 2 ∧ snO (snO P 0 a t d) 0 b t d 20 (P 18 0) = a * 600 + t ∧ snO (snO P 0 a t d) 0 b t d 20 (P 18 0 + 1) = b * 600 + t ∧ ∀ i : Int, i < P 18 0 → snO (snO P 0 a t d) 0 b t d 19 i = P 19 i ∧ snO (snO P 0 a t d) 0 b t d 20 i = P 20 i := by
  have e1 : snO P 0 a t d 18 0 = P 18 0 + 1 := snO_n
  refine ⟨by rw [snO_n, e1]; omega, ?_, ?_, fun i hi => ?_⟩
  · rw [snO_20 (by rw [e1]; omega), snO_at]
    omega
  · have q := snO_at (O := snO P 0 a t d) (kind := 0) (w := b) (t := t) (d := d)
    rw [e1] at q
    rw [q]
    omega
  · rw [snO_19 (by rw [e1]; omega), snO_20 (by rw [e1]; omega), snO_19 hi, snO_20 hi]
    exact ⟨rfl, rfl⟩
set_option maxHeartbeats 4000000 in
set_option maxRecDepth 100000 in
theorem PyF_pay {O : Of} {w t : Int} (hB : FxB O) (hw : 0 ≤ w ∧ w < 3) : PyF O (pyO O w t) w t := by
  have n3 : ∀ c : Nat, ¬ c = 14 ∧ ¬ c = 15 ∧ ¬ c = 0 ∧ ¬ c = 3 ∧ ¬ c = 4 → pyO3 O w t c = O c := fun c h => pyO3_nc h
  have key : ∀ a b : Int, (∀ v : Int, 0 ≤ v → v < 3 → ¬ v = w → v = a ∨ v = b) → PyF O (snO (snO (pyO3 O w t) 0 a t (O 0 0 + O 1 1)) 0 b t (O 0 0 + O 1 1)) w t := by
    intro a b hab
    have n : ∀ c : Nat, ¬ c = 18 → ¬ c = 19 → ¬ c = 20 → snO (snO (pyO3 O w t) 0 a t (O 0 0 + O 1 1)) 0 b t (O 0 0 + O 1 1) c = pyO3 O w t c := fun c h1 h2 h3 => by rw [snO_nc ⟨h1, h2, h3⟩, snO_nc ⟨h1, h2, h3⟩]
    obtain ⟨m1, m2, m3, m4⟩ := s2_two (P := pyO3 O w t) (a := a) (b := b) (t := t) (d := O 0 0 + O 1 1)
    have e18 : pyO3 O w t 18 = O 18 := n3 18 (by decide)
    have e19 : pyO3 O w t 19 = O 19 := n3 19 (by decide)
    have e20 : pyO3 O w t 20 = O 20 := n3 20 (by decide)
    rw [e18] at m1 m2 m3 m4
    rw [e19, e20] at m4
    refine ⟨fun s s1 s2 j hj => ?_, ⟨by rw [n 6 (by decide) (by decide) (by decide), n3 6 (by decide)], by rw [n 8 (by decide) (by decide) (by decide), n3 8 (by decide)], by rw [n 14 (by decide) (by decide) (by decide), py3_14], by rw [n 16 (by decide) (by decide) (by decide), n3 16 (by decide)], by rw [n 17 (by decide) (by decide) (by decide), n3 17 (by decide)], by rw [n 0 (by decide) (by decide) (by decide), py3_010]⟩, by rw [m1]; omega, fun i i1 i2 => m4 i i2, fun v v1 v2 v3 => ?_⟩
    · have e : fb (snO (snO (pyO3 O w t) 0 a t (O 0 0 + O 1 1)) 0 b t (O 0 0 + O 1 1)) s j = fb (pyO3 O w t) s j := by
        unfold fb
        rw [n 3 (by decide) (by decide) (by decide)]
      rw [e]
      exact py3_fb hB hw ⟨s1, s2⟩ hj
    · rcases hab v v1 v2 v3 with rfl | rfl
      · exact ⟨O 18 0, Int.le_refl _, by rw [m1]; omega, m2⟩
      · exact ⟨O 18 0 + 1, by omega, by rw [m1]; omega, m3⟩
  unfold pyO s2O
  by_cases c0 : w = 0
  · rw [if_pos c0]
    exact key 1 2 (fun v v1 v2 v3 => by omega)
  · rw [if_neg c0]
    by_cases c1 : w = 1
    · rw [if_pos c1]
      exact key 0 2 (fun v v1 v2 v3 => by omega)
    · rw [if_neg c1]
      exact key 0 1 (fun v v1 v2 v3 => by omega)
/- a dispute opened -/
set_option maxHeartbeats 4000000 in
set_option maxRecDepth 100000 in
theorem XV_open {O : Of} {j T B t : Int} (hB : FxB O) (ht : 0 ≤ t ∧ t < 600) (hp : fb O t 8 = 1 ∨ fb O t 9 = 1 ∨ fb O t 10 = 1) (hX : XV O j T B) : XV (dsO (adO O t 2) t) j T B ∧ ∀ s : Int, 0 ≤ s → s < 600 → ∀ k : Nat, k < 14 → fb (dsO (adO O t 2) t) s k = if s = t ∧ k = 2 then 1 else fb O s k := by
  have n : ∀ c : Nat, ¬ c = 21 → ¬ c = 22 → ¬ c = 3 → dsO (adO O t 2) t c = O c := fun c h1 h2 h3 => by
    unfold dsO
    rw [oc_nc h1, oc_nc h2, adO_nc h3]
  have ef : ∀ s : Int, 0 ≤ s → s < 600 → ∀ k : Nat, k < 14 → fb (dsO (adO O t 2) t) s k = if s = t ∧ k = 2 then 1 else fb O s k := fun s s1 s2 k hk => by
    have e : fb (dsO (adO O t 2) t) s k = fb (adO O t 2) s k := by
      unfold fb dsO
      rw [oc_nc (by decide), oc_nc (by decide)]
    rw [e]
    exact fb_ad hB ⟨s1, s2⟩ (by decide)
  refine ⟨?_, ef⟩
  obtain ⟨⟨x1, x2, x3⟩, x4⟩ := hX
  have eo : ∀ s : Int, 0 ≤ s → s < 600 → ∀ k : Nat, k < 14 → ¬ k = 2 → fb (dsO (adO O t 2) t) s k = fb O s k := fun s s1 s2 k hk h2 => by rw [ef s s1 s2 k hk, if_neg (by omega)]
  have eun : ∀ s : Int, 0 ≤ s → s < 600 → unc (dsO (adO O t 2) t) s = unc O s := fun s s1 s2 => by
    have f := eo s s1 s2
    unfold unc
    rw [f 8 (by decide) (by decide), f 9 (by decide) (by decide), f 10 (by decide) (by decide), f 11 (by decide) (by decide), f 12 (by decide) (by decide), f 13 (by decide) (by decide)]
  refine ⟨⟨?_, ?_, fun s s1 s2 h2 => ?_⟩, fun s s1 s2 hu => ?_⟩
  · have e : ctS (dsO (adO O t 2) t) = ctS O := sm_congr (fun k hk => by
      rw [ctV_unc, ctV_unc, eun k (by omega) (by omega), pz_same (cls_fb (eo k (by omega) (by omega) 3 (by decide) (by decide)) (eo k (by omega) (by omega) 4 (by decide) (by decide))) (by rw [n 6 (by decide) (by decide) (by decide)]) (fun c _ _ => by rw [n 8 (by decide) (by decide) (by decide)])])
    rw [e, x1]
    unfold cbW
    rw [n 14 (by decide) (by decide) (by decide), n 0 (by decide) (by decide) (by decide)]
  · unfold XA
    rw [n 16 (by decide) (by decide) (by decide), n 17 (by decide) (by decide) (by decide)]
    exact x2
  · have f := eo s s1 s2
    rw [f 8 (by decide) (by decide), f 9 (by decide) (by decide), f 10 (by decide) (by decide)]
    by_cases e : s = t
    · rw [e]; exact hp
    · rw [ef s s1 s2 2 (by decide), if_neg (by omega)] at h2
      exact x3 s s1 s2 h2
  · rw [eun s s1 s2] at hu
    rcases x4 s s1 s2 hu with g | ⟨i, v, i1, i2, v1, e1, e2⟩
    · left
      rw [ef s s1 s2 2 (by decide)]
      split
      · rfl
      · exact g
    · right
      rw [n 18 (by decide) (by decide) (by decide), n 19 (by decide) (by decide) (by decide), n 20 (by decide) (by decide) (by decide)]
      exact ⟨i, v, i1, i2, v1, e1, by rw [eo s s1 s2 _ (by omega) (by omega)]; exact e2⟩
