/-! THE RELATION is kept by who goes -/
def kc (f : Int → Int) (b t : Int) : Nat → Int
  | 0 => 0
  | n + 1 => if f (b + (n : Int)) = t then kc f b t n else kc f b t n + 1
set_option maxHeartbeats 4000000 in
set_option maxRecDepth 100000 in
theorem kc_b (f : Int → Int) (b t : Int) : ∀ n : Nat, 0 ≤ kc f b t n ∧ kc f b t n ≤ n
  | 0 => ⟨Int.le_refl _, Int.le_refl _⟩
  | n + 1 => by
    have h := kc_b f b t n
    unfold kc
    split <;> omega
set_option maxHeartbeats 4000000 in
set_option maxRecDepth 100000 in
theorem kc_c {f g : Int → Int} {b c t : Int} : ∀ {n : Nat}, (∀ i : Nat, i < n → f (b + (i : Int)) = g (c + (i : Int))) → kc f b t n = kc g c t n
  | 0, _ => rfl
  | n + 1, h => by
    unfold kc
    rw [h n (by omega), kc_c (n := n) (fun i hi => h i (by omega))]
/- every place below the count is one that was kept -/
set_option maxHeartbeats 4000000 in
set_option maxRecDepth 100000 in
theorem kc_ex (f : Int → Int) (b t : Int) : ∀ (n : Nat) (z : Int), 0 ≤ z → z < kc f b t n → ∃ i : Nat, i < n ∧ ¬ f (b + (i : Int)) = t ∧ kc f b t i = z
  | 0, z, z1, z2 => by
    have : kc f b t 0 = 0 := rfl
    omega
  | n + 1, z, z1, z2 => by
    unfold kc at z2
    by_cases c : f (b + (n : Int)) = t
    · rw [if_pos c] at z2
      obtain ⟨i, i1, i2, i3⟩ := kc_ex f b t n z z1 z2
      exact ⟨i, by omega, i2, i3⟩
    · rw [if_neg c] at z2
      by_cases e : z = kc f b t n
      · exact ⟨n, by omega, c, e.symm⟩
      · obtain ⟨i, i1, i2, i3⟩ := kc_ex f b t n z z1 (by omega)
        exact ⟨i, by omega, i2, i3⟩
set_option maxHeartbeats 4000000 in
set_option maxRecDepth 100000 in
theorem kc_mono (f : Int → Int) (b t : Int) {i n : Nat} (h : i ≤ n) : kc f b t i ≤ kc f b t n := by
  induction n with
  | zero =>
    obtain rfl : i = 0 := by omega
    exact Int.le_refl _
  | succ n ih =>
    by_cases e : i = n + 1
    · rw [e]; exact Int.le_refl _
    · have := ih (by omega)
      have q : kc f b t n ≤ kc f b t (n + 1) := by
        show kc f b t n ≤ (if f (b + (n : Int)) = t then kc f b t n else kc f b t n + 1)
        split <;> omega
      omega
set_option maxHeartbeats 4000000 in
set_option maxRecDepth 100000 in
theorem kc_lt (f : Int → Int) (b t : Int) {i n : Nat} (h : i < n) (hk : ¬ f (b + (i : Int)) = t) : kc f b t i < kc f b t n := by
  have q : kc f b t (i + 1) = kc f b t i + 1 := by
    show (if f (b + (i : Int)) = t then kc f b t i else kc f b t i + 1) = _
    rw [if_neg hk]
  have := kc_mono f b t (i := i + 1) (n := n) (by omega)
  omega
/- the class's loop -/
set_option maxHeartbeats 4000000 in
set_option maxRecDepth 100000 in
theorem raW_p {f : Int → Int} {t w : Int} : ∀ j : Nat, (raW f t w j).2 = kc f (w * 8) t j ∧ ∀ i : Nat, i < j → ¬ f (w * 8 + (i : Int)) = t → (raW f t w j).1 (w * 8 + kc f (w * 8) t i) = f (w * 8 + (i : Int))
  | 0 => ⟨rfl, fun i hi => by omega⟩
  | j + 1 => by
    obtain ⟨a1, a2⟩ := raW_p (f := f) (t := t) (w := w) j
    have hh := raW_hi (f := f) (t := t) (w := w) j (w * 8 + j) (by omega)
    have ek : kc f (w * 8) t (j + 1) = if f (w * 8 + (j : Int)) = t then kc f (w * 8) t j else kc f (w * 8) t j + 1 := rfl
    unfold raW
    dsimp only
    rw [hh, ek, a1]
    by_cases c : f (w * 8 + (j : Int)) = t
    · rw [if_pos c, if_pos c]
      refine ⟨rfl, fun i hi hk => ?_⟩
      by_cases e : i = j
      · rw [e] at hk; exact absurd c hk
      · exact a2 i (by omega) hk
    · rw [if_neg c, if_neg c]
      refine ⟨rfl, fun i hi hk => ?_⟩
      by_cases e : i = j
      · rw [e, up_eq rfl]
      · have q := kc_lt f (w * 8) t (i := i) (n := j) (by omega) hk
        rw [up_ne (by omega)]
        exact a2 i (by omega) hk
/- the model's loop -/
set_option maxHeartbeats 4000000 in
set_option maxRecDepth 100000 in
theorem lvi_p {t w : Int} : ∀ (n : Nat) (p : (Int → Int) × Int), (n : Int) ≤ p.1 (8 + 15 * w) → p.1 (8 + 15 * w) ≤ 8 → (lvi t w n p).1 (8 + 15 * w) = p.1 (8 + 15 * w) - (n - kc p.1 (8 + 15 * w + 1) t n) ∧ (lvi t w n p).2 = p.2 + (n - kc p.1 (8 + 15 * w + 1) t n) ∧ (∀ i : Nat, i < n → ¬ p.1 (8 + 15 * w + 1 + (i : Int)) = t → (lvi t w n p).1 (8 + 15 * w + 1 + kc p.1 (8 + 15 * w + 1) t i) = p.1 (8 + 15 * w + 1 + (i : Int))) ∧ (∀ i : Nat, n ≤ i → (i : Int) < p.1 (8 + 15 * w) → (lvi t w n p).1 (8 + 15 * w + 1 + (kc p.1 (8 + 15 * w + 1) t n + ((i : Int) - n))) = p.1 (8 + 15 * w + 1 + (i : Int)))
  | 0, p, h1, h2 => by
    have e : kc p.1 (8 + 15 * w + 1) t 0 = 0 := rfl
    have el : lvi t w 0 p = p := rfl
    rw [e, el]
    refine ⟨by omega, by omega, fun i hi => by omega, fun i i1 i2 => ?_⟩
    exact congrArg p.1 (by omega)
  | n + 1, p, h1, h2 => by
    have e0 : 8 + 15 * w + (1 + (n : Int)) = 8 + 15 * w + 1 + (n : Int) := by omega
    have el : lvi t w (n + 1) p = lvi t w n (if p.1 (8 + 15 * w + (1 + (n : Int))) = t then toR p.1 w n else p.1, if p.1 (8 + 15 * w + (1 + (n : Int))) = t then p.2 + 1 else p.2) := rfl
    have ek : kc p.1 (8 + 15 * w + 1) t (n + 1) = if p.1 (8 + 15 * w + 1 + (n : Int)) = t then kc p.1 (8 + 15 * w + 1) t n else kc p.1 (8 + 15 * w + 1) t n + 1 := rfl
    rw [el, ek, e0]
    by_cases c : p.1 (8 + 15 * w + 1 + (n : Int)) = t
    · rw [if_pos c, if_pos c, if_pos c]
      have hat := fun i => toR_at (M := p.1) (w := w) (r := (n : Int)) (by omega) i
      have hsz : toR p.1 w n (8 + 15 * w) = p.1 (8 + 15 * w) - 1 := by rw [hat, if_neg (by omega), if_pos rfl]
      have hlo : ∀ i : Nat, i < n → toR p.1 w n (8 + 15 * w + 1 + (i : Int)) = p.1 (8 + 15 * w + 1 + (i : Int)) := fun i hi => by rw [hat, if_neg (by omega), if_neg (by omega), if_neg (by omega)]
      have hk : kc (toR p.1 w n) (8 + 15 * w + 1) t n = kc p.1 (8 + 15 * w + 1) t n := kc_c (fun i hi => hlo i hi)
      obtain ⟨a1, a2, a3, a4⟩ := lvi_p n (toR p.1 w n, p.2 + 1) (by dsimp only; rw [hsz]; omega) (by dsimp only; rw [hsz]; omega)
      dsimp only at a1 a2 a3 a4
      rw [hsz, hk] at a1
      rw [hk] at a2
      refine ⟨by rw [a1]; omega, by rw [a2]; omega, fun i hi hki => ?_, fun i i1 i2 => ?_⟩
      · by_cases e : i = n
        · rw [e] at hki; exact absurd c hki
        · have q := a3 i (by omega) (by rw [hlo i (by omega)]; exact hki)
          rw [hlo i (by omega), kc_c (fun k hk2 => hlo k (by omega))] at q
          exact q
      · have q := a4 (i - 1) (by omega) (by rw [hsz]; omega)
        have e1 : ((i - 1 : Nat) : Int) = (i : Int) - 1 := by omega
        rw [hk, e1, hat (8 + 15 * w + 1 + ((i : Int) - 1)), if_neg (by omega), if_neg (by omega), if_pos (by omega)] at q
        have e2 : 8 + 15 * w + 1 + (kc p.1 (8 + 15 * w + 1) t n + ((i : Int) - 1 - (n : Int))) = 8 + 15 * w + 1 + (kc p.1 (8 + 15 * w + 1) t n + ((i : Int) - ((n + 1 : Nat) : Int))) := by omega
        have e3 : 8 + 15 * w + 1 + ((i : Int) - 1) + 1 = 8 + 15 * w + 1 + (i : Int) := by omega
        rw [e2, e3] at q
        exact q
    · rw [if_neg c, if_neg c, if_neg c]
      obtain ⟨a1, a2, a3, a4⟩ := lvi_p (t := t) (w := w) n (p.1, p.2) (by dsimp only; omega) (by dsimp only; omega)
      dsimp only at a1 a2 a3 a4
      refine ⟨by rw [a1]; omega, by rw [a2]; omega, fun i hi hki => ?_, fun i i1 i2 => ?_⟩
      · by_cases e : i = n
        · rw [e]
          have q := a4 n (Nat.le_refl _) (by omega)
          have e2 : kc p.1 (8 + 15 * w + 1) t n + ((n : Int) - (n : Int)) = kc p.1 (8 + 15 * w + 1) t n := by omega
          rw [e2] at q
          exact q
        · exact a3 i (by omega) hki
      · have q := a4 i (by omega) i2
        have e2 : kc p.1 (8 + 15 * w + 1) t n + 1 + ((i : Int) - ((n + 1 : Nat) : Int)) = kc p.1 (8 + 15 * w + 1) t n + ((i : Int) - (n : Int)) := by omega
        rw [e2]
        exact q
set_option maxHeartbeats 4000000 in
set_option maxRecDepth 100000 in
theorem slots_lvi {t w : Int} : ∀ (n : Nat) (p : (Int → Int) × Int), n ≤ 8 → (∀ j : Int, 0 ≤ j → j < 8 → 0 ≤ p.1 (8 + 15 * w + (1 + j)) ∧ p.1 (8 + 15 * w + (1 + j)) < 600) → ∀ j : Int, 0 ≤ j → j < 8 → 0 ≤ (lvi t w n p).1 (8 + 15 * w + (1 + j)) ∧ (lvi t w n p).1 (8 + 15 * w + (1 + j)) < 600
  | 0, p, _, h => h
  | n + 1, p, hn, h => by
    have el : lvi t w (n + 1) p = lvi t w n (if p.1 (8 + 15 * w + (1 + (n : Int))) = t then toR p.1 w n else p.1, if p.1 (8 + 15 * w + (1 + (n : Int))) = t then p.2 + 1 else p.2) := rfl
    rw [el]
    refine slots_lvi n _ (by omega) ?_
    dsimp only
    split
    · exact slots_toR (by omega) h
    · exact h
/- a window's leaving -/
set_option maxHeartbeats 4000000 in
set_option maxRecDepth 100000 in
theorem RR_go {O : Of} {p : (Int → Int) × Int} {w t : Int} (h : RR O p.1) (hw : 0 ≤ w ∧ w < 3) : RR (rgO O t w) (lvW t w p).1 ∧ (lvW t w p).2 = p.2 + rgN O t w ∧ (∀ j : Int, (j < 8 + 15 * w ∨ 8 + 15 * w + 8 < j) → (lvW t w p).1 j = p.1 j) := by
  obtain ⟨b1, b2, b3, -⟩ := h.2.2.2.1 w hw.1 hw.2
  have en : (((p.1 (8 + 15 * w)).toNat : Nat) : Int) = p.1 (8 + 15 * w) := by omega
  obtain ⟨l1, l2, l3, l4⟩ := lvi_p (t := t) (w := w) (p.1 (8 + 15 * w)).toNat p (by omega) b1.1.2
  obtain ⟨r1, r2⟩ := raW_p (f := O 10) (t := t) (w := w) (O 11 w).toNat
  have hk : ∀ i : Nat, i ≤ (p.1 (8 + 15 * w)).toNat → kc (O 10) (w * 8) t i = kc p.1 (8 + 15 * w + 1) t i := fun i hi => kc_c (fun k hk => by
    have q := b2 (k : Int) (by omega) (by omega)
    rw [q]
    exact congrArg p.1 (by omega))
  have e11 : (O 11 w).toNat = (p.1 (8 + 15 * w)).toNat := by rw [b1.2]
  have hn : ∀ j : Int, (j < 8 + 15 * w ∨ 8 + 15 * w + 8 < j) → (lvW t w p).1 j = p.1 j := fun j hj => lvW_ne b1.1 (by omega)
  have hkb := kc_b p.1 (8 + 15 * w + 1) t (p.1 (8 + 15 * w)).toNat
  have ho : ∀ c : Nat, ¬ c = 10 → ¬ c = 11 → rgO O t w c = O c := fun c c1 c3 => by unfold rgO; rw [oc_nc c3, oc_nc c1]
  have e10' : rgO O t w 10 = (raW (O 10) t w (O 11 w).toNat).1 := by unfold rgO; rw [oc_nc (by decide), oc_at]
  have e11' : rgO O t w 11 = up (O 11) w (raW (O 10) t w (O 11 w).toNat).2 := by unfold rgO; rw [oc_at]
  have esz : (lvW t w p).1 (8 + 15 * w) = kc p.1 (8 + 15 * w + 1) t (p.1 (8 + 15 * w)).toNat := by
    unfold lvW
    rw [l1]
    omega
  have er : (raW (O 10) t w (O 11 w).toNat).2 = kc p.1 (8 + 15 * w + 1) t (p.1 (8 + 15 * w)).toNat := by rw [r1, e11, hk _ (Nat.le_refl _)]
  refine ⟨RR_win h (fun c hc => ho c (by omega) (by omega)) (fun j hj => hn j (by omega)) (fun v v1 v2 => ?_) (fun v v1 v2 => Or.inl (hn _ (by omega))), ?_, hn⟩
  · obtain ⟨a1, a2, a3, a4, a5, a6, a7, a8, a9⟩ := h.2.2.2.1 v v1 v2
    rw [ho 12 (by decide) (by decide), ho 13 (by decide) (by decide), ho 14 (by decide) (by decide), ho 15 (by decide) (by decide), ho 16 (by decide) (by decide), ho 17 (by decide) (by decide), e10', e11', er, hn (8 + 15 * v + 9) (by omega), hn (8 + 15 * v + 10) (by omega), hn (8 + 15 * v + 11) (by omega), hn (8 + 15 * v + 12) (by omega), hn (8 + 15 * v + 13) (by omega), hn (8 + 15 * v + 14) (by omega), hn 0 (by omega)]
    refine ⟨?_, fun z z1 z2 => ?_, fun z z1 z2 => ?_, a4, a5, a6, a7, a8, a9⟩
    · by_cases e : v = w
      · subst e
        rw [esz, up_eq rfl]
        omega
      · rw [up_ne e, hn _ (by omega)]; exact a1
    · by_cases e : v = w
      · subst e
        rw [esz] at z2
        obtain ⟨i, i1, i2, i3⟩ := kc_ex p.1 (8 + 15 * v + 1) t _ z z1 z2
        have hi := hk i (by omega)
        have q0 := b2 (i : Int) (by omega) (by omega)
        have e5 : 8 + 15 * v + (1 + (i : Int)) = 8 + 15 * v + 1 + (i : Int) := by omega
        rw [e5] at q0
        have q1 := r2 i (by omega) (by rw [q0]; exact i2)
        rw [hi, i3] at q1
        have q2 := l3 i i1 i2
        rw [i3] at q2
        have e6 : 8 + 15 * v + (1 + z) = 8 + 15 * v + 1 + z := by omega
        rw [q1, q0, e6]
        exact q2.symm
      · rw [hn (8 + 15 * v) (by omega)] at z2
        rw [raW_hi _ _ (by omega), hn _ (by omega)]
        exact a2 z z1 z2
    · by_cases e : v = w
      · subst e
        exact slots_lvi _ p (by omega) a3 z z1 z2
      · rw [hn _ (by omega)]; exact a3 z z1 z2
  · unfold rgN
    rw [er, b1.2]
    unfold lvW
    rw [l2]
    omega
set_option maxHeartbeats 4000000 in
set_option maxRecDepth 100000 in
theorem LEAVE {O : Of} {M : Int → Int} {t : Int} (h : T1 O M) (ht : 0 ≤ t ∧ t < 600) : rcV O t = lvR M t ∧ T1 (rcO O t) (lvT M t).1 ∧ (lvT M t).1 0 = M 0 ∧ (lvR M t < 0 → (lvT M t).2 = 0) := by
  have g0 := RR_go (p := (M, 0)) (w := 0) (t := t) h.1 (by omega)
  have g1 := RR_go (w := 1) (t := t) g0.1 (by omega)
  have g2 := RR_go (w := 2) (t := t) g1.1 (by omega)
  have hn : ∀ j : Int, j < 8 ∨ (16 < j ∧ j < 23) ∨ (31 < j ∧ j < 38) ∨ 46 < j → (lvT M t).1 j = M j := fun j hj => by
    unfold lvT
    rw [g2.2.2 j (by omega), g1.2.2 j (by omega), g0.2.2 j (by omega)]
  have ec : (lvT M t).2 = rmvN O t := by
    unfold lvT rmvN
    rw [g2.2.1, g1.2.1, g0.2.1]
    omega
  unfold rcV rcO
  rw [if_pos ht, if_pos ht]
  refine ⟨by unfold lvR; rw [ec], T1_cg h g2.1 (fun j hj => hn j (by omega)) (fun v v1 v2 => ⟨hn _ (by omega), hn _ (by omega), hn _ (by omega)⟩), hn 0 (by omega), fun q => ?_⟩
  unfold lvR at q
  by_cases c : (lvT M t).2 = 0
  · exact c
  · rw [if_neg c] at q
    have b0 := lvW_b (t := t) (w := 0) (p := (M, 0)) (h.1.2.2.2.1 0 (by omega) (by omega)).1.1
    have b1 := lvW_b (t := t) (w := 1) (p := lvW t 0 (M, 0)) (g0.1.2.2.2.1 1 (by omega) (by omega)).1.1
    have b2 := lvW_b (t := t) (w := 2) (p := lvW t 1 (lvW t 0 (M, 0))) (g1.1.2.2.2.1 2 (by omega) (by omega)).1.1
    unfold lvT at q
    dsimp only at b0
    omega
