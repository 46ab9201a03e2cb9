/-! THE RELATION is kept by a draw -/
def clX (O : Of) (d w n : Int) : Int := if fb O (d * 100 + n) 0 = 1 then clN n w else 0
set_option maxHeartbeats 4000000 in
set_option maxRecDepth 100000 in
theorem clX_03 (O : Of) (d w n : Int) : 0 ≤ clX O d w n ∧ clX O d w n ≤ 3 := by
  have := clN_03 n w
  unfold clX
  split <;> omega
set_option maxHeartbeats 4000000 in
set_option maxRecDepth 100000 in
theorem fb_cls {x c : Int} (hx : 0 ≤ x) (h0 : x / 8 % 4 = 0) (hc : 0 ≤ c ∧ c ≤ 3) {j : Nat} (hj : j < 14) (h3 : ¬ j = 3) (h4 : ¬ j = 4) : (x + 8 * c) / 2 ^ j % 2 = x / 2 ^ j % 2 := by
  have hs : j = 0 ∨ j = 1 ∨ j = 2 ∨ j = 5 ∨ j = 6 ∨ j = 7 ∨ j = 8 ∨ j = 9 ∨ j = 10 ∨ j = 11 ∨ j = 12 ∨ j = 13 := by omega
  rcases hs with rfl | rfl | rfl | rfl | rfl | rfl | rfl | rfl | rfl | rfl | rfl | rfl
  all_goals simp only [Int.reducePow, Int.pow_zero, Int.pow_one]
  all_goals omega
/- what the loop makes -/
set_option maxHeartbeats 4000000 in
set_option maxRecDepth 100000 in
theorem dwI_at {O : Of} {d w : Int} (hd : 0 ≤ d ∧ d < 6) (h0 : ∀ n : Int, 0 ≤ n → n < 100 → 0 ≤ O 3 (d * 100 + n) ∧ O 3 (d * 100 + n) / 8 % 4 = 0) : ∀ j : Nat, j ≤ 100 → (∀ n : Int, 0 ≤ n → n < j → dwI O d w j 3 (d * 100 + n) = O 3 (d * 100 + n) + 8 * clX O d w n) ∧ (∀ c : Int, 1 ≤ c → c ≤ 3 → dwI O d w j 8 (d * 3 + c - 1) = O 8 (d * 3 + c - 1) + ct (fun k => clX O d w (k : Int) == c) j) ∧ (∀ i : Int, (i < d * 3 ∨ d * 3 + 3 ≤ i) → dwI O d w j 8 i = O 8 i) ∧ (∀ c : Nat, ¬ c = 3 → ¬ c = 8 → dwI O d w j c = O c)
  | 0, _ => ⟨fun n n1 n2 => by omega, fun c c1 c3 => by show O 8 _ = _ + 0; omega, fun i hi => rfl, fun c c1 c3 => rfl⟩
  | j + 1, hj => by
    obtain ⟨a1, a2, a3, a4⟩ := dwI_at (w := w) hd h0 j (by omega)
    have hh := dwI_hi (O := O) (d := d) (w := w) j (d * 100 + (j : Int)) (by omega)
    have hc := clN_03 (j : Int) w
    have hx := clX_03 O d w (j : Int)
    have e : dwI O d w (j + 1) = dwS (dwI O d w j) d w (j : Int) := rfl
    have hfb : fb (dwI O d w j) (d * 100 + (j : Int)) 0 = fb O (d * 100 + (j : Int)) 0 := by unfold fb; rw [hh]
    rw [e]
    unfold dwS
    rw [hfb]
    by_cases c : 0 < clN (j : Int) w ∧ fb O (d * 100 + (j : Int)) 0 = 1
    · have ex : clX O d w (j : Int) = clN (j : Int) w := by unfold clX; rw [if_pos c.2]
      rw [if_pos c, ← ex]
      rw [← ex] at c
      have e3 : ∀ u : Int → Int, oc (axO (dwI O d w j) (d * 100 + (j : Int)) (clX O d w (j : Int))) 8 u 3 = up (dwI O d w j 3) (d * 100 + (j : Int)) (dwI O d w j 3 (d * 100 + (j : Int)) + 8 * clX O d w (j : Int)) := fun u => by
        rw [oc_nc (by decide)]
        unfold axO
        rw [oc_at]
      refine ⟨fun n n1 n2 => ?_, fun b b1 b3 => ?_, fun i hi => ?_, fun b b1 b3 => ?_⟩
      · rw [e3]
        by_cases q : n = (j : Int)
        · rw [up_eq (by omega), hh, q]
        · rw [up_ne (by omega)]
          exact a1 n n1 (by omega)
      · rw [oc_at, ct_s]
        by_cases q : b = clX O d w (j : Int)
        · rw [up_eq (by omega), ← q, a2 b b1 b3, if_pos (by rw [q]; simp)]
          omega
        · rw [up_ne (by omega), a2 b b1 b3, if_neg (by
            simp only [beq_iff_eq]
            exact fun r => q r.symm)]
          omega
      · rw [oc_at, up_ne (by omega)]
        exact a3 i hi
      · rw [oc_nc b3]
        unfold axO
        rw [oc_nc b1]
        exact a4 b b1 b3
    · have ex : clX O d w (j : Int) = 0 := by
        unfold clX
        by_cases q : fb O (d * 100 + (j : Int)) 0 = 1
        · rw [if_pos q]
          rcases Int.lt_or_le 0 (clN (j : Int) w) with r | r
          · exact absurd ⟨r, q⟩ c
          · omega
        · rw [if_neg q]
      rw [if_neg c]
      refine ⟨fun n n1 n2 => ?_, fun b b1 b3 => ?_, a3, a4⟩
      · by_cases q : n = (j : Int)
        · rw [q, hh, ex]; omega
        · exact a1 n n1 (by omega)
      · rw [a2 b b1 b3, ct_s, ex, if_neg (by
          simp only [beq_iff_eq]
          omega)]
        omega
set_option maxHeartbeats 4000000 in
set_option maxRecDepth 100000 in
theorem DRAW {O : Of} {M : Int → Int} {d : Int} (h : T1 O M) : dbV O d = dwR M d ∧ T1 (dbO O d) (dwM M d) ∧ dwM M d 0 = M 0 ∧ tdR (dwR M d) ∧ (dwR M d < 0 → dwM M d = M ∧ dbO O d = O) := by
  obtain ⟨h1, h2, h3, h4, h5, h6, h7, h8⟩ := h.1
  have el : O 0 1 = M 1 := h7.2.1.1
  have eL : lotN (O 0 1) = (75 * M 1 + 74) % ((65537 : Nat) : Int) := by unfold lotN; rw [el]; rfl
  unfold dbV dwR dbO dwM tdR
  by_cases c0 : 0 ≤ d ∧ d ≤ 5
  · have c0' : 0 ≤ d ∧ d < 6 := by omega
    rw [if_pos c0, if_pos c0, if_pos c0', if_pos c0']
    have hW := h2.1 d c0'.1 c0'.2
    obtain ⟨d1, d2, d3⟩ := h2.2 d c0'.1 c0'.2
    by_cases c1 : M (53 + 2 * d) = 1
    · have e7 : ¬ O 7 d = -5 := by rw [d1, if_pos c1]; omega
      rw [if_neg e7, if_pos c1, if_neg e7, if_pos c1]
      exact ⟨rfl, h, rfl, by decide, fun _ => ⟨rfl, rfl⟩⟩
    · have e7 : O 7 d = -5 := by rw [d1, if_neg c1]
      rw [if_pos e7, if_neg c1, if_pos e7, if_neg c1, lot_1 c0.1, eL]
      obtain ⟨N, hN⟩ : ∃ N : Nat, N = 100 := ⟨100, rfl⟩
      rw [← hN]
      have hL0 : 0 ≤ (75 * M 1 + 74) % ((65537 : Nat) : Int) ∧ (75 * M 1 + 74) % ((65537 : Nat) : Int) < 65537 := by
        have e : ((65537 : Nat) : Int) = 65537 := rfl
        rw [e]; omega
      have hdw0 : dw0 O d = oc (oc O 0 (up (O 0) 1 ((75 * M 1 + 74) % ((65537 : Nat) : Int)))) 7 (up (O 7) d ((75 * M 1 + 74) % ((65537 : Nat) : Int) % 100)) := by unfold dw0; rw [eL]
      have hlot : lotM M d = up (up M 1 ((75 * M 1 + 74) % ((65537 : Nat) : Int))) (53 + 2 * d) 1 := rfl
      rw [hlot]
      generalize (75 * M 1 + 74) % ((65537 : Nat) : Int) = L at *
      obtain ⟨w, hw⟩ : ∃ w, w = L % 100 := ⟨_, rfl⟩
      have hwb : 0 ≤ w ∧ w < 100 := by omega
      rw [← hw] at hdw0 ⊢
      obtain ⟨M', hM⟩ : ∃ M', M' = up (up (up M 1 L) (53 + 2 * d) 1) (53 + 2 * d + 1) w := ⟨_, rfl⟩
      rw [← hM]
      have hn : ∀ j : Int, ¬ j = 1 → ¬ j = 53 + 2 * d → ¬ j = 53 + 2 * d + 1 → M' j = M j := fun j j1 j2 j3 => by rw [hM, up_ne j3, up_ne j2, up_ne j1]
      have m1 : M' 1 = L := by rw [hM, up_ne (by omega), up_ne (by omega), up_eq rfl]
      have md : M' (53 + 2 * d) = 1 := by rw [hM, up_ne (by omega), up_eq rfl]
      have mw : M' (53 + 2 * d + 1) = w := by rw [hM, up_eq rfl]
      have hqq : ∀ s : Int, ∀ f : Nat, 0 ≤ s → s < 600 → qb M' s f = qb M s f := fun s f s1 s2 => by unfold qb; rw [hn _ (by omega) (by omega) (by omega)]
      have hcl : ∀ s : Int, 0 ≤ s → s < 600 → ¬ s / 100 = d → clM M' s = clM M s := fun s s1 s2 e => by
        unfold clM
        rw [hqq s 0 s1 s2, hn (53 + 2 * (s / 100)) (by omega) (by omega) (by omega), hn (53 + 2 * (s / 100) + 1) (by omega) (by omega) (by omega)]
      have hcl0 : ∀ s : Int, 0 ≤ s → s < 600 → s / 100 = d → clM M s = 0 := fun s s1 s2 e => by
        unfold clM
        rw [e, if_neg c1]
        split <;> rfl
      have x3 : dw0 O d 3 = O 3 := by rw [hdw0, oc_nc (by decide), oc_nc (by decide)]
      have x8 : dw0 O d 8 = O 8 := by rw [hdw0, oc_nc (by decide), oc_nc (by decide)]
      have hfx : ∀ n : Int, 0 ≤ n → n < 100 → 0 ≤ dw0 O d 3 (d * 100 + n) ∧ dw0 O d 3 (d * 100 + n) / 8 % 4 = 0 := fun n n1 n2 => by
        rw [x3]
        refine ⟨(h1.2.1 _ (by omega) (by omega)).1, ?_⟩
        rw [(h1.2.2 _ (by omega) (by omega)).1]
        exact hcl0 _ (by omega) (by omega) (by omega)
      have hX : ∀ n : Int, 0 ≤ n → n < 100 → clX (dw0 O d) d w n = clM M' (d * 100 + n) := fun n n1 n2 => by
        have e : fb (dw0 O d) (d * 100 + n) 0 = qb M (d * 100 + n) 0 := by
          have q := RF_0 h1 (t := d * 100 + n) (by omega)
          unfold fb at q ⊢
          rw [x3]; exact q
        have e1 : (d * 100 + n) / 100 = d := by omega
        have e2 : (d * 100 + n) % 100 = n := by omega
        unfold clX clM
        rw [e, hqq _ 0 (by omega) (by omega), e1, e2, md, mw, if_pos (show (1 : Int) = 1 from rfl)]
      obtain ⟨a1, a2, a3, a4⟩ := dwI_at (w := w) c0' hfx N (by omega)
      have hhi := fun t (ht : t < d * 100 ∨ d * 100 + 100 ≤ t) => dwI_hi (O := dw0 O d) (d := d) (w := w) N t (by omega)
      have hB : FxB (dwI (dw0 O d) d w N) := dwI_B c0' (fun s s1 s2 => by rw [x3]; exact h1.2.1 s s1 s2) (fun n n1 n2 => (hfx n n1 n2).2) N (by omega)
      have hbit : ∀ s : Int, 0 ≤ s → s < 600 → ∀ j : Nat, bitM M' s j = bitM M s j := fun s s1 s2 j => by
        unfold bitM opI pyI
        rw [hqq s 0 s1 s2, hqq s 1 s1 s2, hqq s _ s1 s2, hqq s _ s1 s2, hn (1433 + s) (by omega) (by omega) (by omega)]
        by_cases e8 : j < 8
        · simp only [e8, if_true]
        · rw [hn (2033 + 600 * ((j : Int) - 8) + s) (by omega) (by omega) (by omega)]
      have hval : ∀ s : Int, 0 ≤ s → s < 600 → s / 100 = d → dwI (dw0 O d) d w N 3 s = O 3 s + 8 * clM M' s := fun s s1 s2 e => by
        have q := a1 (s % 100) (by omega) (by omega)
        have e1 : d * 100 + s % 100 = s := by omega
        rw [hX _ (by omega) (by omega), e1, x3] at q
        exact q
      have hRF : RF (dwI (dw0 O d) d w N) M' := by
        refine ⟨fun s s1 s2 => by rw [hn _ (by omega) (by omega) (by omega)]; exact h1.1 s s1 s2, hB, fun s s1 s2 => ?_⟩
        have hz := h1.2.1 s s1 s2
        obtain ⟨k1, k2⟩ := h1.2.2 s s1 s2
        by_cases e : s / 100 = d
        · have v := hval s s1 s2 e
          have hc3 := clM_03 M' s
          rw [hcl0 s s1 s2 e] at k1
          refine ⟨by rw [v]; omega, fun j j1 j2 j3 => ?_⟩
          rw [hbit s s1 s2 j, ← k2 j j1 j2 j3]
          unfold fb
          rw [v]
          exact fb_cls hz.1 k1 hc3 j1 j2 j3
        · have v : dwI (dw0 O d) d w N 3 s = O 3 s := by rw [hhi s (by omega), x3]
          refine ⟨by rw [v, hcl s s1 s2 e]; exact k1, fun j j1 j2 j3 => ?_⟩
          rw [hbit s s1 s2 j, ← k2 j j1 j2 j3]
          unfold fb
          rw [v]
      have h7' : dwI (dw0 O d) d w N 7 = up (O 7) d w := by rw [a4 7 (by decide) (by decide), hdw0, oc_at]
      have h0' : dwI (dw0 O d) d w N 0 = up (O 0) 1 L := by rw [a4 0 (by decide) (by decide), hdw0, oc_nc (by decide), oc_at]
      have ho : ∀ c : Nat, ¬ c = 0 → ¬ c = 3 → ¬ c = 7 → ¬ c = 8 → dwI (dw0 O d) d w N c = O c := fun c c1 c3 c4 c5 => by rw [a4 c c3 c5, hdw0, oc_nc c4, oc_nc c1]
      have hRD : RD (dwI (dw0 O d) d w N) M' := by
        refine ⟨fun b b1 b3 => ?_, fun b b1 b3 => ?_⟩
        · by_cases e : b = d
          · rw [e, md, mw]; omega
          · rw [hn (53 + 2 * b) (by omega) (by omega) (by omega), hn (53 + 2 * b + 1) (by omega) (by omega) (by omega)]
            exact h2.1 b b1 b3
        · have es : sdC M' b = sdC M b := sm_congr (fun k hk => hqq _ 0 (by omega) (by omega))
          obtain ⟨k1, k2, k3⟩ := h2.2 b b1 b3
          rw [h7', ho 6 (by decide) (by decide) (by decide) (by decide), es]
          by_cases e : b = d
          · subst e
            rw [md, if_pos rfl, up_eq rfl, mw]
            refine ⟨rfl, k2, fun c q1 q3 => ?_⟩
            rw [if_pos rfl, a2 c q1 q3, x8, k3 c q1 q3, if_neg c1, Int.zero_add]
            rw [hN]
            refine ct_congr (fun k hk => ?_)
            rw [hX _ (by omega) (by omega)]
            have e5 : b * 100 + (k : Int) = 100 * b + (k : Int) := by omega
            rw [e5]
          · rw [up_ne e, hn (53 + 2 * b) (by omega) (by omega) (by omega), hn (53 + 2 * b + 1) (by omega) (by omega) (by omega)]
            refine ⟨k1, k2, fun c q1 q3 => ?_⟩
            rw [a3 _ (by omega), x8, k3 c q1 q3]
            have ec : ofC M' b c = ofC M b c := ct_congr (fun k hk => by rw [hcl _ (by omega) (by omega) (by omega)])
            rw [ec]
      have hRR : RR (dwI (dw0 O d) d w N) M' := by
        refine RR_fl h.1 (fun c q1 q3 q4 q5 q6 => ho c q1 q3 q5 q6) ⟨by rw [h0', up_eq rfl, m1], by rw [m1]; exact hL0, fun j hj => by rw [h0', up_ne hj]⟩ (fun j j1 j2 j3 => hn j j3 (by omega) (by omega)) (fun s f s1 s2 _ _ => hqq s f s1 s2) hRF hRD (fun s s1 s2 q => ?_)
        by_cases e : s / 100 = d
        · exact absurd (hcl0 s s1 s2 e) q
        · rw [hcl s s1 s2 e]; exact q
      exact ⟨rfl, T1_cg h hRR (fun j hj => hn j (by omega) (by omega) (by omega)) (fun v v1 v2 => ⟨hn _ (by omega) (by omega) (by omega), hn _ (by omega) (by omega) (by omega), hn _ (by omega) (by omega) (by omega)⟩), hn 0 (by omega) (by omega) (by omega), by omega, fun q => by omega⟩
  · have c0' : ¬ (0 ≤ d ∧ d < 6) := by omega
    rw [if_neg c0, if_neg c0, if_neg c0', if_neg c0']
    exact ⟨rfl, h, rfl, by decide, fun _ => ⟨rfl, rfl⟩⟩
/- a draw not drawn has no class in its tickets -/
set_option maxHeartbeats 4000000 in
set_option maxRecDepth 100000 in
theorem RR_h0 {O : Of} {M : Int → Int} (h : RR O M) : ∀ d : Int, 0 ≤ d → d < 6 → O 7 d = -5 → ∀ n : Int, 0 ≤ n → n < 100 → O 3 (d * 100 + n) / 8 % 4 = 0 := by
  intro d d1 d2 h7 n n1 n2
  rw [(h.1.2.2 _ (by omega) (by omega)).1]
  have q := (h.2.1.2 d d1 d2).1
  have hW := h.2.1.1 d d1 d2
  have e1 : (d * 100 + n) / 100 = d := by omega
  have c : ¬ M (53 + 2 * d) = 1 := fun r => by rw [h7, if_pos r] at q; omega
  unfold clM
  rw [e1, if_neg c]
  split <;> rfl
