/-! THE RELATION of copies; what is told is the same -/
set_option maxHeartbeats 4000000 in
set_option maxRecDepth 100000 in
theorem RR_row {O : Of} {M M' : Int → Int} (h : RR O M) (hm : ∀ j : Int, 0 ≤ j → j < 3833 → M' j = M j) : RR O M' := by
  obtain ⟨h1, h2, h3, h4, h5, h6, h7, h8⟩ := h
  have hq : ∀ s f, 0 ≤ s → s < 600 → qb M' s f = qb M s f := fun s f s1 s2 => by unfold qb; rw [hm _ (by omega) (by omega)]
  have hD : SmD M M' := ⟨fun j j1 j2 => hm j (by omega) (by omega), fun s s1 s2 => hq s 0 s1 s2⟩
  exact ⟨RF_cg h1 rfl (fun j j1 => hm j (by omega) (by omega)), RD_cg h2 ⟨rfl, rfl, rfl⟩ hD, RP_cg h3 rfl (by rw [hm 0 (by omega) (by omega)]; exact Int.le_refl _) (fun j j1 j2 => hm j (by omega) (by omega)) (fun s v s1 s2 _ _ => hq s _ s1 s2), RW_cg h4 (fun _ _ _ => rfl) (by rw [hm 0 (by omega) (by omega)]; exact Int.le_refl _) (fun j j1 j2 => hm j (by omega) (by omega)), RM_cg h5 ⟨rfl, rfl, rfl⟩ (hm 0 (by omega) (by omega)) (hm 2 (by omega) (by omega)) (fun j j1 j2 => hm j (by omega) (by omega)), RQ_cg h6 ⟨rfl, rfl⟩ (hm 4 (by omega) (by omega)) (fun j j1 j2 => hm j (by omega) (by omega)), R0_cg h7 ⟨rfl, rfl⟩ (fun j j1 => hm j (by omega) (by omega)) (fun j j1 j2 => hm j (by omega) (by omega)) (fun s v s1 s2 _ _ => hq s _ s1 s2), RI_cg h8 hD (fun j j1 => hm j (by omega) (by omega)) (fun v v1 v2 => Or.inl (hm _ (by omega) (by omega))) (fun s v s1 s2 _ _ c => by rw [hq s _ s1 s2]; exact c) (fun s v s1 s2 _ _ => hq s _ s1 s2)⟩
set_option maxHeartbeats 4000000 in
set_option maxRecDepth 100000 in
theorem T1_row {O : Of} {M M' : Int → Int} (h : T1 O M) (hm : ∀ j : Int, 0 ≤ j → j < 3833 → M' j = M j) : T1 O M' := T1_cg h (RR_row h.1 hm) (fun j hj => hm j (by omega) (by omega)) (fun v v1 v2 => ⟨hm _ (by omega) (by omega), hm _ (by omega) (by omega), hm _ (by omega) (by omega)⟩)
set_option maxHeartbeats 4000000 in
set_option maxRecDepth 100000 in
theorem RR_eqo {O P : Of} {M : Int → Int} (h : RR P M) (he : EqO O P) : RR O M := by
  obtain ⟨h1, h2, h3, h4, h5, h6, h7, h8⟩ := h
  obtain ⟨⟨p0, p1, p8, p9, p10⟩, p18, ⟨p21, p21'⟩, e1, e3, e4, e6, e7, e8, e10, e11, e12, e13, e14, e15, e16, e17, e19, e20, e22⟩ := he
  refine ⟨⟨h1.1, fun t t1 t2 => by rw [e3 t t1 t2]; exact h1.2.1 t t1 t2, fun t t1 t2 => ?_⟩, ⟨h2.1, fun d d1 d2 => ?_⟩, fun t t1 t2 => by rw [e4 t t1 t2]; exact h3 t t1 t2, fun w w1 w2 => ?_, ⟨h5.1, by rw [p18]; exact h5.2.1, fun i i1 i2 => ?_⟩, ?_, ?_, h8⟩
  · unfold fb
    rw [e3 t t1 t2]
    exact h1.2.2 t t1 t2
  · obtain ⟨k1, k2, k3⟩ := h2.2 d d1 d2
    rw [e7 d d1 d2, e6 d d1 d2]
    exact ⟨k1, k2, fun c c1 c3 => by rw [e8 _ (by omega) (by omega)]; exact k3 c c1 c3⟩
  · obtain ⟨a1, a2, a3⟩ := h4 w w1 w2
    rw [e11 w w1 w2, e12 w w1 w2, e13 w w1 w2, e14 w w1 w2, e15 w w1 w2, e16 w w1 w2, e17 w w1 w2]
    exact ⟨a1, fun z z1 z2 => by rw [e10 _ (by omega) (by omega)]; exact a2 z z1 z2, a3⟩
  · have := h5.1
    rw [e19 i i1 (by omega), e20 i i1 (by omega)]
    exact h5.2.2 i i1 i2
  · obtain ⟨a1, a2, a3, a4, a5, a6⟩ := h6
    unfold RQ
    rw [p21, p21']
    refine ⟨a1, a2, fun i i1 i2 => by rw [e22 i i1 (by omega)]; exact a3 i i1 i2, fun i j i1 i2 i3 => by rw [e22 i i1 (by omega), e22 j (by omega) (by omega)]; exact a4 i j i1 i2 i3, fun t t1 t2 t3 => ?_, a6⟩
    obtain ⟨i, i1, i2, i3⟩ := a5 t t1 t2 t3
    exact ⟨i, i1, i2, by rw [e22 i i1 (by omega)]; exact i3⟩
  · obtain ⟨b1, b2, b3, b4, b5⟩ := h7
    unfold R0
    rw [p0, p1, p8, p9, p10]
    exact ⟨b1, b2, b3, fun i i1 i2 => by rw [e1 i i1 i2]; exact b4 i i1 i2, b5⟩
set_option maxHeartbeats 4000000 in
set_option maxRecDepth 100000 in
theorem T1_eqo {O P : Of} {M : Int → Int} (h : T1 P M) (he : EqO O P) : T1 O M := ⟨RR_eqo h.1 he, h.2⟩
set_option maxHeartbeats 4000000 in
set_option maxRecDepth 100000 in
theorem T1_set {O : Of} {M : Int → Int} {w v : Int} (h : T1 O M) (hok : setOk w v) : T1 (oc O 1 (up (O 1) w v)) (up M (5 + w) v) := by
  have g := RR_set h.1 hok
  unfold setOk at hok
  exact T1_cg h g (fun j hj => up_ne (by omega)) (fun u u1 u2 => ⟨up_ne (by omega), up_ne (by omega), up_ne (by omega)⟩)
/- a rule tried, in both -/
set_option maxHeartbeats 4000000 in
set_option maxRecDepth 100000 in
theorem T1_rule {X P : Of} {M : Int → Int} {r : Int} (h : T1 P M) (hr : 0 ≤ r ∧ r < 3) : T1 (rlO X P r) (up M 5 r) := by
  have g := T1_set (w := 0) (v := r) (T1_eqo h (cpO_eq X P)) (by unfold setOk mstC; rw [if_pos rfl, if_pos rfl]; omega)
  exact g
set_option maxHeartbeats 4000000 in
set_option maxRecDepth 100000 in
theorem RULE {X P : Of} {M : Int → Int} {r : Int} (h : T1 P M) (h0 : M 0 ≤ 9999) (hr : 0 ≤ r ∧ r < 3) : ∀ k : Nat, k ≤ 99 → T1 (ruO X P r k) (rtM M r k) ∧ rtM M r k 0 = M 0 + k := by
  intro k hk
  have g := T1_rule (X := X) h hr
  have e0 : up M 5 r 0 = M 0 := up_ne (by decide)
  have q := TICKS g k (by rw [e0]; omega)
  rw [e0] at q
  exact q
/- what is told -/
set_option maxHeartbeats 4000000 in
set_option maxRecDepth 100000 in
theorem bits_M {M : Int → Int} (hF : FlB M) {t : Int} (ht : 0 ≤ t ∧ t < 600) : M (833 + t) / 4 % 8 = qb M t 2 + 2 * qb M t 3 + 4 * qb M t 4 ∧ bt3 (M (833 + t) / 32 % 8) = cbC M t := by
  have h := hF t ht.1 ht.2
  have e : cbC M t = qb M t (5 + (0 : Int)).toNat + qb M t (5 + (1 : Int)).toNat + qb M t (5 + (2 : Int)).toNat := by
    unfold cbC
    simp only [sm, Int.ofNat_zero, Int.zero_add]
    rfl
  rw [e]
  unfold qb bt3
  simp only [Int.reduceAdd, Int.add_zero, Int.reduceToNat, Int.reducePow]
  omega
set_option maxHeartbeats 4000000 in
set_option maxRecDepth 100000 in
theorem bits_O {O : Of} {M : Int → Int} (h1 : RF O M) {t : Int} (ht : 0 ≤ t ∧ t < 600) : O 3 t / 32 % 8 = qb M t 2 + 2 * qb M t 3 + 4 * qb M t 4 := by
  have m0 := RF_m h1 ht (w := 0) (by omega)
  have m1 := RF_m h1 ht (w := 1) (by omega)
  have m2 := RF_m h1 ht (w := 2) (by omega)
  simp only [Int.reduceAdd, Int.add_zero, Int.reduceToNat] at m0 m1 m2
  rw [← m0, ← m1, ← m2]
  unfold fb
  simp only [Int.reducePow]
  omega
set_option maxHeartbeats 4000000 in
set_option maxRecDepth 100000 in
theorem cu_eq {O : Of} {M : Int → Int} (h4 : RW O M) (t : Int) : cuO O t = wwC M t := by
  have key : ∀ w : Int, 0 ≤ w → w < 3 → cuW O t w (O 11 w).toNat = wwI M t w (M (8 + 15 * w)).toNat := fun w w1 w2 => by
    obtain ⟨b1, b2, -⟩ := h4 w w1 w2
    rw [b1.2]
    refine sm_congr (fun k hk => ?_)
    rw [b2 (k : Int) (by omega) (by omega)]
  unfold cuO wwC
  rw [key 0 (by omega) (by omega), key 1 (by omega) (by omega), key 2 (by omega) (by omega)]
  rfl
set_option maxHeartbeats 4000000 in
set_option maxRecDepth 100000 in
theorem Q_ticket {O : Of} {M : Int → Int} (h : RR O M) (t a : Int) : (if 0 ≤ t ∧ t < 600 then ttV O t a else -1) = tkV M t a := by
  unfold tkV
  by_cases ht : 0 ≤ t ∧ t < 600
  · rw [if_pos ht, if_pos ht]
    unfold ttV
    obtain ⟨q1, q2⟩ := bits_M h.1.1 ht
    rw [RF_0 h.1 ht, RF_1 h.1 ht, RF_2 h.1 ht, (h.1.2.2 t ht.1 ht.2).1, pz_eq h.1 h.2.1 ht, bt_paid h.1 ht, bt_called h.1 ht, bits_O h.1 ht, ← q1, ← q2, cu_eq h.2.2.2.1]
  · rw [if_neg ht, if_neg ht]
/- prizes of a draw added up -/
set_option maxHeartbeats 4000000 in
set_option maxRecDepth 100000 in
theorem sum_cls {f : Int → Int} {g : Nat → Int} (hf : f 0 = 0) (hg : ∀ k, 0 ≤ g k ∧ g k ≤ 3) : ∀ n : Nat, sm (fun k => f (g k)) n = ct (fun k => g k == 1) n * f 1 + ct (fun k => g k == 2) n * f 2 + ct (fun k => g k == 3) n * f 3
  | 0 => by simp [sm, ct]
  | n + 1 => by
    rw [sm_s, ct_s, ct_s, ct_s, sum_cls hf hg n, Int.add_mul, Int.add_mul, Int.add_mul]
    rcases (show g n = 0 ∨ g n = 1 ∨ g n = 2 ∨ g n = 3 by have := hg n; omega) with e | e | e | e
    · rw [e, hf]; simp
    · rw [e]; simp; omega
    · rw [e]; simp; omega
    · rw [e]; simp; omega
set_option maxHeartbeats 4000000 in
set_option maxRecDepth 100000 in
theorem ap_eq {O : Of} {M : Int → Int} (h : RR O M) {d : Int} (hd : 0 ≤ d ∧ d < 6) : apV O d = dpC M d := by
  obtain ⟨k1, k2, k3⟩ := h.2.1.2 d hd.1 hd.2
  have e : dpC M d = sm (fun k => (fun c => if c = 0 then 0 else prO O d c) (clM M (100 * d + (k : Int)))) 100 := by
    refine sm_congr (fun k hk => ?_)
    rw [← pz_eq h.1 h.2.1 (by omega)]
    unfold pzO
    have e1 : (100 * d + (k : Int)) / 100 = d := by omega
    rw [e1, (h.1.2.2 _ (by omega) (by omega)).1]
    dsimp only
    by_cases c : clM M (100 * d + (k : Int)) = 0
    · rw [if_pos c, c]; rfl
    · rw [if_neg c]
  rw [e, sum_cls (f := fun c => if c = 0 then 0 else prO O d c) rfl (fun k => clM_03 M _) 100]
  unfold apV wnV
  rw [if_neg (by decide), if_neg (by decide), if_neg (by decide)]
  have hc : ∀ c : Int, 1 ≤ c → c ≤ 3 → O 8 (d * 3 + c - 1) * prO O d c = ct (fun k => clM M (100 * d + (k : Int)) == c) 100 * prO O d c := fun c c1 c3 => by
    by_cases q : M (53 + 2 * d) = 1
    · rw [k3 c c1 c3, if_pos q]; rfl
    · have z : prO O d c = 0 := by
        unfold prO
        rw [k3 c c1 c3, if_neg q, if_pos rfl]
        split <;> rfl
      rw [z, Int.mul_zero, Int.mul_zero]
  rw [hc 1 (by omega) (by omega), hc 2 (by omega) (by omega), hc 3 (by omega) (by omega)]
set_option maxHeartbeats 4000000 in
set_option maxRecDepth 100000 in
theorem wn_eq {O : Of} {M : Int → Int} (h : RR O M) {d c : Int} (hd : 0 ≤ d ∧ d < 6) (hc : 1 ≤ c ∧ c ≤ 3) : wnV O d c = ofC M d c := by
  obtain ⟨k1, k2, k3⟩ := h.2.1.2 d hd.1 hd.2
  unfold wnV
  rw [k3 c hc.1 hc.2]
  by_cases q : M (53 + 2 * d) = 1
  · rw [if_pos q]
  · rw [if_neg q]
    have e : ofC M d c = ct (fun _ => false) 100 := ct_congr (fun k hk => by
      have e1 : (100 * d + (k : Int)) / 100 = d := by omega
      have z : clM M (100 * d + (k : Int)) = 0 := by
        unfold clM
        rw [e1, if_neg q]
        split <;> rfl
      rw [z]
      simp only [beq_eq_false_iff_ne, ne_eq]
      omega)
    rw [e]
    have z : ∀ n : Nat, ct (fun _ => false) n = 0 := fun n => by
      induction n with
      | zero => rfl
      | succ n ih => rw [ct_s, ih]; rfl
    exact (z 100).symm
set_option maxHeartbeats 4000000 in
set_option maxRecDepth 100000 in
theorem Q_draw {O : Of} {M : Int → Int} (h : RR O M) (d a : Int) : (if 0 ≤ d ∧ d < 6 then dtV O d a else -1) = doV M d a := by
  unfold doV
  by_cases hd : 0 ≤ d ∧ d ≤ 5
  · have hd' : 0 ≤ d ∧ d < 6 := by omega
    rw [if_pos hd, if_pos hd']
    obtain ⟨k1, k2, k3⟩ := h.2.1.2 d hd'.1 hd'.2
    have hW := h.2.1.1 d hd'.1 hd'.2
    unfold dtV
    rw [k2, ap_eq h hd', wn_eq h hd' (c := 1) (by omega), wn_eq h hd' (c := 2) (by omega), wn_eq h hd' (c := 3) (by omega), k1]
    by_cases c0 : a = 0
    · rw [if_pos c0, if_pos c0, Int.mul_comm]
    · rw [if_neg c0, if_neg c0]
      by_cases c1 : a = 1
      · rw [if_pos c1, if_pos c1]
      · rw [if_neg c1, if_neg c1]
        by_cases c3 : a = 2
        · rw [if_pos c3, if_pos c3]
          by_cases q : M (53 + 2 * d) = 1
          · rw [if_pos q, if_neg (by omega), q]
          · rw [if_neg q, if_pos rfl]; omega
        · rw [if_neg c3, if_neg c3]
          by_cases c4 : a = 3
          · rw [if_pos c4, if_pos c4]
          · rw [if_neg c4, if_neg c4]
            by_cases c5 : a = 4
            · subst c5; rw [if_pos rfl, if_pos (by omega)]; rfl
            · rw [if_neg c5]
              by_cases c6 : a = 5
              · subst c6; rw [if_pos rfl, if_pos (by omega)]; rfl
              · rw [if_neg c6]
                by_cases c7 : a = 6
                · subst c7; rw [if_pos rfl, if_pos (by omega)]; rfl
                · rw [if_neg c7, if_neg (show ¬ (4 ≤ a ∧ a ≤ 6) by omega)]
  · rw [if_neg hd, if_neg (by omega)]
set_option maxHeartbeats 4000000 in
set_option maxRecDepth 100000 in
theorem Q_window {O : Of} {M : Int → Int} (h : RR O M) (w a : Int) : (if 0 ≤ w ∧ w < 3 then (if a = 5 then mkV O w else wtV O w a) else -1) = woV M w a := by
  unfold woV
  by_cases hw : 0 ≤ w ∧ w ≤ 2
  · have hw' : 0 ≤ w ∧ w < 3 := by omega
    rw [if_pos hw, if_pos hw']
    obtain ⟨b1, b2, b3, b4, b5, b6, b7, b8, b9⟩ := h.2.2.2.1 w hw'.1 hw'.2
    have em : mkV O w = mkC M w := sm_congr (fun k hk => RF_m h.1 (by omega) hw')
    rw [em]
    by_cases c5 : a = 5
    · subst c5
      rw [if_pos rfl, if_neg (by decide), if_neg (by decide), if_neg (by decide), if_neg (by decide), if_neg (by decide), if_pos rfl]
    · rw [if_neg c5]
      unfold wtV
      rw [b1.2, b6, b7, b8, b9, b4.2]
      by_cases c0 : a = 0
      · rw [if_pos c0, if_pos c0]
      · rw [if_neg c0, if_neg c0]
        by_cases c1 : a = 1
        · rw [if_pos c1, if_pos c1]
          by_cases q : 0 < M (8 + 15 * w)
          · have r := b2 0 (by omega) q
            rw [Int.add_zero] at r
            rw [if_pos q, if_pos q, r]
            rfl
          · rw [if_neg q, if_neg q]
        · rw [if_neg c1, if_neg c1]
          by_cases q : M (8 + 15 * w + 9) = 0
          · rw [if_pos q, if_pos (show (-5 : Int) = -5 from rfl), if_pos (show (-5 : Int) = -5 from rfl), if_neg (show ¬ 0 < M (8 + 15 * w + 9) by omega), if_neg (show ¬ 0 < M (8 + 15 * w + 9) by omega), b5.1 q, if_neg c5]
          · rw [if_neg q, if_neg (show ¬ M (8 + 15 * w + 9) - 1 = -5 by omega), if_neg (show ¬ M (8 + 15 * w + 9) - 1 = -5 by omega), if_pos (show 0 < M (8 + 15 * w + 9) by omega), if_pos (show 0 < M (8 + 15 * w + 9) by omega), b5.2.1 q, if_neg c5]
  · rw [if_neg hw, if_neg (by omega)]
set_option maxHeartbeats 4000000 in
set_option maxRecDepth 100000 in
theorem Q_total {O : Of} {M : Int → Int} (h : RR O M) (R : Int → Int) (a : Int) (h12 : ¬ (12 ≤ a ∧ a ≤ 16)) : toV O a = cuV M R a := by
  obtain ⟨h1, h2, h3, h4, h5, h6, h7, h8⟩ := h
  have k : ∀ w : Int, 0 ≤ w → w < 3 → O 11 w = M (8 + 15 * w) ∧ O 14 w = M (8 + 15 * w + 11) ∧ O 15 w = M (8 + 15 * w + 12) := fun w w1 w2 => by
    obtain ⟨b1, b2, b3, b4, b5, b6, b7, b8, b9⟩ := h4 w w1 w2
    exact ⟨b1.2, b6, b7⟩
  have d : ∀ d : Int, 0 ≤ d → d < 6 → O 6 d = sdC M d := fun d d1 d2 => (h2.2 d d1 d2).2.1
  have k0 := k 0 (by omega) (by omega)
  have k1 := k 1 (by omega) (by omega)
  have k2 := k 2 (by omega) (by omega)
  simp only [Int.reduceMul, Int.reduceAdd, Int.mul_zero, Int.add_zero, Int.mul_one] at k0 k1 k2
  have ep : apS O = poC M := by
    unfold apS poC
    rw [d 0 (by omega) (by omega), d 1 (by omega) (by omega), d 2 (by omega) (by omega), d 3 (by omega) (by omega), d 4 (by omega) (by omega), d 5 (by omega) (by omega)]
    simp only [sm]
    show _ = 0 + 10 * sdC M 0 + 10 * sdC M 1 + 10 * sdC M 2 + 10 * sdC M 3 + 10 * sdC M 4 + 10 * sdC M 5
    omega
  unfold toV cuV s3
  rw [ep, h7.1.1, h5.2.1, k0.2.1, k1.2.1, k2.2.1, k0.2.2, k1.2.2, k2.2.2, k0.1, k1.1, k2.1, h7.2.2.1.1, h7.2.2.1.2.1, h7.2.2.1.2.2, h6.2.1.1, h6.1.1, h7.2.1.1, if_neg (show ¬ (14 ≤ a ∧ a ≤ 16) by omega)]
  rw [if_neg (show ¬ a = 12 by omega), if_neg (show ¬ a = 13 by omega)]
set_option maxHeartbeats 4000000 in
set_option maxRecDepth 100000 in
theorem Q_paid {O : Of} {M : Int → Int} (h : RR O M) : cbW O = coS M - M 3 ∧ ctS O = pdC M := by
  refine ⟨by unfold cbW; rw [s3_coS h.2.2.2.1, h.2.2.2.2.2.2.1.2.2.1.2.2], sm_congr (fun k hk => ?_)⟩
  have ht : 0 ≤ (k : Int) ∧ (k : Int) < 600 := by omega
  have hb := bits_M h.1.1 ht
  unfold ctV pdV
  rw [bt_paid h.1 ht, bt_called h.1 ht, pz_eq h.1 h.2.1 ht, pyC_3]
  have e : cbC M (k : Int) = qb M (k : Int) (5 + (0 : Int)).toNat + qb M (k : Int) (5 + (1 : Int)).toNat + qb M (k : Int) (5 + (2 : Int)).toNat := by
    unfold cbC
    simp only [sm, Int.ofNat_zero, Int.zero_add]
    rfl
  have hc : ∀ w : Int, 0 ≤ w → w < 3 → cnI M w (k : Int) = pyI M w (k : Int) - qb M (k : Int) (5 + w).toNat := fun w w1 w2 => by
    have a := (h.2.2.2.2.2.2.2 (k : Int) w ht.1 ht.2 w1 w2).2.1
    have q := qb_01 M (k : Int) (5 + w).toNat
    unfold cnI pyI
    rcases q with q | q
    · rw [q]
      by_cases c : 0 < M (2033 + 600 * w + (k : Int))
      · rw [if_pos ⟨c, rfl⟩, if_pos c]; rfl
      · rw [if_neg (fun r => c r.1), if_neg c]; rfl
    · have c := a q
      rw [q, if_neg (fun r => absurd r.2 (by decide)), if_pos c]; rfl
  have es : pyI M 0 (k : Int) + pyI M 1 (k : Int) + pyI M 2 (k : Int) - cbC M (k : Int) = cnI M 0 (k : Int) + cnI M 1 (k : Int) + cnI M 2 (k : Int) := by
    rw [hc 0 (by omega) (by omega), hc 1 (by omega) (by omega), hc 2 (by omega) (by omega), e]
    omega
  rw [es]
  have c0 := cnI_01 M 0 (k : Int)
  have c1 := cnI_01 M 1 (k : Int)
  have c2' := cnI_01 M 2 (k : Int)
  by_cases c : 0 < cnI M 0 (k : Int) + cnI M 1 (k : Int) + cnI M 2 (k : Int)
  · rw [if_pos c]
  · have z : cnI M 0 (k : Int) + cnI M 1 (k : Int) + cnI M 2 (k : Int) = 0 := by omega
    rw [if_neg c, z, Int.zero_mul]
set_option maxHeartbeats 4000000 in
set_option maxRecDepth 100000 in
theorem Q_short {O : Of} {M : Int → Int} (h : RR O M) : shO O = shV M := by
  have k : ∀ w : Int, 0 ≤ w → w < 3 → O 11 w = M (8 + 15 * w) ∧ shI M w = 2 * O 11 w + (if O 12 w = -5 then 0 else 1) ∧ (O 12 w = -5 ∨ ¬ O 12 w = -5) := fun w w1 w2 => by
    obtain ⟨b1, b2, b3, b4, -⟩ := h.2.2.2.1 w w1 w2
    refine ⟨b1.2, ?_, by omega⟩
    unfold shI
    rw [b1.2, b4.2]
    by_cases q : M (8 + 15 * w + 9) = 0
    · rw [if_pos q, if_pos rfl, if_neg (by omega)]
    · rw [if_neg q, if_neg (show ¬ M (8 + 15 * w + 9) - 1 = -5 by omega), if_pos (by omega)]
  have hs : ∀ b w : Int, 0 ≤ b → b < 3 → 0 ≤ w → w < 3 → shB O b w = if shI M w < shI M b then w else b := fun b w b1 b2 w1 w2 => by
    have kb := (k b b1 b2).2.1
    have kw := (k w w1 w2).2.1
    unfold shB
    rw [kb, kw]
    by_cases q1 : O 12 b = -5
    · by_cases q2 : O 12 w = -5
      · rw [if_pos q1, if_pos q2]
        by_cases c : O 11 w < O 11 b
        · rw [if_pos (Or.inl c), if_pos (by omega)]
        · rw [if_neg (fun r => r.elim c (fun r => r.2.1 q1)), if_neg (by omega)]
      · rw [if_pos q1, if_neg q2]
        by_cases c : O 11 w < O 11 b
        · rw [if_pos (Or.inl c), if_pos (by omega)]
        · rw [if_neg (fun r => r.elim c (fun r => r.2.1 q1)), if_neg (by omega)]
    · by_cases q2 : O 12 w = -5
      · rw [if_neg q1, if_pos q2]
        by_cases c : O 11 w < O 11 b ∨ O 11 w = O 11 b
        · rw [if_pos (c.elim Or.inl (fun r => Or.inr ⟨r, q1, q2⟩)), if_pos (by omega)]
        · rw [if_neg (fun r => c (r.elim Or.inl (fun r => Or.inr r.1))), if_neg (by omega)]
      · rw [if_neg q1, if_neg q2]
        by_cases c : O 11 w < O 11 b
        · rw [if_pos (Or.inl c), if_pos (by omega)]
        · rw [if_neg (fun r => r.elim c (fun r => q2 r.2.2)), if_neg (by omega)]
  unfold shO shV
  rw [hs 0 1 (by omega) (by omega) (by omega) (by omega)]
  by_cases c : shI M 1 < shI M 0
  · rw [if_pos c, if_pos c, hs 1 2 (by omega) (by omega) (by omega) (by omega)]
  · rw [if_neg c, if_neg c, hs 0 2 (by omega) (by omega) (by omega) (by omega)]
