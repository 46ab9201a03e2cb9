/-! THE ACCOUNTS: what the law asks of an office -/
set_option maxHeartbeats 4000000 in
set_option maxRecDepth 100000 in
theorem RF_le {O : Of} {M : Int → Int} (h : RR O M) {t w : Int} (ht : 0 ≤ t ∧ t < 600) (hw : 0 ≤ w ∧ w < 3) : fb O t (8 + w).toNat ≤ fb O t (5 + w).toNat ∧ fb O t (11 + w).toNat ≤ fb O t (8 + w).toNat := by
  obtain ⟨r1, r2, -, -⟩ := h.2.2.2.2.2.2.2 t w ht.1 ht.2 hw.1 hw.2
  have r3 := ((h.2.2.1 t ht.1 ht.2).2.1 w hw.1 hw.2).1.1
  have a := fb_01 O t (5 + w).toNat
  have b := fb_01 O t (8 + w).toNat
  have c := fb_01 O t (11 + w).toNat
  rw [RF_m h.1 ht hw] at a ⊢
  rw [RF_c h.1 ht hw] at c ⊢
  by_cases hp : 0 < pd M w t
  · have e := (r1 hp).1
    have e2 : fb O t (8 + w).toNat = 1 := by
      rw [RF_p h.1 ht hw]
      unfold pyI
      have hp2 : 0 < M (2033 + 600 * w + t) := hp
      rw [if_pos hp2]
    rw [e, e2]
    omega
  · have e := fb_pd h ht hw (by omega)
    rw [e]
    refine ⟨by omega, ?_⟩
    rcases c with c | c
    · omega
    · exact absurd (r2 c) hp
set_option maxHeartbeats 4000000 in
set_option maxRecDepth 100000 in
theorem cls_0 {O : Of} {M : Int → Int} (h : RR O M) {t w : Int} (ht : 0 ≤ t ∧ t < 600) (hw : 0 ≤ w ∧ w < 3) (hp : fb O t (8 + w).toNat = 1) : ¬ clM M t = 0 := by
  obtain ⟨r1, -, -, -⟩ := h.2.2.2.2.2.2.2 t w ht.1 ht.2 hw.1 hw.2
  by_cases c : 0 < pd M w t
  · exact (r1 c).2
  · have r3 := ((h.2.2.1 t ht.1 ht.2).2.1 w hw.1 hw.2).1.1
    have e := fb_pd h ht hw (by omega)
    omega
/- as many winners as tickets sold, at most -/
set_option maxHeartbeats 4000000 in
set_option maxRecDepth 100000 in
theorem ct_sm {p : Nat → Bool} {f : Nat → Int} : ∀ {n : Nat}, (∀ k, k < n → (0 ≤ f k) ∧ (p k = true → 1 ≤ f k)) → ct p n ≤ sm f n
  | 0, _ => Int.le_refl _
  | n + 1, h => by
    have ih := ct_sm (p := p) (f := f) (n := n) (fun k hk => h k (by omega))
    have q := h n (by omega)
    rw [ct_s, sm_s]
    split
    · next c => have := q.2 c; omega
    · omega
set_option maxHeartbeats 4000000 in
set_option maxRecDepth 100000 in
theorem pz_pos {O : Of} {M : Int → Int} (h : RR O M) {t : Int} (ht : 0 ≤ t ∧ t < 600) (hc : ¬ clM M t = 0) : 1 ≤ pzO O t := by
  obtain ⟨k1, k2, k3⟩ := h.2.1.2 (t / 100) (by omega) (by omega)
  have c03 := clM_03 M t
  have ec := (h.1.2.2 t ht.1 ht.2).1
  have hp := ofC_pos (M := M) ht
  have hle : ofC M (t / 100) (clM M t) ≤ sdC M (t / 100) := ct_sm (fun k hk => by
    have q := qb_01 M (100 * (t / 100) + (k : Int)) 0
    refine ⟨by omega, fun e => ?_⟩
    have e2 : clM M (100 * (t / 100) + (k : Int)) = clM M t := eq_of_beq e
    have e3 := (cl_drawn (M := M) (t := 100 * (t / 100) + (k : Int)) (by rw [e2]; exact hc)).2
    omega)
  unfold pzO prO
  rw [ec, if_neg hc, k3 _ (by omega) (by omega), if_pos (cl_drawn hc).1, if_neg (by omega), k2]
  obtain ⟨s, hs⟩ : ∃ s, s = sdC M (t / 100) := ⟨_, rfl⟩
  obtain ⟨n, hn⟩ : ∃ n, n = ofC M (t / 100) (clM M t) := ⟨_, rfl⟩
  rw [← hs] at hle ⊢
  rw [← hn] at hp hle ⊢
  have h2 : 2 * s ≤ s * 10 * shr (clM M t) / 100 := by
    rcases (show clM M t = 1 ∨ clM M t = 2 ∨ clM M t = 3 by omega) with e | e | e
    · rw [e, show shr 1 = 40 from rfl]; omega
    · rw [e, show shr 2 = 30 from rfl]; omega
    · rw [e, show shr 3 = 20 from rfl]; omega
  have hpos : 0 < n := by omega
  exact (Int.le_ediv_iff_mul_le hpos).mpr (by omega)
/- a ticket, as the law looks at it -/
def TkOk (O : Of) (t : Int) : Prop := bt3 (O 3 t / 256 % 8) ≤ O 3 t / 32 % 8 % 2 + O 3 t / 32 % 8 / 2 % 2 + O 3 t / 32 % 8 / 4 % 2 ∧ (0 < bt3 (O 3 t / 256 % 8) → bt3 (O 3 t / 2048 % 8) < bt3 (O 3 t / 256 % 8) ∧ 0 < pzO O t) ∧ (fb O t 0 = 0 → O 3 t / 8 % 4 = 0) ∧ (fb O t 2 = 1 → 0 < bt3 (O 3 t / 256 % 8)) ∧ (0 < pzO O t → O 3 t / 32 % 8 % 2 = 1 → rsO O 0 t = 4)
set_option maxHeartbeats 4000000 in
set_option maxRecDepth 100000 in
theorem TkOk_of {O : Of} {M : Int → Int} (h : RR O M) (hX : XD O) {t : Int} (ht : 0 ≤ t ∧ t < 600) : TkOk O t := by
  have a0 := RF_le (w := 0) h ht (by omega)
  have a1 := RF_le (w := 1) h ht (by omega)
  have a2 := RF_le (w := 2) h ht (by omega)
  have e5 : fb O t 5 = O 3 t / 32 % 8 % 2 := by
    unfold fb
    rw [show (2 : Int) ^ 5 = 32 by decide]
    omega
  have e6 : fb O t 6 = O 3 t / 32 % 8 / 2 % 2 := by
    unfold fb
    rw [show (2 : Int) ^ 6 = 64 by decide]
    omega
  have e7 : fb O t 7 = O 3 t / 32 % 8 / 4 % 2 := by
    unfold fb
    rw [show (2 : Int) ^ 7 = 128 by decide]
    omega
  have f8 : fb O t 8 ≤ fb O t 5 ∧ fb O t 11 ≤ fb O t 8 := a0
  have f9 : fb O t 9 ≤ fb O t 6 ∧ fb O t 12 ≤ fb O t 9 := a1
  have f10 : fb O t 10 ≤ fb O t 7 ∧ fb O t 13 ≤ fb O t 10 := a2
  have bp : bt3 (O 3 t / 256 % 8) = fb O t 8 + fb O t 9 + fb O t 10 := (bt_bits (O 3 t)).1
  have bc : bt3 (O 3 t / 2048 % 8) = fb O t 11 + fb O t 12 + fb O t 13 := (bt_bits (O 3 t)).2
  unfold TkOk
  rw [bp, bc, ← e5, ← e6, ← e7]
  have q8 := fb_01 O t 8
  have q9 := fb_01 O t 9
  have q10 := fb_01 O t 10
  refine ⟨by omega, fun c => ⟨?_, ?_⟩, fun c => ?_, fun c => ?_, fun c c1 => ?_⟩
  · -- the first payment is not called back
    obtain ⟨p1, p2, p3⟩ := h.2.2.1 t ht.1 ht.2
    have hw : ∃ w : Int, (0 ≤ w ∧ w < 3) ∧ 0 < pd M w t := by
      have g : ∀ w : Int, 0 ≤ w → w < 3 → fb O t (8 + w).toNat = 1 → 0 < pd M w t := fun w w1 w2 e => by
        by_cases c : 0 < pd M w t
        · exact c
        · have r3 := (p2 w w1 w2).1.1
          have := fb_pd h ht ⟨w1, w2⟩ (by omega)
          omega
      rcases (show fb O t 8 = 1 ∨ fb O t 9 = 1 ∨ fb O t 10 = 1 by omega) with e | e | e
      · exact ⟨0, by omega, g 0 (by omega) (by omega) e⟩
      · exact ⟨1, by omega, g 1 (by omega) (by omega) e⟩
      · exact ⟨2, by omega, g 2 (by omega) (by omega) e⟩
    obtain ⟨w, w1, w2⟩ := hw
    have h4 := (p2 w w1.1 w1.2).2 w2
    obtain ⟨r1, r2⟩ := p3 (by omega)
    obtain ⟨b, hb⟩ : ∃ b, b = (O 4 t - 1) % 3 := ⟨_, rfl⟩
    rw [← hb] at r1 r2
    have hb3 : 0 ≤ b ∧ b < 3 := by omega
    have z1 : fb O t (8 + b).toNat = 1 := by
      rw [RF_p h.1 ht hb3]
      unfold pyI
      have e : 0 < M (2033 + 600 * b + t) := by
        have e2 : pd M b t = M (2033 + 600 * b + t) := rfl
        rw [← e2, r1]
        omega
      rw [if_pos e]
    have z2 : fb O t (11 + b).toNat = 0 := by rw [RF_c h.1 ht hb3]; exact r2
    rcases (show b = 0 ∨ b = 1 ∨ b = 2 by omega) with e | e | e
    · rw [e] at z1 z2
      have y1 : fb O t 8 = 1 := z1
      have y2 : fb O t 11 = 0 := z2
      omega
    · rw [e] at z1 z2
      have y1 : fb O t 9 = 1 := z1
      have y2 : fb O t 12 = 0 := z2
      omega
    · rw [e] at z1 z2
      have y1 : fb O t 10 = 1 := z1
      have y2 : fb O t 13 = 0 := z2
      omega
  · rcases (show fb O t 8 = 1 ∨ fb O t 9 = 1 ∨ fb O t 10 = 1 by omega) with e | e | e
    · have := pz_pos h ht (cls_0 (w := 0) h ht (by omega) e); omega
    · have := pz_pos h ht (cls_0 (w := 1) h ht (by omega) e); omega
    · have := pz_pos h ht (cls_0 (w := 2) h ht (by omega) e); omega
  · rw [(h.1.2.2 t ht.1 ht.2).1]
    have q := RF_0 h.1 ht
    by_cases e : clM M t = 0
    · exact e
    · have := (cl_drawn e).2
      omega
  · rcases hX t ht.1 ht.2 c with e | e | e <;> omega
  · have hcl : ¬ clM M t = 0 := by
      intro e
      unfold pzO prO at c
      rw [(h.1.2.2 t ht.1 ht.2).1, if_pos e] at c
      omega
    have hd := cl_drawn hcl
    have q := RF_0 h.1 ht
    obtain ⟨k1, -, -⟩ := h.2.1.2 (t / 100) (by omega) (by omega)
    have hW := h.2.1.1 (t / 100) (by omega) (by omega)
    unfold rsO
    rw [if_neg (by omega), if_neg (by rw [k1, if_pos hd.1]; omega), if_neg (by omega), if_pos (show fb O t (5 + (0 : Int)).toNat = 1 from c1)]
/- a draw -/
set_option maxHeartbeats 4000000 in
set_option maxRecDepth 100000 in
theorem DrOk_of {O : Of} {M : Int → Int} (h : RR O M) {d : Int} (hd : 0 ≤ d ∧ d < 6) : (0 ≤ O 6 d ∧ O 6 d ≤ 100) ∧ (0 ≤ apV O d ∧ 10 * apV O d ≤ 9 * (O 6 d * 10)) ∧ (O 7 d = -5 → apV O d = 0) := by
  obtain ⟨k1, k2, k3⟩ := h.2.1.2 d hd.1 hd.2
  have hW := RD_Wn h.2.1 d hd.1 hd.2
  have key : ∀ c : Int, 1 ≤ c → c ≤ 3 → 0 ≤ wnV O d c * prO O d c ∧ wnV O d c * prO O d c ≤ O 6 d * 10 * shr c / 100 := fun c c1 c3 => by
    have hw := hW.2 c c1 c3
    unfold prO wnV
    rw [if_neg (by omega)]
    by_cases e : O 8 (d * 3 + c - 1) = 0
    · rw [if_pos e, Int.mul_zero]
      have hs := shr_b (c := c)
      have := Int.mul_nonneg (show 0 ≤ O 6 d * 10 by omega) (show 0 ≤ shr c by omega)
      omega
    · rw [if_neg e]
      have hs := shr_b (c := c)
      have h1 := Int.mul_nonneg (show 0 ≤ O 6 d * 10 by omega) (show 0 ≤ shr c by omega)
      have h2 : 0 ≤ O 6 d * 10 * shr c / 100 := by omega
      have h3 := Int.ediv_nonneg h2 hw.1
      exact ⟨Int.mul_nonneg hw.1 h3, Int.mul_ediv_self_le (by omega)⟩
  have a1 := key 1 (by omega) (by omega)
  have a2 := key 2 (by omega) (by omega)
  have a3 := key 3 (by omega) (by omega)
  rw [show shr 1 = 40 from rfl] at a1
  rw [show shr 2 = 30 from rfl] at a2
  rw [show shr 3 = 20 from rfl] at a3
  refine ⟨hW.1, ⟨by unfold apV; omega, by unfold apV; omega⟩, fun e => ?_⟩
  have hn : ¬ M (53 + 2 * d) = 1 := fun q => by
    have hw := h.2.1.1 d hd.1 hd.2
    rw [k1, if_pos q] at e
    omega
  have z : ∀ c : Int, 1 ≤ c → c ≤ 3 → wnV O d c = 0 := fun c c1 c3 => by
    unfold wnV
    rw [k3 c c1 c3, if_neg hn]
  unfold apV
  rw [z 1 (by omega) (by omega), z 2 (by omega) (by omega), z 3 (by omega) (by omega)]
  omega
/- a quiet office has paid no more than the prizes -/
set_option maxHeartbeats 4000000 in
set_option maxRecDepth 100000 in
theorem sm_ad2 (f : Nat → Int) (a : Nat) : ∀ b : Nat, sm f (a + b) = sm f a + sm (fun k => f (a + k)) b
  | 0 => by show _ = _ + 0; rw [Int.add_zero]; rfl
  | b + 1 => by
    have ih := sm_ad2 f a b
    show sm f (a + b + 1) = _
    rw [sm_s, sm_s, ih]
    omega
set_option maxHeartbeats 4000000 in
set_option maxRecDepth 100000 in
theorem sm_le2 {f g : Nat → Int} : ∀ {n : Nat}, (∀ k, k < n → f k ≤ g k) → sm f n ≤ sm g n
  | 0, _ => Int.le_refl _
  | n + 1, h => by
    have ih := sm_le2 (f := f) (g := g) (n := n) (fun k hk => h k (by omega))
    have q := h n (by omega)
    rw [sm_s, sm_s]
    omega
def apA (O : Of) : Int := apV O 0 + apV O 1 + apV O 2 + apV O 3 + apV O 4 + apV O 5
set_option maxHeartbeats 4000000 in
set_option maxRecDepth 100000 in
theorem pz_sum {O : Of} {M : Int → Int} (h : RR O M) : sm (fun k => pzO O (k : Int)) 600 = apA O := by
  have hd : ∀ (a : Nat) (d : Int), 0 ≤ d → d < 6 → (a : Int) = 100 * d → sm (fun k => pzO O ((a + k : Nat) : Int)) 100 = apV O d := fun a d d1 d2 e => by
    rw [ap_eq h ⟨d1, d2⟩]
    refine sm_congr (fun k hk => ?_)
    have e2 : ((a + k : Nat) : Int) = 100 * d + (k : Int) := by omega
    rw [e2, pz_eq h.1 h.2.1 (by omega)]
  have s1 := sm_ad2 (fun k => pzO O (k : Int)) 500 100
  have s2 := sm_ad2 (fun k => pzO O (k : Int)) 400 100
  have s3 := sm_ad2 (fun k => pzO O (k : Int)) 300 100
  have s4 := sm_ad2 (fun k => pzO O (k : Int)) 200 100
  have s5 := sm_ad2 (fun k => pzO O (k : Int)) 100 100
  have s6 := sm_ad2 (fun k => pzO O (k : Int)) 0 100
  rw [hd 500 5 (by omega) (by omega) (by omega)] at s1
  rw [hd 400 4 (by omega) (by omega) (by omega)] at s2
  rw [hd 300 3 (by omega) (by omega) (by omega)] at s3
  rw [hd 200 2 (by omega) (by omega) (by omega)] at s4
  rw [hd 100 1 (by omega) (by omega) (by omega)] at s5
  rw [hd 0 0 (by omega) (by omega) (by omega)] at s6
  have z : sm (fun k => pzO O (k : Int)) 0 = 0 := rfl
  unfold apA
  simp only [Nat.reduceAdd] at s1 s2 s3 s4 s5 s6
  omega
set_option maxHeartbeats 4000000 in
set_option maxRecDepth 100000 in
theorem quiet_le {O : Of} {M : Int → Int} (h : RR O M) (hX : XO O) (hm : O 18 0 = 0) (hd : O 21 0 = 0) : ctS O ≤ apA O := by
  rw [← pz_sum h]
  refine sm_le2 (fun k hk => ?_)
  rw [ctV_unc]
  have ht : 0 ≤ (k : Int) ∧ (k : Int) < 600 := by omega
  have hu : unc O (k : Int) ≤ 1 := by
    by_cases c : 2 ≤ unc O (k : Int)
    · rcases hX.2 (k : Int) ht.1 ht.2 c with g | ⟨i, w, i1, -⟩
      · rw [RF_2 h.1 ht] at g
        have g2 : 0 < ds M (k : Int) := by
          unfold opI at g
          by_cases c : 0 < M (1433 + (k : Int))
          · exact c
          · rw [if_neg c] at g; omega
        obtain ⟨i, i1, i2, -⟩ := h.2.2.2.2.2.1.2.2.2.2.1 (k : Int) ht.1 ht.2 g2
        omega
      · omega
    · omega
  have hb := (prO_b (c := O 3 (k : Int) / 8 % 4) (RD_Wn h.2.1) (show 0 ≤ (k : Int) / 100 ∧ (k : Int) / 100 < 6 by omega) (by omega)).1
  have e : prO O ((k : Int) / 100) (O 3 (k : Int) / 8 % 4) = pzO O (k : Int) := rfl
  rw [e] at hb
  have q := Int.mul_nonneg (show 0 ≤ 1 - unc O (k : Int) by omega) hb
  rw [Int.sub_mul, Int.one_mul] at q
  omega
/- marks and payments of a window -/
set_option maxHeartbeats 4000000 in
set_option maxRecDepth 100000 in
theorem mk_py {O : Of} {M : Int → Int} (h : RR O M) (hS : SP M) {w : Int} (hw : 0 ≤ w ∧ w < 3) : O 15 w ≤ mkV O w ∧ 0 ≤ mkV O w ∧ mkV O w ≤ 600 := by
  have e15 : O 15 w = sm (fun k => fb O (k : Int) (8 + w).toNat) 600 := by
    have b := (h.2.2.2.1 w hw.1 hw.2).2.2.2.2.2.2.1
    have s := hS w hw.1 hw.2
    unfold dP at s
    have e : sm (fun k => fb O (k : Int) (8 + w).toNat) 600 = sm (fun k => pyI M w (k : Int)) 600 := sm_congr (fun k hk => RF_p h.1 (by omega) hw)
    rw [e]
    omega
  have hb : ∀ n : Nat, 0 ≤ sm (fun k => fb O (k : Int) (5 + w).toNat) n ∧ sm (fun k => fb O (k : Int) (5 + w).toNat) n ≤ n := fun n => by
    induction n with
    | zero => exact ⟨Int.le_refl _, Int.le_refl _⟩
    | succ n ih =>
      have q := fb_01 O (n : Int) (5 + w).toNat
      rw [sm_s]
      omega
  refine ⟨?_, (hb 600).1, (hb 600).2⟩
  rw [e15]
  exact sm_le2 (fun k hk => (RF_le h (by omega) hw).1)
