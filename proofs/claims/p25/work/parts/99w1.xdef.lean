/-! THE ACCOUNTS: what holds of every office besides the relation -/
def unc (O : Of) (t : Int) : Int := fb O t 8 + fb O t 9 + fb O t 10 - fb O t 11 - fb O t 12 - fb O t 13
def JT (O : Of) (j T t : Int) : Prop := 2 ≤ unc O t → fb O t 2 = 1 ∨ ∃ i w : Int, (0 ≤ i ∧ i < O 18 0) ∧ (j ≤ i ∨ T < O 19 i) ∧ (0 ≤ w ∧ w < 3) ∧ O 20 i = w * 600 + t ∧ fb O t (8 + w).toNat = 1
def JJ (O : Of) (j T : Int) : Prop := ∀ t : Int, 0 ≤ t → t < 600 → JT O j T t
def XA (O : Of) (B : Int) : Prop := ∀ w : Int, 0 ≤ w → w < 3 → (0 ≤ O 16 w ∧ O 16 w ≤ B) ∧ (O 16 w = 0 ↔ O 17 w = 0) ∧ 0 ≤ O 17 w ∧ O 17 w ≤ 6
def XD (O : Of) : Prop := ∀ t : Int, 0 ≤ t → t < 600 → fb O t 2 = 1 → fb O t 8 = 1 ∨ fb O t 9 = 1 ∨ fb O t 10 = 1
def X3 (O : Of) (B : Int) : Prop := ctS O = cbW O ∧ XA O B ∧ XD O
def XV (O : Of) (j T B : Int) : Prop := X3 O B ∧ JJ O j T
set_option maxHeartbeats 4000000 in
set_option maxRecDepth 100000 in
theorem bt_bits (z : Int) : bt3 (z / 256 % 8) = z / 2 ^ 8 % 2 + z / 2 ^ 9 % 2 + z / 2 ^ 10 % 2 ∧ bt3 (z / 2048 % 8) = z / 2 ^ 11 % 2 + z / 2 ^ 12 % 2 + z / 2 ^ 13 % 2 := by
  have e8 : (2 : Int) ^ 8 = 256 := by decide
  have e9 : (2 : Int) ^ 9 = 512 := by decide
  have e10 : (2 : Int) ^ 10 = 1024 := by decide
  have e11 : (2 : Int) ^ 11 = 2048 := by decide
  have e12 : (2 : Int) ^ 12 = 4096 := by decide
  have e13 : (2 : Int) ^ 13 = 8192 := by decide
  rw [e8, e9, e10, e11, e12, e13]
  unfold bt3
  omega
set_option maxHeartbeats 4000000 in
set_option maxRecDepth 100000 in
theorem ctV_unc (O : Of) (t : Int) : ctV O t = unc O t * pzO O t := by
  unfold ctV unc fb
  rw [(bt_bits (O 3 t)).1, (bt_bits (O 3 t)).2]
  congr 1
  omega
/- the class told by two bits -/
set_option maxHeartbeats 4000000 in
set_option maxRecDepth 100000 in
theorem cls_fb {O O' : Of} {s : Int} (h3 : fb O' s 3 = fb O s 3) (h4 : fb O' s 4 = fb O s 4) : O' 3 s / 8 % 4 = O 3 s / 8 % 4 := by
  unfold fb at h3 h4
  rw [cls_bits, cls_bits, h3, h4]
set_option maxHeartbeats 4000000 in
set_option maxRecDepth 100000 in
theorem pz_same {O O' : Of} {s : Int} (hc : O' 3 s / 8 % 4 = O 3 s / 8 % 4) (h6 : O' 6 (s / 100) = O 6 (s / 100)) (h8 : ∀ c : Int, 1 ≤ c → c ≤ 3 → O' 8 (s / 100 * 3 + c - 1) = O 8 (s / 100 * 3 + c - 1)) : pzO O' s = pzO O s := by
  unfold pzO prO
  rw [hc, h6]
  by_cases c0 : O 3 s / 8 % 4 = 0
  · rw [if_pos c0, if_pos c0]
  · rw [h8 _ (by omega) (by omega)]
def SmX (O O' : Of) : Prop := (∀ s : Int, 0 ≤ s → s < 600 → ∀ j : Nat, j < 14 → ¬ j = 1 → ¬ (5 ≤ j ∧ j < 8) → fb O' s j = fb O s j) ∧ (O' 6 = O 6 ∧ O' 8 = O 8 ∧ O' 14 = O 14 ∧ O' 16 = O 16 ∧ O' 17 = O 17 ∧ O' 0 10 = O 0 10) ∧ O 18 0 ≤ O' 18 0 ∧ ∀ i : Int, 0 ≤ i → i < O 18 0 → O' 19 i = O 19 i ∧ O' 20 i = O 20 i
set_option maxHeartbeats 4000000 in
set_option maxRecDepth 100000 in
theorem SmX_rf (O : Of) : SmX O O := ⟨fun _ _ _ _ _ _ _ => rfl, ⟨rfl, rfl, rfl, rfl, rfl, rfl⟩, Int.le_refl _, fun _ _ _ => ⟨rfl, rfl⟩⟩
set_option maxHeartbeats 4000000 in
set_option maxRecDepth 100000 in
theorem SmX_tr {O O' O'' : Of} (h : SmX O O') (h' : SmX O' O'') : SmX O O'' := by
  obtain ⟨a1, ⟨b1, b2, b3, b4, b5, b6⟩, a3, a4⟩ := h
  obtain ⟨c1, ⟨d1, d2, d3, d4, d5, d6⟩, c3, c4⟩ := h'
  refine ⟨fun s s1 s2 j j1 j2 j3 => by rw [c1 s s1 s2 j j1 j2 j3, a1 s s1 s2 j j1 j2 j3], ⟨by rw [d1, b1], by rw [d2, b2], by rw [d3, b3], by rw [d4, b4], by rw [d5, b5], by rw [d6, b6]⟩, Int.le_trans a3 c3, fun i i1 i2 => ?_⟩
  have p := a4 i i1 i2
  have q := c4 i i1 (by omega)
  exact ⟨by rw [q.1, p.1], by rw [q.2, p.2]⟩
set_option maxHeartbeats 4000000 in
set_option maxRecDepth 100000 in
theorem SmX_unc {O O' : Of} (h : SmX O O') {s : Int} (hs : 0 ≤ s ∧ s < 600) : unc O' s = unc O s := by
  have f := h.1 s hs.1 hs.2
  unfold unc
  rw [f 8 (by decide) (by decide) (by decide), f 9 (by decide) (by decide) (by decide), f 10 (by decide) (by decide) (by decide), f 11 (by decide) (by decide) (by decide), f 12 (by decide) (by decide) (by decide), f 13 (by decide) (by decide) (by decide)]
set_option maxHeartbeats 4000000 in
set_option maxRecDepth 100000 in
theorem SmX_ct {O O' : Of} (h : SmX O O') {s : Int} (hs : 0 ≤ s ∧ s < 600) : ctV O' s = ctV O s := by
  have f := h.1 s hs.1 hs.2
  rw [ctV_unc, ctV_unc, SmX_unc h hs, pz_same (cls_fb (f 3 (by decide) (by decide) (by decide)) (f 4 (by decide) (by decide) (by decide))) (by rw [h.2.1.1]) (fun c _ _ => by rw [h.2.1.2.1])]
set_option maxHeartbeats 4000000 in
set_option maxRecDepth 100000 in
theorem SmX_w {O O' : Of} (h : SmX O O') {s w : Int} (hs : 0 ≤ s ∧ s < 600) (hw : 0 ≤ w ∧ w < 3) : fb O' s (8 + w).toNat = fb O s (8 + w).toNat := h.1 s hs.1 hs.2 _ (by omega) (by omega) (by omega)
set_option maxHeartbeats 4000000 in
set_option maxRecDepth 100000 in
theorem X3_sm {O O' : Of} {B : Int} (h : SmX O O') (hX : X3 O B) : X3 O' B := by
  obtain ⟨x1, x2, x3⟩ := hX
  obtain ⟨b1, b2, b3, b4, b5, b6⟩ := h.2.1
  refine ⟨?_, ?_, fun t t1 t2 h2 => ?_⟩
  · have e : ctS O' = ctS O := sm_congr (fun k hk => SmX_ct h (by omega))
    rw [e, x1]
    unfold cbW
    rw [b3, b6]
  · unfold XA
    rw [b4, b5]
    exact x2
  · have f := h.1 t t1 t2
    rw [f 2 (by decide) (by decide) (by decide)] at h2
    rw [f 8 (by decide) (by decide) (by decide), f 9 (by decide) (by decide) (by decide), f 10 (by decide) (by decide) (by decide)]
    exact x3 t t1 t2 h2
set_option maxHeartbeats 4000000 in
set_option maxRecDepth 100000 in
theorem JT_sm {O O' : Of} {j T t : Int} (h : SmX O O') (ht : 0 ≤ t ∧ t < 600) (hJ : JT O j T t) : JT O' j T t := by
  intro hu
  rw [SmX_unc h ht] at hu
  rcases hJ hu with g | ⟨i, w, i1, i2, w1, e1, e2⟩
  · exact Or.inl (by rw [h.1 t ht.1 ht.2 2 (by decide) (by decide) (by decide)]; exact g)
  · have q := h.2.2.2 i i1.1 i1.2
    have q3 := h.2.2.1
    exact Or.inr ⟨i, w, ⟨i1.1, by omega⟩, by rw [q.1]; exact i2, w1, by rw [q.2]; exact e1, by rw [SmX_w h ht w1]; exact e2⟩
set_option maxHeartbeats 4000000 in
set_option maxRecDepth 100000 in
theorem XV_sm {O O' : Of} {j T B : Int} (h : SmX O O') (hX : XV O j T B) : XV O' j T B := ⟨X3_sm h hX.1, fun t t1 t2 => JT_sm h ⟨t1, t2⟩ (hX.2 t t1 t2)⟩
set_option maxHeartbeats 4000000 in
set_option maxRecDepth 100000 in
theorem XA_le {O : Of} {B B' : Int} (h : XA O B) (hB : B ≤ B') : XA O B' := fun w w1 w2 => by
  obtain ⟨a, b, c⟩ := h w w1 w2
  exact ⟨⟨a.1, by omega⟩, b, c⟩
set_option maxHeartbeats 4000000 in
set_option maxRecDepth 100000 in
theorem XV_le {O : Of} {j T B B' : Int} (h : XV O j T B) (hB : B ≤ B') : XV O j T B' := ⟨⟨h.1.1, XA_le h.1.2.1 hB, h.1.2.2⟩, h.2⟩
/- rows that don't matter -/
set_option maxHeartbeats 4000000 in
set_option maxRecDepth 100000 in
theorem SmX_nc {O O' : Of} (h3 : O' 3 = O 3) (h6 : O' 6 = O 6) (h8 : O' 8 = O 8) (h14 : O' 14 = O 14) (h16 : O' 16 = O 16) (h17 : O' 17 = O 17) (h0 : O' 0 10 = O 0 10) (h18 : O' 18 0 = O 18 0) (h19 : O' 19 = O 19) (h20 : O' 20 = O 20) : SmX O O' :=
  ⟨fun s _ _ j _ _ _ => by unfold fb; rw [h3], ⟨h6, h8, h14, h16, h17, h0⟩, by rw [h18]; exact Int.le_refl _, fun i _ _ => ⟨by rw [h19], by rw [h20]⟩⟩
/- bits 1 and 5 to 7 -/
set_option maxHeartbeats 4000000 in
set_option maxRecDepth 100000 in
theorem SmX_ad {O : Of} {t : Int} {i : Nat} (hB : FxB O) (hi : i < 14) (h1 : i = 1 ∨ (5 ≤ i ∧ i < 8)) : SmX O (adO O t i) := by
  have n : ∀ c : Nat, ¬ c = 3 → adO O t i c = O c := fun c hc => adO_nc hc
  refine ⟨fun s s1 s2 j j1 j2 j3 => by rw [fb_ad hB ⟨s1, s2⟩ hi, if_neg (by omega)], ⟨n 6 (by decide), n 8 (by decide), n 14 (by decide), n 16 (by decide), n 17 (by decide), by rw [n 0 (by decide)]⟩, by rw [n 18 (by decide)]; exact Int.le_refl _, fun i _ _ => ⟨by rw [n 19 (by decide)], by rw [n 20 (by decide)]⟩⟩
set_option maxHeartbeats 4000000 in
set_option maxRecDepth 100000 in
theorem SmX_rm {O : Of} {t : Int} {i : Nat} (hB : FxB O) (h1 : i = 1 ∨ (5 ≤ i ∧ i < 8)) : SmX O (rmO O t i) := by
  have n : ∀ c : Nat, ¬ c = 3 → rmO O t i c = O c := fun c hc => rmO_nc hc
  refine ⟨fun s s1 s2 j j1 j2 j3 => by rw [fb_rm hB ⟨s1, s2⟩, if_neg (by omega)], ⟨n 6 (by decide), n 8 (by decide), n 14 (by decide), n 16 (by decide), n 17 (by decide), by rw [n 0 (by decide)]⟩, by rw [n 18 (by decide)]; exact Int.le_refl _, fun i _ _ => ⟨by rw [n 19 (by decide)], by rw [n 20 (by decide)]⟩⟩
/- a message sent -/
set_option maxHeartbeats 4000000 in
set_option maxRecDepth 100000 in
theorem snO_19 {O : Of} {kind w t d i : Int} (h : i < O 18 0) : snO O kind w t d 19 i = O 19 i := by
  unfold snO
  rw [oc_nc (by decide), oc_nc (by decide), oc_at, up_ne (by omega)]
set_option maxHeartbeats 4000000 in
set_option maxRecDepth 100000 in
theorem snO_20 {O : Of} {kind w t d i : Int} (h : i < O 18 0) : snO O kind w t d 20 i = O 20 i := by
  unfold snO
  rw [oc_nc (by decide), oc_at, up_ne (by omega)]
set_option maxHeartbeats 4000000 in
set_option maxRecDepth 100000 in
theorem snO_at {O : Of} {kind w t d : Int} : snO O kind w t d 20 (O 18 0) = (kind * 3 + w) * 600 + t := by
  unfold snO
  rw [oc_nc (by decide), oc_at, up_eq rfl]
set_option maxHeartbeats 4000000 in
set_option maxRecDepth 100000 in
theorem SmX_sn {O : Of} {kind w t d : Int} : SmX O (snO O kind w t d) := by
  have n : ∀ c : Nat, ¬ c = 18 → ¬ c = 19 → ¬ c = 20 → snO O kind w t d c = O c := fun c h1 h2 h3 => snO_nc ⟨h1, h2, h3⟩
  refine ⟨fun s s1 s2 j j1 j2 j3 => by unfold fb; rw [n 3 (by decide) (by decide) (by decide)], ⟨n 6 (by decide) (by decide) (by decide), n 8 (by decide) (by decide) (by decide), n 14 (by decide) (by decide) (by decide), n 16 (by decide) (by decide) (by decide), n 17 (by decide) (by decide) (by decide), by rw [n 0 (by decide) (by decide) (by decide)]⟩, by rw [snO_n]; omega, fun i i1 i2 => ⟨snO_19 i2, snO_20 i2⟩⟩
/- a customer sent away -/
set_option maxHeartbeats 4000000 in
set_option maxRecDepth 100000 in
theorem XV_aw {O : Of} {j T B w r : Int} (hw : 0 ≤ w ∧ w < 3) (hr : 1 ≤ r ∧ r ≤ 6) (hX : XV O j T B) : XV (awO O w r) j T (B + 1) := by
  have n : ∀ c : Nat, ¬ c = 16 → ¬ c = 17 → awO O w r c = O c := fun c h1 h2 => by
    unfold awO
    rw [oc_nc h2, oc_nc h1]
  obtain ⟨⟨x1, x2, x3⟩, x4⟩ := hX
  have ef : ∀ s k, fb (awO O w r) s k = fb O s k := fun s k => by unfold fb; rw [n 3 (by decide) (by decide)]
  have eu : ∀ s, unc (awO O w r) s = unc O s := fun s => by unfold unc; simp only [ef]
  have ep : ∀ s, pzO (awO O w r) s = pzO O s := fun s => by unfold pzO prO; rw [n 3 (by decide) (by decide), n 6 (by decide) (by decide), n 8 (by decide) (by decide)]
  refine ⟨⟨?_, fun v v1 v2 => ?_, fun t t1 t2 h2 => ?_⟩, fun t t1 t2 hu => ?_⟩
  · have e : ctS (awO O w r) = ctS O := sm_congr (fun k hk => by rw [ctV_unc, ctV_unc, eu, ep])
    rw [e, x1]
    unfold cbW
    rw [n 14 (by decide) (by decide), n 0 (by decide) (by decide)]
  · have e16 : awO O w r 16 = up (O 16) w (O 16 w + 1) := by unfold awO; rw [oc_nc (by decide), oc_at]
    have e17 : awO O w r 17 = up (O 17) w r := by unfold awO; rw [oc_at]
    rw [e16, e17]
    have a := x2 v v1 v2
    by_cases e : v = w
    · subst e
      rw [up_eq rfl, up_eq rfl]
      omega
    · rw [up_ne e, up_ne e]
      omega
  · rw [ef] at h2
    rw [ef, ef, ef]
    exact x3 t t1 t2 h2
  · rw [eu] at hu
    rw [n 18 (by decide) (by decide), n 19 (by decide) (by decide), n 20 (by decide) (by decide)]
    simp only [ef]
    exact x4 t t1 t2 hu
