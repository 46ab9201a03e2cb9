/-! THE RELATION of an office and a row: bits, draws -/
def Ox (M : Int → Int) : Of := fun _ t => M (833 + t)
set_option maxHeartbeats 4000000 in
set_option maxRecDepth 100000 in
theorem qb_ad {M : Int → Int} {t s : Int} {f g : Nat} (hF : FlB M) (hs : 0 ≤ s ∧ s < 600) (hf : f < 8) : qb (mkM M t f 1) s g = if s = t ∧ g = f then 1 else qb M s g := by
  have hB : FxB (Ox M) := fun u h1 h2 => by have := hF u h1 h2; unfold Ox; omega
  have h := fb_ad (O := Ox M) (t := t) (s := s) (i := f) (j := g) hB hs (by omega)
  have e1 : fb (Ox M) s g = qb M s g := rfl
  rw [e1] at h
  rw [← h]
  unfold qb fb
  have e : mkM M t f 1 (833 + s) = adO (Ox M) t f 3 s := by
    unfold mkM adO
    rw [oc_at]
    by_cases e : s = t
    · subst e
      rw [up_eq rfl, up_eq rfl]
      rfl
    · rw [up_ne (by omega), up_ne e]
      rfl
  rw [e]
set_option maxHeartbeats 4000000 in
set_option maxRecDepth 100000 in
theorem qb_rm {M : Int → Int} {t s : Int} {f g : Nat} (hF : FlB M) (hs : 0 ≤ s ∧ s < 600) : qb (mkM M t f 0) s g = if s = t ∧ g = f then 0 else qb M s g := by
  have hB : FxB (Ox M) := fun u h1 h2 => by have := hF u h1 h2; unfold Ox; omega
  have h := fb_rm (O := Ox M) (t := t) (s := s) (i := f) (j := g) hB hs
  have e1 : fb (Ox M) s g = qb M s g := rfl
  rw [e1] at h
  rw [← h]
  unfold qb fb
  have e : mkM M t f 0 (833 + s) = rmO (Ox M) t f 3 s := by
    unfold mkM rmO
    rw [oc_at]
    by_cases e : s = t
    · subst e
      rw [up_eq rfl, up_eq rfl, Int.zero_sub, Int.neg_mul, ← Int.sub_eq_add_neg]
      rfl
    · rw [up_ne (by omega), up_ne e]
      rfl
  rw [e]
/- what of a row the classes and prizes hang on -/
def SmD (M M' : Int → Int) : Prop := (∀ j : Int, 53 ≤ j → j < 65 → M' j = M j) ∧ ∀ t : Int, 0 ≤ t → t < 600 → qb M' t 0 = qb M t 0
set_option maxHeartbeats 4000000 in
set_option maxRecDepth 100000 in
theorem SmD_refl (M : Int → Int) : SmD M M := ⟨fun _ _ _ => rfl, fun _ _ _ => rfl⟩
set_option maxHeartbeats 4000000 in
set_option maxRecDepth 100000 in
theorem SmD_tr {M M' M'' : Int → Int} (h : SmD M M') (h' : SmD M' M'') : SmD M M'' := ⟨fun j h1 h2 => by rw [h'.1 j h1 h2, h.1 j h1 h2], fun t h1 h2 => by rw [h'.2 t h1 h2, h.2 t h1 h2]⟩
set_option maxHeartbeats 4000000 in
set_option maxRecDepth 100000 in
theorem SmD_up {M : Int → Int} {i v : Int} (h : i < 53 ∨ (65 ≤ i ∧ i < 833) ∨ 1433 ≤ i) : SmD M (up M i v) := ⟨fun j h1 h2 => up_ne (by omega), fun t h1 h2 => by unfold qb; rw [up_ne (by omega)]⟩
set_option maxHeartbeats 4000000 in
set_option maxRecDepth 100000 in
theorem SmD_ad {M : Int → Int} {t : Int} {f : Nat} (hF : FlB M) (ht : 0 ≤ t ∧ t < 600) (hf : 1 ≤ f ∧ f < 8) : SmD M (mkM M t f 1) := ⟨fun j h1 h2 => mk_ne (by omega), fun s h1 h2 => by rw [qb_ad hF ⟨h1, h2⟩ hf.2, if_neg (by omega)]⟩
set_option maxHeartbeats 4000000 in
set_option maxRecDepth 100000 in
theorem SmD_rm {M : Int → Int} {t : Int} {f : Nat} (hF : FlB M) (ht : 0 ≤ t ∧ t < 600) (hf : 1 ≤ f) : SmD M (mkM M t f 0) := ⟨fun j h1 h2 => mk_ne (by omega), fun s h1 h2 => by rw [qb_rm hF ⟨h1, h2⟩, if_neg (by omega)]⟩
set_option maxHeartbeats 4000000 in
set_option maxRecDepth 100000 in
theorem clM_c {M M' : Int → Int} (h : SmD M M') {t : Int} (ht : 0 ≤ t ∧ t < 600) : clM M' t = clM M t := by
  unfold clM
  rw [h.2 t ht.1 ht.2, h.1 _ (by omega) (by omega), h.1 _ (by omega) (by omega)]
set_option maxHeartbeats 4000000 in
set_option maxRecDepth 100000 in
theorem sdC_c {M M' : Int → Int} (h : SmD M M') {d : Int} (hd : 0 ≤ d ∧ d < 6) : sdC M' d = sdC M d := sm_congr (fun k hk => h.2 _ (by omega) (by omega))
set_option maxHeartbeats 4000000 in
set_option maxRecDepth 100000 in
theorem ofC_c {M M' : Int → Int} (h : SmD M M') {d c : Int} (hd : 0 ≤ d ∧ d < 6) : ofC M' d c = ofC M d c := ct_congr (fun k hk => by rw [clM_c h (by omega)])
set_option maxHeartbeats 4000000 in
set_option maxRecDepth 100000 in
theorem prz_c {M M' : Int → Int} (h : SmD M M') {t : Int} (ht : 0 ≤ t ∧ t < 600) : przM M' t = przM M t := by
  unfold przM
  rw [clM_c h ht, sdC_c h (by omega), ofC_c h (by omega)]
set_option maxHeartbeats 4000000 in
set_option maxRecDepth 100000 in
theorem DrW_c {M M' : Int → Int} (h : SmD M M') (hW : DrW M) : DrW M' := by
  intro d h1 h2
  rw [h.1 _ (by omega) (by omega), h.1 _ (by omega) (by omega)]
  exact hW d h1 h2
/- bit j of the class's facts, said by the row -/
def bitM (M : Int → Int) (t : Int) (j : Nat) : Int := if j = 0 then qb M t 0 else if j = 1 then qb M t 1 else if j = 2 then opI M t else if j < 8 then qb M t (j - 3) else if j < 11 then pyI M ((j : Int) - 8) t else qb M t (j - 6)
def RF (O : Of) (M : Int → Int) : Prop := FlB M ∧ FxB O ∧ ∀ t : Int, 0 ≤ t → t < 600 → O 3 t / 8 % 4 = clM M t ∧ ∀ j : Nat, j < 14 → ¬ j = 3 → ¬ j = 4 → fb O t j = bitM M t j
set_option maxHeartbeats 4000000 in
set_option maxRecDepth 100000 in
theorem RF_0 {O : Of} {M : Int → Int} (h : RF O M) {t : Int} (ht : 0 ≤ t ∧ t < 600) : fb O t 0 = qb M t 0 := (h.2.2 t ht.1 ht.2).2 0 (by decide) (by decide) (by decide)
set_option maxHeartbeats 4000000 in
set_option maxRecDepth 100000 in
theorem RF_1 {O : Of} {M : Int → Int} (h : RF O M) {t : Int} (ht : 0 ≤ t ∧ t < 600) : fb O t 1 = qb M t 1 := (h.2.2 t ht.1 ht.2).2 1 (by decide) (by decide) (by decide)
set_option maxHeartbeats 4000000 in
set_option maxRecDepth 100000 in
theorem RF_2 {O : Of} {M : Int → Int} (h : RF O M) {t : Int} (ht : 0 ≤ t ∧ t < 600) : fb O t 2 = opI M t := (h.2.2 t ht.1 ht.2).2 2 (by decide) (by decide) (by decide)
set_option maxHeartbeats 4000000 in
set_option maxRecDepth 100000 in
theorem RF_m {O : Of} {M : Int → Int} (h : RF O M) {t w : Int} (ht : 0 ≤ t ∧ t < 600) (hw : 0 ≤ w ∧ w < 3) : fb O t (5 + w).toNat = qb M t (2 + w).toNat := by
  rcases (show w = 0 ∨ w = 1 ∨ w = 2 by omega) with rfl | rfl | rfl
  · exact (h.2.2 t ht.1 ht.2).2 5 (by decide) (by decide) (by decide)
  · exact (h.2.2 t ht.1 ht.2).2 6 (by decide) (by decide) (by decide)
  · exact (h.2.2 t ht.1 ht.2).2 7 (by decide) (by decide) (by decide)
set_option maxHeartbeats 4000000 in
set_option maxRecDepth 100000 in
theorem RF_p {O : Of} {M : Int → Int} (h : RF O M) {t w : Int} (ht : 0 ≤ t ∧ t < 600) (hw : 0 ≤ w ∧ w < 3) : fb O t (8 + w).toNat = pyI M w t := by
  rcases (show w = 0 ∨ w = 1 ∨ w = 2 by omega) with rfl | rfl | rfl
  · exact (h.2.2 t ht.1 ht.2).2 8 (by decide) (by decide) (by decide)
  · exact (h.2.2 t ht.1 ht.2).2 9 (by decide) (by decide) (by decide)
  · exact (h.2.2 t ht.1 ht.2).2 10 (by decide) (by decide) (by decide)
set_option maxHeartbeats 4000000 in
set_option maxRecDepth 100000 in
theorem RF_c {O : Of} {M : Int → Int} (h : RF O M) {t w : Int} (ht : 0 ≤ t ∧ t < 600) (hw : 0 ≤ w ∧ w < 3) : fb O t (11 + w).toNat = qb M t (5 + w).toNat := by
  rcases (show w = 0 ∨ w = 1 ∨ w = 2 by omega) with rfl | rfl | rfl
  · exact (h.2.2 t ht.1 ht.2).2 11 (by decide) (by decide) (by decide)
  · exact (h.2.2 t ht.1 ht.2).2 12 (by decide) (by decide) (by decide)
  · exact (h.2.2 t ht.1 ht.2).2 13 (by decide) (by decide) (by decide)
set_option maxHeartbeats 4000000 in
set_option maxRecDepth 100000 in
theorem cls_bits (z : Int) : z / 8 % 4 = z / 2 ^ 3 % 2 + 2 * (z / 2 ^ 4 % 2) := by
  have e3 : (2 : Int) ^ 3 = 8 := by decide
  have e4 : (2 : Int) ^ 4 = 16 := by decide
  rw [e3, e4]
  omega
/- one bit of the facts put -/
set_option maxHeartbeats 4000000 in
set_option maxRecDepth 100000 in
theorem RF_ad {O : Of} {M M' : Int → Int} {t : Int} {i : Nat} (h : RF O M) (hF : FlB M') (hD : SmD M M') (hi : i < 14 ∧ ¬ i = 3 ∧ ¬ i = 4) (hb : ∀ s : Int, 0 ≤ s → s < 600 → ∀ j : Nat, j < 14 → ¬ j = 3 → ¬ j = 4 → bitM M' s j = if s = t ∧ j = i then 1 else bitM M s j) : RF (adO O t i) M' := by
  obtain ⟨h1, h2, h3⟩ := h
  refine ⟨hF, adO_B h2 hi.1, fun s s1 s2 => ⟨?_, fun j j1 j2 j3 => ?_⟩⟩
  · have q3 := fb_ad (t := t) (i := i) (j := 3) h2 ⟨s1, s2⟩ hi.1
    have q4 := fb_ad (t := t) (i := i) (j := 4) h2 ⟨s1, s2⟩ hi.1
    rw [if_neg (by omega)] at q3 q4
    unfold fb at q3 q4
    rw [cls_bits, q3, q4, ← cls_bits, clM_c hD ⟨s1, s2⟩]
    exact (h3 s s1 s2).1
  · rw [fb_ad h2 ⟨s1, s2⟩ hi.1, hb s s1 s2 j j1 j2 j3, (h3 s s1 s2).2 j j1 j2 j3]
set_option maxHeartbeats 4000000 in
set_option maxRecDepth 100000 in
theorem RF_rm {O : Of} {M M' : Int → Int} {t : Int} {i : Nat} (h : RF O M) (hF : FlB M') (hD : SmD M M') (hi : i < 14 ∧ ¬ i = 3 ∧ ¬ i = 4) (hb : ∀ s : Int, 0 ≤ s → s < 600 → ∀ j : Nat, j < 14 → ¬ j = 3 → ¬ j = 4 → bitM M' s j = if s = t ∧ j = i then 0 else bitM M s j) : RF (rmO O t i) M' := by
  obtain ⟨h1, h2, h3⟩ := h
  refine ⟨hF, rmO_B h2 hi.1, fun s s1 s2 => ⟨?_, fun j j1 j2 j3 => ?_⟩⟩
  · have q3 := fb_rm (t := t) (i := i) (j := 3) h2 ⟨s1, s2⟩
    have q4 := fb_rm (t := t) (i := i) (j := 4) h2 ⟨s1, s2⟩
    rw [if_neg (by omega)] at q3 q4
    unfold fb at q3 q4
    rw [cls_bits, q3, q4, ← cls_bits, clM_c hD ⟨s1, s2⟩]
    exact (h3 s s1 s2).1
  · rw [fb_rm h2 ⟨s1, s2⟩, hb s s1 s2 j j1 j2 j3, (h3 s s1 s2).2 j j1 j2 j3]
set_option maxHeartbeats 4000000 in
set_option maxRecDepth 100000 in
theorem RF_cg {O O' : Of} {M M' : Int → Int} (h : RF O M) (ho : O' 3 = O 3) (hm : ∀ j : Int, (53 ≤ j ∧ j < 65) ∨ (833 ≤ j ∧ j < 3833) → M' j = M j) : RF O' M' := by
  obtain ⟨h1, h2, h3⟩ := h
  refine ⟨fun t t1 t2 => by rw [hm _ (by omega)]; exact h1 t t1 t2, fun t t1 t2 => by rw [ho]; exact h2 t t1 t2, fun t t1 t2 => ?_⟩
  have hq : ∀ f, qb M' t f = qb M t f := fun f => by unfold qb; rw [hm _ (by omega)]
  have hs : SmD M M' := ⟨fun j j1 j2 => hm j (by omega), fun t t1 t2 => by unfold qb; rw [hm _ (by omega)]⟩
  rw [ho, clM_c hs ⟨t1, t2⟩]
  refine ⟨(h3 t t1 t2).1, fun j j1 j2 j3 => ?_⟩
  have e : fb O' t j = fb O t j := by unfold fb; rw [ho]
  rw [e, (h3 t t1 t2).2 j j1 j2 j3]
  unfold bitM opI pyI
  rw [hq, hq, hq, hq, hm (1433 + t) (by omega)]
  by_cases j8 : j < 8
  · simp only [j8, if_true]
  · by_cases j11 : j < 11
    · rw [hm (2033 + 600 * ((j : Int) - 8) + t) (by omega)]
    · simp only [j8, j11, if_false]
/- marks, lendings, callings back of the row -/
set_option maxHeartbeats 4000000 in
set_option maxRecDepth 100000 in
theorem bit_mk {M M' : Int → Int} {t b : Int} {f i : Nat} (hM : M' = mkM M t f b) (hq : ∀ s : Int, 0 ≤ s → s < 600 → ∀ g : Nat, qb M' s g = if s = t ∧ g = f then b else qb M s g) (ht : 0 ≤ t ∧ t < 600) (hfi : (f = 1 ∧ i = 1) ∨ (2 ≤ f ∧ f < 5 ∧ i = f + 3) ∨ (5 ≤ f ∧ f < 8 ∧ i = f + 6)) : ∀ s : Int, 0 ≤ s → s < 600 → ∀ j : Nat, j < 14 → ¬ j = 3 → ¬ j = 4 → bitM M' s j = if s = t ∧ j = i then b else bitM M s j := by
  intro s s1 s2 j j1 j2 j3
  unfold bitM opI pyI
  have e1 : M' (1433 + s) = M (1433 + s) := by rw [hM]; exact mk_ne (by omega)
  by_cases c0 : j = 0
  · rw [if_pos c0, if_neg (by omega), if_pos c0, hq s s1 s2, if_neg (by omega)]
  · rw [if_neg c0, if_neg c0]
    by_cases c1 : j = 1
    · rw [if_pos c1, if_pos c1, hq s s1 s2]
      by_cases c3 : s = t ∧ 1 = f
      · rw [if_pos c3, if_pos (by omega)]
      · rw [if_neg c3, if_neg (by omega)]
    · rw [if_neg c1, if_neg c1]
      by_cases c3 : j = 2
      · rw [if_pos c3, e1, if_pos c3, if_neg (show ¬ (s = t ∧ j = i) by omega)]
      · rw [if_neg c3, if_neg c3]
        by_cases c4 : j < 8
        · rw [if_pos c4, if_pos c4, hq s s1 s2]
          by_cases c5 : s = t ∧ j - 3 = f
          · rw [if_pos c5, if_pos (by omega)]
          · rw [if_neg c5, if_neg (by omega)]
        · rw [if_neg c4, if_neg c4]
          by_cases c5 : j < 11
          · have e2 : M' (2033 + 600 * ((j : Int) - 8) + s) = M (2033 + 600 * ((j : Int) - 8) + s) := by rw [hM]; exact mk_ne (by omega)
            rw [if_pos c5, e2, if_pos c5, if_neg (show ¬ (s = t ∧ j = i) by omega)]
          · rw [if_neg c5, if_neg c5, hq s s1 s2]
            by_cases c6 : s = t ∧ j - 6 = f
            · rw [if_pos c6, if_pos (by omega)]
            · rw [if_neg c6, if_neg (by omega)]
set_option maxHeartbeats 4000000 in
set_option maxRecDepth 100000 in
theorem RF_set {O : Of} {M : Int → Int} {t : Int} {f i : Nat} (h : RF O M) (ht : 0 ≤ t ∧ t < 600) (hfi : (f = 1 ∧ i = 1) ∨ (2 ≤ f ∧ f < 5 ∧ i = f + 3) ∨ (5 ≤ f ∧ f < 8 ∧ i = f + 6)) : RF (adO O t i) (mkM M t f 1) :=
  RF_ad h (FlB_mk h.1 (by omega) (Or.inr rfl)) (SmD_ad h.1 ht (by omega)) (by omega) (bit_mk rfl (fun s s1 s2 g => qb_ad h.1 ⟨s1, s2⟩ (by omega)) ht hfi)
set_option maxHeartbeats 4000000 in
set_option maxRecDepth 100000 in
theorem RF_clr {O : Of} {M : Int → Int} {t : Int} {f i : Nat} (h : RF O M) (ht : 0 ≤ t ∧ t < 600) (hfi : (f = 1 ∧ i = 1) ∨ (2 ≤ f ∧ f < 5 ∧ i = f + 3) ∨ (5 ≤ f ∧ f < 8 ∧ i = f + 6)) : RF (rmO O t i) (mkM M t f 0) :=
  RF_rm h (FlB_mk h.1 (by omega) (Or.inl rfl)) (SmD_rm h.1 ht (by omega)) (by omega) (bit_mk rfl (fun s s1 s2 g => qb_rm h.1 ⟨s1, s2⟩) ht hfi)
/- draws -/
def RD (O : Of) (M : Int → Int) : Prop := DrW M ∧ ∀ d : Int, 0 ≤ d → d < 6 → O 7 d = (if M (53 + 2 * d) = 1 then M (53 + 2 * d + 1) else -5) ∧ O 6 d = sdC M d ∧ ∀ c : Int, 1 ≤ c → c ≤ 3 → O 8 (d * 3 + c - 1) = if M (53 + 2 * d) = 1 then ofC M d c else 0
set_option maxHeartbeats 4000000 in
set_option maxRecDepth 100000 in
theorem RD_cg {O O' : Of} {M M' : Int → Int} (h : RD O M) (ho : O' 6 = O 6 ∧ O' 7 = O 7 ∧ O' 8 = O 8) (hm : SmD M M') : RD O' M' := by
  refine ⟨DrW_c hm h.1, fun d d1 d2 => ?_⟩
  rw [ho.1, ho.2.1, ho.2.2, hm.1 _ (by omega) (by omega), hm.1 _ (by omega) (by omega), sdC_c hm ⟨d1, d2⟩]
  refine ⟨(h.2 d d1 d2).1, (h.2 d d1 d2).2.1, fun c c1 c3 => ?_⟩
  rw [ofC_c hm ⟨d1, d2⟩]
  exact (h.2 d d1 d2).2.2 c c1 c3
set_option maxHeartbeats 4000000 in
set_option maxRecDepth 100000 in
theorem RD_Wn {O : Of} {M : Int → Int} (h : RD O M) : WnB O := by
  intro d d1 d2
  obtain ⟨e1, e2, e3⟩ := h.2 d d1 d2
  refine ⟨by rw [e2]; exact sdC_b M d, fun c c1 c3 => ?_⟩
  rw [e3 c c1 c3]
  split
  · exact ofC_b M d c
  · omega
set_option maxHeartbeats 4000000 in
set_option maxRecDepth 100000 in
theorem RD_Wg {O : Of} {M : Int → Int} (h : RD O M) : WgB O := by
  intro d d1 d2
  obtain ⟨e1, e2, e3⟩ := h.2 d d1 d2
  have := h.1 d d1 d2
  rw [e1]
  split <;> omega
set_option maxHeartbeats 4000000 in
set_option maxRecDepth 100000 in
theorem cl_drawn {M : Int → Int} {t : Int} (h : ¬ clM M t = 0) : M (53 + 2 * (t / 100)) = 1 ∧ qb M t 0 = 1 := by
  unfold clM at h
  by_cases c1 : qb M t 0 = 1
  · rw [if_pos c1] at h
    by_cases c3 : M (53 + 2 * (t / 100)) = 1
    · exact ⟨c3, c1⟩
    · rw [if_neg c3] at h; exact absurd rfl h
  · rw [if_neg c1] at h; exact absurd rfl h
set_option maxHeartbeats 4000000 in
set_option maxRecDepth 100000 in
theorem pz_eq {O : Of} {M : Int → Int} (hF : RF O M) (hD : RD O M) {t : Int} (ht : 0 ≤ t ∧ t < 600) : pzO O t = przM M t := by
  obtain ⟨e1, e2, e3⟩ := hD.2 (t / 100) (by omega) (by omega)
  have hc := clM_03 M t
  unfold pzO prO przM
  rw [(hF.2.2 t ht.1 ht.2).1]
  by_cases c0 : clM M t = 0
  · rw [if_pos c0, if_pos c0]
  · rw [if_neg c0, if_neg c0, e3 _ (by omega) (by omega), if_pos (cl_drawn c0).1, e2, if_neg (by have := ofC_pos (M := M) ht; omega)]
    have e : sdC M (t / 100) * 10 = 10 * sdC M (t / 100) := Int.mul_comm _ _
    rw [e]
