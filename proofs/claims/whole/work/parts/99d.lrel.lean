/-! THE LAW: the relation of the whole -/
set_option maxHeartbeats 4000000 in
set_option maxRecDepth 100000 in
theorem T1_sc {O O' : Of} {M : Int → Int} (h : ∀ c : Nat, c < 23 → O' c = O c) (hT : T1 O M) : T1 O' M := T1_eqo hT ⟨⟨by rw [h 0 (by decide)], by rw [h 0 (by decide)], by rw [h 0 (by decide)], by rw [h 0 (by decide)], by rw [h 0 (by decide)]⟩, by rw [h 18 (by decide)], ⟨by rw [h 21 (by decide)], by rw [h 21 (by decide)]⟩, fun j _ _ => by rw [h 1 (by decide)], fun j _ _ => by rw [h 3 (by decide)], fun j _ _ => by rw [h 4 (by decide)], fun j _ _ => by rw [h 6 (by decide)], fun j _ _ => by rw [h 7 (by decide)], fun j _ _ => by rw [h 8 (by decide)], fun j _ _ => by rw [h 10 (by decide)], fun j _ _ => by rw [h 11 (by decide)], fun j _ _ => by rw [h 12 (by decide)], fun j _ _ => by rw [h 13 (by decide)], fun j _ _ => by rw [h 14 (by decide)], fun j _ _ => by rw [h 15 (by decide)], fun j _ _ => by rw [h 16 (by decide)], fun j _ _ => by rw [h 17 (by decide)], fun j _ _ => by rw [h 19 (by decide)], fun j _ _ => by rw [h 20 (by decide)], fun j _ _ => by rw [h 22 (by decide)]⟩
def Ok1 (O : Of) (M : Int → Int) : Prop := T1 O M ∧ SP M ∧ M 0 ≤ 9999
set_option maxHeartbeats 4000000 in
set_option maxRecDepth 100000 in
theorem Ok1_sc {O O' : Of} {M M' : Int → Int} (h : ∀ c : Nat, c < 23 → O' c = O c) (hm : ∀ j : Int, 0 ≤ j → j < 3833 → M' j = M j) (hT : Ok1 O M) : Ok1 O' M' := ⟨T1_row (T1_sc h hT.1) hm, SP_e hT.2.1 (DPe_eq (fun j j1 j2 => hm j (by omega) j2) (fun v v1 v2 => hm _ (by omega) (by omega))), by rw [hm 0 (by omega) (by omega)]; exact hT.2.2⟩
def DsC (C A : Int → Int) : Prop := (0 ≤ C 0 ∧ 0 ≤ C 1 ∧ ∀ k : Int, 0 ≤ k → k < 4 → 0 ≤ A k) ∧ (¬ C 0 = 2 ∧ ¬ C 1 = 2 ∧ ∀ k : Int, 0 ≤ k → k < 4 → ¬ A k = 2) ∧ ¬ C 0 = C 1 ∧ (∀ k : Int, 0 ≤ k → k < 4 → ¬ A k = C 0 ∧ ¬ A k = C 1) ∧ ∀ j k : Int, 0 ≤ j → j < k → k < 4 → ¬ A j = A k
def TxL (S : Hp) : Prop := S 0 29 = S 0 35 ∧ S 0 25 0 = S 0 30 7 ∧ (0 ≤ S 0 30 7 ∧ S 0 30 7 ≤ 60) ∧ (∀ i : Int, 0 ≤ i → i < 60 → 0 ≤ S 0 35 i ∧ S 0 35 i < 65536) ∧ tdR (S 0 30 10) ∧ tdR (S 0 30 11)
def LRel (S : Hp) : Prop := ((0 ≤ S 0 23 3 ∧ S 0 23 3 ≤ 4) ∧ S 0 30 6 = S 0 23 3) ∧ DsC (S 0 23) (S 0 24) ∧ Ok1 (S (nw S)) (S 0 31) ∧ (∀ k : Int, 0 ≤ k → k < S 0 23 3 → Ok1 (S (S 0 24 k).toNat) (fun j => S 0 34 (3833 * k + j))) ∧ ((S 0 23 5 = 0 ∨ S 0 23 5 = 1) ∧ S 0 30 8 = S 0 23 5 ∧ (S 0 23 5 = 1 → Ok1 (S 2) (S 0 32))) ∧ TxL S
set_option maxHeartbeats 4000000 in
set_option maxRecDepth 100000 in
theorem DsC_rc {C A : Int → Int} (hs : 0 ≤ C 3 ∧ C 3 ≤ 4) (h : DsC C A) : DsC (rcC C A) (rcA C A) := by
  obtain ⟨⟨a1, a2, a3⟩, ⟨b1, b2, b3⟩, c1, c3, c4⟩ := h
  unfold rcC rcA
  by_cases hl : C 3 < 4
  · rw [if_pos hl, if_pos hl]
    have e0 : up (up C 3 (C 3 + 1)) 1 (A (C 3)) 0 = C 0 := by rw [up_ne (by decide), up_ne (by decide)]
    have e1 : up (up C 3 (C 3 + 1)) 1 (A (C 3)) 1 = A (C 3) := up_eq rfl
    have p := c3 (C 3) hs.1 hl
    have hA : ∀ k : Int, up A (C 3) (C 1) k = if k = C 3 then C 1 else A k := fun k => rfl
    unfold DsC
    rw [e0, e1]
    refine ⟨⟨a1, a3 _ hs.1 hl, fun k k1 k2 => ?_⟩, ⟨b1, b3 _ hs.1 hl, fun k k1 k2 => ?_⟩, fun q => p.1 q.symm, fun k k1 k2 => ?_, fun j k j1 j2 k2 => ?_⟩
    · rw [hA]; split
      · exact a2
      · exact a3 k k1 k2
    · rw [hA]; split
      · exact b2
      · exact b3 k k1 k2
    · rw [hA]; split
      · exact ⟨fun q => c1 q.symm, fun q => p.2 q.symm⟩
      · next q =>
        refine ⟨(c3 k k1 k2).1, fun r => ?_⟩
        rcases Int.lt_or_le k (C 3) with z | z
        · exact c4 k (C 3) k1 z hl r
        · exact c4 (C 3) k hs.1 (by omega) k2 r.symm
    · rw [hA, hA]
      have pj := c3 j j1 (by omega)
      have pk := c3 k (by omega) k2
      have pc := c4 j k j1 j2 k2
      split
      · split
        · omega
        · exact fun q => pk.2 q.symm
      · split
        · exact pj.2
        · exact pc
  · rw [if_neg hl, if_neg hl]
    have e0 : up C 1 (A 0) 0 = C 0 := up_ne (by decide)
    have e1 : up C 1 (A 0) 1 = A 0 := up_eq rfl
    have h0 : up (up (up (up A 0 (A 1)) 1 (A 2)) 2 (A 3)) 3 (C 1) 0 = A 1 := by simp only [up_ap, Int.reduceEq, ↓reduceIte]
    have h1 : up (up (up (up A 0 (A 1)) 1 (A 2)) 2 (A 3)) 3 (C 1) 1 = A 2 := by simp only [up_ap, Int.reduceEq, ↓reduceIte]
    have h2 : up (up (up (up A 0 (A 1)) 1 (A 2)) 2 (A 3)) 3 (C 1) 2 = A 3 := by simp only [up_ap, Int.reduceEq, ↓reduceIte]
    have h3 : up (up (up (up A 0 (A 1)) 1 (A 2)) 2 (A 3)) 3 (C 1) 3 = C 1 := by simp only [up_ap, Int.reduceEq, ↓reduceIte]
    generalize up (up (up (up A 0 (A 1)) 1 (A 2)) 2 (A 3)) 3 (C 1) = B at *
    have d01 := c4 0 1 (by omega) (by omega) (by omega)
    have d02 := c4 0 2 (by omega) (by omega) (by omega)
    have d03 := c4 0 3 (by omega) (by omega) (by omega)
    have d12 := c4 1 2 (by omega) (by omega) (by omega)
    have d13 := c4 1 3 (by omega) (by omega) (by omega)
    have d23 := c4 2 3 (by omega) (by omega) (by omega)
    have n0 := a3 0 (by omega) (by omega)
    have n1 := a3 1 (by omega) (by omega)
    have n2 := a3 2 (by omega) (by omega)
    have n3 := a3 3 (by omega) (by omega)
    have m0 := b3 0 (by omega) (by omega)
    have m1 := b3 1 (by omega) (by omega)
    have m2 := b3 2 (by omega) (by omega)
    have m3 := b3 3 (by omega) (by omega)
    have t0 := c3 0 (by omega) (by omega)
    have t1 := c3 1 (by omega) (by omega)
    have t2 := c3 2 (by omega) (by omega)
    have t3 := c3 3 (by omega) (by omega)
    unfold DsC
    rw [e0, e1]
    have k4 : ∀ k : Int, 0 ≤ k → k < 4 → k = 0 ∨ k = 1 ∨ k = 2 ∨ k = 3 := fun k k1 k2 => by omega
    refine ⟨⟨a1, n0, fun k k1 k2 => ?_⟩, ⟨b1, m0, fun k k1 k2 => ?_⟩, fun q => t0.1 q.symm, fun k k1 k2 => ?_, fun j k j1 j2 k2 => ?_⟩
    · rcases k4 k k1 k2 with rfl | rfl | rfl | rfl <;> omega
    · rcases k4 k k1 k2 with rfl | rfl | rfl | rfl <;> omega
    · rcases k4 k k1 k2 with rfl | rfl | rfl | rfl <;> omega
    · rcases k4 j j1 (by omega) with rfl | rfl | rfl | rfl <;> rcases k4 k (by omega) k2 with rfl | rfl | rfl | rfl <;> omega
/- the heap after an act of both -/
set_option maxHeartbeats 4000000 in
set_option maxRecDepth 100000 in
theorem LR_act {S : Hp} {O' : Of} {M' : Int → Int} {v : Int} (h : LRel S) (hT : Ok1 O' M') (hneg : v < 0 → O' = S (nw S) ∧ M' = S 0 31) : LRel (actS (edS (acS S O') v) M' v) := by
  obtain ⟨⟨hs, h6⟩, hD, hN, hH, hP, hX⟩ := h
  obtain ⟨⟨a1, a2, a3⟩, ⟨b1, b2, b3⟩, c1, c3, c4⟩ := id hD
  have hns : ¬ nw S = sp S := by unfold nw sp; omega
  have hn2 : ¬ 2 = nw S := by unfold nw; omega
  have hs2 : ¬ 2 = sp S := by unfold sp; omega
  have w23 : ∀ k c : Nat, 23 ≤ c → acS S O' k c = S k c := fun k c hc => by
    unfold acS bgS
    rw [ho_nc (by omega), ho_nc (by omega)]
  have wn : ∀ c : Nat, c < 23 → acS S O' (nw S) c = O' c := fun c hc => by
    unfold acS
    rw [ho_at hc]
  have wo : ∀ k c : Nat, ¬ k = nw S → ¬ k = sp S → acS S O' k c = S k c := fun k c q1 q2 => by
    unfold acS bgS
    rw [ho_nk q1, ho_nk q2]
  have ws : ∀ c : Nat, c < 23 → acS S O' (sp S) c = cpO (S (sp S)) (S (nw S)) c := fun c hc => by
    unfold acS bgS
    rw [ho_nk (fun q => hns q.symm), ho_at hc]
  have hA : ∀ k : Int, 0 ≤ k → k < 4 → ¬ (S 0 24 k).toNat = nw S ∧ ¬ (S 0 24 k).toNat = sp S := fun k k1 k2 => by
    have p := c3 k k1 k2
    have q := a3 k k1 k2
    unfold nw sp
    omega
  generalize acS S O' = W at *
  unfold edS actS
  by_cases hv : v < 0
  · obtain ⟨rfl, rfl⟩ := hneg hv
    rw [if_neg (show ¬ 0 ≤ v by omega), if_pos hv, w23 0 31 (by decide)]
    have e31 : cpF (S 0 31) (S 0 31) 3833 = S 0 31 := by
      funext j
      unfold cpF
      split <;> rfl
    rw [e31]
    obtain ⟨T, hTd⟩ : ∃ T, T = hr (hr W 0 33 (cpF (W 0 33) (S 0 31) 3833)) 0 31 (S 0 31) := ⟨_, rfl⟩
    rw [← hTd]
    have t31 : T 0 31 = S 0 31 := by rw [hTd, hr_at]
    have tc : ∀ k c : Nat, ¬ c = 31 → ¬ c = 33 → T k c = W k c := fun k c q1 q2 => by rw [hTd, hr_nc q1, hr_nc q2]
    have t23 : ∀ k c : Nat, 23 ≤ c → ¬ c = 31 → ¬ c = 33 → T k c = S k c := fun k c q0 q1 q2 => by rw [tc k c q1 q2, w23 k c q0]
    have tnw : nw T = nw S := by unfold nw; rw [t23 0 23 (by decide) (by decide) (by decide)]
    unfold LRel TxL
    rw [tnw, t31, t23 0 23 (by decide) (by decide) (by decide), t23 0 24 (by decide) (by decide) (by decide), t23 0 30 (by decide) (by decide) (by decide), t23 0 34 (by decide) (by decide) (by decide), t23 0 32 (by decide) (by decide) (by decide), t23 0 29 (by decide) (by decide) (by decide), t23 0 35 (by decide) (by decide) (by decide), t23 0 25 (by decide) (by decide) (by decide)]
    refine ⟨⟨hs, h6⟩, hD, Ok1_sc (fun c hc => by rw [tc _ c (by omega) (by omega), wn c hc]) (fun _ _ _ => rfl) hN, fun k k1 k2 => ?_, ⟨hP.1, hP.2.1, fun q => Ok1_sc (fun c hc => by rw [tc _ c (by omega) (by omega), wo 2 c hn2 hs2]) (fun _ _ _ => rfl) (hP.2.2 q)⟩, hX⟩
    have q := hA k k1 (by omega)
    exact Ok1_sc (fun c hc => by rw [tc _ c (by omega) (by omega), wo _ c q.1 q.2]) (fun _ _ _ => rfl) (hH k k1 k2)
  · rw [if_pos (show 0 ≤ v by omega), if_neg hv]
    have g23 : rcT W 0 23 = rcC (S 0 23) (S 0 24) := by
      unfold rcT
      rw [hr_at, w23 0 23 (by decide), w23 0 24 (by decide)]
    have g24 : rcT W 0 24 = rcA (S 0 23) (S 0 24) := by
      unfold rcT
      rw [hr_nc (by decide), hr_at, w23 0 23 (by decide), w23 0 24 (by decide)]
    have gc : ∀ k c : Nat, ¬ c = 23 → ¬ c = 24 → rcT W k c = W k c := fun k c q1 q2 => by
      unfold rcT
      rw [hr_nc q1, hr_nc q2]
    generalize rcT W = G at *
    obtain ⟨T, hTd⟩ : ∃ T, T = hr (rcS (hr G 0 31 M') (cpF M' (G 0 31) 3833)) 0 33 (cpF (cpF (G 0 33) (G 0 31) 3833) M' 3833) := ⟨_, rfl⟩
    rw [← hTd]
    have k6 : G 0 30 6 = S 0 23 3 := by rw [gc 0 30 (by decide) (by decide), w23 0 30 (by decide), h6]
    have t31 : T 0 31 = M' := by
      rw [hTd]
      unfold rcS
      simp (disch := decide) only [hr_at, hr_nc]
    have t30 : T 0 30 = up (S 0 30) 6 (rcK (S 0 23 3) + 1) := by
      rw [hTd]
      unfold rcS
      simp (disch := decide) only [hr_at, hr_nc]
      rw [k6, gc 0 30 (by decide) (by decide), w23 0 30 (by decide)]
    have t34 : T 0 34 = rcH (S 0 34) (S 0 23 3) (cpF M' (S 0 31) 3833) := by
      rw [hTd]
      unfold rcS
      simp (disch := decide) only [hr_at, hr_nc]
      rw [k6, gc 0 34 (by decide) (by decide), w23 0 34 (by decide), gc 0 31 (by decide) (by decide), w23 0 31 (by decide)]
    have tG : ∀ k c : Nat, ¬ c = 30 → ¬ c = 31 → ¬ c = 33 → ¬ c = 34 → T k c = G k c := fun k c q1 q2 q3 q4 => by
      rw [hTd]
      unfold rcS
      rw [hr_nc q3, hr_nc q1, hr_nc q4, hr_nc q2]
    have tW : ∀ k c : Nat, ¬ c = 23 → ¬ c = 24 → ¬ c = 30 → ¬ c = 31 → ¬ c = 33 → ¬ c = 34 → T k c = W k c := fun k c p1 p2 q1 q2 q3 q4 => by rw [tG k c q1 q2 q3 q4, gc k c p1 p2]
    have t23 : T 0 23 = rcC (S 0 23) (S 0 24) := by rw [tG 0 23 (by decide) (by decide) (by decide) (by decide), g23]
    have t24 : T 0 24 = rcA (S 0 23) (S 0 24) := by rw [tG 0 24 (by decide) (by decide) (by decide) (by decide), g24]
    have C0 : rcC (S 0 23) (S 0 24) 0 = S 0 23 0 := by
      unfold rcC
      split
      · rw [up_ne (by decide), up_ne (by decide)]
      · rw [up_ne (by decide)]
    have C5 : rcC (S 0 23) (S 0 24) 5 = S 0 23 5 := by
      unfold rcC
      split
      · rw [up_ne (by decide), up_ne (by decide)]
      · rw [up_ne (by decide)]
    have C3 : rcC (S 0 23) (S 0 24) 3 = rcK (S 0 23 3) + 1 := by
      unfold rcC rcK
      by_cases hl : S 0 23 3 < 4
      · rw [if_pos hl, if_neg (by omega), up_ne (by decide), up_eq rfl]
      · rw [if_neg hl, if_pos (by omega), up_ne (by decide)]; omega
    have tnw : nw T = nw S := by
      show (T 0 23 0).toNat = _
      rw [t23, C0]
      rfl
    have old : Ok1 (cpO (S (sp S)) (S (nw S))) (cpF M' (S 0 31) 3833) := by
      have q := hN
      exact ⟨T1_row (T1_eqo q.1 (cpO_eq _ _)) (fun j j1 j2 => cpF_in ⟨j1, j2⟩), SP_e q.2.1 (DPe_eq (fun j j1 j2 => cpF_in ⟨by omega, j2⟩) (fun u u1 u2 => cpF_in ⟨by omega, by omega⟩)), by rw [cpF_in (by omega)]; exact q.2.2⟩
    unfold LRel TxL
    rw [tnw, t31, t30, t34, t23, t24, C3, C5, tW 0 32 (by decide) (by decide) (by decide) (by decide) (by decide) (by decide), tW 0 29 (by decide) (by decide) (by decide) (by decide) (by decide) (by decide), tW 0 35 (by decide) (by decide) (by decide) (by decide) (by decide) (by decide), tW 0 25 (by decide) (by decide) (by decide) (by decide) (by decide) (by decide), w23 0 32 (by decide), w23 0 29 (by decide), w23 0 35 (by decide), w23 0 25 (by decide), up_eq (show (6 : Int) = 6 from rfl), up_ne (show ¬ (8 : Int) = 6 by decide), up_ne (show ¬ (7 : Int) = 6 by decide), up_ne (show ¬ (10 : Int) = 6 by decide), up_ne (show ¬ (11 : Int) = 6 by decide)]
    have eW : ∀ k c : Nat, c < 23 → T k c = W k c := fun k c hc => tW k c (by omega) (by omega) (by omega) (by omega) (by omega) (by omega)
    refine ⟨⟨?_, rfl⟩, DsC_rc hs hD, Ok1_sc (fun c hc => by rw [eW _ c hc, wn c hc]) (fun _ _ _ => rfl) hT, fun k k1 k2 => ?_, ⟨hP.1, hP.2.1, fun q => Ok1_sc (fun c hc => by rw [eW _ c hc, wo 2 c hn2 hs2]) (fun _ _ _ => rfl) (hP.2.2 q)⟩, hX⟩
    · unfold rcK; split <;> omega
    · by_cases hl : S 0 23 3 < 4
      · have eA : rcA (S 0 23) (S 0 24) = up (S 0 24) (S 0 23 3) (S 0 23 1) := by unfold rcA; rw [if_pos hl]
        have eK : rcK (S 0 23 3) = S 0 23 3 := by unfold rcK; rw [if_neg (by omega)]
        rw [eK] at k2
        by_cases e : k = S 0 23 3
        · rw [eA, up_eq e]
          refine Ok1_sc (O := cpO (S (sp S)) (S (nw S))) (M := cpF M' (S 0 31) 3833) (fun c hc => by rw [eW _ c hc]; exact ws c hc) (fun j j1 j2 => ?_) old
          unfold rcH ptF
          rw [eK, if_pos (by omega)]
          congr 1
          omega
        · rw [eA, up_ne e]
          have q := hA k k1 (by omega)
          refine Ok1_sc (fun c hc => by rw [eW _ c hc, wo _ c q.1 q.2]) (fun j j1 j2 => ?_) (hH k k1 (by omega))
          unfold rcH ptF
          rw [eK, if_neg (by omega), if_neg (show ¬ S 0 23 3 = 4 by omega)]
      · have eA : rcA (S 0 23) (S 0 24) = up (up (up (up (S 0 24) 0 (S 0 24 1)) 1 (S 0 24 2)) 2 (S 0 24 3)) 3 (S 0 23 1) := by unfold rcA; rw [if_neg hl]
        have s4 : S 0 23 3 = 4 := by omega
        have eK : rcK (S 0 23 3) = 3 := by unfold rcK; rw [if_pos s4]
        rw [eK] at k2
        by_cases e : k = 3
        · rw [eA, up_eq e]
          refine Ok1_sc (O := cpO (S (sp S)) (S (nw S))) (M := cpF M' (S 0 31) 3833) (fun c hc => by rw [eW _ c hc]; exact ws c hc) (fun j j1 j2 => ?_) old
          unfold rcH ptF
          rw [eK, if_pos (by omega)]
          congr 1
          omega
        · have ek : up (up (up (up (S 0 24) 0 (S 0 24 1)) 1 (S 0 24 2)) 2 (S 0 24 3)) 3 (S 0 23 1) k = S 0 24 (k + 1) := by
            rcases (show k = 0 ∨ k = 1 ∨ k = 2 by omega) with rfl | rfl | rfl <;> simp only [up_ap, Int.reduceEq, ↓reduceIte, Int.reduceAdd, Int.zero_add]
          rw [eA, ek]
          have q := hA (k + 1) (by omega) (by omega)
          refine Ok1_sc (fun c hc => by rw [eW _ c hc, wo _ c q.1 q.2]) (fun j j1 j2 => ?_) (hH (k + 1) (by omega) (by omega))
          unfold rcH ptF
          rw [eK, if_neg (by omega), if_pos s4]
          unfold shF
          rw [if_pos (by omega)]
          congr 1
          omega
