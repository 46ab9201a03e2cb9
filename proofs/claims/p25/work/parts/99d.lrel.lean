/-! THE LAW: the relation of the whole -/
set_option maxHeartbeats 4000000 in
set_option maxRecDepth 100000 in
theorem T1_sc {O O' : Of} {M : Int → Int} (h : ∀ c : Nat, c < 23 → O' c = O c) (hT : T1 O M) : T1 O' M := T1_eqo hT ⟨⟨by rw [h 0 (by decide)], by rw [h 0 (by decide)], by rw [h 0 (by decide)], by rw [h 0 (by decide)], by rw [h 0 (by decide)]⟩, by rw [h 18 (by decide)], ⟨by rw [h 21 (by decide)], by rw [h 21 (by decide)]⟩, fun j _ _ => by rw [h 1 (by decide)], fun j _ _ => by rw [h 3 (by decide)], fun j _ _ => by rw [h 4 (by decide)], fun j _ _ => by rw [h 6 (by decide)], fun j _ _ => by rw [h 7 (by decide)], fun j _ _ => by rw [h 8 (by decide)], fun j _ _ => by rw [h 10 (by decide)], fun j _ _ => by rw [h 11 (by decide)], fun j _ _ => by rw [h 12 (by decide)], fun j _ _ => by rw [h 13 (by decide)], fun j _ _ => by rw [h 14 (by decide)], fun j _ _ => by rw [h 15 (by decide)], fun j _ _ => by rw [h 16 (by decide)], fun j _ _ => by rw [h 17 (by decide)], fun j _ _ => by rw [h 19 (by decide)], fun j _ _ => by rw [h 20 (by decide)], fun j _ _ => by rw [h 22 (by decide)]⟩
def Ok1 (O : Of) (M : Int → Int) : Prop := T1 O M ∧ SP M ∧ M 0 ≤ 9999
set_option maxHeartbeats 4000000 in
set_option maxRecDepth 100000 in
theorem Ok1_sc {O O' : Of} {M M' : Int → Int} (h : ∀ c : Nat, c < 23 → O' c = O c) (hm : ∀ j : Int, 0 ≤ j → j < 3833 → M' j = M j) (hT : Ok1 O M) : Ok1 O' M' := ⟨T1_row (T1_sc h hT.1) hm, SP_e hT.2.1 (DPe_eq (fun j j1 j2 => hm j (by omega) j2) (fun v v1 v2 => hm _ (by omega) (by omega))), by rw [hm 0 (by omega) (by omega)]; exact hT.2.2⟩
def DsC (C A : Int → Int) : Prop := (0 ≤ C 0 ∧ 0 ≤ C 1 ∧ ∀ k : Int, 0 ≤ k → k < 4 → 0 ≤ A k) ∧ (¬ C 0 = 2 ∧ ¬ C 1 = 2 ∧ ∀ k : Int, 0 ≤ k → k < 4 → ¬ A k = 2) ∧ ¬ C 0 = C 1 ∧ (∀ k : Int, 0 ≤ k → k < 4 → ¬ A k = C 0 ∧ ¬ A k = C 1) ∧ ∀ j k : Int, 0 ≤ j → j < k → k < 4 → ¬ A j = A k
set_option maxHeartbeats 4000000 in
set_option maxRecDepth 100000 in
theorem DsC_rc {C A : Int → Int} (hs : 0 ≤ C 3 ∧ C 3 ≤ 4) (h : DsC C A) : DsC (rcC C A) (rcA C A) := by
  obtain ⟨⟨a1, a2, a3⟩, ⟨b1, b2, b3⟩, c1, c3, c4⟩ := h
  unfold rcC rcA
  by_cases hl : C 3 < 4
  · rw [if_pos hl, if_pos hl]
    have e0 : up (up C 3 (C 3 + 1)) 1 (A (C 3)) 0 = C 0 := by rw [up_ne (by decide), up_ne (by decide)]
    have e1 : up (up C 3 (C 3 + 1)) 1 (A (C 3)) 1 = A (C 3) := up_eq rfl
    have p := c3 (C 3) hs.1 hl
    have hA : ∀ k : Int, up A (C 3) (C 1) k = if k = C 3 then C 1 else A k := fun k => rfl
    unfold DsC
    rw [e0, e1]
    refine ⟨⟨a1, a3 _ hs.1 hl, fun k k1 k2 => ?_⟩, ⟨b1, b3 _ hs.1 hl, fun k k1 k2 => ?_⟩, fun q => p.1 q.symm, fun k k1 k2 => ?_, fun j k j1 j2 k2 => ?_⟩
    · rw [hA]; split
      · exact a2
      · exact a3 k k1 k2
    · rw [hA]; split
      · exact b2
      · exact b3 k k1 k2
    · rw [hA]; split
      · exact ⟨fun q => c1 q.symm, fun q => p.2 q.symm⟩
      · next q =>
        refine ⟨(c3 k k1 k2).1, fun r => ?_⟩
        rcases Int.lt_or_le k (C 3) with z | z
        · exact c4 k (C 3) k1 z hl r
        · exact c4 (C 3) k hs.1 (by omega) k2 r.symm
    · rw [hA, hA]
      have pj := c3 j j1 (by omega)
      have pk := c3 k (by omega) k2
      have pc := c4 j k j1 j2 k2
      split
      · split
        · omega
        · exact fun q => pk.2 q.symm
      · split
        · exact pj.2
        · exact pc
  · rw [if_neg hl, if_neg hl]
    have e0 : up C 1 (A 0) 0 = C 0 := up_ne (by decide)
    have e1 : up C 1 (A 0) 1 = A 0 := up_eq rfl
    have h0 : up (up (up (up A 0 (A 1)) 1 (A 2)) 2 (A 3)) 3 (C 1) 0 = A 1 := by simp only [up_ap, Int.reduceEq, ↓reduceIte]
    have h1 : up (up (up (up A 0 (A 1)) 1 (A 2)) 2 (A 3)) 3 (C 1) 1 = A 2 := by simp only [up_ap, Int.reduceEq, ↓reduceIte]
    have h2 : up (up (up (up A 0 (A 1)) 1 (A 2)) 2 (A 3)) 3 (C 1) 2 = A 3 := by simp only [up_ap, Int.reduceEq, ↓reduceIte]
    have h3 : up (up (up (up A 0 (A 1)) 1 (A 2)) 2 (A 3)) 3 (C 1) 3 = C 1 := by simp only [up_ap, Int.reduceEq, ↓reduceIte]
    generalize up (up (up (up A 0 (A 1)) 1 (A 2)) 2 (A 3)) 3 (C 1) = B at *
    have d01 := c4 0 1 (by omega) (by omega) (by omega)
    have d02 := c4 0 2 (by omega) (by omega) (by omega)
    have d03 := c4 0 3 (by omega) (by omega) (by omega)
    have d12 := c4 1 2 (by omega) (by omega) (by omega)
    have d13 := c4 1 3 (by omega) (by omega) (by omega)
    have d23 := c4 2 3 (by omega) (by omega) (by omega)
    have n0 := a3 0 (by omega) (by omega)
    have n1 := a3 1 (by omega) (by omega)
    have n2 := a3 2 (by omega) (by omega)
    have n3 := a3 3 (by omega) (by omega)
    have m0 := b3 0 (by omega) (by omega)
    have m1 := b3 1 (by omega) (by omega)
    have m2 := b3 2 (by omega) (by omega)
    have m3 := b3 3 (by omega) (by omega)
    have t0 := c3 0 (by omega) (by omega)
    have t1 := c3 1 (by omega) (by omega)
    have t2 := c3 2 (by omega) (by omega)
    have t3 := c3 3 (by omega) (by omega)
    unfold DsC
    rw [e0, e1]
    have k4 : ∀ k : Int, 0 ≤ k → k < 4 → k = 0 ∨ k = 1 ∨ k = 2 ∨ k = 3 := fun k k1 k2 => by omega
    refine ⟨⟨a1, n0, fun k k1 k2 => ?_⟩, ⟨b1, m0, fun k k1 k2 => ?_⟩, fun q => t0.1 q.symm, fun k k1 k2 => ?_, fun j k j1 j2 k2 => ?_⟩
    · rcases k4 k k1 k2 with rfl | rfl | rfl | rfl <;> omega
    · rcases k4 k k1 k2 with rfl | rfl | rfl | rfl <;> omega
    · rcases k4 k k1 k2 with rfl | rfl | rfl | rfl <;> omega
    · rcases k4 j j1 (by omega) with rfl | rfl | rfl | rfl <;> rcases k4 k (by omega) k2 with rfl | rfl | rfl | rfl <;> omega
/- the heap after an act of both -/