/-! THE LAW: the best rule -/
set_option maxHeartbeats 4000000 in
set_option maxRecDepth 100000 in
theorem pt_b (M : Int → Int) : 0 ≤ ptC M ∧ ptC M ≤ 600 := by
  have q := sm_b (f := fun k => ptI M (k : Int)) (c := 1) (by decide) 600 (fun k _ => by
    unfold ptI
    split <;> omega)
  unfold ptC
  exact ⟨q.1, by have := q.2; omega⟩
set_option maxHeartbeats 4000000 in
set_option maxRecDepth 100000 in
theorem be_b {O : Of} {M : Int → Int} (h : T1 O M) (hs : SP M) : tdR (pyS M - cbA M) ∧ 0 ≤ pyS M - cbA M := by
  have c := cb_py h.1 hs
  have p0 := h.2.2.1 0 (by omega) (by omega)
  have p1 := h.2.2.1 1 (by omega) (by omega)
  have p2 := h.2.2.1 2 (by omega) (by omega)
  have w0 := wt_b M 0
  have w1 := wt_b M 1
  have w2 := wt_b M 2
  have m0 := h.1.2.2.2.2.2.2.1.1.2
  simp only [Int.mul_zero, Int.mul_one, Int.add_zero, Int.reduceMul, Int.reduceAdd] at p0 p1 p2
  have e : pyS M = M 20 + M 35 + M 50 := rfl
  unfold tdR
  omega
def BV (q q' : Int × Int) : Prop := q.1 = q'.1 ∧ (q'.1 = -5 → q.2 = -1 ∧ q'.2 = 0) ∧ (¬ q'.1 = -5 → q.2 = q'.2)
set_option maxHeartbeats 4000000 in
set_option maxRecDepth 100000 in
theorem bv_step {P N : Of} {R M : Int → Int} {r : Int} {q q' : Int × Int} (h8 : P 0 8 = ptC R) (n8 : N 0 8 = ptC M) (hg : s3 (P 15) - P 0 9 = pyS R - cbA R) (g0 : 0 ≤ pyS R - cbA R) (hr : 0 ≤ r) (i : BV q q') : BV (bsR P N r q) (brR R (ptC M) r q') := by
  obtain ⟨i1, i2, i3⟩ := i
  have e : bsB P N q.2 ↔ brB R (ptC M) q'.1 q'.2 := by
    unfold bsB brB
    rw [h8, n8, hg]
    by_cases c : q'.1 = -5
    · have := i2 c
      omega
    · have := i3 c
      omega
  unfold bsR brR BV
  dsimp only
  by_cases c : brB R (ptC M) q'.1 q'.2
  · rw [if_pos (e.2 c), if_pos (e.2 c), if_pos c, if_pos c, hg]
    exact ⟨rfl, fun z => by omega, fun _ => rfl⟩
  · rw [if_neg (fun z => c (e.1 z)), if_neg (fun z => c (e.1 z)), if_neg c, if_neg c]
    exact ⟨i1, i2, i3⟩
set_option maxHeartbeats 4000000 in
set_option maxRecDepth 100000 in
theorem brN_in (M : Int → Int) {k : Nat} {j : Int} (hj : 0 ≤ j ∧ j < 3833) : brN M k j = M j := by
  cases k with
  | zero => rfl
  | succ k => exact cpF_in hj
set_option maxHeartbeats 4000000 in
set_option maxRecDepth 100000 in
theorem LO_bestRule {S : Hp} (h : LRel S) : Two S 98 [.inr (0, 23)] 187 [.inr (0, 30)] := by
  obtain ⟨hP, hne⟩ := LR_PmB h
  obtain ⟨hT, hS, h9⟩ := h.2.2.1
  have tk : ∀ k : Nat, T1 (S (nw S)) (brN (S 0 31) k) := fun k => T1_row hT (fun j j1 j2 => brN_in _ ⟨j1, j2⟩)
  have k0 : ∀ k : Nat, brN (S 0 31) k 0 = S 0 31 0 := fun k => brN_in _ (by omega)
  have sk : ∀ k : Nat, SP (brN (S 0 31) k) := fun k => SP_e hS (DPe_eq (fun j j1 j2 => brN_in _ ⟨by omega, j2⟩) (fun u u1 u2 => brN_in _ ⟨by omega, by omega⟩))
  have gk : ∀ k : Nat, k < 3 → ∀ j : Nat, j ≤ 99 → T1 (ruO (brX S k) (S (nw S)) (k : Int) j) (rtM (brN (S 0 31) k) (k : Int) j) := fun k hk j hj => (RULE (X := brX S k) (tk k) (by rw [k0]; exact h9) (by omega) j hj).1
  have ssk : ∀ k : Nat, k < 3 → SP (rtM (brN (S 0 31) k) (k : Int) 99) := fun k hk => by
    have g := T1_rule (X := brX S k) (r := (k : Int)) (tk k) (by omega)
    have e : up (brN (S 0 31) k) 5 (k : Int) 0 = S 0 31 0 := by rw [up_ne (by decide), k0]
    exact SP_e (SP_set (w := 0) (by omega) (sk k)) (DPe_ticks g 99 (by rw [e]; omega))
  have bk := fun (k : Nat) (hk : k < 3) => be_b (gk k hk 99 (by omega)) (ssk k hk)
  have hR0 := fun (k : Nat) (hk : k < 3) => (gk k hk 99 (by omega)).1
  have o8 : ∀ k : Nat, k < 3 → brX S (k + 1) 0 8 = ptC (rtM (brN (S 0 31) k) (k : Int) 99) := fun k hk => (hR0 k hk).2.2.2.2.2.2.1.2.2.1.1
  have o9 : ∀ k : Nat, k < 3 → brX S (k + 1) 0 9 = cbA (rtM (brN (S 0 31) k) (k : Int) 99) := fun k hk => (hR0 k hk).2.2.2.2.2.2.1.2.2.1.2.1
  have op : ∀ k : Nat, k < 3 → s3 (brX S (k + 1) 15) = pyS (rtM (brN (S 0 31) k) (k : Int) 99) := fun k hk => s3_py (hR0 k hk).2.2.2.1
  have n8 : S (nw S) 0 8 = ptC (S 0 31) := hT.1.2.2.2.2.2.2.1.2.2.1.1
  have tdp : ∀ M : Int → Int, tdR (ptC M) := fun M => by have := pt_b M; unfold tdR; omega
  have v0 : BV (bsV S 0) (brV (S 0 31) 0) := ⟨rfl, fun _ => ⟨rfl, rfl⟩, fun z => absurd rfl z⟩
  have st : ∀ k : Nat, k < 3 → BV (bsV S k) (brV (S 0 31) k) → BV (bsV S (k + 1)) (brV (S 0 31) (k + 1)) := fun k hk i => bv_step (o8 k hk) n8 (by rw [op k hk, o9 k hk]) (bk k hk).2 (by omega) i
  have v3 := st 2 (by omega) (st 1 (by omega) (st 0 (by omega) v0))
  have r1 := fun Q => c_bestRule (S := S) hne (fun i hi => ⟨fun j hj => TICK_c (gk i hi j (by omega)), by rw [o8 i hi]; exact tdp _, by rw [op i hi, o9 i hi]; exact (bk i hi).1⟩) (by rw [n8]; exact tdp _) Q
  rw [v3.1] at r1
  obtain ⟨W, hW⟩ : ∃ W, W = ho S (sp S) (brX S 3) := ⟨_, rfl⟩
  rw [← hW] at r1
  have wc : ∀ k c : Nat, 23 ≤ c → W k c = S k c := fun k c hc => by rw [hW, ho_nc (by omega)]
  have wo : ∀ k c : Nat, ¬ k = sp S → W k c = S k c := fun k c q => by rw [hW, ho_nk q]
  have r2 := fun Q => m_bestRule (S := W) (by rw [wc 0 31 (by decide)]; exact RP_pb hT.1.2.2.1 hT.1.2.2.2.2.2.2.1.1.2) (tdp _) (fun k hk => by
    rw [wc 0 31 (by decide)]
    have g := hR0 k hk
    exact ⟨fun j hj => TICK_k (gk k hk j (by omega)), g.1.1, RP_pb g.2.2.1 g.2.2.2.2.2.2.1.1.2, tdp _, (bk k hk).1⟩) Q
  rw [wc 0 31 (by decide)] at r2
  exact ⟨W, _, _, r1, wc 0 40 (by decide), wc 0 41 (by decide), r2, by rw [hr_nc (by decide), hr_nc (by decide), wc 0 40 (by decide)], by rw [hr_nc (by decide), hr_nc (by decide), wc 0 41 (by decide)], LR_sp h (fun k c hc q => by rw [hr_nc (by omega), hr_nc (by omega), wo k c q]) (fun c h1 h2 h3 => by rw [hr_nc h2, hr_nc h3, wc 0 c h1]) (fun j j1 j2 => by rw [hr_at]; exact brN_in _ ⟨j1, j2⟩)⟩
