/-! THE RELATION is kept by a whole tick -/
def T1 (O : Of) (M : Int → Int) : Prop := RR O M ∧ RC M ∧ PB M (fun _ => 0) ∧ M 4 ≤ 200 * M 0
def z0 : Int → Int := fun _ => 0
def z1 : Int → Int := fun v => if v = 0 then 1 else 0
def z2 : Int → Int := fun v => if v = 2 then 0 else 1
def z3 : Int → Int := fun _ => 1
set_option maxHeartbeats 4000000 in
set_option maxRecDepth 100000 in
theorem RR_Ap {O : Of} {M : Int → Int} {w : Int} (h : RR O M) (hw : 0 ≤ w ∧ w < 3) : Ap M w := by
  obtain ⟨h1, h2, h3, h4, h5, h6, h7, h8⟩ := h
  obtain ⟨b1, b2, b3, b4, b5, -⟩ := h4 w hw.1 hw.2
  obtain ⟨t0, t1, t2⟩ := h7.1
  have q := b3 0 (by omega) (by omega)
  rw [Int.add_zero] at q
  have n2 := h5.1
  have s7 := h7.2.2.2.2.2.2
  exact ⟨h1.1, h2.1, h7.2.2.2.2.1, by omega, q, by omega, b4.1, by omega, b1.1⟩
/- the states on the way through a tick -/
set_option maxHeartbeats 4000000 in
set_option maxRecDepth 100000 in
theorem tick_way {O : Of} {M : Int → Int} (h : T1 O M) : RR (bnO O) (mE M) ∧ RR (svO (bnO O) 0) (waM (mE M) 0) ∧ RR (svO (svO (bnO O) 0) 1) (waM (waM (mE M) 0) 1) ∧ RR (svO (svO (svO (bnO O) 0) 1) 2) (waM (waM (waM (mE M) 0) 1) 2) ∧ RS (waM (waM (waM (mE M) 0) 1) 2) z3 147 ∧ PB (waM (waM (waM (mE M) 0) 1) 2) z3 ∧ (mE M 2 ≤ 141 ∧ waM (mE M) 0 2 ≤ 143 ∧ waM (waM (mE M) 0) 1 2 ≤ 145) ∧ (waM (waM (waM (mE M) 0) 1) 2 0 = M 0 ∧ waM (waM (waM (mE M) 0) 1) 2 4 ≤ M 4 + 150) := by
  obtain ⟨hR, hC, hP, h4⟩ := h
  obtain ⟨r0, s0, e0, ej⟩ := RR_brought hR hC
  have hn := hR.2.2.2.2.1.1
  have dp := DP hR hC hP (nM M) (Nat.le_refl _)
  have p0 : PB (mE M) z0 := by
    have q : PB (mD M) (fun _ => 0) := dp.1
    obtain ⟨-, -, a3, -⟩ := DL hR hC (nM M) (Nat.le_refl _)
    refine PB_le q (by rw [e0]; exact a3.symm) (fun v v1 v2 => ?_) (fun v v1 v2 => ⟨ej _ (by omega) (by omega), ej _ (by omega) (by omega)⟩)
    rw [wt_ne (ej _ (by omega) (by omega))]
    exact Int.le_refl _
  have q4 : mE M 4 ≤ M 4 + 150 := by
    rw [ej 4 (by omega) (by omega)]
    have := dp.2
    unfold mD
    have en : ((nM M : Nat) : Int) = M 2 := by unfold nM; omega
    omega
  have n0 := s0.2.1
  have r1 := RR_serve (w := 0) r0 (by omega) (by omega)
  have f1 := wa_eff (w := 0) r0 (by omega)
  have s1 := RS_srv (s := z0) (s' := z1) (w := 0) s0 r0.2.2.2.2.1.1.1 (by have := r0.2.2.2.2.2.2.1.2.2.2.2.2.1; omega) f1.1 (by omega) rfl rfl (fun v v1 v2 e => by unfold z1 z0; rw [if_neg e])
  have p1 := f1.2 z0 z1 p0 rfl rfl (fun v v1 v2 e => by unfold z1 z0; rw [if_neg e])
  have n1 := s1.2.1
  have r2 := RR_serve (w := 1) r1 (by omega) (by omega)
  have f2 := wa_eff (w := 1) r1 (by omega)
  have s2 := RS_srv (s := z1) (s' := z2) (w := 1) s1 r1.2.2.2.2.1.1.1 (by have := r1.2.2.2.2.2.2.1.2.2.2.2.2.1; omega) f2.1 (by omega) rfl rfl (fun v v1 v2 e => by unfold z1 z2; split <;> split <;> omega)
  have p2 := f2.2 z1 z2 p1 rfl rfl (fun v v1 v2 e => by unfold z1 z2; split <;> split <;> omega)
  have n2 := s2.2.1
  have r3 := RR_serve (w := 2) r2 (by omega) (by omega)
  have f3 := wa_eff (w := 2) r2 (by omega)
  have s3 := RS_srv (s := z2) (s' := z3) (w := 2) s2 r2.2.2.2.2.1.1.1 (by have := r2.2.2.2.2.2.2.1.2.2.2.2.2.1; omega) f3.1 (by omega) rfl rfl (fun v v1 v2 e => by unfold z3 z2; rw [if_neg e])
  have p3 := f3.2 z2 z3 p2 rfl rfl (fun v v1 v2 e => by unfold z3 z2; rw [if_neg e])
  refine ⟨r0, r1, r2, r3, s3, p3, ⟨by omega, by omega, by omega⟩, ?_, ?_⟩
  · rw [f3.1.1.1, f2.1.1.1, f1.1.1.1, e0]
  · rw [f3.1.1.2, f2.1.1.2, f1.1.1.2]; exact q4
set_option maxHeartbeats 4000000 in
set_option maxRecDepth 100000 in
theorem tk_x (M : Int → Int) : tkM M (nT M) = tnM (up (csM (waM (waM (waM (mE M) 0) 1) 2)) 0 (csM (waM (waM (waM (mE M) 0) 1) 2) 0 + 1)) 3 := rfl
set_option maxHeartbeats 4000000 in
set_option maxRecDepth 100000 in
theorem TICK {O : Of} {M : Int → Int} (h : T1 O M) (h0 : M 0 < 20000) : T1 (tkO O) (tkM M (nT M)) ∧ tkM M (nT M) 0 = M 0 + 1 := by
  obtain ⟨r0, r1, r2, r3, s3, p3, -, e0, e4⟩ := tick_way h
  rw [tk_x]
  unfold tkO
  generalize svO (svO (svO (bnO O) 0) 1) 2 = X at *
  generalize waM (waM (waM (mE M) 0) 1) 2 = E at *
  have rS := RR_settle r3
  have cn : ∀ j : Int, ¬ j = 3 → j < 833 → csM E j = E j := fun j j1 j2 => cs_ne j1 (by omega)
  have hn := r3.2.2.2.2.1.1
  have hC2 : csM E 2 = E 2 := cn 2 (by omega) (by omega)
  have c0 : csM E 0 = E 0 := cn 0 (by omega) (by omega)
  have rE := RR_end rS (fun i i1 i2 => by
    rw [hC2] at i2
    rw [c0, cn _ (by omega) (by omega)]
    exact s3.2.2 i i1 i2) (by rw [c0, e0]; exact h0)
  have fn : ∀ j : Int, ¬ j = 0 → ¬ j = 3 → j < 833 → (∀ i : Nat, i < 3 → ¬ j = 8 + 15 * (i : Int) + 10) → tnM (up (csM E) 0 (csM E 0 + 1)) 3 j = E j := fun j j1 j2 j3 j4 => by rw [tn_ne 3 j4, up_ne j1, cn j j2 j3]
  have f0 : tnM (up (csM E) 0 (csM E 0 + 1)) 3 0 = E 0 + 1 := by rw [tn_ne 3 (fun i _ => by omega), up_eq rfl, c0]
  have fw : ∀ v : Int, 0 ≤ v → v < 3 → wt (tnM (up (csM E) 0 (csM E 0 + 1)) 3) v = wt E v := fun v v1 v2 => wt_ne (fn _ (by omega) (by omega) (by omega) (fun i _ => by omega))
  refine ⟨⟨rE, ?_, ?_, ?_⟩, by rw [f0, e0]⟩
  · exact RC_end s3 (fun i i1 i2 => (r3.2.2.2.2.1.2.2 i i1 i2).1.1.2) f0 hn.1 (fun j j1 => fn j (by omega) (by omega) (by omega) (fun i i1 => by omega)) fw
  · intro v v1 v2
    have a := p3 v v1 v2
    unfold z3 at a
    rw [fw v v1 v2, fn (8 + 15 * v + 12) (by omega) (by omega) (by omega) (fun i _ => by omega), fn (8 + 15 * v + 11) (by omega) (by omega) (by omega) (fun i _ => by omega), f0]
    dsimp only at a ⊢
    omega
  · rw [fn 4 (by omega) (by omega) (by omega) (fun i _ => by omega), f0]
    have := h.2.2.2
    omega
set_option maxHeartbeats 4000000 in
set_option maxRecDepth 100000 in
theorem TICK_c {O : Of} {M : Int → Int} (h : T1 O M) : TcP O := by
  obtain ⟨r0, r1, r2, r3, s3, p3, ⟨n0, n1, n2⟩, e0, e4⟩ := tick_way h
  obtain ⟨hR, hC, hP, h4⟩ := h
  have dl := DL hR hC
  have eN : nN O = nM M := by unfold nN nM; rw [hR.2.2.2.2.1.2.1]
  have hn := hR.2.2.2.2.1.1
  have en : ((nM M : Nat) : Int) = M 2 := by unfold nM; omega
  obtain ⟨a1, a2, a3, a4, a5, a6⟩ := dl (nM M) (Nat.le_refl _)
  have hb := RJ_n a2
  have rS := RR_settle r3
  refine ⟨⟨?_, fun j hj => ?_, ?_, ?_, ?_⟩, RR_Sv r0 (by omega) (by omega), RR_Sv r1 (by omega) (by omega), RR_Sv r2 (by omega) (by omega), RR_St r3, RR_12 rS⟩
  · rw [hR.2.2.2.2.1.2.1]; exact hn
  · rw [eN] at hj
    obtain ⟨c1, c3, c4, c5, c6, c7⟩ := dl j (by omega)
    have := RJ_n c3
    exact RR_Bm c1 (by omega) (by omega)
  · rw [eN, a1.2.2.2.2.1.2.1]; have := a1.2.2.2.2.1.1; omega
  · rw [eN, a1.2.2.2.2.2.2.1.1.1]; have := a1.2.2.2.2.2.2.1.1.2; omega
  · intro i i1 i2
    rw [eN] at i2 ⊢
    rw [a1.2.2.2.2.1.2.1] at i2
    obtain ⟨v1, v2, v3⟩ := a1.2.2.2.2.1.2.2 i i1 i2
    rw [v2]
    have q := v1.1
    have := a1.2.2.2.2.2.2.1.1.2
    omega
set_option maxHeartbeats 4000000 in
set_option maxRecDepth 100000 in
theorem TICK_k {O : Of} {M : Int → Int} (h : T1 O M) : TkP M (nT M) := by
  obtain ⟨r0, r1, r2, r3, s3, p3, ⟨n0, n1, n2⟩, e0, e4⟩ := tick_way h
  obtain ⟨hR, hC, hP, h4⟩ := h
  have dl := DL hR hC
  have dp := DP hR hC hP
  have hn := hR.2.2.2.2.1.1
  have hT := hR.2.2.2.2.2.2.1.1.2
  have en : ((nM M : Nat) : Int) = M 2 := by unfold nM; omega
  obtain ⟨a1, a2, a3, a4, a5, a6⟩ := dl (nM M) (Nat.le_refl _)
  have hb := RJ_n a2
  have eT : ((nT M : Nat) : Int) = mD M 2 := by rw [nT_eq]; unfold mD; omega
  have any : ∀ k : Nat, k ≤ nT M → ∃ X, RR X (m1 M k) ∧ m1 M k 4 ≤ M 4 + 150 ∧ (k < nT M → (k : Int) < m1 M k 2) := by
    intro k hk
    rcases m1_any hR hC hk with c | c
    · have q := dl k c
      refine ⟨_, q.1, by have := (dp k c).2; omega, fun hk2 => ?_⟩
      by_cases e : k = nM M
      · subst e
        have eD : m1 M (nM M) = mD M := rfl
        rw [eD]; omega
      · have := q.2.2.2.2.1; omega
    · rw [c]
      exact ⟨_, a1, by have := (dp (nM M) (Nat.le_refl _)).2; unfold mD; omega, fun hk2 => by omega⟩
  have small : ∀ X P, RR X P → P 4 ≤ M 4 + 150 → P 4 < 2147483648 := fun X P _ q => by omega
  refine ⟨⟨by unfold mD at eT; omega, fun k hk => ?_, ?_, ?_, fun k hk => ?_⟩, fun k hk => ?_, ?_, ?_⟩
  · obtain ⟨X, x1, x2, x3⟩ := any k (by omega)
    have x4 := x3 hk
    have v := (x1.2.2.2.2.1.2.2 (k : Int) (by omega) x4).1
    have t := x1.2.2.2.2.2.2.1.1.2
    refine ⟨RR_Gm x1 (small X _ x1 x2), by omega, ?_, x4⟩
    have q := v.1
    exact ⟨by omega, ⟨v.2.1.1, v.2.1.2.1, v.2.1.2.2.1⟩, v.2.2.1⟩
  · obtain ⟨X, x1, x2, x3⟩ := any (nT M) (Nat.le_refl _)
    have t := x1.2.2.2.2.2.2.1.1.2
    omega
  · rw [m1_nT hR hC]; exact eT.symm
  · obtain ⟨X, x1, x2, x3⟩ := any (nT M) (Nat.le_refl _)
    have t := x1.2.2.2.2.2.2.1.1.2
    have e2 : m1 M (nT M) 2 = (nT M : Nat) := by rw [m1_nT hR hC]; exact eT.symm
    have v := (x1.2.2.2.2.1.2.2 (k : Int) (by omega) (by omega)).1.1
    omega
  · have ew : mmM M (nT M) = mE M := rfl
    rw [ew]
    rcases (show k = 0 ∨ k = 1 ∨ k = 2 by omega) with rfl | rfl | rfl
    · exact RR_Ap r0 (by omega)
    · exact RR_Ap r1 (by omega)
    · exact RR_Ap r2 (by omega)
  · have ew : wsM (mmM M (nT M)) 3 = waM (waM (waM (mE M) 0) 1) 2 := rfl
    rw [ew]
    have q := RR_Gm r3 (by omega)
    exact ⟨q.1, q.2.2.1, q.2.1, q.2.2.2.1⟩
  · have ew : wsM (mmM M (nT M)) 3 = waM (waM (waM (mE M) 0) 1) 2 := rfl
    rw [ew]
    exact fun w w1 w2 => (r3.2.2.2.1 w w1 w2).2.2.2.1.1
/- ticks -/
set_option maxHeartbeats 4000000 in
set_option maxRecDepth 100000 in
theorem TICKS {O : Of} {M : Int → Int} (h : T1 O M) : ∀ k : Nat, M 0 + k ≤ 20000 → T1 (rvO O k) (pvM M k) ∧ pvM M k 0 = M 0 + k
  | 0, _ => ⟨h, by show M 0 = M 0 + ((0 : Nat) : Int); omega⟩
  | k + 1, hk => by
    have ih := TICKS h k (by omega)
    have q := TICK ih.1 (by omega)
    exact ⟨q.1, by show tkM (pvM M k) (nT (pvM M k)) 0 = _; omega⟩
