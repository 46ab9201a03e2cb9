/-! THE LAW: the heap after an act, after undo -/
def LQ (S : Hp) : Prop := (0 ≤ S 0 23 3 ∧ S 0 23 3 ≤ 4) ∧ DsC (S 0 23) (S 0 24)
set_option maxHeartbeats 4000000 in
set_option maxRecDepth 100000 in
theorem LQ_P {S : Hp} (h : LQ S) : PmB S ∧ ¬ nw S = sp S := by
  obtain ⟨hs, ⟨a1, a2, a3⟩, b, c1, c3⟩ := h
  exact ⟨⟨hs, a2, a3⟩, by unfold nw sp; omega⟩
set_option maxHeartbeats 4000000 in
set_option maxRecDepth 100000 in
theorem LQ_cg {S T : Hp} (h : LQ S) (e1 : T 0 23 = S 0 23) (e2 : T 0 24 = S 0 24) : LQ T ∧ nw T = nw S ∧ sp T = sp S := by
  unfold LQ nw sp
  rw [e1, e2]
  exact ⟨h, rfl, rfl⟩
set_option maxHeartbeats 4000000 in
set_option maxRecDepth 100000 in
theorem ac_rows {S : Hp} {O' : Of} (h : LQ S) : (∀ k c : Nat, 23 ≤ c → acS S O' k c = S k c) ∧ (∀ c : Nat, c < 23 → acS S O' (nw S) c = O' c) ∧ ∀ c : Nat, c < 23 → acS S O' (sp S) c = cpO (S (sp S)) (S (nw S)) c := by
  have hns := (LQ_P h).2
  refine ⟨fun k c hc => ?_, fun c hc => ?_, fun c hc => ?_⟩
  · unfold acS bgS
    rw [ho_nc (by omega), ho_nc (by omega)]
  · unfold acS
    rw [ho_at hc]
  · unfold acS bgS
    rw [ho_nk (fun q => hns q.symm), ho_at hc]
set_option maxHeartbeats 4000000 in
set_option maxRecDepth 100000 in
theorem ed_heap {S T : Hp} {O' : Of} {v : Int} (h : LQ S) (hT : T = edS (acS S O') v) : LQ T ∧ nw T = nw S ∧ (∀ c : Nat, c < 23 → T (nw S) c = O' c) ∧ (∀ c : Nat, c < 23 → T (sp S) c = cpO (S (sp S)) (S (nw S)) c) ∧ (∀ k c : Nat, 24 < c → T k c = S k c) ∧ (0 ≤ v → T 0 23 = rcC (S 0 23) (S 0 24) ∧ T 0 24 = rcA (S 0 23) (S 0 24)) ∧ (v < 0 → T 0 23 = S 0 23 ∧ T 0 24 = S 0 24) := by
  obtain ⟨w1, w2, w3⟩ := ac_rows (O' := O') h
  generalize acS S O' = W at *
  unfold edS at hT
  by_cases hv : 0 ≤ v
  · rw [if_pos hv] at hT
    have g23 : T 0 23 = rcC (S 0 23) (S 0 24) := by
      rw [hT]
      unfold rcT
      rw [hr_at, w1 0 23 (by decide), w1 0 24 (by decide)]
    have g24 : T 0 24 = rcA (S 0 23) (S 0 24) := by
      rw [hT]
      unfold rcT
      rw [hr_nc (by decide), hr_at, w1 0 23 (by decide), w1 0 24 (by decide)]
    have gc : ∀ k c : Nat, ¬ c = 23 → ¬ c = 24 → T k c = W k c := fun k c q1 q2 => by
      rw [hT]
      unfold rcT
      rw [hr_nc q1, hr_nc q2]
    have hD := DsC_rc h.1 h.2
    have e3 : rcC (S 0 23) (S 0 24) 3 = if S 0 23 3 < 4 then S 0 23 3 + 1 else S 0 23 3 := by
      unfold rcC
      split
      · rw [up_ne (by decide), up_eq rfl]
      · rw [up_ne (by decide)]
    have e0 : rcC (S 0 23) (S 0 24) 0 = S 0 23 0 := by
      unfold rcC
      split
      · rw [up_ne (by decide), up_ne (by decide)]
      · rw [up_ne (by decide)]
    have hs := h.1
    refine ⟨⟨by rw [g23, e3]; split <;> omega, by rw [g23, g24]; exact hD⟩, by unfold nw; rw [g23, e0], fun c hc => by rw [gc _ c (by omega) (by omega), w2 c hc], fun c hc => by rw [gc _ c (by omega) (by omega), w3 c hc], fun k c hc => by rw [gc k c (by omega) (by omega), w1 k c (by omega)], fun _ => ⟨g23, g24⟩, fun q => absurd hv (by omega)⟩
  · rw [if_neg hv] at hT
    subst hT
    have q := LQ_cg (T := T) h (w1 0 23 (by decide)) (w1 0 24 (by decide))
    exact ⟨q.1, q.2.1, w2, w3, fun k c hc => w1 k c (by omega), fun q => absurd q hv, fun _ => ⟨w1 0 23 (by decide), w1 0 24 (by decide)⟩⟩
set_option maxHeartbeats 4000000 in
set_option maxRecDepth 100000 in
theorem DsC_un {C A : Int → Int} {p z : Int} (hp : 0 ≤ p ∧ p < 4) (h : DsC C A) : DsC (up (up C 3 z) 0 (A p)) (up A p (C 0)) := by
  obtain ⟨⟨a1, a2, a3⟩, ⟨b1, b2, b3⟩, c1, c3, c4⟩ := h
  have p0 := c3 p hp.1 hp.2
  have n0 := a3 p hp.1 hp.2
  have m0 := b3 p hp.1 hp.2
  have e0 : up (up C 3 z) 0 (A p) 0 = A p := up_eq rfl
  have e1 : up (up C 3 z) 0 (A p) 1 = C 1 := by rw [up_ne (by decide), up_ne (by decide)]
  have hA : ∀ k : Int, up A p (C 0) k = if k = p then C 0 else A k := fun k => rfl
  unfold DsC
  rw [e0, e1]
  refine ⟨⟨n0, a2, fun k k1 k2 => ?_⟩, ⟨m0, b2, fun k k1 k2 => ?_⟩, p0.2, fun k k1 k2 => ?_, fun j k j1 j2 k2 => ?_⟩
  · rw [hA]; split
    · exact a1
    · exact a3 k k1 k2
  · rw [hA]; split
    · exact b1
    · exact b3 k k1 k2
  · rw [hA]; split
    · exact ⟨fun q => p0.1 q.symm, c1⟩
    · next q =>
      refine ⟨fun r => ?_, (c3 k k1 k2).2⟩
      rcases Int.lt_or_le k p with z | z
      · exact c4 k _ k1 z (by omega) r
      · exact c4 p k (by omega) (by omega) k2 r.symm
  · rw [hA, hA]
    have pj := c3 j j1 (by omega)
    have pk := c3 k (by omega) k2
    have pc := c4 j k j1 j2 k2
    split
    · split
      · omega
      · exact fun q => pk.1 q.symm
    · split
      · exact pj.1
      · exact pc
/- undo, right behind an act that was recorded -/
set_option maxHeartbeats 4000000 in
set_option maxRecDepth 100000 in
theorem un_heap {S T U : Hp} {O' : Of} {v : Int} (h : LQ S) (hv : 0 ≤ v) (hT : T = edS (acS S O') v) (hU : U = unS T) : unV T = (if S 0 23 3 = 4 then 3 else S 0 23 3) ∧ LQ U ∧ nw U = sp S ∧ (∀ k c : Nat, ¬ c = 23 → ¬ c = 24 → U k c = T k c) ∧ U 0 23 3 = unV T := by
  obtain ⟨q1, q2, q3, q4, q5, q6, -⟩ := ed_heap h hT
  obtain ⟨g23, g24⟩ := q6 hv
  have hs := h.1
  have e3 : rcC (S 0 23) (S 0 24) 3 = if S 0 23 3 < 4 then S 0 23 3 + 1 else S 0 23 3 := by
    unfold rcC
    split
    · rw [up_ne (by decide), up_eq rfl]
    · rw [up_ne (by decide)]
  have t3 : T 0 23 3 = if S 0 23 3 < 4 then S 0 23 3 + 1 else S 0 23 3 := by rw [g23, e3]
  have nz : ¬ T 0 23 3 = 0 := by rw [t3]; split <;> omega
  obtain ⟨p, hp⟩ : ∃ p, p = T 0 23 3 - 1 := ⟨_, rfl⟩
  have ep : p = if S 0 23 3 = 4 then 3 else S 0 23 3 := by
    rw [hp, t3]
    by_cases c : S 0 23 3 = 4
    · rw [if_pos c, if_neg (by omega)]; omega
    · rw [if_neg c, if_pos (by omega)]; omega
  have hpb : 0 ≤ p ∧ p < 4 := by rw [ep]; split <;> omega
  have eA : T 0 24 p = S 0 23 1 := by
    rw [g24]
    unfold rcA
    by_cases c : S 0 23 3 < 4
    · rw [if_pos c, ep, if_neg (by omega), up_eq rfl]
    · rw [if_neg c, ep, if_pos (by omega), up_eq rfl]
  unfold unS at hU
  rw [if_neg nz, ← hp] at hU
  have u23 : U 0 23 = up (up (T 0 23) 3 p) 0 (T 0 24 p) := by rw [hU, hr_at]
  have u24 : U 0 24 = up (T 0 24) p (T 0 23 0) := by rw [hU, hr_nc (by decide), hr_at]
  have uc : ∀ k c : Nat, ¬ c = 23 → ¬ c = 24 → U k c = T k c := fun k c c1 c2 => by rw [hU, hr_nc c1, hr_nc c2, hr_nc c1]
  have eV : unV T = p := by unfold unV; rw [if_neg nz]; exact hp.symm
  refine ⟨by rw [eV, ep], ⟨?_, by rw [u23, u24]; exact DsC_un hpb q1.2⟩, ?_, uc, ?_⟩
  · rw [u23, up_ne (by decide), up_eq rfl]; omega
  · unfold nw sp
    rw [u23, up_eq rfl, eA]
  · rw [u23, up_ne (by decide), up_eq rfl, eV]
/- offices that are the same in their places -/
set_option maxHeartbeats 4000000 in
set_option maxRecDepth 100000 in
theorem XO_eqo {O P : Of} (h : EqO O P) (hn : P 18 0 ≤ 150) (hX : XO P) : XO O := by
  obtain ⟨⟨a0, a1, a8, a9, a10⟩, b18, ⟨b21, b211⟩, c1, c3, c4, c6, c7, c8, c10, c11, c12, c13, c14, c15, c16, c17, c19, c20, c22⟩ := h
  obtain ⟨⟨x1, x2, x3⟩, x4⟩ := hX
  have ef : ∀ s : Int, 0 ≤ s → s < 600 → ∀ k : Nat, fb O s k = fb P s k := fun s s1 s2 k => by unfold fb; rw [c3 s s1 s2]
  have eu : ∀ s : Int, 0 ≤ s → s < 600 → unc O s = unc P s := fun s s1 s2 => by
    have f := ef s s1 s2
    unfold unc
    rw [f 8, f 9, f 10, f 11, f 12, f 13]
  have ep : ∀ s : Int, 0 ≤ s → s < 600 → pzO O s = pzO P s := fun s s1 s2 => pz_same (by rw [c3 s s1 s2]) (c6 _ (by omega) (by omega)) (fun c _ _ => c8 _ (by omega) (by omega))
  refine ⟨⟨?_, fun w w1 w2 => ?_, fun t t1 t2 h2 => ?_⟩, fun t t1 t2 hu => ?_⟩
  · have e : ctS O = ctS P := sm_congr (fun k hk => by rw [ctV_unc, ctV_unc, eu k (by omega) (by omega), ep k (by omega) (by omega)])
    rw [e, x1]
    unfold cbW s3
    rw [c14 0 (by omega) (by omega), c14 1 (by omega) (by omega), c14 2 (by omega) (by omega), a10]
  · rw [c16 w w1 w2, c17 w w1 w2, a0]
    exact x2 w w1 w2
  · have f := ef t t1 t2
    rw [f 2] at h2
    rw [f 8, f 9, f 10]
    exact x3 t t1 t2 h2
  · rw [eu t t1 t2] at hu
    rcases x4 t t1 t2 hu with g | ⟨i, w, i1, i2, w1, e1, e2⟩
    · exact Or.inl (by rw [ef t t1 t2]; exact g)
    · by_cases hi : i < 150
      · exact Or.inr ⟨i, w, by rw [b18]; exact i1, Or.inl i1.1, w1, by rw [c20 i i1.1 hi]; exact e1, by rw [ef t t1 t2]; exact e2⟩
      · omega
set_option maxHeartbeats 4000000 in
set_option maxRecDepth 100000 in
theorem EqO_sc {O P : Of} (h : ∀ c : Nat, c < 23 → O c = P c) : EqO O P := ⟨⟨by rw [h 0 (by decide)], by rw [h 0 (by decide)], by rw [h 0 (by decide)], by rw [h 0 (by decide)], by rw [h 0 (by decide)]⟩, by rw [h 18 (by decide)], ⟨by rw [h 21 (by decide)], by rw [h 21 (by decide)]⟩, fun j _ _ => by rw [h 1 (by decide)], fun j _ _ => by rw [h 3 (by decide)], fun j _ _ => by rw [h 4 (by decide)], fun j _ _ => by rw [h 6 (by decide)], fun j _ _ => by rw [h 7 (by decide)], fun j _ _ => by rw [h 8 (by decide)], fun j _ _ => by rw [h 10 (by decide)], fun j _ _ => by rw [h 11 (by decide)], fun j _ _ => by rw [h 12 (by decide)], fun j _ _ => by rw [h 13 (by decide)], fun j _ _ => by rw [h 14 (by decide)], fun j _ _ => by rw [h 15 (by decide)], fun j _ _ => by rw [h 16 (by decide)], fun j _ _ => by rw [h 17 (by decide)], fun j _ _ => by rw [h 19 (by decide)], fun j _ _ => by rw [h 20 (by decide)], fun j _ _ => by rw [h 22 (by decide)]⟩
set_option maxHeartbeats 4000000 in
set_option maxRecDepth 100000 in
theorem RR_18 {O : Of} {M : Int → Int} (h : RR O M) : 0 ≤ O 18 0 ∧ O 18 0 ≤ 150 := by
  have a := h.2.2.2.2.1.1
  have b := h.2.2.2.2.1.2.1
  omega
/- an office with its row -/
def GM (O : Of) (M : Int → Int) : Prop := Ok1 O M ∧ XO O
set_option maxHeartbeats 4000000 in
set_option maxRecDepth 100000 in
theorem GM_eqo {O P : Of} {M : Int → Int} (h : EqO O P) (hG : GM P M) : GM O M := ⟨⟨T1_eqo hG.1.1 h, hG.1.2⟩, XO_eqo h (RR_18 hG.1.1.1).2 hG.2⟩
set_option maxHeartbeats 4000000 in
set_option maxRecDepth 100000 in
theorem GM_sc {O P : Of} {M : Int → Int} (h : ∀ c : Nat, c < 23 → O c = P c) (hG : GM P M) : GM O M := GM_eqo (EqO_sc h) hG
set_option maxHeartbeats 4000000 in
set_option maxRecDepth 100000 in
theorem GM_cp {O X P : Of} {M : Int → Int} (h : ∀ c : Nat, c < 23 → O c = cpO X P c) (hG : GM P M) : GM O M := GM_sc h (GM_eqo (cpO_eq X P) hG)
