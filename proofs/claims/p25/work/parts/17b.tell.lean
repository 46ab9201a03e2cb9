/-! THE LAW'S FRAME: the contract of tell, the law's calls of it, the law's start -/
set_option maxHeartbeats 4000000 in
set_option maxRecDepth 100000 in
theorem dt_0 : decode (mB 98) 0 = .ok (.bipush 64, 2) := by decide +kernel
set_option maxHeartbeats 4000000 in
set_option maxRecDepth 100000 in
theorem dt_2 : decode (mB 98) 2 = .ok (.newarray .int, 2) := by decide +kernel
set_option maxHeartbeats 4000000 in
set_option maxRecDepth 100000 in
theorem dt_4 : decode (mB 98) 4 = .ok (.astore_n 1, 1) := by decide +kernel
def QtL (dC : Nat → ClassId) (dI : Nat → Nat → Nat) (al : Nat) (cyC cyI cyO : ClassId) (rho : Nat → Nat → Nat) (A : Nat → Prop) (S' : Hp) : Array Value → State → Outcome → State → Prop :=
  fun _ s o t => (∃ q : Nat, o = .returned (some (.ref q)) ∧ va_P (dC, dI) vwCl (wL (al + 1) cyC cyI cyO (rhoN rho al q) S') t.heap ∧ va_D A (wL (al + 1) cyC cyI cyO (rhoN rho al q) (fun _ _ _ => 0))) ∧ va_F A s t
def PtL (dC : Nat → ClassId) (dI : Nat → Nat → Nat) (al : Nat) (cyC cyI cyO : ClassId) (rho : Nat → Nat → Nat) (Bd Ln : Nat) (xs : Int → Int) (S : Hp) : Array Value → State → Prop :=
  va_Pc [cvv rho (.inr (0, 23))] (fun U => Bd ≤ U.heap.size ∧ va_P (dC, dI) vwCl (wL al cyC cyI cyO rho S) U.heap ∧ St0 dC dI cyC cyI cyO rho (fun q => Bd ≤ q) Ln xs U)
def rmT : Room := { frames := mF 98, cells := 1, slots := 64, locals := mLo 98 }
set_option maxHeartbeats 4000000 in
set_option maxRecDepth 100000 in
theorem St0_N {dC : Nat → ClassId} {dI : Nat → Nat → Nat} {cyC cyI cyO : ClassId} {rho : Nat → Nat → Nat} {A : Nat → Prop} {Ln al q : Nat} {xs : Int → Int} {U : State} (h : St0 dC dI cyC cyI cyO rho A Ln xs U) : St0 dC dI cyC cyI cyO (rhoN rho al q) A Ln xs U := by
  have e : ∀ c, 36 ≤ c → rhoN rho al q 0 c = rho 0 c := fun c hc => by
    unfold rhoN
    rw [if_neg (fun h => by omega)]
  obtain ⟨h1, h2, h3, h4⟩ := h
  refine ⟨h1, h2, fun c c1 c2 => ?_, ?_⟩
  · rw [e c c1]; exact h3 c c1 c2
  · rw [e 40 (by decide)]; exact h4
section TM
variable {l : Launch} {dC : Nat → ClassId} {dI : Nat → Nat → Nat} {al : Nat} {cyC cyI cyO : ClassId} {rho : Nat → Nat → Nat} {Bd Ln : Nat} {xs : Int → Int} {S S1 : Hp} {n : Nat}
set_option maxHeartbeats 4000000 in
set_option maxRecDepth 100000 in
theorem met_tell (hLn : Ln < 2147483648) (hAD : AD al cyC cyI cyO rho (fun q => Bd ≤ q)) (hS : StS Ln xs S)
    (hex : ex n 98 5 [some (.inr (0, 23)), some (.inr (al, 30)), none, none] [] (zr S al) = some (some (.inr (al, 30)), S1)) :
    Met l (mY 98) (.code (mY 98) (mB 98) (mL 98) (mR 98) :: GW) rmT (PtL dC dI al cyC cyI cyO rho Bd Ln xs S) (QtL dC dI al cyC cyI cyO rho (fun q => Bd ≤ q) S1) 1 64 (fun q => Bd ≤ q) := by
  refine Met.ofW (cc := mB 98) (maxL := mL 98) (ret := mR 98) (by decide +kernel) rfl ?_
  intro p e s mm args below meth c s₁ B hml hv
  obtain ⟨rfl, hBd, hP, hSt⟩ := hv
  have hts := atoms_spec (ws := .code (mY 98) (mB 98) (mL 98) (mR 98) :: GW) B.pre
  have hlocks := B.notSynchronized
  have hgw : ∀ w ∈ GW, w.before _ s = true := fun w hw => hts w (List.mem_cons_of_mem _ hw)
  rw [lg_entry_eq]
  have hl0 := LR_ini (rho := rho) (m := 98) (as := [.inr (0, 23)]) (by decide)
  obtain ⟨ls, hls⟩ : ∃ ls : Array Slot, ls = (lg_sl ([.inr (0, 23)].map (cvv rho)) ++ List.replicate (mL 98 - (lg_sl ([.inr (0, 23)].map (cvv rho))).length) Slot.unset).toArray := ⟨_, rfl⟩
  rw [← hls] at hl0
  show W p l e _ s mm _ below meth c s.heap [] 0 0 _ (F0 mm 0 (lg_sl ([.inr (0, 23)].map (cvv rho)) ++ List.replicate (mL 98 - (lg_sl ([.inr (0, 23)].map (cvv rho))).length) Slot.unset).toArray [])
  rw [← hls]
  have hA : ∀ q : Nat, s.heap.size ≤ q → (fun q : Nat => Bd ≤ q) q := fun q h => Nat.le_trans hBd h
  refine lv_bipush (v := 64) B.exec B.bytes dt_0 (by decide) ?_
  refine nw_arr (atype := .int) (ty := .int) (a0 := (64, .inl (fun _ : Nat => (0 : Int32)))) B.exec B.bytes (hgw _ (GW_in (i := 54) (w := .arrayClass .int) (by decide +kernel))) rfl hSt.1 hP (wL_D S hAD.2) va_S.rf hA 1 rfl (fun C h => by cases h) (fun cA => by first | rfl | exact congrArg (arrV cA 64) (funext fun j => rfl)) (by decide) (by decide) (by decide) (Nat.le_of_ble_eq_true rfl) (Nat.le_of_ble_eq_true rfl) dt_2 (fun q H hP hD hS2 => ?_)
  have hz := zr_St (al := al) hS
  have hzz : zr S al al 30 = fun _ => 0 := if_pos ⟨rfl, rfl⟩
  have ew := wL_N (al := al) (cyC := cyC) (cyI := cyI) (cyO := cyO) (rho := rho) (q := q) (S := zr S al) hz.1 hzz
  rw [wL_zr] at ew
  rw [← ew] at hP hD
  have hl1 : LR (rhoN rho al q) ls 4 [some (.inr (0, 23)), none, none, none] := by
    refine ⟨rfl, hl0.2.1, hl0.2.2.1, fun w hw => ?_⟩
    obtain ⟨v, h1, h2⟩ := lvL_of hw
    obtain ⟨i, x⟩ := w
    dsimp only at h1 h2
    subst h2
    match i, h1 with
    | 0, h1 =>
      cases h1
      rw [cvv_N (v := .inr (0, 23)) (Or.inl ⟨by decide, by rw [kK_lo (by decide)]; decide⟩)]
      exact hl0.2.2.2 _ (lvL_mem (i := 0) (v := .inr (0, 23)) rfl)
    | 1, h1 => cases h1
    | 2, h1 => cases h1
    | 3, h1 => cases h1
    | i + 4, h1 => simp at h1
  have e30 : cvv (rhoN rho al q) (.inr (al, 30)) = .ref q := by
    show Value.ref (rhoN rho al q al 30) = _
    unfold rhoN
    rw [if_pos ⟨rfl, rfl⟩]
  refine lv_astore_n (i := 1) B.exec B.bytes dt_4 rfl hl1.2 (by decide) rfl (fun ls2 hl2 => ?_)
  rw [← e30] at hl2
  have hl3 := LR_put (rho := rhoN rho al q) (ls' := ls2) (i := 1) (v := .inr (al, 30)) hl1.1 (by decide) hl2
  have hG := (snd (l := l) (dC := dC) (dI := dI) (al := al + 1) (cyC := cyC) (cyI := cyI) (cyO := cyO) (rho := rhoN rho al q) (A := fun q => Bd ≤ q) (Ln := Ln) (xs := xs) hLn n 98 5 _ _ _ _ _ hex (by decide) hz (fun i v hv => by
    match i, hv with
    | 0, hv => cases hv; exact Or.inl ⟨by decide, by rw [kK_lo (by decide)]; decide⟩
    | 1, hv => cases hv; exact Or.inl ⟨by show 30 < 36; decide, by show al < kK (al + 1) 30; rw [kK_30]; omega⟩
    | 2, hv => cases hv
    | 3, hv => cases hv
    | i + 4, hv => simp at hv) (fun v hv => by cases hv)).2
  have hro : ∀ c, 36 ≤ c → c < 41 → ¬ (fun q => Bd ≤ q) (rhoN rho al q 0 c) := fun c c1 c2 => by
    have e : rhoN rho al q 0 c = rho 0 c := by
      unfold rhoN
      rw [if_neg (fun h => by omega)]
    rw [e]
    exact hAD.1 c c1 c2
  refine hG p e rmT s mm _ below meth c H [] 1 64 _ ls2 ⟨B.exec, B.bytes, hml, findClass_of_methodNamed B.named, hgw, St0_N hSt, Nat.le_refl _, Nat.le_refl _, Nat.le_refl _, Nat.le_refl _, hro, wL_D _ hD⟩ hP hS2 hl3 ?_
  intro pc ls H locs hr hP1 hS1
  have hQ : ∀ t : State, t.heap = H → QtL dC dI al cyC cyI cyO rho (fun q => Bd ≤ q) S1 [cvv rho (.inr (0, 23))].toArray s (.returned (some (cvv (rhoN rho al q) (.inr (al, 30))))) t := fun t ht => ⟨⟨q, by rw [e30], by rw [ht]; exact hP1, wL_D _ hD⟩, hS1.F ht⟩
  rcases hr with ⟨z, hz, -⟩ | ⟨q', hq', hd, hz⟩ | ⟨hz, -⟩
  · cases hz
  · cases hq'
    exact W.aret B.exec B.bytes (B.returns.trans (show mR 98 = some (.array .int) from rfl)) (Or.inr ⟨_, rfl⟩) (Or.inr ⟨_, rfl⟩) (fun t ht hW => hQ t ht) hS1.2.2 hd
  · cases hz
section CL
variable {p : Program} {e : Env} {R : Room} {s : State} {m : MethodId} {args : Array Value} {below : List Frame} {meth : Method} {c : Code} {H : Heap} {locs : List Loc} {cells slots : Nat} {Q : State → Prop} {pc : Nat} {ls : Array Slot} {rest st0 : List Value}
set_option maxHeartbeats 4000000 in
set_option maxRecDepth 100000 in
theorem tell_go {a : Array Value} {A : Nat → Prop} (hr : va_Run p l e R s m args below meth c H locs cells slots 1 64 (F0 m pc ls st0) rest (QtL dC dI al cyC cyI cyO rho A S1 a) A) (hS : va_S A s.heap H locs)
    (kk : ∀ (q : Nat) (H1 : Heap) (locs1 : List Loc), va_P (dC, dI) vwCl (wL (al + 1) cyC cyI cyO (rhoN rho al q) S1) H1 → va_D A (wL (al + 1) cyC cyI cyO (rhoN rho al q) (fun _ _ _ => 0)) → va_S A s.heap H1 locs1 → W p l e R s m args below meth c H1 locs1 (cells + 1) (slots + 64) Q (F0 m (pc + 3) ls (.ref q :: rest))) : W p l e R s m args below meth c H locs cells slots Q (F0 m pc ls st0) := by
  intro T hT X
  obtain ⟨v, st₀, t, T', L, h0, X', hL, e1, e2, ⟨⟨q, hv, hp, hd⟩, hz, hk⟩, st⟩ := hr T hT X
  cases hv
  rw [h0] at hz hk
  obtain ⟨t2, a1, b1⟩ := kk q T'.heap (locs ++ L) (by rw [e1]; exact hp) hd
    ⟨Nat.le_trans hS.1 (by rw [e1]; exact hz), fun q h1 h2 => by rw [e1, hk q (Nat.lt_of_lt_of_le h1 hS.1) h2]; exact hS.2.1 q h1 h2, fun q hq => by
      rcases List.mem_append.mp hq with h | h
      · exact hS.2.2 q h
      · exact hL q h⟩ T' rfl X'
  exact ⟨t2, st t2 a1, b1⟩
end CL
end TM
set_option maxHeartbeats 4000000 in
set_option maxRecDepth 100000 in
theorem tl_blind {dC : Nat → ClassId} {dI : Nat → Nat → Nat} {al : Nat} {cyC cyI cyO : ClassId} {rho : Nat → Nat → Nat} {Bd Ln : Nat} {xs : Int → Int} {S : Hp} : FrameBlind (PtL dC dI al cyC cyI cyO rho Bd Ln xs S) := by
  intro a U g mk h
  obtain ⟨h1, h2, h3, h4⟩ := h
  exact ⟨h1, h2, h3, St0_calling h4 g mk a⟩
/-! THE LAW CALLS tell -/
set_option maxHeartbeats 4000000 in
set_option maxRecDepth 100000 in
theorem LW_tell {P : PT} {kk al pc i r3 : Nat} {L : Lc} {st : List MV} {S : Hp} (hC : mC 0 pc = some (.invokestatic i, 3, 98, 1, r3, 0)) (hpz : pc < mZ 0) (h8 : st.length ≤ 8)
    (h : Wp 98 5 [some (.inr (0, 23)), some (.inr (al, 30)), none, none] [] (zr S al) (fun v S1 => v = some (.inr (al, 30)) ∧ LW P kk (al + 1) (pc + 3) L (.inr (al, 30) :: st) S1)) :
    LW P (kk + 1) al pc L (.inr (0, 23) :: st) S := by
  obtain ⟨l, dC, dI, cyC, cyI, cyO, A, b, Ln, xs⟩ := P
  intro h260 rho hS hL hst
  have hLn : Ln < 2147483648 := by omega
  intro p e R s mm args below meth c0 H locs cells slots Q ls hC0 hP hS1 hl hK
  obtain ⟨hx, hb, hml, hown, hts, hSt, hf, hlo, hcs, hss, hAD⟩ := id hC0
  obtain ⟨rfl, rfl, rfl, C0, rfl, k1, k2⟩ := hK
  obtain ⟨n, v, S1, hex, rfl, hLW⟩ := h
  have hk := ck_all mN_pos hpz
  unfold ckAt at hk
  rw [hC] at hk
  simp only [Bool.and_eq_true, decide_eq_true_eq] at hk
  obtain ⟨hd, hlk⟩ := hk
  change decode (mB 0) pc = .ok (.invokestatic i, 3) at hd
  simp only [ckL, Bool.and_eq_true] at hlk
  rw [if_neg (by decide)] at hlk
  simp only [Bool.and_eq_true, ↓reduceIte] at hlk
  obtain ⟨⟨hck, hms⟩, hw⟩ := hlk
  simp only [ckCall, Bool.and_eq_true, decide_eq_true_eq] at hck
  obtain ⟨⟨⟨⟨⟨c0', c1⟩, c2⟩, c3⟩, c4⟩, c5⟩ := hck
  obtain ⟨z1, z2, z3, z4, z5⟩ := ckM_use c1 c2
  rw [hms] at z2
  simp only [↓reduceIte] at z2
  have hM := met_tell (l := l) (dC := dC) (dI := dI) (al := al) (cyC := cyC) (cyI := cyI) (cyO := cyO) (rho := rho) (Bd := s.heap.size) (Ln := Ln) (xs := xI xs) hLn hAD hS hex
  have hGI : GoodIn GW (.code (mY 98) (mB 98) (mL 98) (mR 98) :: GW) := fun w hw2 => by
    rcases List.mem_cons.mp hw2 with h | h
    · rw [h]; exact GW_good _ (GW_in z1)
    · exact GW_good w h
  have hPS : PreS s H (PtL dC dI al cyC cyI cyO rho s.heap.size Ln (xI xs) S) [cvv rho (.inr (0, 23))] := ⟨tl_blind, fun U hU hW => ⟨rfl, by rw [hU]; exact hS1.1, by rw [hU]; exact hP, St0_next hSt hAD.1 hS1 hU hW⟩⟩
  have hrun : va_Run p l e room_1 s mm #[Value.ref b] below meth c0 H locs cells slots 1 64 (F0 mm pc ls ((.inr (0, 23) :: st).map (cvv rho))) (st.map (cvv rho)) (QtL dC dI al cyC cyI cyO rho (fun q => s.heap.size ≤ q) S1 [cvv rho (.inr (0, 23))].toArray) (fun q => s.heap.size ≤ q) :=
    va_runS (n := 1) ⟨hx, hb, hml, hown, hts⟩ hM ⟨callB_of 1 hts hGI rfl rfl rfl (hts _ (GW_in z3)) (hts _ (GW_in hw)) ⟨z4, z5, c5⟩ ⟨Nat.le_trans c3 hf, Nat.le_trans c4 hlo⟩, hts _ (GW_in z2)⟩ hPS rfl rfl hl.2.1 (by simp) (lv_room (by rw [sum_cat]; exact h8)) hd ⟨by show cells + 1 ≤ 600000; omega, by show slots + 64 ≤ 7302249; omega⟩
  have hL2 : StS Ln (xI xs) S1 ∧ _ := (snd (l := l) (dC := dC) (dI := dI) (al := al + 1) (cyC := cyC) (cyI := cyI) (cyO := cyO) (rho := rho) (A := fun q => s.heap.size ≤ q) (Ln := Ln) (xs := xI xs) hLn n 98 5 _ _ _ _ _ hex (by decide) (zr_St hS) (fun i v hv => by
    match i, hv with
    | 0, hv => cases hv; exact Or.inl ⟨by decide, by rw [kK_lo (by decide)]; decide⟩
    | 1, hv => cases hv; exact Or.inl ⟨by show 30 < 36; decide, by show al < kK (al + 1) 30; rw [kK_30]; omega⟩
    | 2, hv => cases hv
    | 3, hv => cases hv
    | i + 4, hv => simp at hv) (fun v hv => by cases hv)).1
  refine tell_go hrun hS1 (fun q H1 locs1 hP1 hD1 hS2 => ?_)
  have hro : ∀ c, 36 ≤ c → c < 41 → ¬ (fun q => s.heap.size ≤ q) (rhoN rho al q 0 c) := fun c c1 c2 => by
    have e : rhoN rho al q 0 c = rho 0 c := by
      unfold rhoN
      rw [if_neg (fun h => by omega)]
    rw [e]
    exact hAD.1 c c1 c2
  have hst1 : ∀ v ∈ st, vM al v := fun v hv => hst v (List.mem_cons_of_mem _ hv)
  have hg := hLW h260 (rhoN rho al q) hL2.1 (fun i v hv => vM_s (hL i v hv)) (fun v hv => by
    rcases List.mem_cons.mp hv with rfl | hv
    · exact Or.inl ⟨by show 30 < 36; decide, by show al < kK (al + 1) 30; rw [kK_30]; omega⟩
    · exact vM_s (hst1 v hv))
  have h9 := hg p e room_1 s mm _ below meth c0 H1 locs1 (cells + 1) (slots + 64) _ ls ⟨hx, hb, hml, hown, hts, St0_N hSt, hf, hlo, by show cells + 1 ≤ 600000; omega, by show slots + 64 ≤ 7302249; omega, hro, hD1⟩ hP1 hS2 ⟨hl.1, hl.2.1, hl.2.2.1, fun w hw => by
    obtain ⟨v, g1, g2⟩ := lvL_of hw
    obtain ⟨i, x⟩ := w
    dsimp only at g1 g2
    subst g2
    rw [cvv_N (hL i v g1)]
    exact hl.2.2.2 _ (lvL_mem g1)⟩ ⟨rfl, rfl, rfl, C0, rfl, by omega, by omega⟩
  have e30 : cvv (rhoN rho al q) (.inr (al, 30)) = .ref q := by
    show Value.ref (rhoN rho al q al 30) = _
    unfold rhoN
    rw [if_pos ⟨rfl, rfl⟩]
  rw [List.map_cons, e30] at h9
  have e31 : st.map (cvv (rhoN rho al q)) = st.map (cvv rho) := List.map_congr_left fun v hv => cvv_N (hst1 v hv)
  rw [e31] at h9
  exact h9
