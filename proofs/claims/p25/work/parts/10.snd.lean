/-! THE SMALL MACHINE IS TRUE: the whole of it, calls included -/
def rmm (m : Nat) : Room := { frames := mF m, cells := 0, slots := 0, locals := mLo m }
def QcR (dC : Nat → ClassId) (dI : Nat → Nat → Nat) (al : Nat) (cyC cyI cyO : ClassId) (rho : Nat → Nat → Nat) (A : Nat → Prop) (r : Option MV) (S' : Hp) : Array Value → State → Outcome → State → Prop :=
  fun _ s o t => (o = .returned (r.map (cvv rho)) ∧ va_P (dC, dI) vwCl (wL al cyC cyI cyO rho S') t.heap) ∧ va_F A s t
def PcR (dC : Nat → ClassId) (dI : Nat → Nat → Nat) (al : Nat) (cyC cyI cyO : ClassId) (rho : Nat → Nat → Nat) (A : Nat → Prop) (Ln : Nat) (xs : Int → Int) (as : List MV) (S : Hp) : Array Value → State → Prop :=
  va_Pc (as.map (cvv rho)) (fun U => va_P (dC, dI) vwCl (wL al cyC cyI cyO rho S) U.heap ∧ St0 dC dI cyC cyI cyO rho A Ln xs U)
section SND
variable {l : Launch} {dC : Nat → ClassId} {dI : Nat → Nat → Nat} {al : Nat} {cyC cyI cyO : ClassId} {rho : Nat → Nat → Nat} {A : Nat → Prop} {Ln : Nat} {xs : Int → Int}
theorem PcR_blind (as : List MV) (S : Hp) : FrameBlind (PcR dC dI al cyC cyI cyO rho A Ln xs as S) := by
  intro a U g mk h
  obtain ⟨h1, h2, h3⟩ := h
  exact ⟨h1, h2, St0_calling h3 g mk a⟩
theorem lg_sl_1 (rho : Nat → Nat → Nat) : ∀ (as : List MV), lg_sl (as.map (cvv rho)) = as.map (fun v => Slot.val (cvv rho v))
  | [] => rfl
  | v :: as => by
    show (if (cvv rho v).category = 2 then _ else _) ++ lg_sl (as.map (cvv rho)) = _
    rw [cvv_cat, lg_sl_1 rho as]
    rfl
theorem lv_args_1 (rho : Nat → Nat → Nat) : ∀ (as : List MV) (i j : Nat) (v : MV), as[j]? = some v → (i + j, cvv rho v) ∈ lv_args i (as.map (cvv rho))
  | [], i, j, v, h => by simp at h
  | w :: as, i, 0, v, h => by
    simp at h
    subst h
    exact List.mem_cons_self
  | w :: as, i, j + 1, v, h => by
    rw [List.getElem?_cons_succ] at h
    have h1 := lv_args_1 rho as (i + 1) j v h
    show _ ∈ (i, cvv rho w) :: lv_args (if (cvv rho w).category = 2 then i + 2 else i + 1) (as.map (cvv rho))
    rw [cvv_cat]
    refine List.mem_cons_of_mem _ ?_
    have e : i + (j + 1) = i + 1 + j := by omega
    rw [e]
    exact h1
theorem ini_some {m : Nat} {as : List MV} {i : Nat} {v : MV} (h : (ini m as)[i]? = some (some v)) : as[i]? = some v := by
  unfold ini at h
  rw [List.getElem?_append] at h
  split at h
  · rw [List.getElem?_map] at h
    cases h2 : as[i]? with
    | none => rw [h2] at h; cases h
    | some w => rw [h2] at h; cases h; rfl
  · rw [List.getElem?_replicate] at h
    split at h <;> simp at h
theorem LR_ini {m : Nat} {as : List MV} (h : as.length ≤ mL m) : LR rho ((lg_sl (as.map (cvv rho)) ++ List.replicate (mL m - (lg_sl (as.map (cvv rho))).length) Slot.unset).toArray) (mL m) (ini m as) := by
  have hle : (lg_sl (as.map (cvv rho))).length ≤ mL m := by rw [lg_sl_1, List.length_map]; exact h
  have h1 := lv_entry (as.map (cvv rho)) hle
  refine ⟨by unfold ini; simp; omega, h1.1, h1.2.1, fun q hq => ?_⟩
  obtain ⟨v, h2, h3⟩ := lvL_of hq
  obtain ⟨i, w⟩ := q
  dsimp only at h2 h3
  subst h3
  refine h1.2.2 _ ?_
  have h4 := lv_args_1 rho as 0 i v (ini_some h2)
  rw [Nat.zero_add] at h4
  exact h4
theorem met_of {m : Nat} {as : List MV} {S S' : Hp} {r : Option MV} (hAD : AD al cyC cyI cyO rho A) (hm : m < mN) (h0 : 0 < m) (hlen : as.length ≤ mL m) (hg : Gd l dC dI al cyC cyI cyO rho A Ln xs m (Rh l dC dI al cyC cyI cyO rho A m r S') 0 (ini m as) [] S) :
    Met l (mY m) (.code (mY m) (mB m) (mL m) (mR m) :: GW) (rmm m) (PcR dC dI al cyC cyI cyO rho A Ln xs as S) (QcR dC dI al cyC cyI cyO rho A r S') 0 0 A := by
  have hz := cz_all hm
  have hpn : plainName (mY m).cls = true := by
    unfold ckM at hz
    have h1 : ¬ m = 0 := by omega
    simp only [h1, decide_false, Bool.false_or, Bool.and_eq_true] at hz
    exact hz.1.1.2
  refine Met.ofW (cc := mB m) (maxL := mL m) (ret := mR m) hpn rfl ?_
  intro p e s mm args below meth c s₁ B hml hv
  obtain ⟨rfl, hP, hSt⟩ := hv
  have hts := atoms_spec (ws := .code (mY m) (mB m) (mL m) (mR m) :: GW) B.pre
  have hlocks := B.notSynchronized
  rw [lg_entry_eq]
  refine hg p e _ s mm _ below meth c s.heap [] 0 0 _ _ ⟨B.exec, B.bytes, hml, findClass_of_methodNamed B.named, fun w hw => hts w (List.mem_cons_of_mem _ hw), hSt, Nat.le_refl _, Nat.le_refl _, Nat.zero_le _, Nat.zero_le _, hAD⟩ hP va_S.rf (LR_ini hlen) ?_
  intro pc ls H locs hr hP1 hS1
  have hQ : ∀ t : State, t.heap = H → QcR dC dI al cyC cyI cyO rho A r S' (as.map (cvv rho)).toArray s (.returned (r.map (cvv rho))) t := fun t ht => ⟨⟨rfl, by rw [ht]; exact hP1⟩, hS1.F ht⟩
  rcases hr with ⟨z, rfl, hd, hz | ⟨hz, hz2⟩⟩ | ⟨q, rfl, hd, hz⟩ | ⟨rfl, hd, hz⟩
  · exact W.iret B.exec B.bytes (B.returns.trans hz) (fun t ht hW => hQ t ht) hS1.2.2 hd
  · refine W.zret (ty := .boolean) B.exec B.bytes (B.returns.trans hz) ?_ (fun t ht hW => hQ t ht) hS1.2.2 hd
    rcases hz2 with rfl | rfl <;> rfl
  · rcases hz with ⟨n, hz⟩ | ⟨n, hz⟩
    · exact W.aret B.exec B.bytes (B.returns.trans hz) (Or.inl ⟨n, rfl⟩) (Or.inr ⟨_, rfl⟩) (fun t ht hW => hQ t ht) hS1.2.2 hd
    · exact W.aret B.exec B.bytes (B.returns.trans hz) (Or.inr ⟨n, rfl⟩) (Or.inr ⟨_, rfl⟩) (fun t ht hW => hQ t ht) hS1.2.2 hd
  · exact W.vret B.exec B.bytes (B.returns.trans hz) (fun t ht hW => hQ t ht) hS1.2.2 hd
section CALL
variable {p : Program} {e : Env} {R : Room} {s : State} {m : MethodId} {args : Array Value} {below : List Frame} {meth : Method} {c : Code} {H : Heap} {locs : List Loc} {cells slots : Nat} {Q : State → Prop} {pc : Nat} {ls : Array Slot} {rest st0 : List Value}
theorem call_go {r : Option MV} {S' : Hp} {a : Array Value} (hr : va_Run p l e R s m args below meth c H locs cells slots 0 0 (F0 m pc ls st0) rest (QcR dC dI al cyC cyI cyO rho A r S' a) A) (hS : va_S A s.heap H locs)
    (kk : ∀ (H1 : Heap) (locs1 : List Loc), va_P (dC, dI) vwCl (wL al cyC cyI cyO rho S') H1 → va_S A s.heap H1 locs1 → W p l e R s m args below meth c H1 locs1 cells slots Q (F0 m (pc + 3) ls ((r.map (cvv rho)).toList ++ rest))) : W p l e R s m args below meth c H locs cells slots Q (F0 m pc ls st0) := by
  intro T hT X
  obtain ⟨v, st₀, t, T', L, h0, X', hL, e1, e2, ⟨⟨hv, hp⟩, hz, hk⟩, st⟩ := hr T hT X
  cases hv
  rw [h0] at hz hk
  obtain ⟨t2, a1, b1⟩ := kk T'.heap (locs ++ L) (by rw [e1]; exact hp)
    ⟨Nat.le_trans hS.1 (by rw [e1]; exact hz), fun q h1 h2 => by rw [e1, hk q (Nat.lt_of_lt_of_le h1 hS.1) h2]; exact hS.2.1 q h1 h2, fun q hq => by
      rcases List.mem_append.mp hq with h | h
      · exact hS.2.2 q h
      · exact hL q h⟩ T' rfl X'
  exact ⟨t2, st t2 a1, b1⟩
end CALL
variable {mi pc : Nat} {KK : KT} {r r1 : Option MV} {S S' S1 : Hp} {L : Lc} {st : List MV}
theorem ckM_use {m : Nat} (hm : m < mN) (h0 : 0 < m) : wAt (mP m).1 (.code (mY m) (mB m) (mL m) (mR m)) = true ∧ (if mS m = true then wAt (mP m).2.1 (.static (mY m)) else wAt (mP m).2.1 (.instanceMethod (mY m)) && wAt (mP m).2.2.1 (.selects (mY m).cls (mY m) (mY m)) && decide (oR (mT m) = (mY m).cls) && decide (kT (mT m) = 1) && decide (mT m < 36)) = true ∧
    wAt (mP m).2.2.2 (.initialized (mY m).cls) = true ∧ (mY m).cls ≠ "java/lang/invoke/MethodHandle" ∧ (mY m).cls ≠ "java/lang/invoke/VarHandle" := by
  have hz := cz_all hm
  unfold ckM at hz
  have h1 : ¬ m = 0 := by omega
  simp only [h1, decide_false, Bool.false_or, Bool.and_eq_true] at hz
  obtain ⟨⟨⟨⟨⟨z1, z2⟩, z3⟩, z4⟩, z5⟩, z6⟩ := hz
  exact ⟨z1, by simpa only [Bool.and_eq_true] using z2, z3, of_decide_eq_true z5, of_decide_eq_true z6⟩
theorem sum_cat (rho : Nat → Nat → Nat) : ∀ (st : List MV), ((st.map (cvv rho)).map fun v => v.category).sum = st.length
  | [] => rfl
  | v :: st => by
    rw [List.map_cons, List.map_cons, List.sum_cons, cvv_cat, sum_cat rho st, List.length_cons]
    omega
theorem gd_callV {i m rr n k : Nat} {as : List MV} (hd : decode (mB mi) pc = .ok (.invokevirtual i, 3)) (hck : ckCall mi m n = true) (hms : mS m = false) (hw : wAt rr (.methodLink (mO mi) i (mY m)) = true) (hk : k < kK al (mT m)) (hn : as.length = n) (h8 : st.length ≤ 8)
    (hS : StS Ln xs S) (hg : Gd l dC dI al cyC cyI cyO rho A Ln xs m (Rh l dC dI al cyC cyI cyO rho A m r1 S1) 0 (ini m (.inr (k, mT m) :: as)) [] S) (kg : Gd l dC dI al cyC cyI cyO rho A Ln xs mi KK (pc + 3) L (r1.toList ++ st) S1) :
    Gd l dC dI al cyC cyI cyO rho A Ln xs mi KK pc L (as.reverse ++ .inr (k, mT m) :: st) S := by
  intro p e R s mm args below meth c0 H locs cells slots Q ls hC hP hS1 hl hR
  obtain ⟨hx, hb, hml, hown, hts, hSt, hf, hlo, hcs, hss, hAD⟩ := id hC
  simp only [ckCall, Bool.and_eq_true, decide_eq_true_eq] at hck
  obtain ⟨⟨⟨⟨⟨c0', c1⟩, c2⟩, c3⟩, c4⟩, c5⟩ := hck
  rw [hms] at c0'
  obtain ⟨z1, z2, z3, z4, z5⟩ := ckM_use c1 c2
  rw [hms] at z2
  simp only [Bool.and_eq_true, decide_eq_true_eq, Bool.false_eq_true, ↓reduceIte] at z2
  obtain ⟨⟨⟨⟨z6, z7⟩, z8⟩, z9⟩, z10⟩ := z2
  obtain ⟨q0, -, hq⟩ := wL_get (al := al) (cyC := cyC) (cyI := cyI) (cyO := cyO) (rho := rho) S z10 hk
  rw [cE_obj z9] at hq
  have hrecv := va_recv hSt.1 hP (ob_ok _ z10 z9).1 hq
  dsimp only at hrecv
  rw [z8] at hrecv
  have hM := met_of (l := l) (A := A) (Ln := Ln) (xs := xs) (dC := dC) (dI := dI) hAD c1 c2 (al := al) (as := .inr (k, mT m) :: as) (S := S) (S' := S1) (r := r1) (by rw [List.length_cons]; simp at c0'; omega) hg
  have hcw : CallW R s args (mO mi) (mY m).cls i (mY m) (mB m) (mL m) (mR m) (.code (mY m) (mB m) (mL m) (mR m) :: GW) (rmm m) 0 0 n :=
    ⟨callB_of n hts (fun w hw2 => by
      rcases List.mem_cons.mp hw2 with h | h
      · rw [h]; exact GW_good _ (GW_in z1)
      · exact GW_good w h) rfl rfl rfl (hts _ (GW_in z3)) (hts _ (GW_in hw)) ⟨z4, z5, c5⟩ ⟨Nat.le_trans c3 hf, Nat.le_trans c4 hlo⟩, hts _ (GW_in z6), hts _ (GW_in z7)⟩
  have hrun := va_runV (l := l) (e := e) (below := below) (meth := meth) (locs := locs) (cells := cells) (slots := slots) (b := rho k (mT m)) (As := as.map (cvv rho)) (rest := st.map (cvv rho)) (g := F0 mm pc ls ((as.reverse ++ .inr (k, mT m) :: st).map (cvv rho)))
    ⟨hx, hb, hml, hown, hts⟩ hM hcw ⟨PcR_blind _ _, hrecv, fun U hU hW => ⟨rfl, by rw [hU]; exact hP, St0_next hSt hAD.1 hS1 hU hW⟩⟩ rfl (by rw [List.length_map]; exact hn) hl.2.1 (by simp [cvv]) (lv_room (by rw [sum_cat]; exact h8)) hd ⟨hcs, hss⟩
  refine call_go hrun hS1 (fun H1 locs1 hP1 hS2 => ?_)
  have h9 := kg p e R s mm args below meth c0 H1 locs1 cells slots Q ls hC hP1 hS2 hl hR
  rw [List.map_append] at h9
  have e9 : (r1.toList).map (cvv rho) = (r1.map (cvv rho)).toList := by cases r1 <;> rfl
  rw [e9] at h9
  exact h9
theorem gd_callS {i m rr r4 n : Nat} {as : List MV} (hd : decode (mB mi) pc = .ok (.invokestatic i, 3)) (hck : ckCall mi m n = true) (hms : mS m = true)
    (hw : (if r4 = 0 then wAt rr (.methodLink (mO mi) i (mY m)) else decide (r4 = 1) && wNt rr (.methodLinkNest (mO mi) i (mY m) "TicketWindows")) = true) (hn : as.length = n) (h8 : st.length ≤ 8)
    (hS : StS Ln xs S) (hg : Gd l dC dI al cyC cyI cyO rho A Ln xs m (Rh l dC dI al cyC cyI cyO rho A m r1 S1) 0 (ini m as) [] S) (kg : Gd l dC dI al cyC cyI cyO rho A Ln xs mi KK (pc + 3) L (r1.toList ++ st) S1) :
    Gd l dC dI al cyC cyI cyO rho A Ln xs mi KK pc L (as.reverse ++ st) S := by
  intro p e R s mm args below meth c0 H locs cells slots Q ls hC hP hS1 hl hR
  obtain ⟨hx, hb, hml, hown, hts, hSt, hf, hlo, hcs, hss, hAD⟩ := id hC
  simp only [ckCall, Bool.and_eq_true, decide_eq_true_eq] at hck
  obtain ⟨⟨⟨⟨⟨c0', c1⟩, c2⟩, c3⟩, c4⟩, c5⟩ := hck
  rw [hms] at c0'
  obtain ⟨z1, z2, z3, z4, z5⟩ := ckM_use c1 c2
  rw [hms] at z2
  simp only [↓reduceIte] at z2
  have hM := met_of (l := l) (A := A) (Ln := Ln) (xs := xs) (dC := dC) (dI := dI) (al := al) hAD c1 c2 (as := as) (S := S) (S' := S1) (r := r1) (by simp at c0'; omega) hg
  have hGI : GoodIn GW (.code (mY m) (mB m) (mL m) (mR m) :: GW) := fun w hw2 => by
    rcases List.mem_cons.mp hw2 with h | h
    · rw [h]; exact GW_good _ (GW_in z1)
    · exact GW_good w h
  have hPS : PreS s H (PcR dC dI al cyC cyI cyO rho A Ln xs as S) (as.map (cvv rho)) := ⟨PcR_blind _ _, fun U hU hW => ⟨rfl, by rw [hU]; exact hP, St0_next hSt hAD.1 hS1 hU hW⟩⟩
  have hrun : va_Run p l e R s mm args below meth c0 H locs cells slots 0 0 (F0 mm pc ls ((as.reverse ++ st).map (cvv rho))) (st.map (cvv rho)) (QcR dC dI al cyC cyI cyO rho A r1 S1 (as.map (cvv rho)).toArray) A := by
    split at hw
    · exact va_runS (n := n) ⟨hx, hb, hml, hown, hts⟩ hM ⟨callB_of n hts hGI rfl rfl rfl (hts _ (GW_in z3)) (hts _ (GW_in hw)) ⟨z4, z5, c5⟩ ⟨Nat.le_trans c3 hf, Nat.le_trans c4 hlo⟩, hts _ (GW_in z2)⟩ hPS rfl (by rw [List.length_map]; exact hn) hl.2.1 (by simp) (lv_room (by rw [sum_cat]; exact h8)) hd ⟨hcs, hss⟩
    · simp only [Bool.and_eq_true, wNt, decide_eq_true_eq] at hw
      exact va_runSN (n := n) ⟨hx, hb, hml, hown, hts⟩ hM ⟨va_cnB n hts hGI rfl rfl rfl (hSt.2.1 _ _ hw.2 rfl) (hts _ (GW_in z3)) ⟨z4, z5, c5⟩ ⟨Nat.le_trans c3 hf, Nat.le_trans c4 hlo⟩, hts _ (GW_in z2), trivial⟩ hPS rfl (by rw [List.length_map]; exact hn) hl.2.1 (by simp) (lv_room (by rw [sum_cat]; exact h8)) hd ⟨hcs, hss⟩
  refine call_go hrun hS1 (fun H1 locs1 hP1 hS2 => ?_)
  have h9 := kg p e R s mm args below meth c0 H1 locs1 cells slots Q ls hC hP1 hS2 hl hR
  rw [List.map_append] at h9
  have e9 : (r1.toList).map (cvv rho) = (r1.map (cvv rho)).toList := by cases r1 <;> rfl
  rw [e9] at h9
  exact h9
end SND
