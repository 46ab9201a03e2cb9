/-! THE SMALL MACHINE IS TRUE: fields, arrays, switches, returns -/
theorem ob_ok : ∀ c, c < 36 → kT c = 1 → vwCl[kN c]? = some (oR c, oT c, (kF c).length) ∧ ((u_ws (oR c) (oT c) (kF c).length).all (fun w => decide (w ∈ lw_tbl) && goodWord w)) = true ∧ (∀ k, k < (kF c).length → parseFieldDescriptor (oT c k).2.2.1 = some (oTy c k)) ∧ (∀ a, a < (kF c).length → ∀ b, b < (kF c).length → a ≠ b → (oT c a).2.1 ≠ (oT c b).2.1) := by
  have key : ∀ c ∈ [0, 2, 5, 9, 18, 21, 23, 25], ((u_ws (oR c) (oT c) (kF c).length).all (fun w => decide (w ∈ lw_tbl) && goodWord w)) = true ∧ (∀ k, k < (kF c).length → parseFieldDescriptor (oT c k).2.2.1 = some (oTy c k)) ∧ (∀ a, a < (kF c).length → ∀ b, b < (kF c).length → a ≠ b → (oT c a).2.1 ≠ (oT c b).2.1) := by decide +kernel
  have hm : ∀ c, c < 36 → kT c = 1 → c ∈ [0, 2, 5, 9, 18, 21, 23, 25] := by decide +kernel
  intro c hc h1
  refine ⟨?_, key c (hm c hc h1)⟩
  have h2 := hm c hc h1
  simp only [List.mem_cons, List.not_mem_nil, or_false] at h2
  rcases h2 with rfl | rfl | rfl | rfl | rfl | rfl | rfl | rfl <;> rfl
theorem ob_in {c : Nat} (hc : c < 36) (h1 : kT c = 1) : ∀ w ∈ u_ws (oR c) (oT c) (kF c).length, w ∈ GW := by
  intro w hw
  have h2 := List.all_eq_true.mp (ob_ok c hc h1).2.1 w hw
  simp only [Bool.and_eq_true, decide_eq_true_eq] at h2
  exact List.mem_filter.mpr h2
theorem hu_off {S : Hp} {k c : Nat} {j v : Int} : ∀ k' c', ¬ (k' = k ∧ c' = c) → ∀ i, hu S k c j v k' c' i = S k' c' i := by
  intro k' c' h i
  unfold hu
  rw [if_neg (fun q => h ⟨q.1, q.2.1⟩)]
theorem hcp_off {S : Hp} {k1 c1 k c : Nat} {sp dp n : Int} : ∀ k' c', ¬ (k' = k ∧ c' = c) → ∀ i, hcp S k1 c1 sp k c dp n k' c' i = S k' c' i := by
  intro k' c' h i
  unfold hcp
  rw [if_neg (fun q => h ⟨q.1, q.2.1⟩)]
theorem hu_at {S : Hp} {k c : Nat} {j v i : Int} : hu S k c j v k c i = if i = j then v else S k c i := by
  unfold hu
  by_cases h : i = j <;> simp [h]
/-- an object's row of values, one of them put -/
theorem map_set {f g : Nat → Value} {n k : Nat} (hk : k < n) (h : ∀ j, j ≠ k → g j = f j) : ((List.range n).map f).set k (g k) = (List.range n).map g := by
  apply List.ext_getElem?
  intro i
  rw [List.getElem?_set, List.getElem?_map, List.getElem?_map]
  by_cases hi : k = i
  · subst hi
    simp [hk]
  · rw [if_neg hi]
    by_cases h2 : i < n
    · rw [List.getElem?_range h2]
      show some _ = some _
      rw [h i (fun e => hi e.symm)]
    · rw [List.getElem?_eq_none (by simpa using h2)]
      rfl
theorem kT_lt : ∀ c, kT c = 1 ∨ kT c = 2 ∨ kT c = 3 ∨ kT c = 4 → c < 36 := by
  intro c h
  by_cases h1 : c < 41
  · have key : ∀ c, c < 41 → (kT c = 1 ∨ kT c = 2 ∨ kT c = 3 ∨ kT c = 4) → c < 36 := by decide +kernel
    exact key c h1 h
  · have h2 : kT c = 0 := by
      unfold kT
      repeat (first | rw [if_neg (by omega)])
    omega
theorem kL_kN : ∀ c, c < 36 → kT c = 2 ∨ kT c = 3 ∨ kT c = 4 → kL c = kN c ∧ kN c < 2147483648 := by decide +kernel
theorem kT_5 : ∀ c, c < 41 → kT c = 5 → (36 ≤ c ∧ c < 40) ∧ kL c = kN c ∧ kN c < 100 := by decide +kernel
theorem kT_6 : ∀ c, c < 41 → kT c = 6 → c = 40 := by decide +kernel
section SND
variable {l : Launch} {dC : Nat → ClassId} {dI : Nat → Nat → Nat} {al : Nat} {cyC cyI cyO : ClassId} {rho : Nat → Nat → Nat} {A : Nat → Prop} {Ln : Nat} {xs : Int → Int}
variable {mi pc : Nat} {KK : KT} {r : Option MV} {S S' : Hp} {L : Lc} {st : List MV}
theorem cE_obj {k c : Nat} (h : kT c = 1) : cE cyC cyI cyO rho S k c = .inr (kN c, (List.range (kF c).length).map (fun j => cvv rho (fM S k c j))) := by
  unfold cE; rw [if_pos h]
theorem cE_int {k c : Nat} (h : kT c = 2) : cE cyC cyI cyO rho S k c = .inl (cyI, kN c, .inl (fun j => Int32.ofInt (S k c j))) := by
  unfold cE; rw [if_neg (by omega), if_neg (by omega), if_neg (by omega)]
theorem cE_chr {k c : Nat} (h : kT c = 3) : cE cyC cyI cyO rho S k c = .inl (cyC, kN c, .inl (fun j => Int32.ofInt (S k c j))) := by
  unfold cE; rw [if_neg (by omega), if_pos h]
theorem cE_off {k c : Nat} (h : kT c = 4) : cE cyC cyI cyO rho S k c = .inl (cyO, kN c, .inr (.inr (.inr (.inr (fun j => some (rho (S k c j).toNat 0)))))) := by
  unfold cE; rw [if_neg (by omega), if_neg (by omega), if_pos h]
theorem gd_getfield {i k c j q rr : Nat} (hd : decode (mB mi) pc = .ok (.getfield i, 3)) (h1 : kT c = 1) (hc : c < 36) (hk : k < kK al c) (hq : (kF c)[j]? = some q) (hw : wAt rr (.fieldLink (mO mi) i (oT c j).1 (oT c j).2.1 (oT c j).2.2.1) = true)
    (kg : Gd l dC dI al cyC cyI cyO rho A Ln xs mi KK (pc + 3) L (fM S k c j :: st) S) : Gd l dC dI al cyC cyI cyO rho A Ln xs mi KK pc L (.inr (k, c) :: st) S := by
  intro p e R s m args below meth c0 H locs cells slots Q ls hC hP hS hl hR
  obtain ⟨hx, hb, hml, hown, hts, hSt, hf, hlo, hcs, hss, hAD⟩ := id hC
  obtain ⟨q0, -, hg⟩ := wL_get (al := al) (cyC := cyC) (cyI := cyI) (cyO := cyO) (rho := rho) S hc hk
  rw [cE_obj h1] at hg
  obtain ⟨o1, -, o3, o4⟩ := ob_ok c hc h1
  have hj : j < (kF c).length := (List.getElem?_eq_some_iff.mp hq).1
  exact va_get hx hb hts (ob_in hc h1) hown hSt.1 hP q0 hg o1 j hj (hts _ (GW_in hw)) (fun _ h9 => h9) (by rw [List.getElem?_map, List.getElem?_range hj]; rfl) hd
    (kg p e R s m args below meth c0 H locs cells slots Q ls hC hP hS hl hR)
theorem gd_putfield {i k c j q rr : Nat} {v : MV} {ty : FieldType} (hd : decode (mB mi) pc = .ok (.putfield i, 3)) (h1 : kT c = 1) (hc : c < 36) (hk : k < kK al c) (hq : (kF c)[j]? = some q) (hw : wAt rr (.fieldLink (mO mi) i (oT c j).1 (oT c j).2.1 (oT c j).2.2.1) = true)
    (hfin : (oT c j).2.2.2 = false) (hty : parseFieldDescriptor (oT c j).2.2.1 = some ty) (hn : narrow ty (cvv rho v) = cvv rho v) (hfit : fits ty (cvv rho v) = true) {S2 : Hp} (hv : cvv rho (fM S2 k c j) = cvv rho v)
    (ho : ∀ k' c', ¬ (k' = k ∧ c' = c) → ∀ i, S2 k' c' i = S k' c' i) (ho2 : ∀ i : Nat, i ≠ j → S2 k c i = S k c i)
    (kg : Gd l dC dI al cyC cyI cyO rho A Ln xs mi KK (pc + 3) L st S2) : Gd l dC dI al cyC cyI cyO rho A Ln xs mi KK pc L (v :: .inr (k, c) :: st) S := by
  intro p e R s m args below meth c0 H locs cells slots Q ls hC hP hS hl hR
  obtain ⟨hx, hb, hml, hown, hts, hSt, hf, hlo, hcs, hss, hAD⟩ := id hC
  obtain ⟨q0, hi0, hg⟩ := wL_get (al := al) (cyC := cyC) (cyI := cyI) (cyO := cyO) (rho := rho) S hc hk
  have hset := wL_set (al := al) (cyC := cyC) (cyI := cyI) (cyO := cyO) (rho := rho) hi0 ho
  rw [cE_obj h1] at hg hset
  obtain ⟨o1, -, o3, o4⟩ := ob_ok c hc h1
  have hj : j < (kF c).length := (List.getElem?_eq_some_iff.mp hq).1
  refine va_put (v := cvv rho v) hx hb hts (ob_in hc h1) (oTy c) o3 o4 hown hSt.1 hP (wL_D S hAD.2) hS q0 hg o1 j hj (hts _ (GW_in hw)) (fun _ h9 => h9) hfin hty hn hfit (by rw [List.length_map, List.length_range]; exact hj) hd
    (fun H1 locs1 hP1 hD1 hS1 => ?_)
  rw [← hv, map_set (f := fun j => cvv rho (fM S k c j)) (g := fun j => cvv rho (fM S2 k c j)) hj (fun i hi => by rw [fM_congr (ho2 i hi)]), hset] at hP1
  exact kg p e R s m args below meth c0 H1 locs1 cells slots Q ls hC hP1 hS1 hl hR
theorem gd_getstatic {i c rr r4 : Nat} (hd : decode (mB mi) pc = .ok (.getstatic i, 3)) (h1 : 36 ≤ c) (hc : c < 40)
    (hw : (if r4 = 0 then wAt rr (.fieldLink (mO mi) i "TicketWindows" (stN c) "[I") else decide (r4 = 1) && wNt rr (.fieldLinkNest (mO mi) i "TicketWindows" (stN c) "[I" "TicketWindows")) = true)
    (kg : Gd l dC dI al cyC cyI cyO rho A Ln xs mi KK (pc + 3) L (.inr (0, c) :: st) S) : Gd l dC dI al cyC cyI cyO rho A Ln xs mi KK pc L st S := by
  intro p e R s m args below meth c0 H locs cells slots Q ls hC hP hS hl hR
  obtain ⟨hx, hb, hml, hown, hts, hSt, hf, hlo, hcs, hss, hAD⟩ := id hC
  have hZ := (hSt.2.2.1 c h1 hc).1
  split at hw
  · exact va_gets hx hb hZ hS hown (hts _ (GW_in hw)) (fun _ h9 => h9) hd (kg p e R s m args below meth c0 H locs cells slots Q ls hC hP hS hl hR)
  · simp only [Bool.and_eq_true, wNt, decide_eq_true_eq] at hw
    exact va_getsN hx hb hZ hS hown (va_Nw.use rfl (hSt.2.1 _ _ hw.2 rfl)) (fun _ h9 => h9) hd (kg p e R s m args below meth c0 H locs cells slots Q ls hC hP hS hl hR)
theorem gd_iaload {k c : Nat} {z : Int} (hd : decode (mB mi) pc = .ok (.iaload, 1)) (h1 : kT c = 2) (hk : k < kK al c) (hz : 0 ≤ z ∧ z < kL c)
    (kg : Gd l dC dI al cyC cyI cyO rho A Ln xs mi KK (pc + 1) L (.inl (S k c z) :: st) S) : Gd l dC dI al cyC cyI cyO rho A Ln xs mi KK pc L (.inl z :: .inr (k, c) :: st) S := by
  intro p e R s m args below meth c0 H locs cells slots Q ls hC hP hS hl hR
  obtain ⟨hx, hb, hml, hown, hts, hSt, hf, hlo, hcs, hss, hAD⟩ := id hC
  have hc := kT_lt c (by omega)
  obtain ⟨q0, -, hg⟩ := wL_get (al := al) (cyC := cyC) (cyI := cyI) (cyO := cyO) (rho := rho) S hc hk
  rw [cE_int h1] at hg
  obtain ⟨n1, n2⟩ := kL_kN c hc (by omega)
  refine va_iald hx hb hSt.1 hP q0 1 hg rfl (oi_in hz.1 (by omega) n2) hd ?_
  have e1 : ((Int32.ofInt z).toNatClampNeg : Int) = z := by rw [oi_clamp hz.1 (by omega)]; omega
  rw [e1]
  exact kg p e R s m args below meth c0 H locs cells slots Q ls hC hP hS hl hR
theorem gd_iastatic {c : Nat} {z : Int} (hd : decode (mB mi) pc = .ok (.iaload, 1)) (h1 : kT c = 5) (hc : c < 41) (hz : 0 ≤ z ∧ z < kL c)
    (kg : Gd l dC dI al cyC cyI cyO rho A Ln xs mi KK (pc + 1) L (.inl (sv c z) :: st) S) : Gd l dC dI al cyC cyI cyO rho A Ln xs mi KK pc L (.inl z :: .inr (0, c) :: st) S := by
  intro p e R s m args below meth c0 H locs cells slots Q ls hC hP hS hl hR
  obtain ⟨hx, hb, hml, hown, hts, hSt, hf, hlo, hcs, hss, hAD⟩ := id hC
  obtain ⟨h2, n1, n2⟩ := kT_5 c hc h1
  have hX := (hSt.2.2.1 c h2.1 h2.2).2
  have e1 : ((Int32.ofInt z).toNatClampNeg : Int) = z := by rw [oi_clamp hz.1 (by omega)]; omega
  refine va_ti hx hb hX hS (oi_in hz.1 (by omega) (by omega)) (v := .int (Int32.ofInt (sv c z))) ?_ hd ?_
  · show Value.int (Int32.ofInt (sv c ((Int32.ofInt z).toNatClampNeg : Int))) = _
    rw [e1]
  · exact kg p e R s m args below meth c0 H locs cells slots Q ls hC hP hS hl hR
theorem gd_iascript {z : Int} (hd : decode (mB mi) pc = .ok (.iaload, 1)) (hz : 0 ≤ z ∧ z < Ln) (hL : Ln < 2147483648)
    (kg : Gd l dC dI al cyC cyI cyO rho A Ln xs mi KK (pc + 1) L (.inl (xs z) :: st) S) : Gd l dC dI al cyC cyI cyO rho A Ln xs mi KK pc L (.inl z :: .inr (0, 40) :: st) S := by
  intro p e R s m args below meth c0 H locs cells slots Q ls hC hP hS hl hR
  obtain ⟨hx, hb, hml, hown, hts, hSt, hf, hlo, hcs, hss, hAD⟩ := id hC
  have hX := hSt.2.2.2
  refine va_sld hx hb hX (va_X_lt hX) (hAD.1 40 (by omega) (by omega)) hS (oi_in hz.1 (by omega) (by omega)) hd ?_
  have e1 : ((Int32.ofInt z).toNatClampNeg : Int) = z := by rw [oi_clamp hz.1 (by omega)]; omega
  rw [e1]
  exact kg p e R s m args below meth c0 H locs cells slots Q ls hC hP hS hl hR
theorem gd_arraylength (hd : decode (mB mi) pc = .ok (.arraylength, 1))
    (kg : Gd l dC dI al cyC cyI cyO rho A Ln xs mi KK (pc + 1) L (.inl Ln :: st) S) : Gd l dC dI al cyC cyI cyO rho A Ln xs mi KK pc L (.inr (0, 40) :: st) S := by
  intro p e R s m args below meth c0 H locs cells slots Q ls hC hP hS hl hR
  obtain ⟨hx, hb, hml, hown, hts, hSt, hf, hlo, hcs, hss, hAD⟩ := id hC
  have hX := hSt.2.2.2
  refine va_slen hx hb hX (va_X_lt hX) (hAD.1 40 (by omega) (by omega)) hS hd ?_
  have h9 := kg p e R s m args below meth c0 H locs cells slots Q ls hC hP hS hl hR
  rw [List.map_cons, cvv, oi_nI] at h9
  exact h9
theorem gd_caload {k c : Nat} {z : Int} (hd : decode (mB mi) pc = .ok (.caload, 1)) (h1 : kT c = 3) (hk : k < kK al c) (hz : 0 ≤ z ∧ z < kL c)
    (kg : Gd l dC dI al cyC cyI cyO rho A Ln xs mi KK (pc + 1) L (.inl (S k c z) :: st) S) : Gd l dC dI al cyC cyI cyO rho A Ln xs mi KK pc L (.inl z :: .inr (k, c) :: st) S := by
  intro p e R s m args below meth c0 H locs cells slots Q ls hC hP hS hl hR
  obtain ⟨hx, hb, hml, hown, hts, hSt, hf, hlo, hcs, hss, hAD⟩ := id hC
  have hc := kT_lt c (by omega)
  obtain ⟨q0, -, hg⟩ := wL_get (al := al) (cyC := cyC) (cyI := cyI) (cyO := cyO) (rho := rho) S hc hk
  rw [cE_chr h1] at hg
  obtain ⟨n1, n2⟩ := kL_kN c hc (by omega)
  refine va_cald hx hb hSt.1 hP q0 0 hg rfl (oi_in hz.1 (by omega) n2) hd ?_
  have e1 : ((Int32.ofInt z).toNatClampNeg : Int) = z := by rw [oi_clamp hz.1 (by omega)]; omega
  rw [e1]
  exact kg p e R s m args below meth c0 H locs cells slots Q ls hC hP hS hl hR
theorem gd_iastore {k c : Nat} {z v : Int} (hd : decode (mB mi) pc = .ok (.iastore, 1)) (h1 : kT c = 2) (hk : k < kK al c) (hz : 0 ≤ z ∧ z < kL c)
    (kg : Gd l dC dI al cyC cyI cyO rho A Ln xs mi KK (pc + 1) L st (hu S k c z v)) : Gd l dC dI al cyC cyI cyO rho A Ln xs mi KK pc L (.inl v :: .inl z :: .inr (k, c) :: st) S := by
  intro p e R s m args below meth c0 H locs cells slots Q ls hC hP hS hl hR
  obtain ⟨hx, hb, hml, hown, hts, hSt, hf, hlo, hcs, hss, hAD⟩ := id hC
  have hc := kT_lt c (by omega)
  obtain ⟨q0, hi0, hg⟩ := wL_get (al := al) (cyC := cyC) (cyI := cyI) (cyO := cyO) (rho := rho) S hc hk
  have hset := wL_set (al := al) (cyC := cyC) (cyI := cyI) (cyO := cyO) (rho := rho) hi0 (hu_off (S := S) (k := k) (c := c) (j := z) (v := v))
  rw [cE_int h1] at hg hset
  obtain ⟨n1, n2⟩ := kL_kN c hc (by omega)
  refine va_iast hx hb hSt.1 hP (wL_D S hAD.2) hS q0 1 hg rfl (oi_in hz.1 (by omega) n2) hd (fun H1 locs1 hP1 hD1 hS1 => ?_)
  have e2 : upd (fun j : Nat => Int32.ofInt (S k c j)) (Int32.ofInt z).toNatClampNeg (Int32.ofInt v) = fun j : Nat => Int32.ofInt (hu S k c z v k c j) := by
    funext j
    rw [oi_clamp hz.1 (by omega), hu_at]
    unfold upd
    by_cases hj : j = z.toNat
    · rw [if_pos hj, if_pos (by omega)]
    · rw [if_neg hj, if_neg (by omega)]
  rw [e2, hset] at hP1
  exact kg p e R s m args below meth c0 H1 locs1 cells slots Q ls hC hP1 hS1 hl hR
theorem gd_castore {k c : Nat} {z v : Int} (hd : decode (mB mi) pc = .ok (.castore, 1)) (h1 : kT c = 3) (hk : k < kK al c) (hz : 0 ≤ z ∧ z < kL c) (hv : 0 ≤ v ∧ v < 65536)
    (kg : Gd l dC dI al cyC cyI cyO rho A Ln xs mi KK (pc + 1) L st (hu S k c z v)) : Gd l dC dI al cyC cyI cyO rho A Ln xs mi KK pc L (.inl v :: .inl z :: .inr (k, c) :: st) S := by
  intro p e R s m args below meth c0 H locs cells slots Q ls hC hP hS hl hR
  obtain ⟨hx, hb, hml, hown, hts, hSt, hf, hlo, hcs, hss, hAD⟩ := id hC
  have hc := kT_lt c (by omega)
  obtain ⟨q0, hi0, hg⟩ := wL_get (al := al) (cyC := cyC) (cyI := cyI) (cyO := cyO) (rho := rho) S hc hk
  have hset := wL_set (al := al) (cyC := cyC) (cyI := cyI) (cyO := cyO) (rho := rho) hi0 (hu_off (S := S) (k := k) (c := c) (j := z) (v := v))
  rw [cE_chr h1] at hg hset
  obtain ⟨n1, n2⟩ := kL_kN c hc (by omega)
  refine va_cast hx hb hSt.1 hP (wL_D S hAD.2) hS q0 0 hg rfl (oi_in hz.1 (by omega) n2) hd (fun H1 locs1 hP1 hD1 hS1 => ?_)
  have e2 : upd (fun j : Nat => Int32.ofInt (S k c j)) (Int32.ofInt z).toNatClampNeg (vp_nar .char (Int32.ofInt v)) = fun j : Nat => Int32.ofInt (hu S k c z v k c j) := by
    funext j
    rw [oi_clamp hz.1 (by omega), hu_at, oi_nar hv]
    unfold upd
    by_cases hj : j = z.toNat
    · rw [if_pos hj, if_pos (by omega)]
    · rw [if_neg hj, if_neg (by omega)]
  rw [e2, hset] at hP1
  exact kg p e R s m args below meth c0 H1 locs1 cells slots Q ls hC hP1 hS1 hl hR
theorem gd_aaload {k c : Nat} {z : Int} (hd : decode (mB mi) pc = .ok (.aaload, 1)) (h1 : kT c = 4) (hk : k < kK al c) (hz : 0 ≤ z ∧ z < kL c)
    (kg : Gd l dC dI al cyC cyI cyO rho A Ln xs mi KK (pc + 1) L (.inr ((S k c z).toNat, 0) :: st) S) : Gd l dC dI al cyC cyI cyO rho A Ln xs mi KK pc L (.inl z :: .inr (k, c) :: st) S := by
  intro p e R s m args below meth c0 H locs cells slots Q ls hC hP hS hl hR
  obtain ⟨hx, hb, hml, hown, hts, hSt, hf, hlo, hcs, hss, hAD⟩ := id hC
  have hc := kT_lt c (by omega)
  obtain ⟨q0, -, hg⟩ := wL_get (al := al) (cyC := cyC) (cyI := cyI) (cyO := cyO) (rho := rho) S hc hk
  rw [cE_off h1] at hg
  obtain ⟨n1, n2⟩ := kL_kN c hc (by omega)
  refine va_aldq hx hb hSt.1 hP q0 2 hg rfl (oi_in hz.1 (by omega) n2) hd ?_
  have e1 : ((Int32.ofInt z).toNatClampNeg : Int) = z := by rw [oi_clamp hz.1 (by omega)]; omega
  rw [e1]
  exact kg p e R s m args below meth c0 H locs cells slots Q ls hC hP hS hl hR
theorem gd_aastore {k c q : Nat} {z : Int} (hd : decode (mB mi) pc = .ok (.aastore, 1)) (h1 : kT c = 4) (hk : k < kK al c) (hz : 0 ≤ z ∧ z < kL c) (hq : q < 7)
    (kg : Gd l dC dI al cyC cyI cyO rho A Ln xs mi KK (pc + 1) L st (hu S k c z q)) : Gd l dC dI al cyC cyI cyO rho A Ln xs mi KK pc L (.inr (q, 0) :: .inl z :: .inr (k, c) :: st) S := by
  intro p e R s m args below meth c0 H locs cells slots Q ls hC hP hS hl hR
  obtain ⟨hx, hb, hml, hown, hts, hSt, hf, hlo, hcs, hss, hAD⟩ := id hC
  have hc := kT_lt c (by omega)
  obtain ⟨q0, hi0, hg⟩ := wL_get (al := al) (cyC := cyC) (cyI := cyI) (cyO := cyO) (rho := rho) S hc hk
  obtain ⟨q1, -, hg1⟩ := wL_get (al := al) (cyC := cyC) (cyI := cyI) (cyO := cyO) (rho := rho) S (k := q) (c := 0) (by omega) hq
  have hset := wL_set (al := al) (cyC := cyC) (cyI := cyI) (cyO := cyO) (rho := rho) hi0 (hu_off (S := S) (k := k) (c := c) (j := z) (v := q))
  rw [cE_off h1] at hg hset
  rw [cE_obj (c := 0) rfl] at hg1
  obtain ⟨n1, n2⟩ := kL_kN c hc (by omega)
  refine va_astq hx hb hSt.1 hP (wL_D S hAD.2) hS q0 2 q1 3 hg rfl hg1 rfl (oi_in hz.1 (by omega) n2) hd (fun H1 locs1 hP1 hD1 hS1 => ?_)
  have e2 : va_up (fun j : Nat => some (rho (S k c j).toNat 0)) (Int32.ofInt z).toNatClampNeg (some (rho q 0)) = fun j : Nat => some (rho (hu S k c z q k c j).toNat 0) := by
    funext j
    rw [oi_clamp hz.1 (by omega), hu_at]
    unfold va_up
    by_cases hj : j = z.toNat
    · rw [if_pos hj, if_pos (by omega)]; rfl
    · rw [if_neg hj, if_neg (by omega)]
  rw [e2, hset] at hP1
  exact kg p e R s m args below meth c0 H1 locs1 cells slots Q ls hC hP1 hS1 hl hR
theorem gd_copy {i k1 c1 k2 c2 rr : Nat} {n sp dp : Int} (hd : decode (mB mi) pc = .ok (.invokestatic i, 3)) (hw : wAt rr (.methodLink (mO mi) i arraycopyName) = true) (hfr : 1 ≤ mF mi) (hll : 18 ≤ mLo mi)
    (h1 : kT c1 = 2) (h2 : kT c2 = 2) (hk1 : k1 < kK al c1) (hk2 : k2 < kK al c2) (h0 : 0 ≤ n ∧ 0 ≤ sp ∧ 0 ≤ dp) (h3 : sp + n ≤ kL c1) (h4 : dp + n ≤ kL c2)
    (hnat : wAt 243 (.native arraycopyName) = true) (hstat : wAt 242 (.static arraycopyName) = true) (hini : wAt 23 (.initialized "java/lang/System") = true)
    (kg : Gd l dC dI al cyC cyI cyO rho A Ln xs mi KK (pc + 3) L [] (hcp S k1 c1 sp k2 c2 dp n)) : Gd l dC dI al cyC cyI cyO rho A Ln xs mi KK pc L [.inl n, .inl dp, .inr (k2, c2), .inl sp, .inr (k1, c1)] S := by
  intro p e R s m args below meth c0 H locs cells slots Q ls hC hP hS hl hR
  obtain ⟨hx, hb, hml, hown, hts, hSt, hf, hlo, hcs, hss, hAD⟩ := id hC
  have hc1 := kT_lt c1 (by omega)
  have hc2 := kT_lt c2 (by omega)
  obtain ⟨n1, n2⟩ := kL_kN c1 hc1 (by omega)
  obtain ⟨n3, n4⟩ := kL_kN c2 hc2 (by omega)
  obtain ⟨q0, -, hg0⟩ := wL_get (al := al) (cyC := cyC) (cyI := cyI) (cyO := cyO) (rho := rho) S hc1 hk1
  obtain ⟨q1, hi1, hg1⟩ := wL_get (al := al) (cyC := cyC) (cyI := cyI) (cyO := cyO) (rho := rho) S hc2 hk2
  have hset := wL_set (al := al) (cyC := cyC) (cyI := cyI) (cyO := cyO) (rho := rho) hi1 (hcp_off (S := S) (k1 := k1) (c1 := c1) (sp := sp) (k := k2) (c := c2) (dp := dp) (n := n))
  rw [cE_int h1] at hg0
  rw [cE_int h2] at hg1 hset
  have ng : ∀ {z : Int}, 0 ≤ z → z < 2147483648 → ¬ Int32.ofInt z < 0 := fun h h' q => by
    have := (oi_lt (u := _) (v := 0) ⟨by omega, by omega⟩ (by omega)).mp q
    omega
  have e1 := oi_clamp h0.1 (by omega)
  have e2 := oi_clamp h0.2.1 (by omega)
  have e3 := oi_clamp h0.2.2 (by omega)
  refine va_copyi (c0 := cyI) (c1 := cyI) (ty := .int) hx hb (by rw [hml]; exact hl.2.1.symm) hown (hts _ (GW_in hw)) (hts _ (GW_in hnat)) (hts _ (GW_in hstat)) (hts _ (GW_in hini)) hSt.1 hP (wL_D S hAD.2) hS q0 q1 1 1 hg0 hg1 rfl rfl rfl
    (ng h0.2.1 (by omega)) (ng h0.2.2 (by omega)) (ng h0.1 (by omega)) (by rw [e1, e2]; omega) (by rw [e1, e3]; omega) (fun _ _ => rfl) (Nat.le_trans hfr hf) ?_ hd (fun H1 locs1 hP1 hD1 hS1 => ?_)
  · have h9 : 18 ≤ R.locals := Nat.le_trans hll hlo
    show 0 + (7 + 11) ≤ R.locals
    omega
  · have e5 : va_cpy (fun j : Nat => Int32.ofInt (S k1 c1 j)) (fun j : Nat => Int32.ofInt (S k2 c2 j)) (Int32.ofInt sp).toNatClampNeg (Int32.ofInt dp).toNatClampNeg (Int32.ofInt n).toNatClampNeg = fun j : Nat => Int32.ofInt (hcp S k1 c1 sp k2 c2 dp n k2 c2 j) := by
      funext j
      rw [e1, e2, e3]
      unfold va_cpy hcp
      by_cases hj : dp ≤ j ∧ (j : Int) < dp + n
      · rw [if_pos (by omega), if_pos ⟨rfl, rfl, hj⟩]
        have e6 : ((sp.toNat + (j - dp.toNat) : Nat) : Int) = sp + (j - dp) := by omega
        show Int32.ofInt (S k1 c1 ((sp.toNat + (j - dp.toNat) : Nat) : Int)) = _
        rw [e6]
      · rw [if_neg (by omega), if_neg (fun q => hj q.2.2)]
    rw [e5, hset] at hP1
    exact kg p e R s m args below meth c0 H1 locs1 cells slots Q ls hC hP1 hS1 hl hR
theorem tgt_of {pc : Nat} {o : Int} (h : 0 ≤ (pc : Int) + o) : (pc : Int) + o = (tgt pc o : Nat) := by
  unfold tgt
  split <;> omega
theorem tsw_is (L : Lc) (st : List MV) (S : Hp) (pc : Nat) (d z : Int) : ∀ (os : List Int) (c : Int), (c ≤ z ∧ z < c + os.length ∧ ∃ o, os[(z - c).toNat]? = some o ∧ tsw L st S pc d z c os = rN (tgt pc o) L st S) ∨ ((z < c ∨ c + os.length ≤ z) ∧ tsw L st S pc d z c os = rN (tgt pc d) L st S) := by
  intro os
  induction os with
  | nil => intro c; exact Or.inr ⟨by simp; omega, rfl⟩
  | cons o os ih =>
    intro c
    unfold tsw
    by_cases h : z = c
    · rw [if_pos h]
      exact Or.inl ⟨by omega, by simp; omega, o, by rw [h]; simp, rfl⟩
    · rw [if_neg h]
      rcases ih (c + 1) with ⟨h1, h2, o', h3, h4⟩ | ⟨h1, h2⟩
      · refine Or.inl ⟨by omega, by simp; omega, o', ?_, h4⟩
        have e : (z - c).toNat = (z - (c + 1)).toNat + 1 := by omega
        rw [e, List.getElem?_cons_succ]
        exact h3
      · exact Or.inr ⟨by simp; omega, h2⟩
theorem gd_tsw {d lo hi z : Int} {os : Array Int} {len : Nat} (hd : decode (mB mi) pc = .ok (.tableswitch d lo hi os, len)) (hz : inR z) (h1 : 0 ≤ (pc : Int) + d) (h2 : os.toList.all (fun o => decide (0 ≤ (pc : Int) + o)) = true) (h3 : hi = lo + os.size - 1)
    {tg : Nat} (ht : tsw L st S pc d z lo os.toList = rN tg L st S) (kg : Gd l dC dI al cyC cyI cyO rho A Ln xs mi KK tg L st S) : Gd l dC dI al cyC cyI cyO rho A Ln xs mi KK pc L (.inl z :: st) S := by
  intro p e R s m args below meth c0 H locs cells slots Q ls hC hP hS hl hR
  obtain ⟨hx, hb, hml, hown, hts, hSt, hf, hlo, hcs, hss, hAD⟩ := id hC
  have e0 := oi_toInt hz
  have hK := kg p e R s m args below meth c0 H locs cells slots Q ls hC hP hS hl hR
  have inj : ∀ {a b : Nat}, rN a L st S = rN b L st S → a = b := fun h => by cases h; rfl
  have hsz : os.toList.length = os.size := Array.length_toList
  rcases tsw_is L st S pc d z os.toList lo with ⟨g1, g2, o, g3, g4⟩ | ⟨g1, g2⟩
  · have e1 := inj (ht.symm.trans g4)
    subst e1
    refine lv_tableIn hx hb hd (by rw [e0]; omega) (by rw [e0]; omega) (off := o) (by rw [e0, ← Array.getElem?_toList]; exact g3) (tgt_of ?_) hK
    have := List.all_eq_true.mp h2 o (List.mem_of_getElem? g3)
    simpa using this
  · have e1 := inj (ht.symm.trans g2)
    subst e1
    exact lv_tableOut hx hb hd (by rw [e0]; omega) (tgt_of h1) hK
theorem lsw_is (L : Lc) (st : List MV) (S : Hp) (pc : Nat) (d z : Int) : ∀ (ps : List (Int × Int)), lsw L st S pc d z ps = rN (tgt pc (lookupswitch.offset ps d z)) L st S ∧ (lookupswitch.offset ps d z = d ∨ ∃ q ∈ ps, lookupswitch.offset ps d z = q.2) := by
  intro ps
  induction ps with
  | nil => exact ⟨rfl, Or.inl rfl⟩
  | cons q ps ih =>
    obtain ⟨k, o⟩ := q
    unfold lsw
    rw [lookupswitch.offset_cons]
    by_cases h : z = k
    · rw [if_pos h, if_pos h.symm]
      exact ⟨rfl, Or.inr ⟨(k, o), List.mem_cons_self, rfl⟩⟩
    · rw [if_neg h, if_neg (fun q => h q.symm)]
      refine ⟨ih.1, ih.2.imp id ?_⟩
      rintro ⟨q, h1, h2⟩
      exact ⟨q, List.mem_cons_of_mem _ h1, h2⟩
theorem gd_lsw {d z : Int} {ps : Array (Int × Int)} {len : Nat} (hd : decode (mB mi) pc = .ok (.lookupswitch d ps, len)) (hz : inR z) (h1 : 0 ≤ (pc : Int) + d) (h2 : ps.toList.all (fun o => decide (0 ≤ (pc : Int) + o.2)) = true) (h3 : (ps.toList.zip (ps.toList.drop 1)).all (fun (a, next) => a.1 < next.1) = true)
    {tg : Nat} (ht : lsw L st S pc d z ps.toList = rN tg L st S) (kg : Gd l dC dI al cyC cyI cyO rho A Ln xs mi KK tg L st S) : Gd l dC dI al cyC cyI cyO rho A Ln xs mi KK pc L (.inl z :: st) S := by
  intro p e R s m args below meth c0 H locs cells slots Q ls hC hP hS hl hR
  obtain ⟨hx, hb, hml, hown, hts, hSt, hf, hlo, hcs, hss, hAD⟩ := id hC
  have e0 := oi_toInt hz
  have hK := kg p e R s m args below meth c0 H locs cells slots Q ls hC hP hS hl hR
  have inj : ∀ {a b : Nat}, rN a L st S = rN b L st S → a = b := fun h => by cases h; rfl
  obtain ⟨g1, g2⟩ := lsw_is L st S pc d z ps.toList
  have e1 := inj (ht.symm.trans g1)
  subst e1
  refine lv_lookup hx hb hd h3 (by rw [e0]) (tgt_of ?_) hK
  rcases g2 with g2 | ⟨q, g2, g3⟩
  · rw [g2]; exact h1
  · rw [g3]
    have := List.all_eq_true.mp h2 q g2
    simpa using this
theorem gd_ret (hr : retAt mi pc r) (hst : st.map (cvv rho) = (r.map (cvv rho)).toList) (hS : S' = S) : Gd l dC dI al cyC cyI cyO rho A Ln xs mi (Rh l dC dI al cyC cyI cyO rho A mi r S') pc L st S := by
  intro p e R s m args below meth c0 H locs cells slots Q ls hC hP hS1 hl hR
  subst hS
  rw [hst]
  exact hR pc ls H locs hr hP hS1
end SND
