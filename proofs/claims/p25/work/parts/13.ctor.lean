theorem dkX0_0 : decode cX0_init 0 = .ok (.aload_n 0, 1) := by decide +kernel
theorem dkX0_1 : decode cX0_init 1 = .ok (.invokespecial 3, 3) := by decide +kernel
theorem dkX0_4 : decode cX0_init 4 = .ok (.aload_n 0, 1) := by decide +kernel
theorem dkX0_5 : decode cX0_init 5 = .ok (.bipush 114, 2) := by decide +kernel
theorem dkX0_7 : decode cX0_init 7 = .ok (.newarray .int, 2) := by decide +kernel
theorem dkX0_9 : decode cX0_init 9 = .ok (.putfield 9, 3) := by decide +kernel
theorem dkX0_12 : decode cX0_init 12 = .ok (.return_, 1) := by decide +kernel
set_option maxHeartbeats 8000000 in
set_option maxRecDepth 100000 in
theorem k_Disputes (l : Launch) (dC : Nat → ClassId) (dI : Nat → Nat → Nat) (cyC cyI cyO : ClassId) (rho : Nat → Nat → Nat) (Bd Ln : Nat) (xs : Int → Int) (h0 sz : Nat) : Met l yX0_init (.code yX0_init cX0_init 1 none :: GW) ({ frames := 1, cells := 1, slots := 114, locals := 12 }) (va_Pc [.ref h0] (fun U => U.heap.size = sz ∧ ((Bd ≤ h0 ∧ Bd ≤ sz) ∧ (∀ c, 36 ≤ c → c < 41 → ¬ Bd ≤ rho 0 c)) ∧ va_P (dC, dI) vwCl [(h0, .inr (0, [.int 0, .int 0, .null]))] U.heap ∧ St0 dC dI cyC cyI cyO rho (fun q => Bd ≤ q) Ln xs U)) (va_Qv (fun _ : Nat → Nat => True) (fun (ad : Nat → Nat) t => va_P (dC, dI) vwCl (bk cyC cyI cyO [21, 22] ad) t.heap ∧ va_D (va_A [(h0, .inr (0, [.int 0, .int 0, .null]))] sz) (bk cyC cyI cyO [21, 22] ad) ∧ ad 21 = h0) (va_A [(h0, .inr (0, [.int 0, .int 0, .null]))] sz)) 1 114 (va_A [(h0, .inr (0, [.int 0, .int 0, .null]))] sz) := by
  refine Met.ofW (cc := cX0_init) (maxL := 1) (ret := none) (by decide) rfl ?_
  intro p e s m args below meth c s₁ B hml hv
  obtain ⟨rfl, hsz, ⟨⟨hBh, hBs⟩, hro⟩, hP, hSt⟩ := hv
  have hx := B.exec
  have hb := B.bytes
  have hr := B.returns
  have hts0 := atoms_spec (ws := .code yX0_init cX0_init 1 none :: GW) B.pre
  have hts : ∀ w ∈ GW, w.before _ s = true := fun w hw => hts0 w (List.mem_cons_of_mem _ hw)
  have hown : s.vm.findClass RX0 = some m.cls := findClass_of_methodNamed B.named
  have hlocks := B.notSynchronized
  have hin : meth.name = "<init>" := (name_of_methodNamed B.named B.method).1
  have hK := hSt.1
  subst hsz
  have hD : va_D (va_A [(h0, .inr (0, [.int 0, .int 0, .null]))] s.heap.size) [(h0, .inr (0, [.int 0, .int 0, .null]))] := D_nd.mpr ⟨by simp, fun q hq => by
    rw [List.mem_singleton] at hq
    rw [hq]
    exact Or.inl ⟨0, _, rfl⟩⟩
  have hAB0 : ∀ q, va_A [(h0, .inr (0, [.int 0, .int 0, .null]))] s.heap.size q → Bd ≤ q := fun q h => by
    rcases h with ⟨k, e, h⟩ | h
    · have h1 := List.mem_of_getElem? h
      rw [List.mem_singleton] at h1
      cases h1
      exact hBh
    · exact Nat.le_trans hBs h
  have hA0 : ∀ q : Nat, s.heap.size ≤ q → va_A [(h0, .inr (0, [.int 0, .int 0, .null]))] s.heap.size q := fun q h => Or.inr h
  generalize hAe : va_A [(h0, .inr (0, [.int 0, .int 0, .null]))] s.heap.size = A at hD hAB0 hA0 ⊢
  have hAB := hAB0
  have hA := hA0
  have hSB : ∀ {H : Heap} {locs : List Loc}, va_S A s.heap H locs → va_S (fun q => Bd ≤ q) s.heap H locs := fun h => ⟨h.1, fun q h1 h2 => h.2.1 q h1 (fun z => h2 (hAB q z)), fun l hl => hAB _ (h.2.2 l hl)⟩
  have hS : va_S A s.heap s.heap [] := va_S.rf
  have hl := lv_entry ([.ref h0]) (n := 1) (Nat.le_of_ble_eq_true rfl)
  rw [lg_entry_eq]
  generalize (lg_sl ([.ref h0]) ++ List.replicate (1 - (lg_sl ([.ref h0])).length) Slot.unset).toArray = ls at hl ⊢
  have hl : lv_has ls 1 [(0, .ref h0)] := hl
  have hP : va_P (dC, dI) vwCl [(h0, .inr (0, [.int 0, .int 0, .null]))] s.heap := hP
  refine lv_aload_n hx hb dkX0_0 rfl (lv_at hl 0 rfl) ?_
  refine W.objInit hx hb hown (hts _ (GW_in (i := 127) (w := .methodLink RX0 3 objectInit) (by decide +kernel))) (hts _ (GW_in (i := 31) (w := .instanceMethod objectInit) (by decide +kernel))) (hts _ (GW_in (i := 32) (w := .code objectInit ⟨#[0xb1]⟩ 1 none) (by decide +kernel))) rfl (by rw [hml]; exact hl.1) rfl dkX0_1 (Nat.le_of_ble_eq_true rfl) (Nat.le_of_ble_eq_true rfl) ?_
  refine W.eq (g2 := F0 m 4 ls []) rfl ?_
  refine lv_aload_n hx hb dkX0_4 rfl (lv_at hl 0 rfl) ?_
  refine lv_bipush (v := 114) hx hb dkX0_5 (by decide) ?_
  refine nw_arr (atype := .int) (ty := .int) (a0 := (114, .inl (fun j : Nat => Int32.ofInt (SI 0 22 j)))) hx hb (hts _ (GW_in (i := 54) (w := .arrayClass .int) (by decide +kernel))) rfl hK hP hD hS hA 1 rfl (fun C h => by cases h) (fun cA => by first | rfl | exact congrArg (arrV cA 114) (funext fun j => rfl)) (by decide) (by decide) (by decide) (Nat.le_of_ble_eq_true rfl) (Nat.le_of_ble_eq_true rfl) dkX0_7 (fun q1 H hP hD hS => ?_)
  have hP : va_P (dC, dI) vwCl ([(h0, .inr (0, [.int 0, .int 0, .null])), (q1, .inl (cyI, 114, .inl (fun j : Nat => Int32.ofInt (SI 0 22 j))))]) H := hP
  have hD : va_D A ([(h0, .inr (0, [.int 0, .int 0, .null])), (q1, .inl (cyI, 114, .inl (fun j : Nat => Int32.ofInt (SI 0 22 j))))]) := hD
  refine va_putF (D := (dC, dI)) (ci := 0) (v := .ref q1) (ty := .array .int) (C := RX0) (T := TX0) (N := 3) hx hb hts (ob_in (c := 21) (by decide) rfl) tyX0 tyX0_ok nmX0 hown hK hP hD hS 0 rfl rfl 2 (by decide) (hts _ (GW_in (i := 132) (w := .fieldLink RX0 9 "TicketWindows$Disputes" "queue" "[I") (by decide +kernel))) (fun _ h9 => h9) rfl hin rfl (by decide +kernel) rfl rfl (Nat.le_of_ble_eq_true rfl) dkX0_9 (fun H locs hP hD hS => ?_)
  have hP : va_P (dC, dI) vwCl ([(h0, .inr (0, [.int 0, .int 0, .ref q1])), (q1, .inl (cyI, 114, .inl (fun j : Nat => Int32.ofInt (SI 0 22 j))))]) H := hP
  have hD : va_D A ([(h0, .inr (0, [.int 0, .int 0, .ref q1])), (q1, .inl (cyI, 114, .inl (fun j : Nat => Int32.ofInt (SI 0 22 j))))]) := hD
  have hP9 : va_P (dC, dI) vwCl (bk cyC cyI cyO [21, 22] (fun c => [h0, q1].getD (c - 21) 0)) H := hP
  have hD9 : va_D A (bk cyC cyI cyO [21, 22] (fun c => [h0, q1].getD (c - 21) 0)) := hD
  refine W.widen (k := 1) (n := 114) (Nat.le_of_ble_eq_true rfl) (Nat.le_of_ble_eq_true rfl) ?_
  exact W.vret hx hb hr (fun t ht hW => ⟨⟨(fun c => [h0, q1].getD (c - 21) 0), rfl, trivial, by rw [ht]; exact hP9, hAe ▸ hD9, rfl⟩, hAe ▸ hS.F ht⟩) (hAe ▸ hS.2.2) dkX0_12
theorem dkX1_0 : decode cX1_init 0 = .ok (.aload_n 0, 1) := by decide +kernel
theorem dkX1_1 : decode cX1_init 1 = .ok (.invokespecial 3, 3) := by decide +kernel
theorem dkX1_4 : decode cX1_init 4 = .ok (.aload_n 0, 1) := by decide +kernel
theorem dkX1_5 : decode cX1_init 5 = .ok (.bipush 6, 2) := by decide +kernel
theorem dkX1_7 : decode cX1_init 7 = .ok (.newarray .int, 2) := by decide +kernel
theorem dkX1_9 : decode cX1_init 9 = .ok (.putfield 9, 3) := by decide +kernel
theorem dkX1_12 : decode cX1_init 12 = .ok (.aload_n 0, 1) := by decide +kernel
theorem dkX1_13 : decode cX1_init 13 = .ok (.bipush 6, 2) := by decide +kernel
theorem dkX1_15 : decode cX1_init 15 = .ok (.newarray .int, 2) := by decide +kernel
theorem dkX1_17 : decode cX1_init 17 = .ok (.putfield 15, 3) := by decide +kernel
theorem dkX1_20 : decode cX1_init 20 = .ok (.iconst 0, 1) := by decide +kernel
theorem dkX1_21 : decode cX1_init 21 = .ok (.istore_n 1, 1) := by decide +kernel
theorem dkX1_22 : decode cX1_init 22 = .ok (.iload_n 1, 1) := by decide +kernel
theorem dkX1_23 : decode cX1_init 23 = .ok (.bipush 6, 2) := by decide +kernel
theorem dkX1_25 : decode cX1_init 25 = .ok (.if_icmp .ge 17, 3) := by decide +kernel
theorem dkX1_28 : decode cX1_init 28 = .ok (.aload_n 0, 1) := by decide +kernel
theorem dkX1_29 : decode cX1_init 29 = .ok (.getfield 15, 3) := by decide +kernel
theorem dkX1_32 : decode cX1_init 32 = .ok (.iload_n 1, 1) := by decide +kernel
theorem dkX1_33 : decode cX1_init 33 = .ok (.bipush (-5), 2) := by decide +kernel
theorem dkX1_35 : decode cX1_init 35 = .ok (.iastore, 1) := by decide +kernel
theorem dkX1_36 : decode cX1_init 36 = .ok (.iinc 1 1, 3) := by decide +kernel
theorem dkX1_39 : decode cX1_init 39 = .ok (.goto (-17), 3) := by decide +kernel
theorem dkX1_42 : decode cX1_init 42 = .ok (.aload_n 0, 1) := by decide +kernel
theorem dkX1_43 : decode cX1_init 43 = .ok (.bipush 18, 2) := by decide +kernel
theorem dkX1_45 : decode cX1_init 45 = .ok (.newarray .int, 2) := by decide +kernel
theorem dkX1_47 : decode cX1_init 47 = .ok (.putfield 18, 3) := by decide +kernel
theorem dkX1_50 : decode cX1_init 50 = .ok (.return_, 1) := by decide +kernel
set_option maxHeartbeats 8000000 in
set_option maxRecDepth 100000 in
theorem k_Draws (l : Launch) (dC : Nat → ClassId) (dI : Nat → Nat → Nat) (cyC cyI cyO : ClassId) (rho : Nat → Nat → Nat) (Bd Ln : Nat) (xs : Int → Int) (h0 sz : Nat) : Met l yX1_init (.code yX1_init cX1_init 2 none :: GW) ({ frames := 1, cells := 3, slots := 30, locals := 12 }) (va_Pc [.ref h0] (fun U => U.heap.size = sz ∧ ((Bd ≤ h0 ∧ Bd ≤ sz) ∧ (∀ c, 36 ≤ c → c < 41 → ¬ Bd ≤ rho 0 c)) ∧ va_P (dC, dI) vwCl [(h0, .inr (1, [.null, .null, .null]))] U.heap ∧ St0 dC dI cyC cyI cyO rho (fun q => Bd ≤ q) Ln xs U)) (va_Qv (fun _ : Nat → Nat => True) (fun (ad : Nat → Nat) t => va_P (dC, dI) vwCl (bk cyC cyI cyO [5, 6, 7, 8] ad) t.heap ∧ va_D (va_A [(h0, .inr (1, [.null, .null, .null]))] sz) (bk cyC cyI cyO [5, 6, 7, 8] ad) ∧ ad 5 = h0) (va_A [(h0, .inr (1, [.null, .null, .null]))] sz)) 3 30 (va_A [(h0, .inr (1, [.null, .null, .null]))] sz) := by
  refine Met.ofW (cc := cX1_init) (maxL := 2) (ret := none) (by decide) rfl ?_
  intro p e s m args below meth c s₁ B hml hv
  obtain ⟨rfl, hsz, ⟨⟨hBh, hBs⟩, hro⟩, hP, hSt⟩ := hv
  have hx := B.exec
  have hb := B.bytes
  have hr := B.returns
  have hts0 := atoms_spec (ws := .code yX1_init cX1_init 2 none :: GW) B.pre
  have hts : ∀ w ∈ GW, w.before _ s = true := fun w hw => hts0 w (List.mem_cons_of_mem _ hw)
  have hown : s.vm.findClass RX1 = some m.cls := findClass_of_methodNamed B.named
  have hlocks := B.notSynchronized
  have hin : meth.name = "<init>" := (name_of_methodNamed B.named B.method).1
  have hK := hSt.1
  subst hsz
  have hD : va_D (va_A [(h0, .inr (1, [.null, .null, .null]))] s.heap.size) [(h0, .inr (1, [.null, .null, .null]))] := D_nd.mpr ⟨by simp, fun q hq => by
    rw [List.mem_singleton] at hq
    rw [hq]
    exact Or.inl ⟨0, _, rfl⟩⟩
  have hAB0 : ∀ q, va_A [(h0, .inr (1, [.null, .null, .null]))] s.heap.size q → Bd ≤ q := fun q h => by
    rcases h with ⟨k, e, h⟩ | h
    · have h1 := List.mem_of_getElem? h
      rw [List.mem_singleton] at h1
      cases h1
      exact hBh
    · exact Nat.le_trans hBs h
  have hA0 : ∀ q : Nat, s.heap.size ≤ q → va_A [(h0, .inr (1, [.null, .null, .null]))] s.heap.size q := fun q h => Or.inr h
  generalize hAe : va_A [(h0, .inr (1, [.null, .null, .null]))] s.heap.size = A at hD hAB0 hA0 ⊢
  have hAB := hAB0
  have hA := hA0
  have hSB : ∀ {H : Heap} {locs : List Loc}, va_S A s.heap H locs → va_S (fun q => Bd ≤ q) s.heap H locs := fun h => ⟨h.1, fun q h1 h2 => h.2.1 q h1 (fun z => h2 (hAB q z)), fun l hl => hAB _ (h.2.2 l hl)⟩
  have hS : va_S A s.heap s.heap [] := va_S.rf
  have hl := lv_entry ([.ref h0]) (n := 2) (Nat.le_of_ble_eq_true rfl)
  rw [lg_entry_eq]
  generalize (lg_sl ([.ref h0]) ++ List.replicate (2 - (lg_sl ([.ref h0])).length) Slot.unset).toArray = ls at hl ⊢
  have hl : lv_has ls 2 [(0, .ref h0)] := hl
  have hP : va_P (dC, dI) vwCl [(h0, .inr (1, [.null, .null, .null]))] s.heap := hP
  refine lv_aload_n hx hb dkX1_0 rfl (lv_at hl 0 rfl) ?_
  refine W.objInit hx hb hown (hts _ (GW_in (i := 60) (w := .methodLink RX1 3 objectInit) (by decide +kernel))) (hts _ (GW_in (i := 31) (w := .instanceMethod objectInit) (by decide +kernel))) (hts _ (GW_in (i := 32) (w := .code objectInit ⟨#[0xb1]⟩ 1 none) (by decide +kernel))) rfl (by rw [hml]; exact hl.1) rfl dkX1_1 (Nat.le_of_ble_eq_true rfl) (Nat.le_of_ble_eq_true rfl) ?_
  refine W.eq (g2 := F0 m 4 ls []) rfl ?_
  refine lv_aload_n hx hb dkX1_4 rfl (lv_at hl 0 rfl) ?_
  refine lv_bipush (v := 6) hx hb dkX1_5 (by decide) ?_
  refine nw_arr (atype := .int) (ty := .int) (a0 := (6, .inl (fun j : Nat => Int32.ofInt (SI 0 6 j)))) hx hb (hts _ (GW_in (i := 54) (w := .arrayClass .int) (by decide +kernel))) rfl hK hP hD hS hA 1 rfl (fun C h => by cases h) (fun cA => by first | rfl | exact congrArg (arrV cA 6) (funext fun j => rfl)) (by decide) (by decide) (by decide) (Nat.le_of_ble_eq_true rfl) (Nat.le_of_ble_eq_true rfl) dkX1_7 (fun q1 H hP hD hS => ?_)
  have hP : va_P (dC, dI) vwCl ([(h0, .inr (1, [.null, .null, .null])), (q1, .inl (cyI, 6, .inl (fun j : Nat => Int32.ofInt (SI 0 6 j))))]) H := hP
  have hD : va_D A ([(h0, .inr (1, [.null, .null, .null])), (q1, .inl (cyI, 6, .inl (fun j : Nat => Int32.ofInt (SI 0 6 j))))]) := hD
  refine va_putF (D := (dC, dI)) (ci := 1) (v := .ref q1) (ty := .array .int) (C := RX1) (T := TX1) (N := 3) hx hb hts (ob_in (c := 5) (by decide) rfl) tyX1 tyX1_ok nmX1 hown hK hP hD hS 0 rfl rfl 0 (by decide) (hts _ (GW_in (i := 61) (w := .fieldLink RX1 9 "TicketWindows$Draws" "sold" "[I") (by decide +kernel))) (fun _ h9 => h9) rfl hin rfl (by decide +kernel) rfl rfl (Nat.le_of_ble_eq_true rfl) dkX1_9 (fun H locs hP hD hS => ?_)
  have hP : va_P (dC, dI) vwCl ([(h0, .inr (1, [.ref q1, .null, .null])), (q1, .inl (cyI, 6, .inl (fun j : Nat => Int32.ofInt (SI 0 6 j))))]) H := hP
  have hD : va_D A ([(h0, .inr (1, [.ref q1, .null, .null])), (q1, .inl (cyI, 6, .inl (fun j : Nat => Int32.ofInt (SI 0 6 j))))]) := hD
  refine lv_aload_n hx hb dkX1_12 rfl (lv_at hl 0 rfl) ?_
  refine lv_bipush (v := 6) hx hb dkX1_13 (by decide) ?_
  refine nw_arr (atype := .int) (ty := .int) (a0 := (6, .inl (fun _ : Nat => (0 : Int32)))) hx hb (hts _ (GW_in (i := 54) (w := .arrayClass .int) (by decide +kernel))) rfl hK hP hD hS hA 1 rfl (fun C h => by cases h) (fun cA => by first | rfl | exact congrArg (arrV cA 6) (funext fun j => rfl)) (by decide) (by decide) (by decide) (Nat.le_of_ble_eq_true rfl) (Nat.le_of_ble_eq_true rfl) dkX1_15 (fun q2 H hP hD hS => ?_)
  have hP : va_P (dC, dI) vwCl ([(h0, .inr (1, [.ref q1, .null, .null])), (q1, .inl (cyI, 6, .inl (fun j : Nat => Int32.ofInt (SI 0 6 j)))), (q2, .inl (cyI, 6, .inl (fun _ : Nat => (0 : Int32))))]) H := hP
  have hD : va_D A ([(h0, .inr (1, [.ref q1, .null, .null])), (q1, .inl (cyI, 6, .inl (fun j : Nat => Int32.ofInt (SI 0 6 j)))), (q2, .inl (cyI, 6, .inl (fun _ : Nat => (0 : Int32))))]) := hD
  refine va_putF (D := (dC, dI)) (ci := 1) (v := .ref q2) (ty := .array .int) (C := RX1) (T := TX1) (N := 3) hx hb hts (ob_in (c := 5) (by decide) rfl) tyX1 tyX1_ok nmX1 hown hK hP hD hS 0 rfl rfl 1 (by decide) (hts _ (GW_in (i := 63) (w := .fieldLink RX1 15 "TicketWindows$Draws" "winning" "[I") (by decide +kernel))) (fun _ h9 => h9) rfl hin rfl (by decide +kernel) rfl rfl (Nat.le_of_ble_eq_true rfl) dkX1_17 (fun H locs hP hD hS => ?_)
  have hP : va_P (dC, dI) vwCl ([(h0, .inr (1, [.ref q1, .ref q2, .null])), (q1, .inl (cyI, 6, .inl (fun j : Nat => Int32.ofInt (SI 0 6 j)))), (q2, .inl (cyI, 6, .inl (fun _ : Nat => (0 : Int32))))]) H := hP
  have hD : va_D A ([(h0, .inr (1, [.ref q1, .ref q2, .null])), (q1, .inl (cyI, 6, .inl (fun j : Nat => Int32.ofInt (SI 0 6 j)))), (q2, .inl (cyI, 6, .inl (fun _ : Nat => (0 : Int32))))]) := hD
  refine lv_iconst (v := 0) hx hb dkX1_20 (by decide) ?_
  refine lv_istore_n (lv' := [(1, .int 0), (0, .ref h0)]) hx hb dkX1_21 rfl hl (by decide) rfl (fun ls hl => ?_)
  refine lv_iload_n hx hb dkX1_22 rfl (lv_at hl 0 rfl) ?_
  refine lv_bipush (v := 6) hx hb dkX1_23 (by decide) ?_
  refine lv_icmp_ge (tgt := 42) hx hb dkX1_25 (by decide) (fun q => absurd q (by decide)) (fun _ => ?_)
  refine lv_aload_n hx hb dkX1_28 rfl (lv_at hl 1 rfl) ?_
  refine va_get (D := (dC, dI)) (ci := 1) (v := .ref q2) (C := RX1) (T := TX1) (N := 3) hx hb hts (ob_in (c := 5) (by decide) rfl) hown hK hP 0 rfl rfl 1 (by decide) (hts _ (GW_in (i := 63) (w := .fieldLink RX1 15 "TicketWindows$Draws" "winning" "[I") (by decide +kernel))) (fun _ h9 => h9) rfl dkX1_29 ?_
  refine lv_iload_n hx hb dkX1_32 rfl (lv_at hl 0 rfl) ?_
  refine lv_bipush (v := -5) hx hb dkX1_33 (by decide) ?_
  refine va_iast hx hb hK hP hD hS 2 1 rfl rfl (by unfold vp_in; decide) dkX1_35 (fun H locs hP hD hS => ?_)
  have hP : va_P (dC, dI) vwCl ([(h0, .inr (1, [.ref q1, .ref q2, .null])), (q1, .inl (cyI, 6, .inl (fun j : Nat => Int32.ofInt (SI 0 6 j)))), (q2, .inl (cyI, 6, .inl (upd (fun _ : Nat => (0 : Int32)) 0 (-5))))]) H := hP
  have hD : va_D A ([(h0, .inr (1, [.ref q1, .ref q2, .null])), (q1, .inl (cyI, 6, .inl (fun j : Nat => Int32.ofInt (SI 0 6 j)))), (q2, .inl (cyI, 6, .inl (upd (fun _ : Nat => (0 : Int32)) 0 (-5))))]) := hD
  refine lv_iinc (v := 1) (lv' := [(1, .int 1), (0, .ref h0)]) hx hb dkX1_36 hl (k := 0) rfl (by decide) (by decide) rfl (fun ls hl => ?_)
  refine lv_goto (tgt := 22) hx hb dkX1_39 (by decide) ?_
  refine lv_iload_n hx hb dkX1_22 rfl (lv_at hl 0 rfl) ?_
  refine lv_bipush (v := 6) hx hb dkX1_23 (by decide) ?_
  refine lv_icmp_ge (tgt := 42) hx hb dkX1_25 (by decide) (fun q => absurd q (by decide)) (fun _ => ?_)
  refine lv_aload_n hx hb dkX1_28 rfl (lv_at hl 1 rfl) ?_
  refine va_get (D := (dC, dI)) (ci := 1) (v := .ref q2) (C := RX1) (T := TX1) (N := 3) hx hb hts (ob_in (c := 5) (by decide) rfl) hown hK hP 0 rfl rfl 1 (by decide) (hts _ (GW_in (i := 63) (w := .fieldLink RX1 15 "TicketWindows$Draws" "winning" "[I") (by decide +kernel))) (fun _ h9 => h9) rfl dkX1_29 ?_
  refine lv_iload_n hx hb dkX1_32 rfl (lv_at hl 0 rfl) ?_
  refine lv_bipush (v := -5) hx hb dkX1_33 (by decide) ?_
  refine va_iast hx hb hK hP hD hS 2 1 rfl rfl (by unfold vp_in; decide) dkX1_35 (fun H locs hP hD hS => ?_)
  have hP : va_P (dC, dI) vwCl ([(h0, .inr (1, [.ref q1, .ref q2, .null])), (q1, .inl (cyI, 6, .inl (fun j : Nat => Int32.ofInt (SI 0 6 j)))), (q2, .inl (cyI, 6, .inl (upd (upd (fun _ : Nat => (0 : Int32)) 0 (-5)) 1 (-5))))]) H := hP
  have hD : va_D A ([(h0, .inr (1, [.ref q1, .ref q2, .null])), (q1, .inl (cyI, 6, .inl (fun j : Nat => Int32.ofInt (SI 0 6 j)))), (q2, .inl (cyI, 6, .inl (upd (upd (fun _ : Nat => (0 : Int32)) 0 (-5)) 1 (-5))))]) := hD
  refine lv_iinc (v := 2) (lv' := [(1, .int 2), (0, .ref h0)]) hx hb dkX1_36 hl (k := 0) rfl (by decide) (by decide) rfl (fun ls hl => ?_)
  refine lv_goto (tgt := 22) hx hb dkX1_39 (by decide) ?_
  refine lv_iload_n hx hb dkX1_22 rfl (lv_at hl 0 rfl) ?_
  refine lv_bipush (v := 6) hx hb dkX1_23 (by decide) ?_
  refine lv_icmp_ge (tgt := 42) hx hb dkX1_25 (by decide) (fun q => absurd q (by decide)) (fun _ => ?_)
  refine lv_aload_n hx hb dkX1_28 rfl (lv_at hl 1 rfl) ?_
  refine va_get (D := (dC, dI)) (ci := 1) (v := .ref q2) (C := RX1) (T := TX1) (N := 3) hx hb hts (ob_in (c := 5) (by decide) rfl) hown hK hP 0 rfl rfl 1 (by decide) (hts _ (GW_in (i := 63) (w := .fieldLink RX1 15 "TicketWindows$Draws" "winning" "[I") (by decide +kernel))) (fun _ h9 => h9) rfl dkX1_29 ?_
  refine lv_iload_n hx hb dkX1_32 rfl (lv_at hl 0 rfl) ?_
  refine lv_bipush (v := -5) hx hb dkX1_33 (by decide) ?_
  refine va_iast hx hb hK hP hD hS 2 1 rfl rfl (by unfold vp_in; decide) dkX1_35 (fun H locs hP hD hS => ?_)
  have hP : va_P (dC, dI) vwCl ([(h0, .inr (1, [.ref q1, .ref q2, .null])), (q1, .inl (cyI, 6, .inl (fun j : Nat => Int32.ofInt (SI 0 6 j)))), (q2, .inl (cyI, 6, .inl (upd (upd (upd (fun _ : Nat => (0 : Int32)) 0 (-5)) 1 (-5)) 2 (-5))))]) H := hP
  have hD : va_D A ([(h0, .inr (1, [.ref q1, .ref q2, .null])), (q1, .inl (cyI, 6, .inl (fun j : Nat => Int32.ofInt (SI 0 6 j)))), (q2, .inl (cyI, 6, .inl (upd (upd (upd (fun _ : Nat => (0 : Int32)) 0 (-5)) 1 (-5)) 2 (-5))))]) := hD
  refine lv_iinc (v := 3) (lv' := [(1, .int 3), (0, .ref h0)]) hx hb dkX1_36 hl (k := 0) rfl (by decide) (by decide) rfl (fun ls hl => ?_)
  refine lv_goto (tgt := 22) hx hb dkX1_39 (by decide) ?_
  refine lv_iload_n hx hb dkX1_22 rfl (lv_at hl 0 rfl) ?_
  refine lv_bipush (v := 6) hx hb dkX1_23 (by decide) ?_
  refine lv_icmp_ge (tgt := 42) hx hb dkX1_25 (by decide) (fun q => absurd q (by decide)) (fun _ => ?_)
  refine lv_aload_n hx hb dkX1_28 rfl (lv_at hl 1 rfl) ?_
  refine va_get (D := (dC, dI)) (ci := 1) (v := .ref q2) (C := RX1) (T := TX1) (N := 3) hx hb hts (ob_in (c := 5) (by decide) rfl) hown hK hP 0 rfl rfl 1 (by decide) (hts _ (GW_in (i := 63) (w := .fieldLink RX1 15 "TicketWindows$Draws" "winning" "[I") (by decide +kernel))) (fun _ h9 => h9) rfl dkX1_29 ?_
  refine lv_iload_n hx hb dkX1_32 rfl (lv_at hl 0 rfl) ?_
  refine lv_bipush (v := -5) hx hb dkX1_33 (by decide) ?_
  refine va_iast hx hb hK hP hD hS 2 1 rfl rfl (by unfold vp_in; decide) dkX1_35 (fun H locs hP hD hS => ?_)
  have hP : va_P (dC, dI) vwCl ([(h0, .inr (1, [.ref q1, .ref q2, .null])), (q1, .inl (cyI, 6, .inl (fun j : Nat => Int32.ofInt (SI 0 6 j)))), (q2, .inl (cyI, 6, .inl (upd (upd (upd (upd (fun _ : Nat => (0 : Int32)) 0 (-5)) 1 (-5)) 2 (-5)) 3 (-5))))]) H := hP
  have hD : va_D A ([(h0, .inr (1, [.ref q1, .ref q2, .null])), (q1, .inl (cyI, 6, .inl (fun j : Nat => Int32.ofInt (SI 0 6 j)))), (q2, .inl (cyI, 6, .inl (upd (upd (upd (upd (fun _ : Nat => (0 : Int32)) 0 (-5)) 1 (-5)) 2 (-5)) 3 (-5))))]) := hD
  refine lv_iinc (v := 4) (lv' := [(1, .int 4), (0, .ref h0)]) hx hb dkX1_36 hl (k := 0) rfl (by decide) (by decide) rfl (fun ls hl => ?_)
  refine lv_goto (tgt := 22) hx hb dkX1_39 (by decide) ?_
  refine lv_iload_n hx hb dkX1_22 rfl (lv_at hl 0 rfl) ?_
  refine lv_bipush (v := 6) hx hb dkX1_23 (by decide) ?_
  refine lv_icmp_ge (tgt := 42) hx hb dkX1_25 (by decide) (fun q => absurd q (by decide)) (fun _ => ?_)
  refine lv_aload_n hx hb dkX1_28 rfl (lv_at hl 1 rfl) ?_
  refine va_get (D := (dC, dI)) (ci := 1) (v := .ref q2) (C := RX1) (T := TX1) (N := 3) hx hb hts (ob_in (c := 5) (by decide) rfl) hown hK hP 0 rfl rfl 1 (by decide) (hts _ (GW_in (i := 63) (w := .fieldLink RX1 15 "TicketWindows$Draws" "winning" "[I") (by decide +kernel))) (fun _ h9 => h9) rfl dkX1_29 ?_
  refine lv_iload_n hx hb dkX1_32 rfl (lv_at hl 0 rfl) ?_
  refine lv_bipush (v := -5) hx hb dkX1_33 (by decide) ?_
  refine va_iast hx hb hK hP hD hS 2 1 rfl rfl (by unfold vp_in; decide) dkX1_35 (fun H locs hP hD hS => ?_)
  have hP : va_P (dC, dI) vwCl ([(h0, .inr (1, [.ref q1, .ref q2, .null])), (q1, .inl (cyI, 6, .inl (fun j : Nat => Int32.ofInt (SI 0 6 j)))), (q2, .inl (cyI, 6, .inl (upd (upd (upd (upd (upd (fun _ : Nat => (0 : Int32)) 0 (-5)) 1 (-5)) 2 (-5)) 3 (-5)) 4 (-5))))]) H := hP
  have hD : va_D A ([(h0, .inr (1, [.ref q1, .ref q2, .null])), (q1, .inl (cyI, 6, .inl (fun j : Nat => Int32.ofInt (SI 0 6 j)))), (q2, .inl (cyI, 6, .inl (upd (upd (upd (upd (upd (fun _ : Nat => (0 : Int32)) 0 (-5)) 1 (-5)) 2 (-5)) 3 (-5)) 4 (-5))))]) := hD
  refine lv_iinc (v := 5) (lv' := [(1, .int 5), (0, .ref h0)]) hx hb dkX1_36 hl (k := 0) rfl (by decide) (by decide) rfl (fun ls hl => ?_)
  refine lv_goto (tgt := 22) hx hb dkX1_39 (by decide) ?_
  refine lv_iload_n hx hb dkX1_22 rfl (lv_at hl 0 rfl) ?_
  refine lv_bipush (v := 6) hx hb dkX1_23 (by decide) ?_
  refine lv_icmp_ge (tgt := 42) hx hb dkX1_25 (by decide) (fun q => absurd q (by decide)) (fun _ => ?_)
  refine lv_aload_n hx hb dkX1_28 rfl (lv_at hl 1 rfl) ?_
  refine va_get (D := (dC, dI)) (ci := 1) (v := .ref q2) (C := RX1) (T := TX1) (N := 3) hx hb hts (ob_in (c := 5) (by decide) rfl) hown hK hP 0 rfl rfl 1 (by decide) (hts _ (GW_in (i := 63) (w := .fieldLink RX1 15 "TicketWindows$Draws" "winning" "[I") (by decide +kernel))) (fun _ h9 => h9) rfl dkX1_29 ?_
  refine lv_iload_n hx hb dkX1_32 rfl (lv_at hl 0 rfl) ?_
  refine lv_bipush (v := -5) hx hb dkX1_33 (by decide) ?_
  refine va_iast hx hb hK hP hD hS 2 1 rfl rfl (by unfold vp_in; decide) dkX1_35 (fun H locs hP hD hS => ?_)
  have hP : va_P (dC, dI) vwCl ([(h0, .inr (1, [.ref q1, .ref q2, .null])), (q1, .inl (cyI, 6, .inl (fun j : Nat => Int32.ofInt (SI 0 6 j)))), (q2, .inl (cyI, 6, .inl (upd (upd (upd (upd (upd (upd (fun _ : Nat => (0 : Int32)) 0 (-5)) 1 (-5)) 2 (-5)) 3 (-5)) 4 (-5)) 5 (-5))))]) H := hP
  have hD : va_D A ([(h0, .inr (1, [.ref q1, .ref q2, .null])), (q1, .inl (cyI, 6, .inl (fun j : Nat => Int32.ofInt (SI 0 6 j)))), (q2, .inl (cyI, 6, .inl (upd (upd (upd (upd (upd (upd (fun _ : Nat => (0 : Int32)) 0 (-5)) 1 (-5)) 2 (-5)) 3 (-5)) 4 (-5)) 5 (-5))))]) := hD
  refine lv_iinc (v := 6) (lv' := [(1, .int 6), (0, .ref h0)]) hx hb dkX1_36 hl (k := 0) rfl (by decide) (by decide) rfl (fun ls hl => ?_)
  refine lv_goto (tgt := 22) hx hb dkX1_39 (by decide) ?_
  refine lv_iload_n hx hb dkX1_22 rfl (lv_at hl 0 rfl) ?_
  refine lv_bipush (v := 6) hx hb dkX1_23 (by decide) ?_
  refine lv_icmp_ge (tgt := 42) hx hb dkX1_25 (by decide) (fun _ => ?_) (fun q => absurd (by decide) q)
  refine lv_aload_n hx hb dkX1_42 rfl (lv_at hl 1 rfl) ?_
  refine lv_bipush (v := 18) hx hb dkX1_43 (by decide) ?_
  refine nw_arr (atype := .int) (ty := .int) (a0 := (18, .inl (fun j : Nat => Int32.ofInt (SI 0 8 j)))) hx hb (hts _ (GW_in (i := 54) (w := .arrayClass .int) (by decide +kernel))) rfl hK hP hD hS hA 1 rfl (fun C h => by cases h) (fun cA => by first | rfl | exact congrArg (arrV cA 18) (funext fun j => rfl)) (by decide) (by decide) (by decide) (Nat.le_of_ble_eq_true rfl) (Nat.le_of_ble_eq_true rfl) dkX1_45 (fun q3 H hP hD hS => ?_)
  have hP : va_P (dC, dI) vwCl ([(h0, .inr (1, [.ref q1, .ref q2, .null])), (q1, .inl (cyI, 6, .inl (fun j : Nat => Int32.ofInt (SI 0 6 j)))), (q2, .inl (cyI, 6, .inl (upd (upd (upd (upd (upd (upd (fun _ : Nat => (0 : Int32)) 0 (-5)) 1 (-5)) 2 (-5)) 3 (-5)) 4 (-5)) 5 (-5)))), (q3, .inl (cyI, 18, .inl (fun j : Nat => Int32.ofInt (SI 0 8 j))))]) H := hP
  have hD : va_D A ([(h0, .inr (1, [.ref q1, .ref q2, .null])), (q1, .inl (cyI, 6, .inl (fun j : Nat => Int32.ofInt (SI 0 6 j)))), (q2, .inl (cyI, 6, .inl (upd (upd (upd (upd (upd (upd (fun _ : Nat => (0 : Int32)) 0 (-5)) 1 (-5)) 2 (-5)) 3 (-5)) 4 (-5)) 5 (-5)))), (q3, .inl (cyI, 18, .inl (fun j : Nat => Int32.ofInt (SI 0 8 j))))]) := hD
  refine va_putF (D := (dC, dI)) (ci := 1) (v := .ref q3) (ty := .array .int) (C := RX1) (T := TX1) (N := 3) hx hb hts (ob_in (c := 5) (by decide) rfl) tyX1 tyX1_ok nmX1 hown hK hP hD hS 0 rfl rfl 2 (by decide) (hts _ (GW_in (i := 65) (w := .fieldLink RX1 18 "TicketWindows$Draws" "winners" "[I") (by decide +kernel))) (fun _ h9 => h9) rfl hin rfl (by decide +kernel) rfl rfl (Nat.le_of_ble_eq_true rfl) dkX1_47 (fun H locs hP hD hS => ?_)
  have hP : va_P (dC, dI) vwCl ([(h0, .inr (1, [.ref q1, .ref q2, .ref q3])), (q1, .inl (cyI, 6, .inl (fun j : Nat => Int32.ofInt (SI 0 6 j)))), (q2, .inl (cyI, 6, .inl (upd (upd (upd (upd (upd (upd (fun _ : Nat => (0 : Int32)) 0 (-5)) 1 (-5)) 2 (-5)) 3 (-5)) 4 (-5)) 5 (-5)))), (q3, .inl (cyI, 18, .inl (fun j : Nat => Int32.ofInt (SI 0 8 j))))]) H := hP
  have hD : va_D A ([(h0, .inr (1, [.ref q1, .ref q2, .ref q3])), (q1, .inl (cyI, 6, .inl (fun j : Nat => Int32.ofInt (SI 0 6 j)))), (q2, .inl (cyI, 6, .inl (upd (upd (upd (upd (upd (upd (fun _ : Nat => (0 : Int32)) 0 (-5)) 1 (-5)) 2 (-5)) 3 (-5)) 4 (-5)) 5 (-5)))), (q3, .inl (cyI, 18, .inl (fun j : Nat => Int32.ofInt (SI 0 8 j))))]) := hD
  have hf7 : (upd (upd (upd (upd (upd (upd (fun _ : Nat => (0 : Int32)) 0 (-5)) 1 (-5)) 2 (-5)) 3 (-5)) 4 (-5)) 5 (-5)) = (fun j : Nat => Int32.ofInt (SI 0 7 j)) := by
    funext j
    rcases Nat.lt_or_ge j 6 with h | h
    · rcases (show j = 0 ∨ j = 1 ∨ j = 2 ∨ j = 3 ∨ j = 4 ∨ j = 5 by omega) with rfl | rfl | rfl | rfl | rfl | rfl <;> rfl
    · unfold upd
      rw [if_neg (by omega), if_neg (by omega), if_neg (by omega), if_neg (by omega), if_neg (by omega), if_neg (by omega)]
      have e : SI 0 7 (j : Int) = 0 := by
        simp only [SI, Nat.reduceEqDiff, ↓reduceIte]
        rw [if_neg (by omega)]
      rw [e]
      rfl
  rw [hf7] at hP hD
  have hP9 : va_P (dC, dI) vwCl (bk cyC cyI cyO [5, 6, 7, 8] (fun c => [h0, q1, q2, q3].getD (c - 5) 0)) H := hP
  have hD9 : va_D A (bk cyC cyI cyO [5, 6, 7, 8] (fun c => [h0, q1, q2, q3].getD (c - 5) 0)) := hD
  refine W.widen (k := 3) (n := 30) (Nat.le_of_ble_eq_true rfl) (Nat.le_of_ble_eq_true rfl) ?_
  exact W.vret hx hb hr (fun t ht hW => ⟨⟨(fun c => [h0, q1, q2, q3].getD (c - 5) 0), rfl, trivial, by rw [ht]; exact hP9, hAe ▸ hD9, rfl⟩, hAe ▸ hS.F ht⟩) (hAe ▸ hS.2.2) dkX1_50
theorem dkX2_0 : decode cX2_init 0 = .ok (.aload_n 0, 1) := by decide +kernel
theorem dkX2_1 : decode cX2_init 1 = .ok (.invokespecial 3, 3) := by decide +kernel
theorem dkX2_4 : decode cX2_init 4 = .ok (.aload_n 0, 1) := by decide +kernel
theorem dkX2_5 : decode cX2_init 5 = .ok (.sipush 150, 3) := by decide +kernel
theorem dkX2_8 : decode cX2_init 8 = .ok (.newarray .int, 2) := by decide +kernel
theorem dkX2_10 : decode cX2_init 10 = .ok (.putfield 9, 3) := by decide +kernel
theorem dkX2_13 : decode cX2_init 13 = .ok (.aload_n 0, 1) := by decide +kernel
theorem dkX2_14 : decode cX2_init 14 = .ok (.sipush 150, 3) := by decide +kernel
theorem dkX2_17 : decode cX2_init 17 = .ok (.newarray .int, 2) := by decide +kernel
theorem dkX2_19 : decode cX2_init 19 = .ok (.putfield 15, 3) := by decide +kernel
theorem dkX2_22 : decode cX2_init 22 = .ok (.return_, 1) := by decide +kernel
set_option maxHeartbeats 8000000 in
set_option maxRecDepth 100000 in
theorem k_Mail (l : Launch) (dC : Nat → ClassId) (dI : Nat → Nat → Nat) (cyC cyI cyO : ClassId) (rho : Nat → Nat → Nat) (Bd Ln : Nat) (xs : Int → Int) (h0 sz : Nat) : Met l yX2_init (.code yX2_init cX2_init 1 none :: GW) ({ frames := 1, cells := 2, slots := 300, locals := 12 }) (va_Pc [.ref h0] (fun U => U.heap.size = sz ∧ ((Bd ≤ h0 ∧ Bd ≤ sz) ∧ (∀ c, 36 ≤ c → c < 41 → ¬ Bd ≤ rho 0 c)) ∧ va_P (dC, dI) vwCl [(h0, .inr (2, [.int 0, .null, .null]))] U.heap ∧ St0 dC dI cyC cyI cyO rho (fun q => Bd ≤ q) Ln xs U)) (va_Qv (fun _ : Nat → Nat => True) (fun (ad : Nat → Nat) t => va_P (dC, dI) vwCl (bk cyC cyI cyO [18, 19, 20] ad) t.heap ∧ va_D (va_A [(h0, .inr (2, [.int 0, .null, .null]))] sz) (bk cyC cyI cyO [18, 19, 20] ad) ∧ ad 18 = h0) (va_A [(h0, .inr (2, [.int 0, .null, .null]))] sz)) 2 300 (va_A [(h0, .inr (2, [.int 0, .null, .null]))] sz) := by
  refine Met.ofW (cc := cX2_init) (maxL := 1) (ret := none) (by decide) rfl ?_
  intro p e s m args below meth c s₁ B hml hv
  obtain ⟨rfl, hsz, ⟨⟨hBh, hBs⟩, hro⟩, hP, hSt⟩ := hv
  have hx := B.exec
  have hb := B.bytes
  have hr := B.returns
  have hts0 := atoms_spec (ws := .code yX2_init cX2_init 1 none :: GW) B.pre
  have hts : ∀ w ∈ GW, w.before _ s = true := fun w hw => hts0 w (List.mem_cons_of_mem _ hw)
  have hown : s.vm.findClass RX2 = some m.cls := findClass_of_methodNamed B.named
  have hlocks := B.notSynchronized
  have hin : meth.name = "<init>" := (name_of_methodNamed B.named B.method).1
  have hK := hSt.1
  subst hsz
  have hD : va_D (va_A [(h0, .inr (2, [.int 0, .null, .null]))] s.heap.size) [(h0, .inr (2, [.int 0, .null, .null]))] := D_nd.mpr ⟨by simp, fun q hq => by
    rw [List.mem_singleton] at hq
    rw [hq]
    exact Or.inl ⟨0, _, rfl⟩⟩
  have hAB0 : ∀ q, va_A [(h0, .inr (2, [.int 0, .null, .null]))] s.heap.size q → Bd ≤ q := fun q h => by
    rcases h with ⟨k, e, h⟩ | h
    · have h1 := List.mem_of_getElem? h
      rw [List.mem_singleton] at h1
      cases h1
      exact hBh
    · exact Nat.le_trans hBs h
  have hA0 : ∀ q : Nat, s.heap.size ≤ q → va_A [(h0, .inr (2, [.int 0, .null, .null]))] s.heap.size q := fun q h => Or.inr h
  generalize hAe : va_A [(h0, .inr (2, [.int 0, .null, .null]))] s.heap.size = A at hD hAB0 hA0 ⊢
  have hAB := hAB0
  have hA := hA0
  have hSB : ∀ {H : Heap} {locs : List Loc}, va_S A s.heap H locs → va_S (fun q => Bd ≤ q) s.heap H locs := fun h => ⟨h.1, fun q h1 h2 => h.2.1 q h1 (fun z => h2 (hAB q z)), fun l hl => hAB _ (h.2.2 l hl)⟩
  have hS : va_S A s.heap s.heap [] := va_S.rf
  have hl := lv_entry ([.ref h0]) (n := 1) (Nat.le_of_ble_eq_true rfl)
  rw [lg_entry_eq]
  generalize (lg_sl ([.ref h0]) ++ List.replicate (1 - (lg_sl ([.ref h0])).length) Slot.unset).toArray = ls at hl ⊢
  have hl : lv_has ls 1 [(0, .ref h0)] := hl
  have hP : va_P (dC, dI) vwCl [(h0, .inr (2, [.int 0, .null, .null]))] s.heap := hP
  refine lv_aload_n hx hb dkX2_0 rfl (lv_at hl 0 rfl) ?_
  refine W.objInit hx hb hown (hts _ (GW_in (i := 110) (w := .methodLink RX2 3 objectInit) (by decide +kernel))) (hts _ (GW_in (i := 31) (w := .instanceMethod objectInit) (by decide +kernel))) (hts _ (GW_in (i := 32) (w := .code objectInit ⟨#[0xb1]⟩ 1 none) (by decide +kernel))) rfl (by rw [hml]; exact hl.1) rfl dkX2_1 (Nat.le_of_ble_eq_true rfl) (Nat.le_of_ble_eq_true rfl) ?_
  refine W.eq (g2 := F0 m 4 ls []) rfl ?_
  refine lv_aload_n hx hb dkX2_4 rfl (lv_at hl 0 rfl) ?_
  refine lv_sipush (v := 150) hx hb dkX2_5 (by decide) ?_
  refine nw_arr (atype := .int) (ty := .int) (a0 := (150, .inl (fun j : Nat => Int32.ofInt (SI 0 19 j)))) hx hb (hts _ (GW_in (i := 54) (w := .arrayClass .int) (by decide +kernel))) rfl hK hP hD hS hA 1 rfl (fun C h => by cases h) (fun cA => by first | rfl | exact congrArg (arrV cA 150) (funext fun j => rfl)) (by decide) (by decide) (by decide) (Nat.le_of_ble_eq_true rfl) (Nat.le_of_ble_eq_true rfl) dkX2_8 (fun q1 H hP hD hS => ?_)
  have hP : va_P (dC, dI) vwCl ([(h0, .inr (2, [.int 0, .null, .null])), (q1, .inl (cyI, 150, .inl (fun j : Nat => Int32.ofInt (SI 0 19 j))))]) H := hP
  have hD : va_D A ([(h0, .inr (2, [.int 0, .null, .null])), (q1, .inl (cyI, 150, .inl (fun j : Nat => Int32.ofInt (SI 0 19 j))))]) := hD
  refine va_putF (D := (dC, dI)) (ci := 2) (v := .ref q1) (ty := .array .int) (C := RX2) (T := TX2) (N := 3) hx hb hts (ob_in (c := 18) (by decide) rfl) tyX2 tyX2_ok nmX2 hown hK hP hD hS 0 rfl rfl 1 (by decide) (hts _ (GW_in (i := 113) (w := .fieldLink RX2 9 "TicketWindows$Mail" "due" "[I") (by decide +kernel))) (fun _ h9 => h9) rfl hin rfl (by decide +kernel) rfl rfl (Nat.le_of_ble_eq_true rfl) dkX2_10 (fun H locs hP hD hS => ?_)
  have hP : va_P (dC, dI) vwCl ([(h0, .inr (2, [.int 0, .ref q1, .null])), (q1, .inl (cyI, 150, .inl (fun j : Nat => Int32.ofInt (SI 0 19 j))))]) H := hP
  have hD : va_D A ([(h0, .inr (2, [.int 0, .ref q1, .null])), (q1, .inl (cyI, 150, .inl (fun j : Nat => Int32.ofInt (SI 0 19 j))))]) := hD
  refine lv_aload_n hx hb dkX2_13 rfl (lv_at hl 0 rfl) ?_
  refine lv_sipush (v := 150) hx hb dkX2_14 (by decide) ?_
  refine nw_arr (atype := .int) (ty := .int) (a0 := (150, .inl (fun j : Nat => Int32.ofInt (SI 0 20 j)))) hx hb (hts _ (GW_in (i := 54) (w := .arrayClass .int) (by decide +kernel))) rfl hK hP hD hS hA 1 rfl (fun C h => by cases h) (fun cA => by first | rfl | exact congrArg (arrV cA 150) (funext fun j => rfl)) (by decide) (by decide) (by decide) (Nat.le_of_ble_eq_true rfl) (Nat.le_of_ble_eq_true rfl) dkX2_17 (fun q2 H hP hD hS => ?_)
  have hP : va_P (dC, dI) vwCl ([(h0, .inr (2, [.int 0, .ref q1, .null])), (q1, .inl (cyI, 150, .inl (fun j : Nat => Int32.ofInt (SI 0 19 j)))), (q2, .inl (cyI, 150, .inl (fun j : Nat => Int32.ofInt (SI 0 20 j))))]) H := hP
  have hD : va_D A ([(h0, .inr (2, [.int 0, .ref q1, .null])), (q1, .inl (cyI, 150, .inl (fun j : Nat => Int32.ofInt (SI 0 19 j)))), (q2, .inl (cyI, 150, .inl (fun j : Nat => Int32.ofInt (SI 0 20 j))))]) := hD
  refine va_putF (D := (dC, dI)) (ci := 2) (v := .ref q2) (ty := .array .int) (C := RX2) (T := TX2) (N := 3) hx hb hts (ob_in (c := 18) (by decide) rfl) tyX2 tyX2_ok nmX2 hown hK hP hD hS 0 rfl rfl 2 (by decide) (hts _ (GW_in (i := 114) (w := .fieldLink RX2 15 "TicketWindows$Mail" "content" "[I") (by decide +kernel))) (fun _ h9 => h9) rfl hin rfl (by decide +kernel) rfl rfl (Nat.le_of_ble_eq_true rfl) dkX2_19 (fun H locs hP hD hS => ?_)
  have hP : va_P (dC, dI) vwCl ([(h0, .inr (2, [.int 0, .ref q1, .ref q2])), (q1, .inl (cyI, 150, .inl (fun j : Nat => Int32.ofInt (SI 0 19 j)))), (q2, .inl (cyI, 150, .inl (fun j : Nat => Int32.ofInt (SI 0 20 j))))]) H := hP
  have hD : va_D A ([(h0, .inr (2, [.int 0, .ref q1, .ref q2])), (q1, .inl (cyI, 150, .inl (fun j : Nat => Int32.ofInt (SI 0 19 j)))), (q2, .inl (cyI, 150, .inl (fun j : Nat => Int32.ofInt (SI 0 20 j))))]) := hD
  have hP9 : va_P (dC, dI) vwCl (bk cyC cyI cyO [18, 19, 20] (fun c => [h0, q1, q2].getD (c - 18) 0)) H := hP
  have hD9 : va_D A (bk cyC cyI cyO [18, 19, 20] (fun c => [h0, q1, q2].getD (c - 18) 0)) := hD
  refine W.widen (k := 2) (n := 300) (Nat.le_of_ble_eq_true rfl) (Nat.le_of_ble_eq_true rfl) ?_
  exact W.vret hx hb hr (fun t ht hW => ⟨⟨(fun c => [h0, q1, q2].getD (c - 18) 0), rfl, trivial, by rw [ht]; exact hP9, hAe ▸ hD9, rfl⟩, hAe ▸ hS.F ht⟩) (hAe ▸ hS.2.2) dkX2_22
theorem dkX5_0 : decode cX5_init 0 = .ok (.aload_n 0, 1) := by decide +kernel
theorem dkX5_1 : decode cX5_init 1 = .ok (.invokespecial 3, 3) := by decide +kernel
theorem dkX5_4 : decode cX5_init 4 = .ok (.aload_n 0, 1) := by decide +kernel
theorem dkX5_5 : decode cX5_init 5 = .ok (.sipush 600, 3) := by decide +kernel
theorem dkX5_8 : decode cX5_init 8 = .ok (.newarray .int, 2) := by decide +kernel
theorem dkX5_10 : decode cX5_init 10 = .ok (.putfield 9, 3) := by decide +kernel
theorem dkX5_13 : decode cX5_init 13 = .ok (.aload_n 0, 1) := by decide +kernel
theorem dkX5_14 : decode cX5_init 14 = .ok (.sipush 600, 3) := by decide +kernel
theorem dkX5_17 : decode cX5_init 17 = .ok (.newarray .int, 2) := by decide +kernel
theorem dkX5_19 : decode cX5_init 19 = .ok (.putfield 15, 3) := by decide +kernel
theorem dkX5_22 : decode cX5_init 22 = .ok (.return_, 1) := by decide +kernel
set_option maxHeartbeats 8000000 in
set_option maxRecDepth 100000 in
theorem k_Tickets (l : Launch) (dC : Nat → ClassId) (dI : Nat → Nat → Nat) (cyC cyI cyO : ClassId) (rho : Nat → Nat → Nat) (Bd Ln : Nat) (xs : Int → Int) (h0 sz : Nat) : Met l yX5_init (.code yX5_init cX5_init 1 none :: GW) ({ frames := 1, cells := 2, slots := 1200, locals := 12 }) (va_Pc [.ref h0] (fun U => U.heap.size = sz ∧ ((Bd ≤ h0 ∧ Bd ≤ sz) ∧ (∀ c, 36 ≤ c → c < 41 → ¬ Bd ≤ rho 0 c)) ∧ va_P (dC, dI) vwCl [(h0, .inr (5, [.null, .null]))] U.heap ∧ St0 dC dI cyC cyI cyO rho (fun q => Bd ≤ q) Ln xs U)) (va_Qv (fun _ : Nat → Nat => True) (fun (ad : Nat → Nat) t => va_P (dC, dI) vwCl (bk cyC cyI cyO [2, 3, 4] ad) t.heap ∧ va_D (va_A [(h0, .inr (5, [.null, .null]))] sz) (bk cyC cyI cyO [2, 3, 4] ad) ∧ ad 2 = h0) (va_A [(h0, .inr (5, [.null, .null]))] sz)) 2 1200 (va_A [(h0, .inr (5, [.null, .null]))] sz) := by
  refine Met.ofW (cc := cX5_init) (maxL := 1) (ret := none) (by decide) rfl ?_
  intro p e s m args below meth c s₁ B hml hv
  obtain ⟨rfl, hsz, ⟨⟨hBh, hBs⟩, hro⟩, hP, hSt⟩ := hv
  have hx := B.exec
  have hb := B.bytes
  have hr := B.returns
  have hts0 := atoms_spec (ws := .code yX5_init cX5_init 1 none :: GW) B.pre
  have hts : ∀ w ∈ GW, w.before _ s = true := fun w hw => hts0 w (List.mem_cons_of_mem _ hw)
  have hown : s.vm.findClass RX5 = some m.cls := findClass_of_methodNamed B.named
  have hlocks := B.notSynchronized
  have hin : meth.name = "<init>" := (name_of_methodNamed B.named B.method).1
  have hK := hSt.1
  subst hsz
  have hD : va_D (va_A [(h0, .inr (5, [.null, .null]))] s.heap.size) [(h0, .inr (5, [.null, .null]))] := D_nd.mpr ⟨by simp, fun q hq => by
    rw [List.mem_singleton] at hq
    rw [hq]
    exact Or.inl ⟨0, _, rfl⟩⟩
  have hAB0 : ∀ q, va_A [(h0, .inr (5, [.null, .null]))] s.heap.size q → Bd ≤ q := fun q h => by
    rcases h with ⟨k, e, h⟩ | h
    · have h1 := List.mem_of_getElem? h
      rw [List.mem_singleton] at h1
      cases h1
      exact hBh
    · exact Nat.le_trans hBs h
  have hA0 : ∀ q : Nat, s.heap.size ≤ q → va_A [(h0, .inr (5, [.null, .null]))] s.heap.size q := fun q h => Or.inr h
  generalize hAe : va_A [(h0, .inr (5, [.null, .null]))] s.heap.size = A at hD hAB0 hA0 ⊢
  have hAB := hAB0
  have hA := hA0
  have hSB : ∀ {H : Heap} {locs : List Loc}, va_S A s.heap H locs → va_S (fun q => Bd ≤ q) s.heap H locs := fun h => ⟨h.1, fun q h1 h2 => h.2.1 q h1 (fun z => h2 (hAB q z)), fun l hl => hAB _ (h.2.2 l hl)⟩
  have hS : va_S A s.heap s.heap [] := va_S.rf
  have hl := lv_entry ([.ref h0]) (n := 1) (Nat.le_of_ble_eq_true rfl)
  rw [lg_entry_eq]
  generalize (lg_sl ([.ref h0]) ++ List.replicate (1 - (lg_sl ([.ref h0])).length) Slot.unset).toArray = ls at hl ⊢
  have hl : lv_has ls 1 [(0, .ref h0)] := hl
  have hP : va_P (dC, dI) vwCl [(h0, .inr (5, [.null, .null]))] s.heap := hP
  refine lv_aload_n hx hb dkX5_0 rfl (lv_at hl 0 rfl) ?_
  refine W.objInit hx hb hown (hts _ (GW_in (i := 46) (w := .methodLink RX5 3 objectInit) (by decide +kernel))) (hts _ (GW_in (i := 31) (w := .instanceMethod objectInit) (by decide +kernel))) (hts _ (GW_in (i := 32) (w := .code objectInit ⟨#[0xb1]⟩ 1 none) (by decide +kernel))) rfl (by rw [hml]; exact hl.1) rfl dkX5_1 (Nat.le_of_ble_eq_true rfl) (Nat.le_of_ble_eq_true rfl) ?_
  refine W.eq (g2 := F0 m 4 ls []) rfl ?_
  refine lv_aload_n hx hb dkX5_4 rfl (lv_at hl 0 rfl) ?_
  refine lv_sipush (v := 600) hx hb dkX5_5 (by decide) ?_
  refine nw_arr (atype := .int) (ty := .int) (a0 := (600, .inl (fun j : Nat => Int32.ofInt (SI 0 3 j)))) hx hb (hts _ (GW_in (i := 54) (w := .arrayClass .int) (by decide +kernel))) rfl hK hP hD hS hA 1 rfl (fun C h => by cases h) (fun cA => by first | rfl | exact congrArg (arrV cA 600) (funext fun j => rfl)) (by decide) (by decide) (by decide) (Nat.le_of_ble_eq_true rfl) (Nat.le_of_ble_eq_true rfl) dkX5_8 (fun q1 H hP hD hS => ?_)
  have hP : va_P (dC, dI) vwCl ([(h0, .inr (5, [.null, .null])), (q1, .inl (cyI, 600, .inl (fun j : Nat => Int32.ofInt (SI 0 3 j))))]) H := hP
  have hD : va_D A ([(h0, .inr (5, [.null, .null])), (q1, .inl (cyI, 600, .inl (fun j : Nat => Int32.ofInt (SI 0 3 j))))]) := hD
  refine va_putF (D := (dC, dI)) (ci := 5) (v := .ref q1) (ty := .array .int) (C := RX5) (T := TX5) (N := 2) hx hb hts (ob_in (c := 2) (by decide) rfl) tyX5 tyX5_ok nmX5 hown hK hP hD hS 0 rfl rfl 0 (by decide) (hts _ (GW_in (i := 47) (w := .fieldLink RX5 9 "TicketWindows$Tickets" "facts" "[I") (by decide +kernel))) (fun _ h9 => h9) rfl hin rfl (by decide +kernel) rfl rfl (Nat.le_of_ble_eq_true rfl) dkX5_10 (fun H locs hP hD hS => ?_)
  have hP : va_P (dC, dI) vwCl ([(h0, .inr (5, [.ref q1, .null])), (q1, .inl (cyI, 600, .inl (fun j : Nat => Int32.ofInt (SI 0 3 j))))]) H := hP
  have hD : va_D A ([(h0, .inr (5, [.ref q1, .null])), (q1, .inl (cyI, 600, .inl (fun j : Nat => Int32.ofInt (SI 0 3 j))))]) := hD
  refine lv_aload_n hx hb dkX5_13 rfl (lv_at hl 0 rfl) ?_
  refine lv_sipush (v := 600) hx hb dkX5_14 (by decide) ?_
  refine nw_arr (atype := .int) (ty := .int) (a0 := (600, .inl (fun j : Nat => Int32.ofInt (SI 0 4 j)))) hx hb (hts _ (GW_in (i := 54) (w := .arrayClass .int) (by decide +kernel))) rfl hK hP hD hS hA 1 rfl (fun C h => by cases h) (fun cA => by first | rfl | exact congrArg (arrV cA 600) (funext fun j => rfl)) (by decide) (by decide) (by decide) (Nat.le_of_ble_eq_true rfl) (Nat.le_of_ble_eq_true rfl) dkX5_17 (fun q2 H hP hD hS => ?_)
  have hP : va_P (dC, dI) vwCl ([(h0, .inr (5, [.ref q1, .null])), (q1, .inl (cyI, 600, .inl (fun j : Nat => Int32.ofInt (SI 0 3 j)))), (q2, .inl (cyI, 600, .inl (fun j : Nat => Int32.ofInt (SI 0 4 j))))]) H := hP
  have hD : va_D A ([(h0, .inr (5, [.ref q1, .null])), (q1, .inl (cyI, 600, .inl (fun j : Nat => Int32.ofInt (SI 0 3 j)))), (q2, .inl (cyI, 600, .inl (fun j : Nat => Int32.ofInt (SI 0 4 j))))]) := hD
  refine va_putF (D := (dC, dI)) (ci := 5) (v := .ref q2) (ty := .array .int) (C := RX5) (T := TX5) (N := 2) hx hb hts (ob_in (c := 2) (by decide) rfl) tyX5 tyX5_ok nmX5 hown hK hP hD hS 0 rfl rfl 1 (by decide) (hts _ (GW_in (i := 48) (w := .fieldLink RX5 15 "TicketWindows$Tickets" "firstPayment" "[I") (by decide +kernel))) (fun _ h9 => h9) rfl hin rfl (by decide +kernel) rfl rfl (Nat.le_of_ble_eq_true rfl) dkX5_19 (fun H locs hP hD hS => ?_)
  have hP : va_P (dC, dI) vwCl ([(h0, .inr (5, [.ref q1, .ref q2])), (q1, .inl (cyI, 600, .inl (fun j : Nat => Int32.ofInt (SI 0 3 j)))), (q2, .inl (cyI, 600, .inl (fun j : Nat => Int32.ofInt (SI 0 4 j))))]) H := hP
  have hD : va_D A ([(h0, .inr (5, [.ref q1, .ref q2])), (q1, .inl (cyI, 600, .inl (fun j : Nat => Int32.ofInt (SI 0 3 j)))), (q2, .inl (cyI, 600, .inl (fun j : Nat => Int32.ofInt (SI 0 4 j))))]) := hD
  have hP9 : va_P (dC, dI) vwCl (bk cyC cyI cyO [2, 3, 4] (fun c => [h0, q1, q2].getD (c - 2) 0)) H := hP
  have hD9 : va_D A (bk cyC cyI cyO [2, 3, 4] (fun c => [h0, q1, q2].getD (c - 2) 0)) := hD
  refine W.widen (k := 2) (n := 1200) (Nat.le_of_ble_eq_true rfl) (Nat.le_of_ble_eq_true rfl) ?_
  exact W.vret hx hb hr (fun t ht hW => ⟨⟨(fun c => [h0, q1, q2].getD (c - 2) 0), rfl, trivial, by rw [ht]; exact hP9, hAe ▸ hD9, rfl⟩, hAe ▸ hS.F ht⟩) (hAe ▸ hS.2.2) dkX5_22
theorem dkX6_0 : decode cX6_init 0 = .ok (.aload_n 0, 1) := by decide +kernel
theorem dkX6_1 : decode cX6_init 1 = .ok (.invokespecial 3, 3) := by decide +kernel
theorem dkX6_4 : decode cX6_init 4 = .ok (.aload_n 0, 1) := by decide +kernel
theorem dkX6_5 : decode cX6_init 5 = .ok (.bipush 24, 2) := by decide +kernel
theorem dkX6_7 : decode cX6_init 7 = .ok (.newarray .int, 2) := by decide +kernel
theorem dkX6_9 : decode cX6_init 9 = .ok (.putfield 9, 3) := by decide +kernel
theorem dkX6_12 : decode cX6_init 12 = .ok (.aload_n 0, 1) := by decide +kernel
theorem dkX6_13 : decode cX6_init 13 = .ok (.iconst 3, 1) := by decide +kernel
theorem dkX6_14 : decode cX6_init 14 = .ok (.newarray .int, 2) := by decide +kernel
theorem dkX6_16 : decode cX6_init 16 = .ok (.putfield 15, 3) := by decide +kernel
theorem dkX6_19 : decode cX6_init 19 = .ok (.aload_n 0, 1) := by decide +kernel
theorem dkX6_20 : decode cX6_init 20 = .ok (.iconst 3, 1) := by decide +kernel
theorem dkX6_21 : decode cX6_init 21 = .ok (.newarray .int, 2) := by decide +kernel
theorem dkX6_23 : decode cX6_init 23 = .ok (.putfield 18, 3) := by decide +kernel
theorem dkX6_26 : decode cX6_init 26 = .ok (.iconst 0, 1) := by decide +kernel
theorem dkX6_27 : decode cX6_init 27 = .ok (.istore_n 1, 1) := by decide +kernel
theorem dkX6_28 : decode cX6_init 28 = .ok (.iload_n 1, 1) := by decide +kernel
theorem dkX6_29 : decode cX6_init 29 = .ok (.iconst 3, 1) := by decide +kernel
theorem dkX6_30 : decode cX6_init 30 = .ok (.if_icmp .ge 17, 3) := by decide +kernel
theorem dkX6_33 : decode cX6_init 33 = .ok (.aload_n 0, 1) := by decide +kernel
theorem dkX6_34 : decode cX6_init 34 = .ok (.getfield 18, 3) := by decide +kernel
theorem dkX6_37 : decode cX6_init 37 = .ok (.iload_n 1, 1) := by decide +kernel
theorem dkX6_38 : decode cX6_init 38 = .ok (.bipush (-5), 2) := by decide +kernel
theorem dkX6_40 : decode cX6_init 40 = .ok (.iastore, 1) := by decide +kernel
theorem dkX6_41 : decode cX6_init 41 = .ok (.iinc 1 1, 3) := by decide +kernel
theorem dkX6_44 : decode cX6_init 44 = .ok (.goto (-16), 3) := by decide +kernel
theorem dkX6_47 : decode cX6_init 47 = .ok (.aload_n 0, 1) := by decide +kernel
theorem dkX6_48 : decode cX6_init 48 = .ok (.iconst 3, 1) := by decide +kernel
theorem dkX6_49 : decode cX6_init 49 = .ok (.newarray .int, 2) := by decide +kernel
theorem dkX6_51 : decode cX6_init 51 = .ok (.putfield 21, 3) := by decide +kernel
theorem dkX6_54 : decode cX6_init 54 = .ok (.aload_n 0, 1) := by decide +kernel
theorem dkX6_55 : decode cX6_init 55 = .ok (.iconst 3, 1) := by decide +kernel
theorem dkX6_56 : decode cX6_init 56 = .ok (.newarray .int, 2) := by decide +kernel
theorem dkX6_58 : decode cX6_init 58 = .ok (.putfield 24, 3) := by decide +kernel
theorem dkX6_61 : decode cX6_init 61 = .ok (.aload_n 0, 1) := by decide +kernel
theorem dkX6_62 : decode cX6_init 62 = .ok (.iconst 3, 1) := by decide +kernel
theorem dkX6_63 : decode cX6_init 63 = .ok (.newarray .int, 2) := by decide +kernel
theorem dkX6_65 : decode cX6_init 65 = .ok (.putfield 27, 3) := by decide +kernel
theorem dkX6_68 : decode cX6_init 68 = .ok (.aload_n 0, 1) := by decide +kernel
theorem dkX6_69 : decode cX6_init 69 = .ok (.iconst 3, 1) := by decide +kernel
theorem dkX6_70 : decode cX6_init 70 = .ok (.newarray .int, 2) := by decide +kernel
theorem dkX6_72 : decode cX6_init 72 = .ok (.putfield 30, 3) := by decide +kernel
theorem dkX6_75 : decode cX6_init 75 = .ok (.aload_n 0, 1) := by decide +kernel
theorem dkX6_76 : decode cX6_init 76 = .ok (.iconst 3, 1) := by decide +kernel
theorem dkX6_77 : decode cX6_init 77 = .ok (.newarray .int, 2) := by decide +kernel
theorem dkX6_79 : decode cX6_init 79 = .ok (.putfield 33, 3) := by decide +kernel
theorem dkX6_82 : decode cX6_init 82 = .ok (.return_, 1) := by decide +kernel
set_option maxHeartbeats 8000000 in
set_option maxRecDepth 100000 in
theorem k_Windows (l : Launch) (dC : Nat → ClassId) (dI : Nat → Nat → Nat) (cyC cyI cyO : ClassId) (rho : Nat → Nat → Nat) (Bd Ln : Nat) (xs : Int → Int) (h0 sz : Nat) : Met l yX6_init (.code yX6_init cX6_init 2 none :: GW) ({ frames := 1, cells := 8, slots := 45, locals := 12 }) (va_Pc [.ref h0] (fun U => U.heap.size = sz ∧ ((Bd ≤ h0 ∧ Bd ≤ sz) ∧ (∀ c, 36 ≤ c → c < 41 → ¬ Bd ≤ rho 0 c)) ∧ va_P (dC, dI) vwCl [(h0, .inr (6, [.null, .null, .null, .null, .null, .null, .null, .null]))] U.heap ∧ St0 dC dI cyC cyI cyO rho (fun q => Bd ≤ q) Ln xs U)) (va_Qv (fun _ : Nat → Nat => True) (fun (ad : Nat → Nat) t => va_P (dC, dI) vwCl (bk cyC cyI cyO [9, 10, 11, 12, 13, 14, 15, 16, 17] ad) t.heap ∧ va_D (va_A [(h0, .inr (6, [.null, .null, .null, .null, .null, .null, .null, .null]))] sz) (bk cyC cyI cyO [9, 10, 11, 12, 13, 14, 15, 16, 17] ad) ∧ ad 9 = h0) (va_A [(h0, .inr (6, [.null, .null, .null, .null, .null, .null, .null, .null]))] sz)) 8 45 (va_A [(h0, .inr (6, [.null, .null, .null, .null, .null, .null, .null, .null]))] sz) := by
  refine Met.ofW (cc := cX6_init) (maxL := 2) (ret := none) (by decide) rfl ?_
  intro p e s m args below meth c s₁ B hml hv
  obtain ⟨rfl, hsz, ⟨⟨hBh, hBs⟩, hro⟩, hP, hSt⟩ := hv
  have hx := B.exec
  have hb := B.bytes
  have hr := B.returns
  have hts0 := atoms_spec (ws := .code yX6_init cX6_init 2 none :: GW) B.pre
  have hts : ∀ w ∈ GW, w.before _ s = true := fun w hw => hts0 w (List.mem_cons_of_mem _ hw)
  have hown : s.vm.findClass RX6 = some m.cls := findClass_of_methodNamed B.named
  have hlocks := B.notSynchronized
  have hin : meth.name = "<init>" := (name_of_methodNamed B.named B.method).1
  have hK := hSt.1
  subst hsz
  have hD : va_D (va_A [(h0, .inr (6, [.null, .null, .null, .null, .null, .null, .null, .null]))] s.heap.size) [(h0, .inr (6, [.null, .null, .null, .null, .null, .null, .null, .null]))] := D_nd.mpr ⟨by simp, fun q hq => by
    rw [List.mem_singleton] at hq
    rw [hq]
    exact Or.inl ⟨0, _, rfl⟩⟩
  have hAB0 : ∀ q, va_A [(h0, .inr (6, [.null, .null, .null, .null, .null, .null, .null, .null]))] s.heap.size q → Bd ≤ q := fun q h => by
    rcases h with ⟨k, e, h⟩ | h
    · have h1 := List.mem_of_getElem? h
      rw [List.mem_singleton] at h1
      cases h1
      exact hBh
    · exact Nat.le_trans hBs h
  have hA0 : ∀ q : Nat, s.heap.size ≤ q → va_A [(h0, .inr (6, [.null, .null, .null, .null, .null, .null, .null, .null]))] s.heap.size q := fun q h => Or.inr h
  generalize hAe : va_A [(h0, .inr (6, [.null, .null, .null, .null, .null, .null, .null, .null]))] s.heap.size = A at hD hAB0 hA0 ⊢
  have hAB := hAB0
  have hA := hA0
  have hSB : ∀ {H : Heap} {locs : List Loc}, va_S A s.heap H locs → va_S (fun q => Bd ≤ q) s.heap H locs := fun h => ⟨h.1, fun q h1 h2 => h.2.1 q h1 (fun z => h2 (hAB q z)), fun l hl => hAB _ (h.2.2 l hl)⟩
  have hS : va_S A s.heap s.heap [] := va_S.rf
  have hl := lv_entry ([.ref h0]) (n := 2) (Nat.le_of_ble_eq_true rfl)
  rw [lg_entry_eq]
  generalize (lg_sl ([.ref h0]) ++ List.replicate (2 - (lg_sl ([.ref h0])).length) Slot.unset).toArray = ls at hl ⊢
  have hl : lv_has ls 2 [(0, .ref h0)] := hl
  have hP : va_P (dC, dI) vwCl [(h0, .inr (6, [.null, .null, .null, .null, .null, .null, .null, .null]))] s.heap := hP
  refine lv_aload_n hx hb dkX6_0 rfl (lv_at hl 0 rfl) ?_
  refine W.objInit hx hb hown (hts _ (GW_in (i := 78) (w := .methodLink RX6 3 objectInit) (by decide +kernel))) (hts _ (GW_in (i := 31) (w := .instanceMethod objectInit) (by decide +kernel))) (hts _ (GW_in (i := 32) (w := .code objectInit ⟨#[0xb1]⟩ 1 none) (by decide +kernel))) rfl (by rw [hml]; exact hl.1) rfl dkX6_1 (Nat.le_of_ble_eq_true rfl) (Nat.le_of_ble_eq_true rfl) ?_
  refine W.eq (g2 := F0 m 4 ls []) rfl ?_
  refine lv_aload_n hx hb dkX6_4 rfl (lv_at hl 0 rfl) ?_
  refine lv_bipush (v := 24) hx hb dkX6_5 (by decide) ?_
  refine nw_arr (atype := .int) (ty := .int) (a0 := (24, .inl (fun j : Nat => Int32.ofInt (SI 0 10 j)))) hx hb (hts _ (GW_in (i := 54) (w := .arrayClass .int) (by decide +kernel))) rfl hK hP hD hS hA 1 rfl (fun C h => by cases h) (fun cA => by first | rfl | exact congrArg (arrV cA 24) (funext fun j => rfl)) (by decide) (by decide) (by decide) (Nat.le_of_ble_eq_true rfl) (Nat.le_of_ble_eq_true rfl) dkX6_7 (fun q1 H hP hD hS => ?_)
  have hP : va_P (dC, dI) vwCl ([(h0, .inr (6, [.null, .null, .null, .null, .null, .null, .null, .null])), (q1, .inl (cyI, 24, .inl (fun j : Nat => Int32.ofInt (SI 0 10 j))))]) H := hP
  have hD : va_D A ([(h0, .inr (6, [.null, .null, .null, .null, .null, .null, .null, .null])), (q1, .inl (cyI, 24, .inl (fun j : Nat => Int32.ofInt (SI 0 10 j))))]) := hD
  refine va_putF (D := (dC, dI)) (ci := 6) (v := .ref q1) (ty := .array .int) (C := RX6) (T := TX6) (N := 8) hx hb hts (ob_in (c := 9) (by decide) rfl) tyX6 tyX6_ok nmX6 hown hK hP hD hS 0 rfl rfl 0 (by decide) (hts _ (GW_in (i := 79) (w := .fieldLink RX6 9 "TicketWindows$Windows" "rows" "[I") (by decide +kernel))) (fun _ h9 => h9) rfl hin rfl (by decide +kernel) rfl rfl (Nat.le_of_ble_eq_true rfl) dkX6_9 (fun H locs hP hD hS => ?_)
  have hP : va_P (dC, dI) vwCl ([(h0, .inr (6, [.ref q1, .null, .null, .null, .null, .null, .null, .null])), (q1, .inl (cyI, 24, .inl (fun j : Nat => Int32.ofInt (SI 0 10 j))))]) H := hP
  have hD : va_D A ([(h0, .inr (6, [.ref q1, .null, .null, .null, .null, .null, .null, .null])), (q1, .inl (cyI, 24, .inl (fun j : Nat => Int32.ofInt (SI 0 10 j))))]) := hD
  refine lv_aload_n hx hb dkX6_12 rfl (lv_at hl 0 rfl) ?_
  refine lv_iconst (v := 3) hx hb dkX6_13 (by decide) ?_
  refine nw_arr (atype := .int) (ty := .int) (a0 := (3, .inl (fun j : Nat => Int32.ofInt (SI 0 11 j)))) hx hb (hts _ (GW_in (i := 54) (w := .arrayClass .int) (by decide +kernel))) rfl hK hP hD hS hA 1 rfl (fun C h => by cases h) (fun cA => by first | rfl | exact congrArg (arrV cA 3) (funext fun j => rfl)) (by decide) (by decide) (by decide) (Nat.le_of_ble_eq_true rfl) (Nat.le_of_ble_eq_true rfl) dkX6_14 (fun q2 H hP hD hS => ?_)
  have hP : va_P (dC, dI) vwCl ([(h0, .inr (6, [.ref q1, .null, .null, .null, .null, .null, .null, .null])), (q1, .inl (cyI, 24, .inl (fun j : Nat => Int32.ofInt (SI 0 10 j)))), (q2, .inl (cyI, 3, .inl (fun j : Nat => Int32.ofInt (SI 0 11 j))))]) H := hP
  have hD : va_D A ([(h0, .inr (6, [.ref q1, .null, .null, .null, .null, .null, .null, .null])), (q1, .inl (cyI, 24, .inl (fun j : Nat => Int32.ofInt (SI 0 10 j)))), (q2, .inl (cyI, 3, .inl (fun j : Nat => Int32.ofInt (SI 0 11 j))))]) := hD
  refine va_putF (D := (dC, dI)) (ci := 6) (v := .ref q2) (ty := .array .int) (C := RX6) (T := TX6) (N := 8) hx hb hts (ob_in (c := 9) (by decide) rfl) tyX6 tyX6_ok nmX6 hown hK hP hD hS 0 rfl rfl 1 (by decide) (hts _ (GW_in (i := 80) (w := .fieldLink RX6 15 "TicketWindows$Windows" "length" "[I") (by decide +kernel))) (fun _ h9 => h9) rfl hin rfl (by decide +kernel) rfl rfl (Nat.le_of_ble_eq_true rfl) dkX6_16 (fun H locs hP hD hS => ?_)
  have hP : va_P (dC, dI) vwCl ([(h0, .inr (6, [.ref q1, .ref q2, .null, .null, .null, .null, .null, .null])), (q1, .inl (cyI, 24, .inl (fun j : Nat => Int32.ofInt (SI 0 10 j)))), (q2, .inl (cyI, 3, .inl (fun j : Nat => Int32.ofInt (SI 0 11 j))))]) H := hP
  have hD : va_D A ([(h0, .inr (6, [.ref q1, .ref q2, .null, .null, .null, .null, .null, .null])), (q1, .inl (cyI, 24, .inl (fun j : Nat => Int32.ofInt (SI 0 10 j)))), (q2, .inl (cyI, 3, .inl (fun j : Nat => Int32.ofInt (SI 0 11 j))))]) := hD
  refine lv_aload_n hx hb dkX6_19 rfl (lv_at hl 0 rfl) ?_
  refine lv_iconst (v := 3) hx hb dkX6_20 (by decide) ?_
  refine nw_arr (atype := .int) (ty := .int) (a0 := (3, .inl (fun _ : Nat => (0 : Int32)))) hx hb (hts _ (GW_in (i := 54) (w := .arrayClass .int) (by decide +kernel))) rfl hK hP hD hS hA 1 rfl (fun C h => by cases h) (fun cA => by first | rfl | exact congrArg (arrV cA 3) (funext fun j => rfl)) (by decide) (by decide) (by decide) (Nat.le_of_ble_eq_true rfl) (Nat.le_of_ble_eq_true rfl) dkX6_21 (fun q3 H hP hD hS => ?_)
  have hP : va_P (dC, dI) vwCl ([(h0, .inr (6, [.ref q1, .ref q2, .null, .null, .null, .null, .null, .null])), (q1, .inl (cyI, 24, .inl (fun j : Nat => Int32.ofInt (SI 0 10 j)))), (q2, .inl (cyI, 3, .inl (fun j : Nat => Int32.ofInt (SI 0 11 j)))), (q3, .inl (cyI, 3, .inl (fun _ : Nat => (0 : Int32))))]) H := hP
  have hD : va_D A ([(h0, .inr (6, [.ref q1, .ref q2, .null, .null, .null, .null, .null, .null])), (q1, .inl (cyI, 24, .inl (fun j : Nat => Int32.ofInt (SI 0 10 j)))), (q2, .inl (cyI, 3, .inl (fun j : Nat => Int32.ofInt (SI 0 11 j)))), (q3, .inl (cyI, 3, .inl (fun _ : Nat => (0 : Int32))))]) := hD
  refine va_putF (D := (dC, dI)) (ci := 6) (v := .ref q3) (ty := .array .int) (C := RX6) (T := TX6) (N := 8) hx hb hts (ob_in (c := 9) (by decide) rfl) tyX6 tyX6_ok nmX6 hown hK hP hD hS 0 rfl rfl 2 (by decide) (hts _ (GW_in (i := 81) (w := .fieldLink RX6 18 "TicketWindows$Windows" "waitsFor" "[I") (by decide +kernel))) (fun _ h9 => h9) rfl hin rfl (by decide +kernel) rfl rfl (Nat.le_of_ble_eq_true rfl) dkX6_23 (fun H locs hP hD hS => ?_)
  have hP : va_P (dC, dI) vwCl ([(h0, .inr (6, [.ref q1, .ref q2, .ref q3, .null, .null, .null, .null, .null])), (q1, .inl (cyI, 24, .inl (fun j : Nat => Int32.ofInt (SI 0 10 j)))), (q2, .inl (cyI, 3, .inl (fun j : Nat => Int32.ofInt (SI 0 11 j)))), (q3, .inl (cyI, 3, .inl (fun _ : Nat => (0 : Int32))))]) H := hP
  have hD : va_D A ([(h0, .inr (6, [.ref q1, .ref q2, .ref q3, .null, .null, .null, .null, .null])), (q1, .inl (cyI, 24, .inl (fun j : Nat => Int32.ofInt (SI 0 10 j)))), (q2, .inl (cyI, 3, .inl (fun j : Nat => Int32.ofInt (SI 0 11 j)))), (q3, .inl (cyI, 3, .inl (fun _ : Nat => (0 : Int32))))]) := hD
  refine lv_iconst (v := 0) hx hb dkX6_26 (by decide) ?_
  refine lv_istore_n (lv' := [(1, .int 0), (0, .ref h0)]) hx hb dkX6_27 rfl hl (by decide) rfl (fun ls hl => ?_)
  refine lv_iload_n hx hb dkX6_28 rfl (lv_at hl 0 rfl) ?_
  refine lv_iconst (v := 3) hx hb dkX6_29 (by decide) ?_
  refine lv_icmp_ge (tgt := 47) hx hb dkX6_30 (by decide) (fun q => absurd q (by decide)) (fun _ => ?_)
  refine lv_aload_n hx hb dkX6_33 rfl (lv_at hl 1 rfl) ?_
  refine va_get (D := (dC, dI)) (ci := 6) (v := .ref q3) (C := RX6) (T := TX6) (N := 8) hx hb hts (ob_in (c := 9) (by decide) rfl) hown hK hP 0 rfl rfl 2 (by decide) (hts _ (GW_in (i := 81) (w := .fieldLink RX6 18 "TicketWindows$Windows" "waitsFor" "[I") (by decide +kernel))) (fun _ h9 => h9) rfl dkX6_34 ?_
  refine lv_iload_n hx hb dkX6_37 rfl (lv_at hl 0 rfl) ?_
  refine lv_bipush (v := -5) hx hb dkX6_38 (by decide) ?_
  refine va_iast hx hb hK hP hD hS 3 1 rfl rfl (by unfold vp_in; decide) dkX6_40 (fun H locs hP hD hS => ?_)
  have hP : va_P (dC, dI) vwCl ([(h0, .inr (6, [.ref q1, .ref q2, .ref q3, .null, .null, .null, .null, .null])), (q1, .inl (cyI, 24, .inl (fun j : Nat => Int32.ofInt (SI 0 10 j)))), (q2, .inl (cyI, 3, .inl (fun j : Nat => Int32.ofInt (SI 0 11 j)))), (q3, .inl (cyI, 3, .inl (upd (fun _ : Nat => (0 : Int32)) 0 (-5))))]) H := hP
  have hD : va_D A ([(h0, .inr (6, [.ref q1, .ref q2, .ref q3, .null, .null, .null, .null, .null])), (q1, .inl (cyI, 24, .inl (fun j : Nat => Int32.ofInt (SI 0 10 j)))), (q2, .inl (cyI, 3, .inl (fun j : Nat => Int32.ofInt (SI 0 11 j)))), (q3, .inl (cyI, 3, .inl (upd (fun _ : Nat => (0 : Int32)) 0 (-5))))]) := hD
  refine lv_iinc (v := 1) (lv' := [(1, .int 1), (0, .ref h0)]) hx hb dkX6_41 hl (k := 0) rfl (by decide) (by decide) rfl (fun ls hl => ?_)
  refine lv_goto (tgt := 28) hx hb dkX6_44 (by decide) ?_
  refine lv_iload_n hx hb dkX6_28 rfl (lv_at hl 0 rfl) ?_
  refine lv_iconst (v := 3) hx hb dkX6_29 (by decide) ?_
  refine lv_icmp_ge (tgt := 47) hx hb dkX6_30 (by decide) (fun q => absurd q (by decide)) (fun _ => ?_)
  refine lv_aload_n hx hb dkX6_33 rfl (lv_at hl 1 rfl) ?_
  refine va_get (D := (dC, dI)) (ci := 6) (v := .ref q3) (C := RX6) (T := TX6) (N := 8) hx hb hts (ob_in (c := 9) (by decide) rfl) hown hK hP 0 rfl rfl 2 (by decide) (hts _ (GW_in (i := 81) (w := .fieldLink RX6 18 "TicketWindows$Windows" "waitsFor" "[I") (by decide +kernel))) (fun _ h9 => h9) rfl dkX6_34 ?_
  refine lv_iload_n hx hb dkX6_37 rfl (lv_at hl 0 rfl) ?_
  refine lv_bipush (v := -5) hx hb dkX6_38 (by decide) ?_
  refine va_iast hx hb hK hP hD hS 3 1 rfl rfl (by unfold vp_in; decide) dkX6_40 (fun H locs hP hD hS => ?_)
  have hP : va_P (dC, dI) vwCl ([(h0, .inr (6, [.ref q1, .ref q2, .ref q3, .null, .null, .null, .null, .null])), (q1, .inl (cyI, 24, .inl (fun j : Nat => Int32.ofInt (SI 0 10 j)))), (q2, .inl (cyI, 3, .inl (fun j : Nat => Int32.ofInt (SI 0 11 j)))), (q3, .inl (cyI, 3, .inl (upd (upd (fun _ : Nat => (0 : Int32)) 0 (-5)) 1 (-5))))]) H := hP
  have hD : va_D A ([(h0, .inr (6, [.ref q1, .ref q2, .ref q3, .null, .null, .null, .null, .null])), (q1, .inl (cyI, 24, .inl (fun j : Nat => Int32.ofInt (SI 0 10 j)))), (q2, .inl (cyI, 3, .inl (fun j : Nat => Int32.ofInt (SI 0 11 j)))), (q3, .inl (cyI, 3, .inl (upd (upd (fun _ : Nat => (0 : Int32)) 0 (-5)) 1 (-5))))]) := hD
  refine lv_iinc (v := 2) (lv' := [(1, .int 2), (0, .ref h0)]) hx hb dkX6_41 hl (k := 0) rfl (by decide) (by decide) rfl (fun ls hl => ?_)
  refine lv_goto (tgt := 28) hx hb dkX6_44 (by decide) ?_
  refine lv_iload_n hx hb dkX6_28 rfl (lv_at hl 0 rfl) ?_
  refine lv_iconst (v := 3) hx hb dkX6_29 (by decide) ?_
  refine lv_icmp_ge (tgt := 47) hx hb dkX6_30 (by decide) (fun q => absurd q (by decide)) (fun _ => ?_)
  refine lv_aload_n hx hb dkX6_33 rfl (lv_at hl 1 rfl) ?_
  refine va_get (D := (dC, dI)) (ci := 6) (v := .ref q3) (C := RX6) (T := TX6) (N := 8) hx hb hts (ob_in (c := 9) (by decide) rfl) hown hK hP 0 rfl rfl 2 (by decide) (hts _ (GW_in (i := 81) (w := .fieldLink RX6 18 "TicketWindows$Windows" "waitsFor" "[I") (by decide +kernel))) (fun _ h9 => h9) rfl dkX6_34 ?_
  refine lv_iload_n hx hb dkX6_37 rfl (lv_at hl 0 rfl) ?_
  refine lv_bipush (v := -5) hx hb dkX6_38 (by decide) ?_
  refine va_iast hx hb hK hP hD hS 3 1 rfl rfl (by unfold vp_in; decide) dkX6_40 (fun H locs hP hD hS => ?_)
  have hP : va_P (dC, dI) vwCl ([(h0, .inr (6, [.ref q1, .ref q2, .ref q3, .null, .null, .null, .null, .null])), (q1, .inl (cyI, 24, .inl (fun j : Nat => Int32.ofInt (SI 0 10 j)))), (q2, .inl (cyI, 3, .inl (fun j : Nat => Int32.ofInt (SI 0 11 j)))), (q3, .inl (cyI, 3, .inl (upd (upd (upd (fun _ : Nat => (0 : Int32)) 0 (-5)) 1 (-5)) 2 (-5))))]) H := hP
  have hD : va_D A ([(h0, .inr (6, [.ref q1, .ref q2, .ref q3, .null, .null, .null, .null, .null])), (q1, .inl (cyI, 24, .inl (fun j : Nat => Int32.ofInt (SI 0 10 j)))), (q2, .inl (cyI, 3, .inl (fun j : Nat => Int32.ofInt (SI 0 11 j)))), (q3, .inl (cyI, 3, .inl (upd (upd (upd (fun _ : Nat => (0 : Int32)) 0 (-5)) 1 (-5)) 2 (-5))))]) := hD
  refine lv_iinc (v := 3) (lv' := [(1, .int 3), (0, .ref h0)]) hx hb dkX6_41 hl (k := 0) rfl (by decide) (by decide) rfl (fun ls hl => ?_)
  refine lv_goto (tgt := 28) hx hb dkX6_44 (by decide) ?_
  refine lv_iload_n hx hb dkX6_28 rfl (lv_at hl 0 rfl) ?_
  refine lv_iconst (v := 3) hx hb dkX6_29 (by decide) ?_
  refine lv_icmp_ge (tgt := 47) hx hb dkX6_30 (by decide) (fun _ => ?_) (fun q => absurd (by decide) q)
  refine lv_aload_n hx hb dkX6_47 rfl (lv_at hl 1 rfl) ?_
  refine lv_iconst (v := 3) hx hb dkX6_48 (by decide) ?_
  refine nw_arr (atype := .int) (ty := .int) (a0 := (3, .inl (fun j : Nat => Int32.ofInt (SI 0 13 j)))) hx hb (hts _ (GW_in (i := 54) (w := .arrayClass .int) (by decide +kernel))) rfl hK hP hD hS hA 1 rfl (fun C h => by cases h) (fun cA => by first | rfl | exact congrArg (arrV cA 3) (funext fun j => rfl)) (by decide) (by decide) (by decide) (Nat.le_of_ble_eq_true rfl) (Nat.le_of_ble_eq_true rfl) dkX6_49 (fun q4 H hP hD hS => ?_)
  have hP : va_P (dC, dI) vwCl ([(h0, .inr (6, [.ref q1, .ref q2, .ref q3, .null, .null, .null, .null, .null])), (q1, .inl (cyI, 24, .inl (fun j : Nat => Int32.ofInt (SI 0 10 j)))), (q2, .inl (cyI, 3, .inl (fun j : Nat => Int32.ofInt (SI 0 11 j)))), (q3, .inl (cyI, 3, .inl (upd (upd (upd (fun _ : Nat => (0 : Int32)) 0 (-5)) 1 (-5)) 2 (-5)))), (q4, .inl (cyI, 3, .inl (fun j : Nat => Int32.ofInt (SI 0 13 j))))]) H := hP
  have hD : va_D A ([(h0, .inr (6, [.ref q1, .ref q2, .ref q3, .null, .null, .null, .null, .null])), (q1, .inl (cyI, 24, .inl (fun j : Nat => Int32.ofInt (SI 0 10 j)))), (q2, .inl (cyI, 3, .inl (fun j : Nat => Int32.ofInt (SI 0 11 j)))), (q3, .inl (cyI, 3, .inl (upd (upd (upd (fun _ : Nat => (0 : Int32)) 0 (-5)) 1 (-5)) 2 (-5)))), (q4, .inl (cyI, 3, .inl (fun j : Nat => Int32.ofInt (SI 0 13 j))))]) := hD
  refine va_putF (D := (dC, dI)) (ci := 6) (v := .ref q4) (ty := .array .int) (C := RX6) (T := TX6) (N := 8) hx hb hts (ob_in (c := 9) (by decide) rfl) tyX6 tyX6_ok nmX6 hown hK hP hD hS 0 rfl rfl 3 (by decide) (hts _ (GW_in (i := 83) (w := .fieldLink RX6 21 "TicketWindows$Windows" "waited" "[I") (by decide +kernel))) (fun _ h9 => h9) rfl hin rfl (by decide +kernel) rfl rfl (Nat.le_of_ble_eq_true rfl) dkX6_51 (fun H locs hP hD hS => ?_)
  have hP : va_P (dC, dI) vwCl ([(h0, .inr (6, [.ref q1, .ref q2, .ref q3, .ref q4, .null, .null, .null, .null])), (q1, .inl (cyI, 24, .inl (fun j : Nat => Int32.ofInt (SI 0 10 j)))), (q2, .inl (cyI, 3, .inl (fun j : Nat => Int32.ofInt (SI 0 11 j)))), (q3, .inl (cyI, 3, .inl (upd (upd (upd (fun _ : Nat => (0 : Int32)) 0 (-5)) 1 (-5)) 2 (-5)))), (q4, .inl (cyI, 3, .inl (fun j : Nat => Int32.ofInt (SI 0 13 j))))]) H := hP
  have hD : va_D A ([(h0, .inr (6, [.ref q1, .ref q2, .ref q3, .ref q4, .null, .null, .null, .null])), (q1, .inl (cyI, 24, .inl (fun j : Nat => Int32.ofInt (SI 0 10 j)))), (q2, .inl (cyI, 3, .inl (fun j : Nat => Int32.ofInt (SI 0 11 j)))), (q3, .inl (cyI, 3, .inl (upd (upd (upd (fun _ : Nat => (0 : Int32)) 0 (-5)) 1 (-5)) 2 (-5)))), (q4, .inl (cyI, 3, .inl (fun j : Nat => Int32.ofInt (SI 0 13 j))))]) := hD
  refine lv_aload_n hx hb dkX6_54 rfl (lv_at hl 1 rfl) ?_
  refine lv_iconst (v := 3) hx hb dkX6_55 (by decide) ?_
  refine nw_arr (atype := .int) (ty := .int) (a0 := (3, .inl (fun j : Nat => Int32.ofInt (SI 0 14 j)))) hx hb (hts _ (GW_in (i := 54) (w := .arrayClass .int) (by decide +kernel))) rfl hK hP hD hS hA 1 rfl (fun C h => by cases h) (fun cA => by first | rfl | exact congrArg (arrV cA 3) (funext fun j => rfl)) (by decide) (by decide) (by decide) (Nat.le_of_ble_eq_true rfl) (Nat.le_of_ble_eq_true rfl) dkX6_56 (fun q5 H hP hD hS => ?_)
  have hP : va_P (dC, dI) vwCl ([(h0, .inr (6, [.ref q1, .ref q2, .ref q3, .ref q4, .null, .null, .null, .null])), (q1, .inl (cyI, 24, .inl (fun j : Nat => Int32.ofInt (SI 0 10 j)))), (q2, .inl (cyI, 3, .inl (fun j : Nat => Int32.ofInt (SI 0 11 j)))), (q3, .inl (cyI, 3, .inl (upd (upd (upd (fun _ : Nat => (0 : Int32)) 0 (-5)) 1 (-5)) 2 (-5)))), (q4, .inl (cyI, 3, .inl (fun j : Nat => Int32.ofInt (SI 0 13 j)))), (q5, .inl (cyI, 3, .inl (fun j : Nat => Int32.ofInt (SI 0 14 j))))]) H := hP
  have hD : va_D A ([(h0, .inr (6, [.ref q1, .ref q2, .ref q3, .ref q4, .null, .null, .null, .null])), (q1, .inl (cyI, 24, .inl (fun j : Nat => Int32.ofInt (SI 0 10 j)))), (q2, .inl (cyI, 3, .inl (fun j : Nat => Int32.ofInt (SI 0 11 j)))), (q3, .inl (cyI, 3, .inl (upd (upd (upd (fun _ : Nat => (0 : Int32)) 0 (-5)) 1 (-5)) 2 (-5)))), (q4, .inl (cyI, 3, .inl (fun j : Nat => Int32.ofInt (SI 0 13 j)))), (q5, .inl (cyI, 3, .inl (fun j : Nat => Int32.ofInt (SI 0 14 j))))]) := hD
  refine va_putF (D := (dC, dI)) (ci := 6) (v := .ref q5) (ty := .array .int) (C := RX6) (T := TX6) (N := 8) hx hb hts (ob_in (c := 9) (by decide) rfl) tyX6 tyX6_ok nmX6 hown hK hP hD hS 0 rfl rfl 4 (by decide) (hts _ (GW_in (i := 84) (w := .fieldLink RX6 24 "TicketWindows$Windows" "coins" "[I") (by decide +kernel))) (fun _ h9 => h9) rfl hin rfl (by decide +kernel) rfl rfl (Nat.le_of_ble_eq_true rfl) dkX6_58 (fun H locs hP hD hS => ?_)
  have hP : va_P (dC, dI) vwCl ([(h0, .inr (6, [.ref q1, .ref q2, .ref q3, .ref q4, .ref q5, .null, .null, .null])), (q1, .inl (cyI, 24, .inl (fun j : Nat => Int32.ofInt (SI 0 10 j)))), (q2, .inl (cyI, 3, .inl (fun j : Nat => Int32.ofInt (SI 0 11 j)))), (q3, .inl (cyI, 3, .inl (upd (upd (upd (fun _ : Nat => (0 : Int32)) 0 (-5)) 1 (-5)) 2 (-5)))), (q4, .inl (cyI, 3, .inl (fun j : Nat => Int32.ofInt (SI 0 13 j)))), (q5, .inl (cyI, 3, .inl (fun j : Nat => Int32.ofInt (SI 0 14 j))))]) H := hP
  have hD : va_D A ([(h0, .inr (6, [.ref q1, .ref q2, .ref q3, .ref q4, .ref q5, .null, .null, .null])), (q1, .inl (cyI, 24, .inl (fun j : Nat => Int32.ofInt (SI 0 10 j)))), (q2, .inl (cyI, 3, .inl (fun j : Nat => Int32.ofInt (SI 0 11 j)))), (q3, .inl (cyI, 3, .inl (upd (upd (upd (fun _ : Nat => (0 : Int32)) 0 (-5)) 1 (-5)) 2 (-5)))), (q4, .inl (cyI, 3, .inl (fun j : Nat => Int32.ofInt (SI 0 13 j)))), (q5, .inl (cyI, 3, .inl (fun j : Nat => Int32.ofInt (SI 0 14 j))))]) := hD
  refine lv_aload_n hx hb dkX6_61 rfl (lv_at hl 1 rfl) ?_
  refine lv_iconst (v := 3) hx hb dkX6_62 (by decide) ?_
  refine nw_arr (atype := .int) (ty := .int) (a0 := (3, .inl (fun j : Nat => Int32.ofInt (SI 0 15 j)))) hx hb (hts _ (GW_in (i := 54) (w := .arrayClass .int) (by decide +kernel))) rfl hK hP hD hS hA 1 rfl (fun C h => by cases h) (fun cA => by first | rfl | exact congrArg (arrV cA 3) (funext fun j => rfl)) (by decide) (by decide) (by decide) (Nat.le_of_ble_eq_true rfl) (Nat.le_of_ble_eq_true rfl) dkX6_63 (fun q6 H hP hD hS => ?_)
  have hP : va_P (dC, dI) vwCl ([(h0, .inr (6, [.ref q1, .ref q2, .ref q3, .ref q4, .ref q5, .null, .null, .null])), (q1, .inl (cyI, 24, .inl (fun j : Nat => Int32.ofInt (SI 0 10 j)))), (q2, .inl (cyI, 3, .inl (fun j : Nat => Int32.ofInt (SI 0 11 j)))), (q3, .inl (cyI, 3, .inl (upd (upd (upd (fun _ : Nat => (0 : Int32)) 0 (-5)) 1 (-5)) 2 (-5)))), (q4, .inl (cyI, 3, .inl (fun j : Nat => Int32.ofInt (SI 0 13 j)))), (q5, .inl (cyI, 3, .inl (fun j : Nat => Int32.ofInt (SI 0 14 j)))), (q6, .inl (cyI, 3, .inl (fun j : Nat => Int32.ofInt (SI 0 15 j))))]) H := hP
  have hD : va_D A ([(h0, .inr (6, [.ref q1, .ref q2, .ref q3, .ref q4, .ref q5, .null, .null, .null])), (q1, .inl (cyI, 24, .inl (fun j : Nat => Int32.ofInt (SI 0 10 j)))), (q2, .inl (cyI, 3, .inl (fun j : Nat => Int32.ofInt (SI 0 11 j)))), (q3, .inl (cyI, 3, .inl (upd (upd (upd (fun _ : Nat => (0 : Int32)) 0 (-5)) 1 (-5)) 2 (-5)))), (q4, .inl (cyI, 3, .inl (fun j : Nat => Int32.ofInt (SI 0 13 j)))), (q5, .inl (cyI, 3, .inl (fun j : Nat => Int32.ofInt (SI 0 14 j)))), (q6, .inl (cyI, 3, .inl (fun j : Nat => Int32.ofInt (SI 0 15 j))))]) := hD
  refine va_putF (D := (dC, dI)) (ci := 6) (v := .ref q6) (ty := .array .int) (C := RX6) (T := TX6) (N := 8) hx hb hts (ob_in (c := 9) (by decide) rfl) tyX6 tyX6_ok nmX6 hown hK hP hD hS 0 rfl rfl 5 (by decide) (hts _ (GW_in (i := 85) (w := .fieldLink RX6 27 "TicketWindows$Windows" "paidCustomers" "[I") (by decide +kernel))) (fun _ h9 => h9) rfl hin rfl (by decide +kernel) rfl rfl (Nat.le_of_ble_eq_true rfl) dkX6_65 (fun H locs hP hD hS => ?_)
  have hP : va_P (dC, dI) vwCl ([(h0, .inr (6, [.ref q1, .ref q2, .ref q3, .ref q4, .ref q5, .ref q6, .null, .null])), (q1, .inl (cyI, 24, .inl (fun j : Nat => Int32.ofInt (SI 0 10 j)))), (q2, .inl (cyI, 3, .inl (fun j : Nat => Int32.ofInt (SI 0 11 j)))), (q3, .inl (cyI, 3, .inl (upd (upd (upd (fun _ : Nat => (0 : Int32)) 0 (-5)) 1 (-5)) 2 (-5)))), (q4, .inl (cyI, 3, .inl (fun j : Nat => Int32.ofInt (SI 0 13 j)))), (q5, .inl (cyI, 3, .inl (fun j : Nat => Int32.ofInt (SI 0 14 j)))), (q6, .inl (cyI, 3, .inl (fun j : Nat => Int32.ofInt (SI 0 15 j))))]) H := hP
  have hD : va_D A ([(h0, .inr (6, [.ref q1, .ref q2, .ref q3, .ref q4, .ref q5, .ref q6, .null, .null])), (q1, .inl (cyI, 24, .inl (fun j : Nat => Int32.ofInt (SI 0 10 j)))), (q2, .inl (cyI, 3, .inl (fun j : Nat => Int32.ofInt (SI 0 11 j)))), (q3, .inl (cyI, 3, .inl (upd (upd (upd (fun _ : Nat => (0 : Int32)) 0 (-5)) 1 (-5)) 2 (-5)))), (q4, .inl (cyI, 3, .inl (fun j : Nat => Int32.ofInt (SI 0 13 j)))), (q5, .inl (cyI, 3, .inl (fun j : Nat => Int32.ofInt (SI 0 14 j)))), (q6, .inl (cyI, 3, .inl (fun j : Nat => Int32.ofInt (SI 0 15 j))))]) := hD
  refine lv_aload_n hx hb dkX6_68 rfl (lv_at hl 1 rfl) ?_
  refine lv_iconst (v := 3) hx hb dkX6_69 (by decide) ?_
  refine nw_arr (atype := .int) (ty := .int) (a0 := (3, .inl (fun j : Nat => Int32.ofInt (SI 0 16 j)))) hx hb (hts _ (GW_in (i := 54) (w := .arrayClass .int) (by decide +kernel))) rfl hK hP hD hS hA 1 rfl (fun C h => by cases h) (fun cA => by first | rfl | exact congrArg (arrV cA 3) (funext fun j => rfl)) (by decide) (by decide) (by decide) (Nat.le_of_ble_eq_true rfl) (Nat.le_of_ble_eq_true rfl) dkX6_70 (fun q7 H hP hD hS => ?_)
  have hP : va_P (dC, dI) vwCl ([(h0, .inr (6, [.ref q1, .ref q2, .ref q3, .ref q4, .ref q5, .ref q6, .null, .null])), (q1, .inl (cyI, 24, .inl (fun j : Nat => Int32.ofInt (SI 0 10 j)))), (q2, .inl (cyI, 3, .inl (fun j : Nat => Int32.ofInt (SI 0 11 j)))), (q3, .inl (cyI, 3, .inl (upd (upd (upd (fun _ : Nat => (0 : Int32)) 0 (-5)) 1 (-5)) 2 (-5)))), (q4, .inl (cyI, 3, .inl (fun j : Nat => Int32.ofInt (SI 0 13 j)))), (q5, .inl (cyI, 3, .inl (fun j : Nat => Int32.ofInt (SI 0 14 j)))), (q6, .inl (cyI, 3, .inl (fun j : Nat => Int32.ofInt (SI 0 15 j)))), (q7, .inl (cyI, 3, .inl (fun j : Nat => Int32.ofInt (SI 0 16 j))))]) H := hP
  have hD : va_D A ([(h0, .inr (6, [.ref q1, .ref q2, .ref q3, .ref q4, .ref q5, .ref q6, .null, .null])), (q1, .inl (cyI, 24, .inl (fun j : Nat => Int32.ofInt (SI 0 10 j)))), (q2, .inl (cyI, 3, .inl (fun j : Nat => Int32.ofInt (SI 0 11 j)))), (q3, .inl (cyI, 3, .inl (upd (upd (upd (fun _ : Nat => (0 : Int32)) 0 (-5)) 1 (-5)) 2 (-5)))), (q4, .inl (cyI, 3, .inl (fun j : Nat => Int32.ofInt (SI 0 13 j)))), (q5, .inl (cyI, 3, .inl (fun j : Nat => Int32.ofInt (SI 0 14 j)))), (q6, .inl (cyI, 3, .inl (fun j : Nat => Int32.ofInt (SI 0 15 j)))), (q7, .inl (cyI, 3, .inl (fun j : Nat => Int32.ofInt (SI 0 16 j))))]) := hD
  refine va_putF (D := (dC, dI)) (ci := 6) (v := .ref q7) (ty := .array .int) (C := RX6) (T := TX6) (N := 8) hx hb hts (ob_in (c := 9) (by decide) rfl) tyX6 tyX6_ok nmX6 hown hK hP hD hS 0 rfl rfl 6 (by decide) (hts _ (GW_in (i := 86) (w := .fieldLink RX6 30 "TicketWindows$Windows" "sentAway" "[I") (by decide +kernel))) (fun _ h9 => h9) rfl hin rfl (by decide +kernel) rfl rfl (Nat.le_of_ble_eq_true rfl) dkX6_72 (fun H locs hP hD hS => ?_)
  have hP : va_P (dC, dI) vwCl ([(h0, .inr (6, [.ref q1, .ref q2, .ref q3, .ref q4, .ref q5, .ref q6, .ref q7, .null])), (q1, .inl (cyI, 24, .inl (fun j : Nat => Int32.ofInt (SI 0 10 j)))), (q2, .inl (cyI, 3, .inl (fun j : Nat => Int32.ofInt (SI 0 11 j)))), (q3, .inl (cyI, 3, .inl (upd (upd (upd (fun _ : Nat => (0 : Int32)) 0 (-5)) 1 (-5)) 2 (-5)))), (q4, .inl (cyI, 3, .inl (fun j : Nat => Int32.ofInt (SI 0 13 j)))), (q5, .inl (cyI, 3, .inl (fun j : Nat => Int32.ofInt (SI 0 14 j)))), (q6, .inl (cyI, 3, .inl (fun j : Nat => Int32.ofInt (SI 0 15 j)))), (q7, .inl (cyI, 3, .inl (fun j : Nat => Int32.ofInt (SI 0 16 j))))]) H := hP
  have hD : va_D A ([(h0, .inr (6, [.ref q1, .ref q2, .ref q3, .ref q4, .ref q5, .ref q6, .ref q7, .null])), (q1, .inl (cyI, 24, .inl (fun j : Nat => Int32.ofInt (SI 0 10 j)))), (q2, .inl (cyI, 3, .inl (fun j : Nat => Int32.ofInt (SI 0 11 j)))), (q3, .inl (cyI, 3, .inl (upd (upd (upd (fun _ : Nat => (0 : Int32)) 0 (-5)) 1 (-5)) 2 (-5)))), (q4, .inl (cyI, 3, .inl (fun j : Nat => Int32.ofInt (SI 0 13 j)))), (q5, .inl (cyI, 3, .inl (fun j : Nat => Int32.ofInt (SI 0 14 j)))), (q6, .inl (cyI, 3, .inl (fun j : Nat => Int32.ofInt (SI 0 15 j)))), (q7, .inl (cyI, 3, .inl (fun j : Nat => Int32.ofInt (SI 0 16 j))))]) := hD
  refine lv_aload_n hx hb dkX6_75 rfl (lv_at hl 1 rfl) ?_
  refine lv_iconst (v := 3) hx hb dkX6_76 (by decide) ?_
  refine nw_arr (atype := .int) (ty := .int) (a0 := (3, .inl (fun j : Nat => Int32.ofInt (SI 0 17 j)))) hx hb (hts _ (GW_in (i := 54) (w := .arrayClass .int) (by decide +kernel))) rfl hK hP hD hS hA 1 rfl (fun C h => by cases h) (fun cA => by first | rfl | exact congrArg (arrV cA 3) (funext fun j => rfl)) (by decide) (by decide) (by decide) (Nat.le_of_ble_eq_true rfl) (Nat.le_of_ble_eq_true rfl) dkX6_77 (fun q8 H hP hD hS => ?_)
  have hP : va_P (dC, dI) vwCl ([(h0, .inr (6, [.ref q1, .ref q2, .ref q3, .ref q4, .ref q5, .ref q6, .ref q7, .null])), (q1, .inl (cyI, 24, .inl (fun j : Nat => Int32.ofInt (SI 0 10 j)))), (q2, .inl (cyI, 3, .inl (fun j : Nat => Int32.ofInt (SI 0 11 j)))), (q3, .inl (cyI, 3, .inl (upd (upd (upd (fun _ : Nat => (0 : Int32)) 0 (-5)) 1 (-5)) 2 (-5)))), (q4, .inl (cyI, 3, .inl (fun j : Nat => Int32.ofInt (SI 0 13 j)))), (q5, .inl (cyI, 3, .inl (fun j : Nat => Int32.ofInt (SI 0 14 j)))), (q6, .inl (cyI, 3, .inl (fun j : Nat => Int32.ofInt (SI 0 15 j)))), (q7, .inl (cyI, 3, .inl (fun j : Nat => Int32.ofInt (SI 0 16 j)))), (q8, .inl (cyI, 3, .inl (fun j : Nat => Int32.ofInt (SI 0 17 j))))]) H := hP
  have hD : va_D A ([(h0, .inr (6, [.ref q1, .ref q2, .ref q3, .ref q4, .ref q5, .ref q6, .ref q7, .null])), (q1, .inl (cyI, 24, .inl (fun j : Nat => Int32.ofInt (SI 0 10 j)))), (q2, .inl (cyI, 3, .inl (fun j : Nat => Int32.ofInt (SI 0 11 j)))), (q3, .inl (cyI, 3, .inl (upd (upd (upd (fun _ : Nat => (0 : Int32)) 0 (-5)) 1 (-5)) 2 (-5)))), (q4, .inl (cyI, 3, .inl (fun j : Nat => Int32.ofInt (SI 0 13 j)))), (q5, .inl (cyI, 3, .inl (fun j : Nat => Int32.ofInt (SI 0 14 j)))), (q6, .inl (cyI, 3, .inl (fun j : Nat => Int32.ofInt (SI 0 15 j)))), (q7, .inl (cyI, 3, .inl (fun j : Nat => Int32.ofInt (SI 0 16 j)))), (q8, .inl (cyI, 3, .inl (fun j : Nat => Int32.ofInt (SI 0 17 j))))]) := hD
  refine va_putF (D := (dC, dI)) (ci := 6) (v := .ref q8) (ty := .array .int) (C := RX6) (T := TX6) (N := 8) hx hb hts (ob_in (c := 9) (by decide) rfl) tyX6 tyX6_ok nmX6 hown hK hP hD hS 0 rfl rfl 7 (by decide) (hts _ (GW_in (i := 87) (w := .fieldLink RX6 33 "TicketWindows$Windows" "latestReason" "[I") (by decide +kernel))) (fun _ h9 => h9) rfl hin rfl (by decide +kernel) rfl rfl (Nat.le_of_ble_eq_true rfl) dkX6_79 (fun H locs hP hD hS => ?_)
  have hP : va_P (dC, dI) vwCl ([(h0, .inr (6, [.ref q1, .ref q2, .ref q3, .ref q4, .ref q5, .ref q6, .ref q7, .ref q8])), (q1, .inl (cyI, 24, .inl (fun j : Nat => Int32.ofInt (SI 0 10 j)))), (q2, .inl (cyI, 3, .inl (fun j : Nat => Int32.ofInt (SI 0 11 j)))), (q3, .inl (cyI, 3, .inl (upd (upd (upd (fun _ : Nat => (0 : Int32)) 0 (-5)) 1 (-5)) 2 (-5)))), (q4, .inl (cyI, 3, .inl (fun j : Nat => Int32.ofInt (SI 0 13 j)))), (q5, .inl (cyI, 3, .inl (fun j : Nat => Int32.ofInt (SI 0 14 j)))), (q6, .inl (cyI, 3, .inl (fun j : Nat => Int32.ofInt (SI 0 15 j)))), (q7, .inl (cyI, 3, .inl (fun j : Nat => Int32.ofInt (SI 0 16 j)))), (q8, .inl (cyI, 3, .inl (fun j : Nat => Int32.ofInt (SI 0 17 j))))]) H := hP
  have hD : va_D A ([(h0, .inr (6, [.ref q1, .ref q2, .ref q3, .ref q4, .ref q5, .ref q6, .ref q7, .ref q8])), (q1, .inl (cyI, 24, .inl (fun j : Nat => Int32.ofInt (SI 0 10 j)))), (q2, .inl (cyI, 3, .inl (fun j : Nat => Int32.ofInt (SI 0 11 j)))), (q3, .inl (cyI, 3, .inl (upd (upd (upd (fun _ : Nat => (0 : Int32)) 0 (-5)) 1 (-5)) 2 (-5)))), (q4, .inl (cyI, 3, .inl (fun j : Nat => Int32.ofInt (SI 0 13 j)))), (q5, .inl (cyI, 3, .inl (fun j : Nat => Int32.ofInt (SI 0 14 j)))), (q6, .inl (cyI, 3, .inl (fun j : Nat => Int32.ofInt (SI 0 15 j)))), (q7, .inl (cyI, 3, .inl (fun j : Nat => Int32.ofInt (SI 0 16 j)))), (q8, .inl (cyI, 3, .inl (fun j : Nat => Int32.ofInt (SI 0 17 j))))]) := hD
  have hf12 : (upd (upd (upd (fun _ : Nat => (0 : Int32)) 0 (-5)) 1 (-5)) 2 (-5)) = (fun j : Nat => Int32.ofInt (SI 0 12 j)) := by
    funext j
    rcases Nat.lt_or_ge j 3 with h | h
    · rcases (show j = 0 ∨ j = 1 ∨ j = 2 by omega) with rfl | rfl | rfl <;> rfl
    · unfold upd
      rw [if_neg (by omega), if_neg (by omega), if_neg (by omega)]
      have e : SI 0 12 (j : Int) = 0 := by
        simp only [SI, Nat.reduceEqDiff, ↓reduceIte]
        rw [if_neg (by omega)]
      rw [e]
      rfl
  rw [hf12] at hP hD
  have hP9 : va_P (dC, dI) vwCl (bk cyC cyI cyO [9, 10, 11, 12, 13, 14, 15, 16, 17] (fun c => [h0, q1, q2, q3, q4, q5, q6, q7, q8].getD (c - 9) 0)) H := hP
  have hD9 : va_D A (bk cyC cyI cyO [9, 10, 11, 12, 13, 14, 15, 16, 17] (fun c => [h0, q1, q2, q3, q4, q5, q6, q7, q8].getD (c - 9) 0)) := hD
  refine W.widen (k := 8) (n := 45) (Nat.le_of_ble_eq_true rfl) (Nat.le_of_ble_eq_true rfl) ?_
  exact W.vret hx hb hr (fun t ht hW => ⟨⟨(fun c => [h0, q1, q2, q3, q4, q5, q6, q7, q8].getD (c - 9) 0), rfl, trivial, by rw [ht]; exact hP9, hAe ▸ hD9, rfl⟩, hAe ▸ hS.F ht⟩) (hAe ▸ hS.2.2) dkX6_82
theorem dkX4_0 : decode cX4_init 0 = .ok (.aload_n 0, 1) := by decide +kernel
theorem dkX4_1 : decode cX4_init 1 = .ok (.invokespecial 3, 3) := by decide +kernel
theorem dkX4_4 : decode cX4_init 4 = .ok (.aload_n 0, 1) := by decide +kernel
theorem dkX4_5 : decode cX4_init 5 = .ok (.bipush 60, 2) := by decide +kernel
theorem dkX4_7 : decode cX4_init 7 = .ok (.newarray .char, 2) := by decide +kernel
theorem dkX4_9 : decode cX4_init 9 = .ok (.putfield 9, 3) := by decide +kernel
theorem dkX4_12 : decode cX4_init 12 = .ok (.aload_n 0, 1) := by decide +kernel
theorem dkX4_13 : decode cX4_init 13 = .ok (.bipush 20, 2) := by decide +kernel
theorem dkX4_15 : decode cX4_init 15 = .ok (.newarray .char, 2) := by decide +kernel
theorem dkX4_17 : decode cX4_init 17 = .ok (.putfield 15, 3) := by decide +kernel
theorem dkX4_20 : decode cX4_init 20 = .ok (.aload_n 0, 1) := by decide +kernel
theorem dkX4_21 : decode cX4_init 21 = .ok (.bipush 20, 2) := by decide +kernel
theorem dkX4_23 : decode cX4_init 23 = .ok (.newarray .int, 2) := by decide +kernel
theorem dkX4_25 : decode cX4_init 25 = .ok (.putfield 18, 3) := by decide +kernel
theorem dkX4_28 : decode cX4_init 28 = .ok (.aload_n 0, 1) := by decide +kernel
theorem dkX4_29 : decode cX4_init 29 = .ok (.bipush 20, 2) := by decide +kernel
theorem dkX4_31 : decode cX4_init 31 = .ok (.newarray .int, 2) := by decide +kernel
theorem dkX4_33 : decode cX4_init 33 = .ok (.putfield 22, 3) := by decide +kernel
theorem dkX4_36 : decode cX4_init 36 = .ok (.return_, 1) := by decide +kernel
set_option maxHeartbeats 8000000 in
set_option maxRecDepth 100000 in
theorem k_Orders (l : Launch) (dC : Nat → ClassId) (dI : Nat → Nat → Nat) (cyC cyI cyO : ClassId) (rho : Nat → Nat → Nat) (Bd Ln : Nat) (xs : Int → Int) (h0 sz : Nat) : Met l yX4_init (.code yX4_init cX4_init 1 none :: GW) ({ frames := 1, cells := 4, slots := 120, locals := 12 }) (va_Pc [.ref h0] (fun U => U.heap.size = sz ∧ ((Bd ≤ h0 ∧ Bd ≤ sz) ∧ (∀ c, 36 ≤ c → c < 41 → ¬ Bd ≤ rho 0 c)) ∧ va_P (dC, dI) vwCl [(h0, .inr (4, [.int 0, .int 0, .null, .null, .null, .null, .int 0]))] U.heap ∧ St0 dC dI cyC cyI cyO rho (fun q => Bd ≤ q) Ln xs U)) (va_Qv (fun _ : Nat → Nat => True) (fun (ad : Nat → Nat) t => va_P (dC, dI) vwCl (bk cyC cyI cyO [25, 29, 26, 27, 28] ad) t.heap ∧ va_D (va_A [(h0, .inr (4, [.int 0, .int 0, .null, .null, .null, .null, .int 0]))] sz) (bk cyC cyI cyO [25, 29, 26, 27, 28] ad) ∧ ad 25 = h0) (va_A [(h0, .inr (4, [.int 0, .int 0, .null, .null, .null, .null, .int 0]))] sz)) 4 120 (va_A [(h0, .inr (4, [.int 0, .int 0, .null, .null, .null, .null, .int 0]))] sz) := by
  refine Met.ofW (cc := cX4_init) (maxL := 1) (ret := none) (by decide) rfl ?_
  intro p e s m args below meth c s₁ B hml hv
  obtain ⟨rfl, hsz, ⟨⟨hBh, hBs⟩, hro⟩, hP, hSt⟩ := hv
  have hx := B.exec
  have hb := B.bytes
  have hr := B.returns
  have hts0 := atoms_spec (ws := .code yX4_init cX4_init 1 none :: GW) B.pre
  have hts : ∀ w ∈ GW, w.before _ s = true := fun w hw => hts0 w (List.mem_cons_of_mem _ hw)
  have hown : s.vm.findClass RX4 = some m.cls := findClass_of_methodNamed B.named
  have hlocks := B.notSynchronized
  have hin : meth.name = "<init>" := (name_of_methodNamed B.named B.method).1
  have hK := hSt.1
  subst hsz
  have hD : va_D (va_A [(h0, .inr (4, [.int 0, .int 0, .null, .null, .null, .null, .int 0]))] s.heap.size) [(h0, .inr (4, [.int 0, .int 0, .null, .null, .null, .null, .int 0]))] := D_nd.mpr ⟨by simp, fun q hq => by
    rw [List.mem_singleton] at hq
    rw [hq]
    exact Or.inl ⟨0, _, rfl⟩⟩
  have hAB0 : ∀ q, va_A [(h0, .inr (4, [.int 0, .int 0, .null, .null, .null, .null, .int 0]))] s.heap.size q → Bd ≤ q := fun q h => by
    rcases h with ⟨k, e, h⟩ | h
    · have h1 := List.mem_of_getElem? h
      rw [List.mem_singleton] at h1
      cases h1
      exact hBh
    · exact Nat.le_trans hBs h
  have hA0 : ∀ q : Nat, s.heap.size ≤ q → va_A [(h0, .inr (4, [.int 0, .int 0, .null, .null, .null, .null, .int 0]))] s.heap.size q := fun q h => Or.inr h
  generalize hAe : va_A [(h0, .inr (4, [.int 0, .int 0, .null, .null, .null, .null, .int 0]))] s.heap.size = A at hD hAB0 hA0 ⊢
  have hAB := hAB0
  have hA := hA0
  have hSB : ∀ {H : Heap} {locs : List Loc}, va_S A s.heap H locs → va_S (fun q => Bd ≤ q) s.heap H locs := fun h => ⟨h.1, fun q h1 h2 => h.2.1 q h1 (fun z => h2 (hAB q z)), fun l hl => hAB _ (h.2.2 l hl)⟩
  have hS : va_S A s.heap s.heap [] := va_S.rf
  have hl := lv_entry ([.ref h0]) (n := 1) (Nat.le_of_ble_eq_true rfl)
  rw [lg_entry_eq]
  generalize (lg_sl ([.ref h0]) ++ List.replicate (1 - (lg_sl ([.ref h0])).length) Slot.unset).toArray = ls at hl ⊢
  have hl : lv_has ls 1 [(0, .ref h0)] := hl
  have hP : va_P (dC, dI) vwCl [(h0, .inr (4, [.int 0, .int 0, .null, .null, .null, .null, .int 0]))] s.heap := hP
  refine lv_aload_n hx hb dkX4_0 rfl (lv_at hl 0 rfl) ?_
  refine W.objInit hx hb hown (hts _ (GW_in (i := 186) (w := .methodLink RX4 3 objectInit) (by decide +kernel))) (hts _ (GW_in (i := 31) (w := .instanceMethod objectInit) (by decide +kernel))) (hts _ (GW_in (i := 32) (w := .code objectInit ⟨#[0xb1]⟩ 1 none) (by decide +kernel))) rfl (by rw [hml]; exact hl.1) rfl dkX4_1 (Nat.le_of_ble_eq_true rfl) (Nat.le_of_ble_eq_true rfl) ?_
  refine W.eq (g2 := F0 m 4 ls []) rfl ?_
  refine lv_aload_n hx hb dkX4_4 rfl (lv_at hl 0 rfl) ?_
  refine lv_bipush (v := 60) hx hb dkX4_5 (by decide) ?_
  refine nw_arr (atype := .char) (ty := .char) (a0 := (60, .inl (fun j : Nat => Int32.ofInt (SI 0 29 j)))) hx hb (hts _ (GW_in (i := 207) (w := .arrayClass .char) (by decide +kernel))) rfl hK hP hD hS hA 0 rfl (fun C h => by cases h) (fun cA => by first | rfl | exact congrArg (arrV cA 60) (funext fun j => rfl)) (by decide) (by decide) (by decide) (Nat.le_of_ble_eq_true rfl) (Nat.le_of_ble_eq_true rfl) dkX4_7 (fun q1 H hP hD hS => ?_)
  have hP : va_P (dC, dI) vwCl ([(h0, .inr (4, [.int 0, .int 0, .null, .null, .null, .null, .int 0])), (q1, .inl (cyC, 60, .inl (fun j : Nat => Int32.ofInt (SI 0 29 j))))]) H := hP
  have hD : va_D A ([(h0, .inr (4, [.int 0, .int 0, .null, .null, .null, .null, .int 0])), (q1, .inl (cyC, 60, .inl (fun j : Nat => Int32.ofInt (SI 0 29 j))))]) := hD
  refine va_putF (D := (dC, dI)) (ci := 4) (v := .ref q1) (ty := .array .char) (C := RX4) (T := TX4) (N := 7) hx hb hts (ob_in (c := 25) (by decide) rfl) tyX4 tyX4_ok nmX4 hown hK hP hD hS 0 rfl rfl 5 (by decide) (hts _ (GW_in (i := 191) (w := .fieldLink RX4 9 "TicketWindows$Orders" "text" "[C") (by decide +kernel))) (fun _ h9 => h9) rfl hin rfl (by decide +kernel) rfl rfl (Nat.le_of_ble_eq_true rfl) dkX4_9 (fun H locs hP hD hS => ?_)
  have hP : va_P (dC, dI) vwCl ([(h0, .inr (4, [.int 0, .int 0, .null, .null, .null, .ref q1, .int 0])), (q1, .inl (cyC, 60, .inl (fun j : Nat => Int32.ofInt (SI 0 29 j))))]) H := hP
  have hD : va_D A ([(h0, .inr (4, [.int 0, .int 0, .null, .null, .null, .ref q1, .int 0])), (q1, .inl (cyC, 60, .inl (fun j : Nat => Int32.ofInt (SI 0 29 j))))]) := hD
  refine lv_aload_n hx hb dkX4_12 rfl (lv_at hl 0 rfl) ?_
  refine lv_bipush (v := 20) hx hb dkX4_13 (by decide) ?_
  refine nw_arr (atype := .char) (ty := .char) (a0 := (20, .inl (fun j : Nat => Int32.ofInt (SI 0 26 j)))) hx hb (hts _ (GW_in (i := 207) (w := .arrayClass .char) (by decide +kernel))) rfl hK hP hD hS hA 0 rfl (fun C h => by cases h) (fun cA => by first | rfl | exact congrArg (arrV cA 20) (funext fun j => rfl)) (by decide) (by decide) (by decide) (Nat.le_of_ble_eq_true rfl) (Nat.le_of_ble_eq_true rfl) dkX4_15 (fun q2 H hP hD hS => ?_)
  have hP : va_P (dC, dI) vwCl ([(h0, .inr (4, [.int 0, .int 0, .null, .null, .null, .ref q1, .int 0])), (q1, .inl (cyC, 60, .inl (fun j : Nat => Int32.ofInt (SI 0 29 j)))), (q2, .inl (cyC, 20, .inl (fun j : Nat => Int32.ofInt (SI 0 26 j))))]) H := hP
  have hD : va_D A ([(h0, .inr (4, [.int 0, .int 0, .null, .null, .null, .ref q1, .int 0])), (q1, .inl (cyC, 60, .inl (fun j : Nat => Int32.ofInt (SI 0 29 j)))), (q2, .inl (cyC, 20, .inl (fun j : Nat => Int32.ofInt (SI 0 26 j))))]) := hD
  refine va_putF (D := (dC, dI)) (ci := 4) (v := .ref q2) (ty := .array .char) (C := RX4) (T := TX4) (N := 7) hx hb hts (ob_in (c := 25) (by decide) rfl) tyX4 tyX4_ok nmX4 hown hK hP hD hS 0 rfl rfl 2 (by decide) (hts _ (GW_in (i := 188) (w := .fieldLink RX4 15 "TicketWindows$Orders" "sign" "[C") (by decide +kernel))) (fun _ h9 => h9) rfl hin rfl (by decide +kernel) rfl rfl (Nat.le_of_ble_eq_true rfl) dkX4_17 (fun H locs hP hD hS => ?_)
  have hP : va_P (dC, dI) vwCl ([(h0, .inr (4, [.int 0, .int 0, .ref q2, .null, .null, .ref q1, .int 0])), (q1, .inl (cyC, 60, .inl (fun j : Nat => Int32.ofInt (SI 0 29 j)))), (q2, .inl (cyC, 20, .inl (fun j : Nat => Int32.ofInt (SI 0 26 j))))]) H := hP
  have hD : va_D A ([(h0, .inr (4, [.int 0, .int 0, .ref q2, .null, .null, .ref q1, .int 0])), (q1, .inl (cyC, 60, .inl (fun j : Nat => Int32.ofInt (SI 0 29 j)))), (q2, .inl (cyC, 20, .inl (fun j : Nat => Int32.ofInt (SI 0 26 j))))]) := hD
  refine lv_aload_n hx hb dkX4_20 rfl (lv_at hl 0 rfl) ?_
  refine lv_bipush (v := 20) hx hb dkX4_21 (by decide) ?_
  refine nw_arr (atype := .int) (ty := .int) (a0 := (20, .inl (fun j : Nat => Int32.ofInt (SI 0 27 j)))) hx hb (hts _ (GW_in (i := 54) (w := .arrayClass .int) (by decide +kernel))) rfl hK hP hD hS hA 1 rfl (fun C h => by cases h) (fun cA => by first | rfl | exact congrArg (arrV cA 20) (funext fun j => rfl)) (by decide) (by decide) (by decide) (Nat.le_of_ble_eq_true rfl) (Nat.le_of_ble_eq_true rfl) dkX4_23 (fun q3 H hP hD hS => ?_)
  have hP : va_P (dC, dI) vwCl ([(h0, .inr (4, [.int 0, .int 0, .ref q2, .null, .null, .ref q1, .int 0])), (q1, .inl (cyC, 60, .inl (fun j : Nat => Int32.ofInt (SI 0 29 j)))), (q2, .inl (cyC, 20, .inl (fun j : Nat => Int32.ofInt (SI 0 26 j)))), (q3, .inl (cyI, 20, .inl (fun j : Nat => Int32.ofInt (SI 0 27 j))))]) H := hP
  have hD : va_D A ([(h0, .inr (4, [.int 0, .int 0, .ref q2, .null, .null, .ref q1, .int 0])), (q1, .inl (cyC, 60, .inl (fun j : Nat => Int32.ofInt (SI 0 29 j)))), (q2, .inl (cyC, 20, .inl (fun j : Nat => Int32.ofInt (SI 0 26 j)))), (q3, .inl (cyI, 20, .inl (fun j : Nat => Int32.ofInt (SI 0 27 j))))]) := hD
  refine va_putF (D := (dC, dI)) (ci := 4) (v := .ref q3) (ty := .array .int) (C := RX4) (T := TX4) (N := 7) hx hb hts (ob_in (c := 25) (by decide) rfl) tyX4 tyX4_ok nmX4 hown hK hP hD hS 0 rfl rfl 3 (by decide) (hts _ (GW_in (i := 189) (w := .fieldLink RX4 18 "TicketWindows$Orders" "window" "[I") (by decide +kernel))) (fun _ h9 => h9) rfl hin rfl (by decide +kernel) rfl rfl (Nat.le_of_ble_eq_true rfl) dkX4_25 (fun H locs hP hD hS => ?_)
  have hP : va_P (dC, dI) vwCl ([(h0, .inr (4, [.int 0, .int 0, .ref q2, .ref q3, .null, .ref q1, .int 0])), (q1, .inl (cyC, 60, .inl (fun j : Nat => Int32.ofInt (SI 0 29 j)))), (q2, .inl (cyC, 20, .inl (fun j : Nat => Int32.ofInt (SI 0 26 j)))), (q3, .inl (cyI, 20, .inl (fun j : Nat => Int32.ofInt (SI 0 27 j))))]) H := hP
  have hD : va_D A ([(h0, .inr (4, [.int 0, .int 0, .ref q2, .ref q3, .null, .ref q1, .int 0])), (q1, .inl (cyC, 60, .inl (fun j : Nat => Int32.ofInt (SI 0 29 j)))), (q2, .inl (cyC, 20, .inl (fun j : Nat => Int32.ofInt (SI 0 26 j)))), (q3, .inl (cyI, 20, .inl (fun j : Nat => Int32.ofInt (SI 0 27 j))))]) := hD
  refine lv_aload_n hx hb dkX4_28 rfl (lv_at hl 0 rfl) ?_
  refine lv_bipush (v := 20) hx hb dkX4_29 (by decide) ?_
  refine nw_arr (atype := .int) (ty := .int) (a0 := (20, .inl (fun j : Nat => Int32.ofInt (SI 0 28 j)))) hx hb (hts _ (GW_in (i := 54) (w := .arrayClass .int) (by decide +kernel))) rfl hK hP hD hS hA 1 rfl (fun C h => by cases h) (fun cA => by first | rfl | exact congrArg (arrV cA 20) (funext fun j => rfl)) (by decide) (by decide) (by decide) (Nat.le_of_ble_eq_true rfl) (Nat.le_of_ble_eq_true rfl) dkX4_31 (fun q4 H hP hD hS => ?_)
  have hP : va_P (dC, dI) vwCl ([(h0, .inr (4, [.int 0, .int 0, .ref q2, .ref q3, .null, .ref q1, .int 0])), (q1, .inl (cyC, 60, .inl (fun j : Nat => Int32.ofInt (SI 0 29 j)))), (q2, .inl (cyC, 20, .inl (fun j : Nat => Int32.ofInt (SI 0 26 j)))), (q3, .inl (cyI, 20, .inl (fun j : Nat => Int32.ofInt (SI 0 27 j)))), (q4, .inl (cyI, 20, .inl (fun j : Nat => Int32.ofInt (SI 0 28 j))))]) H := hP
  have hD : va_D A ([(h0, .inr (4, [.int 0, .int 0, .ref q2, .ref q3, .null, .ref q1, .int 0])), (q1, .inl (cyC, 60, .inl (fun j : Nat => Int32.ofInt (SI 0 29 j)))), (q2, .inl (cyC, 20, .inl (fun j : Nat => Int32.ofInt (SI 0 26 j)))), (q3, .inl (cyI, 20, .inl (fun j : Nat => Int32.ofInt (SI 0 27 j)))), (q4, .inl (cyI, 20, .inl (fun j : Nat => Int32.ofInt (SI 0 28 j))))]) := hD
  refine va_putF (D := (dC, dI)) (ci := 4) (v := .ref q4) (ty := .array .int) (C := RX4) (T := TX4) (N := 7) hx hb hts (ob_in (c := 25) (by decide) rfl) tyX4 tyX4_ok nmX4 hown hK hP hD hS 0 rfl rfl 4 (by decide) (hts _ (GW_in (i := 190) (w := .fieldLink RX4 22 "TicketWindows$Orders" "number" "[I") (by decide +kernel))) (fun _ h9 => h9) rfl hin rfl (by decide +kernel) rfl rfl (Nat.le_of_ble_eq_true rfl) dkX4_33 (fun H locs hP hD hS => ?_)
  have hP : va_P (dC, dI) vwCl ([(h0, .inr (4, [.int 0, .int 0, .ref q2, .ref q3, .ref q4, .ref q1, .int 0])), (q1, .inl (cyC, 60, .inl (fun j : Nat => Int32.ofInt (SI 0 29 j)))), (q2, .inl (cyC, 20, .inl (fun j : Nat => Int32.ofInt (SI 0 26 j)))), (q3, .inl (cyI, 20, .inl (fun j : Nat => Int32.ofInt (SI 0 27 j)))), (q4, .inl (cyI, 20, .inl (fun j : Nat => Int32.ofInt (SI 0 28 j))))]) H := hP
  have hD : va_D A ([(h0, .inr (4, [.int 0, .int 0, .ref q2, .ref q3, .ref q4, .ref q1, .int 0])), (q1, .inl (cyC, 60, .inl (fun j : Nat => Int32.ofInt (SI 0 29 j)))), (q2, .inl (cyC, 20, .inl (fun j : Nat => Int32.ofInt (SI 0 26 j)))), (q3, .inl (cyI, 20, .inl (fun j : Nat => Int32.ofInt (SI 0 27 j)))), (q4, .inl (cyI, 20, .inl (fun j : Nat => Int32.ofInt (SI 0 28 j))))]) := hD
  have hP9 : va_P (dC, dI) vwCl (bk cyC cyI cyO [25, 29, 26, 27, 28] (fun c => [h0, q2, q3, q4, q1].getD (c - 25) 0)) H := hP
  have hD9 : va_D A (bk cyC cyI cyO [25, 29, 26, 27, 28] (fun c => [h0, q2, q3, q4, q1].getD (c - 25) 0)) := hD
  refine W.widen (k := 4) (n := 120) (Nat.le_of_ble_eq_true rfl) (Nat.le_of_ble_eq_true rfl) ?_
  exact W.vret hx hb hr (fun t ht hW => ⟨⟨(fun c => [h0, q2, q3, q4, q1].getD (c - 25) 0), rfl, trivial, by rw [ht]; exact hP9, hAe ▸ hD9, rfl⟩, hAe ▸ hS.F ht⟩) (hAe ▸ hS.2.2) dkX4_36
