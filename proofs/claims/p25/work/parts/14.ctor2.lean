theorem dkX3_0 : decode cX3_init 0 = .ok (.aload_n 0, 1) := by decide +kernel
theorem dkX3_1 : decode cX3_init 1 = .ok (.invokespecial 3, 3) := by decide +kernel
theorem dkX3_4 : decode cX3_init 4 = .ok (.aload_n 0, 1) := by decide +kernel
theorem dkX3_5 : decode cX3_init 5 = .ok (.iconst 1, 1) := by decide +kernel
theorem dkX3_6 : decode cX3_init 6 = .ok (.putfield 9, 3) := by decide +kernel
theorem dkX3_9 : decode cX3_init 9 = .ok (.aload_n 0, 1) := by decide +kernel
theorem dkX3_10 : decode cX3_init 10 = .ok (.iconst 3, 1) := by decide +kernel
theorem dkX3_11 : decode cX3_init 11 = .ok (.newarray .int, 2) := by decide +kernel
theorem dkX3_13 : decode cX3_init 13 = .ok (.putfield 15, 3) := by decide +kernel
theorem dkX3_16 : decode cX3_init 16 = .ok (.iconst 0, 1) := by decide +kernel
theorem dkX3_17 : decode cX3_init 17 = .ok (.istore_n 1, 1) := by decide +kernel
theorem dkX3_18 : decode cX3_init 18 = .ok (.iload_n 1, 1) := by decide +kernel
theorem dkX3_19 : decode cX3_init 19 = .ok (.iconst 3, 1) := by decide +kernel
theorem dkX3_20 : decode cX3_init 20 = .ok (.if_icmp .ge 20, 3) := by decide +kernel
theorem dkX3_23 : decode cX3_init 23 = .ok (.aload_n 0, 1) := by decide +kernel
theorem dkX3_24 : decode cX3_init 24 = .ok (.getfield 15, 3) := by decide +kernel
theorem dkX3_27 : decode cX3_init 27 = .ok (.iload_n 1, 1) := by decide +kernel
theorem dkX3_28 : decode cX3_init 28 = .ok (.getstatic 19, 3) := by decide +kernel
theorem dkX3_31 : decode cX3_init 31 = .ok (.iload_n 1, 1) := by decide +kernel
theorem dkX3_32 : decode cX3_init 32 = .ok (.iaload, 1) := by decide +kernel
theorem dkX3_33 : decode cX3_init 33 = .ok (.iastore, 1) := by decide +kernel
theorem dkX3_34 : decode cX3_init 34 = .ok (.iinc 1 1, 3) := by decide +kernel
theorem dkX3_37 : decode cX3_init 37 = .ok (.goto (-19), 3) := by decide +kernel
theorem dkX3_40 : decode cX3_init 40 = .ok (.aload_n 0, 1) := by decide +kernel
theorem dkX3_41 : decode cX3_init 41 = .ok (.new 22, 3) := by decide +kernel
theorem dkX3_44 : decode cX3_init 44 = .ok (.dup, 1) := by decide +kernel
theorem dkX3_45 : decode cX3_init 45 = .ok (.invokespecial 24, 3) := by decide +kernel
theorem dkX3_48 : decode cX3_init 48 = .ok (.putfield 25, 3) := by decide +kernel
theorem dkX3_51 : decode cX3_init 51 = .ok (.aload_n 0, 1) := by decide +kernel
theorem dkX3_52 : decode cX3_init 52 = .ok (.new 29, 3) := by decide +kernel
theorem dkX3_55 : decode cX3_init 55 = .ok (.dup, 1) := by decide +kernel
theorem dkX3_56 : decode cX3_init 56 = .ok (.invokespecial 31, 3) := by decide +kernel
theorem dkX3_59 : decode cX3_init 59 = .ok (.putfield 32, 3) := by decide +kernel
theorem dkX3_62 : decode cX3_init 62 = .ok (.aload_n 0, 1) := by decide +kernel
theorem dkX3_63 : decode cX3_init 63 = .ok (.new 36, 3) := by decide +kernel
theorem dkX3_66 : decode cX3_init 66 = .ok (.dup, 1) := by decide +kernel
theorem dkX3_67 : decode cX3_init 67 = .ok (.invokespecial 38, 3) := by decide +kernel
theorem dkX3_70 : decode cX3_init 70 = .ok (.putfield 39, 3) := by decide +kernel
theorem dkX3_73 : decode cX3_init 73 = .ok (.aload_n 0, 1) := by decide +kernel
theorem dkX3_74 : decode cX3_init 74 = .ok (.new 43, 3) := by decide +kernel
theorem dkX3_77 : decode cX3_init 77 = .ok (.dup, 1) := by decide +kernel
theorem dkX3_78 : decode cX3_init 78 = .ok (.invokespecial 45, 3) := by decide +kernel
theorem dkX3_81 : decode cX3_init 81 = .ok (.putfield 46, 3) := by decide +kernel
theorem dkX3_84 : decode cX3_init 84 = .ok (.aload_n 0, 1) := by decide +kernel
theorem dkX3_85 : decode cX3_init 85 = .ok (.new 50, 3) := by decide +kernel
theorem dkX3_88 : decode cX3_init 88 = .ok (.dup, 1) := by decide +kernel
theorem dkX3_89 : decode cX3_init 89 = .ok (.invokespecial 52, 3) := by decide +kernel
theorem dkX3_92 : decode cX3_init 92 = .ok (.putfield 53, 3) := by decide +kernel
theorem dkX3_95 : decode cX3_init 95 = .ok (.return_, 1) := by decide +kernel
set_option maxHeartbeats 8000000 in
set_option maxRecDepth 100000 in
theorem k_Office (l : Launch) (dC : Nat → ClassId) (dI : Nat → Nat → Nat) (cyC cyI cyO : ClassId) (rho : Nat → Nat → Nat) (Bd Ln : Nat) (xs : Int → Int) (h0 sz : Nat) : Met l yX3_init (.code yX3_init cX3_init 2 none :: GW) ({ frames := 2, cells := 22, slots := 1711, locals := 33 }) (va_Pc [.ref h0] (fun U => U.heap.size = sz ∧ ((Bd ≤ h0 ∧ Bd ≤ sz) ∧ (∀ c, 36 ≤ c → c < 41 → ¬ Bd ≤ rho 0 c)) ∧ va_P (dC, dI) vwCl [(h0, .inr (3, [.int 0, .int 0, .null, .null, .null, .null, .null, .null, .int 0, .int 0, .int 0]))] U.heap ∧ St0 dC dI cyC cyI cyO rho (fun q => Bd ≤ q) Ln xs U)) (va_Qv (fun _ : Nat → Nat => True) (fun (ad : Nat → Nat) t => va_P (dC, dI) vwCl (bk cyC cyI cyO [0, 1, 2, 3, 4, 5, 6, 7, 8, 9, 10, 11, 12, 13, 14, 15, 16, 17, 18, 19, 20, 21, 22] ad) t.heap ∧ va_D (va_A [(h0, .inr (3, [.int 0, .int 0, .null, .null, .null, .null, .null, .null, .int 0, .int 0, .int 0]))] sz) (bk cyC cyI cyO [0, 1, 2, 3, 4, 5, 6, 7, 8, 9, 10, 11, 12, 13, 14, 15, 16, 17, 18, 19, 20, 21, 22] ad) ∧ ad 0 = h0) (va_A [(h0, .inr (3, [.int 0, .int 0, .null, .null, .null, .null, .null, .null, .int 0, .int 0, .int 0]))] sz)) 22 1711 (va_A [(h0, .inr (3, [.int 0, .int 0, .null, .null, .null, .null, .null, .null, .int 0, .int 0, .int 0]))] sz) := by
  refine Met.ofW (cc := cX3_init) (maxL := 2) (ret := none) (by decide) rfl ?_
  intro p e s m args below meth c s₁ B hml hv
  obtain ⟨rfl, hsz, ⟨⟨hBh, hBs⟩, hro⟩, hP, hSt⟩ := hv
  have hx := B.exec
  have hb := B.bytes
  have hr := B.returns
  have hts0 := atoms_spec (ws := .code yX3_init cX3_init 2 none :: GW) B.pre
  have hts : ∀ w ∈ GW, w.before _ s = true := fun w hw => hts0 w (List.mem_cons_of_mem _ hw)
  have hown : s.vm.findClass RX3 = some m.cls := findClass_of_methodNamed B.named
  have hlocks := B.notSynchronized
  have hin : meth.name = "<init>" := (name_of_methodNamed B.named B.method).1
  have hK := hSt.1
  subst hsz
  have hD : va_D (va_A [(h0, .inr (3, [.int 0, .int 0, .null, .null, .null, .null, .null, .null, .int 0, .int 0, .int 0]))] s.heap.size) [(h0, .inr (3, [.int 0, .int 0, .null, .null, .null, .null, .null, .null, .int 0, .int 0, .int 0]))] := D_nd.mpr ⟨by simp, fun q hq => by
    rw [List.mem_singleton] at hq
    rw [hq]
    exact Or.inl ⟨0, _, rfl⟩⟩
  have hAB0 : ∀ q, va_A [(h0, .inr (3, [.int 0, .int 0, .null, .null, .null, .null, .null, .null, .int 0, .int 0, .int 0]))] s.heap.size q → Bd ≤ q := fun q h => by
    rcases h with ⟨k, e, h⟩ | h
    · have h1 := List.mem_of_getElem? h
      rw [List.mem_singleton] at h1
      cases h1
      exact hBh
    · exact Nat.le_trans hBs h
  have hA0 : ∀ q : Nat, s.heap.size ≤ q → va_A [(h0, .inr (3, [.int 0, .int 0, .null, .null, .null, .null, .null, .null, .int 0, .int 0, .int 0]))] s.heap.size q := fun q h => Or.inr h
  generalize hAe : va_A [(h0, .inr (3, [.int 0, .int 0, .null, .null, .null, .null, .null, .null, .int 0, .int 0, .int 0]))] s.heap.size = A at hD hAB0 hA0 ⊢
  have hAB := hAB0
  have hA := hA0
  have hSB : ∀ {H : Heap} {locs : List Loc}, va_S A s.heap H locs → va_S (fun q => Bd ≤ q) s.heap H locs := fun h => ⟨h.1, fun q h1 h2 => h.2.1 q h1 (fun z => h2 (hAB q z)), fun l hl => hAB _ (h.2.2 l hl)⟩
  have hS : va_S A s.heap s.heap [] := va_S.rf
  have hl := lv_entry ([.ref h0]) (n := 2) (Nat.le_of_ble_eq_true rfl)
  rw [lg_entry_eq]
  generalize (lg_sl ([.ref h0]) ++ List.replicate (2 - (lg_sl ([.ref h0])).length) Slot.unset).toArray = ls at hl ⊢
  have hl : lv_has ls 2 [(0, .ref h0)] := hl
  have hP : va_P (dC, dI) vwCl [(h0, .inr (3, [.int 0, .int 0, .null, .null, .null, .null, .null, .null, .int 0, .int 0, .int 0]))] s.heap := hP
  refine lv_aload_n hx hb dkX3_0 rfl (lv_at hl 0 rfl) ?_
  refine W.objInit hx hb hown (hts _ (GW_in (i := 38) (w := .methodLink RX3 3 objectInit) (by decide +kernel))) (hts _ (GW_in (i := 31) (w := .instanceMethod objectInit) (by decide +kernel))) (hts _ (GW_in (i := 32) (w := .code objectInit ⟨#[0xb1]⟩ 1 none) (by decide +kernel))) rfl (by rw [hml]; exact hl.1) rfl dkX3_1 (Nat.le_of_ble_eq_true rfl) (Nat.le_of_ble_eq_true rfl) ?_
  refine W.eq (g2 := F0 m 4 ls []) rfl ?_
  refine lv_aload_n hx hb dkX3_4 rfl (lv_at hl 0 rfl) ?_
  refine lv_iconst (v := 1) hx hb dkX3_5 (by decide) ?_
  refine va_put (D := (dC, dI)) (ci := 3) (v := .int 1) (ty := .int) (C := RX3) (T := TX3) (N := 11) hx hb hts (ob_in (c := 0) (by decide) rfl) tyX3 tyX3_ok nmX3 hown hK hP hD hS 0 rfl rfl 1 (by decide) (hts _ (GW_in (i := 141) (w := .fieldLink RX3 9 "TicketWindows$Office" "lot" "I") (by decide +kernel))) (fun _ h9 => h9) rfl (by decide +kernel) rfl rfl (Nat.le_of_ble_eq_true rfl) dkX3_6 (fun H locs hP hD hS => ?_)
  have hP : va_P (dC, dI) vwCl ([(h0, .inr (3, [.int 0, .int 1, .null, .null, .null, .null, .null, .null, .int 0, .int 0, .int 0]))]) H := hP
  have hD : va_D A ([(h0, .inr (3, [.int 0, .int 1, .null, .null, .null, .null, .null, .null, .int 0, .int 0, .int 0]))]) := hD
  refine lv_aload_n hx hb dkX3_9 rfl (lv_at hl 0 rfl) ?_
  refine lv_iconst (v := 3) hx hb dkX3_10 (by decide) ?_
  refine nw_arr (atype := .int) (ty := .int) (a0 := (3, .inl (fun _ : Nat => (0 : Int32)))) hx hb (hts _ (GW_in (i := 54) (w := .arrayClass .int) (by decide +kernel))) rfl hK hP hD hS hA 1 rfl (fun C h => by cases h) (fun cA => by first | rfl | exact congrArg (arrV cA 3) (funext fun j => rfl)) (by decide) (by decide) (by decide) (Nat.le_of_ble_eq_true rfl) (Nat.le_of_ble_eq_true rfl) dkX3_11 (fun q1 H hP hD hS => ?_)
  have hP : va_P (dC, dI) vwCl ([(h0, .inr (3, [.int 0, .int 1, .null, .null, .null, .null, .null, .null, .int 0, .int 0, .int 0])), (q1, .inl (cyI, 3, .inl (fun _ : Nat => (0 : Int32))))]) H := hP
  have hD : va_D A ([(h0, .inr (3, [.int 0, .int 1, .null, .null, .null, .null, .null, .null, .int 0, .int 0, .int 0])), (q1, .inl (cyI, 3, .inl (fun _ : Nat => (0 : Int32))))]) := hD
  refine va_putF (D := (dC, dI)) (ci := 3) (v := .ref q1) (ty := .array .int) (C := RX3) (T := TX3) (N := 11) hx hb hts (ob_in (c := 0) (by decide) rfl) tyX3 tyX3_ok nmX3 hown hK hP hD hS 0 rfl rfl 2 (by decide) (hts _ (GW_in (i := 142) (w := .fieldLink RX3 15 "TicketWindows$Office" "settings" "[I") (by decide +kernel))) (fun _ h9 => h9) rfl hin rfl (by decide +kernel) rfl rfl (Nat.le_of_ble_eq_true rfl) dkX3_13 (fun H locs hP hD hS => ?_)
  have hP : va_P (dC, dI) vwCl ([(h0, .inr (3, [.int 0, .int 1, .ref q1, .null, .null, .null, .null, .null, .int 0, .int 0, .int 0])), (q1, .inl (cyI, 3, .inl (fun _ : Nat => (0 : Int32))))]) H := hP
  have hD : va_D A ([(h0, .inr (3, [.int 0, .int 1, .ref q1, .null, .null, .null, .null, .null, .int 0, .int 0, .int 0])), (q1, .inl (cyI, 3, .inl (fun _ : Nat => (0 : Int32))))]) := hD
  refine lv_iconst (v := 0) hx hb dkX3_16 (by decide) ?_
  refine lv_istore_n (lv' := [(1, .int 0), (0, .ref h0)]) hx hb dkX3_17 rfl hl (by decide) rfl (fun ls hl => ?_)
  refine lv_iload_n hx hb dkX3_18 rfl (lv_at hl 0 rfl) ?_
  refine lv_iconst (v := 3) hx hb dkX3_19 (by decide) ?_
  refine lv_icmp_ge (tgt := 40) hx hb dkX3_20 (by decide) (fun q => absurd q (by decide)) (fun _ => ?_)
  refine lv_aload_n hx hb dkX3_23 rfl (lv_at hl 1 rfl) ?_
  refine va_get (D := (dC, dI)) (ci := 3) (v := .ref q1) (C := RX3) (T := TX3) (N := 11) hx hb hts (ob_in (c := 0) (by decide) rfl) hown hK hP 0 rfl rfl 2 (by decide) (hts _ (GW_in (i := 142) (w := .fieldLink RX3 15 "TicketWindows$Office" "settings" "[I") (by decide +kernel))) (fun _ h9 => h9) rfl dkX3_24 ?_
  refine lv_iload_n hx hb dkX3_27 rfl (lv_at hl 0 rfl) ?_
  refine va_getsN hx hb (va_Z.narrow (hSt.2.2.1 36 (by decide) (by decide)).1 hAB) hS hown (va_Nw.use rfl (hSt.2.1 39 (.fieldLinkNest RX3 19 "TicketWindows" "FIRST_SETTING" "[I" "TicketWindows") (by decide +kernel) rfl)) (fun _ h9 => h9) dkX3_28 ?_
  refine lv_iload_n hx hb dkX3_31 rfl (lv_at hl 0 rfl) ?_
  refine va_ti hx hb (va_T.narrow (hSt.2.2.1 36 (by decide) (by decide)).2 hAB) hS (by unfold vp_in; decide) (v := .int 0) (by rfl) dkX3_32 ?_
  refine va_iast hx hb hK hP hD hS 1 1 rfl rfl (by unfold vp_in; decide) dkX3_33 (fun H locs hP hD hS => ?_)
  have hP : va_P (dC, dI) vwCl ([(h0, .inr (3, [.int 0, .int 1, .ref q1, .null, .null, .null, .null, .null, .int 0, .int 0, .int 0])), (q1, .inl (cyI, 3, .inl (upd (fun _ : Nat => (0 : Int32)) 0 (0))))]) H := hP
  have hD : va_D A ([(h0, .inr (3, [.int 0, .int 1, .ref q1, .null, .null, .null, .null, .null, .int 0, .int 0, .int 0])), (q1, .inl (cyI, 3, .inl (upd (fun _ : Nat => (0 : Int32)) 0 (0))))]) := hD
  refine lv_iinc (v := 1) (lv' := [(1, .int 1), (0, .ref h0)]) hx hb dkX3_34 hl (k := 0) rfl (by decide) (by decide) rfl (fun ls hl => ?_)
  refine lv_goto (tgt := 18) hx hb dkX3_37 (by decide) ?_
  refine lv_iload_n hx hb dkX3_18 rfl (lv_at hl 0 rfl) ?_
  refine lv_iconst (v := 3) hx hb dkX3_19 (by decide) ?_
  refine lv_icmp_ge (tgt := 40) hx hb dkX3_20 (by decide) (fun q => absurd q (by decide)) (fun _ => ?_)
  refine lv_aload_n hx hb dkX3_23 rfl (lv_at hl 1 rfl) ?_
  refine va_get (D := (dC, dI)) (ci := 3) (v := .ref q1) (C := RX3) (T := TX3) (N := 11) hx hb hts (ob_in (c := 0) (by decide) rfl) hown hK hP 0 rfl rfl 2 (by decide) (hts _ (GW_in (i := 142) (w := .fieldLink RX3 15 "TicketWindows$Office" "settings" "[I") (by decide +kernel))) (fun _ h9 => h9) rfl dkX3_24 ?_
  refine lv_iload_n hx hb dkX3_27 rfl (lv_at hl 0 rfl) ?_
  refine va_getsN hx hb (va_Z.narrow (hSt.2.2.1 36 (by decide) (by decide)).1 hAB) hS hown (va_Nw.use rfl (hSt.2.1 39 (.fieldLinkNest RX3 19 "TicketWindows" "FIRST_SETTING" "[I" "TicketWindows") (by decide +kernel) rfl)) (fun _ h9 => h9) dkX3_28 ?_
  refine lv_iload_n hx hb dkX3_31 rfl (lv_at hl 0 rfl) ?_
  refine va_ti hx hb (va_T.narrow (hSt.2.2.1 36 (by decide) (by decide)).2 hAB) hS (by unfold vp_in; decide) (v := .int 3) (by rfl) dkX3_32 ?_
  refine va_iast hx hb hK hP hD hS 1 1 rfl rfl (by unfold vp_in; decide) dkX3_33 (fun H locs hP hD hS => ?_)
  have hP : va_P (dC, dI) vwCl ([(h0, .inr (3, [.int 0, .int 1, .ref q1, .null, .null, .null, .null, .null, .int 0, .int 0, .int 0])), (q1, .inl (cyI, 3, .inl (upd (upd (fun _ : Nat => (0 : Int32)) 0 (0)) 1 (3))))]) H := hP
  have hD : va_D A ([(h0, .inr (3, [.int 0, .int 1, .ref q1, .null, .null, .null, .null, .null, .int 0, .int 0, .int 0])), (q1, .inl (cyI, 3, .inl (upd (upd (fun _ : Nat => (0 : Int32)) 0 (0)) 1 (3))))]) := hD
  refine lv_iinc (v := 2) (lv' := [(1, .int 2), (0, .ref h0)]) hx hb dkX3_34 hl (k := 0) rfl (by decide) (by decide) rfl (fun ls hl => ?_)
  refine lv_goto (tgt := 18) hx hb dkX3_37 (by decide) ?_
  refine lv_iload_n hx hb dkX3_18 rfl (lv_at hl 0 rfl) ?_
  refine lv_iconst (v := 3) hx hb dkX3_19 (by decide) ?_
  refine lv_icmp_ge (tgt := 40) hx hb dkX3_20 (by decide) (fun q => absurd q (by decide)) (fun _ => ?_)
  refine lv_aload_n hx hb dkX3_23 rfl (lv_at hl 1 rfl) ?_
  refine va_get (D := (dC, dI)) (ci := 3) (v := .ref q1) (C := RX3) (T := TX3) (N := 11) hx hb hts (ob_in (c := 0) (by decide) rfl) hown hK hP 0 rfl rfl 2 (by decide) (hts _ (GW_in (i := 142) (w := .fieldLink RX3 15 "TicketWindows$Office" "settings" "[I") (by decide +kernel))) (fun _ h9 => h9) rfl dkX3_24 ?_
  refine lv_iload_n hx hb dkX3_27 rfl (lv_at hl 0 rfl) ?_
  refine va_getsN hx hb (va_Z.narrow (hSt.2.2.1 36 (by decide) (by decide)).1 hAB) hS hown (va_Nw.use rfl (hSt.2.1 39 (.fieldLinkNest RX3 19 "TicketWindows" "FIRST_SETTING" "[I" "TicketWindows") (by decide +kernel) rfl)) (fun _ h9 => h9) dkX3_28 ?_
  refine lv_iload_n hx hb dkX3_31 rfl (lv_at hl 0 rfl) ?_
  refine va_ti hx hb (va_T.narrow (hSt.2.2.1 36 (by decide) (by decide)).2 hAB) hS (by unfold vp_in; decide) (v := .int 12) (by rfl) dkX3_32 ?_
  refine va_iast hx hb hK hP hD hS 1 1 rfl rfl (by unfold vp_in; decide) dkX3_33 (fun H locs hP hD hS => ?_)
  have hP : va_P (dC, dI) vwCl ([(h0, .inr (3, [.int 0, .int 1, .ref q1, .null, .null, .null, .null, .null, .int 0, .int 0, .int 0])), (q1, .inl (cyI, 3, .inl (upd (upd (upd (fun _ : Nat => (0 : Int32)) 0 (0)) 1 (3)) 2 (12))))]) H := hP
  have hD : va_D A ([(h0, .inr (3, [.int 0, .int 1, .ref q1, .null, .null, .null, .null, .null, .int 0, .int 0, .int 0])), (q1, .inl (cyI, 3, .inl (upd (upd (upd (fun _ : Nat => (0 : Int32)) 0 (0)) 1 (3)) 2 (12))))]) := hD
  refine lv_iinc (v := 3) (lv' := [(1, .int 3), (0, .ref h0)]) hx hb dkX3_34 hl (k := 0) rfl (by decide) (by decide) rfl (fun ls hl => ?_)
  refine lv_goto (tgt := 18) hx hb dkX3_37 (by decide) ?_
  refine lv_iload_n hx hb dkX3_18 rfl (lv_at hl 0 rfl) ?_
  refine lv_iconst (v := 3) hx hb dkX3_19 (by decide) ?_
  refine lv_icmp_ge (tgt := 40) hx hb dkX3_20 (by decide) (fun _ => ?_) (fun q => absurd (by decide) q)
  refine lv_aload_n hx hb dkX3_40 rfl (lv_at hl 1 rfl) ?_
  refine va_new (ci := 5) (fs := [.null, .null]) (C := RX5) (T := TX5) (N := 2) hx hb hts (ob_in (c := 2) (by decide) rfl) tyX5 tyX5_ok hown (hts _ (GW_in (i := 41) (w := .classLink RX3 22 RX5) (by decide +kernel))) (hts _ (GW_in (i := 42) (w := .instantiable RX5 2) (by decide +kernel))) (hts _ (GW_in (i := 17) (w := .initialized RX5) (by decide +kernel))) hK hP hD hS hA rfl (fun j hj => by rcases (show j = 0 ∨ j = 1 by omega) with rfl | rfl <;> rfl) (Nat.le_of_ble_eq_true rfl) (Nat.le_of_ble_eq_true rfl) dkX3_41 (fun q2 H hP hD hS => ?_)
  refine lv_dup hx hb dkX3_44 rfl ?_
  have hPc := jn_P (wr := [(h0, .inr (3, [.int 0, .int 1, .ref q1, .null, .null, .null, .null, .null, .int 0, .int 0, .int 0])), (q1, .inl (cyI, 3, .inl (upd (upd (upd (fun _ : Nat => (0 : Int32)) 0 (0)) 1 (3)) 2 (12))))]) hP
  have hbq := hAB _ (jn_D (wr := [(h0, .inr (3, [.int 0, .int 1, .ref q1, .null, .null, .null, .null, .null, .int 0, .int 0, .int 0])), (q1, .inl (cyI, 3, .inl (upd (upd (upd (fun _ : Nat => (0 : Int32)) 0 (0)) 1 (3)) 2 (12))))]) hD)
  have hFc : ∀ x, va_A [(q2, .inr (5, [.null, .null]))] H.size x → A x := fun x hx => by
    rcases hx with ⟨k, e, hx⟩ | hx
    · obtain ⟨hk, hx2⟩ := List.getElem?_eq_some_iff.mp hx
      simp only [List.length_cons, List.length_nil] at hk
      obtain rfl : k = 0 := by omega
      cases hx2
      exact jn_D (wr := [(h0, .inr (3, [.int 0, .int 1, .ref q1, .null, .null, .null, .null, .null, .int 0, .int 0, .int 0])), (q1, .inl (cyI, 3, .inl (upd (upd (upd (fun _ : Nat => (0 : Int32)) 0 (0)) 1 (3)) 2 (12))))]) hD
    · exact hA x (Nat.le_trans hS.1 hx)
  refine va_callv (va_runI (As := []) (rest := [.ref q2, .ref h0]) ⟨hx, hb, hml, hown, hts⟩ (k_Tickets l dC dI cyC cyI cyO rho Bd Ln xs q2 H.size) (cwI 0 hts (fun w hw => by
      rcases List.mem_cons.mp hw with h | h
      · rw [h]; exact GW_good _ (GW_in (i := 45) (by decide +kernel))
      · exact GW_good w h) rfl rfl rfl (hts _ (GW_in (i := 17) (w := .initialized RX5) (by decide +kernel))) (hts _ (GW_in (i := 43) (w := .methodLink RX3 24 yX5_init) (by decide +kernel))) (hts _ (GW_in (i := 44) (w := .instanceMethod yX5_init) (by decide +kernel))) rfl (by decide +kernel) ⟨Nat.le_of_ble_eq_true rfl, Nat.le_of_ble_eq_true rfl⟩) ⟨fun a U g mk h => ⟨h.1, h.2.1, h.2.2.1, h.2.2.2.1, St0_calling h.2.2.2.2 g mk a⟩, fun U hU hW => ⟨rfl, by rw [hU], ⟨⟨hbq, Nat.le_trans hBs hS.1⟩, hro⟩, by rw [hU]; exact hPc, St0_next hSt hro (hSB hS) hU hW⟩⟩ rfl rfl hl.1 rfl (lv_room (Nat.le_of_ble_eq_true rfl)) dkX3_45 ⟨Nat.le_of_ble_eq_true rfl, Nat.le_of_ble_eq_true rfl⟩) hS (fun q _ h => hFc q h) hFc (fun ad2 t H1 locs ht hvm _ hB hz1 hk1 hS => ?_)
  obtain ⟨hP1, hD1, had_ad2⟩ := hB
  rw [ht] at hP1
  obtain ⟨hP, hD⟩ := jn (wr := [(h0, .inr (3, [.int 0, .int 1, .ref q1, .null, .null, .null, .null, .null, .int 0, .int 0, .int 0])), (q1, .inl (cyI, 3, .inl (upd (upd (upd (fun _ : Nat => (0 : Int32)) 0 (0)) 1 (3)) 2 (12))))]) hP hD hk1 hFc hP1 hD1
  generalize H1 = H at hP hS ⊢
  have hP : va_P (dC, dI) vwCl (([(h0, .inr (3, [.int 0, .int 1, .ref q1, .null, .null, .null, .null, .null, .int 0, .int 0, .int 0])), (q1, .inl (cyI, 3, .inl (upd (upd (upd (fun _ : Nat => (0 : Int32)) 0 (0)) 1 (3)) 2 (12))))] ++ bk cyC cyI cyO [2, 3, 4] ad2)) H := hP
  have hD : va_D A (([(h0, .inr (3, [.int 0, .int 1, .ref q1, .null, .null, .null, .null, .null, .int 0, .int 0, .int 0])), (q1, .inl (cyI, 3, .inl (upd (upd (upd (fun _ : Nat => (0 : Int32)) 0 (0)) 1 (3)) 2 (12))))] ++ bk cyC cyI cyO [2, 3, 4] ad2)) := hD
  refine va_putF (D := (dC, dI)) (ci := 3) (v := .ref q2) (ty := .object "TicketWindows$Tickets") (C := RX3) (T := TX3) (N := 11) hx hb hts (ob_in (c := 0) (by decide) rfl) tyX3 tyX3_ok nmX3 hown hK hP hD hS 0 rfl rfl 3 (by decide) (hts _ (GW_in (i := 144) (w := .fieldLink RX3 25 "TicketWindows$Office" "tickets" "LTicketWindows$Tickets;") (by decide +kernel))) (fun _ h9 => h9) rfl hin rfl (by decide +kernel) rfl rfl (Nat.le_of_ble_eq_true rfl) dkX3_48 (fun H locs hP hD hS => ?_)
  have hP : va_P (dC, dI) vwCl (([(h0, .inr (3, [.int 0, .int 1, .ref q1, .ref q2, .null, .null, .null, .null, .int 0, .int 0, .int 0])), (q1, .inl (cyI, 3, .inl (upd (upd (upd (fun _ : Nat => (0 : Int32)) 0 (0)) 1 (3)) 2 (12))))] ++ bk cyC cyI cyO [2, 3, 4] ad2)) H := hP
  have hD : va_D A (([(h0, .inr (3, [.int 0, .int 1, .ref q1, .ref q2, .null, .null, .null, .null, .int 0, .int 0, .int 0])), (q1, .inl (cyI, 3, .inl (upd (upd (upd (fun _ : Nat => (0 : Int32)) 0 (0)) 1 (3)) 2 (12))))] ++ bk cyC cyI cyO [2, 3, 4] ad2)) := hD
  refine lv_aload_n hx hb dkX3_51 rfl (lv_at hl 1 rfl) ?_
  refine va_new (ci := 1) (fs := [.null, .null, .null]) (C := RX1) (T := TX1) (N := 3) hx hb hts (ob_in (c := 5) (by decide) rfl) tyX1 tyX1_ok hown (hts _ (GW_in (i := 55) (w := .classLink RX3 29 RX1) (by decide +kernel))) (hts _ (GW_in (i := 56) (w := .instantiable RX1 3) (by decide +kernel))) (hts _ (GW_in (i := 18) (w := .initialized RX1) (by decide +kernel))) hK hP hD hS hA rfl (fun j hj => by rcases (show j = 0 ∨ j = 1 ∨ j = 2 by omega) with rfl | rfl | rfl <;> rfl) (Nat.le_of_ble_eq_true rfl) (Nat.le_of_ble_eq_true rfl) dkX3_52 (fun q3 H hP hD hS => ?_)
  refine lv_dup hx hb dkX3_55 rfl ?_
  have hPc := jn_P (wr := ([(h0, .inr (3, [.int 0, .int 1, .ref q1, .ref q2, .null, .null, .null, .null, .int 0, .int 0, .int 0])), (q1, .inl (cyI, 3, .inl (upd (upd (upd (fun _ : Nat => (0 : Int32)) 0 (0)) 1 (3)) 2 (12))))] ++ bk cyC cyI cyO [2, 3, 4] ad2)) hP
  have hbq := hAB _ (jn_D (wr := ([(h0, .inr (3, [.int 0, .int 1, .ref q1, .ref q2, .null, .null, .null, .null, .int 0, .int 0, .int 0])), (q1, .inl (cyI, 3, .inl (upd (upd (upd (fun _ : Nat => (0 : Int32)) 0 (0)) 1 (3)) 2 (12))))] ++ bk cyC cyI cyO [2, 3, 4] ad2)) hD)
  have hFc : ∀ x, va_A [(q3, .inr (1, [.null, .null, .null]))] H.size x → A x := fun x hx => by
    rcases hx with ⟨k, e, hx⟩ | hx
    · obtain ⟨hk, hx2⟩ := List.getElem?_eq_some_iff.mp hx
      simp only [List.length_cons, List.length_nil] at hk
      obtain rfl : k = 0 := by omega
      cases hx2
      exact jn_D (wr := ([(h0, .inr (3, [.int 0, .int 1, .ref q1, .ref q2, .null, .null, .null, .null, .int 0, .int 0, .int 0])), (q1, .inl (cyI, 3, .inl (upd (upd (upd (fun _ : Nat => (0 : Int32)) 0 (0)) 1 (3)) 2 (12))))] ++ bk cyC cyI cyO [2, 3, 4] ad2)) hD
    · exact hA x (Nat.le_trans hS.1 hx)
  refine va_callv (va_runI (As := []) (rest := [.ref q3, .ref h0]) ⟨hx, hb, hml, hown, hts⟩ (k_Draws l dC dI cyC cyI cyO rho Bd Ln xs q3 H.size) (cwI 0 hts (fun w hw => by
      rcases List.mem_cons.mp hw with h | h
      · rw [h]; exact GW_good _ (GW_in (i := 59) (by decide +kernel))
      · exact GW_good w h) rfl rfl rfl (hts _ (GW_in (i := 18) (w := .initialized RX1) (by decide +kernel))) (hts _ (GW_in (i := 57) (w := .methodLink RX3 31 yX1_init) (by decide +kernel))) (hts _ (GW_in (i := 58) (w := .instanceMethod yX1_init) (by decide +kernel))) rfl (by decide +kernel) ⟨Nat.le_of_ble_eq_true rfl, Nat.le_of_ble_eq_true rfl⟩) ⟨fun a U g mk h => ⟨h.1, h.2.1, h.2.2.1, h.2.2.2.1, St0_calling h.2.2.2.2 g mk a⟩, fun U hU hW => ⟨rfl, by rw [hU], ⟨⟨hbq, Nat.le_trans hBs hS.1⟩, hro⟩, by rw [hU]; exact hPc, St0_next hSt hro (hSB hS) hU hW⟩⟩ rfl rfl hl.1 rfl (lv_room (Nat.le_of_ble_eq_true rfl)) dkX3_56 ⟨Nat.le_of_ble_eq_true rfl, Nat.le_of_ble_eq_true rfl⟩) hS (fun q _ h => hFc q h) hFc (fun ad3 t H1 locs ht hvm _ hB hz1 hk1 hS => ?_)
  obtain ⟨hP1, hD1, had_ad3⟩ := hB
  rw [ht] at hP1
  obtain ⟨hP, hD⟩ := jn (wr := ([(h0, .inr (3, [.int 0, .int 1, .ref q1, .ref q2, .null, .null, .null, .null, .int 0, .int 0, .int 0])), (q1, .inl (cyI, 3, .inl (upd (upd (upd (fun _ : Nat => (0 : Int32)) 0 (0)) 1 (3)) 2 (12))))] ++ bk cyC cyI cyO [2, 3, 4] ad2)) hP hD hk1 hFc hP1 hD1
  generalize H1 = H at hP hS ⊢
  have hP : va_P (dC, dI) vwCl ((([(h0, .inr (3, [.int 0, .int 1, .ref q1, .ref q2, .null, .null, .null, .null, .int 0, .int 0, .int 0])), (q1, .inl (cyI, 3, .inl (upd (upd (upd (fun _ : Nat => (0 : Int32)) 0 (0)) 1 (3)) 2 (12))))] ++ bk cyC cyI cyO [2, 3, 4] ad2) ++ bk cyC cyI cyO [5, 6, 7, 8] ad3)) H := hP
  have hD : va_D A ((([(h0, .inr (3, [.int 0, .int 1, .ref q1, .ref q2, .null, .null, .null, .null, .int 0, .int 0, .int 0])), (q1, .inl (cyI, 3, .inl (upd (upd (upd (fun _ : Nat => (0 : Int32)) 0 (0)) 1 (3)) 2 (12))))] ++ bk cyC cyI cyO [2, 3, 4] ad2) ++ bk cyC cyI cyO [5, 6, 7, 8] ad3)) := hD
  refine va_putF (D := (dC, dI)) (ci := 3) (v := .ref q3) (ty := .object "TicketWindows$Draws") (C := RX3) (T := TX3) (N := 11) hx hb hts (ob_in (c := 0) (by decide) rfl) tyX3 tyX3_ok nmX3 hown hK hP hD hS 0 rfl rfl 4 (by decide) (hts _ (GW_in (i := 146) (w := .fieldLink RX3 32 "TicketWindows$Office" "draws" "LTicketWindows$Draws;") (by decide +kernel))) (fun _ h9 => h9) rfl hin rfl (by decide +kernel) rfl rfl (Nat.le_of_ble_eq_true rfl) dkX3_59 (fun H locs hP hD hS => ?_)
  have hP : va_P (dC, dI) vwCl ((([(h0, .inr (3, [.int 0, .int 1, .ref q1, .ref q2, .ref q3, .null, .null, .null, .int 0, .int 0, .int 0])), (q1, .inl (cyI, 3, .inl (upd (upd (upd (fun _ : Nat => (0 : Int32)) 0 (0)) 1 (3)) 2 (12))))] ++ bk cyC cyI cyO [2, 3, 4] ad2) ++ bk cyC cyI cyO [5, 6, 7, 8] ad3)) H := hP
  have hD : va_D A ((([(h0, .inr (3, [.int 0, .int 1, .ref q1, .ref q2, .ref q3, .null, .null, .null, .int 0, .int 0, .int 0])), (q1, .inl (cyI, 3, .inl (upd (upd (upd (fun _ : Nat => (0 : Int32)) 0 (0)) 1 (3)) 2 (12))))] ++ bk cyC cyI cyO [2, 3, 4] ad2) ++ bk cyC cyI cyO [5, 6, 7, 8] ad3)) := hD
  refine lv_aload_n hx hb dkX3_62 rfl (lv_at hl 1 rfl) ?_
  refine va_new (ci := 6) (fs := [.null, .null, .null, .null, .null, .null, .null, .null]) (C := RX6) (T := TX6) (N := 8) hx hb hts (ob_in (c := 9) (by decide) rfl) tyX6 tyX6_ok hown (hts _ (GW_in (i := 73) (w := .classLink RX3 36 RX6) (by decide +kernel))) (hts _ (GW_in (i := 74) (w := .instantiable RX6 8) (by decide +kernel))) (hts _ (GW_in (i := 19) (w := .initialized RX6) (by decide +kernel))) hK hP hD hS hA rfl (fun j hj => by rcases (show j = 0 ∨ j = 1 ∨ j = 2 ∨ j = 3 ∨ j = 4 ∨ j = 5 ∨ j = 6 ∨ j = 7 by omega) with rfl | rfl | rfl | rfl | rfl | rfl | rfl | rfl <;> rfl) (Nat.le_of_ble_eq_true rfl) (Nat.le_of_ble_eq_true rfl) dkX3_63 (fun q4 H hP hD hS => ?_)
  refine lv_dup hx hb dkX3_66 rfl ?_
  have hPc := jn_P (wr := (([(h0, .inr (3, [.int 0, .int 1, .ref q1, .ref q2, .ref q3, .null, .null, .null, .int 0, .int 0, .int 0])), (q1, .inl (cyI, 3, .inl (upd (upd (upd (fun _ : Nat => (0 : Int32)) 0 (0)) 1 (3)) 2 (12))))] ++ bk cyC cyI cyO [2, 3, 4] ad2) ++ bk cyC cyI cyO [5, 6, 7, 8] ad3)) hP
  have hbq := hAB _ (jn_D (wr := (([(h0, .inr (3, [.int 0, .int 1, .ref q1, .ref q2, .ref q3, .null, .null, .null, .int 0, .int 0, .int 0])), (q1, .inl (cyI, 3, .inl (upd (upd (upd (fun _ : Nat => (0 : Int32)) 0 (0)) 1 (3)) 2 (12))))] ++ bk cyC cyI cyO [2, 3, 4] ad2) ++ bk cyC cyI cyO [5, 6, 7, 8] ad3)) hD)
  have hFc : ∀ x, va_A [(q4, .inr (6, [.null, .null, .null, .null, .null, .null, .null, .null]))] H.size x → A x := fun x hx => by
    rcases hx with ⟨k, e, hx⟩ | hx
    · obtain ⟨hk, hx2⟩ := List.getElem?_eq_some_iff.mp hx
      simp only [List.length_cons, List.length_nil] at hk
      obtain rfl : k = 0 := by omega
      cases hx2
      exact jn_D (wr := (([(h0, .inr (3, [.int 0, .int 1, .ref q1, .ref q2, .ref q3, .null, .null, .null, .int 0, .int 0, .int 0])), (q1, .inl (cyI, 3, .inl (upd (upd (upd (fun _ : Nat => (0 : Int32)) 0 (0)) 1 (3)) 2 (12))))] ++ bk cyC cyI cyO [2, 3, 4] ad2) ++ bk cyC cyI cyO [5, 6, 7, 8] ad3)) hD
    · exact hA x (Nat.le_trans hS.1 hx)
  refine va_callv (va_runI (As := []) (rest := [.ref q4, .ref h0]) ⟨hx, hb, hml, hown, hts⟩ (k_Windows l dC dI cyC cyI cyO rho Bd Ln xs q4 H.size) (cwI 0 hts (fun w hw => by
      rcases List.mem_cons.mp hw with h | h
      · rw [h]; exact GW_good _ (GW_in (i := 77) (by decide +kernel))
      · exact GW_good w h) rfl rfl rfl (hts _ (GW_in (i := 19) (w := .initialized RX6) (by decide +kernel))) (hts _ (GW_in (i := 75) (w := .methodLink RX3 38 yX6_init) (by decide +kernel))) (hts _ (GW_in (i := 76) (w := .instanceMethod yX6_init) (by decide +kernel))) rfl (by decide +kernel) ⟨Nat.le_of_ble_eq_true rfl, Nat.le_of_ble_eq_true rfl⟩) ⟨fun a U g mk h => ⟨h.1, h.2.1, h.2.2.1, h.2.2.2.1, St0_calling h.2.2.2.2 g mk a⟩, fun U hU hW => ⟨rfl, by rw [hU], ⟨⟨hbq, Nat.le_trans hBs hS.1⟩, hro⟩, by rw [hU]; exact hPc, St0_next hSt hro (hSB hS) hU hW⟩⟩ rfl rfl hl.1 rfl (lv_room (Nat.le_of_ble_eq_true rfl)) dkX3_67 ⟨Nat.le_of_ble_eq_true rfl, Nat.le_of_ble_eq_true rfl⟩) hS (fun q _ h => hFc q h) hFc (fun ad4 t H1 locs ht hvm _ hB hz1 hk1 hS => ?_)
  obtain ⟨hP1, hD1, had_ad4⟩ := hB
  rw [ht] at hP1
  obtain ⟨hP, hD⟩ := jn (wr := (([(h0, .inr (3, [.int 0, .int 1, .ref q1, .ref q2, .ref q3, .null, .null, .null, .int 0, .int 0, .int 0])), (q1, .inl (cyI, 3, .inl (upd (upd (upd (fun _ : Nat => (0 : Int32)) 0 (0)) 1 (3)) 2 (12))))] ++ bk cyC cyI cyO [2, 3, 4] ad2) ++ bk cyC cyI cyO [5, 6, 7, 8] ad3)) hP hD hk1 hFc hP1 hD1
  generalize H1 = H at hP hS ⊢
  have hP : va_P (dC, dI) vwCl (((([(h0, .inr (3, [.int 0, .int 1, .ref q1, .ref q2, .ref q3, .null, .null, .null, .int 0, .int 0, .int 0])), (q1, .inl (cyI, 3, .inl (upd (upd (upd (fun _ : Nat => (0 : Int32)) 0 (0)) 1 (3)) 2 (12))))] ++ bk cyC cyI cyO [2, 3, 4] ad2) ++ bk cyC cyI cyO [5, 6, 7, 8] ad3) ++ bk cyC cyI cyO [9, 10, 11, 12, 13, 14, 15, 16, 17] ad4)) H := hP
  have hD : va_D A (((([(h0, .inr (3, [.int 0, .int 1, .ref q1, .ref q2, .ref q3, .null, .null, .null, .int 0, .int 0, .int 0])), (q1, .inl (cyI, 3, .inl (upd (upd (upd (fun _ : Nat => (0 : Int32)) 0 (0)) 1 (3)) 2 (12))))] ++ bk cyC cyI cyO [2, 3, 4] ad2) ++ bk cyC cyI cyO [5, 6, 7, 8] ad3) ++ bk cyC cyI cyO [9, 10, 11, 12, 13, 14, 15, 16, 17] ad4)) := hD
  refine va_putF (D := (dC, dI)) (ci := 3) (v := .ref q4) (ty := .object "TicketWindows$Windows") (C := RX3) (T := TX3) (N := 11) hx hb hts (ob_in (c := 0) (by decide) rfl) tyX3 tyX3_ok nmX3 hown hK hP hD hS 0 rfl rfl 5 (by decide) (hts _ (GW_in (i := 148) (w := .fieldLink RX3 39 "TicketWindows$Office" "windows" "LTicketWindows$Windows;") (by decide +kernel))) (fun _ h9 => h9) rfl hin rfl (by decide +kernel) rfl rfl (Nat.le_of_ble_eq_true rfl) dkX3_70 (fun H locs hP hD hS => ?_)
  have hP : va_P (dC, dI) vwCl (((([(h0, .inr (3, [.int 0, .int 1, .ref q1, .ref q2, .ref q3, .ref q4, .null, .null, .int 0, .int 0, .int 0])), (q1, .inl (cyI, 3, .inl (upd (upd (upd (fun _ : Nat => (0 : Int32)) 0 (0)) 1 (3)) 2 (12))))] ++ bk cyC cyI cyO [2, 3, 4] ad2) ++ bk cyC cyI cyO [5, 6, 7, 8] ad3) ++ bk cyC cyI cyO [9, 10, 11, 12, 13, 14, 15, 16, 17] ad4)) H := hP
  have hD : va_D A (((([(h0, .inr (3, [.int 0, .int 1, .ref q1, .ref q2, .ref q3, .ref q4, .null, .null, .int 0, .int 0, .int 0])), (q1, .inl (cyI, 3, .inl (upd (upd (upd (fun _ : Nat => (0 : Int32)) 0 (0)) 1 (3)) 2 (12))))] ++ bk cyC cyI cyO [2, 3, 4] ad2) ++ bk cyC cyI cyO [5, 6, 7, 8] ad3) ++ bk cyC cyI cyO [9, 10, 11, 12, 13, 14, 15, 16, 17] ad4)) := hD
  refine lv_aload_n hx hb dkX3_73 rfl (lv_at hl 1 rfl) ?_
  refine va_new (ci := 2) (fs := [.int 0, .null, .null]) (C := RX2) (T := TX2) (N := 3) hx hb hts (ob_in (c := 18) (by decide) rfl) tyX2 tyX2_ok hown (hts _ (GW_in (i := 105) (w := .classLink RX3 43 RX2) (by decide +kernel))) (hts _ (GW_in (i := 106) (w := .instantiable RX2 3) (by decide +kernel))) (hts _ (GW_in (i := 20) (w := .initialized RX2) (by decide +kernel))) hK hP hD hS hA rfl (fun j hj => by rcases (show j = 0 ∨ j = 1 ∨ j = 2 by omega) with rfl | rfl | rfl <;> rfl) (Nat.le_of_ble_eq_true rfl) (Nat.le_of_ble_eq_true rfl) dkX3_74 (fun q5 H hP hD hS => ?_)
  refine lv_dup hx hb dkX3_77 rfl ?_
  have hPc := jn_P (wr := ((([(h0, .inr (3, [.int 0, .int 1, .ref q1, .ref q2, .ref q3, .ref q4, .null, .null, .int 0, .int 0, .int 0])), (q1, .inl (cyI, 3, .inl (upd (upd (upd (fun _ : Nat => (0 : Int32)) 0 (0)) 1 (3)) 2 (12))))] ++ bk cyC cyI cyO [2, 3, 4] ad2) ++ bk cyC cyI cyO [5, 6, 7, 8] ad3) ++ bk cyC cyI cyO [9, 10, 11, 12, 13, 14, 15, 16, 17] ad4)) hP
  have hbq := hAB _ (jn_D (wr := ((([(h0, .inr (3, [.int 0, .int 1, .ref q1, .ref q2, .ref q3, .ref q4, .null, .null, .int 0, .int 0, .int 0])), (q1, .inl (cyI, 3, .inl (upd (upd (upd (fun _ : Nat => (0 : Int32)) 0 (0)) 1 (3)) 2 (12))))] ++ bk cyC cyI cyO [2, 3, 4] ad2) ++ bk cyC cyI cyO [5, 6, 7, 8] ad3) ++ bk cyC cyI cyO [9, 10, 11, 12, 13, 14, 15, 16, 17] ad4)) hD)
  have hFc : ∀ x, va_A [(q5, .inr (2, [.int 0, .null, .null]))] H.size x → A x := fun x hx => by
    rcases hx with ⟨k, e, hx⟩ | hx
    · obtain ⟨hk, hx2⟩ := List.getElem?_eq_some_iff.mp hx
      simp only [List.length_cons, List.length_nil] at hk
      obtain rfl : k = 0 := by omega
      cases hx2
      exact jn_D (wr := ((([(h0, .inr (3, [.int 0, .int 1, .ref q1, .ref q2, .ref q3, .ref q4, .null, .null, .int 0, .int 0, .int 0])), (q1, .inl (cyI, 3, .inl (upd (upd (upd (fun _ : Nat => (0 : Int32)) 0 (0)) 1 (3)) 2 (12))))] ++ bk cyC cyI cyO [2, 3, 4] ad2) ++ bk cyC cyI cyO [5, 6, 7, 8] ad3) ++ bk cyC cyI cyO [9, 10, 11, 12, 13, 14, 15, 16, 17] ad4)) hD
    · exact hA x (Nat.le_trans hS.1 hx)
  refine va_callv (va_runI (As := []) (rest := [.ref q5, .ref h0]) ⟨hx, hb, hml, hown, hts⟩ (k_Mail l dC dI cyC cyI cyO rho Bd Ln xs q5 H.size) (cwI 0 hts (fun w hw => by
      rcases List.mem_cons.mp hw with h | h
      · rw [h]; exact GW_good _ (GW_in (i := 109) (by decide +kernel))
      · exact GW_good w h) rfl rfl rfl (hts _ (GW_in (i := 20) (w := .initialized RX2) (by decide +kernel))) (hts _ (GW_in (i := 107) (w := .methodLink RX3 45 yX2_init) (by decide +kernel))) (hts _ (GW_in (i := 108) (w := .instanceMethod yX2_init) (by decide +kernel))) rfl (by decide +kernel) ⟨Nat.le_of_ble_eq_true rfl, Nat.le_of_ble_eq_true rfl⟩) ⟨fun a U g mk h => ⟨h.1, h.2.1, h.2.2.1, h.2.2.2.1, St0_calling h.2.2.2.2 g mk a⟩, fun U hU hW => ⟨rfl, by rw [hU], ⟨⟨hbq, Nat.le_trans hBs hS.1⟩, hro⟩, by rw [hU]; exact hPc, St0_next hSt hro (hSB hS) hU hW⟩⟩ rfl rfl hl.1 rfl (lv_room (Nat.le_of_ble_eq_true rfl)) dkX3_78 ⟨Nat.le_of_ble_eq_true rfl, Nat.le_of_ble_eq_true rfl⟩) hS (fun q _ h => hFc q h) hFc (fun ad5 t H1 locs ht hvm _ hB hz1 hk1 hS => ?_)
  obtain ⟨hP1, hD1, had_ad5⟩ := hB
  rw [ht] at hP1
  obtain ⟨hP, hD⟩ := jn (wr := ((([(h0, .inr (3, [.int 0, .int 1, .ref q1, .ref q2, .ref q3, .ref q4, .null, .null, .int 0, .int 0, .int 0])), (q1, .inl (cyI, 3, .inl (upd (upd (upd (fun _ : Nat => (0 : Int32)) 0 (0)) 1 (3)) 2 (12))))] ++ bk cyC cyI cyO [2, 3, 4] ad2) ++ bk cyC cyI cyO [5, 6, 7, 8] ad3) ++ bk cyC cyI cyO [9, 10, 11, 12, 13, 14, 15, 16, 17] ad4)) hP hD hk1 hFc hP1 hD1
  generalize H1 = H at hP hS ⊢
  have hP : va_P (dC, dI) vwCl ((((([(h0, .inr (3, [.int 0, .int 1, .ref q1, .ref q2, .ref q3, .ref q4, .null, .null, .int 0, .int 0, .int 0])), (q1, .inl (cyI, 3, .inl (upd (upd (upd (fun _ : Nat => (0 : Int32)) 0 (0)) 1 (3)) 2 (12))))] ++ bk cyC cyI cyO [2, 3, 4] ad2) ++ bk cyC cyI cyO [5, 6, 7, 8] ad3) ++ bk cyC cyI cyO [9, 10, 11, 12, 13, 14, 15, 16, 17] ad4) ++ bk cyC cyI cyO [18, 19, 20] ad5)) H := hP
  have hD : va_D A ((((([(h0, .inr (3, [.int 0, .int 1, .ref q1, .ref q2, .ref q3, .ref q4, .null, .null, .int 0, .int 0, .int 0])), (q1, .inl (cyI, 3, .inl (upd (upd (upd (fun _ : Nat => (0 : Int32)) 0 (0)) 1 (3)) 2 (12))))] ++ bk cyC cyI cyO [2, 3, 4] ad2) ++ bk cyC cyI cyO [5, 6, 7, 8] ad3) ++ bk cyC cyI cyO [9, 10, 11, 12, 13, 14, 15, 16, 17] ad4) ++ bk cyC cyI cyO [18, 19, 20] ad5)) := hD
  refine va_putF (D := (dC, dI)) (ci := 3) (v := .ref q5) (ty := .object "TicketWindows$Mail") (C := RX3) (T := TX3) (N := 11) hx hb hts (ob_in (c := 0) (by decide) rfl) tyX3 tyX3_ok nmX3 hown hK hP hD hS 0 rfl rfl 6 (by decide) (hts _ (GW_in (i := 150) (w := .fieldLink RX3 46 "TicketWindows$Office" "mail" "LTicketWindows$Mail;") (by decide +kernel))) (fun _ h9 => h9) rfl hin rfl (by decide +kernel) rfl rfl (Nat.le_of_ble_eq_true rfl) dkX3_81 (fun H locs hP hD hS => ?_)
  have hP : va_P (dC, dI) vwCl ((((([(h0, .inr (3, [.int 0, .int 1, .ref q1, .ref q2, .ref q3, .ref q4, .ref q5, .null, .int 0, .int 0, .int 0])), (q1, .inl (cyI, 3, .inl (upd (upd (upd (fun _ : Nat => (0 : Int32)) 0 (0)) 1 (3)) 2 (12))))] ++ bk cyC cyI cyO [2, 3, 4] ad2) ++ bk cyC cyI cyO [5, 6, 7, 8] ad3) ++ bk cyC cyI cyO [9, 10, 11, 12, 13, 14, 15, 16, 17] ad4) ++ bk cyC cyI cyO [18, 19, 20] ad5)) H := hP
  have hD : va_D A ((((([(h0, .inr (3, [.int 0, .int 1, .ref q1, .ref q2, .ref q3, .ref q4, .ref q5, .null, .int 0, .int 0, .int 0])), (q1, .inl (cyI, 3, .inl (upd (upd (upd (fun _ : Nat => (0 : Int32)) 0 (0)) 1 (3)) 2 (12))))] ++ bk cyC cyI cyO [2, 3, 4] ad2) ++ bk cyC cyI cyO [5, 6, 7, 8] ad3) ++ bk cyC cyI cyO [9, 10, 11, 12, 13, 14, 15, 16, 17] ad4) ++ bk cyC cyI cyO [18, 19, 20] ad5)) := hD
  refine lv_aload_n hx hb dkX3_84 rfl (lv_at hl 1 rfl) ?_
  refine va_new (ci := 0) (fs := [.int 0, .int 0, .null]) (C := RX0) (T := TX0) (N := 3) hx hb hts (ob_in (c := 21) (by decide) rfl) tyX0 tyX0_ok hown (hts _ (GW_in (i := 122) (w := .classLink RX3 50 RX0) (by decide +kernel))) (hts _ (GW_in (i := 123) (w := .instantiable RX0 3) (by decide +kernel))) (hts _ (GW_in (i := 21) (w := .initialized RX0) (by decide +kernel))) hK hP hD hS hA rfl (fun j hj => by rcases (show j = 0 ∨ j = 1 ∨ j = 2 by omega) with rfl | rfl | rfl <;> rfl) (Nat.le_of_ble_eq_true rfl) (Nat.le_of_ble_eq_true rfl) dkX3_85 (fun q6 H hP hD hS => ?_)
  refine lv_dup hx hb dkX3_88 rfl ?_
  have hPc := jn_P (wr := (((([(h0, .inr (3, [.int 0, .int 1, .ref q1, .ref q2, .ref q3, .ref q4, .ref q5, .null, .int 0, .int 0, .int 0])), (q1, .inl (cyI, 3, .inl (upd (upd (upd (fun _ : Nat => (0 : Int32)) 0 (0)) 1 (3)) 2 (12))))] ++ bk cyC cyI cyO [2, 3, 4] ad2) ++ bk cyC cyI cyO [5, 6, 7, 8] ad3) ++ bk cyC cyI cyO [9, 10, 11, 12, 13, 14, 15, 16, 17] ad4) ++ bk cyC cyI cyO [18, 19, 20] ad5)) hP
  have hbq := hAB _ (jn_D (wr := (((([(h0, .inr (3, [.int 0, .int 1, .ref q1, .ref q2, .ref q3, .ref q4, .ref q5, .null, .int 0, .int 0, .int 0])), (q1, .inl (cyI, 3, .inl (upd (upd (upd (fun _ : Nat => (0 : Int32)) 0 (0)) 1 (3)) 2 (12))))] ++ bk cyC cyI cyO [2, 3, 4] ad2) ++ bk cyC cyI cyO [5, 6, 7, 8] ad3) ++ bk cyC cyI cyO [9, 10, 11, 12, 13, 14, 15, 16, 17] ad4) ++ bk cyC cyI cyO [18, 19, 20] ad5)) hD)
  have hFc : ∀ x, va_A [(q6, .inr (0, [.int 0, .int 0, .null]))] H.size x → A x := fun x hx => by
    rcases hx with ⟨k, e, hx⟩ | hx
    · obtain ⟨hk, hx2⟩ := List.getElem?_eq_some_iff.mp hx
      simp only [List.length_cons, List.length_nil] at hk
      obtain rfl : k = 0 := by omega
      cases hx2
      exact jn_D (wr := (((([(h0, .inr (3, [.int 0, .int 1, .ref q1, .ref q2, .ref q3, .ref q4, .ref q5, .null, .int 0, .int 0, .int 0])), (q1, .inl (cyI, 3, .inl (upd (upd (upd (fun _ : Nat => (0 : Int32)) 0 (0)) 1 (3)) 2 (12))))] ++ bk cyC cyI cyO [2, 3, 4] ad2) ++ bk cyC cyI cyO [5, 6, 7, 8] ad3) ++ bk cyC cyI cyO [9, 10, 11, 12, 13, 14, 15, 16, 17] ad4) ++ bk cyC cyI cyO [18, 19, 20] ad5)) hD
    · exact hA x (Nat.le_trans hS.1 hx)
  refine va_callv (va_runI (As := []) (rest := [.ref q6, .ref h0]) ⟨hx, hb, hml, hown, hts⟩ (k_Disputes l dC dI cyC cyI cyO rho Bd Ln xs q6 H.size) (cwI 0 hts (fun w hw => by
      rcases List.mem_cons.mp hw with h | h
      · rw [h]; exact GW_good _ (GW_in (i := 126) (by decide +kernel))
      · exact GW_good w h) rfl rfl rfl (hts _ (GW_in (i := 21) (w := .initialized RX0) (by decide +kernel))) (hts _ (GW_in (i := 124) (w := .methodLink RX3 52 yX0_init) (by decide +kernel))) (hts _ (GW_in (i := 125) (w := .instanceMethod yX0_init) (by decide +kernel))) rfl (by decide +kernel) ⟨Nat.le_of_ble_eq_true rfl, Nat.le_of_ble_eq_true rfl⟩) ⟨fun a U g mk h => ⟨h.1, h.2.1, h.2.2.1, h.2.2.2.1, St0_calling h.2.2.2.2 g mk a⟩, fun U hU hW => ⟨rfl, by rw [hU], ⟨⟨hbq, Nat.le_trans hBs hS.1⟩, hro⟩, by rw [hU]; exact hPc, St0_next hSt hro (hSB hS) hU hW⟩⟩ rfl rfl hl.1 rfl (lv_room (Nat.le_of_ble_eq_true rfl)) dkX3_89 ⟨Nat.le_of_ble_eq_true rfl, Nat.le_of_ble_eq_true rfl⟩) hS (fun q _ h => hFc q h) hFc (fun ad6 t H1 locs ht hvm _ hB hz1 hk1 hS => ?_)
  obtain ⟨hP1, hD1, had_ad6⟩ := hB
  rw [ht] at hP1
  obtain ⟨hP, hD⟩ := jn (wr := (((([(h0, .inr (3, [.int 0, .int 1, .ref q1, .ref q2, .ref q3, .ref q4, .ref q5, .null, .int 0, .int 0, .int 0])), (q1, .inl (cyI, 3, .inl (upd (upd (upd (fun _ : Nat => (0 : Int32)) 0 (0)) 1 (3)) 2 (12))))] ++ bk cyC cyI cyO [2, 3, 4] ad2) ++ bk cyC cyI cyO [5, 6, 7, 8] ad3) ++ bk cyC cyI cyO [9, 10, 11, 12, 13, 14, 15, 16, 17] ad4) ++ bk cyC cyI cyO [18, 19, 20] ad5)) hP hD hk1 hFc hP1 hD1
  generalize H1 = H at hP hS ⊢
  have hP : va_P (dC, dI) vwCl (((((([(h0, .inr (3, [.int 0, .int 1, .ref q1, .ref q2, .ref q3, .ref q4, .ref q5, .null, .int 0, .int 0, .int 0])), (q1, .inl (cyI, 3, .inl (upd (upd (upd (fun _ : Nat => (0 : Int32)) 0 (0)) 1 (3)) 2 (12))))] ++ bk cyC cyI cyO [2, 3, 4] ad2) ++ bk cyC cyI cyO [5, 6, 7, 8] ad3) ++ bk cyC cyI cyO [9, 10, 11, 12, 13, 14, 15, 16, 17] ad4) ++ bk cyC cyI cyO [18, 19, 20] ad5) ++ bk cyC cyI cyO [21, 22] ad6)) H := hP
  have hD : va_D A (((((([(h0, .inr (3, [.int 0, .int 1, .ref q1, .ref q2, .ref q3, .ref q4, .ref q5, .null, .int 0, .int 0, .int 0])), (q1, .inl (cyI, 3, .inl (upd (upd (upd (fun _ : Nat => (0 : Int32)) 0 (0)) 1 (3)) 2 (12))))] ++ bk cyC cyI cyO [2, 3, 4] ad2) ++ bk cyC cyI cyO [5, 6, 7, 8] ad3) ++ bk cyC cyI cyO [9, 10, 11, 12, 13, 14, 15, 16, 17] ad4) ++ bk cyC cyI cyO [18, 19, 20] ad5) ++ bk cyC cyI cyO [21, 22] ad6)) := hD
  refine va_putF (D := (dC, dI)) (ci := 3) (v := .ref q6) (ty := .object "TicketWindows$Disputes") (C := RX3) (T := TX3) (N := 11) hx hb hts (ob_in (c := 0) (by decide) rfl) tyX3 tyX3_ok nmX3 hown hK hP hD hS 0 rfl rfl 7 (by decide) (hts _ (GW_in (i := 151) (w := .fieldLink RX3 53 "TicketWindows$Office" "disputes" "LTicketWindows$Disputes;") (by decide +kernel))) (fun _ h9 => h9) rfl hin rfl (by decide +kernel) rfl rfl (Nat.le_of_ble_eq_true rfl) dkX3_92 (fun H locs hP hD hS => ?_)
  have hP : va_P (dC, dI) vwCl (((((([(h0, .inr (3, [.int 0, .int 1, .ref q1, .ref q2, .ref q3, .ref q4, .ref q5, .ref q6, .int 0, .int 0, .int 0])), (q1, .inl (cyI, 3, .inl (upd (upd (upd (fun _ : Nat => (0 : Int32)) 0 (0)) 1 (3)) 2 (12))))] ++ bk cyC cyI cyO [2, 3, 4] ad2) ++ bk cyC cyI cyO [5, 6, 7, 8] ad3) ++ bk cyC cyI cyO [9, 10, 11, 12, 13, 14, 15, 16, 17] ad4) ++ bk cyC cyI cyO [18, 19, 20] ad5) ++ bk cyC cyI cyO [21, 22] ad6)) H := hP
  have hD : va_D A (((((([(h0, .inr (3, [.int 0, .int 1, .ref q1, .ref q2, .ref q3, .ref q4, .ref q5, .ref q6, .int 0, .int 0, .int 0])), (q1, .inl (cyI, 3, .inl (upd (upd (upd (fun _ : Nat => (0 : Int32)) 0 (0)) 1 (3)) 2 (12))))] ++ bk cyC cyI cyO [2, 3, 4] ad2) ++ bk cyC cyI cyO [5, 6, 7, 8] ad3) ++ bk cyC cyI cyO [9, 10, 11, 12, 13, 14, 15, 16, 17] ad4) ++ bk cyC cyI cyO [18, 19, 20] ad5) ++ bk cyC cyI cyO [21, 22] ad6)) := hD
  have hf1 : (upd (upd (upd (fun _ : Nat => (0 : Int32)) 0 (0)) 1 (3)) 2 (12)) = (fun j : Nat => Int32.ofInt (SI 0 1 j)) := by
    funext j
    rcases Nat.lt_or_ge j 3 with h | h
    · rcases (show j = 0 ∨ j = 1 ∨ j = 2 by omega) with rfl | rfl | rfl <;> rfl
    · unfold upd
      rw [if_neg (by omega), if_neg (by omega), if_neg (by omega)]
      have e : SI 0 1 (j : Int) = 0 := by
        simp only [SI, Nat.reduceEqDiff, ↓reduceIte]
        rw [if_neg (by omega), if_neg (by omega)]
      rw [e]
      rfl
  rw [hf1] at hP hD
  rw [← had_ad2] at hP hD
  rw [← had_ad3] at hP hD
  rw [← had_ad4] at hP hD
  rw [← had_ad5] at hP hD
  rw [← had_ad6] at hP hD
  have hP9 : va_P (dC, dI) vwCl (bk cyC cyI cyO [0, 1, 2, 3, 4, 5, 6, 7, 8, 9, 10, 11, 12, 13, 14, 15, 16, 17, 18, 19, 20, 21, 22] (fun c => [h0, q1, (ad2 2), (ad2 3), (ad2 4), (ad3 5), (ad3 6), (ad3 7), (ad3 8), (ad4 9), (ad4 10), (ad4 11), (ad4 12), (ad4 13), (ad4 14), (ad4 15), (ad4 16), (ad4 17), (ad5 18), (ad5 19), (ad5 20), (ad6 21), (ad6 22)].getD (c - 0) 0)) H := hP
  have hD9 : va_D A (bk cyC cyI cyO [0, 1, 2, 3, 4, 5, 6, 7, 8, 9, 10, 11, 12, 13, 14, 15, 16, 17, 18, 19, 20, 21, 22] (fun c => [h0, q1, (ad2 2), (ad2 3), (ad2 4), (ad3 5), (ad3 6), (ad3 7), (ad3 8), (ad4 9), (ad4 10), (ad4 11), (ad4 12), (ad4 13), (ad4 14), (ad4 15), (ad4 16), (ad4 17), (ad5 18), (ad5 19), (ad5 20), (ad6 21), (ad6 22)].getD (c - 0) 0)) := hD
  refine W.widen (k := 22) (n := 1711) (Nat.le_of_ble_eq_true rfl) (Nat.le_of_ble_eq_true rfl) ?_
  exact W.vret hx hb hr (fun t ht hW => ⟨⟨(fun c => [h0, q1, (ad2 2), (ad2 3), (ad2 4), (ad3 5), (ad3 6), (ad3 7), (ad3 8), (ad4 9), (ad4 10), (ad4 11), (ad4 12), (ad4 13), (ad4 14), (ad4 15), (ad4 16), (ad4 17), (ad5 18), (ad5 19), (ad5 20), (ad6 21), (ad6 22)].getD (c - 0) 0), rfl, trivial, by rw [ht]; exact hP9, hAe ▸ hD9, rfl⟩, hAe ▸ hS.F ht⟩) (hAe ▸ hS.2.2) dkX3_95
