theorem dkL_0 : decode code 0 = .ok (.new 10, 3) := by decide +kernel
theorem dkL_3 : decode code 3 = .ok (.dup, 1) := by decide +kernel
theorem dkL_4 : decode code 4 = .ok (.invokespecial 59, 3) := by decide +kernel
theorem dkL_7 : decode code 7 = .ok (.astore_n 1, 1) := by decide +kernel
theorem FlatIn {args : Array Value} {s : State} (h : (Jvm.Cond.and given_1 narrow_1).before args s = true) {c : Jvm.Cond} (hc : decide (c ∈ flatC (Jvm.Cond.and given_1 narrow_1)) = true) : c.before args s = true := flat_of_before _ h c (of_decide_eq_true hc)
set_option maxHeartbeats 8000000 in
set_option maxRecDepth 100000 in
/-- from the law's entry to its end, if the small machine says so of the rest -/
theorem whole_open (hpure : ∀ (P : PT) (L : Nat) (xs : Nat → Int32), PLn P = L → Pxs P = xs → L ≤ 260 → LW P 1000 0 8 (some (.inr (0, 40)) :: some (.inr (0, 23)) :: List.replicate 16 none) [] (SL L xs))
    {p : Program} {e : Env} {s : State} {m : MethodId} {below : List Frame} {meth : Method} {c : Code} (l : Launch) {b L : Nat} {xs : Nat → Int32} (hL : L ≤ 260) (C0 : lw_At p s m meth c b L xs) : W p l e room_1 s m #[Value.ref b] below meth c s.heap [] 0 0 (lw_Z below #[Value.ref b] s) (entryFrame m ([Value.ref b] : List Value).toArray 18) := by
  obtain ⟨hx, hb, hr, hml, hown, hts0, hX, hbl, hlocks, hgv⟩ := id C0
  have hgw : ∀ w ∈ GW, w.before #[Value.ref b] s = true := fun w hw => hts0 w (List.mem_filter.mp hw).1
  have hts := hgw
  obtain ⟨c0, i0, hk0⟩ := u_known (C := RX0) (T := TX0) (N := 3) (n := 3) hgw (ob_in (c := 21) (by decide) rfl) (hgw _ (GW_in (i := 123) (w := .instantiable RX0 3) (by decide +kernel)))
  obtain ⟨c1, i1, hk1⟩ := u_known (C := RX1) (T := TX1) (N := 3) (n := 3) hgw (ob_in (c := 5) (by decide) rfl) (hgw _ (GW_in (i := 56) (w := .instantiable RX1 3) (by decide +kernel)))
  obtain ⟨c2, i2, hk2⟩ := u_known (C := RX2) (T := TX2) (N := 3) (n := 3) hgw (ob_in (c := 18) (by decide) rfl) (hgw _ (GW_in (i := 106) (w := .instantiable RX2 3) (by decide +kernel)))
  obtain ⟨c3, i3, hk3⟩ := u_known (C := RX3) (T := TX3) (N := 11) (n := 11) hgw (ob_in (c := 0) (by decide) rfl) (hgw _ (GW_in (i := 34) (w := .instantiable RX3 11) (by decide +kernel)))
  obtain ⟨c4, i4, hk4⟩ := u_known (C := RX4) (T := TX4) (N := 7) (n := 7) hgw (ob_in (c := 25) (by decide) rfl) (hgw _ (GW_in (i := 182) (w := .instantiable RX4 7) (by decide +kernel)))
  obtain ⟨c5, i5, hk5⟩ := u_known (C := RX5) (T := TX5) (N := 2) (n := 2) hgw (ob_in (c := 2) (by decide) rfl) (hgw _ (GW_in (i := 42) (w := .instantiable RX5 2) (by decide +kernel)))
  obtain ⟨c6, i6, hk6⟩ := u_known (C := RX6) (T := TX6) (N := 8) (n := 8) hgw (ob_in (c := 9) (by decide) rfl) (hgw _ (GW_in (i := 74) (w := .instantiable RX6 8) (by decide +kernel)))
  obtain ⟨c7, i7, hk7⟩ := u_known (C := RX7) (T := TX7) (N := 7) (n := 7) hgw (ob_in (c := 23) (by decide) rfl) (hgw _ (GW_in (i := 26) (w := .instantiable RX7 7) (by decide +kernel)))
  obtain ⟨dC, dI, hKc⟩ : ∃ (dC : Nat → ClassId) (dI : Nat → Nat → Nat), ∀ (k : Nat) (q : vw_C), vwCl[k]? = some q → u_Kn s q.1 q.2.1 q.2.2 (dC k) (dI k) := by
    refine ⟨fun k => [c0, c1, c2, c3, c4, c5, c6, c7].getD k c0, fun k => [i0, i1, i2, i3, i4, i5, i6, i7].getD k i0, ?_⟩
    intro k q hq
    match k, hq with
    | 0, hq => cases hq; exact hk0
    | 1, hq => cases hq; exact hk1
    | 2, hq => cases hq; exact hk2
    | 3, hq => cases hq; exact hk3
    | 4, hq => cases hq; exact hk4
    | 5, hq => cases hq; exact hk5
    | 6, hq => cases hq; exact hk6
    | 7, hq => cases hq; exact hk7
    | k + 8, hq => simp [vwCl] at hq
  obtain ⟨cyI, kI, cmI, fI1, fI2, fI3⟩ := Cond.arrayClass_spec (hgw _ (GW_in (i := 54) (w := .arrayClass .int) (by decide +kernel)))
  obtain ⟨cyC, kC, cmC, fC1, fC2, fC3⟩ := Cond.arrayClass_spec (hgw _ (GW_in (i := 207) (w := .arrayClass .char) (by decide +kernel)))
  have hover : (Cond.arrayOver (.object RX3)).before #[Value.ref b] s = true := hts0 _ (List.mem_of_getElem? (i := 180) (by decide +kernel))
  obtain ⟨cmO, cyO, kO, fO1, -, fO2, fO3, fO4⟩ := Cond.arrayOver_spec hover
  have hK : va_K (dC, dI) vwCl (tys cyC cyI cyO) s := by
    refine ⟨hKc, fun k q hq => ?_⟩
    match k, hq with
    | 0, hq => cases hq; exact ⟨fun n z => ⟨(fun k h => by cases h), kC, fC2, cmC, fC3⟩, fC1⟩
    | 1, hq => cases hq; exact ⟨fun n z => ⟨(fun k h => by cases h), kI, fI2, cmI, fI3⟩, fI1⟩
    | 2, hq => cases hq; exact ⟨fun n z => ⟨(fun k h => by cases h), kO, fO2, cmO, fO3⟩, kO, cmO, fO2, fO3, fO1, fO4⟩
    | k + 3, hq => simp [tys] at hq
  have hA0 : ∀ a : Nat, a < s.heap.size → ¬ s.heap.size ≤ a := fun a h => Nat.not_le.mpr h
  obtain ⟨t36, ht36, hT36⟩ := va_Tof (args := #[Value.ref b]) (s := s) (tm := (.static "TicketWindows" "FIRST_SETTING" "[I")) (ty := .int) (N := 3) (f := fun j => .int (Int32.ofInt (sv 36 j))) (A := fun q => s.heap.size ≤ q) (by decide) (FlatIn hgv (c := .arrayOf (.static "TicketWindows" "FIRST_SETTING" "[I") .int) (by decide +kernel)) (va_eqt (FlatIn hgv (c := .eq (.length (.static "TicketWindows" "FIRST_SETTING" "[I")) (.int 3)) (by decide +kernel))) (fun j hj => by
    rcases (show j = 0 ∨ j = 1 ∨ j = 2 by omega) with rfl | rfl | rfl
    · exact va_eqt (z := 0) (FlatIn hgv (c := .eq (.elem (.static "TicketWindows" "FIRST_SETTING" "[I") (.int 0)) (.int 0)) (by decide +kernel))
    · exact va_eqt (z := 3) (FlatIn hgv (c := .eq (.elem (.static "TicketWindows" "FIRST_SETTING" "[I") (.int 1)) (.int 3)) (by decide +kernel))
    · exact va_eqt (z := 12) (FlatIn hgv (c := .eq (.elem (.static "TicketWindows" "FIRST_SETTING" "[I") (.int 2)) (.int 12)) (by decide +kernel))) hA0
  have hZ36 : va_Z "TicketWindows" "FIRST_SETTING" "[I" (.ref t36) (fun q => s.heap.size ≤ q) s s.heap := va_Zof (hts0 (.laysStatic "TicketWindows" "FIRST_SETTING" "[I") (List.mem_of_getElem? (i := 40) (by decide +kernel))) (hgw _ (GW_in (i := 15) (w := .initialized RX7) (by decide +kernel))) ht36 hA0
  obtain ⟨t37, ht37, hT37⟩ := va_Tof (args := #[Value.ref b]) (s := s) (tm := (.static "TicketWindows" "LEAST_SETTING" "[I")) (ty := .int) (N := 3) (f := fun j => .int (Int32.ofInt (sv 37 j))) (A := fun q => s.heap.size ≤ q) (by decide) (FlatIn hgv (c := .arrayOf (.static "TicketWindows" "LEAST_SETTING" "[I") .int) (by decide +kernel)) (va_eqt (FlatIn hgv (c := .eq (.length (.static "TicketWindows" "LEAST_SETTING" "[I")) (.int 3)) (by decide +kernel))) (fun j hj => by
    rcases (show j = 0 ∨ j = 1 ∨ j = 2 by omega) with rfl | rfl | rfl
    · exact va_eqt (z := 0) (FlatIn hgv (c := .eq (.elem (.static "TicketWindows" "LEAST_SETTING" "[I") (.int 0)) (.int 0)) (by decide +kernel))
    · exact va_eqt (z := 1) (FlatIn hgv (c := .eq (.elem (.static "TicketWindows" "LEAST_SETTING" "[I") (.int 1)) (.int 1)) (by decide +kernel))
    · exact va_eqt (z := 1) (FlatIn hgv (c := .eq (.elem (.static "TicketWindows" "LEAST_SETTING" "[I") (.int 2)) (.int 1)) (by decide +kernel))) hA0
  have hZ37 : va_Z "TicketWindows" "LEAST_SETTING" "[I" (.ref t37) (fun q => s.heap.size ≤ q) s s.heap := va_Zof (hts0 (.laysStatic "TicketWindows" "LEAST_SETTING" "[I") (List.mem_of_getElem? (i := 514) (by decide +kernel))) (hgw _ (GW_in (i := 15) (w := .initialized RX7) (by decide +kernel))) ht37 hA0
  obtain ⟨t38, ht38, hT38⟩ := va_Tof (args := #[Value.ref b]) (s := s) (tm := (.static "TicketWindows" "MOST_SETTING" "[I")) (ty := .int) (N := 3) (f := fun j => .int (Int32.ofInt (sv 38 j))) (A := fun q => s.heap.size ≤ q) (by decide) (FlatIn hgv (c := .arrayOf (.static "TicketWindows" "MOST_SETTING" "[I") .int) (by decide +kernel)) (va_eqt (FlatIn hgv (c := .eq (.length (.static "TicketWindows" "MOST_SETTING" "[I")) (.int 3)) (by decide +kernel))) (fun j hj => by
    rcases (show j = 0 ∨ j = 1 ∨ j = 2 by omega) with rfl | rfl | rfl
    · exact va_eqt (z := 2) (FlatIn hgv (c := .eq (.elem (.static "TicketWindows" "MOST_SETTING" "[I") (.int 0)) (.int 2)) (by decide +kernel))
    · exact va_eqt (z := 9) (FlatIn hgv (c := .eq (.elem (.static "TicketWindows" "MOST_SETTING" "[I") (.int 1)) (.int 9)) (by decide +kernel))
    · exact va_eqt (z := 20) (FlatIn hgv (c := .eq (.elem (.static "TicketWindows" "MOST_SETTING" "[I") (.int 2)) (.int 20)) (by decide +kernel))) hA0
  have hZ38 : va_Z "TicketWindows" "MOST_SETTING" "[I" (.ref t38) (fun q => s.heap.size ≤ q) s s.heap := va_Zof (hts0 (.laysStatic "TicketWindows" "MOST_SETTING" "[I") (List.mem_of_getElem? (i := 516) (by decide +kernel))) (hgw _ (GW_in (i := 15) (w := .initialized RX7) (by decide +kernel))) ht38 hA0
  obtain ⟨t39, ht39, hT39⟩ := va_Tof (args := #[Value.ref b]) (s := s) (tm := (.static "TicketWindows" "SHARE_OF_CLASS" "[I")) (ty := .int) (N := 4) (f := fun j => .int (Int32.ofInt (sv 39 j))) (A := fun q => s.heap.size ≤ q) (by decide) (FlatIn hgv (c := .arrayOf (.static "TicketWindows" "SHARE_OF_CLASS" "[I") .int) (by decide +kernel)) (va_eqt (FlatIn hgv (c := .eq (.length (.static "TicketWindows" "SHARE_OF_CLASS" "[I")) (.int 4)) (by decide +kernel))) (fun j hj => by
    rcases (show j = 0 ∨ j = 1 ∨ j = 2 ∨ j = 3 by omega) with rfl | rfl | rfl | rfl
    · exact va_eqt (z := 0) (FlatIn hgv (c := .eq (.elem (.static "TicketWindows" "SHARE_OF_CLASS" "[I") (.int 0)) (.int 0)) (by decide +kernel))
    · exact va_eqt (z := 40) (FlatIn hgv (c := .eq (.elem (.static "TicketWindows" "SHARE_OF_CLASS" "[I") (.int 1)) (.int 40)) (by decide +kernel))
    · exact va_eqt (z := 30) (FlatIn hgv (c := .eq (.elem (.static "TicketWindows" "SHARE_OF_CLASS" "[I") (.int 2)) (.int 30)) (by decide +kernel))
    · exact va_eqt (z := 20) (FlatIn hgv (c := .eq (.elem (.static "TicketWindows" "SHARE_OF_CLASS" "[I") (.int 3)) (.int 20)) (by decide +kernel))) hA0
  have hZ39 : va_Z "TicketWindows" "SHARE_OF_CLASS" "[I" (.ref t39) (fun q => s.heap.size ≤ q) s s.heap := va_Zof (hts0 (.laysStatic "TicketWindows" "SHARE_OF_CLASS" "[I") (List.mem_of_getElem? (i := 394) (by decide +kernel))) (hgw _ (GW_in (i := 15) (w := .initialized RX7) (by decide +kernel))) ht39 hA0
  obtain ⟨ro, hro36, hro37, hro38, hro39, hro40⟩ : ∃ ro : Nat → Nat, ro 36 = t36 ∧ ro 37 = t37 ∧ ro 38 = t38 ∧ ro 39 = t39 ∧ ro 40 = b := ⟨fun c => if c = 36 then t36 else if c = 37 then t37 else if c = 38 then t38 else if c = 39 then t39 else b, rfl, rfl, rfl, rfl, rfl⟩
  have hSt : ∀ rho : Nat → Nat → Nat, (∀ c, 36 ≤ c → c < 41 → rho 0 c = ro c) → St0 dC dI cyC cyI cyO rho (fun q => s.heap.size ≤ q) L (fun j => (xs j.toNat).toInt) s := by
    intro rho hrho
    refine ⟨hK, fun i w hi hn => ?_, fun c c1 c2 => ?_, ?_⟩
    · have h5 := hts0 w (List.mem_of_getElem? hi)
      cases w with
      | fieldLinkNest a b c d e f => exact va_Nw.of rfl h5
      | methodLinkNest a b c d => exact va_Nw.of rfl h5
      | arrayOver ty =>
        cases ty with
        | object C => exact va_AO.of h5
        | _ => cases hn
      | _ => cases hn
    · rw [hrho c c1 (by omega)]
      rcases (show c = 36 ∨ c = 37 ∨ c = 38 ∨ c = 39 by omega) with rfl | rfl | rfl | rfl
      · rw [hro36]; exact ⟨hZ36, hT36⟩
      · rw [hro37]; exact ⟨hZ37, hT37⟩
      · rw [hro38]; exact ⟨hZ38, hT38⟩
      · rw [hro39]; exact ⟨hZ39, hT39⟩
    · rw [hrho 40 (by decide) (by decide), hro40]
      have e : (fun j : Nat => Int32.ofInt ((xs (j : Int).toNat).toInt)) = xs := funext fun j => by rw [Int.toNat_natCast, Int32.ofInt_toInt]
      rw [e]
      exact hX
  have hroA : ∀ c, 36 ≤ c → c < 41 → ¬ s.heap.size ≤ ro c := by
    intro c c1 c2
    rcases (show c = 36 ∨ c = 37 ∨ c = 38 ∨ c = 39 ∨ c = 40 by omega) with rfl | rfl | rfl | rfl | rfl
    · rw [hro36]; exact hT36.out
    · rw [hro37]; exact hT37.out
    · rw [hro38]; exact hT38.out
    · rw [hro39]; exact hT39.out
    · rw [hro40]; exact Nat.not_le.mpr hbl
  have hStr := hSt (fun _ c => ro c) (fun _ _ _ => rfl)
  have hA : ∀ q : Nat, s.heap.size ≤ q → (fun q : Nat => s.heap.size ≤ q) q := fun _ h => h
  have hS : va_S (fun q : Nat => s.heap.size ≤ q) s.heap s.heap [] := va_S.rf
  have hP : va_P (dC, dI) vwCl [] s.heap := fun k q h => by simp at h
  have hD : va_D (fun q : Nat => s.heap.size ≤ q) [] := ⟨fun i j p q h => by simp at h, fun k q h => by simp at h⟩
  have hl := lv_entry ([.ref b]) (n := 18) (Nat.le_of_ble_eq_true rfl)
  rw [lg_entry_eq]
  generalize (lg_sl ([.ref b]) ++ List.replicate (18 - (lg_sl ([.ref b])).length) Slot.unset).toArray = ls at hl ⊢
  have hl : lv_has ls 18 [(0, .ref b)] := hl
  refine va_new (ci := 7) (fs := [.null, .null, .null, .int 0, .null, .int 0, .null]) (C := RX7) (T := TX7) (N := 7) hx hb hts (ob_in (c := 23) (by decide) rfl) tyX7 tyX7_ok hown (hgw _ (GW_in (i := 25) (w := .classLink R_law 10 RX7) (by decide +kernel))) (hgw _ (GW_in (i := 26) (w := .instantiable RX7 7) (by decide +kernel))) (hgw _ (GW_in (i := 15) (w := .initialized RX7) (by decide +kernel))) hK hP hD hS hA rfl (fun j hj => by rcases (show j = 0 ∨ j = 1 ∨ j = 2 ∨ j = 3 ∨ j = 4 ∨ j = 5 ∨ j = 6 by omega) with rfl | rfl | rfl | rfl | rfl | rfl | rfl <;> rfl) (Nat.le_of_ble_eq_true rfl) (Nat.le_of_ble_eq_true rfl) dkL_0 (fun h0 H hP hD hS => ?_)
  have hP : va_P (dC, dI) vwCl (([] : va_W) ++ [(h0, .inr (7, [.null, .null, .null, .int 0, .null, .int 0, .null]))]) H := hP
  have hD : va_D (fun q : Nat => s.heap.size ≤ q) (([] : va_W) ++ [(h0, .inr (7, [.null, .null, .null, .int 0, .null, .int 0, .null]))]) := hD
  refine lv_dup hx hb dkL_3 rfl ?_
  have hPc := jn_P (wr := ([] : va_W)) hP
  have hbq : s.heap.size ≤ h0 := jn_D (wr := ([] : va_W)) hD
  have hFc : ∀ x, va_A [(h0, .inr (7, [.null, .null, .null, .int 0, .null, .int 0, .null]))] H.size x → s.heap.size ≤ x := fun x hx => by
    rcases hx with ⟨k, e, hx⟩ | hx
    · obtain ⟨hk, hx2⟩ := List.getElem?_eq_some_iff.mp hx
      simp only [List.length_cons, List.length_nil] at hk
      obtain rfl : k = 0 := by omega
      cases hx2
      exact hbq
    · exact Nat.le_trans hS.1 hx
  refine va_callv (va_runI (As := []) (rest := [.ref h0]) ⟨hx, hb, hml, hown, hts⟩ (k_TicketWindows l dC dI cyC cyI cyO (fun _ c => ro c) s.heap.size L (fun j => (xs j.toNat).toInt) h0 H.size) (cwI 0 hts (fun w hw => by
      rcases List.mem_cons.mp hw with h | h
      · rw [h]; exact GW_good _ (GW_in (i := 29) (by decide +kernel))
      · exact GW_good w h) rfl rfl rfl (hgw _ (GW_in (i := 15) (w := .initialized RX7) (by decide +kernel))) (hgw _ (GW_in (i := 27) (w := .methodLink R_law 59 yX7_init) (by decide +kernel))) (hgw _ (GW_in (i := 28) (w := .instanceMethod yX7_init) (by decide +kernel))) rfl (by decide +kernel) ⟨Nat.le_of_ble_eq_true rfl, Nat.le_of_ble_eq_true rfl⟩) ⟨fun a U g mk h => ⟨h.1, h.2.1, h.2.2.1, h.2.2.2.1, St0_calling h.2.2.2.2 g mk a⟩, fun U hU hW => ⟨rfl, by rw [hU], ⟨⟨hbq, hS.1⟩, hroA⟩, by rw [hU]; exact hPc, St0_next hStr hroA hS hU hW⟩⟩ rfl rfl hl.1 rfl (lv_room (Nat.le_of_ble_eq_true rfl)) dkL_4 ⟨Nat.le_of_ble_eq_true rfl, Nat.le_of_ble_eq_true rfl⟩) hS (fun q _ h => hFc q h) hFc (fun u t H1 locs ht hvm _ hB hz1 hk1 hS => ?_)
  obtain ⟨hP1, hD1⟩ := hB
  rw [ht] at hP1
  obtain ⟨hP, hD⟩ := jn (wr := ([] : va_W)) hP hD hk1 hFc hP1 hD1
  generalize H1 = H at hP hS ⊢
  refine lv_astore_n (lv' := [(1, .ref h0), (0, .ref b)]) hx hb dkL_7 rfl hl (by decide) rfl (fun ls hl => ?_)
  have hP : va_P (dC, dI) vwCl (kW cyC cyI cyO h0 u) H := hP
  have hD : va_D (fun q : Nat => s.heap.size ≤ q) (kW cyC cyI cyO h0 u) := hD
  exact law_go hpure l hL C0 dC dI cyC cyI cyO ro hSt hroA hro40 u h0 hP hD hS (by decide) (by decide) hl
