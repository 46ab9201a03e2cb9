/-! THE LAW'S FRAME: from the class made, over the whole small heap -/
def idsP : List (Nat × Nat) := [(0, 24), (0, 23)] ++ (List.range 23).map (fun c => (0, c)) ++ (List.range 23).map (fun c => (1, c)) ++ (List.range 23).map (fun c => (2, c)) ++ (List.range 23).map (fun c => (3, c)) ++ (List.range 23).map (fun c => (4, c)) ++ (List.range 23).map (fun c => (5, c)) ++ (List.range 23).map (fun c => (6, c)) ++ [25, 29, 26, 27, 28].map (fun c => (0, c))
set_option maxHeartbeats 4000000 in
set_option maxRecDepth 100000 in
theorem idsP_perm : (ids 0).Perm idsP := by
  have h : (ids 0).isPerm idsP = true := by decide +kernel
  exact List.isPerm_iff.mp h
def rhoA (u : (Nat → Nat → Nat) × Nat × (Nat → Nat)) (ro : Nat → Nat) (h0 : Nat) : Nat → Nat → Nat := fun k c => if c < 23 then u.1 k c else if c = 23 then h0 else if c = 24 then u.2.1 else if c < 30 then u.2.2 c else ro c
section GO
variable {cyC cyI cyO : ClassId} {u : (Nat → Nat → Nat) × Nat × (Nat → Nat)} {ro : Nat → Nat} {h0 L : Nat} {xs : Nat → Int32}
set_option maxHeartbeats 4000000 in
set_option maxRecDepth 100000 in
theorem kW_fst : ((kW cyC cyI cyO h0 u).map Prod.fst) = idsP.map (fun q => rhoA u ro h0 q.1 q.2) := by
  have e : ∀ k : Nat, (bk cyC cyI cyO [0, 1, 2, 3, 4, 5, 6, 7, 8, 9, 10, 11, 12, 13, 14, 15, 16, 17, 18, 19, 20, 21, 22] (u.1 k)).map Prod.fst = ((List.range 23).map (fun c => (k, c))).map (fun q => rhoA u ro h0 q.1 q.2) := fun k => rfl
  unfold kW idsP
  simp only [List.map_append]
  rw [e 0, e 1, e 2, e 3, e 4, e 5, e 6]
  rfl
set_option maxHeartbeats 4000000 in
set_option maxRecDepth 100000 in
theorem wL_in {q : Nat × va_E} (hq : q ∈ wL 0 cyC cyI cyO (rhoA u ro h0) (SL L xs)) : q ∈ kW cyC cyI cyO h0 u := by
  obtain ⟨⟨k, c⟩, hm, rfl⟩ := List.mem_map.mp hq
  obtain ⟨hc, hk⟩ := ids_mem.mp hm
  dsimp only
  by_cases h : c < 23
  · have hk7 : k < 7 := by unfold kK at hk; rw [if_pos h] at hk; exact hk
    have e1 : rhoA u ro h0 k c = u.1 k c := by unfold rhoA; rw [if_pos h]
    have e2 : cE cyC cyI cyO (rhoA u ro h0) (SL L xs) k c = cE cyC cyI cyO (fun _ c => u.1 k c) SI 0 c := by
      refine cE_office h (fun j => ?_) (fun c' hc' => ?_)
      · unfold SL; rw [if_neg (by omega), if_neg (by omega)]; rfl
      · unfold rhoA; rw [if_pos hc']
    rw [e1, e2]
    have hb : (u.1 k c, cE cyC cyI cyO (fun _ c => u.1 k c) SI 0 c) ∈ bk cyC cyI cyO [0, 1, 2, 3, 4, 5, 6, 7, 8, 9, 10, 11, 12, 13, 14, 15, 16, 17, 18, 19, 20, 21, 22] (u.1 k) := by
      refine List.mem_map.mpr ⟨c, ?_, rfl⟩
      have : ∀ c, c < 23 → c ∈ [0, 1, 2, 3, 4, 5, 6, 7, 8, 9, 10, 11, 12, 13, 14, 15, 16, 17, 18, 19, 20, 21, 22] := by decide
      exact this c h
    unfold kW
    simp only [List.mem_append]
    rcases (show k = 0 ∨ k = 1 ∨ k = 2 ∨ k = 3 ∨ k = 4 ∨ k = 5 ∨ k = 6 by omega) with rfl | rfl | rfl | rfl | rfl | rfl | rfl
    · exact Or.inl (Or.inl (Or.inl (Or.inl (Or.inl (Or.inl (Or.inl (Or.inr hb)))))))
    · exact Or.inl (Or.inl (Or.inl (Or.inl (Or.inl (Or.inl (Or.inr hb))))))
    · exact Or.inl (Or.inl (Or.inl (Or.inl (Or.inl (Or.inr hb)))))
    · exact Or.inl (Or.inl (Or.inl (Or.inl (Or.inr hb))))
    · exact Or.inl (Or.inl (Or.inl (Or.inr hb)))
    · exact Or.inl (Or.inl (Or.inr hb))
    · exact Or.inl (Or.inr hb)
  · have hk0 : k = 0 := by
      rcases Nat.lt_or_ge c 30 with g | g
      · unfold kK at hk
        rw [if_neg h, if_pos g] at hk
        omega
      · rcases Nat.eq_or_lt_of_le g with g | g
        · subst g; rw [kK_30] at hk; omega
        · rw [kK_hi g] at hk; omega
    subst hk0
    have hmk : ∀ {q : Nat × va_E}, q ∈ bk cyC cyI cyO [25, 29, 26, 27, 28] u.2.2 → q ∈ kW cyC cyI cyO h0 u := fun h => by unfold kW; exact List.mem_append_right _ h
    rcases (show c = 23 ∨ c = 24 ∨ c = 25 ∨ c = 26 ∨ c = 27 ∨ c = 28 ∨ c = 29 by
      rcases Nat.lt_or_ge c 30 with g | g
      · omega
      · rcases Nat.eq_or_lt_of_le g with g | g
        · subst g; rw [kK_30] at hk; omega
        · rw [kK_hi g] at hk; omega) with rfl | rfl | rfl | rfl | rfl | rfl | rfl
    · unfold kW; simp only [List.mem_append]; exact Or.inl (Or.inl (Or.inl (Or.inl (Or.inl (Or.inl (Or.inl (Or.inl (List.mem_cons_of_mem _ List.mem_cons_self))))))))
    · unfold kW; simp only [List.mem_append]; exact Or.inl (Or.inl (Or.inl (Or.inl (Or.inl (Or.inl (Or.inl (Or.inl List.mem_cons_self)))))))
    · exact hmk (List.mem_map.mpr ⟨25, by decide, rfl⟩)
    · exact hmk (List.mem_map.mpr ⟨26, by decide, rfl⟩)
    · exact hmk (List.mem_map.mpr ⟨27, by decide, rfl⟩)
    · exact hmk (List.mem_map.mpr ⟨28, by decide, rfl⟩)
    · exact hmk (List.mem_map.mpr ⟨29, by decide, rfl⟩)
set_option maxHeartbeats 4000000 in
set_option maxRecDepth 100000 in
theorem SL_St : StS L (xI xs) (SL L xs) := by
  refine ⟨⟨fun k c j hk hq => ?_, fun k c j hk ht h1 h2 => ?_⟩, rfl, fun j => rfl⟩
  · have hc : c < 36 := by
      rcases Nat.lt_or_ge c 36 with g | g
      · exact g
      · rw [kK_hi (by omega)] at hk; omega
    have key : ∀ c, c < 36 → ∀ j, j < (kF c).length → (kF c)[j]? = some 2 → c = 23 ∧ (j = 0 ∨ j = 1) := by decide +kernel
    obtain ⟨rfl, h3⟩ := key c hc j (List.getElem?_eq_some_iff.mp hq).1 hq
    have e1 : SL L xs k 23 ((0 : Nat) : Int) = 0 := rfl
    have e2 : SL L xs k 23 ((1 : Nat) : Int) = 1 := rfl
    rcases h3 with rfl | rfl <;> omega
  · have hc := kT_lt c (by omega)
    have key : ∀ c, c < 36 → kT c = 4 → c = 24 := by decide +kernel
    obtain rfl := key c hc ht
    have e : SL L xs k 24 j = 3 + j := rfl
    have e2 : kL 24 = 4 := rfl
    rw [e]
    omega
set_option maxHeartbeats 4000000 in
set_option maxRecDepth 100000 in
theorem law_go (hpure : ∀ (P : PT) (L : Nat) (xs : Nat → Int32), PLn P = L → Pxs P = xs → L ≤ 260 → LW P 1000 0 8 (some (.inr (0, 40)) :: some (.inr (0, 23)) :: List.replicate 16 none) [] (SL L xs))
    {p : Program} {e : Env} {s : State} {m : MethodId} {below : List Frame} {meth : Method} {c : Code} (l : Launch) {b : Nat} (hL : L ≤ 260) (C0 : lw_At p s m meth c b L xs)
    (dC : Nat → ClassId) (dI : Nat → Nat → Nat) (cyC cyI cyO : ClassId) (ro : Nat → Nat) (hSt : ∀ rho : Nat → Nat → Nat, (∀ c, 36 ≤ c → c < 41 → rho 0 c = ro c) → St0 dC dI cyC cyI cyO rho (fun q => s.heap.size ≤ q) L (fun j => (xs j.toNat).toInt) s)
    (hroA : ∀ c, 36 ≤ c → c < 41 → ¬ s.heap.size ≤ ro c) (hb40 : ro 40 = b) (u : (Nat → Nat → Nat) × Nat × (Nat → Nat)) (h0 : Nat) {H : Heap} {locs : List Loc} {cells slots : Nat} {ls : Array Slot}
    (hP : va_P (dC, dI) vwCl (kW cyC cyI cyO h0 u) H) (hD : va_D (fun q : Nat => s.heap.size ≤ q) (kW cyC cyI cyO h0 u)) (hS : va_S (fun q : Nat => s.heap.size ≤ q) s.heap H locs)
    (hcs : cells + 1000 ≤ 600000) (hss : slots + 64000 ≤ 7302249) (hl : lv_has ls 18 [(1, .ref h0), (0, .ref b)]) :
    W p l e room_1 s m #[Value.ref b] below meth c H locs cells slots (lw_Z below #[Value.ref b] s) (F0 m 8 ls []) := by
  obtain ⟨hx, hb, hr, hml, hown, hts0, hX, hbl, hlocks, hgv⟩ := id C0
  have hgw : ∀ w ∈ GW, w.before #[Value.ref b] s = true := fun w hw => hts0 w (List.mem_filter.mp hw).1
  have hPw : va_P (dC, dI) vwCl (wL 0 cyC cyI cyO (rhoA u ro h0) (SL L xs)) H := P_mem.mpr (fun q hq => P_mem.mp hP q (wL_in hq))
  have hDw : va_D (fun q : Nat => s.heap.size ≤ q) (wL 0 cyC cyI cyO (rhoA u ro h0) (SL L xs)) := by
    refine D_nd.mpr ⟨?_, fun q hq => (D_nd.mp hD).2 q (wL_in hq)⟩
    have h1 := (D_nd.mp hD).1
    rw [kW_fst (ro := ro)] at h1
    have e1 : (wL 0 cyC cyI cyO (rhoA u ro h0) (SL L xs)).map Prod.fst = (ids 0).map (fun q => rhoA u ro h0 q.1 q.2) := by
      unfold wL
      rw [List.map_map]
      rfl
    rw [e1]
    exact ((idsP_perm.map _).nodup_iff).mpr h1
  have hrho : ∀ c, 36 ≤ c → c < 41 → rhoA u ro h0 0 c = ro c := by
    intro c c1 c2
    unfold rhoA
    rw [if_neg (by omega), if_neg (by omega), if_neg (by omega), if_neg (by omega)]
  have hG := hpure (l, dC, dI, cyC, cyI, cyO, (fun q : Nat => s.heap.size ≤ q), b, L, xs) L xs rfl rfl hL hL (rhoA u ro h0) SL_St (fun i v hv => by
    match i, hv with
    | 0, hv => cases hv; exact Or.inr ⟨by decide, by decide, rfl⟩
    | 1, hv => cases hv; exact Or.inl ⟨by decide, by decide⟩
    | i + 2, hv =>
      rw [List.getElem?_cons_succ, List.getElem?_cons_succ, List.getElem?_replicate] at hv
      split at hv <;> simp at hv) (fun v hv => by cases hv)
  refine hG p e room_1 s m _ below meth c H locs cells slots _ ls ⟨hx, hb, hml, hown, hgw, hSt _ hrho, Nat.le_of_ble_eq_true rfl, Nat.le_of_ble_eq_true rfl, by show cells ≤ 600000; omega, by show slots ≤ 7302249; omega, fun c c1 c2 => by rw [hrho c c1 c2]; exact hroA c c1 c2, wL_D _ hDw⟩ hPw hS ⟨rfl, ?_⟩ ⟨rfl, rfl, rfl, C0, rfl, hcs, by omega⟩
  have e40 : rhoA u ro h0 0 40 = b := by rw [hrho 40 (by decide) (by decide), hb40]
  have h2 := lv_sub hl [1, 0] rfl
  rw [← e40] at h2
  exact h2
end GO
