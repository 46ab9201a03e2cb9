/-! THE LAW: the loop over the calls -/
set_option maxHeartbeats 4000000 in
set_option maxRecDepth 100000 in
theorem law_loop (hDo : ∀ S : Hp, LRel S → Two S 87 [.inr (0, 23)] 171 [.inr (0, 30)]) {L : Int} (hb : 0 ≤ L ∧ L ≤ 2048) {X : Int → Int} (hX : ∀ j : Int, tdR (X j)) {Q : Option MV → Hp → Prop} (hQ : ∀ T : Hp, Q (some (.inl 1)) T) : ∀ (n : Nat) (i : Int) (S : Hp), LRel S → S 0 40 = X → S 0 41 0 = L → 0 ≤ i → i ≤ L → L ≤ i + n → Wp 0 18 [some (.inr (0, 40)), some (.inr (0, 23)), some (.inr (0, 30)), some (.inl i)] [] S Q := by
  intro n
  induction n with
  | zero => exact fun i S hR h40 h41 i0 i1 i2 => lw_end h41 hb ⟨i0, by omega, by omega⟩ (hQ S)
  | succ n ih =>
    intro i S hR h40 h41 i0 i1 i2
    by_cases hi : L < i + 4
    · exact lw_end h41 hb ⟨i0, hi, by omega⟩ (hQ S)
    have hj : 0 ≤ i ∧ i + 4 ≤ L := by omega
    have tX : ∀ j : Int, tdR (S 0 40 j) := fun j => by rw [h40]; exact hX j
    have go : ∀ S2 : Hp, LRel S2 → S2 0 40 = S 0 40 → S2 0 41 = S 0 41 → Wp 0 18 [some (.inr (0, 40)), some (.inr (0, 23)), some (.inr (0, 30)), some (.inl (i + 4))] [] S2 Q := fun S2 hL2 e40 e41 => ih (i + 4) S2 hL2 (by rw [e40, h40]) (by rw [e41, h41]) (by omega) (by omega) (by omega)
    by_cases z0 : bAnd (S 0 40 i) 31 = 0
    · obtain ⟨S1, S2, v, rc, a1, a2, rm, a3, a4, hL2⟩ := LO_sell hR (tX (i + 1))
      exact lw_sell h41 hb hj z0 rc a1 a2 rm (go S2 hL2 a3 a4)
    by_cases z1 : bAnd (S 0 40 i) 31 = 1
    · obtain ⟨S1, S2, v, rc, a1, a2, rm, a3, a4, hL2⟩ := LO_draw hR (tX (i + 1))
      exact lw_draw h41 hb hj z1 rc a1 a2 rm (go S2 hL2 a3 a4)
    by_cases z2 : bAnd (S 0 40 i) 31 = 2
    · obtain ⟨S1, S2, v, rc, a1, a2, rm, a3, a4, hL2⟩ := LO_come hR (tX (i + 1)) (tX (i + 2))
      exact lw_come h41 hb hj z2 rc a1 a2 rm (go S2 hL2 a3 a4)
    by_cases z3 : bAnd (S 0 40 i) 31 = 3
    · obtain ⟨S1, S2, v, rc, a1, a2, rm, a3, a4, hL2⟩ := LO_leave hR (tX (i + 1))
      exact lw_leave h41 hb hj z3 rc a1 a2 rm (go S2 hL2 a3 a4)
    by_cases z4 : bAnd (S 0 40 i) 31 = 4
    · obtain ⟨S1, S2, v, rc, a1, a2, rm, a3, a4, hL2⟩ := LO_pass hR (tX (i + 1))
      exact lw_pass h41 hb hj z4 rc a1 a2 rm (go S2 hL2 a3 a4)
    by_cases z5 : bAnd (S 0 40 i) 31 = 5
    · obtain ⟨S1, S2, v, rc, a1, a2, rm, a3, a4, hL2⟩ := LO_set hR (tX (i + 1)) (tX (i + 2))
      exact lw_set h41 hb hj z5 rc a1 a2 rm (go S2 hL2 a3 a4)
    by_cases z7 : bAnd (S 0 40 i) 31 = 7
    · obtain ⟨S1, S2, v, rc, a1, a2, rm, a3, a4, hL2⟩ := LO_clearText hR
      exact lw_clearText h41 hb hj z7 rc a1 a2 rm (go S2 hL2 a3 a4)
    by_cases z8 : bAnd (S 0 40 i) 31 = 8
    · obtain ⟨S1, S2, v, rc, a1, a2, rm, a3, a4, hL2⟩ := LO_fault hR
      exact lw_fault h41 hb hj z8 rc a1 a2 rm (go S2 hL2 a3 a4)
    by_cases z10 : bAnd (S 0 40 i) 31 = 10
    · obtain ⟨S1, S2, v, rc, a1, a2, rm, a3, a4, hL2⟩ := LO_undo hR
      exact lw_undo h41 hb hj z10 rc a1 a2 rm (go S2 hL2 a3 a4)
    by_cases z11 : bAnd (S 0 40 i) 31 = 11
    · obtain ⟨S1, S2, v, rc, a1, a2, rm, a3, a4, hL2⟩ := LO_keep hR
      exact lw_keep h41 hb hj z11 rc a1 a2 rm (go S2 hL2 a3 a4)
    by_cases z12 : bAnd (S 0 40 i) 31 = 12
    · obtain ⟨S1, S2, v, rc, a1, a2, rm, a3, a4, hL2⟩ := LO_restore hR
      exact lw_restore h41 hb hj z12 rc a1 a2 rm (go S2 hL2 a3 a4)
    by_cases z13 : bAnd (S 0 40 i) 31 = 13
    · obtain ⟨S1, S2, v, rc, a1, a2, rm, a3, a4, hL2⟩ := LO_ticketOf hR (tX (i + 1)) (tX (i + 2))
      exact lw_ticketOf h41 hb hj z13 rc a1 a2 rm (go S2 hL2 a3 a4)
    by_cases z14 : bAnd (S 0 40 i) 31 = 14
    · obtain ⟨S1, S2, v, rc, a1, a2, rm, a3, a4, hL2⟩ := LO_drawOf hR (tX (i + 1)) (tX (i + 2))
      exact lw_drawOf h41 hb hj z14 rc a1 a2 rm (go S2 hL2 a3 a4)
    by_cases z15 : bAnd (S 0 40 i) 31 = 15
    · obtain ⟨S1, S2, v, rc, a1, a2, rm, a3, a4, hL2⟩ := LO_windowOf hR (tX (i + 1)) (tX (i + 2))
      exact lw_windowOf h41 hb hj z15 rc a1 a2 rm (go S2 hL2 a3 a4)
    by_cases z16 : bAnd (S 0 40 i) 31 = 16
    · obtain ⟨S1, S2, v, rc, a1, a2, rm, a3, a4, hL2⟩ := LO_count hR (tX (i + 1))
      exact lw_count h41 hb hj z16 rc a1 a2 rm (go S2 hL2 a3 a4)
    by_cases z18 : bAnd (S 0 40 i) 31 = 18
    · obtain ⟨S1, S2, v, rc, a1, a2, rm, a3, a4, hL2⟩ := LO_why hR (tX (i + 1)) (tX (i + 2))
      exact lw_why h41 hb hj z18 rc a1 a2 rm (go S2 hL2 a3 a4)
    by_cases z19 : bAnd (S 0 40 i) 31 = 19
    · obtain ⟨S1, S2, v, rc, a1, a2, rm, a3, a4, hL2⟩ := LO_ifRule hR (tX (i + 1)) (tX (i + 2)) (tX (i + 3))
      exact lw_ifRule h41 hb hj z19 rc a1 a2 rm (go S2 hL2 a3 a4)
    by_cases z20 : bAnd (S 0 40 i) 31 = 20
    · obtain ⟨S1, S2, v, rc, a1, a2, rm, a3, a4, hL2⟩ := LO_bestRule hR
      exact lw_bestRule h41 hb hj z20 rc a1 a2 rm (go S2 hL2 a3 a4)
    by_cases z21 : bAnd (S 0 40 i) 31 = 21
    · obtain ⟨S1, S2, v, rc, a1, a2, rm, a3, a4, hL2⟩ := LO_shortest hR
      exact lw_shortest h41 hb hj z21 rc a1 a2 rm (go S2 hL2 a3 a4)
    by_cases z9 : bAnd (S 0 40 i) 31 = 9
    · obtain ⟨S1, S2, v, rc, a1, a2, rm, a3, a4, hL2⟩ := hDo S hR
      exact lw_doAll h41 hb hj z9 rc a1 a2 rm (go S2 hL2 a3 a4)
    by_cases z6 : bAnd (S 0 40 i) 31 = 6
    · obtain ⟨S1, S2, v, rc, a1, a2, rm, a3, a4, hL2⟩ := LO_type (z := S 0 40 (i + 1) % 65536) hR ⟨by omega, by omega⟩
      exact lw_type h41 hb hj z6 rc a1 a2 rm (go S2 hL2 a3 a4)
    by_cases z17 : bAnd (S 0 40 i) 31 = 17
    · obtain ⟨S1, S2, v, rc, a1, a2, rm, a3, a4, hL2⟩ := LO_paid (b := if S 0 40 (i + 1) = 0 then 0 else 1) hR (by split; exact Or.inl rfl; exact Or.inr rfl)
      exact lw_paid h41 hb hj z17 rfl (tX (i + 1)) rc a1 a2 rm (go S2 hL2 a3 a4)
    have b := and31 (S 0 40 i)
    exact lw_none h41 hb hj (by omega) (go S hR rfl rfl)
