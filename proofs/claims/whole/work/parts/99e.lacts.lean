/-! THE LAW: acts -/
set_option maxHeartbeats 4000000 in
set_option maxRecDepth 100000 in
theorem LR_PmB {S : Hp} (h : LRel S) : PmB S ∧ ¬ nw S = sp S := by
  obtain ⟨⟨hs, h6⟩, ⟨⟨a1, a2, a3⟩, -, c1, -, -⟩, -⟩ := h
  exact ⟨⟨hs, a2, a3⟩, by unfold nw sp; omega⟩
set_option maxHeartbeats 4000000 in
set_option maxRecDepth 100000 in
theorem ed_nc {S : Hp} {O' : Of} {v : Int} {c : Nat} (h1 : 24 < c) : edS (acS S O') v 0 c = S 0 c := by
  have w : acS S O' 0 c = S 0 c := by
    unfold acS bgS
    rw [ho_nc (by omega), ho_nc (by omega)]
  unfold edS
  split
  · unfold rcT
    rw [hr_nc (by omega), hr_nc (by omega), w]
  · exact w
set_option maxHeartbeats 4000000 in
set_option maxRecDepth 100000 in
theorem act_nc {S : Hp} {M' : Int → Int} {r : Int} {c : Nat} (h : 34 < c) : actS S M' r 0 c = S 0 c := by
  unfold actS
  split
  · rw [hr_nc (by omega), hr_nc (by omega)]
  · rw [hr_nc (by omega)]
    unfold rcS
    rw [hr_nc (by omega), hr_nc (by omega), hr_nc (by omega)]
set_option maxHeartbeats 4000000 in
set_option maxRecDepth 100000 in
theorem RR_R0k {S : Hp} (h : LRel S) : 0 ≤ S 0 30 6 ∧ S 0 30 6 ≤ 4 := by
  have := h.1
  omega
/- two calls, of the class and of the model, with one answer -/
def Two (S : Hp) (m1 : Nat) (as1 : List MV) (m2 : Nat) (as2 : List MV) : Prop := ∃ S1 S2 v, (∀ Q : Option MV → Hp → Prop, Wc m1 as1 S Q = Q (some (.inl v)) S1) ∧ S1 0 40 = S 0 40 ∧ S1 0 41 = S 0 41 ∧ (∀ Q : Option MV → Hp → Prop, Wc m2 as2 S1 Q = Q (some (.inl v)) S2) ∧ S2 0 40 = S 0 40 ∧ S2 0 41 = S 0 41 ∧ LRel S2
set_option maxHeartbeats 4000000 in
set_option maxRecDepth 100000 in
theorem two_act {S : Hp} {O' : Of} {M' : Int → Int} {v : Int} {k1 k2 : Nat} {as1 as2 : List MV} (h : LRel S) (hT : Ok1 O' M') (hneg : v < 0 → O' = S (nw S) ∧ M' = S 0 31) (r1 : ∀ Q : Option MV → Hp → Prop, Wc k1 as1 S Q = Q (some (.inl v)) (edS (acS S O') v)) (r2 : ∀ Q : Option MV → Hp → Prop, Wc k2 as2 (edS (acS S O') v) Q = Q (some (.inl v)) (actS (edS (acS S O') v) M' v)) : Two S k1 as1 k2 as2 :=
  ⟨_, _, v, r1, ed_nc (by decide), ed_nc (by decide), r2, by rw [act_nc (by decide), ed_nc (by decide)], by rw [act_nc (by decide), ed_nc (by decide)], LR_act h hT hneg⟩
set_option maxHeartbeats 4000000 in
set_option maxRecDepth 100000 in
theorem SP_sell {M : Int → Int} {t : Int} (h : SP M) : SP (slM M t) := by
  unfold slM
  split
  · split
    · exact h
    · split
      · exact h
      · exact SP_e h (DPe_eq (fun j j1 j2 => mk_ne (by omega)) (fun v v1 v2 => mk_ne (by omega)))
  · exact h
set_option maxHeartbeats 4000000 in
set_option maxRecDepth 100000 in
theorem SP_draw {M : Int → Int} {d : Int} (h : SP M) : SP (dwM M d) := by
  unfold dwM
  split
  · split
    · exact h
    · refine SP_e h (DPe_eq (fun j j1 j2 => ?_) (fun v v1 v2 => ?_))
      · unfold lotM
        rw [up_ne (by omega), up_ne (by omega), up_ne (by omega)]
      · unfold lotM
        rw [up_ne (by omega), up_ne (by omega), up_ne (by omega)]
  · exact h
set_option maxHeartbeats 4000000 in
set_option maxRecDepth 100000 in
theorem SP_come {O : Of} {M : Int → Int} {w t : Int} (hR : RR O M) (h : SP M) : SP (cmM M w t) := by
  unfold cmM
  split
  · next c =>
    have b := (hR.2.2.2.1 w (by omega) (by omega)).1.1
    split
    · exact h
    · refine SP_e h (DPe_eq (fun j j1 j2 => ?_) (fun v v1 v2 => ?_))
      · unfold moM cm0
        rw [up_ne (by omega), up_ne (by omega)]
      · unfold moM cm0
        rw [up_ne (by omega), up_ne (by omega)]
  · exact h
set_option maxHeartbeats 4000000 in
set_option maxRecDepth 100000 in
theorem SP_pass {O : Of} {M : Int → Int} {t : Int} (hT : T1 O M) (h9 : M 0 ≤ 9999) (h : SP M) : SP (paM M t) := by
  unfold paM
  split
  · split
    · exact h
    · exact SP_e h (DPe_ticks hT _ (by omega))
  · exact h
set_option maxHeartbeats 4000000 in
set_option maxRecDepth 100000 in
theorem LO_sell {S : Hp} {t : Int} (h : LRel S) (ht : tdR t) : Two S 78 [.inr (0, 23), .inl t] 155 [.inr (0, 30), .inl t] := by
  obtain ⟨hP, hne⟩ := LR_PmB h
  obtain ⟨hT, hS, h9⟩ := h.2.2.1
  obtain ⟨e1, e2, e3, e4, e5⟩ := SELL (t := t) hT
  refine two_act (O' := seO (S (nw S)) t) (M' := slM (S 0 31) t) (v := slR (S 0 31) t) h ⟨e2, SP_sell hS, by rw [e3]; exact h9⟩ (fun q => ⟨(e5 q).2, (e5 q).1⟩) (fun Q => ?_) (fun Q => ?_)
  · have q := c_sell (S := S) (t := t) hP hne hT.1.1.2.1 (RD_Wg hT.1.2.1) ht (by rw [e1]; exact e4) Q
    rw [e1] at q
    exact q
  · have q31 : edS (acS S (seO (S (nw S)) t)) (slR (S 0 31) t) 0 31 = S 0 31 := ed_nc (by decide)
    have q30 : edS (acS S (seO (S (nw S)) t)) (slR (S 0 31) t) 0 30 = S 0 30 := ed_nc (by decide)
    have q := m_sell (S := edS (acS S (seO (S (nw S)) t)) (slR (S 0 31) t)) (t := t) (by rw [q30]; exact RR_R0k h) (by rw [q31]; exact hT.1.1.1) (by rw [q31]; exact hT.1.2.1.1) ht (by rw [q31]; exact e4) Q
    rw [q31] at q
    exact q
set_option maxHeartbeats 4000000 in
set_option maxRecDepth 100000 in
theorem LO_draw {S : Hp} {d : Int} (h : LRel S) (hd : tdR d) : Two S 79 [.inr (0, 23), .inl d] 156 [.inr (0, 30), .inl d] := by
  obtain ⟨hP, hne⟩ := LR_PmB h
  obtain ⟨hT, hS, h9⟩ := h.2.2.1
  obtain ⟨e1, e2, e3, e4, e5⟩ := DRAW (d := d) hT
  have hl := hT.1.2.2.2.2.2.2.1.2.1
  refine two_act (O' := dbO (S (nw S)) d) (M' := dwM (S 0 31) d) (v := dwR (S 0 31) d) h ⟨e2, SP_draw hS, by rw [e3]; exact h9⟩ (fun q => ⟨(e5 q).2, (e5 q).1⟩) (fun Q => ?_) (fun Q => ?_)
  · have q := c_draw (S := S) (d := d) hP hne hT.1.1.2.1 (RD_Wg hT.1.2.1) (by rw [hl.1]; exact hl.2) (RR_h0 hT.1) hd (by rw [e1]; exact e4) Q
    rw [e1] at q
    exact q
  · have q31 : edS (acS S (dbO (S (nw S)) d)) (dwR (S 0 31) d) 0 31 = S 0 31 := ed_nc (by decide)
    have q30 : edS (acS S (dbO (S (nw S)) d)) (dwR (S 0 31) d) 0 30 = S 0 30 := ed_nc (by decide)
    have q := m_draw (S := edS (acS S (dbO (S (nw S)) d)) (dwR (S 0 31) d)) (d := d) (by rw [q30]; exact RR_R0k h) (by rw [q31]; exact hT.1.2.1.1) (by rw [q31]; exact hl.2) hd (by rw [q31]; exact e4) Q
    rw [q31] at q
    exact q
set_option maxHeartbeats 4000000 in
set_option maxRecDepth 100000 in
theorem LO_come {S : Hp} {w t : Int} (h : LRel S) (hw : tdR w) (ht : tdR t) : Two S 80 [.inr (0, 23), .inl w, .inl t] 157 [.inr (0, 30), .inl w, .inl t] := by
  obtain ⟨hP, hne⟩ := LR_PmB h
  obtain ⟨hT, hS, h9⟩ := h.2.2.1
  obtain ⟨e1, e2, e3, e4, e5⟩ := COME (w := w) (t := t) hT
  refine two_act (O' := acO (S (nw S)) w t) (M' := cmM (S 0 31) w t) (v := cmR (S 0 31) w t) h ⟨e2, SP_come hT.1 hS, by rw [e3]; exact h9⟩ (fun q => ⟨(e5 q).2, (e5 q).1⟩) (fun Q => ?_) (fun Q => ?_)
  · have q := c_come (S := S) (w := w) (t := t) hP hne (fun u u1 u2 => by have b := (hT.1.2.2.2.1 u u1 u2).1; rw [b.2]; exact b.1) hw ht (by rw [e1]; exact e4) Q
    rw [e1] at q
    exact q
  · have q31 : edS (acS S (acO (S (nw S)) w t)) (cmR (S 0 31) w t) 0 31 = S 0 31 := ed_nc (by decide)
    have q30 : edS (acS S (acO (S (nw S)) w t)) (cmR (S 0 31) w t) 0 30 = S 0 30 := ed_nc (by decide)
    have q := m_come (S := edS (acS S (acO (S (nw S)) w t)) (cmR (S 0 31) w t)) (w := w) (t := t) (by rw [q30]; exact RR_R0k h) (by rw [q31]; exact fun u u1 u2 => (hT.1.2.2.2.1 u u1 u2).1.1) hw ht (by rw [q31]; exact e4) Q
    rw [q31] at q
    exact q
set_option maxHeartbeats 4000000 in
set_option maxRecDepth 100000 in
theorem LO_pass {S : Hp} {t : Int} (h : LRel S) (ht : tdR t) : Two S 82 [.inr (0, 23), .inl t] 159 [.inr (0, 30), .inl t] := by
  obtain ⟨hP, hne⟩ := LR_PmB h
  obtain ⟨hT, hS, h9⟩ := h.2.2.1
  obtain ⟨e1, e2, e3, e4, e5⟩ := PASS (t := t) hT h9
  have hl := hT.1.2.2.2.2.2.2.1.1
  refine two_act (O' := paO (S (nw S)) t) (M' := paM (S 0 31) t) (v := paR (S 0 31) t) h ⟨e2, SP_pass hT h9 hS, e3⟩ (fun q => ⟨(e5 q).2, (e5 q).1⟩) (fun Q => ?_) (fun Q => ?_)
  · have q := c_pass (S := S) (t := t) hP hne (by rw [hl.1]; exact ⟨hl.2.1, h9⟩) ht (fun t1 t2 j hj => by
      rw [hl.1] at t2
      exact TICK_c (TICKS hT j (by omega)).1) (by rw [e1]; exact e4) Q
    rw [e1] at q
    exact q
  · have q31 : edS (acS S (paO (S (nw S)) t)) (paR (S 0 31) t) 0 31 = S 0 31 := ed_nc (by decide)
    have q30 : edS (acS S (paO (S (nw S)) t)) (paR (S 0 31) t) 0 30 = S 0 30 := ed_nc (by decide)
    have q := m_pass (S := edS (acS S (paO (S (nw S)) t)) (paR (S 0 31) t)) (t := t) (by rw [q30]; exact RR_R0k h) (by rw [q31]; exact ⟨hl.2.1, h9⟩) ht (by
      rw [q31]
      exact fun t1 t2 k hk => TICK_k (TICKS hT k (by omega)).1) (by rw [q31]; exact e4) Q
    rw [q31] at q
    exact q
