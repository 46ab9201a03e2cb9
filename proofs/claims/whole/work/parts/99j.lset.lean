/-! THE LAW: settings and states, the calls -/
set_option maxHeartbeats 4000000 in
set_option maxRecDepth 100000 in
theorem SP_set {M : Int → Int} {w v : Int} (hw : 0 ≤ w ∧ w ≤ 2) (h : SP M) : SP (up M (5 + w) v) := SP_e h (DPe_eq (fun j j1 j2 => up_ne (by omega)) (fun u u1 u2 => up_ne (by omega)))
set_option maxHeartbeats 4000000 in
set_option maxRecDepth 100000 in
theorem LR_same {S : Hp} {v : Int} (h : LRel S) (hv : v < 0) : LRel (edS (acS S (S (nw S))) v) := by
  rw [ed_neg hv]
  exact LR_neg (O' := S (nw S)) h (by rw [ac_hi (by decide)]; exact h.2.2.1) (fun _ _ _ => rfl) (fun c h1 _ _ => ac_hi h1)
set_option maxHeartbeats 4000000 in
set_option maxRecDepth 100000 in
theorem LO_set {S : Hp} {w v : Int} (h : LRel S) (hw : tdR w) (hv : tdR v) : Two S 83 [.inr (0, 23), .inl w, .inl v] 161 [.inr (0, 30), .inl w, .inl v] := by
  obtain ⟨hP, hne⟩ := LR_PmB h
  obtain ⟨hT, hS, h9⟩ := h.2.2.1
  have hl := hT.1.2.2.2.2.2.2.1
  have hm : ∀ w : Int, 0 ≤ w → w ≤ 2 → 0 ≤ S 0 31 (5 + w) ∧ S 0 31 (5 + w) ≤ 20 := fun w w1 w2 => by
    rcases (show w = 0 ∨ w = 1 ∨ w = 2 by omega) with rfl | rfl | rfl
    · have b := hl.2.2.2.2.1
      rw [show (5 : Int) + 0 = 5 from rfl]
      omega
    · have b := hl.2.2.2.2.2.1
      rw [show (5 : Int) + 1 = 6 from rfl]
      omega
    · have b := hl.2.2.2.2.2.2
      rw [show (5 : Int) + 2 = 7 from rfl]
      omega
  have hm' : ∀ w : Int, 0 ≤ w → w ≤ 2 → 0 ≤ S (nw S) 1 w ∧ S (nw S) 1 w ≤ 20 := fun w w1 w2 => by
    rw [hl.2.2.2.1 w w1 (by omega)]
    exact hm w w1 w2
  have r1 := fun hV Q => c_set (S := S) (w := w) (v := v) hP hne hw hv hm' hV Q
  have r2 := fun (W : Hp) (q31 : W 0 31 = S 0 31) (q30 : W 0 30 = S 0 30) Q => m_set (S := W) (w := w) (v := v) (by rw [q30]; exact RR_R0k h) hw hv (by rw [q31]; exact hm) Q
  unfold cgV cgO at r1
  unfold stR1 stH at r2
  by_cases ok : setOk w v
  · have ow : 0 ≤ w ∧ w ≤ 2 := by unfold setOk at ok; omega
    rw [if_pos ok, if_pos ok, hl.2.2.2.1 w ow.1 (by omega)] at r1
    by_cases e : S 0 31 (5 + w) = v
    · rw [if_pos e, if_pos e] at r1
      have r1 := r1 (by unfold tdR; omega)
      have q := r2 (edS (acS S (S (nw S))) (-5)) (ed_nc (by decide)) (ed_nc (by decide))
      rw [if_pos ok, if_pos ok, show edS (acS S (S (nw S))) (-5) 0 31 = S 0 31 from ed_nc (by decide), if_pos e, if_pos e] at q
      exact ⟨_, _, -5, r1, ed_nc (by decide), ed_nc (by decide), q, ed_nc (by decide), ed_nc (by decide), LR_same h (by decide)⟩
    · rw [if_neg e, if_neg e] at r1
      have b := hm w ow.1 ow.2
      have r1 := r1 (by unfold tdR; omega)
      obtain ⟨W, hW⟩ : ∃ W, W = edS (acS S (oc (S (nw S)) 1 (up (S (nw S) 1) w v))) (S 0 31 (5 + w)) := ⟨_, rfl⟩
      have q31 : W 0 31 = S 0 31 := by rw [hW]; exact ed_nc (by decide)
      have q := r2 W q31 (by rw [hW]; exact ed_nc (by decide))
      rw [if_pos ok, if_pos ok, q31, if_neg e, if_neg e] at q
      have hL := LR_ac3 (O' := oc (S (nw S)) 1 (up (S (nw S) 1) w v)) (M' := up (S 0 31) (5 + w) v) (v := S 0 31 (5 + w)) h ⟨T1_set hT ok, SP_set ow hS, by rw [up_ne (by omega)]; exact h9⟩ b.1 (fun j hj => up_ne (by omega))
      rw [← hW] at r1 hL
      have c4 : ∀ c : Nat, 39 < c → hr (rcS W (S 0 31)) 0 31 (up (S 0 31) (5 + w) v) 0 c = S 0 c := fun c hc => by
        rw [hr_nc (by omega)]
        unfold rcS
        rw [hr_nc (by omega), hr_nc (by omega), hW]
        exact ed_nc (by omega)
      exact ⟨W, _, _, r1, by rw [hW]; exact ed_nc (by decide), by rw [hW]; exact ed_nc (by decide), q, c4 40 (by decide), c4 41 (by decide), hL⟩
  · rw [if_neg ok, if_neg ok] at r1
    have r1 := r1 (by unfold tdR; omega)
    have q := r2 (edS (acS S (S (nw S))) (-2)) (ed_nc (by decide)) (ed_nc (by decide))
    rw [if_neg ok, if_neg ok] at q
    exact ⟨_, _, -2, r1, ed_nc (by decide), ed_nc (by decide), q, ed_nc (by decide), ed_nc (by decide), LR_same h (by decide)⟩
