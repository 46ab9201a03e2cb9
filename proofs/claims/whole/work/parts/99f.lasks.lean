/-! THE LAW: what is told -/
set_option maxHeartbeats 4000000 in
set_option maxRecDepth 100000 in
theorem two_same {S : Hp} {v : Int} {k1 k2 : Nat} {as1 as2 : List MV} (h : LRel S) (r1 : ∀ Q : Option MV → Hp → Prop, Wc k1 as1 S Q = Q (some (.inl v)) S) (r2 : ∀ Q : Option MV → Hp → Prop, Wc k2 as2 S Q = Q (some (.inl v)) S) : Two S k1 as1 k2 as2 := ⟨S, S, v, r1, rfl, rfl, r2, rfl, rfl, h⟩
set_option maxHeartbeats 4000000 in
set_option maxRecDepth 100000 in
theorem RR_Rw {O : Of} {M : Int → Int} (h : RR O M) : RwB O := by
  intro w w1 w2
  obtain ⟨b1, b2, b3, -⟩ := h.2.2.2.1 w w1 w2
  rw [b1.2]
  exact ⟨b1.1, fun z z1 z2 => by rw [b2 z z1 z2]; exact b3 z z1 (by omega)⟩
set_option maxHeartbeats 4000000 in
set_option maxRecDepth 100000 in
theorem RR_Sl {O : Of} {M : Int → Int} (h : RR O M) : SlB M := fun w w1 w2 => ⟨(h.2.2.2.1 w w1 w2).1.1, (h.2.2.2.1 w w1 w2).2.2.1⟩
set_option maxHeartbeats 4000000 in
set_option maxRecDepth 100000 in
theorem RR_w9 {O : Of} {M : Int → Int} (h : RR O M) : ∀ w : Int, 0 ≤ w → w < 3 → (0 ≤ M (8 + 15 * w) ∧ M (8 + 15 * w) ≤ 8) ∧ 0 ≤ M (8 + 15 * w + 9) ∧ M (8 + 15 * w + 9) ≤ 600 := fun w w1 w2 => ⟨(h.2.2.2.1 w w1 w2).1.1, (h.2.2.2.1 w w1 w2).2.2.2.1.1⟩
set_option maxHeartbeats 4000000 in
set_option maxRecDepth 100000 in
theorem RR_o12 {O : Of} {M : Int → Int} (h : RR O M) : ∀ w : Int, 0 ≤ w → w < 3 → (0 ≤ O 11 w ∧ O 11 w ≤ 8) ∧ -5 ≤ O 12 w ∧ O 12 w < 600 := fun w w1 w2 => ⟨by have b := (h.2.2.2.1 w w1 w2).1; rw [b.2]; exact b.1, RR_12 h w w1 w2⟩
set_option maxHeartbeats 4000000 in
set_option maxRecDepth 100000 in
theorem Ok_Gm {O : Of} {M : Int → Int} (h : Ok1 O M) : Gm M := RR_Gm h.1.1 (by have := h.1.2.2.2; have := h.2.2; omega)
set_option maxHeartbeats 4000000 in
set_option maxRecDepth 100000 in
theorem LO_ticketOf {S : Hp} {t a : Int} (h : LRel S) (ht : tdR t) (ha : tdR a) : Two S 91 [.inr (0, 23), .inl t, .inl a] 178 [.inr (0, 30), .inl t, .inl a] := by
  have hO := h.2.2.1
  have hR := hO.1.1
  have hG := Ok_Gm hO
  have e := Q_ticket hR t a
  refine two_same (v := tkV (S 0 31) t a) h (fun Q => ?_) (fun Q => m_ticketOf hR.1.1 hR.2.1.1 hG.2.2.1 hG.2.2.2.1 (RR_Sl hR) ht ha Q)
  have q := c_ticketOf (S := S) (t := t) (a := a) hR.1.2.1 (RD_Wn hR.2.1) (RR_Rw hR) ht ha Q
  rw [e] at q
  exact q
set_option maxHeartbeats 4000000 in
set_option maxRecDepth 100000 in
theorem LO_drawOf {S : Hp} {d a : Int} (h : LRel S) (hd : tdR d) (ha : tdR a) : Two S 92 [.inr (0, 23), .inl d, .inl a] 179 [.inr (0, 30), .inl d, .inl a] := by
  have hR := h.2.2.1.1.1
  have e := Q_draw hR d a
  refine two_same (v := doV (S 0 31) d a) h (fun Q => ?_) (fun Q => m_drawOf hR.1.1 hR.2.1.1 hd ha Q)
  have q := c_drawOf (S := S) (d := d) (a := a) (RD_Wn hR.2.1) (RD_Wg hR.2.1) hd ha Q
  rw [e] at q
  exact q
set_option maxHeartbeats 4000000 in
set_option maxRecDepth 100000 in
theorem LO_windowOf {S : Hp} {w a : Int} (h : LRel S) (hw : tdR w) (ha : tdR a) : Two S 93 [.inr (0, 23), .inl w, .inl a] 181 [.inr (0, 30), .inl w, .inl a] := by
  have hR := h.2.2.1.1.1
  have e := Q_window hR w a
  refine two_same (v := woV (S 0 31) w a) h (fun Q => ?_) (fun Q => m_windowOf hR.1.1 (RR_w9 hR) hw ha Q)
  have q := c_windowOf (S := S) (w := w) (a := a) hR.1.2.1 (RR_o12 hR) hw ha Q
  rw [e] at q
  exact q
set_option maxHeartbeats 4000000 in
set_option maxRecDepth 100000 in
theorem LO_count {S : Hp} {a : Int} (h : LRel S) (ha : tdR a) : Two S 94 [.inr (0, 23), .inl a] 183 [.inr (0, 30), .inl a] := by
  have hO := h.2.2.1
  have hR := hO.1.1
  have hG := Ok_Gm hO
  have e : ccV S a = cuV (S 0 31) (S 0 30) a := by
    by_cases c : 12 ≤ a ∧ a ≤ 16
    · have hs := hR.2.2.2.2.2.2.1.2.2.2.1
      have s0 := hs 0 (by omega) (by omega)
      have s1 := hs 1 (by omega) (by omega)
      have s2 := hs 2 (by omega) (by omega)
      simp only [Int.add_zero, Int.reduceAdd] at s0 s1 s2
      have h6 := h.1.2
      have h7 := h.2.2.2.2.2.2.1
      unfold ccV cuV
      rcases (show a = 12 ∨ a = 13 ∨ a = 14 ∨ a = 15 ∨ a = 16 by omega) with rfl | rfl | rfl | rfl | rfl
      · simp only [Int.reduceLE, Int.reduceEq, and_false, false_and, ↓reduceIte]; exact h6.symm
      · simp only [Int.reduceLE, Int.reduceEq, and_false, false_and, ↓reduceIte]; exact h7
      · simp only [Int.reduceLE, Int.reduceEq, and_self, ↓reduceIte]; exact s0
      · simp only [Int.reduceLE, Int.reduceEq, and_self, ↓reduceIte]; exact s1
      · simp only [Int.reduceLE, Int.reduceEq, and_self, ↓reduceIte]; exact s2
    · rw [← Q_total hR (S 0 30) a c]
      unfold ccV
      rw [if_neg (by omega), if_neg (by omega), if_neg (by omega), if_neg (by omega), if_neg (by omega)]
  refine two_same (v := cuV (S 0 31) (S 0 30) a) h (fun Q => ?_) (fun Q => m_count hR.1.1 hG.2.2.1 hG.2.2.2.1 ha Q)
  have q := c_count (S := S) (a := a) ha Q
  rw [e] at q
  exact q
set_option maxHeartbeats 4000000 in
set_option maxRecDepth 100000 in
theorem LO_paid {S : Hp} {b : Int} (h : LRel S) (hb : b = 0 ∨ b = 1) : Two S 95 [.inr (0, 23), .inl b] 184 [.inr (0, 30), .inl b] := by
  have hO := h.2.2.1
  have hR := hO.1.1
  have hG := Ok_Gm hO
  have e := Q_paid hR
  refine two_same (v := if b = 0 then coS (S 0 31) - S 0 31 3 else pdC (S 0 31)) h (fun Q => ?_) (fun Q => m_paid hb hR.1.1 hR.2.1.1 hG.2.2.1 Q)
  have q := c_paid (S := S) (b := b) hb hR.1.2.1 (RD_Wn hR.2.1) Q
  rw [e.1, e.2] at q
  exact q
set_option maxHeartbeats 4000000 in
set_option maxRecDepth 100000 in
theorem LO_why {S : Hp} {w t : Int} (h : LRel S) (hw : tdR w) (ht : tdR t) : Two S 96 [.inr (0, 23), .inl w, .inl t] 185 [.inr (0, 30), .inl w, .inl t] := by
  have hR := h.2.2.1.1.1
  have h5 := hR.2.2.2.2.2.2.1.2.2.2.2.1
  have s0 := hR.2.2.2.2.2.2.1.2.2.2.1 0 (by omega) (by omega)
  rw [Int.add_zero] at s0
  have e : (if (0 ≤ w ∧ w < 3) ∧ 0 ≤ t ∧ t < 600 then rsO (S (nw S)) w t else -1) = if (0 ≤ w ∧ w ≤ 2) ∧ 0 ≤ t ∧ t < 600 then reM (S 0 31) w t else -1 := by
    by_cases c : (0 ≤ w ∧ w ≤ 2) ∧ 0 ≤ t ∧ t < 600
    · rw [if_pos c, if_pos (by omega), RR_rs hR (by omega) c.2]
    · rw [if_neg c, if_neg (by omega)]
  refine two_same h (fun Q => ?_) (fun Q => m_why hR.1.1 hR.2.1.1 h5 hw ht Q)
  have q := c_why (S := S) (w := w) (t := t) hR.1.2.1 (RD_Wn hR.2.1) (RD_Wg hR.2.1) (by rw [s0]; exact h5) hw ht Q
  rw [e] at q
  exact q
set_option maxHeartbeats 4000000 in
set_option maxRecDepth 100000 in
theorem LO_shortest {S : Hp} (h : LRel S) : Two S 99 [.inr (0, 23)] 188 [.inr (0, 30)] := by
  have hR := h.2.2.1.1.1
  have e := Q_short hR
  refine two_same (v := shV (S 0 31)) h (fun Q => ?_) (fun Q => m_shortest (RR_w9 hR) Q)
  have q := c_shortest (S := S) (RR_o12 hR) Q
  rw [e] at q
  exact q
