/-! THE LAW'S BODY: many steps at once -/
def lQ (F : Nat → Lc → List MV → Hp → Prop) (pc : Nat) (L : Lc) (st : List MV) (v : Option MV) (S : Hp) : Prop := F pc L (v.toList ++ st) S
def lK (F : Nat → Lc → List MV → Hp → Prop) : Option Rs → Prop
  | none => False
  | some (.inl (pc, L, st, S)) => F pc L st S
  | some (.inr (.inl (m, as, pc, L, st, S))) => Wc m as S (lQ F pc L st)
  | some (.inr (.inr (v, _))) => v = some (.inl 1)
def lg (P : PT) (kk al : Nat) (ct : Nat → Bool) : Nat → Nat → Lc → List MV → Hp → Prop
  | 0, pc, L, st, S => LW P kk al pc L st S
  | n + 1, pc, L, st, S => if ct pc = true then LW P kk al pc L st S else lK (lg P kk al ct n) (stR 0 pc L st S)
set_option maxHeartbeats 4000000 in
set_option maxRecDepth 100000 in
theorem lK_sound {P : PT} {kk al : Nat} {F : Nat → Lc → List MV → Hp → Prop} (hF : ∀ pc L st S, F pc L st S → LW P kk al pc L st S) {pc : Nat} {L : Lc} {st : List MV} {S : Hp} (h : lK F (stR 0 pc L st S)) : LW P kk al pc L st S := by
  refine LW_step ?_
  match hr : stR 0 pc L st S with
  | none => rw [hr] at h; exact h
  | some (.inl (pc', L', st', S')) => rw [hr] at h; exact hF _ _ _ _ h
  | some (.inr (.inl (m', as, pc', L', st', S'))) =>
    rw [hr] at h
    exact Wp.mono h (fun v S hv => hF _ _ _ _ hv)
  | some (.inr (.inr (v', S'))) => rw [hr] at h; exact h
set_option maxHeartbeats 4000000 in
set_option maxRecDepth 100000 in
theorem lg_sound {P : PT} {kk al : Nat} (ct : Nat → Bool) : ∀ (n pc : Nat) (L : Lc) (st : List MV) (S : Hp), lg P kk al ct n pc L st S → LW P kk al pc L st S := by
  intro n
  induction n with
  | zero => intro pc L st S h; exact h
  | succ n ih =>
    intro pc L st S h
    rw [lg] at h
    split at h
    · exact h
    · exact lK_sound ih h
set_option maxHeartbeats 4000000 in
set_option maxRecDepth 100000 in
theorem lg_cut {P : PT} {kk al : Nat} (ct : Nat → Bool) (n pc : Nat) (L : Lc) (st : List MV) (S : Hp) (h : lK (lg P kk al ct n) (stR 0 pc L st S)) : LW P kk al pc L st S := lK_sound (lg_sound ct n) h
section LG
variable (F : Nat → Lc → List MV → Hp → Prop) (P : PT) (kk al : Nat) (ct : Nat → Bool) (n pc : Nat) (L : Lc) (st : List MV) (S : Hp)
set_option maxHeartbeats 4000000 in
set_option maxRecDepth 100000 in
theorem lg_0 : lg P kk al ct 0 pc L st S = LW P kk al pc L st S := propext ⟨fun h => h, fun h => h⟩
set_option maxHeartbeats 4000000 in
set_option maxRecDepth 100000 in
theorem lg_s : lg P kk al ct (n + 1) pc L st S = if ct pc = true then LW P kk al pc L st S else lK (lg P kk al ct n) (stR 0 pc L st S) := propext ⟨fun h => h, fun h => h⟩
set_option maxHeartbeats 4000000 in
set_option maxRecDepth 100000 in
theorem lQ_some (v : MV) : lQ F pc L st (some v) S = F pc L (v :: st) S := propext ⟨fun h => h, fun h => h⟩
set_option maxHeartbeats 4000000 in
set_option maxRecDepth 100000 in
theorem lQ_none : lQ F pc L st none S = F pc L st S := propext ⟨fun h => h, fun h => h⟩
set_option maxHeartbeats 4000000 in
set_option maxRecDepth 100000 in
theorem lK_none : lK F none = False := propext ⟨fun h => h, fun h => h⟩
set_option maxHeartbeats 4000000 in
set_option maxRecDepth 100000 in
theorem lK_N : lK F (rN pc L st S) = F pc L st S := propext ⟨fun h => h, fun h => h⟩
set_option maxHeartbeats 4000000 in
set_option maxRecDepth 100000 in
theorem lK_C (m : Nat) (as : List MV) : lK F (rC m as pc L st S) = Wc m as S (lQ F pc L st) := propext ⟨fun h => h, fun h => h⟩
set_option maxHeartbeats 4000000 in
set_option maxRecDepth 100000 in
theorem lK_R (v : Option MV) : lK F (rR v S) = (v = some (.inl 1)) := propext ⟨fun h => h, fun h => h⟩
end LG
set_option maxHeartbeats 4000000 in
set_option maxRecDepth 100000 in
theorem lI {F : Nat → Lc → List MV → Hp → Prop} {c : Prop} {d : Decidable c} {a b : Option Rs} (h1 : c → lK F a) (h2 : ¬ c → lK F b) : lK F (@ite _ c d a b) := by
  by_cases hc : c
  · rw [if_pos hc]; exact h1 hc
  · rw [if_neg hc]; exact h2 hc
set_option maxHeartbeats 4000000 in
set_option maxRecDepth 100000 in
theorem lT {F : Nat → Lc → List MV → Hp → Prop} {c : Prop} {d : Decidable c} {a b : Option Rs} (hc : c) (h : lK F a) : lK F (@ite _ c d a b) := by
  rw [if_pos hc]; exact h
set_option maxHeartbeats 4000000 in
set_option maxRecDepth 100000 in
theorem lF {F : Nat → Lc → List MV → Hp → Prop} {c : Prop} {d : Decidable c} {a b : Option Rs} (hc : ¬ c) (h : lK F b) : lK F (@ite _ c d a b) := by
  rw [if_neg hc]; exact h
/- what the law asks besides -/
def irM (M : Int → Int) (a : Int) : Int := if a = 0 then pyS (pvM M 9) - pyS M else if a = 1 then ptC (pvM M 9) else if a = 2 then awS (pvM M 9) - awS M else coS (pvM M 9) - pvM M 9 3 - (coS M - M 3) + 100000
/- only the spare office has changed -/
def Sam (S T : Hp) : Prop := LQ T ∧ nw T = nw S ∧ sp T = sp S ∧ (∀ c : Nat, c < 23 → T (nw S) c = S (nw S) c) ∧ ∀ k c : Nat, 22 < c → T k c = S k c
set_option maxHeartbeats 4000000 in
set_option maxRecDepth 100000 in
theorem Sam_tr {S T U : Hp} (h : Sam S T) (h' : Sam T U) : Sam S U := by
  obtain ⟨a1, a2, a3, a4, a5⟩ := h
  obtain ⟨b1, b2, b3, b4, b5⟩ := h'
  refine ⟨b1, by rw [b2, a2], by rw [b3, a3], fun c hc => ?_, fun k c hc => by rw [b5 k c hc, a5 k c hc]⟩
  rw [a2] at b4
  rw [b4 c hc, a4 c hc]
set_option maxHeartbeats 4000000 in
set_option maxRecDepth 100000 in
theorem Sam_GM {S T : Hp} {M : Int → Int} (h : Sam S T) (hG : GM (S (nw S)) M) : GM (T (nw T)) M := by
  rw [h.2.1]
  exact GM_sc h.2.2.2.1 hG
set_option maxHeartbeats 4000000 in
set_option maxRecDepth 100000 in
theorem Sam_sp {S : Hp} {X : Of} (h : LQ S) : Sam S (ho S (sp S) X) := by
  have e : ∀ k c : Nat, 22 < c → ho S (sp S) X k c = S k c := fun k c hc => ho_nc (by omega)
  have q := LQ_cg (T := ho S (sp S) X) h (e 0 23 (by decide)) (e 0 24 (by decide))
  exact ⟨q.1, q.2.1, q.2.2, fun c hc => ho_nk (LQ_P h).2, e⟩
set_option maxHeartbeats 4000000 in
set_option maxRecDepth 100000 in
theorem r_if {S : Hp} {M : Int → Int} {a : Int} (hL : LQ S) (hG : GM (S (nw S)) M) (ha : 0 ≤ a ∧ a ≤ 3) : ∃ T : Hp, Sam S T ∧ ∀ Q : Option MV → Hp → Prop, Wc 83 [.inr (0, 23), .inl (M 5), .inl 9, .inl a] S Q = Q (some (.inl (irM M a))) T := by
  have h5 := hG.1.1.1.2.2.2.2.2.2.1.2.2.2.2.1
  have h9 := hG.1.2.2
  have hR := fun k hk => RULE (X := S (sp S)) (r := M 5) hG.1.1 h9 (by omega) k hk
  refine ⟨ho S (sp S) (ruO (S (sp S)) (S (nw S)) (M 5) 9), Sam_sp hL, fun Q => ?_⟩
  rw [c_ifRule (LQ_P hL).2 (by unfold tdR; omega) (by unfold tdR; omega) (by unfold tdR; omega) (fun _ j hj => TICK_c (hR j (by omega)).1) Q]
  rw [if_pos ⟨h5, by omega, ha⟩, if_pos ⟨h5, by omega, ha⟩]
  have q := (hR 9 (by omega)).1
  have eM : rtM M (M 5) 9 = pvM M 9 := by
    unfold rtM
    rw [up_id]
  rw [eM] at q
  have e9 : (9 : Int).toNat = 9 := rfl
  rw [e9]
  have ev : irW (ruO (S (sp S)) (S (nw S)) (M 5) 9) (S (nw S)) a = irM M a := by
    have p1 := s3_py q.1.2.2.2.1
    have p2 := s3_py hG.1.1.1.2.2.2.1
    have p3 := s3_aw q.1.2.2.2.1
    have p4 := s3_aw hG.1.1.1.2.2.2.1
    have p5 := (Q_paid q.1).1
    have p6 := (Q_paid hG.1.1.1).1
    have p7 := q.1.2.2.2.2.2.2.1.2.2.1.1
    unfold irW irM
    rw [p1, p2, p3, p4, p5, p6, p7]
  rw [ev]
set_option maxHeartbeats 4000000 in
set_option maxRecDepth 100000 in
theorem bsV_b (S : Hp) : ∀ j : Nat, (bsV S j).1 = -5 ∨ (0 ≤ (bsV S j).1 ∧ (bsV S j).1 < j)
  | 0 => Or.inl rfl
  | j + 1 => by
    have ih := bsV_b S j
    show (bsR (brX S (j + 1)) (S (nw S)) (j : Int) (bsV S j)).1 = -5 ∨ _
    have e : (bsV S (j + 1)).1 = (bsR (brX S (j + 1)) (S (nw S)) (j : Int) (bsV S j)).1 := rfl
    rw [e]
    unfold bsR
    dsimp only
    split
    · right; omega
    · omega
set_option maxHeartbeats 4000000 in
set_option maxRecDepth 100000 in
theorem r_best {S : Hp} {M : Int → Int} (hL : LQ S) (hG : GM (S (nw S)) M) : ∃ (T : Hp) (b : Int), Sam S T ∧ (-5 ≤ b ∧ b ≤ 2) ∧ ∀ Q : Option MV → Hp → Prop, Wc 84 [.inr (0, 23)] S Q = Q (some (.inl b)) T := by
  have h9 := hG.1.2.2
  have hb := bsV_b S 3
  refine ⟨ho S (sp S) (brX S 3), (bsV S 3).1, Sam_sp hL, by omega, fun Q => ?_⟩
  refine c_bestRule (LQ_P hL).2 (fun i hi => ?_) ?_ Q
  · have hR := fun k hk => RULE (X := brX S i) (r := (i : Int)) hG.1.1 h9 (by omega) k hk
    have q := (hR 99 (by omega)).1
    have hS : SP (rtM M (i : Int) 99) := by
      have e0 : up M 5 (i : Int) 0 = M 0 := up_ne (by decide)
      have hT1 := T1_rule (X := brX S i) hG.1.1 (show 0 ≤ (i : Int) ∧ (i : Int) < 3 by omega)
      have hs : SP (up M 5 (i : Int)) := by
        have := SP_set (w := 0) (v := (i : Int)) (by omega) hG.1.2.1
        exact this
      exact SP_e hs (DPe_ticks hT1 99 (by rw [e0]; omega))
    have e : brX S (i + 1) = ruO (brX S i) (S (nw S)) (i : Int) 99 := rfl
    have p1 := s3_py q.1.2.2.2.1
    have p7 := q.1.2.2.2.2.2.2.1.2.2.1
    have bt := be_b q hS
    have bp := pt_b (rtM M (i : Int) 99)
    refine ⟨fun j hj => TICK_c (hR j (by omega)).1, ?_, ?_⟩
    · rw [e, p7.1]
      unfold tdR
      omega
    · rw [e, p1, p7.2.1]
      exact bt.1
  · have p7 := hG.1.1.1.2.2.2.2.2.2.1.2.2.1
    have bp := pt_b M
    rw [p7.1]
    unfold tdR
    omega
