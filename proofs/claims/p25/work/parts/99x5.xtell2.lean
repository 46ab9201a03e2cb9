/-! THE LAW: tell, whole; the law's calls of it -/
def rG (O : Of) (row : Int → Int) (p : Int → Prop) : Prop := ∀ i : Int, 0 ≤ i → i < 59 → p i → row i = TLO O i
set_option maxHeartbeats 4000000 in
set_option maxRecDepth 100000 in
theorem rG_up {O : Of} {row : Int → Int} {p q : Int → Prop} {z v : Int} (h : rG O row p) (hv : TLO O z = v) (hq : ∀ i : Int, q i → p i ∨ i = z) : rG O (up row z v) q := by
  intro i i1 i2 i3
  by_cases e : i = z
  · rw [up_eq e, e]; exact hv.symm
  · rw [up_ne e]
    rcases hq i i3 with g | g
    · exact h i i1 i2 g
    · exact absurd g e
section TELL
variable {S : Hp} {al : Nat} {M : Int → Int} {Q : Option MV → Hp → Prop}
set_option maxHeartbeats 4000000 in
set_option maxRecDepth 100000 in
theorem tl3 (hG : GM (S (nw S)) M) (h : ∀ row : Int → Int, (∀ k : Int, 0 ≤ k → k < 59 → row k = TLO (S (nw S)) k) → Q (some (.inr (al, 30))) (hr S al 30 row)) : ∀ d j : Nat, j + d = 6 → ∀ (row : Int → Int) (y : Option MV), rG (S (nw S)) row (fun i => i < 45 + 2 * j) → Wp 98 87 [some (.inr (0, 23)), some (.inr (al, 30)), some (.inl (j : Int)), y] [] (hr S al 30 row) Q := by
  intro d
  induction d with
  | zero =>
    intro j hj row y hr
    have e : (j : Int) = 6 := by omega
    rw [e]
    refine t3_end hG (h _ (fun k k1 k2 => ?_))
    have g1 : rG (S (nw S)) (up row 57 (ctS (S (nw S)))) (fun i => i < 58) := rG_up hr rfl (fun i hi => by (try dsimp only at hi ⊢); omega)
    have g2 : rG (S (nw S)) (up (up row 57 (ctS (S (nw S)))) 58 (shO (S (nw S)))) (fun i => i < 59) := rG_up g1 rfl (fun i hi => by (try dsimp only at hi ⊢); omega)
    exact g2 k k1 k2 k2
  | succ d ih =>
    intro j hj row y hr
    refine t3_step hG (by omega) ?_
    have g1 : rG (S (nw S)) (up row (45 + 2 * (j : Int)) (1000 * dtV (S (nw S)) j 1 + dtV (S (nw S)) j 7)) (fun i => i < 46 + 2 * j) := rG_up hr (by
      unfold TLO
      rw [if_neg (by omega), if_neg (by omega), if_neg (by omega), if_pos (by omega), if_pos (by omega)]
      have e : (45 + 2 * (j : Int) - 45) / 2 = j := by omega
      rw [e]) (fun i hi => by (try dsimp only at hi ⊢); omega)
    have g2 : rG (S (nw S)) (up (up row (45 + 2 * (j : Int)) (1000 * dtV (S (nw S)) j 1 + dtV (S (nw S)) j 7)) (46 + 2 * (j : Int)) (dtV (S (nw S)) j 3)) (fun i => i < 45 + 2 * ((j + 1 : Nat) : Int)) := rG_up g1 (by
      unfold TLO
      rw [if_neg (by omega), if_neg (by omega), if_neg (by omega), if_pos (by omega), if_neg (by omega)]
      have e : (46 + 2 * (j : Int) - 45) / 2 = j := by omega
      rw [e]) (fun i hi => by (try dsimp only at hi ⊢); omega)
    have q := ih (j + 1) (by omega) _ y g2
    rw [Int.natCast_add] at q
    exact q
set_option maxHeartbeats 4000000 in
set_option maxRecDepth 100000 in
theorem tl2i (hG : GM (S (nw S)) M) {j : Nat} (hj : j < 3) (h : ∀ (row : Int → Int) (y : Option MV), rG (S (nw S)) row (fun i => i < 12 + (j + 1) ∨ (15 ≤ i ∧ i < 15 + 10 * (j + 1))) → Wp 98 29 [some (.inr (0, 23)), some (.inr (al, 30)), some (.inl ((j : Int) + 1)), y] [] (hr S al 30 row) Q) : ∀ d a : Nat, a + d = 10 → ∀ row : Int → Int, rG (S (nw S)) row (fun i => i < 12 + (j + 1) ∨ (15 ≤ i ∧ i < 15 + 10 * j + a)) → Wp 98 50 [some (.inr (0, 23)), some (.inr (al, 30)), some (.inl (j : Int)), some (.inl (a : Int))] [] (hr S al 30 row) Q := by
  intro d
  induction d with
  | zero =>
    intro a ha row hr
    have e : (a : Int) = 10 := by omega
    rw [e]
    refine t2_next (fun y => h row y (fun i i1 i2 i3 => hr i i1 i2 ?_))
    (try dsimp only at i3 ⊢)
    omega
  | succ d ih =>
    intro a ha row hr
    refine t2_in hG (by omega) (by omega) ?_
    have g1 : rG (S (nw S)) (up row (15 + 10 * (j : Int) + (a : Int)) (if (a : Int) = 5 then mkV (S (nw S)) j else wtV (S (nw S)) j a)) (fun i => i < 12 + ((j : Int) + 1) ∨ (15 ≤ i ∧ i < 15 + 10 * (j : Int) + ((a + 1 : Nat) : Int))) := rG_up hr (by
      unfold TLO
      rw [if_neg (by omega), if_neg (by omega), if_pos (by omega)]
      have e : (15 + 10 * (j : Int) + (a : Int) - 15) / 10 = j := by omega
      have e2 : (15 + 10 * (j : Int) + (a : Int) - 15) % 10 = a := by omega
      rw [e, e2]) (fun i hi => by (try dsimp only at hi ⊢); omega)
    have q := ih (a + 1) (by omega) _ g1
    rw [Int.natCast_add] at q
    exact q
set_option maxHeartbeats 4000000 in
set_option maxRecDepth 100000 in
theorem tl2 (hG : GM (S (nw S)) M) (h : ∀ (row : Int → Int) (y : Option MV), rG (S (nw S)) row (fun i => i < 45) → Wp 98 87 [some (.inr (0, 23)), some (.inr (al, 30)), some (.inl 0), y] [] (hr S al 30 row) Q) : ∀ d j : Nat, j + d = 3 → ∀ (row : Int → Int) (y : Option MV), rG (S (nw S)) row (fun i => i < 12 + j ∨ (15 ≤ i ∧ i < 15 + 10 * j)) → Wp 98 29 [some (.inr (0, 23)), some (.inr (al, 30)), some (.inl (j : Int)), y] [] (hr S al 30 row) Q := by
  intro d
  induction d with
  | zero =>
    intro j hj row y hr
    have e : (j : Int) = 3 := by omega
    rw [e]
    refine t2_end (h row y (fun i i1 i2 i3 => hr i i1 i2 ?_))
    (try dsimp only at i3 ⊢)
    omega
  | succ d ih =>
    intro j hj row y hr
    refine t2_head (by omega) ?_
    have g1 : rG (S (nw S)) (up row (12 + (j : Int)) (S (nw S) 1 j)) (fun i => i < 12 + ((j : Int) + 1) ∨ (15 ≤ i ∧ i < 15 + 10 * (j : Int) + ((0 : Nat) : Int))) := rG_up hr (by
      unfold TLO
      rw [if_neg (by omega), if_pos (by omega)]
      have e : 12 + (j : Int) - 12 = j := by omega
      rw [e]) (fun i hi => by (try dsimp only at hi ⊢); omega)
    refine tl2i hG (by omega) (fun row y hr2 => ?_) 10 0 (by omega) _ g1
    have q := ih (j + 1) (by omega) row y (fun i i1 i2 i3 => hr2 i i1 i2 (by (try dsimp only at i3 ⊢); omega))
    rw [Int.natCast_add] at q
    exact q
set_option maxHeartbeats 4000000 in
set_option maxRecDepth 100000 in
theorem tl1 (hG : GM (S (nw S)) M) (h : ∀ (row : Int → Int) (y : Option MV), rG (S (nw S)) row (fun i => i < 12) → Wp 98 29 [some (.inr (0, 23)), some (.inr (al, 30)), some (.inl 0), y] [] (hr S al 30 row) Q) : ∀ d j : Nat, j + d = 12 → ∀ (row : Int → Int) (y : Option MV), rG (S (nw S)) row (fun i => i < j) → Wp 98 7 [some (.inr (0, 23)), some (.inr (al, 30)), some (.inl (j : Int)), y] [] (hr S al 30 row) Q := by
  intro d
  induction d with
  | zero =>
    intro j hj row y hr
    have e : (j : Int) = 12 := by omega
    rw [e]
    refine t1_end (h row y (fun i i1 i2 i3 => hr i i1 i2 ?_))
    (try dsimp only at i3 ⊢)
    omega
  | succ d ih =>
    intro j hj row y hr
    refine t1_step hG (by omega) ?_
    have g1 : rG (S (nw S)) (up row (j : Int) (toV (S (nw S)) j)) (fun i => i < ((j + 1 : Nat) : Int)) := rG_up hr (by
      unfold TLO
      rw [if_pos (by omega)]) (fun i hi => by (try dsimp only at hi ⊢); omega)
    have q := ih (j + 1) (by omega) _ y g1
    rw [Int.natCast_add] at q
    exact q
set_option maxHeartbeats 4000000 in
set_option maxRecDepth 100000 in
theorem TELL (hG : GM (S (nw S)) M) (h : ∀ row : Int → Int, (∀ k : Int, 0 ≤ k → k < 59 → row k = TLO (S (nw S)) k) → Q (some (.inr (al, 30))) (hr S al 30 row)) : Wp 98 5 [some (.inr (0, 23)), some (.inr (al, 30)), none, none] [] S Q := by
  have e : S = hr S al 30 (S al 30) := (hr_id S al 30).symm
  refine vg_sound (fun m pc => (m == 98 && pc == 7)) (fun m => m == 98) 10 _ _ _ _ _ _ ?_
  repeat' first | (with_reducible refine vT ?_ ?_; · omega) | (with_reducible refine vF ?_ ?_; · omega) | (with_reducible refine vI (fun _ => ?_) (fun _ => ?_)) | (simp (config := {maxSteps := 1000000}) only [f_L_tell, wg_0, wg_s, wK_none, wK_N, wK_C, wK_R, wQ_some, wQ_none, stR, mZ, mC, stI, ini, mL, gI, gA, sI, sA, bi, gF, pF, kF, kT, kL, c2, mT, mR, f4, tsw, lsw, tgt, inR, Nat.reduceLT, Nat.reduceLeDiff, Nat.reduceEqDiff, Nat.reduceAdd, Nat.reduceSub, ↓reduceIte, Bool.false_eq_true, List.map_cons, List.map_nil, List.length_cons, List.length_nil, List.replicate, List.cons_append, List.nil_append, List.getElem?_cons_zero, List.getElem?_cons_succ, List.set, List.take_succ_cons, List.take_zero, List.drop_succ_cons, List.drop_zero, List.reverse_cons, List.reverse_nil, Int.reduceLE, Int.reduceLT, Int.reduceNeg, Int.reduceToNat, true_and, and_true, and_self, beq_iff_eq, Bool.and_eq_true, Bool.or_eq_true, or_false, false_or, or_true, true_or, and_false, false_and, hu_hr, hr_hr, hr_at, hr_nc, not_false_eq_true, Int.reduceEq, Int.pow_zero, Int.reducePow, Int.reduceMul, Int.reduceAdd, Int.reduceDiv, Int.reduceMod, Int.zero_add, Int.add_zero, Int.mul_one, Int.cast_ofNat_Int])
  have g := tl1 (al := al) (Q := Q) hG (fun row y hr => tl2 hG (fun row y hr => tl3 hG h 6 0 (by omega) row y (fun i i1 i2 i3 => hr i i1 i2 (by (try dsimp only at i3 ⊢); omega))) 3 0 (by omega) row y (fun i i1 i2 i3 => hr i i1 i2 (by (try dsimp only at i3 ⊢); omega))) 12 0 (by omega) (S al 30) none (fun i i1 i2 i3 => by dsimp only at i3; omega)
  rw [hr_id] at g
  exact g
end TELL
/- the law calls it -/
set_option maxHeartbeats 4000000 in
set_option maxRecDepth 100000 in
theorem zr_hr (S : Hp) (al : Nat) (f : Int → Int) : hr (zr S al) al 30 f = hr S al 30 f := by
  funext k c
  unfold hr zr
  split <;> rfl
set_option maxHeartbeats 4000000 in
set_option maxRecDepth 100000 in
theorem zr_LQ {S : Hp} {al : Nat} {M : Int → Int} (hG : GM (S (nw S)) M) : GM (zr S al (nw (zr S al))) M ∧ nw (zr S al) = nw S ∧ ∀ k c : Nat, ¬ c = 30 → zr S al k c = S k c := by
  have e : ∀ k c : Nat, ¬ c = 30 → zr S al k c = S k c := fun k c h => zr_nc h
  have en : nw (zr S al) = nw S := by unfold nw; rw [e 0 23 (by decide)]
  refine ⟨?_, en, e⟩
  rw [en]
  exact GM_sc (fun c hc => e (nw S) c (by omega)) hG
set_option maxHeartbeats 4000000 in
set_option maxRecDepth 100000 in
theorem LTELL {P : PT} {kk al pc i r3 : Nat} {L : Lc} {st : List MV} {S : Hp} {M : Int → Int} (hC : mC 0 pc = some (.invokestatic i, 3, 98, 1, r3, 0)) (hpz : pc < mZ 0) (h8 : st.length ≤ 8) (hG : GM (S (nw S)) M)
    (h : ∀ row : Int → Int, (∀ k : Int, 0 ≤ k → k < 59 → row k = TLO (S (nw S)) k) → LW P kk (al + 1) (pc + 3) L (.inr (al, 30) :: st) (hr S al 30 row)) :
    LW P (kk + 1) al pc L (.inr (0, 23) :: st) S := by
  refine LW_tell hC hpz h8 ?_
  obtain ⟨g1, g2, g3⟩ := zr_LQ (al := al) hG
  refine TELL g1 (fun row hrow => ⟨rfl, ?_⟩)
  rw [zr_hr]
  refine h row (fun k k1 k2 => ?_)
  rw [hrow k k1 k2]
  exact TLO_eq g1.1.1 hG.1.1 ⟨k1, k2⟩
