/-! THE LAW: the start -/
set_option maxHeartbeats 4000000 in
set_option maxRecDepth 100000 in
theorem SI_31 (k : Nat) {j : Int} (h : ¬ j = 1 ∧ ¬ j = 6 ∧ ¬ j = 7) : SI k 31 j = 0 := by
  show (if j = 1 then (1 : Int) else if j = 6 then 3 else if j = 7 then 12 else 0) = 0
  rw [if_neg h.1, if_neg h.2.1, if_neg h.2.2]
set_option maxHeartbeats 4000000 in
set_option maxRecDepth 100000 in
theorem LR_start (hT : T1 (SI 0) (SI 0 31)) (L : Nat) (xs : Nat → Int32) : LRel (SL L xs) := by
  have e : ∀ k c : Nat, ¬ c = 40 → ¬ c = 41 → SL L xs k c = SI k c := fun k c q1 q2 => by
    funext j
    unfold SL
    rw [if_neg q1, if_neg q2]
  have hs : SP (SI 0 31) := fun v v1 v2 => by
    have z : ∀ k : Nat, pyI (SI 0 31) v (k : Int) = 0 := fun k => by
      unfold pyI
      rw [SI_31 0 (by omega)]
      rfl
    have q := sm_b (f := fun k => pyI (SI 0 31) v (k : Int)) (c := 0) (by decide) 600 (fun k _ => by rw [z k]; omega)
    unfold dP
    rw [SI_31 0 (by omega)]
    omega
  have tnw : nw (SL L xs) = 0 := by
    unfold nw
    rw [e 0 23 (by decide) (by decide)]
    rfl
  unfold LRel TxL
  rw [tnw, e 0 23 (by decide) (by decide), e 0 24 (by decide) (by decide), e 0 30 (by decide) (by decide), e 0 34 (by decide) (by decide), e 0 32 (by decide) (by decide), e 0 29 (by decide) (by decide), e 0 35 (by decide) (by decide), e 0 25 (by decide) (by decide), e 0 31 (by decide) (by decide)]
  have z3 : SI 0 23 3 = 0 := rfl
  have z5 : SI 0 23 5 = 0 := rfl
  have a3 : ∀ k : Int, SI 0 24 k = 3 + k := fun k => rfl
  have c0 : SI 0 23 0 = 0 := rfl
  have c1 : SI 0 23 1 = 1 := rfl
  have d0 : SI 0 30 = fun _ => 0 := rfl
  have d1 : SI 0 35 = fun _ => 0 := rfl
  refine ⟨⟨by omega, rfl⟩, ⟨⟨by omega, by omega, fun k k1 k2 => by rw [a3]; omega⟩, ⟨by omega, by omega, fun k k1 k2 => by rw [a3]; omega⟩, by omega, fun k k1 k2 => by rw [a3, c0, c1]; omega, fun j k j1 j2 k2 => by rw [a3, a3]; omega⟩, Ok1_sc (fun c hc => e 0 c (by omega) (by omega)) (fun _ _ _ => rfl) ⟨hT, hs, by rw [SI_31 0 (by omega)]; omega⟩, fun k k1 k2 => by omega, ⟨Or.inl rfl, rfl, fun q => by omega⟩, rfl, rfl, ?_, fun i i1 i2 => ?_, ?_, ?_⟩
  · rw [d0]; dsimp only; omega
  · rw [d1]; dsimp only; omega
  · rw [d0]; dsimp only; unfold tdR; omega
  · rw [d0]; dsimp only; unfold tdR; omega
