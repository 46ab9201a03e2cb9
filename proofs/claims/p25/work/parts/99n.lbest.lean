/-! THE LAW: the best rule -/
set_option maxHeartbeats 4000000 in
set_option maxRecDepth 100000 in
theorem pt_b (M : Int → Int) : 0 ≤ ptC M ∧ ptC M ≤ 600 := by
  have q := sm_b (f := fun k => ptI M (k : Int)) (c := 1) (by decide) 600 (fun k _ => by
    unfold ptI
    split <;> omega)
  unfold ptC
  exact ⟨q.1, by have := q.2; omega⟩
set_option maxHeartbeats 4000000 in
set_option maxRecDepth 100000 in
theorem be_b {O : Of} {M : Int → Int} (h : T1 O M) (hs : SP M) : tdR (pyS M - cbA M) ∧ 0 ≤ pyS M - cbA M := by
  have c := cb_py h.1 hs
  have p0 := h.2.2.1 0 (by omega) (by omega)
  have p1 := h.2.2.1 1 (by omega) (by omega)
  have p2 := h.2.2.1 2 (by omega) (by omega)
  have w0 := wt_b M 0
  have w1 := wt_b M 1
  have w2 := wt_b M 2
  have m0 := h.1.2.2.2.2.2.2.1.1.2
  simp only [Int.mul_zero, Int.mul_one, Int.add_zero, Int.reduceMul, Int.reduceAdd] at p0 p1 p2
  have e : pyS M = M 20 + M 35 + M 50 := rfl
  unfold tdR
  omega