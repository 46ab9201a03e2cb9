/-! PURE: rows, counts, bits, loops -/
def up (f : Int → Int) (i v : Int) : Int → Int := fun j => if j = i then v else f j
set_option maxHeartbeats 4000000 in
set_option maxRecDepth 100000 in
theorem up_eq {f : Int → Int} {i v j : Int} (h : j = i) : up f i v j = v := if_pos h
set_option maxHeartbeats 4000000 in
set_option maxRecDepth 100000 in
theorem up_ne {f : Int → Int} {i v j : Int} (h : ¬ j = i) : up f i v j = f j := if_neg h
/- a row of the heap put -/
def hr (S : Hp) (k c : Nat) (f : Int → Int) : Hp := fun k' c' => if k' = k ∧ c' = c then f else S k' c'
set_option maxHeartbeats 4000000 in
set_option maxRecDepth 100000 in
theorem hu_hr (S : Hp) (k c : Nat) (j v : Int) : hu S k c j v = hr S k c (up (S k c) j v) := by
  funext k' c' j'
  unfold hu hr up
  by_cases h : k' = k ∧ c' = c
  · obtain ⟨rfl, rfl⟩ := h
    by_cases h2 : j' = j <;> simp [h2]
  · rw [if_neg (fun q => h ⟨q.1, q.2.1⟩), if_neg h]
set_option maxHeartbeats 4000000 in
set_option maxRecDepth 100000 in
theorem hr_at (S : Hp) (k c : Nat) (f : Int → Int) : hr S k c f k c = f := by unfold hr; rw [if_pos ⟨rfl, rfl⟩]
set_option maxHeartbeats 4000000 in
set_option maxRecDepth 100000 in
theorem hr_nc {S : Hp} {k c k' c' : Nat} {f : Int → Int} (h : ¬ c' = c) : hr S k c f k' c' = S k' c' := by unfold hr; rw [if_neg (fun q => h q.2)]
set_option maxHeartbeats 4000000 in
set_option maxRecDepth 100000 in
theorem hr_nk {S : Hp} {k c k' c' : Nat} {f : Int → Int} (h : ¬ k' = k) : hr S k c f k' c' = S k' c' := by unfold hr; rw [if_neg (fun q => h q.1)]
set_option maxHeartbeats 4000000 in
set_option maxRecDepth 100000 in
theorem hr_hr (S : Hp) (k c : Nat) (f g : Int → Int) : hr (hr S k c f) k c g = hr S k c g := by
  funext k' c'
  unfold hr
  split <;> rfl
set_option maxHeartbeats 4000000 in
set_option maxRecDepth 100000 in
theorem hr_id (S : Hp) (k c : Nat) : hr S k c (S k c) = S := by
  funext k' c'
  unfold hr
  split
  · next h => rw [h.1, h.2]
  · rfl
/- a counting -/
def ct (p : Nat → Bool) : Nat → Int
  | 0 => 0
  | n + 1 => ct p n + (if p n = true then 1 else 0)
set_option maxHeartbeats 4000000 in
set_option maxRecDepth 100000 in
theorem ct_s (p : Nat → Bool) (n : Nat) : ct p (n + 1) = ct p n + (if p n = true then 1 else 0) := rfl
set_option maxHeartbeats 4000000 in
set_option maxRecDepth 100000 in
theorem ct_le (p : Nat → Bool) : ∀ n, 0 ≤ ct p n ∧ ct p n ≤ n
  | 0 => ⟨Int.le_refl _, Int.le_refl _⟩
  | n + 1 => by
    have h := ct_le p n
    rw [ct_s]
    split <;> omega
set_option maxHeartbeats 4000000 in
set_option maxRecDepth 100000 in
theorem ct_congr {p q : Nat → Bool} : ∀ {n : Nat}, (∀ k, k < n → p k = q k) → ct p n = ct q n
  | 0, _ => rfl
  | n + 1, h => by rw [ct_s, ct_s, ct_congr (fun k hk => h k (by omega)), h n (by omega)]
set_option maxHeartbeats 4000000 in
set_option maxRecDepth 100000 in
theorem ct_upd (p : Nat → Bool) (b : Bool) {i : Nat} : ∀ {n : Nat}, i < n → ct (fun k => if k = i then b else p k) n = ct p n - (if p i = true then 1 else 0) + (if b = true then 1 else 0)
  | 0, h => absurd h (Nat.not_lt_zero i)
  | n + 1, h => by
    rw [ct_s, ct_s]
    rcases Nat.lt_or_ge i n with q | q
    · rw [ct_upd p b q]
      have hn : ¬ n = i := by omega
      simp only [hn, if_false]
      omega
    · obtain rfl : i = n := by omega
      rw [ct_congr (q := p) (fun k hk => by
        have hn : ¬ k = i := by omega
        simp only [hn, if_false])]
      simp only [if_true]
      omega
set_option maxHeartbeats 4000000 in
set_option maxRecDepth 100000 in
theorem ct_mono {p q : Nat → Bool} : ∀ {n : Nat}, (∀ k, k < n → p k = true → q k = true) → ct p n ≤ ct q n
  | 0, _ => Int.le_refl _
  | n + 1, h => by
    have h1 := ct_mono (p := p) (q := q) (n := n) (fun k hk => h k (by omega))
    have h2 := h n (by omega)
    rw [ct_s, ct_s]
    by_cases h3 : p n = true
    · rw [if_pos h3, if_pos (h2 h3)]; omega
    · rw [if_neg h3]; split <;> omega
set_option maxHeartbeats 4000000 in
set_option maxRecDepth 100000 in
theorem ct_pos {p : Nat → Bool} {i n : Nat} (hi : i < n) (h : p i = true) : 0 < ct p n := by
  have h1 := ct_upd p false hi
  have h2 := (ct_le (fun k => if k = i then false else p k) n).1
  rw [h, h1] at *
  simp only [if_true] at h2
  simp at h2
  omega
/- a sum -/
def sm (f : Nat → Int) : Nat → Int
  | 0 => 0
  | n + 1 => sm f n + f n
set_option maxHeartbeats 4000000 in
set_option maxRecDepth 100000 in
theorem sm_s (f : Nat → Int) (n : Nat) : sm f (n + 1) = sm f n + f n := rfl
set_option maxHeartbeats 4000000 in
set_option maxRecDepth 100000 in
theorem sm_congr {f g : Nat → Int} : ∀ {n : Nat}, (∀ k, k < n → f k = g k) → sm f n = sm g n
  | 0, _ => rfl
  | n + 1, h => by rw [sm_s, sm_s, sm_congr (fun k hk => h k (by omega)), h n (by omega)]
set_option maxHeartbeats 4000000 in
set_option maxRecDepth 100000 in
theorem sm_upd (f : Nat → Int) (v : Int) {i : Nat} : ∀ {n : Nat}, i < n → sm (fun k => if k = i then v else f k) n = sm f n - f i + v
  | 0, h => absurd h (Nat.not_lt_zero i)
  | n + 1, h => by
    rw [sm_s, sm_s]
    rcases Nat.lt_or_ge i n with q | q
    · rw [sm_upd f v q]
      have hn : ¬ n = i := by omega
      simp only [hn, if_false]
      omega
    · obtain rfl : i = n := by omega
      rw [sm_congr (g := f) (fun k hk => by
        have hn : ¬ k = i := by omega
        simp only [hn, if_false])]
      simp only [if_true]
      omega
/- a counted loop of the small machine -/
set_option maxHeartbeats 4000000 in
set_option maxRecDepth 100000 in
theorem wp_loop {mi pc : Nat} {Q : Option MV → Hp → Prop} (Lf : Nat → Lc) (Sf : Nat → Hp) (N : Nat) (hs : ∀ j, j < N → Wp mi pc (Lf (j + 1)) [] (Sf (j + 1)) Q → Wp mi pc (Lf j) [] (Sf j) Q) (he : Wp mi pc (Lf N) [] (Sf N) Q) : ∀ j, j ≤ N → Wp mi pc (Lf j) [] (Sf j) Q := by
  intro j hj
  obtain ⟨d, rfl⟩ : ∃ d, N = j + d := ⟨N - j, by omega⟩
  induction d generalizing j with
  | zero => exact he
  | succ d ih =>
    refine hs j (by omega) ?_
    have e : j + (d + 1) = j + 1 + d := by omega
    rw [e] at hs he
    exact ih (j + 1) hs he (by omega)
/- the end is one: what holds of it with one Q says all -/
set_option maxHeartbeats 4000000 in
set_option maxRecDepth 100000 in
theorem wp_det {mi pc : Nat} {L : Lc} {st : List MV} {S S' : Hp} {v : Option MV} {Q : Option MV → Hp → Prop} (h : Wp mi pc L st S (fun r T => r = v ∧ T = S')) (hq : Q v S') : Wp mi pc L st S Q := h.mono (fun r T e => by rw [e.1, e.2]; exact hq)
set_option maxHeartbeats 4000000 in
set_option maxRecDepth 100000 in
theorem iT {c : Prop} {d : Decidable c} {P R : Prop} (hc : c) (h : P) : @ite _ c d P R := by rw [if_pos hc]; exact h
set_option maxHeartbeats 4000000 in
set_option maxRecDepth 100000 in
theorem iF {c : Prop} {d : Decidable c} {P R : Prop} (hc : ¬ c) (h : R) : @ite _ c d P R := by rw [if_neg hc]; exact h
set_option maxHeartbeats 4000000 in
set_option maxRecDepth 100000 in
theorem iB {c : Prop} {d : Decidable c} {P R : Prop} (h1 : c → P) (h2 : ¬ c → R) : @ite _ c d P R := by
  by_cases hc : c
  · rw [if_pos hc]; exact h1 hc
  · rw [if_neg hc]; exact h2 hc
set_option maxHeartbeats 4000000 in
set_option maxRecDepth 100000 in
theorem bA (a b : Nat) (ha : a < 2147483648) : bAnd a b = ((a &&& b : Nat) : Int) := by
  unfold bAnd
  rw [oi_nI, oi_nI]
  have e : nI a &&& nI b = nI (a &&& b) := by
    apply Int32.toBitVec_inj.1
    show BitVec.ofNat 32 a &&& BitVec.ofNat 32 b = BitVec.ofNat 32 (a &&& b)
    apply BitVec.eq_of_getLsbD_eq
    intro i hi
    simp [hi]
  rw [e, nI_toInt (Nat.lt_of_le_of_lt Nat.and_le_left ha)]
set_option maxHeartbeats 4000000 in
set_option maxRecDepth 100000 in
theorem bO (a b : Nat) (ha : a < 2147483648) (hb : b < 2147483648) : bOr a b = ((a ||| b : Nat) : Int) := by
  unfold bOr
  rw [oi_nI, oi_nI]
  have e : nI a ||| nI b = nI (a ||| b) := by
    apply Int32.toBitVec_inj.1
    show BitVec.ofNat 32 a ||| BitVec.ofNat 32 b = BitVec.ofNat 32 (a ||| b)
    apply BitVec.eq_of_getLsbD_eq
    intro i hi
    simp [hi]
  rw [e, nI_toInt (Nat.or_lt_two_pow (n := 31) ha hb)]
set_option maxHeartbeats 4000000 in
set_option maxRecDepth 100000 in
theorem bX (a b : Nat) (ha : a < 2147483648) (hb : b < 2147483648) : bXor a b = ((a ^^^ b : Nat) : Int) := by
  unfold bXor
  rw [oi_nI, oi_nI]
  have e : nI a ^^^ nI b = nI (a ^^^ b) := by
    apply Int32.toBitVec_inj.1
    show BitVec.ofNat 32 a ^^^ BitVec.ofNat 32 b = BitVec.ofNat 32 (a ^^^ b)
    apply BitVec.eq_of_getLsbD_eq
    intro i hi
    simp [hi]
  rw [e, nI_toInt (Nat.xor_lt_two_pow (n := 31) ha hb)]
/- the last bit -/
set_option maxHeartbeats 4000000 in
set_option maxRecDepth 100000 in
theorem and1 {z : Int} (h : 0 ≤ z) (h2 : z < 2147483648) : bAnd z 1 = z % 2 := by
  obtain ⟨a, rfl⟩ : ∃ a : Nat, z = a := ⟨z.toNat, by omega⟩
  have e := bA a 1 (by omega)
  rw [Nat.and_one_is_mod] at e
  rw [show (1 : Int) = ((1 : Nat) : Int) from rfl, e]
  omega
/- a call -/
def Wc (m : Nat) (as : List MV) (S : Hp) (Q : Option MV → Hp → Prop) : Prop := Wp m 0 (ini m as) [] S Q
set_option maxHeartbeats 4000000 in
set_option maxRecDepth 100000 in
theorem vK_Wc (F : Nat → Nat → Lc → List MV → Hp → (Option MV → Hp → Prop) → Prop) (nl : Nat → Bool) (mi : Nat) (Q : Option MV → Hp → Prop) (pc : Nat) (L : Lc) (st : List MV) (S : Hp) (m : Nat) (as : List MV) : vK F nl mi Q (rC m as pc L st S) = if nl m = true then F m 0 (ini m as) [] S (vQ F mi pc L st Q) else Wc m as S (vQ F mi pc L st Q) := rfl
set_option maxHeartbeats 4000000 in
set_option maxRecDepth 100000 in
theorem Wc_eq {m : Nat} {as : List MV} {S S' : Hp} {v : Option MV} (h : Wc m as S (fun r T => r = v ∧ T = S')) (Q : Option MV → Hp → Prop) : Wc m as S Q = Q v S' := by
  refine propext ⟨fun hq => ?_, fun hq => Wp.mono h (fun r T e => by rw [e.1, e.2]; exact hq)⟩
  obtain ⟨n, r, T, h1, rfl, rfl⟩ := h
  obtain ⟨k, r2, T2, h2, h3⟩ := hq
  have e1 := ex_le (Nat.le_max_left n k) h1
  have e2 := ex_le (Nat.le_max_right n k) h2
  rw [e1] at e2
  cases e2
  exact h3
set_option maxHeartbeats 4000000 in
set_option maxRecDepth 100000 in
theorem vO {F : Nat → Nat → Lc → List MV → Hp → (Option MV → Hp → Prop) → Prop} {nl : Nat → Bool} {mi : Nat} {Q : Option MV → Hp → Prop} {c : Prop} {d : Decidable c} {a : Option Rs} (hc : c) (h : vK F nl mi Q a) : vK F nl mi Q (@ite _ c d a none) := by
  rw [if_pos hc]; exact h
set_option maxHeartbeats 4000000 in
set_option maxRecDepth 100000 in
theorem vI {F : Nat → Nat → Lc → List MV → Hp → (Option MV → Hp → Prop) → Prop} {nl : Nat → Bool} {mi : Nat} {Q : Option MV → Hp → Prop} {c : Prop} {d : Decidable c} {a b : Option Rs} (h1 : c → vK F nl mi Q a) (h2 : ¬ c → vK F nl mi Q b) : vK F nl mi Q (@ite _ c d a b) := by
  by_cases hc : c
  · rw [if_pos hc]; exact h1 hc
  · rw [if_neg hc]; exact h2 hc
set_option maxHeartbeats 4000000 in
set_option maxRecDepth 100000 in
theorem wp_for {mi pc : Nat} {Q : Option MV → Hp → Prop} {L : Lc} {S : Hp} (Lf : Nat → Lc) (Sf : Nat → Hp) (N : Nat) (hL : L = Lf 0) (hS : S = Sf 0) (hs : ∀ j, j < N → Wp mi pc (Lf (j + 1)) [] (Sf (j + 1)) Q → Wp mi pc (Lf j) [] (Sf j) Q) (he : Wp mi pc (Lf N) [] (Sf N) Q) : Wp mi pc L [] S Q := by
  rw [hL, hS]
  exact wp_loop Lf Sf N hs he 0 (Nat.zero_le N)
section WG
variable (F : Nat → Nat → Lc → List MV → Hp → (Option MV → Hp → Prop) → Prop) (ct : Nat → Nat → Bool) (nl : Nat → Bool) (n mi : Nat) (Q : Option MV → Hp → Prop) (pc : Nat) (L : Lc) (st : List MV) (S : Hp)
set_option maxHeartbeats 4000000 in
set_option maxRecDepth 100000 in
theorem wg_0 : vg ct nl 0 mi pc L st S Q = Wp mi pc L st S Q := propext ⟨fun h => h, fun h => h⟩
set_option maxHeartbeats 4000000 in
set_option maxRecDepth 100000 in
theorem wg_s : vg ct nl (n + 1) mi pc L st S Q = if ct mi pc = true then Wp mi pc L st S Q else vK (vg ct nl n) nl mi Q (stR mi pc L st S) := propext ⟨fun h => h, fun h => h⟩
set_option maxHeartbeats 4000000 in
set_option maxRecDepth 100000 in
theorem wQ_some (v : MV) : vQ F mi pc L st Q (some v) S = F mi pc L (v :: st) S Q := propext ⟨fun h => h, fun h => h⟩
set_option maxHeartbeats 4000000 in
set_option maxRecDepth 100000 in
theorem wQ_none : vQ F mi pc L st Q none S = F mi pc L st S Q := propext ⟨fun h => h, fun h => h⟩
set_option maxHeartbeats 4000000 in
set_option maxRecDepth 100000 in
theorem wK_none : vK F nl mi Q none = False := propext ⟨fun h => h, fun h => h⟩
set_option maxHeartbeats 4000000 in
set_option maxRecDepth 100000 in
theorem wK_N : vK F nl mi Q (rN pc L st S) = F mi pc L st S Q := propext ⟨fun h => h, fun h => h⟩
set_option maxHeartbeats 4000000 in
set_option maxRecDepth 100000 in
theorem wK_C (m : Nat) (as : List MV) : vK F nl mi Q (rC m as pc L st S) = if nl m = true then F m 0 (ini m as) [] S (vQ F mi pc L st Q) else Wc m as S (vQ F mi pc L st Q) := propext ⟨fun h => h, fun h => h⟩
set_option maxHeartbeats 4000000 in
set_option maxRecDepth 100000 in
theorem wK_R (v : Option MV) : vK F nl mi Q (rR v S) = Q v S := propext ⟨fun h => h, fun h => h⟩
end WG
set_option maxHeartbeats 4000000 in
set_option maxRecDepth 100000 in
theorem vT {F : Nat → Nat → Lc → List MV → Hp → (Option MV → Hp → Prop) → Prop} {nl : Nat → Bool} {mi : Nat} {Q : Option MV → Hp → Prop} {c : Prop} {d : Decidable c} {a b : Option Rs} (hc : c) (h : vK F nl mi Q a) : vK F nl mi Q (@ite _ c d a b) := by
  rw [if_pos hc]; exact h
set_option maxHeartbeats 4000000 in
set_option maxRecDepth 100000 in
theorem vF {F : Nat → Nat → Lc → List MV → Hp → (Option MV → Hp → Prop) → Prop} {nl : Nat → Bool} {mi : Nat} {Q : Option MV → Hp → Prop} {c : Prop} {d : Decidable c} {a b : Option Rs} (hc : ¬ c) (h : vK F nl mi Q b) : vK F nl mi Q (@ite _ c d a b) := by
  rw [if_neg hc]; exact h
