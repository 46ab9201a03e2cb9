/-! PURE: small things that both the class and the reference want (out of parts 21 .. 38 of whole) -/
set_option maxHeartbeats 4000000 in
set_option maxRecDepth 100000 in
theorem up_ap (f : Int → Int) (i v j : Int) : up f i v j = if j = i then v else f j := rfl
set_option maxHeartbeats 4000000 in
set_option maxRecDepth 100000 in
theorem up_id (f : Int → Int) (i : Int) : up f i (f i) = f := by
  funext j
  unfold up
  split
  · next h => rw [h]
  · rfl
def shr (c : Int) : Int := if c = 1 then 40 else if c = 2 then 30 else 20
def clN (i w : Int) : Int := if i = w then 1 else if i / 10 = w / 10 then 2 else if i % 10 = w % 10 then 3 else 0
def bt3 (z : Int) : Int := z % 2 + z / 2 % 2 + z / 4 % 2
def cpF (f g : Int → Int) (n : Int) : Int → Int := fun j => if 0 ≤ j ∧ j < n then g j else f j
set_option maxHeartbeats 4000000 in
set_option maxRecDepth 100000 in
theorem cpF_in {f g : Int → Int} {n j : Int} (h : 0 ≤ j ∧ j < n) : cpF f g n j = g j := if_pos h
def mstC (w : Int) : Int := if w = 0 then 2 else if w = 1 then 9 else 20
abbrev setOk (w v : Int) : Prop := (0 ≤ w ∧ w ≤ 2) ∧ (if w = 0 then 0 else 1) ≤ v ∧ v ≤ mstC w
def tdR (r : Int) : Prop := -2147483648 ≤ r ∧ r < 2147483648
set_option maxHeartbeats 4000000 in
set_option maxRecDepth 100000 in
theorem tsw_o {L : Lc} {st : List MV} {S : Hp} {pc : Nat} {d z : Int} {os : List Int} (h : z < 0 ∨ (os.length : Int) ≤ z) : tsw L st S pc d z 0 os = rN (tgt pc d) L st S := by
  have key : ∀ (l : List Int) (c : Int), (z < c ∨ c + (l.length : Int) ≤ z) → tsw L st S pc d z c l = rN (tgt pc d) L st S := by
    intro l
    induction l with
    | nil => intro c _; rfl
    | cons o l ih =>
      intro c hc
      rw [List.length_cons] at hc
      show (if z = c then _ else _) = _
      rw [if_neg (by omega)]
      exact ih (c + 1) (by omega)
  refine key _ 0 ?_
  omega
