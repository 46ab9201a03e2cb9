/-! THE SMALL MACHINE: values are numbers (any Int stands for its Int32) and references (copy, comp); the heap is a function of copy, comp and place. -/
abbrev MV : Type := Int ⊕ (Nat × Nat)
abbrev Lc : Type := List (Option MV)
abbrev Hp : Type := Nat → Nat → Int → Int
abbrev inR (z : Int) : Prop := -2147483648 ≤ z ∧ z < 2147483648
def hu (S : Hp) (k c : Nat) (j v : Int) : Hp := fun k' c' j' => if k' = k ∧ c' = c ∧ j' = j then v else S k' c' j'
def hcp (S : Hp) (k1 c1 : Nat) (sp : Int) (k2 c2 : Nat) (dp n : Int) : Hp := fun k c j => if k = k2 ∧ c = c2 ∧ dp ≤ j ∧ j < dp + n then S k1 c1 (sp + (j - dp)) else S k c j
def bAnd (u v : Int) : Int := (Int32.ofInt u &&& Int32.ofInt v).toInt
def bOr (u v : Int) : Int := (Int32.ofInt u ||| Int32.ofInt v).toInt
def bXor (u v : Int) : Int := (Int32.ofInt u ^^^ Int32.ofInt v).toInt
/-- the static rows -/
def sv (c : Nat) (i : Int) : Int :=
  if c = 36 then (if i = 1 then 3 else if i = 2 then 12 else 0)
  else if c = 37 then (if i = 0 then 0 else 1)
  else if c = 38 then (if i = 0 then 2 else if i = 1 then 9 else 20)
  else (if i = 0 then 0 else if i = 1 then 40 else if i = 2 then 30 else 20)
def tgt (pc : Nat) (off : Int) : Nat := if 0 ≤ off then pc + off.toNat else pc - (-off).toNat
abbrev Rn : Type := Nat × Lc × List MV × Hp
abbrev Rs : Type := Rn ⊕ ((Nat × List MV × Rn) ⊕ (Option MV × Hp))
def rN (pc : Nat) (L : Lc) (st : List MV) (S : Hp) : Option Rs := some (.inl (pc, L, st, S))
def rC (m : Nat) (as : List MV) (pc : Nat) (L : Lc) (st : List MV) (S : Hp) : Option Rs := some (.inr (.inl (m, as, pc, L, st, S)))
def rR (v : Option MV) (S : Hp) : Option Rs := some (.inr (.inr (v, S)))
def tsw (L : Lc) (st : List MV) (S : Hp) (pc : Nat) (d z : Int) : Int → List Int → Option Rs
  | _, [] => rN (tgt pc d) L st S
  | c, o :: os => if z = c then rN (tgt pc o) L st S else tsw L st S pc d z (c + 1) os
def lsw (L : Lc) (st : List MV) (S : Hp) (pc : Nat) (d z : Int) : List (Int × Int) → Option Rs
  | [] => rN (tgt pc d) L st S
  | (k, o) :: os => if z = k then rN (tgt pc o) L st S else lsw L st S pc d z os
def c2 (t f : Option Rs) (u v : Int) : Jvm.ClassFile.Cond → Option Rs
  | .eq => if u = v then t else if inR u ∧ inR v then f else none
  | .ne => if u = v then f else if inR u ∧ inR v then t else none
  | .lt => if inR u ∧ inR v then (if u < v then t else f) else none
  | .ge => if inR u ∧ inR v then (if u < v then f else t) else none
  | .gt => if inR u ∧ inR v then (if v < u then t else f) else none
  | .le => if inR u ∧ inR v then (if v < u then f else t) else none
def gI (L : Lc) (i : Nat) (f : Int → Option Rs) : Option Rs := match L[i]? with
  | some (some (.inl z)) => f z
  | _ => none
def gA (L : Lc) (i : Nat) (f : Nat × Nat → Option Rs) : Option Rs := match L[i]? with
  | some (some (.inr z)) => f z
  | _ => none
def sI (L : Lc) (i : Nat) (st : List MV) (f : Lc → List MV → Option Rs) : Option Rs := match st with
  | .inl z :: st => if i < L.length then f (L.set i (some (.inl z))) st else none
  | _ => none
def sA (L : Lc) (i : Nat) (st : List MV) (f : Lc → List MV → Option Rs) : Option Rs := match st with
  | .inr z :: st => if i < L.length then f (L.set i (some (.inr z))) st else none
  | _ => none
def f4 : Fin 4 → Nat
  | 0 => 0
  | 1 => 1
  | 2 => 2
  | 3 => 3
theorem f4_val : ∀ i : Fin 4, f4 i = i.val := by decide
/-- a binary operation on numbers -/
def bi (st : List MV) (f : Int → Int → List MV → Option Rs) : Option Rs := match st with
  | .inl v :: .inl u :: st => f u v st
  | _ => none
def gF (k c j : Nat) (S : Hp) (f : MV → Option Rs) : Option Rs := match (kF c)[j]? with
  | none => none
  | some 0 => f (.inl (S k c j))
  | some 1 => f (.inl (S k c j))
  | some 2 => f (.inr ((S k c j).toNat, 0))
  | some q => if q < 100 then f (.inr (k, q - 10)) else f (.inr (q - 100, 0))
def pF (k c j : Nat) (S : Hp) (v : MV) (f : Hp → Option Rs) : Option Rs := match (kF c)[j]?, v with
  | some 0, .inl z => f (hu S k c j z)
  | some 1, .inl z => if z = 0 ∨ z = 1 then f (hu S k c j z) else none
  | some 2, .inr (q, 0) => f (hu S k c j q)
  | _, _ => none
def stI (mi pc r1 r2 : Nat) (L : Lc) (st : List MV) (S : Hp) : Instr → Option Rs
  | .iload_n i => gI L (f4 i) (fun z => rN (pc + 1) L (.inl z :: st) S)
  | .iload i => gI L i (fun z => rN (pc + 2) L (.inl z :: st) S)
  | .aload_n i => gA L (f4 i) (fun z => rN (pc + 1) L (.inr z :: st) S)
  | .aload i => gA L i (fun z => rN (pc + 2) L (.inr z :: st) S)
  | .istore_n i => sI L (f4 i) st (fun L st => rN (pc + 1) L st S)
  | .istore i => sI L i st (fun L st => rN (pc + 2) L st S)
  | .astore_n i => sA L (f4 i) st (fun L st => rN (pc + 1) L st S)
  | .astore i => sA L i st (fun L st => rN (pc + 2) L st S)
  | .iconst n => rN (pc + 1) L (.inl n :: st) S
  | .bipush n => rN (pc + 2) L (.inl n :: st) S
  | .sipush n => rN (pc + 3) L (.inl n :: st) S
  | .ldc _ => rN (pc + 2) L (.inl r1 :: st) S
  | .ldc_w _ => rN (pc + 3) L (.inl r1 :: st) S
  | .iadd => bi st (fun u v st => rN (pc + 1) L (.inl (u + v) :: st) S)
  | .isub => bi st (fun u v st => rN (pc + 1) L (.inl (u - v) :: st) S)
  | .imul => bi st (fun u v st => rN (pc + 1) L (.inl (u * v) :: st) S)
  | .idiv => bi st (fun u v st => if 0 ≤ u ∧ u < 2147483648 ∧ 0 < v ∧ v < 2147483648 then rN (pc + 1) L (.inl (u / v) :: st) S else none)
  | .irem => bi st (fun u v st => if 0 ≤ u ∧ u < 2147483648 ∧ 0 < v ∧ v < 2147483648 then rN (pc + 1) L (.inl (u % v) :: st) S else none)
  | .iand => bi st (fun u v st => rN (pc + 1) L (.inl (bAnd u v) :: st) S)
  | .ior => bi st (fun u v st => rN (pc + 1) L (.inl (bOr u v) :: st) S)
  | .ixor => bi st (fun u v st => rN (pc + 1) L (.inl (bXor u v) :: st) S)
  | .ishl => bi st (fun u v st => if 0 ≤ v ∧ v < 32 ∧ 0 ≤ u ∧ u * 2 ^ v.toNat < 2147483648 then rN (pc + 1) L (.inl (u * 2 ^ v.toNat) :: st) S else none)
  | .ishr => bi st (fun u v st => if 0 ≤ v ∧ v < 32 ∧ -2147483648 ≤ u ∧ u < 2147483648 then rN (pc + 1) L (.inl (u / 2 ^ v.toNat) :: st) S else none)
  | .iushr => bi st (fun u v st => if 0 ≤ v ∧ v < 32 ∧ 0 ≤ u ∧ u < 2147483648 then rN (pc + 1) L (.inl (u / 2 ^ v.toNat) :: st) S else none)
  | .iinc i n => gI L i (fun z => if i < L.length then rN (pc + 3) (L.set i (some (.inl (z + n)))) st S else none)
  | .i2c => match st with
    | .inl z :: st => rN (pc + 1) L (.inl (z % 65536) :: st) S
    | _ => none
  | .if_icmp c _ => bi st (fun u v st => c2 (rN r1 L st S) (rN (pc + 3) L st S) u v c)
  | .ifCond c _ => match st with
    | .inl z :: st => c2 (rN r1 L st S) (rN (pc + 3) L st S) z 0 c
    | _ => none
  | .goto _ => rN r1 L st S
  | .tableswitch d lo _ os => match st with
    | .inl z :: st => if inR z then tsw L st S pc d z lo os.toList else none
    | _ => none
  | .lookupswitch d ps => match st with
    | .inl z :: st => if inR z then lsw L st S pc d z ps.toList else none
    | _ => none
  | .dup => match st with
    | v :: st => rN (pc + 1) L (v :: v :: st) S
    | _ => none
  | .dup2 => match st with
    | v :: u :: st => rN (pc + 1) L (v :: u :: v :: u :: st) S
    | _ => none
  | .pop => match st with
    | _ :: st => rN (pc + 1) L st S
    | _ => none
  | .getfield _ => match st with
    | .inr (k, c) :: st => if c = r1 then gF k r1 r2 S (fun v => rN (pc + 3) L (v :: st) S) else none
    | _ => none
  | .putfield _ => match st with
    | v :: .inr (k, c) :: st => if c = r1 then pF k r1 r2 S v (fun S => rN (pc + 3) L st S) else none
    | _ => none
  | .getstatic _ => rN (pc + 3) L (.inr (0, r1) :: st) S
  | .iaload => match st with
    | .inl i :: .inr (k, c) :: st => if kT c = 2 then (if 0 ≤ i ∧ i < kL c then rN (pc + 1) L (.inl (S k c i) :: st) S else none)
        else if kT c = 5 then (if 0 ≤ i ∧ i < kL c then rN (pc + 1) L (.inl (sv c i) :: st) S else none)
        else if kT c = 6 then (if 0 ≤ i ∧ i < S 0 41 0 then rN (pc + 1) L (.inl (S 0 40 i) :: st) S else none) else none
    | _ => none
  | .iastore => match st with
    | .inl v :: .inl i :: .inr (k, c) :: st => if kT c = 2 then (if 0 ≤ i ∧ i < kL c then rN (pc + 1) L st (hu S k c i v) else none) else none
    | _ => none
  | .caload => match st with
    | .inl i :: .inr (k, c) :: st => if kT c = 3 then (if 0 ≤ i ∧ i < kL c then rN (pc + 1) L (.inl (S k c i) :: st) S else none) else none
    | _ => none
  | .castore => match st with
    | .inl v :: .inl i :: .inr (k, c) :: st => if kT c = 3 then (if (0 ≤ i ∧ i < kL c) ∧ 0 ≤ v ∧ v < 65536 then rN (pc + 1) L st (hu S k c i v) else none) else none
    | _ => none
  | .aaload => match st with
    | .inl i :: .inr (k, c) :: st => if kT c = 4 then (if 0 ≤ i ∧ i < kL c then rN (pc + 1) L (.inr ((S k c i).toNat, 0) :: st) S else none) else none
    | _ => none
  | .aastore => match st with
    | .inr (q, 0) :: .inl i :: .inr (k, c) :: st => if kT c = 4 then (if 0 ≤ i ∧ i < kL c then rN (pc + 1) L st (hu S k c i q) else none) else none
    | _ => none
  | .arraylength => match st with
    | .inr (_, c) :: st => if kT c = 6 then rN (pc + 1) L (.inl (S 0 41 0) :: st) S else none
    | _ => none
  | .invokevirtual _ => match (st.take (r2 + 1)).reverse with
    | .inr (k, c) :: as => if c = mT r1 ∧ as.length = r2 ∧ (st.drop (r2 + 1)).length ≤ 8 then rC r1 (.inr (k, c) :: as) (pc + 3) L (st.drop (r2 + 1)) S else none
    | _ => none
  | .invokestatic _ => if r1 = 9999 then (match st with
      | [.inl n, .inl dp, .inr (k2, c2), .inl sp, .inr (k1, c1)] => if (kT c1 = 2 ∧ kT c2 = 2) ∧ (0 ≤ n ∧ 0 ≤ sp ∧ 0 ≤ dp) ∧ sp + n ≤ kL c1 ∧ dp + n ≤ kL c2 then rN (pc + 3) L [] (hcp S k1 c1 sp k2 c2 dp n) else none
      | _ => none)
    else if (st.take r2).length = r2 ∧ (st.drop r2).length ≤ 8 then rC r1 (st.take r2).reverse (pc + 3) L (st.drop r2) S else none
  | .ireturn => match st with
    | [.inl z] => match mR mi with
      | some .int => rR (some (.inl z)) S
      | some .boolean => if z = 0 ∨ z = 1 then rR (some (.inl z)) S else none
      | _ => none
    | _ => none
  | .areturn => match st with
    | [.inr a] => match mR mi with
      | some (.object _) => rR (some (.inr a)) S
      | some (.array _) => rR (some (.inr a)) S
      | _ => none
    | _ => none
  | .return_ => match st with
    | [] => match mR mi with
      | none => rR none S
      | _ => none
    | _ => none
  | _ => none
def stR (mi pc : Nat) (L : Lc) (st : List MV) (S : Hp) : Option Rs := match (if pc < mZ mi then mC mi pc else none) with
  | none => none
  | some (ins, _, r1, r2, _) => stI mi pc r1 r2 L st S ins
def fo {α : Type} (ff : α) (nx : Nat → Lc → List MV → Hp → α) (cl : Nat → List MV → Nat → Lc → List MV → Hp → α) (rt : Option MV → Hp → α) : Option Rs → α
  | none => ff
  | some (.inl (pc, L, st, S)) => nx pc L st S
  | some (.inr (.inl (m, as, pc, L, st, S))) => cl m as pc L st S
  | some (.inr (.inr (v, S))) => rt v S
theorem fo_none {α : Type} (ff : α) (nx : Nat → Lc → List MV → Hp → α) (cl : Nat → List MV → Nat → Lc → List MV → Hp → α) (rt : Option MV → Hp → α) : fo ff nx cl rt none = ff := rfl
theorem fo_N {α : Type} (ff : α) (nx : Nat → Lc → List MV → Hp → α) (cl : Nat → List MV → Nat → Lc → List MV → Hp → α) (rt : Option MV → Hp → α) (pc : Nat) (L : Lc) (st : List MV) (S : Hp) : fo ff nx cl rt (rN pc L st S) = nx pc L st S := rfl
theorem fo_C {α : Type} (ff : α) (nx : Nat → Lc → List MV → Hp → α) (cl : Nat → List MV → Nat → Lc → List MV → Hp → α) (rt : Option MV → Hp → α) (m : Nat) (as : List MV) (pc : Nat) (L : Lc) (st : List MV) (S : Hp) : fo ff nx cl rt (rC m as pc L st S) = cl m as pc L st S := rfl
theorem fo_R {α : Type} (ff : α) (nx : Nat → Lc → List MV → Hp → α) (cl : Nat → List MV → Nat → Lc → List MV → Hp → α) (rt : Option MV → Hp → α) (v : Option MV) (S : Hp) : fo ff nx cl rt (rR v S) = rt v S := rfl
theorem fo_ite {α : Type} (ff : α) (nx : Nat → Lc → List MV → Hp → α) (cl : Nat → List MV → Nat → Lc → List MV → Hp → α) (rt : Option MV → Hp → α) (c : Prop) [Decidable c] (a b : Option Rs) : fo ff nx cl rt (if c then a else b) = if c then fo ff nx cl rt a else fo ff nx cl rt b := by split <;> rfl
def ini (m : Nat) (as : List MV) : Lc := as.map some ++ List.replicate (mL m - as.length) none
def ex : Nat → Nat → Nat → Lc → List MV → Hp → Option (Option MV × Hp)
  | 0, _, _, _, _, _ => none
  | n + 1, mi, pc, L, st, S => fo none (fun pc L st S => ex n mi pc L st S)
      (fun m as pc L st S => (ex n m 0 (ini m as) [] S).bind (fun q => ex n mi pc L (q.1.toList ++ st) q.2))
      (fun v S => some (v, S)) (stR mi pc L st S)
/-- it comes to an end with Q -/
def Wp (mi pc : Nat) (L : Lc) (st : List MV) (S : Hp) (Q : Option MV → Hp → Prop) : Prop := ∃ (n : Nat) (v : Option MV) (S' : Hp), ex n mi pc L st S = some (v, S') ∧ Q v S'
theorem ex_mono : ∀ (n mi pc : Nat) (L : Lc) (st : List MV) (S : Hp) (q : Option MV × Hp), ex n mi pc L st S = some q → ex (n + 1) mi pc L st S = some q := by
  intro n
  induction n with
  | zero => intro mi pc L st S q h; simp [ex] at h
  | succ n ih =>
    intro mi pc L st S q h
    rw [ex] at h ⊢
    match hr : stR mi pc L st S, h with
    | none, h => simp [fo] at h
    | some (.inl (pc', L', st', S')), h => exact ih _ _ _ _ _ _ h
    | some (.inr (.inl (m', as, pc', L', st', S'))), h =>
      simp only [fo] at h ⊢
      match h1 : ex n m' 0 (ini m' as) [] S', h with
      | none, h => simp at h
      | some q1, h =>
        rw [ih _ _ _ _ _ _ h1]
        exact ih _ _ _ _ _ _ h
    | some (.inr (.inr (v', S'))), h => exact h
theorem ex_le {n k mi pc : Nat} {L : Lc} {st : List MV} {S : Hp} {q : Option MV × Hp} (hk : n ≤ k) (h : ex n mi pc L st S = some q) : ex k mi pc L st S = some q := by
  induction hk with
  | refl => exact h
  | step _ ih => exact ex_mono _ _ _ _ _ _ _ ih
/-- one step -/
abbrev wS (mi : Nat) (Q : Option MV → Hp → Prop) : Option Rs → Prop := fo False (fun pc L st S => Wp mi pc L st S Q)
  (fun m as pc L st S => Wp m 0 (ini m as) [] S (fun v S => Wp mi pc L (v.toList ++ st) S Q)) (fun v S => Q v S)
theorem wp_step {mi pc : Nat} {L : Lc} {st : List MV} {S : Hp} {Q : Option MV → Hp → Prop} (h : wS mi Q (stR mi pc L st S)) : Wp mi pc L st S Q := by
  match hr : stR mi pc L st S with
  | none => rw [hr] at h; exact h.elim
  | some (.inl (pc', L', st', S')) =>
    rw [hr] at h
    obtain ⟨n, v, S2, h1, h2⟩ := h
    exact ⟨n + 1, v, S2, by rw [ex, hr]; exact h1, h2⟩
  | some (.inr (.inl (m', as, pc', L', st', S'))) =>
    rw [hr] at h
    obtain ⟨n, v, S2, h1, k, v3, S3, h3, h4⟩ := h
    refine ⟨max n k + 1, v3, S3, ?_, h4⟩
    rw [ex, hr]
    show (ex (max n k) m' 0 (ini m' as) [] S').bind _ = _
    rw [ex_le (Nat.le_max_left n k) h1]
    exact ex_le (Nat.le_max_right n k) h3
  | some (.inr (.inr (v', S'))) =>
    rw [hr] at h
    exact ⟨1, v', S', by rw [ex, hr]; rfl, h⟩
theorem Wp.mono {mi pc : Nat} {L : Lc} {st : List MV} {S : Hp} {Q Q' : Option MV → Hp → Prop} (h : Wp mi pc L st S Q) (hq : ∀ v S, Q v S → Q' v S) : Wp mi pc L st S Q' := by
  obtain ⟨n, v, S', h1, h2⟩ := h
  exact ⟨n, v, S', h1, hq _ _ h2⟩
/-- many steps at once, up to the cuts; calls of a method in 'nl' are gone into -/
def vQ (F : Nat → Nat → Lc → List MV → Hp → (Option MV → Hp → Prop) → Prop) (mi pc : Nat) (L : Lc) (st : List MV) (Q : Option MV → Hp → Prop) (v : Option MV) (S : Hp) : Prop := F mi pc L (v.toList ++ st) S Q
def vK (F : Nat → Nat → Lc → List MV → Hp → (Option MV → Hp → Prop) → Prop) (nl : Nat → Bool) (mi : Nat) (Q : Option MV → Hp → Prop) : Option Rs → Prop
  | none => False
  | some (.inl (pc, L, st, S)) => F mi pc L st S Q
  | some (.inr (.inl (m, as, pc, L, st, S))) => if nl m = true then F m 0 (ini m as) [] S (vQ F mi pc L st Q) else Wp m 0 (ini m as) [] S (vQ F mi pc L st Q)
  | some (.inr (.inr (v, S))) => Q v S
def vg (ct : Nat → Nat → Bool) (nl : Nat → Bool) : Nat → Nat → Nat → Lc → List MV → Hp → (Option MV → Hp → Prop) → Prop
  | 0, mi, pc, L, st, S, Q => Wp mi pc L st S Q
  | n + 1, mi, pc, L, st, S, Q => if ct mi pc = true then Wp mi pc L st S Q else vK (vg ct nl n) nl mi Q (stR mi pc L st S)
theorem vg_0 (ct : Nat → Nat → Bool) (nl : Nat → Bool) (mi pc : Nat) (L : Lc) (st : List MV) (S : Hp) (Q : Option MV → Hp → Prop) : vg ct nl 0 mi pc L st S Q = Wp mi pc L st S Q := rfl
theorem vg_s (ct : Nat → Nat → Bool) (nl : Nat → Bool) (n mi pc : Nat) (L : Lc) (st : List MV) (S : Hp) (Q : Option MV → Hp → Prop) : vg ct nl (n + 1) mi pc L st S Q = if ct mi pc = true then Wp mi pc L st S Q else vK (vg ct nl n) nl mi Q (stR mi pc L st S) := rfl
section VK
variable (F : Nat → Nat → Lc → List MV → Hp → (Option MV → Hp → Prop) → Prop) (nl : Nat → Bool) (mi : Nat) (Q : Option MV → Hp → Prop) (pc : Nat) (L : Lc) (st : List MV) (S : Hp)
theorem vQ_some (v : MV) : vQ F mi pc L st Q (some v) S = F mi pc L (v :: st) S Q := rfl
theorem vQ_none : vQ F mi pc L st Q none S = F mi pc L st S Q := rfl
theorem vK_none : vK F nl mi Q none = False := rfl
theorem vK_N : vK F nl mi Q (rN pc L st S) = F mi pc L st S Q := rfl
theorem vK_C (m : Nat) (as : List MV) : vK F nl mi Q (rC m as pc L st S) = if nl m = true then F m 0 (ini m as) [] S (vQ F mi pc L st Q) else Wp m 0 (ini m as) [] S (vQ F mi pc L st Q) := rfl
theorem vK_R (v : Option MV) : vK F nl mi Q (rR v S) = Q v S := rfl
theorem vK_ite (c : Prop) (d : Decidable c) (a b : Option Rs) : vK F nl mi Q (@ite _ c d a b) = @ite _ c d (vK F nl mi Q a) (vK F nl mi Q b) := by split <;> rfl
end VK
theorem vK_sound {F : Nat → Nat → Lc → List MV → Hp → (Option MV → Hp → Prop) → Prop} (hF : ∀ mi pc L st S Q, F mi pc L st S Q → Wp mi pc L st S Q) {nl : Nat → Bool} {mi : Nat} {Q : Option MV → Hp → Prop} {pc : Nat} {L : Lc} {st : List MV} {S : Hp} (h : vK F nl mi Q (stR mi pc L st S)) : Wp mi pc L st S Q := by
  refine wp_step ?_
  match hr : stR mi pc L st S with
  | none => rw [hr] at h; exact h
  | some (.inl (pc', L', st', S')) => rw [hr] at h; exact hF _ _ _ _ _ _ h
  | some (.inr (.inl (m', as, pc', L', st', S'))) =>
    rw [hr] at h
    simp only [vK, fo] at h ⊢
    split at h
    · exact (hF _ _ _ _ _ _ h).mono (fun v S hv => hF _ _ _ _ _ _ hv)
    · exact h.mono (fun v S hv => hF _ _ _ _ _ _ hv)
  | some (.inr (.inr (v', S'))) => rw [hr] at h; exact h
theorem vg_sound (ct : Nat → Nat → Bool) (nl : Nat → Bool) : ∀ (n mi pc : Nat) (L : Lc) (st : List MV) (S : Hp) (Q : Option MV → Hp → Prop), vg ct nl n mi pc L st S Q → Wp mi pc L st S Q := by
  intro n
  induction n with
  | zero => intro mi pc L st S Q h; exact h
  | succ n ih =>
    intro mi pc L st S Q h
    rw [vg] at h
    split at h
    · exact h
    · exact vK_sound ih h
/-- from a cut: one step, then as above -/
theorem vg_cut (ct : Nat → Nat → Bool) (nl : Nat → Bool) (n mi pc : Nat) (L : Lc) (st : List MV) (S : Hp) (Q : Option MV → Hp → Prop)
    (h : vK (vg ct nl n) nl mi Q (stR mi pc L st S)) : Wp mi pc L st S Q := vK_sound (vg_sound ct nl n) h
