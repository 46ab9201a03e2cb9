/-! THE SMALL MACHINE IS TRUE: what it comes to, the machine comes to -/
def retAt (mi pc : Nat) (r : Option MV) : Prop :=
  (∃ z, r = some (.inl z) ∧ decode (mB mi) pc = .ok (.ireturn, 1) ∧ (mR mi = some .int ∨ (mR mi = some .boolean ∧ (z = 0 ∨ z = 1)))) ∨
  (∃ q, r = some (.inr q) ∧ decode (mB mi) pc = .ok (.areturn, 1) ∧ ((∃ n, mR mi = some (.object n)) ∨ ∃ n, mR mi = some (.array n))) ∨ (r = none ∧ decode (mB mi) pc = .ok (.return_, 1) ∧ mR mi = none)
section SND
variable {l : Launch} {dC : Nat → ClassId} {dI : Nat → Nat → Nat} {al : Nat} {cyC cyI cyO : ClassId} {rho : Nat → Nat → Nat} {A : Nat → Prop} {Ln : Nat} {xs : Int → Int}
def AD (al : Nat) (cyC cyI cyO : ClassId) (rho : Nat → Nat → Nat) (A : Nat → Prop) : Prop := (∀ c, 36 ≤ c → c < 41 → ¬ A (rho 0 c)) ∧ va_D A (wL al cyC cyI cyO rho (fun _ _ _ => 0))
def Cx (dC : Nat → ClassId) (dI : Nat → Nat → Nat) (al : Nat) (cyC cyI cyO : ClassId) (rho : Nat → Nat → Nat) (A : Nat → Prop) (Ln : Nat) (xs : Int → Int) (mi : Nat) (p : Program) (R : Room) (s : State) (m : MethodId) (args : Array Value) (c : Code) (cells slots : Nat) : Prop :=
  p.tables.exec = Jvm.exec ∧ c.code = mB mi ∧ c.maxLocals = mL mi ∧ s.vm.findClass (mO mi) = some m.cls ∧ (∀ w ∈ GW, w.before args s = true) ∧ St0 dC dI cyC cyI cyO rho A Ln xs s ∧ mF mi ≤ R.frames ∧ mLo mi ≤ R.locals ∧ cells ≤ R.cells ∧ slots ≤ R.slots ∧ AD al cyC cyI cyO rho A
def Rh (l : Launch) (dC : Nat → ClassId) (dI : Nat → Nat → Nat) (al : Nat) (cyC cyI cyO : ClassId) (rho : Nat → Nat → Nat) (A : Nat → Prop) (mi : Nat) (r : Option MV) (S' : Hp) (p : Program) (e : Env) (R : Room) (s : State) (m : MethodId) (args : Array Value) (below : List Frame) (meth : Method) (c : Code) (cells slots : Nat) (Q : State → Prop) : Prop :=
  ∀ (pc : Nat) (ls : Array Slot) (H : Heap) (locs : List Loc), retAt mi pc r → va_P (dC, dI) vwCl (wL al cyC cyI cyO rho S') H → va_S A s.heap H locs → W p l e R s m args below meth c H locs cells slots Q (F0 m pc ls (r.map (cvv rho)).toList)
abbrev KT : Type := Program → Env → Room → State → MethodId → Array Value → List Frame → Method → Code → Nat → Nat → (State → Prop) → Prop
def Gd (l : Launch) (dC : Nat → ClassId) (dI : Nat → Nat → Nat) (al : Nat) (cyC cyI cyO : ClassId) (rho : Nat → Nat → Nat) (A : Nat → Prop) (Ln : Nat) (xs : Int → Int) (mi : Nat) (KK : KT) (pc : Nat) (L : Lc) (st : List MV) (S : Hp) : Prop :=
  ∀ (p : Program) (e : Env) (R : Room) (s : State) (m : MethodId) (args : Array Value) (below : List Frame) (meth : Method) (c : Code) (H : Heap) (locs : List Loc) (cells slots : Nat) (Q : State → Prop) (ls : Array Slot),
    Cx dC dI al cyC cyI cyO rho A Ln xs mi p R s m args c cells slots → va_P (dC, dI) vwCl (wL al cyC cyI cyO rho S) H → va_S A s.heap H locs → LR rho ls (mL mi) L →
    KK p e R s m args below meth c cells slots Q → W p l e R s m args below meth c H locs cells slots Q (F0 m pc ls (st.map (cvv rho)))
variable {mi pc : Nat} {KK : KT} {r : Option MV} {S S' : Hp} {L : Lc} {st : List MV}
theorem gd_iload_n {i : Fin 4} {z : Int} (hd : decode (mB mi) pc = .ok (.iload_n i, 1)) (hv : L[f4 i]? = some (some (.inl z))) (k : Gd l dC dI al cyC cyI cyO rho A Ln xs mi KK (pc + 1) (L) (.inl z :: st) (S)) : Gd l dC dI al cyC cyI cyO rho A Ln xs mi KK pc (L) (st) (S) := by
  intro p e R s m args below meth c H locs cells slots Q ls hC hP hS hl hR
  obtain ⟨hx, hb, hml, hown, hts, hSt, hf, hlo, hcs, hss, hAD⟩ := id hC
  exact lv_iload_n hx hb hd (f4_val i).symm (LR_at hl hv) (k p e R s m args below meth c H locs cells slots Q ls hC hP hS hl hR)
theorem gd_iload {i : Nat} {z : Int} (hd : decode (mB mi) pc = .ok (.iload i, 2)) (hv : L[i]? = some (some (.inl z))) (k : Gd l dC dI al cyC cyI cyO rho A Ln xs mi KK (pc + 2) (L) (.inl z :: st) (S)) : Gd l dC dI al cyC cyI cyO rho A Ln xs mi KK pc (L) (st) (S) := by
  intro p e R s m args below meth c H locs cells slots Q ls hC hP hS hl hR
  obtain ⟨hx, hb, hml, hown, hts, hSt, hf, hlo, hcs, hss, hAD⟩ := id hC
  exact lv_iload hx hb hd (LR_at hl hv) (k p e R s m args below meth c H locs cells slots Q ls hC hP hS hl hR)
theorem gd_aload_n {i : Fin 4} {z : Nat × Nat} (hd : decode (mB mi) pc = .ok (.aload_n i, 1)) (hv : L[f4 i]? = some (some (.inr z))) (k : Gd l dC dI al cyC cyI cyO rho A Ln xs mi KK (pc + 1) (L) (.inr z :: st) (S)) : Gd l dC dI al cyC cyI cyO rho A Ln xs mi KK pc (L) (st) (S) := by
  intro p e R s m args below meth c H locs cells slots Q ls hC hP hS hl hR
  obtain ⟨hx, hb, hml, hown, hts, hSt, hf, hlo, hcs, hss, hAD⟩ := id hC
  exact lv_aload_n hx hb hd (f4_val i).symm (LR_at hl hv) (k p e R s m args below meth c H locs cells slots Q ls hC hP hS hl hR)
theorem gd_aload {i : Nat} {z : Nat × Nat} (hd : decode (mB mi) pc = .ok (.aload i, 2)) (hv : L[i]? = some (some (.inr z))) (k : Gd l dC dI al cyC cyI cyO rho A Ln xs mi KK (pc + 2) (L) (.inr z :: st) (S)) : Gd l dC dI al cyC cyI cyO rho A Ln xs mi KK pc (L) (st) (S) := by
  intro p e R s m args below meth c H locs cells slots Q ls hC hP hS hl hR
  obtain ⟨hx, hb, hml, hown, hts, hSt, hf, hlo, hcs, hss, hAD⟩ := id hC
  exact lv_aload hx hb hd (LR_at hl hv) (k p e R s m args below meth c H locs cells slots Q ls hC hP hS hl hR)
theorem gd_istore_n {i : Fin 4} {z : Int} (hd : decode (mB mi) pc = .ok (.istore_n i, 1)) (hi : f4 i < L.length) (k : Gd l dC dI al cyC cyI cyO rho A Ln xs mi KK (pc + 1) (L.set (f4 i) (some (.inl z))) (st) (S)) : Gd l dC dI al cyC cyI cyO rho A Ln xs mi KK pc (L) (.inl z :: st) (S) := by
  intro p e R s m args below meth c H locs cells slots Q ls hC hP hS hl hR
  obtain ⟨hx, hb, hml, hown, hts, hSt, hf, hlo, hcs, hss, hAD⟩ := id hC
  exact lv_istore_n (i := f4 i) hx hb hd (f4_val i).symm hl.2 (by rw [← hl.1]; exact hi) rfl (fun ls' h' => k p e R s m args below meth c H locs cells slots Q ls' hC hP hS (LR_put hl.1 hi h') hR)
theorem gd_istore {i : Nat} {z : Int} (hd : decode (mB mi) pc = .ok (.istore i, 2)) (hi : i < L.length) (k : Gd l dC dI al cyC cyI cyO rho A Ln xs mi KK (pc + 2) (L.set i (some (.inl z))) (st) (S)) : Gd l dC dI al cyC cyI cyO rho A Ln xs mi KK pc (L) (.inl z :: st) (S) := by
  intro p e R s m args below meth c H locs cells slots Q ls hC hP hS hl hR
  obtain ⟨hx, hb, hml, hown, hts, hSt, hf, hlo, hcs, hss, hAD⟩ := id hC
  exact lv_istore hx hb hd hl.2 (by rw [← hl.1]; exact hi) rfl (fun ls' h' => k p e R s m args below meth c H locs cells slots Q ls' hC hP hS (LR_put hl.1 hi h') hR)
theorem gd_astore_n {i : Fin 4} {z : Nat × Nat} (hd : decode (mB mi) pc = .ok (.astore_n i, 1)) (hi : f4 i < L.length) (k : Gd l dC dI al cyC cyI cyO rho A Ln xs mi KK (pc + 1) (L.set (f4 i) (some (.inr z))) (st) (S)) : Gd l dC dI al cyC cyI cyO rho A Ln xs mi KK pc (L) (.inr z :: st) (S) := by
  intro p e R s m args below meth c H locs cells slots Q ls hC hP hS hl hR
  obtain ⟨hx, hb, hml, hown, hts, hSt, hf, hlo, hcs, hss, hAD⟩ := id hC
  exact lv_astore_n (i := f4 i) hx hb hd (f4_val i).symm hl.2 (by rw [← hl.1]; exact hi) rfl (fun ls' h' => k p e R s m args below meth c H locs cells slots Q ls' hC hP hS (LR_put hl.1 hi h') hR)
theorem gd_astore {i : Nat} {z : Nat × Nat} (hd : decode (mB mi) pc = .ok (.astore i, 2)) (hi : i < L.length) (k : Gd l dC dI al cyC cyI cyO rho A Ln xs mi KK (pc + 2) (L.set i (some (.inr z))) (st) (S)) : Gd l dC dI al cyC cyI cyO rho A Ln xs mi KK pc (L) (.inr z :: st) (S) := by
  intro p e R s m args below meth c H locs cells slots Q ls hC hP hS hl hR
  obtain ⟨hx, hb, hml, hown, hts, hSt, hf, hlo, hcs, hss, hAD⟩ := id hC
  exact lv_astore hx hb hd hl.2 (by rw [← hl.1]; exact hi) rfl (fun ls' h' => k p e R s m args below meth c H locs cells slots Q ls' hC hP hS (LR_put hl.1 hi h') hR)
theorem gd_iinc {i : Nat} {z n : Int} (hd : decode (mB mi) pc = .ok (.iinc i n, 3)) (hv : L[i]? = some (some (.inl z))) (hi : i < L.length) (k : Gd l dC dI al cyC cyI cyO rho A Ln xs mi KK (pc + 3) (L.set i (some (.inl (z + n)))) (st) (S)) : Gd l dC dI al cyC cyI cyO rho A Ln xs mi KK pc (L) (st) (S) := by
  intro p e R s m args below meth c H locs cells slots Q ls hC hP hS hl hR
  obtain ⟨hx, hb, hml, hown, hts, hSt, hf, hlo, hcs, hss, hAD⟩ := id hC
  obtain ⟨q, hq⟩ := List.getElem?_of_mem (lvL_mem (rho := rho) hv)
  exact lv_iinc (v := Int32.ofInt (z + n)) hx hb hd hl.2 hq (Int32.ofInt_add z n).symm (by rw [← hl.1]; exact hi) rfl (fun ls' h' => k p e R s m args below meth c H locs cells slots Q ls' hC hP hS (LR_put (v := .inl (z + n)) hl.1 hi h') hR)
theorem gd_iconst {n : Int} (hd : decode (mB mi) pc = .ok (.iconst n, 1)) (k : Gd l dC dI al cyC cyI cyO rho A Ln xs mi KK (pc + 1) (L) (.inl n :: st) (S)) : Gd l dC dI al cyC cyI cyO rho A Ln xs mi KK pc (L) (st) (S) := by
  intro p e R s m args below meth c H locs cells slots Q ls hC hP hS hl hR
  obtain ⟨hx, hb, hml, hown, hts, hSt, hf, hlo, hcs, hss, hAD⟩ := id hC
  exact lv_iconst hx hb hd rfl (k p e R s m args below meth c H locs cells slots Q ls hC hP hS hl hR)
theorem gd_bipush {n : Int} (hd : decode (mB mi) pc = .ok (.bipush n, 2)) (hn : (Int8.ofInt n).toInt32 = Int32.ofInt n) (k : Gd l dC dI al cyC cyI cyO rho A Ln xs mi KK (pc + 2) (L) (.inl n :: st) (S)) : Gd l dC dI al cyC cyI cyO rho A Ln xs mi KK pc (L) (st) (S) := by
  intro p e R s m args below meth c H locs cells slots Q ls hC hP hS hl hR
  obtain ⟨hx, hb, hml, hown, hts, hSt, hf, hlo, hcs, hss, hAD⟩ := id hC
  exact lv_bipush hx hb hd hn (k p e R s m args below meth c H locs cells slots Q ls hC hP hS hl hR)
theorem gd_sipush {n : Int} (hd : decode (mB mi) pc = .ok (.sipush n, 3)) (hn : (Int16.ofInt n).toInt32 = Int32.ofInt n) (k : Gd l dC dI al cyC cyI cyO rho A Ln xs mi KK (pc + 3) (L) (.inl n :: st) (S)) : Gd l dC dI al cyC cyI cyO rho A Ln xs mi KK pc (L) (st) (S) := by
  intro p e R s m args below meth c H locs cells slots Q ls hC hP hS hl hR
  obtain ⟨hx, hb, hml, hown, hts, hSt, hf, hlo, hcs, hss, hAD⟩ := id hC
  exact lv_sipush hx hb hd hn (k p e R s m args below meth c H locs cells slots Q ls hC hP hS hl hR)
theorem gd_ldc {i q : Nat} {n : Int} (hd : decode (mB mi) pc = .ok (.ldc i, 2)) (hn : wAt q (.constant (mO mi) i (Int32.ofInt n)) = true) (k : Gd l dC dI al cyC cyI cyO rho A Ln xs mi KK (pc + 2) (L) (.inl n :: st) (S)) : Gd l dC dI al cyC cyI cyO rho A Ln xs mi KK pc (L) (st) (S) := by
  intro p e R s m args below meth c H locs cells slots Q ls hC hP hS hl hR
  obtain ⟨hx, hb, hml, hown, hts, hSt, hf, hlo, hcs, hss, hAD⟩ := id hC
  exact lv_ldc hx hb hown (hts _ (GW_in hn)) hd (k p e R s m args below meth c H locs cells slots Q ls hC hP hS hl hR)
theorem gd_ldc_w {i q : Nat} {n : Int} (hd : decode (mB mi) pc = .ok (.ldc_w i, 3)) (hn : wAt q (.constant (mO mi) i (Int32.ofInt n)) = true) (k : Gd l dC dI al cyC cyI cyO rho A Ln xs mi KK (pc + 3) (L) (.inl n :: st) (S)) : Gd l dC dI al cyC cyI cyO rho A Ln xs mi KK pc (L) (st) (S) := by
  intro p e R s m args below meth c H locs cells slots Q ls hC hP hS hl hR
  obtain ⟨hx, hb, hml, hown, hts, hSt, hf, hlo, hcs, hss, hAD⟩ := id hC
  exact lv_ldcw hx hb hown (hts _ (GW_in hn)) hd (k p e R s m args below meth c H locs cells slots Q ls hC hP hS hl hR)
theorem gd_iadd {u v : Int} (hd : decode (mB mi) pc = .ok (.iadd, 1)) (k : Gd l dC dI al cyC cyI cyO rho A Ln xs mi KK (pc + 1) (L) (.inl (u + v) :: st) (S)) : Gd l dC dI al cyC cyI cyO rho A Ln xs mi KK pc (L) (.inl v :: .inl u :: st) (S) := by
  intro p e R s m args below meth c H locs cells slots Q ls hC hP hS hl hR
  obtain ⟨hx, hb, hml, hown, hts, hSt, hf, hlo, hcs, hss, hAD⟩ := id hC
  refine lv_iadd hx hb hd  ?_
  rw [← Int32.ofInt_add]
  exact k p e R s m args below meth c H locs cells slots Q ls hC hP hS hl hR
theorem gd_isub {u v : Int} (hd : decode (mB mi) pc = .ok (.isub, 1)) (k : Gd l dC dI al cyC cyI cyO rho A Ln xs mi KK (pc + 1) (L) (.inl (u - v) :: st) (S)) : Gd l dC dI al cyC cyI cyO rho A Ln xs mi KK pc (L) (.inl v :: .inl u :: st) (S) := by
  intro p e R s m args below meth c H locs cells slots Q ls hC hP hS hl hR
  obtain ⟨hx, hb, hml, hown, hts, hSt, hf, hlo, hcs, hss, hAD⟩ := id hC
  refine lv_isub hx hb hd  ?_
  rw [← Int32.ofInt_sub]
  exact k p e R s m args below meth c H locs cells slots Q ls hC hP hS hl hR
theorem gd_imul {u v : Int} (hd : decode (mB mi) pc = .ok (.imul, 1)) (k : Gd l dC dI al cyC cyI cyO rho A Ln xs mi KK (pc + 1) (L) (.inl (u * v) :: st) (S)) : Gd l dC dI al cyC cyI cyO rho A Ln xs mi KK pc (L) (.inl v :: .inl u :: st) (S) := by
  intro p e R s m args below meth c H locs cells slots Q ls hC hP hS hl hR
  obtain ⟨hx, hb, hml, hown, hts, hSt, hf, hlo, hcs, hss, hAD⟩ := id hC
  refine lv_imul hx hb hd  ?_
  rw [← Int32.ofInt_mul]
  exact k p e R s m args below meth c H locs cells slots Q ls hC hP hS hl hR
theorem gd_idiv {u v : Int} (hd : decode (mB mi) pc = .ok (.idiv, 1)) (hy : 0 ≤ u ∧ u < 2147483648 ∧ 0 < v ∧ v < 2147483648) (k : Gd l dC dI al cyC cyI cyO rho A Ln xs mi KK (pc + 1) (L) (.inl (u / v) :: st) (S)) : Gd l dC dI al cyC cyI cyO rho A Ln xs mi KK pc (L) (.inl v :: .inl u :: st) (S) := by
  intro p e R s m args below meth c H locs cells slots Q ls hC hP hS hl hR
  obtain ⟨hx, hb, hml, hown, hts, hSt, hf, hlo, hcs, hss, hAD⟩ := id hC
  refine lv_idiv hx hb hd (oi_ne0 hy.2.2.1 hy.2.2.2) ?_
  rw [oi_div hy]
  exact k p e R s m args below meth c H locs cells slots Q ls hC hP hS hl hR
theorem gd_irem {u v : Int} (hd : decode (mB mi) pc = .ok (.irem, 1)) (hy : 0 ≤ u ∧ u < 2147483648 ∧ 0 < v ∧ v < 2147483648) (k : Gd l dC dI al cyC cyI cyO rho A Ln xs mi KK (pc + 1) (L) (.inl (u % v) :: st) (S)) : Gd l dC dI al cyC cyI cyO rho A Ln xs mi KK pc (L) (.inl v :: .inl u :: st) (S) := by
  intro p e R s m args below meth c H locs cells slots Q ls hC hP hS hl hR
  obtain ⟨hx, hb, hml, hown, hts, hSt, hf, hlo, hcs, hss, hAD⟩ := id hC
  refine lv_irem hx hb hd (oi_ne0 hy.2.2.1 hy.2.2.2) ?_
  rw [oi_rem hy]
  exact k p e R s m args below meth c H locs cells slots Q ls hC hP hS hl hR
theorem gd_iand {u v : Int} (hd : decode (mB mi) pc = .ok (.iand, 1)) (k : Gd l dC dI al cyC cyI cyO rho A Ln xs mi KK (pc + 1) (L) (.inl (bAnd u v) :: st) (S)) : Gd l dC dI al cyC cyI cyO rho A Ln xs mi KK pc (L) (.inl v :: .inl u :: st) (S) := by
  intro p e R s m args below meth c H locs cells slots Q ls hC hP hS hl hR
  obtain ⟨hx, hb, hml, hown, hts, hSt, hf, hlo, hcs, hss, hAD⟩ := id hC
  refine lv_iand hx hb hd  ?_
  rw [oi_and]
  exact k p e R s m args below meth c H locs cells slots Q ls hC hP hS hl hR
theorem gd_ior {u v : Int} (hd : decode (mB mi) pc = .ok (.ior, 1)) (k : Gd l dC dI al cyC cyI cyO rho A Ln xs mi KK (pc + 1) (L) (.inl (bOr u v) :: st) (S)) : Gd l dC dI al cyC cyI cyO rho A Ln xs mi KK pc (L) (.inl v :: .inl u :: st) (S) := by
  intro p e R s m args below meth c H locs cells slots Q ls hC hP hS hl hR
  obtain ⟨hx, hb, hml, hown, hts, hSt, hf, hlo, hcs, hss, hAD⟩ := id hC
  refine lv_ior hx hb hd  ?_
  rw [oi_or]
  exact k p e R s m args below meth c H locs cells slots Q ls hC hP hS hl hR
theorem gd_ixor {u v : Int} (hd : decode (mB mi) pc = .ok (.ixor, 1)) (k : Gd l dC dI al cyC cyI cyO rho A Ln xs mi KK (pc + 1) (L) (.inl (bXor u v) :: st) (S)) : Gd l dC dI al cyC cyI cyO rho A Ln xs mi KK pc (L) (.inl v :: .inl u :: st) (S) := by
  intro p e R s m args below meth c H locs cells slots Q ls hC hP hS hl hR
  obtain ⟨hx, hb, hml, hown, hts, hSt, hf, hlo, hcs, hss, hAD⟩ := id hC
  refine lv_ixor hx hb hd  ?_
  rw [oi_xor]
  exact k p e R s m args below meth c H locs cells slots Q ls hC hP hS hl hR
theorem gd_ishl {u v : Int} (hd : decode (mB mi) pc = .ok (.ishl, 1)) (hy : 0 ≤ v ∧ v < 32 ∧ 0 ≤ u ∧ u * 2 ^ v.toNat < 2147483648) (k : Gd l dC dI al cyC cyI cyO rho A Ln xs mi KK (pc + 1) (L) (.inl (u * 2 ^ v.toNat) :: st) (S)) : Gd l dC dI al cyC cyI cyO rho A Ln xs mi KK pc (L) (.inl v :: .inl u :: st) (S) := by
  intro p e R s m args below meth c H locs cells slots Q ls hC hP hS hl hR
  obtain ⟨hx, hb, hml, hown, hts, hSt, hf, hlo, hcs, hss, hAD⟩ := id hC
  refine lv_ishl hx hb hd  ?_
  rw [oi_shl hy]
  exact k p e R s m args below meth c H locs cells slots Q ls hC hP hS hl hR
theorem gd_ishr {u v : Int} (hd : decode (mB mi) pc = .ok (.ishr, 1)) (hy : 0 ≤ v ∧ v < 32 ∧ -2147483648 ≤ u ∧ u < 2147483648) (k : Gd l dC dI al cyC cyI cyO rho A Ln xs mi KK (pc + 1) (L) (.inl (u / 2 ^ v.toNat) :: st) (S)) : Gd l dC dI al cyC cyI cyO rho A Ln xs mi KK pc (L) (.inl v :: .inl u :: st) (S) := by
  intro p e R s m args below meth c H locs cells slots Q ls hC hP hS hl hR
  obtain ⟨hx, hb, hml, hown, hts, hSt, hf, hlo, hcs, hss, hAD⟩ := id hC
  refine lv_ishr hx hb hd  ?_
  rw [oi_shr hy]
  exact k p e R s m args below meth c H locs cells slots Q ls hC hP hS hl hR
theorem gd_iushr {u v : Int} (hd : decode (mB mi) pc = .ok (.iushr, 1)) (hy : 0 ≤ v ∧ v < 32 ∧ 0 ≤ u ∧ u < 2147483648) (k : Gd l dC dI al cyC cyI cyO rho A Ln xs mi KK (pc + 1) (L) (.inl (u / 2 ^ v.toNat) :: st) (S)) : Gd l dC dI al cyC cyI cyO rho A Ln xs mi KK pc (L) (.inl v :: .inl u :: st) (S) := by
  intro p e R s m args below meth c H locs cells slots Q ls hC hP hS hl hR
  obtain ⟨hx, hb, hml, hown, hts, hSt, hf, hlo, hcs, hss, hAD⟩ := id hC
  exact lv_iushr hx hb hd (oi_ushr hy) (k p e R s m args below meth c H locs cells slots Q ls hC hP hS hl hR)
theorem gd_i2c {u : Int} (hd : decode (mB mi) pc = .ok (.i2c, 1)) (k : Gd l dC dI al cyC cyI cyO rho A Ln xs mi KK (pc + 1) (L) (.inl (u % 65536) :: st) (S)) : Gd l dC dI al cyC cyI cyO rho A Ln xs mi KK pc (L) (.inl u :: st) (S) := by
  intro p e R s m args below meth c H locs cells slots Q ls hC hP hS hl hR
  obtain ⟨hx, hb, hml, hown, hts, hSt, hf, hlo, hcs, hss, hAD⟩ := id hC
  exact lv_i2c hx hb hd (oi_char u) (k p e R s m args below meth c H locs cells slots Q ls hC hP hS hl hR)
theorem gd_dup {v : MV} (hd : decode (mB mi) pc = .ok (.dup, 1)) (k : Gd l dC dI al cyC cyI cyO rho A Ln xs mi KK (pc + 1) (L) (v :: v :: st) (S)) : Gd l dC dI al cyC cyI cyO rho A Ln xs mi KK pc (L) (v :: st) (S) := by
  intro p e R s m args below meth c H locs cells slots Q ls hC hP hS hl hR
  obtain ⟨hx, hb, hml, hown, hts, hSt, hf, hlo, hcs, hss, hAD⟩ := id hC
  exact lv_dup hx hb hd (cvv_cat rho v) (k p e R s m args below meth c H locs cells slots Q ls hC hP hS hl hR)
theorem gd_dup2 {u v : MV} (hd : decode (mB mi) pc = .ok (.dup2, 1)) (k : Gd l dC dI al cyC cyI cyO rho A Ln xs mi KK (pc + 1) (L) (v :: u :: v :: u :: st) (S)) : Gd l dC dI al cyC cyI cyO rho A Ln xs mi KK pc (L) (v :: u :: st) (S) := by
  intro p e R s m args below meth c H locs cells slots Q ls hC hP hS hl hR
  obtain ⟨hx, hb, hml, hown, hts, hSt, hf, hlo, hcs, hss, hAD⟩ := id hC
  exact lv_dup2_11 hx hb hd (cvv_cat rho v) (cvv_cat rho u) (k p e R s m args below meth c H locs cells slots Q ls hC hP hS hl hR)
theorem gd_pop {v : MV} (hd : decode (mB mi) pc = .ok (.pop, 1)) (k : Gd l dC dI al cyC cyI cyO rho A Ln xs mi KK (pc + 1) (L) (st) (S)) : Gd l dC dI al cyC cyI cyO rho A Ln xs mi KK pc (L) (v :: st) (S) := by
  intro p e R s m args below meth c H locs cells slots Q ls hC hP hS hl hR
  obtain ⟨hx, hb, hml, hown, hts, hSt, hf, hlo, hcs, hss, hAD⟩ := id hC
  exact lv_pop hx hb hd (cvv_cat rho v) (k p e R s m args below meth c H locs cells slots Q ls hC hP hS hl hR)
theorem gd_goto {i : Int} {tg : Nat} (hd : decode (mB mi) pc = .ok (.goto i, 3)) (ht : (pc : Int) + i = (tg : Nat)) (k : Gd l dC dI al cyC cyI cyO rho A Ln xs mi KK (tg) (L) (st) (S)) : Gd l dC dI al cyC cyI cyO rho A Ln xs mi KK pc (L) (st) (S) := by
  intro p e R s m args below meth c H locs cells slots Q ls hC hP hS hl hR
  obtain ⟨hx, hb, hml, hown, hts, hSt, hf, hlo, hcs, hss, hAD⟩ := id hC
  exact lv_goto hx hb hd ht (k p e R s m args below meth c H locs cells slots Q ls hC hP hS hl hR)
theorem gd_icmp_eq_t {i : Int} {tg : Nat} {u v : Int} (hd : decode (mB mi) pc = .ok (.if_icmp .eq i, 3)) (ht : (pc : Int) + i = (tg : Nat)) (hc : u = v) (k : Gd l dC dI al cyC cyI cyO rho A Ln xs mi KK (tg) (L) (st) (S)) : Gd l dC dI al cyC cyI cyO rho A Ln xs mi KK pc (L) (.inl v :: .inl u :: st) (S) := by
  intro p e R s m args below meth c H locs cells slots Q ls hC hP hS hl hR
  obtain ⟨hx, hb, hml, hown, hts, hSt, hf, hlo, hcs, hss, hAD⟩ := id hC
  exact lv_icmp_eq hx hb hd ht (fun _ => k p e R s m args below meth c H locs cells slots Q ls hC hP hS hl hR) (fun q => absurd (by first | exact congrArg Int32.ofInt hc | (rw [hc]; rfl)) q)
theorem gd_if_eq_t {i : Int} {tg : Nat} {u : Int} (hd : decode (mB mi) pc = .ok (.ifCond .eq i, 3)) (ht : (pc : Int) + i = (tg : Nat)) (hc : u = 0) (k : Gd l dC dI al cyC cyI cyO rho A Ln xs mi KK (tg) (L) (st) (S)) : Gd l dC dI al cyC cyI cyO rho A Ln xs mi KK pc (L) (.inl u :: st) (S) := by
  intro p e R s m args below meth c H locs cells slots Q ls hC hP hS hl hR
  obtain ⟨hx, hb, hml, hown, hts, hSt, hf, hlo, hcs, hss, hAD⟩ := id hC
  exact lv_if_eq hx hb hd ht (fun _ => k p e R s m args below meth c H locs cells slots Q ls hC hP hS hl hR) (fun q => absurd (by first | exact congrArg Int32.ofInt hc | (rw [hc]; rfl)) q)
theorem gd_icmp_eq_f {i : Int} {tg : Nat} {u v : Int} (hd : decode (mB mi) pc = .ok (.if_icmp .eq i, 3)) (ht : (pc : Int) + i = (tg : Nat)) (hc : ¬ (u = v)) (hr : inR u ∧ inR v) (k : Gd l dC dI al cyC cyI cyO rho A Ln xs mi KK (pc + 3) (L) (st) (S)) : Gd l dC dI al cyC cyI cyO rho A Ln xs mi KK pc (L) (.inl v :: .inl u :: st) (S) := by
  intro p e R s m args below meth c H locs cells slots Q ls hC hP hS hl hR
  obtain ⟨hx, hb, hml, hown, hts, hSt, hf, hlo, hcs, hss, hAD⟩ := id hC
  have hq : ¬ (u = v) := by omega
  exact lv_icmp_eq hx hb hd ht (fun q => absurd ((oi_eq hr.1 hr.2).mp q) hq) (fun _ => k p e R s m args below meth c H locs cells slots Q ls hC hP hS hl hR)
theorem gd_if_eq_f {i : Int} {tg : Nat} {u : Int} (hd : decode (mB mi) pc = .ok (.ifCond .eq i, 3)) (ht : (pc : Int) + i = (tg : Nat)) (hc : ¬ (u = 0)) (hr : inR u ∧ inR 0) (k : Gd l dC dI al cyC cyI cyO rho A Ln xs mi KK (pc + 3) (L) (st) (S)) : Gd l dC dI al cyC cyI cyO rho A Ln xs mi KK pc (L) (.inl u :: st) (S) := by
  intro p e R s m args below meth c H locs cells slots Q ls hC hP hS hl hR
  obtain ⟨hx, hb, hml, hown, hts, hSt, hf, hlo, hcs, hss, hAD⟩ := id hC
  have hq : ¬ (u = 0) := by omega
  exact lv_if_eq hx hb hd ht (fun q => absurd ((oi_eq hr.1 hr.2 : Int32.ofInt u = Int32.ofInt 0 ↔ u = 0).mp q) hq) (fun _ => k p e R s m args below meth c H locs cells slots Q ls hC hP hS hl hR)
theorem gd_icmp_ne_t {i : Int} {tg : Nat} {u v : Int} (hd : decode (mB mi) pc = .ok (.if_icmp .ne i, 3)) (ht : (pc : Int) + i = (tg : Nat)) (hc : ¬ u = v) (hr : inR u ∧ inR v) (k : Gd l dC dI al cyC cyI cyO rho A Ln xs mi KK (tg) (L) (st) (S)) : Gd l dC dI al cyC cyI cyO rho A Ln xs mi KK pc (L) (.inl v :: .inl u :: st) (S) := by
  intro p e R s m args below meth c H locs cells slots Q ls hC hP hS hl hR
  obtain ⟨hx, hb, hml, hown, hts, hSt, hf, hlo, hcs, hss, hAD⟩ := id hC
  have hq : ¬ (u = v) := by omega
  exact lv_icmp_ne hx hb hd ht (fun _ => k p e R s m args below meth c H locs cells slots Q ls hC hP hS hl hR) (fun q => absurd ((oi_eq hr.1 hr.2).mp q) hq)
theorem gd_if_ne_t {i : Int} {tg : Nat} {u : Int} (hd : decode (mB mi) pc = .ok (.ifCond .ne i, 3)) (ht : (pc : Int) + i = (tg : Nat)) (hc : ¬ u = 0) (hr : inR u ∧ inR 0) (k : Gd l dC dI al cyC cyI cyO rho A Ln xs mi KK (tg) (L) (st) (S)) : Gd l dC dI al cyC cyI cyO rho A Ln xs mi KK pc (L) (.inl u :: st) (S) := by
  intro p e R s m args below meth c H locs cells slots Q ls hC hP hS hl hR
  obtain ⟨hx, hb, hml, hown, hts, hSt, hf, hlo, hcs, hss, hAD⟩ := id hC
  have hq : ¬ (u = 0) := by omega
  exact lv_if_ne hx hb hd ht (fun _ => k p e R s m args below meth c H locs cells slots Q ls hC hP hS hl hR) (fun q => absurd ((oi_eq hr.1 hr.2 : Int32.ofInt u = Int32.ofInt 0 ↔ u = 0).mp q) hq)
theorem gd_icmp_ne_f {i : Int} {tg : Nat} {u v : Int} (hd : decode (mB mi) pc = .ok (.if_icmp .ne i, 3)) (ht : (pc : Int) + i = (tg : Nat)) (hc : ¬ (¬ u = v)) (k : Gd l dC dI al cyC cyI cyO rho A Ln xs mi KK (pc + 3) (L) (st) (S)) : Gd l dC dI al cyC cyI cyO rho A Ln xs mi KK pc (L) (.inl v :: .inl u :: st) (S) := by
  intro p e R s m args below meth c H locs cells slots Q ls hC hP hS hl hR
  obtain ⟨hx, hb, hml, hown, hts, hSt, hf, hlo, hcs, hss, hAD⟩ := id hC
  exact lv_icmp_ne hx hb hd ht (fun q => absurd (by first | exact congrArg Int32.ofInt (Classical.not_not.mp hc) | (rw [Classical.not_not.mp hc]; rfl)) q) (fun _ => k p e R s m args below meth c H locs cells slots Q ls hC hP hS hl hR)
theorem gd_if_ne_f {i : Int} {tg : Nat} {u : Int} (hd : decode (mB mi) pc = .ok (.ifCond .ne i, 3)) (ht : (pc : Int) + i = (tg : Nat)) (hc : ¬ (¬ u = 0)) (k : Gd l dC dI al cyC cyI cyO rho A Ln xs mi KK (pc + 3) (L) (st) (S)) : Gd l dC dI al cyC cyI cyO rho A Ln xs mi KK pc (L) (.inl u :: st) (S) := by
  intro p e R s m args below meth c H locs cells slots Q ls hC hP hS hl hR
  obtain ⟨hx, hb, hml, hown, hts, hSt, hf, hlo, hcs, hss, hAD⟩ := id hC
  exact lv_if_ne hx hb hd ht (fun q => absurd (by first | exact congrArg Int32.ofInt (Classical.not_not.mp hc) | (rw [Classical.not_not.mp hc]; rfl)) q) (fun _ => k p e R s m args below meth c H locs cells slots Q ls hC hP hS hl hR)
theorem gd_icmp_lt_t {i : Int} {tg : Nat} {u v : Int} (hd : decode (mB mi) pc = .ok (.if_icmp .lt i, 3)) (ht : (pc : Int) + i = (tg : Nat)) (hc : u < v) (hr : inR u ∧ inR v) (k : Gd l dC dI al cyC cyI cyO rho A Ln xs mi KK (tg) (L) (st) (S)) : Gd l dC dI al cyC cyI cyO rho A Ln xs mi KK pc (L) (.inl v :: .inl u :: st) (S) := by
  intro p e R s m args below meth c H locs cells slots Q ls hC hP hS hl hR
  obtain ⟨hx, hb, hml, hown, hts, hSt, hf, hlo, hcs, hss, hAD⟩ := id hC
  have hq : u < v := by omega
  exact lv_icmp_lt hx hb hd ht (fun _ => k p e R s m args below meth c H locs cells slots Q ls hC hP hS hl hR) (fun q => absurd ((oi_lt hr.1 hr.2).mpr hq) q)
theorem gd_if_lt_t {i : Int} {tg : Nat} {u : Int} (hd : decode (mB mi) pc = .ok (.ifCond .lt i, 3)) (ht : (pc : Int) + i = (tg : Nat)) (hc : u < 0) (hr : inR u ∧ inR 0) (k : Gd l dC dI al cyC cyI cyO rho A Ln xs mi KK (tg) (L) (st) (S)) : Gd l dC dI al cyC cyI cyO rho A Ln xs mi KK pc (L) (.inl u :: st) (S) := by
  intro p e R s m args below meth c H locs cells slots Q ls hC hP hS hl hR
  obtain ⟨hx, hb, hml, hown, hts, hSt, hf, hlo, hcs, hss, hAD⟩ := id hC
  have hq : u < 0 := by omega
  exact lv_if_lt hx hb hd ht (fun _ => k p e R s m args below meth c H locs cells slots Q ls hC hP hS hl hR) (fun q => absurd ((oi_lt hr.1 hr.2 : Int32.ofInt u < Int32.ofInt 0 ↔ u < 0).mpr hq) q)
theorem gd_icmp_lt_f {i : Int} {tg : Nat} {u v : Int} (hd : decode (mB mi) pc = .ok (.if_icmp .lt i, 3)) (ht : (pc : Int) + i = (tg : Nat)) (hc : ¬ (u < v)) (hr : inR u ∧ inR v) (k : Gd l dC dI al cyC cyI cyO rho A Ln xs mi KK (pc + 3) (L) (st) (S)) : Gd l dC dI al cyC cyI cyO rho A Ln xs mi KK pc (L) (.inl v :: .inl u :: st) (S) := by
  intro p e R s m args below meth c H locs cells slots Q ls hC hP hS hl hR
  obtain ⟨hx, hb, hml, hown, hts, hSt, hf, hlo, hcs, hss, hAD⟩ := id hC
  have hq : ¬ (u < v) := by omega
  exact lv_icmp_lt hx hb hd ht (fun q => absurd ((oi_lt hr.1 hr.2).mp q) hq) (fun _ => k p e R s m args below meth c H locs cells slots Q ls hC hP hS hl hR)
theorem gd_if_lt_f {i : Int} {tg : Nat} {u : Int} (hd : decode (mB mi) pc = .ok (.ifCond .lt i, 3)) (ht : (pc : Int) + i = (tg : Nat)) (hc : ¬ (u < 0)) (hr : inR u ∧ inR 0) (k : Gd l dC dI al cyC cyI cyO rho A Ln xs mi KK (pc + 3) (L) (st) (S)) : Gd l dC dI al cyC cyI cyO rho A Ln xs mi KK pc (L) (.inl u :: st) (S) := by
  intro p e R s m args below meth c H locs cells slots Q ls hC hP hS hl hR
  obtain ⟨hx, hb, hml, hown, hts, hSt, hf, hlo, hcs, hss, hAD⟩ := id hC
  have hq : ¬ (u < 0) := by omega
  exact lv_if_lt hx hb hd ht (fun q => absurd ((oi_lt hr.1 hr.2 : Int32.ofInt u < Int32.ofInt 0 ↔ u < 0).mp q) hq) (fun _ => k p e R s m args below meth c H locs cells slots Q ls hC hP hS hl hR)
theorem gd_icmp_ge_t {i : Int} {tg : Nat} {u v : Int} (hd : decode (mB mi) pc = .ok (.if_icmp .ge i, 3)) (ht : (pc : Int) + i = (tg : Nat)) (hc : ¬ u < v) (hr : inR u ∧ inR v) (k : Gd l dC dI al cyC cyI cyO rho A Ln xs mi KK (tg) (L) (st) (S)) : Gd l dC dI al cyC cyI cyO rho A Ln xs mi KK pc (L) (.inl v :: .inl u :: st) (S) := by
  intro p e R s m args below meth c H locs cells slots Q ls hC hP hS hl hR
  obtain ⟨hx, hb, hml, hown, hts, hSt, hf, hlo, hcs, hss, hAD⟩ := id hC
  have hq : v ≤ u := by omega
  exact lv_icmp_ge hx hb hd ht (fun _ => k p e R s m args below meth c H locs cells slots Q ls hC hP hS hl hR) (fun q => absurd ((oi_le hr.2 hr.1).mpr hq) q)
theorem gd_if_ge_t {i : Int} {tg : Nat} {u : Int} (hd : decode (mB mi) pc = .ok (.ifCond .ge i, 3)) (ht : (pc : Int) + i = (tg : Nat)) (hc : ¬ u < 0) (hr : inR u ∧ inR 0) (k : Gd l dC dI al cyC cyI cyO rho A Ln xs mi KK (tg) (L) (st) (S)) : Gd l dC dI al cyC cyI cyO rho A Ln xs mi KK pc (L) (.inl u :: st) (S) := by
  intro p e R s m args below meth c H locs cells slots Q ls hC hP hS hl hR
  obtain ⟨hx, hb, hml, hown, hts, hSt, hf, hlo, hcs, hss, hAD⟩ := id hC
  have hq : 0 ≤ u := by omega
  exact lv_if_ge hx hb hd ht (fun _ => k p e R s m args below meth c H locs cells slots Q ls hC hP hS hl hR) (fun q => absurd ((oi_le hr.2 hr.1 : Int32.ofInt 0 ≤ Int32.ofInt u ↔ 0 ≤ u).mpr hq) q)
theorem gd_icmp_ge_f {i : Int} {tg : Nat} {u v : Int} (hd : decode (mB mi) pc = .ok (.if_icmp .ge i, 3)) (ht : (pc : Int) + i = (tg : Nat)) (hc : ¬ (¬ u < v)) (hr : inR u ∧ inR v) (k : Gd l dC dI al cyC cyI cyO rho A Ln xs mi KK (pc + 3) (L) (st) (S)) : Gd l dC dI al cyC cyI cyO rho A Ln xs mi KK pc (L) (.inl v :: .inl u :: st) (S) := by
  intro p e R s m args below meth c H locs cells slots Q ls hC hP hS hl hR
  obtain ⟨hx, hb, hml, hown, hts, hSt, hf, hlo, hcs, hss, hAD⟩ := id hC
  have hq : ¬ (v ≤ u) := by omega
  exact lv_icmp_ge hx hb hd ht (fun q => absurd ((oi_le hr.2 hr.1).mp q) hq) (fun _ => k p e R s m args below meth c H locs cells slots Q ls hC hP hS hl hR)
theorem gd_if_ge_f {i : Int} {tg : Nat} {u : Int} (hd : decode (mB mi) pc = .ok (.ifCond .ge i, 3)) (ht : (pc : Int) + i = (tg : Nat)) (hc : ¬ (¬ u < 0)) (hr : inR u ∧ inR 0) (k : Gd l dC dI al cyC cyI cyO rho A Ln xs mi KK (pc + 3) (L) (st) (S)) : Gd l dC dI al cyC cyI cyO rho A Ln xs mi KK pc (L) (.inl u :: st) (S) := by
  intro p e R s m args below meth c H locs cells slots Q ls hC hP hS hl hR
  obtain ⟨hx, hb, hml, hown, hts, hSt, hf, hlo, hcs, hss, hAD⟩ := id hC
  have hq : ¬ (0 ≤ u) := by omega
  exact lv_if_ge hx hb hd ht (fun q => absurd ((oi_le hr.2 hr.1 : Int32.ofInt 0 ≤ Int32.ofInt u ↔ 0 ≤ u).mp q) hq) (fun _ => k p e R s m args below meth c H locs cells slots Q ls hC hP hS hl hR)
theorem gd_icmp_gt_t {i : Int} {tg : Nat} {u v : Int} (hd : decode (mB mi) pc = .ok (.if_icmp .gt i, 3)) (ht : (pc : Int) + i = (tg : Nat)) (hc : v < u) (hr : inR u ∧ inR v) (k : Gd l dC dI al cyC cyI cyO rho A Ln xs mi KK (tg) (L) (st) (S)) : Gd l dC dI al cyC cyI cyO rho A Ln xs mi KK pc (L) (.inl v :: .inl u :: st) (S) := by
  intro p e R s m args below meth c H locs cells slots Q ls hC hP hS hl hR
  obtain ⟨hx, hb, hml, hown, hts, hSt, hf, hlo, hcs, hss, hAD⟩ := id hC
  have hq : v < u := by omega
  exact lv_icmp_gt hx hb hd ht (fun _ => k p e R s m args below meth c H locs cells slots Q ls hC hP hS hl hR) (fun q => absurd ((oi_lt hr.2 hr.1).mpr hq) q)
theorem gd_if_gt_t {i : Int} {tg : Nat} {u : Int} (hd : decode (mB mi) pc = .ok (.ifCond .gt i, 3)) (ht : (pc : Int) + i = (tg : Nat)) (hc : 0 < u) (hr : inR u ∧ inR 0) (k : Gd l dC dI al cyC cyI cyO rho A Ln xs mi KK (tg) (L) (st) (S)) : Gd l dC dI al cyC cyI cyO rho A Ln xs mi KK pc (L) (.inl u :: st) (S) := by
  intro p e R s m args below meth c H locs cells slots Q ls hC hP hS hl hR
  obtain ⟨hx, hb, hml, hown, hts, hSt, hf, hlo, hcs, hss, hAD⟩ := id hC
  have hq : 0 < u := by omega
  exact lv_if_gt hx hb hd ht (fun _ => k p e R s m args below meth c H locs cells slots Q ls hC hP hS hl hR) (fun q => absurd ((oi_lt hr.2 hr.1 : Int32.ofInt 0 < Int32.ofInt u ↔ 0 < u).mpr hq) q)
theorem gd_icmp_gt_f {i : Int} {tg : Nat} {u v : Int} (hd : decode (mB mi) pc = .ok (.if_icmp .gt i, 3)) (ht : (pc : Int) + i = (tg : Nat)) (hc : ¬ (v < u)) (hr : inR u ∧ inR v) (k : Gd l dC dI al cyC cyI cyO rho A Ln xs mi KK (pc + 3) (L) (st) (S)) : Gd l dC dI al cyC cyI cyO rho A Ln xs mi KK pc (L) (.inl v :: .inl u :: st) (S) := by
  intro p e R s m args below meth c H locs cells slots Q ls hC hP hS hl hR
  obtain ⟨hx, hb, hml, hown, hts, hSt, hf, hlo, hcs, hss, hAD⟩ := id hC
  have hq : ¬ (v < u) := by omega
  exact lv_icmp_gt hx hb hd ht (fun q => absurd ((oi_lt hr.2 hr.1).mp q) hq) (fun _ => k p e R s m args below meth c H locs cells slots Q ls hC hP hS hl hR)
theorem gd_if_gt_f {i : Int} {tg : Nat} {u : Int} (hd : decode (mB mi) pc = .ok (.ifCond .gt i, 3)) (ht : (pc : Int) + i = (tg : Nat)) (hc : ¬ (0 < u)) (hr : inR u ∧ inR 0) (k : Gd l dC dI al cyC cyI cyO rho A Ln xs mi KK (pc + 3) (L) (st) (S)) : Gd l dC dI al cyC cyI cyO rho A Ln xs mi KK pc (L) (.inl u :: st) (S) := by
  intro p e R s m args below meth c H locs cells slots Q ls hC hP hS hl hR
  obtain ⟨hx, hb, hml, hown, hts, hSt, hf, hlo, hcs, hss, hAD⟩ := id hC
  have hq : ¬ (0 < u) := by omega
  exact lv_if_gt hx hb hd ht (fun q => absurd ((oi_lt hr.2 hr.1 : Int32.ofInt 0 < Int32.ofInt u ↔ 0 < u).mp q) hq) (fun _ => k p e R s m args below meth c H locs cells slots Q ls hC hP hS hl hR)
theorem gd_icmp_le_t {i : Int} {tg : Nat} {u v : Int} (hd : decode (mB mi) pc = .ok (.if_icmp .le i, 3)) (ht : (pc : Int) + i = (tg : Nat)) (hc : ¬ v < u) (hr : inR u ∧ inR v) (k : Gd l dC dI al cyC cyI cyO rho A Ln xs mi KK (tg) (L) (st) (S)) : Gd l dC dI al cyC cyI cyO rho A Ln xs mi KK pc (L) (.inl v :: .inl u :: st) (S) := by
  intro p e R s m args below meth c H locs cells slots Q ls hC hP hS hl hR
  obtain ⟨hx, hb, hml, hown, hts, hSt, hf, hlo, hcs, hss, hAD⟩ := id hC
  have hq : u ≤ v := by omega
  exact lv_icmp_le hx hb hd ht (fun _ => k p e R s m args below meth c H locs cells slots Q ls hC hP hS hl hR) (fun q => absurd ((oi_le hr.1 hr.2).mpr hq) q)
theorem gd_if_le_t {i : Int} {tg : Nat} {u : Int} (hd : decode (mB mi) pc = .ok (.ifCond .le i, 3)) (ht : (pc : Int) + i = (tg : Nat)) (hc : ¬ 0 < u) (hr : inR u ∧ inR 0) (k : Gd l dC dI al cyC cyI cyO rho A Ln xs mi KK (tg) (L) (st) (S)) : Gd l dC dI al cyC cyI cyO rho A Ln xs mi KK pc (L) (.inl u :: st) (S) := by
  intro p e R s m args below meth c H locs cells slots Q ls hC hP hS hl hR
  obtain ⟨hx, hb, hml, hown, hts, hSt, hf, hlo, hcs, hss, hAD⟩ := id hC
  have hq : u ≤ 0 := by omega
  exact lv_if_le hx hb hd ht (fun _ => k p e R s m args below meth c H locs cells slots Q ls hC hP hS hl hR) (fun q => absurd ((oi_le hr.1 hr.2 : Int32.ofInt u ≤ Int32.ofInt 0 ↔ u ≤ 0).mpr hq) q)
theorem gd_icmp_le_f {i : Int} {tg : Nat} {u v : Int} (hd : decode (mB mi) pc = .ok (.if_icmp .le i, 3)) (ht : (pc : Int) + i = (tg : Nat)) (hc : ¬ (¬ v < u)) (hr : inR u ∧ inR v) (k : Gd l dC dI al cyC cyI cyO rho A Ln xs mi KK (pc + 3) (L) (st) (S)) : Gd l dC dI al cyC cyI cyO rho A Ln xs mi KK pc (L) (.inl v :: .inl u :: st) (S) := by
  intro p e R s m args below meth c H locs cells slots Q ls hC hP hS hl hR
  obtain ⟨hx, hb, hml, hown, hts, hSt, hf, hlo, hcs, hss, hAD⟩ := id hC
  have hq : ¬ (u ≤ v) := by omega
  exact lv_icmp_le hx hb hd ht (fun q => absurd ((oi_le hr.1 hr.2).mp q) hq) (fun _ => k p e R s m args below meth c H locs cells slots Q ls hC hP hS hl hR)
theorem gd_if_le_f {i : Int} {tg : Nat} {u : Int} (hd : decode (mB mi) pc = .ok (.ifCond .le i, 3)) (ht : (pc : Int) + i = (tg : Nat)) (hc : ¬ (¬ 0 < u)) (hr : inR u ∧ inR 0) (k : Gd l dC dI al cyC cyI cyO rho A Ln xs mi KK (pc + 3) (L) (st) (S)) : Gd l dC dI al cyC cyI cyO rho A Ln xs mi KK pc (L) (.inl u :: st) (S) := by
  intro p e R s m args below meth c H locs cells slots Q ls hC hP hS hl hR
  obtain ⟨hx, hb, hml, hown, hts, hSt, hf, hlo, hcs, hss, hAD⟩ := id hC
  have hq : ¬ (u ≤ 0) := by omega
  exact lv_if_le hx hb hd ht (fun q => absurd ((oi_le hr.1 hr.2 : Int32.ofInt u ≤ Int32.ofInt 0 ↔ u ≤ 0).mp q) hq) (fun _ => k p e R s m args below meth c H locs cells slots Q ls hC hP hS hl hR)
end SND
