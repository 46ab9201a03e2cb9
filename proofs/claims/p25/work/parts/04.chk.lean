/-! THE TABLES ARE TRUE: each entry is what decode reads, its links stand among the tables' words (head by hand, rows by gen.py) -/
def mO (m : Nat) : String := (mY m).cls
def wAt (i : Nat) (w : Jvm.Cond) : Bool := decide (lw_tbl[i]? = some w) && goodWord w
def wNt (i : Nat) (w : Jvm.Cond) : Bool := decide (lw_tbl[i]? = some w)
def iLen : Instr → Nat → Nat
  | .iload _, _ | .aload _, _ | .istore _, _ | .astore _, _ | .bipush _, _ | .ldc _, _ => 2
  | .sipush _, _ | .ldc_w _, _ | .iinc _ _, _ | .if_icmp _ _, _ | .ifCond _ _, _ | .goto _, _ | .getfield _, _ | .putfield _, _ | .getstatic _, _ | .invokevirtual _, _ | .invokestatic _, _ => 3
  | .tableswitch _ _ _ _, n => n
  | .lookupswitch _ _, n => n
  | .iload_n _, _ | .aload_n _, _ | .istore_n _, _ | .astore_n _, _ | .iconst _, _ | .iadd, _ | .isub, _ | .imul, _ | .idiv, _ | .irem, _ | .iand, _ | .ior, _ | .ixor, _ | .ishl, _ | .ishr, _ | .iushr, _ | .i2c, _ | .dup, _ | .dup2, _ | .pop, _ | .iaload, _ | .iastore, _ | .caload, _ | .castore, _ | .aaload, _ | .aastore, _ | .arraylength, _ | .ireturn, _ | .areturn, _ | .return_, _ => 1
  | _, n => n
def ckCall (mi r1 r2 : Nat) : Bool := decide (r2 + (if mS r1 = true then 0 else 1) ≤ mL r1) && decide (r1 < mN) && decide (0 < r1) && decide (mF r1 + 1 ≤ mF mi) && decide (8 + (mL r1 + 11) + mLo r1 ≤ mLo mi) && decide ((parseMethodDescriptor (mY r1).desc).map (fun d => d.parameters.length) = some r2)
def ckL (mi pc r1 r2 r3 r4 : Nat) : Instr → Bool
  | .getfield i => decide (kT r1 = 1) && decide (r1 < 36) && wAt r3 (.fieldLink (mO mi) i (oT r1 r2).1 (oT r1 r2).2.1 (oT r1 r2).2.2.1)
  | .putfield i => decide (kT r1 = 1) && decide (r1 < 36) && wAt r3 (.fieldLink (mO mi) i (oT r1 r2).1 (oT r1 r2).2.1 (oT r1 r2).2.2.1) && ((kF r1)[r2]?.all (fun q => decide (3 ≤ q)) || (!(oT r1 r2).2.2.2 &&
      ((decide ((kF r1)[r2]? = some 0) && decide (parseFieldDescriptor (oT r1 r2).2.2.1 = some .int)) || (decide ((kF r1)[r2]? = some 1) && decide (parseFieldDescriptor (oT r1 r2).2.2.1 = some .boolean)) || (decide ((kF r1)[r2]? = some 2) && decide (parseFieldDescriptor (oT r1 r2).2.2.1 = some (.object RX3))))))
  | .getstatic i => decide (36 ≤ r1) && decide (r1 < 40) && (if r4 = 0 then wAt r3 (.fieldLink (mO mi) i "TicketWindows" (stN r1) "[I") else decide (r4 = 1) && wNt r3 (.fieldLinkNest (mO mi) i "TicketWindows" (stN r1) "[I" "TicketWindows"))
  | .ldc i => wAt r3 (.constant (mO mi) i (Int32.ofInt r1))
  | .ldc_w i => wAt r3 (.constant (mO mi) i (Int32.ofInt r1))
  | .bipush n => decide ((Int8.ofInt n).toInt32 = Int32.ofInt n)
  | .sipush n => decide ((Int16.ofInt n).toInt32 = Int32.ofInt n)
  | .if_icmp _ o => decide ((pc : Int) + o = r1)
  | .ifCond _ o => decide ((pc : Int) + o = r1)
  | .goto o => decide ((pc : Int) + o = r1)
  | .tableswitch d lo hi os => decide (0 ≤ (pc : Int) + d) && os.toList.all (fun o => decide (0 ≤ (pc : Int) + o)) && decide (hi = lo + os.size - 1)
  | .lookupswitch d ps => decide (0 ≤ (pc : Int) + d) && ps.toList.all (fun o => decide (0 ≤ (pc : Int) + o.2)) && (ps.toList.zip (ps.toList.drop 1)).all (fun (a, next) => a.1 < next.1)
  | .invokevirtual i => ckCall mi r1 r2 && !(mS r1) && decide (r4 = 0) && wAt r3 (.methodLink (mO mi) i (mY r1))
  | .invokestatic i => if r1 = 9999 then wAt r3 (.methodLink (mO mi) i arraycopyName) && decide (1 ≤ mF mi) && decide (18 ≤ mLo mi)
      else ckCall mi r1 r2 && mS r1 && (if r4 = 0 then wAt r3 (.methodLink (mO mi) i (mY r1)) else decide (r4 = 1) && wNt r3 (.methodLinkNest (mO mi) i (mY r1) "TicketWindows"))
  | _ => true
def ckAt (mi pc : Nat) : Bool := match mC mi pc with
  | none => true
  | some (ins, len, r1, r2, r3, r4) => decide (decode (mB mi) pc = .ok (ins, iLen ins len)) && ckL mi pc r1 r2 r3 r4 ins
/-- of a method: its words -/
def ckM (m : Nat) : Bool := decide (m = 0) || (wAt (mP m).1 (.code (mY m) (mB m) (mL m) (mR m)) && (if mS m = true then wAt (mP m).2.1 (.static (mY m)) else wAt (mP m).2.1 (.instanceMethod (mY m)) && wAt (mP m).2.2.1 (.selects (mY m).cls (mY m) (mY m)) && decide (oR (mT m) = (mY m).cls) && decide (kT (mT m) = 1) && decide (mT m < 36)) &&
  wAt (mP m).2.2.2 (.initialized (mY m).cls) && plainName (mY m).cls && decide ((mY m).cls ≠ "java/lang/invoke/MethodHandle") && decide ((mY m).cls ≠ "java/lang/invoke/VarHandle"))
theorem ck_of {n mi pc : Nat} {a : Nat} (h : (List.range n).all (fun i => (List.range (mZ (a + i))).all (fun pc => ckAt (a + i) pc)) = true) (b : Nat) (h1 : a = b ∧ b ≤ mi) (h2 : mi < b + n) (hp : pc < mZ mi) : ckAt mi pc = true := by
  obtain ⟨rfl, h1⟩ := h1
  have h3 := List.all_eq_true.mp h (mi - a) (List.mem_range.mpr (by omega))
  have e : a + (mi - a) = mi := by omega
  rw [e] at h3
  exact List.all_eq_true.mp h3 pc (List.mem_range.mpr hp)
theorem cz_of {n mi : Nat} {a : Nat} (h : (List.range n).all (fun i => ckM (a + i)) = true) (b : Nat) (h1 : a = b ∧ b ≤ mi) (h2 : mi < b + n) : ckM mi = true := by
  obtain ⟨rfl, h1⟩ := h1
  have h3 := List.all_eq_true.mp h (mi - a) (List.mem_range.mpr (by omega))
  have e : a + (mi - a) = mi := by omega
  rw [e] at h3
  exact h3

theorem ck_0 : (List.range 10).all (fun i => (List.range (mZ (0 + i))).all (fun pc => ckAt (0 + i) pc)) = true := by decide +kernel
theorem cz_0 : (List.range 10).all (fun i => ckM (0 + i)) = true := by decide +kernel
theorem ck_1 : (List.range 10).all (fun i => (List.range (mZ (10 + i))).all (fun pc => ckAt (10 + i) pc)) = true := by decide +kernel
theorem cz_1 : (List.range 10).all (fun i => ckM (10 + i)) = true := by decide +kernel
theorem ck_2 : (List.range 10).all (fun i => (List.range (mZ (20 + i))).all (fun pc => ckAt (20 + i) pc)) = true := by decide +kernel
theorem cz_2 : (List.range 10).all (fun i => ckM (20 + i)) = true := by decide +kernel
theorem ck_3 : (List.range 10).all (fun i => (List.range (mZ (30 + i))).all (fun pc => ckAt (30 + i) pc)) = true := by decide +kernel
theorem cz_3 : (List.range 10).all (fun i => ckM (30 + i)) = true := by decide +kernel
theorem ck_4 : (List.range 10).all (fun i => (List.range (mZ (40 + i))).all (fun pc => ckAt (40 + i) pc)) = true := by decide +kernel
theorem cz_4 : (List.range 10).all (fun i => ckM (40 + i)) = true := by decide +kernel
theorem ck_5 : (List.range 10).all (fun i => (List.range (mZ (50 + i))).all (fun pc => ckAt (50 + i) pc)) = true := by decide +kernel
theorem cz_5 : (List.range 10).all (fun i => ckM (50 + i)) = true := by decide +kernel
theorem ck_6 : (List.range 10).all (fun i => (List.range (mZ (60 + i))).all (fun pc => ckAt (60 + i) pc)) = true := by decide +kernel
theorem cz_6 : (List.range 10).all (fun i => ckM (60 + i)) = true := by decide +kernel
theorem ck_7 : (List.range 10).all (fun i => (List.range (mZ (70 + i))).all (fun pc => ckAt (70 + i) pc)) = true := by decide +kernel
theorem cz_7 : (List.range 10).all (fun i => ckM (70 + i)) = true := by decide +kernel
theorem ck_8 : (List.range 10).all (fun i => (List.range (mZ (80 + i))).all (fun pc => ckAt (80 + i) pc)) = true := by decide +kernel
theorem cz_8 : (List.range 10).all (fun i => ckM (80 + i)) = true := by decide +kernel
theorem ck_9 : (List.range 10).all (fun i => (List.range (mZ (90 + i))).all (fun pc => ckAt (90 + i) pc)) = true := by decide +kernel
theorem cz_9 : (List.range 10).all (fun i => ckM (90 + i)) = true := by decide +kernel
theorem ck_10 : (List.range 3).all (fun i => (List.range (mZ (100 + i))).all (fun pc => ckAt (100 + i) pc)) = true := by decide +kernel
theorem cz_10 : (List.range 3).all (fun i => ckM (100 + i)) = true := by decide +kernel
theorem ck_all {mi pc : Nat} (h : mi < mN) (hp : pc < mZ mi) : ckAt mi pc = true := by
  have hm : mi < 103 := h
  rcases Nat.lt_or_ge mi 10 with g | g
  · exact ck_of ck_0 0 (by omega) (by omega) hp
  rcases Nat.lt_or_ge mi 20 with g | g
  · exact ck_of ck_1 10 (by omega) (by omega) hp
  rcases Nat.lt_or_ge mi 30 with g | g
  · exact ck_of ck_2 20 (by omega) (by omega) hp
  rcases Nat.lt_or_ge mi 40 with g | g
  · exact ck_of ck_3 30 (by omega) (by omega) hp
  rcases Nat.lt_or_ge mi 50 with g | g
  · exact ck_of ck_4 40 (by omega) (by omega) hp
  rcases Nat.lt_or_ge mi 60 with g | g
  · exact ck_of ck_5 50 (by omega) (by omega) hp
  rcases Nat.lt_or_ge mi 70 with g | g
  · exact ck_of ck_6 60 (by omega) (by omega) hp
  rcases Nat.lt_or_ge mi 80 with g | g
  · exact ck_of ck_7 70 (by omega) (by omega) hp
  rcases Nat.lt_or_ge mi 90 with g | g
  · exact ck_of ck_8 80 (by omega) (by omega) hp
  rcases Nat.lt_or_ge mi 100 with g | g
  · exact ck_of ck_9 90 (by omega) (by omega) hp
  · exact ck_of ck_10 100 (by omega) (by omega) hp
theorem cz_all {mi : Nat} (h : mi < mN) : ckM mi = true := by
  have hm : mi < 103 := h
  rcases Nat.lt_or_ge mi 10 with g | g
  · exact cz_of cz_0 0 (by omega) (by omega)
  rcases Nat.lt_or_ge mi 20 with g | g
  · exact cz_of cz_1 10 (by omega) (by omega)
  rcases Nat.lt_or_ge mi 30 with g | g
  · exact cz_of cz_2 20 (by omega) (by omega)
  rcases Nat.lt_or_ge mi 40 with g | g
  · exact cz_of cz_3 30 (by omega) (by omega)
  rcases Nat.lt_or_ge mi 50 with g | g
  · exact cz_of cz_4 40 (by omega) (by omega)
  rcases Nat.lt_or_ge mi 60 with g | g
  · exact cz_of cz_5 50 (by omega) (by omega)
  rcases Nat.lt_or_ge mi 70 with g | g
  · exact cz_of cz_6 60 (by omega) (by omega)
  rcases Nat.lt_or_ge mi 80 with g | g
  · exact cz_of cz_7 70 (by omega) (by omega)
  rcases Nat.lt_or_ge mi 90 with g | g
  · exact cz_of cz_8 80 (by omega) (by omega)
  rcases Nat.lt_or_ge mi 100 with g | g
  · exact cz_of cz_9 90 (by omega) (by omega)
  · exact cz_of cz_10 100 (by omega) (by omega)
