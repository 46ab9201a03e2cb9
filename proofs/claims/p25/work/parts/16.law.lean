/-! THE CLAIM OUT OF ONE WALK OF THE LAW'S BODY. Your part is whole_start (and what it stands on); all else here is the same for every law, but numbers. -/
def R_law : String := "TicketWindowsLaw"
def lw_P (b : Addr) (xs : List Int32) (args : Array Value) (s : State) : Prop := args = #[.ref b] ∧ s.IntsAt b xs ∧ xs.length ≤ 260 ∧ (Jvm.Cond.and given_1 narrow_1).before args s = true
def lw_Q (_ : Array Value) (s : State) (o : Outcome) (t : State) : Prop := o = .returned (some (.int 1)) ∧ Framed s o t [] 600000 7302249
def lw_Z (below : List Frame) (a : Array Value) (s : State) : State → Prop := fun t => ∃ o, t.status = .running ∧ Ended t below o ∧ lw_Q a s o t
/-- the law's own end, with 1 on the stack, nothing written that was there before, its room as the claim has it -/
theorem lw_ret {p : Program} {l : Launch} {e : Env} {s : State} {m : MethodId} {below : List Frame} {meth : Method} {c : Code} {b : Nat} (hx : p.tables.exec = Jvm.exec) (hb : c.code = code) (hr : meth.sig.returnType = ret) (hlocks : meth.locks = false) {pc : Nat} {H : Heap} {ls : Array Slot} (hdg : decode code pc = .ok (.ireturn, 1)) : W p l e room_1 s m #[Value.ref b] below meth c H [] 600000 7302249 (lw_Z below #[Value.ref b] s) (F0 m pc ls [.int 1]) := by
  intro T hT X
  obtain ⟨fs, hret, hrun, hended, hW, hframe⟩ := X.leave (v := some (.int 1)) (hlocks := hlocks) (fun h => by rw [hr] at h; cases h)
  have hmeth' : T.vm.method? m = some meth := X.method'
  refine ⟨T.setFrames fs, ?_, .returned (some (.int 1)), hrun, hended, rfl, ⟨_, rfl⟩, hW, hframe⟩
  jvm_step X.here [X.here.top, hx, hb, hdg, hmeth', hr, ret, narrow_b1]
  (try refine ⟨rfl, ?_⟩); (try refine ⟨rfl, ?_⟩)
  first | (intro acts; rw [hret _ acts rfl rfl rfl]) | rw [hret _ _ rfl rfl rfl]
  exact Steps.refl _
/-- what holds at the law's entry: the machine, the code, the tables' words (any of lw_tbl by 'hts w (by decide +kernel)'), the script of L ints xs at the cell b, what the Statement gives of the start (any of its parts by flat_of_before) -/
def lw_At (p : Program) (s : State) (m : MethodId) (meth : Method) (c : Code) (b L : Nat) (xs : Nat → Int32) : Prop :=
  p.tables.exec = Jvm.exec ∧ c.code = code ∧ meth.sig.returnType = ret ∧ c.maxLocals = 18 ∧ s.vm.findClass R_law = some m.cls ∧ (∀ w ∈ lw_tbl, w.before #[Value.ref b] s = true) ∧ va_X b L xs s s.heap ∧ b < s.heap.size ∧ meth.locks = false ∧ (Jvm.Cond.and given_1 narrow_1).before #[Value.ref b] s = true
/-- the small heap at the law's loop -/
def SL (L : Nat) (xs : Nat → Int32) : Hp := fun k c j => if c = 40 then (xs j.toNat).toInt else if c = 41 then L else SI k c j
theorem kF_off : ∀ c, c < 23 → ∀ q ∈ kF c, 3 ≤ q → q < 100 ∧ q - 10 < 23 := by decide +kernel
theorem kF_no2 : ∀ c, c < 23 → ∀ q ∈ kF c, q ≠ 2 := by decide +kernel
theorem kT_no4 : ∀ c, c < 23 → kT c ≠ 4 := by decide +kernel
section CEQ
variable {cyC cyI cyO : ClassId}
theorem cE_eq {rho rho' : Nat → Nat → Nat} {S S' : Hp} {k k' c : Nat} (h4 : kT c ≠ 4) (hj : ∀ j, S k c j = S' k' c j) (hf : ∀ j, j < (kF c).length → cvv rho (fM S k c j) = cvv rho' (fM S' k' c j)) : cE cyC cyI cyO rho S k c = cE cyC cyI cyO rho' S' k' c := by
  unfold cE
  rw [if_neg h4, if_neg h4]
  have e : S k c = S' k' c := funext hj
  rw [e]
  have e2 : (List.range (kF c).length).map (fun j => cvv rho (fM S k c j)) = (List.range (kF c).length).map (fun j => cvv rho' (fM S' k' c j)) := by
    apply List.map_congr_left
    intro j h
    exact hf j (List.mem_range.mp h)
  rw [e2]
theorem cE_office {rho : Nat → Nat → Nat} {ad : Nat → Nat} {S : Hp} {k c : Nat} (hc : c < 23) (hS : ∀ j, S k c j = SI 0 c j) (hr : ∀ c', c' < 23 → rho k c' = ad c') : cE cyC cyI cyO rho S k c = cE cyC cyI cyO (fun _ c => ad c) SI 0 c := by
  refine cE_eq (kT_no4 c hc) hS (fun j hj => ?_)
  have hq : (kF c)[j]? = some (kF c)[j] := List.getElem?_eq_getElem hj
  have hm := List.mem_of_getElem? hq
  generalize (kF c)[j] = q at hq hm
  unfold fM
  rw [hq]
  have h2 := kF_no2 c hc q hm
  match q, hq, hm, h2 with
  | 0, _, _, _ => show Value.int (Int32.ofInt _) = Value.int (Int32.ofInt _); rw [hS]
  | 1, _, _, _ => show Value.int (Int32.ofInt _) = Value.int (Int32.ofInt _); rw [hS]
  | 2, _, _, h2 => exact absurd rfl h2
  | q + 3, _, hm, _ =>
    obtain ⟨h5, h6⟩ := kF_off c hc (q + 3) hm (by omega)
    show cvv rho (if q + 3 < 100 then .inr (k, q + 3 - 10) else .inr (q + 3 - 100, 0)) = cvv _ (if q + 3 < 100 then .inr (0, q + 3 - 10) else .inr (q + 3 - 100, 0))
    rw [if_pos h5, if_pos h5]
    show Value.ref _ = Value.ref _
    rw [hr _ h6]
end CEQ
