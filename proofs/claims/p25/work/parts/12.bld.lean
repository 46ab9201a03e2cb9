/-! BUILDING: helpers for the constructors -/
theorem P_mem {D : va_G} {cl : List vw_C} {ws : va_W} {H : Heap} : va_P D cl ws H ↔ ∀ q ∈ ws, va_at D cl q H := by
  constructor
  · intro h q hq
    obtain ⟨k, hk⟩ := List.getElem?_of_mem hq
    exact h k q hk
  · intro h k q hk
    exact h q (List.mem_of_getElem? hk)
theorem D_nd {A : Nat → Prop} {ws : va_W} : va_D A ws ↔ (ws.map Prod.fst).Nodup ∧ ∀ q ∈ ws, A q.1 := by
  constructor
  · intro h
    refine ⟨?_, fun q hq => ?_⟩
    · rw [List.nodup_iff_pairwise_ne, List.pairwise_iff_getElem]
      intro i j hi hj hij he
      rw [List.length_map] at hi hj
      rw [List.getElem_map, List.getElem_map] at he
      have := h.1 i j _ _ (List.getElem?_eq_getElem hi) (List.getElem?_eq_getElem hj) he
      omega
    · obtain ⟨k, hk⟩ := List.getElem?_of_mem hq
      exact h.2 k q hk
  · rintro ⟨h1, h2⟩
    refine ⟨fun i j p q hp hq hpq => ?_, fun k q hk => h2 q (List.mem_of_getElem? hk)⟩
    obtain ⟨hi, rfl⟩ := List.getElem?_eq_some_iff.mp hp
    obtain ⟨hj, rfl⟩ := List.getElem?_eq_some_iff.mp hq
    have h3 : (ws.map Prod.fst)[i]'(by rw [List.length_map]; exact hi) = (ws.map Prod.fst)[j]'(by rw [List.length_map]; exact hj) := by
      rw [List.getElem_map, List.getElem_map]; exact hpq
    exact (List.getElem_inj h1).mp h3
theorem fr_P {D : va_G} {cl : List vw_C} {ws : va_W} {c : Nat × va_E} {H : Heap} (h : va_P D cl (ws ++ [c]) H) : va_P D cl (c :: ws) H := by
  rw [P_mem] at h ⊢
  intro q hq
  refine h q ?_
  rcases List.mem_cons.mp hq with rfl | hq
  · simp
  · exact List.mem_append_left _ hq
theorem fr_D {A : Nat → Prop} {ws : va_W} {c : Nat × va_E} (h : va_D A (ws ++ [c])) : va_D A (c :: ws) := by
  rw [D_nd] at h ⊢
  obtain ⟨h1, h2⟩ := h
  refine ⟨?_, fun q hq => h2 q ?_⟩
  · rw [List.map_append] at h1
    rw [List.map_cons]
    exact (List.perm_append_comm (l₁ := ws.map Prod.fst) (l₂ := [c.1])).nodup_iff.mp h1
  · rcases List.mem_cons.mp hq with rfl | hq
    · simp
    · exact List.mem_append_left _ hq
/-- the last cell is a callee's: what it needs, and the join behind it -/
theorem jn_P {D : va_G} {cl : List vw_C} {wr : va_W} {c : Nat × va_E} {H : Heap} (h : va_P D cl (wr ++ [c]) H) : va_P D cl [c] H := by
  rw [P_mem] at h ⊢
  intro q hq
  exact h q (List.mem_append_right _ hq)
theorem jn_D {A : Nat → Prop} {wr : va_W} {c : Nat × va_E} (h : va_D A (wr ++ [c])) : A c.1 := (D_nd.mp h).2 c (by simp)
theorem map_idx {α : Type} (as bs : List α) : (List.range as.length).map (fun i => (as ++ bs)[i]?) = as.map some := by
  apply List.ext_getElem?
  intro i
  rw [List.getElem?_map, List.getElem?_map]
  by_cases h : i < as.length
  · rw [List.getElem?_range h]
    show some ((as ++ bs)[i]?) = _
    rw [List.getElem?_append_left h, List.getElem?_eq_getElem h]
    rfl
  · rw [List.getElem?_eq_none (by simpa using h), List.getElem?_eq_none (by simpa using h)]
    rfl
theorem jn {A : Nat → Prop} {D : va_G} {cl : List vw_C} {wr w1 : va_W} {c : Nat × va_E} {H H1 : Heap} (hP : va_P D cl (wr ++ [c]) H) (hD : va_D A (wr ++ [c])) (hk : ∀ q : Nat, q < H.size → ¬ va_A [c] H.size q → H1[q]? = H[q]?) (hF : ∀ q, va_A [c] H.size q → A q)
    (hP1 : va_P D cl w1 H1) (hD1 : va_D (va_A [c] H.size) w1) : va_P D cl (wr ++ w1) H1 ∧ va_D A (wr ++ w1) := by
  refine va_join (wc := [c]) (wr := wr) (w1 := w1) hP hD [wr.length] (List.range wr.length) ?_ (map_idx wr [c]) ?_ ?_ hk hF hP1 hD1
  · simp
  · have : ∀ l : List Nat, l.Nodup → va_nd l = true := by
      intro l
      induction l with
      | nil => intro _; rfl
      | cons a l ih =>
        intro h
        rw [List.nodup_cons] at h
        unfold va_nd
        simp [ih h.2, h.1]
    exact this _ List.nodup_range
  · intro i hi hi2
    simp at hi hi2
    omega
/-- a new array of a kind that is known -/
theorem nw_arr {p : Program} {l : Launch} {e : Env} {R : Room} {s : State} {m : MethodId} {args : Array Value} {below : List Frame} {meth : Method} {c : Code} {H : Heap} {locs : List Loc} {cells slots : Nat} {Q : State → Prop} {cc : ByteArray} {pc : Nat} {ls : Array Slot} {rest : List Value} {D : va_G} {cl : List vw_C} {tys : List (ClassId × FieldType)} {ws : va_W} {A : Nat → Prop} {H0 : Heap}
    (hexec : p.tables.exec = Jvm.exec) (hb : c.code = cc) {atype : ArrayType} (harr : (Cond.arrayClass (newarray.typeOf atype)).before args s = true) {ty : FieldType} (hty : newarray.typeOf atype = ty) (hK : va_K D cl tys s) (hP : va_P D cl ws H) (hD : va_D A ws) (hS : va_S A H0 H locs) (hA : ∀ q, H0.size ≤ q → A q)
    (t0 : Nat) {cT : ClassId} (ht : tys[t0]? = some (cT, ty)) (hprim : ∀ C, ty ≠ .object C)
    {n : Int32} {N' : Nat} {a0 : vp_A} (ha : ∀ cA : ClassId, vp_cell cA a0 = arrV cA N' (fun _ => defaultValue ty)) (hn : ¬ n < 0) (hN : n.toNatClampNeg = N') (hbytes : N' * componentBytes ty ≤ 536870912) (hcells : cells + 1 ≤ R.cells) (hslots : slots + N' ≤ R.slots) (hdg : decode cc pc = .ok (.newarray atype, 2))
    (kk : ∀ (q : Nat) (H1 : Heap), va_P D cl (ws ++ [(q, .inl (cT, a0))]) H1 → va_D A (ws ++ [(q, .inl (cT, a0))]) → va_S A H0 H1 locs →
      W p l e R s m args below meth c H1 locs (cells + 1) (slots + N') Q (F0 m (pc + 2) ls (.ref q :: rest))) : W p l e R s m args below meth c H locs cells slots Q (F0 m pc ls (.int n :: rest)) := by
  refine va_newa hexec hb harr hty hK hP hD hS hA ha hn hN hbytes hcells hslots hdg (fun q cA H1 hK1 hP1 hD1 hS1 => ?_)
  have e1 := (hK1.2 tys.length (cA, ty) (by simp)).2
  have e2 := (hK.2 t0 (cT, ty) ht).2
  have e3 : cA = cT := by
    cases ty <;> first | exact Option.some.inj (e1.symm.trans e2) | exact absurd rfl (hprim _)
  subst e3
  exact kk q H1 hP1 hD1 hS1
theorem nw_ref {p : Program} {l : Launch} {e : Env} {R : Room} {s : State} {m : MethodId} {args : Array Value} {below : List Frame} {meth : Method} {c : Code} {H : Heap} {locs : List Loc} {cells slots : Nat} {Q : State → Prop} {cc : ByteArray} {pc : Nat} {ls : Array Slot} {rest : List Value} {D : va_G} {cl : List vw_C} {tys : List (ClassId × FieldType)} {ws : va_W} {A : Nat → Prop} {H0 : Heap}
    (hexec : p.tables.exec = Jvm.exec) (hb : c.code = cc) {own C : String} {index : Nat} (hown : s.vm.findClass own = some m.cls) (hclink : (Cond.classLink own index C).before args s = true) (hover : va_AO C s) (hK : va_K D cl tys s) (hP : va_P D cl ws H) (hD : va_D A ws) (hS : va_S A H0 H locs) (hA : ∀ q, H0.size ≤ q → A q)
    (t0 : Nat) {cT : ClassId} (ht : tys[t0]? = some (cT, .object C))
    {n : Int32} {N' : Nat} (hn : ¬ n < 0) (hN : n.toNatClampNeg = N') (hbytes : N' * 4 ≤ 536870912) (hcells : cells + 1 ≤ R.cells) (hslots : slots + N' ≤ R.slots) (hdg : decode cc pc = .ok (.anewarray index, 3))
    (kk : ∀ (q : Nat) (H1 : Heap), va_P D cl (ws ++ [(q, .inl (cT, N', .inr (.inr (.inr (.inr (fun _ => none))))))]) H1 → va_D A (ws ++ [(q, .inl (cT, N', .inr (.inr (.inr (.inr (fun _ => none))))))]) → va_S A H0 H1 locs →
      W p l e R s m args below meth c H1 locs (cells + 1) (slots + N') Q (F0 m (pc + 3) ls (.ref q :: rest))) : W p l e R s m args below meth c H locs cells slots Q (F0 m pc ls (.int n :: rest)) := by
  refine va_newq hexec hb hown hclink hover hK hP hD hS hA hn hN hbytes hcells hslots hdg (fun q cA H1 hK1 hP1 hD1 hS1 => ?_)
  obtain ⟨kA, comp, -, -, -, e1⟩ := (hK1.2 tys.length (cA, .object C) (by simp)).2
  obtain ⟨kA2, comp2, -, -, -, e2⟩ := (hK.2 t0 (cT, .object C) ht).2
  have e3 : cA = cT := Option.some.inj (e1.symm.trans e2)
  subst e3
  exact kk q H1 hP1 hD1 hS1
/-- the heap as the constructors leave it -/
def SI : Hp := fun _ c j =>
  if c = 0 then (if j = 1 then 1 else 0)
  else if c = 1 then (if j = 1 then 3 else if j = 2 then 12 else 0)
  else if c = 7 then (if 0 ≤ j ∧ j < 6 then -5 else 0)
  else if c = 12 then (if 0 ≤ j ∧ j < 3 then -5 else 0)
  else if c = 23 then (if j = 1 then 1 else 0)
  else if c = 24 then 3 + j
  else if c = 31 then (if j = 1 then 1 else if j = 6 then 3 else if j = 7 then 12 else 0)
  else 0
def bk (cyC cyI cyO : ClassId) (cs : List Nat) (ad : Nat → Nat) : va_W := cs.map (fun c => (ad c, cE cyC cyI cyO (fun _ c => ad c) SI 0 c))
