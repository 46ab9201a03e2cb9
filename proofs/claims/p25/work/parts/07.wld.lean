/-! THE WORLD: the small heap, laid over the machine's heap by addresses rho -/
def cvv (rho : Nat → Nat → Nat) : MV → Value
  | .inl z => .int (Int32.ofInt z)
  | .inr q => .ref (rho q.1 q.2)
def fM (S : Hp) (k c j : Nat) : MV := match (kF c)[j]? with
  | some 0 => .inl (S k c j)
  | some 1 => .inl (S k c j)
  | some 2 => .inr ((S k c j).toNat, 0)
  | some q => if q < 100 then .inr (k, q - 10) else .inr (q - 100, 0)
  | none => .inl 0
theorem gF_fM {k c j q : Nat} {S : Hp} {f : MV → Option Rs} (h : (kF c)[j]? = some q) : gF k c j S f = f (fM S k c j) := by
  unfold gF fM
  rw [h]
  match q with
  | 0 => rfl
  | 1 => rfl
  | 2 => rfl
  | q + 3 =>
    show (if q + 3 < 100 then f (.inr (k, q + 3 - 10)) else f (.inr (q + 3 - 100, 0))) = f (if q + 3 < 100 then .inr (k, q + 3 - 10) else .inr (q + 3 - 100, 0))
    split <;> rfl
theorem fM_congr {k c j : Nat} {S S' : Hp} (h : S' k c j = S k c j) : fM S' k c j = fM S k c j := by unfold fM; rw [h]
def cE (cyC cyI cyO : ClassId) (rho : Nat → Nat → Nat) (S : Hp) (k c : Nat) : va_E :=
  if kT c = 1 then .inr (kN c, (List.range (kF c).length).map (fun j => cvv rho (fM S k c j)))
  else if kT c = 3 then .inl (cyC, kN c, .inl (fun j => Int32.ofInt (S k c j)))
  else if kT c = 4 then .inl (cyO, kN c, .inr (.inr (.inr (.inr (fun j => some (rho (S k c j).toNat 0))))))
  else .inl (cyI, kN c, .inl (fun j => Int32.ofInt (S k c j)))
def ids0 : List (Nat × Nat) := (List.range 30).flatMap (fun c => (List.range (kK 0 c)).map (fun k => (k, c)))
def ids (al : Nat) : List (Nat × Nat) := ids0 ++ (List.range al).map (fun k => (k, 30))
def wL (al : Nat) (cyC cyI cyO : ClassId) (rho : Nat → Nat → Nat) (S : Hp) : va_W := (ids al).map (fun q => (rho q.1 q.2, cE cyC cyI cyO rho S q.1 q.2))
theorem kK_lo {al c : Nat} (h : c < 30) : kK al c = kK 0 c := by
  unfold kK
  split
  · rfl
  · first | rfl | rw [if_pos h, if_pos h] | simp [h]
theorem kK_30 (al : Nat) : kK al 30 = al := rfl
theorem kK_hi {al c : Nat} (h : 30 < c) : kK al c = 0 := by
  unfold kK
  rw [if_neg (by omega), if_neg (by omega), if_neg (by omega)]
theorem ids_mem {al k c : Nat} : (k, c) ∈ ids al ↔ c < 36 ∧ k < kK al c := by
  simp only [ids, ids0, List.mem_append, List.mem_flatMap, List.mem_range, List.mem_map, Prod.mk.injEq]
  constructor
  · rintro (⟨a, h1, b, h2, rfl, rfl⟩ | ⟨a, h1, rfl, rfl⟩)
    · rw [kK_lo h1]; exact ⟨by omega, h2⟩
    · exact ⟨by omega, h1⟩
  · rintro ⟨h1, h2⟩
    rcases Nat.lt_or_ge c 30 with g | g
    · rw [kK_lo g] at h2
      exact Or.inl ⟨c, g, k, h2, rfl, rfl⟩
    · rcases Nat.eq_or_lt_of_le g with g2 | g2
      · subst g2
        exact Or.inr ⟨k, h2, rfl, rfl⟩
      · rw [kK_hi g2] at h2; omega
theorem ids0_nd : ids0.Nodup := by decide +kernel
theorem ids0_lt : ∀ q ∈ ids0, q.2 < 30 := by decide +kernel
theorem ids_nd (al : Nat) : (ids al).Nodup := by
  unfold ids
  rw [List.nodup_append]
  refine ⟨ids0_nd, ?_, ?_⟩
  · rw [List.nodup_iff_pairwise_ne, List.pairwise_map]
    refine List.Pairwise.imp ?_ (List.nodup_iff_pairwise_ne.mp (List.nodup_range (n := al)))
    intro a b h e
    exact h (congrArg Prod.fst e)
  · intro a ha b hb e
    subst e
    have h1 := ids0_lt a ha
    obtain ⟨k, -, rfl⟩ := List.mem_map.mp hb
    exact absurd h1 (by simp)
theorem ids_succ (al : Nat) : ids (al + 1) = ids al ++ [(al, 30)] := by
  unfold ids
  rw [List.range_succ, List.map_append, List.append_assoc]
  rfl
def vM (al : Nat) (v : MV) : Prop := match v with
  | .inl _ => True
  | .inr q => (q.2 < 36 ∧ q.1 < kK al q.2) ∨ (36 ≤ q.2 ∧ q.2 < 41 ∧ q.1 = 0)
def vS (S : Hp) : Prop := (∀ k c j : Nat, k < kK 0 c → (kF c)[j]? = some 2 → 0 ≤ S k c j ∧ S k c j < 7) ∧ ∀ (k c : Nat) (j : Int), k < kK 0 c → kT c = 4 → 0 ≤ j → j < kL c → 0 ≤ S k c j ∧ S k c j < 7
def StS (Ln : Nat) (xs : Int → Int) (S : Hp) : Prop := vS S ∧ S 0 41 0 = Ln ∧ ∀ j, S 0 40 j = xs j
theorem kF_ok : ∀ c, c < 36 → ∀ q ∈ kF c, c < 30 ∧ (3 ≤ q → (q < 100 → q - 10 < 30 ∧ kK 0 c ≤ kK 0 (q - 10)) ∧ (100 ≤ q → q - 100 < 7)) := by decide +kernel
theorem vM_fM {al : Nat} {S : Hp} {k c j q : Nat} (hS : vS S) (hc : c < 36) (hk : k < kK al c) (h : (kF c)[j]? = some q) : vM al (fM S k c j) := by
  obtain ⟨c30, h0⟩ := kF_ok c hc q (List.mem_of_getElem? h)
  rw [kK_lo c30] at hk
  have hS1 := hS.1 k c j hk
  unfold fM
  rw [h] at hS1 ⊢
  match q, h, h0 with
  | 0, _, _ => trivial
  | 1, _, _ => trivial
  | 2, _, _ =>
    have h2 := hS1 rfl
    refine Or.inl ⟨Nat.le_of_ble_eq_true rfl, ?_⟩
    show (S k c j).toNat < 7
    omega
  | q + 3, h, h0 =>
    obtain ⟨h1, h2⟩ := h0 (by omega)
    show vM al (if q + 3 < 100 then .inr (k, q + 3 - 10) else .inr (q + 3 - 100, 0))
    split
    · next h4 =>
      obtain ⟨h5, h6⟩ := h1 h4
      exact Or.inl ⟨Nat.lt_trans h5 (by decide), by rw [kK_lo h5]; exact Nat.lt_of_lt_of_le hk h6⟩
    · next h4 => exact Or.inl ⟨Nat.le_of_ble_eq_true rfl, h2 (by omega)⟩
section WLD
variable {al : Nat} {cyC cyI cyO : ClassId} {rho : Nat → Nat → Nat}
theorem cE_congr {k c : Nat} {S S' : Hp} (h : ∀ j, S' k c j = S k c j) : cE cyC cyI cyO rho S' k c = cE cyC cyI cyO rho S k c := by
  have e : S' k c = S k c := funext h
  unfold cE
  rw [e]
  have e2 : (fun j => cvv rho (fM S' k c j)) = (fun j => cvv rho (fM S k c j)) := funext fun j => by rw [fM_congr (h j)]
  rw [e2]
theorem wL_get (S : Hp) {k c : Nat} (hc : c < 36) (hk : k < kK al c) : ∃ q0 : Nat, (ids al)[q0]? = some (k, c) ∧ (wL al cyC cyI cyO rho S)[q0]? = some (rho k c, cE cyC cyI cyO rho S k c) := by
  obtain ⟨q0, h⟩ := List.getElem?_of_mem (ids_mem.mpr ⟨hc, hk⟩)
  exact ⟨q0, h, by rw [wL, List.getElem?_map, h]; rfl⟩
theorem wL_set {q0 k c : Nat} {S S' : Hp} (h : (ids al)[q0]? = some (k, c)) (ho : ∀ k' c', ¬ (k' = k ∧ c' = c) → ∀ j, S' k' c' j = S k' c' j) :
    (wL al cyC cyI cyO rho S).set q0 (rho k c, cE cyC cyI cyO rho S' k c) = wL al cyC cyI cyO rho S' := by
  apply List.ext_getElem?
  intro i
  have hl : q0 < (ids al).length := (List.getElem?_eq_some_iff.mp h).1
  rw [List.getElem?_set]
  by_cases hi : q0 = i
  · subst hi
    rw [if_pos rfl, if_pos (by rw [wL, List.length_map]; exact hl), wL, List.getElem?_map, h]
    rfl
  · rw [if_neg hi, wL, wL, List.getElem?_map, List.getElem?_map]
    cases h2 : (ids al)[i]? with
    | none => rfl
    | some q =>
      obtain ⟨k', c'⟩ := q
      have hne : ¬ (k' = k ∧ c' = c) := by
        rintro ⟨rfl, rfl⟩
        have hl2 := (List.getElem?_eq_some_iff.mp h2)
        have hl1 := (List.getElem?_eq_some_iff.mp h)
        exact hi ((List.getElem_inj (ids_nd al)).mp (hl1.2.trans hl2.2.symm))
      show some (rho k' c', cE cyC cyI cyO rho S k' c') = some (rho k' c', cE cyC cyI cyO rho S' k' c')
      rw [cE_congr (ho k' c' hne)]
theorem wL_addr (S S' : Hp) (i : Nat) : ((wL al cyC cyI cyO rho S)[i]?).map Prod.fst = ((wL al cyC cyI cyO rho S')[i]?).map Prod.fst := by
  rw [wL, wL, List.getElem?_map, List.getElem?_map]
  cases (ids al)[i]? <;> rfl
theorem wL_D {A : Nat → Prop} {S : Hp} (S' : Hp) (h : va_D A (wL al cyC cyI cyO rho S)) : va_D A (wL al cyC cyI cyO rho S') := by
  have key : ∀ (k : Nat) (q : Nat × va_E), (wL al cyC cyI cyO rho S')[k]? = some q → ∃ q0, (wL al cyC cyI cyO rho S)[k]? = some q0 ∧ q0.1 = q.1 := by
    intro k q hq
    have h1 := wL_addr (al := al) (cyC := cyC) (cyI := cyI) (cyO := cyO) (rho := rho) S S' k
    rw [hq] at h1
    cases h2 : (wL al cyC cyI cyO rho S)[k]? with
    | none => rw [h2] at h1; cases h1
    | some q0 => rw [h2] at h1; exact ⟨q0, rfl, Option.some.inj h1⟩
  refine ⟨fun i j p q hp hq hpq => ?_, fun k q hk => ?_⟩
  · obtain ⟨p0, h1, h2⟩ := key i p hp
    obtain ⟨q0, h3, h4⟩ := key j q hq
    exact h.1 i j p0 q0 h1 h3 (by rw [h2, h4, hpq])
  · obtain ⟨q0, h1, h2⟩ := key k q hk
    rw [← h2]
    exact h.2 k q0 h1
end WLD
def isN : Jvm.Cond → Bool
  | .fieldLinkNest _ _ _ _ _ _ => true
  | .methodLinkNest _ _ _ _ => true
  | .arrayOver (.object _) => true
  | _ => false
def GW : List Jvm.Cond := lw_tbl.filter goodWord
theorem GW_in {i : Nat} {w : Jvm.Cond} (h : wAt i w = true) : w ∈ GW := by
  simp only [wAt, Bool.and_eq_true, decide_eq_true_eq] at h
  exact List.mem_filter.mpr ⟨List.mem_of_getElem? h.1, h.2⟩
theorem GW_good : GoodIn GW GW := fun w h => ⟨h, good_of_word (List.mem_filter.mp h).2⟩
def tys (cyC cyI cyO : ClassId) : List (ClassId × FieldType) := [(cyC, .char), (cyI, .int), (cyO, .object RX3)]
def St0 (dC : Nat → ClassId) (dI : Nat → Nat → Nat) (cyC cyI cyO : ClassId) (rho : Nat → Nat → Nat) (A : Nat → Prop) (Ln : Nat) (xs : Int → Int) (U : State) : Prop :=
  va_K (dC, dI) vwCl (tys cyC cyI cyO) U ∧ (∀ (i : Nat) (w : Jvm.Cond), lw_tbl[i]? = some w → isN w = true → va_Nw w U) ∧
  (∀ c, 36 ≤ c → c < 40 → va_Z "TicketWindows" (stN c) "[I" (.ref (rho 0 c)) A U U.heap ∧ va_T .int (rho 0 c) (kN c) (fun j => .int (Int32.ofInt (sv c j))) A U U.heap) ∧
  va_X (rho 0 40) Ln (fun j => Int32.ofInt (xs j)) U U.heap
theorem va_X_lt {b L : Nat} {f : Nat → Int32} {U : State} {H : Heap} (h : va_X b L f U H) : b < H.size := by
  obtain ⟨scr, h1, -⟩ := h
  exact (Array.getElem?_eq_some_iff.mp h1).1
section NXT
variable {dC : Nat → ClassId} {dI : Nat → Nat → Nat} {al : Nat} {cyC cyI cyO : ClassId} {rho : Nat → Nat → Nat} {A : Nat → Prop} {Ln : Nat} {xs : Int → Int}
theorem St0_next {s U : State} {H : Heap} {locs : List Loc} (h : St0 dC dI cyC cyI cyO rho A Ln xs s) (hA : ∀ c, 36 ≤ c → c < 41 → ¬ A (rho 0 c)) (hS : va_S A s.heap H locs) (hU : U.heap = H) (hW : s.WarmedH U.vm) : St0 dC dI cyC cyI cyO rho A Ln xs U := by
  obtain ⟨h1, h2, h3, h4⟩ := h
  refine ⟨va_K.moved hW.alike h1, fun i w hi hn => ?_, fun c c1 c2 => ?_, ?_⟩
  · have h5 := h2 i w hi hn
    cases w with
    | fieldLinkNest a b c d e f => exact va_Nw.warmF hW h5
    | methodLinkNest a b c d => exact va_Nw.warmM hW h5
    | arrayOver ty =>
      cases ty with
      | object C => exact va_AO.moved hW.alike h5
      | _ => cases hn
    | _ => cases hn
  · obtain ⟨g1, g2⟩ := h3 c c1 c2
    rw [hU]
    exact ⟨va_Z.moved hW.alike (g1.kept hS.2.1), va_T.moved hW.alike (g2.kept hS.2.1)⟩
  · rw [hU]
    exact va_X.moved hW.alike (h4.kept (hS.2.1 _ (va_X_lt h4) (hA 40 (by omega) (by omega))))
theorem St0_calling {U : State} (h : St0 dC dI cyC cyI cyO rho A Ln xs U) (g : JFrame) (mk : MethodId) (a : Array Value) : St0 dC dI cyC cyI cyO rho A Ln xs (U.calling g mk a) := by
  obtain ⟨h1, h2, h3, h4⟩ := h
  refine ⟨va_K.moved (u := U) (U := U.calling g mk a) (Vm.Alike.refl U.vm) h1, fun i w hi hn => ?_, fun c c1 c2 => ?_, ?_⟩
  · have h5 := h2 i w hi hn
    cases w with
    | fieldLinkNest a b c d e f => exact va_Nw.same (u := U) rfl rfl h5
    | methodLinkNest a b c d => exact va_Nw.same (u := U) rfl rfl h5
    | arrayOver ty =>
      cases ty with
      | object C => exact va_AO.moved (u := U) (U := U.calling g mk a) (Vm.Alike.refl U.vm) h5
      | _ => cases hn
    | _ => cases hn
  · obtain ⟨g1, g2⟩ := h3 c c1 c2
    exact ⟨va_Z.moved (u := U) (U := U.calling g mk a) (Vm.Alike.refl U.vm) g1, va_T.moved (u := U) (U := U.calling g mk a) (Vm.Alike.refl U.vm) g2⟩
  · exact va_X.moved (u := U) (U := U.calling g mk a) (Vm.Alike.refl U.vm) h4
end NXT
/-- locals -/
def lvL (rho : Nat → Nat → Nat) (L : Lc) : List (Nat × Value) := (List.range L.length).filterMap (fun i => match L[i]? with
  | some (some v) => some (i, cvv rho v)
  | _ => none)
def LR (rho : Nat → Nat → Nat) (ls : Array Slot) (n : Nat) (L : Lc) : Prop := L.length = n ∧ lv_has ls n (lvL rho L)
theorem lvL_mem {rho : Nat → Nat → Nat} {L : Lc} {i : Nat} {v : MV} (h : L[i]? = some (some v)) : (i, cvv rho v) ∈ lvL rho L := by
  refine List.mem_filterMap.mpr ⟨i, List.mem_range.mpr (List.getElem?_eq_some_iff.mp h).1, ?_⟩
  rw [h]
theorem lvL_of {rho : Nat → Nat → Nat} {L : Lc} {q : Nat × Value} (h : q ∈ lvL rho L) : ∃ v, L[q.1]? = some (some v) ∧ q.2 = cvv rho v := by
  obtain ⟨i, -, h2⟩ := List.mem_filterMap.mp h
  match h3 : L[i]?, h2 with
  | some (some v), h2 => cases h2; exact ⟨v, h3, rfl⟩
theorem LR_at {rho : Nat → Nat → Nat} {ls : Array Slot} {n i : Nat} {L : Lc} {v : MV} (h : LR rho ls n L) (hv : L[i]? = some (some v)) : ls[i]? = some (.val (cvv rho v)) := h.2.2.2 _ (lvL_mem hv)
theorem cvv_cat (rho : Nat → Nat → Nat) (v : MV) : (cvv rho v).category = 1 := by cases v <;> rfl
theorem LR_put {rho : Nat → Nat → Nat} {ls' : Array Slot} {n i : Nat} {L : Lc} {v : MV} (hL : L.length = n) (hi : i < L.length)
    (h : lv_has ls' n ((i, cvv rho v) :: (lvL rho L).filter (fun q => !(q.1 == i) && !(q.1 + 1 == i && q.2.category == 2)))) : LR rho ls' n (L.set i (some v)) := by
  refine ⟨by rw [List.length_set]; exact hL, h.1, h.2.1, fun q hq => ?_⟩
  obtain ⟨w, h1, h2⟩ := lvL_of hq
  obtain ⟨j, u⟩ := q
  dsimp only at h1 h2
  subst h2
  refine h.2.2 _ ?_
  rw [List.getElem?_set] at h1
  by_cases hj : i = j
  · subst hj
    rw [if_pos rfl, if_pos hi] at h1
    cases h1
    exact List.mem_cons_self
  · rw [if_neg hj] at h1
    refine List.mem_cons_of_mem _ (List.mem_filter.mpr ⟨lvL_mem h1, ?_⟩)
    have hj2 : ¬ j = i := fun e => hj e.symm
    simp [hj2, cvv_cat]
