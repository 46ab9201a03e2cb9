/-! THE SMALL MACHINE IS TRUE: by induction on its steps -/
/-- what a step must lead to: CC holds behind it, and Gd of the next state -/
def NX (l : Launch) (dC : Nat → ClassId) (dI : Nat → Nat → Nat) (al : Nat) (cyC cyI cyO : ClassId) (rho : Nat → Nat → Nat) (A : Nat → Prop) (Ln : Nat) (xs : Int → Int) (KK : KT) (CC : Prop) (mi pc : Nat) (L : Lc) (st : List MV) (S : Hp) : Prop :=
  StS Ln xs S → (∀ (i : Nat) (v : MV), L[i]? = some (some v) → vM al v) → (∀ v ∈ st, vM al v) → CC ∧ Gd l dC dI al cyC cyI cyO rho A Ln xs mi KK pc L st S
def fw (l : Launch) (dC : Nat → ClassId) (dI : Nat → Nat → Nat) (al : Nat) (cyC cyI cyO : ClassId) (rho : Nat → Nat → Nat) (A : Nat → Prop) (Ln : Nat) (xs : Int → Int) (KK : KT) (CC : Prop) (mi : Nat) : Option Rs → Prop :=
  fo False (fun pc L st S => NX l dC dI al cyC cyI cyO rho A Ln xs KK CC mi pc L st S)
    (fun m as pc L st S => m < mN → StS Ln xs S → (∀ v ∈ as, vM al v) → ∃ (v : Option MV) (S1 : Hp), StS Ln xs S1 ∧ (∀ w, v = some w → vM al w) ∧ Gd l dC dI al cyC cyI cyO rho A Ln xs m (Rh l dC dI al cyC cyI cyO rho A m v S1) 0 (ini m as) [] S ∧ NX l dC dI al cyC cyI cyO rho A Ln xs KK CC mi pc L (v.toList ++ st) S1)
    (fun v S => StS Ln xs S → (∀ w, v = some w → vM al w) → CC ∧ ∀ (pc : Nat) (L : Lc) (st : List MV), retAt mi pc v → st.map (cvv rho) = (v.map (cvv rho)).toList → Gd l dC dI al cyC cyI cyO rho A Ln xs mi KK pc L st S)
section FE
variable {l : Launch} {dC : Nat → ClassId} {dI : Nat → Nat → Nat} {al : Nat} {cyC cyI cyO : ClassId} {rho : Nat → Nat → Nat} {A : Nat → Prop} {Ln : Nat} {xs : Int → Int} {KK : KT} {CC : Prop} {mi : Nat}
theorem fe_none {P : Prop} (h : fw l dC dI al cyC cyI cyO rho A Ln xs KK CC mi none) : P := h.elim
theorem fe_ite {c : Prop} {d : Decidable c} {a : Option Rs} (h : fw l dC dI al cyC cyI cyO rho A Ln xs KK CC mi (@ite _ c d a none)) : c ∧ fw l dC dI al cyC cyI cyO rho A Ln xs KK CC mi a := by
  split at h
  · exact ⟨by assumption, h⟩
  · exact h.elim
theorem fe_gI {L : Lc} {i : Nat} {f : Int → Option Rs} (h : fw l dC dI al cyC cyI cyO rho A Ln xs KK CC mi (gI L i f)) : ∃ z, L[i]? = some (some (.inl z)) ∧ fw l dC dI al cyC cyI cyO rho A Ln xs KK CC mi (f z) := by
  unfold gI at h
  split at h
  · next z hz => exact ⟨z, hz, h⟩
  · exact h.elim
theorem fe_gA {L : Lc} {i : Nat} {f : Nat × Nat → Option Rs} (h : fw l dC dI al cyC cyI cyO rho A Ln xs KK CC mi (gA L i f)) : ∃ z, L[i]? = some (some (.inr z)) ∧ fw l dC dI al cyC cyI cyO rho A Ln xs KK CC mi (f z) := by
  unfold gA at h
  split at h
  · next z hz => exact ⟨z, hz, h⟩
  · exact h.elim
theorem fe_sI {L : Lc} {i : Nat} {st : List MV} {f : Lc → List MV → Option Rs} (h : fw l dC dI al cyC cyI cyO rho A Ln xs KK CC mi (sI L i st f)) : ∃ z st', st = .inl z :: st' ∧ i < L.length ∧ fw l dC dI al cyC cyI cyO rho A Ln xs KK CC mi (f (L.set i (some (.inl z))) st') := by
  unfold sI at h
  split at h
  · next z st' => exact ⟨z, st', rfl, fe_ite h⟩
  · exact h.elim
theorem fe_sA {L : Lc} {i : Nat} {st : List MV} {f : Lc → List MV → Option Rs} (h : fw l dC dI al cyC cyI cyO rho A Ln xs KK CC mi (sA L i st f)) : ∃ z st', st = .inr z :: st' ∧ i < L.length ∧ fw l dC dI al cyC cyI cyO rho A Ln xs KK CC mi (f (L.set i (some (.inr z))) st') := by
  unfold sA at h
  split at h
  · next z st' => exact ⟨z, st', rfl, fe_ite h⟩
  · exact h.elim
theorem fe_bi {st : List MV} {f : Int → Int → List MV → Option Rs} (h : fw l dC dI al cyC cyI cyO rho A Ln xs KK CC mi (bi st f)) : ∃ u v st', st = .inl v :: .inl u :: st' ∧ fw l dC dI al cyC cyI cyO rho A Ln xs KK CC mi (f u v st') := by
  unfold bi at h
  split at h
  · next v u st' => exact ⟨u, v, st', rfl, h⟩
  · exact h.elim
theorem fe_gF {k c j : Nat} {S : Hp} {f : MV → Option Rs} (h : fw l dC dI al cyC cyI cyO rho A Ln xs KK CC mi (gF k c j S f)) : ∃ t, (kF c)[j]? = some t ∧ fw l dC dI al cyC cyI cyO rho A Ln xs KK CC mi (f (fM S k c j)) := by
  cases hk : (kF c)[j]? with
  | none => unfold gF at h; rw [hk] at h; exact h.elim
  | some t => rw [gF_fM hk] at h; exact ⟨t, rfl, h⟩
end FE
theorem vL_set {al : Nat} {L : Lc} {j : Nat} {w : MV} (h : ∀ (i : Nat) (v : MV), L[i]? = some (some v) → vM al v) (hw : vM al w) : ∀ (i : Nat) (v : MV), (L.set j (some w))[i]? = some (some v) → vM al v := by
  intro i v hv
  rw [List.getElem?_set] at hv
  split at hv
  · split at hv
    · cases hv; exact hw
    · cases hv
  · exact h i v hv
theorem kF_arr : ∀ c, c < 36 → kT c = 2 ∨ kT c = 3 ∨ kT c = 4 → kF c = [] := by decide +kernel
theorem StS_hu {Ln : Nat} {xs : Int → Int} {S : Hp} {k c : Nat} {j v : Int} (hS : StS Ln xs S) (hc : c < 36) (hv : (kF c)[j.toNat]? = some 2 ∨ kT c = 4 → 0 ≤ v ∧ v < 7) : StS Ln xs (hu S k c j v) := by
  obtain ⟨⟨h1, h2⟩, h3, h4⟩ := hS
  refine ⟨⟨fun k' c' j' hk hq => ?_, fun k' c' j' hk ht hj0 hj1 => ?_⟩, ?_, fun i => ?_⟩
  · unfold hu
    split
    · next e =>
      obtain ⟨rfl, rfl, e3⟩ := e
      refine hv (Or.inl ?_)
      have : j.toNat = j' := by omega
      rw [this]; exact hq
    · exact h1 k' c' j' hk hq
  · unfold hu
    split
    · next e =>
      obtain ⟨rfl, rfl, e3⟩ := e
      exact hv (Or.inr ht)
    · exact h2 k' c' j' hk ht hj0 hj1
  · unfold hu
    rw [if_neg (by omega)]
    exact h3
  · unfold hu
    rw [if_neg (by omega)]
    exact h4 i
theorem StS_hcp {Ln : Nat} {xs : Int → Int} {S : Hp} {k1 c1 k2 c2 : Nat} {sp dp n : Int} (hS : StS Ln xs S) (h2t : kT c2 = 2) : StS Ln xs (hcp S k1 c1 sp k2 c2 dp n) := by
  obtain ⟨⟨h1, h2⟩, h3, h4⟩ := hS
  have hc := kT_lt c2 (by omega)
  refine ⟨⟨fun k' c' j' hk hq => ?_, fun k' c' j' hk ht hj0 hj1 => ?_⟩, ?_, fun i => ?_⟩
  · unfold hcp
    rw [if_neg (fun e => by rw [e.2.1, kF_arr c2 hc (Or.inl h2t)] at hq; cases hq)]
    exact h1 k' c' j' hk hq
  · unfold hcp
    rw [if_neg (fun e => by rw [e.2.1] at ht; omega)]
    exact h2 k' c' j' hk ht hj0 hj1
  · unfold hcp
    rw [if_neg (by omega)]
    exact h3
  · unfold hcp
    rw [if_neg (by omega)]
    exact h4 i
theorem vM_ref {al k c : Nat} (h : vM al (.inr (k, c))) (hc : c < 36) : k < kK al c := by
  rcases h with h | h
  · exact h.2
  · have := h.1
    dsimp only at this
    omega
theorem vst_1 {al : Nat} {a b : MV} {st : List MV} (h : ∀ w ∈ a :: st, vM al w) (hb : vM al b) : ∀ w ∈ b :: st, vM al w := by
  intro w hw
  rcases List.mem_cons.mp hw with rfl | h1
  · exact hb
  · exact h w (List.mem_cons_of_mem _ h1)
theorem vst_0 {al : Nat} {b : MV} {st : List MV} (h : ∀ w ∈ st, vM al w) (hb : vM al b) : ∀ w ∈ b :: st, vM al w := by
  intro w hw
  rcases List.mem_cons.mp hw with rfl | h1
  · exact hb
  · exact h w h1
theorem vst_t {al : Nat} {a : MV} {st : List MV} (h : ∀ w ∈ a :: st, vM al w) : ∀ w ∈ st, vM al w := fun w hw => h w (List.mem_cons_of_mem _ hw)
theorem kT_4 : ∀ c, c < 36 → kT c = 4 → c < 30 := by decide +kernel
section SND
variable {l : Launch} {dC : Nat → ClassId} {dI : Nat → Nat → Nat} {al : Nat} {cyC cyI cyO : ClassId} {rho : Nat → Nat → Nat} {A : Nat → Prop} {Ln : Nat} {xs : Int → Int}
theorem c2_is {t f : Option Rs} {u v : Int} (c : Jvm.ClassFile.Cond) {KK : KT} {CC : Prop} {mi : Nat} (h : fw l dC dI al cyC cyI cyO rho A Ln xs KK CC mi (c2 t f u v c)) :
    (match c with
      | .eq => u = v | .ne => ¬ u = v ∧ (inR u ∧ inR v) | .lt => u < v ∧ (inR u ∧ inR v) | .ge => ¬ u < v ∧ (inR u ∧ inR v) | .gt => v < u ∧ (inR u ∧ inR v) | .le => ¬ v < u ∧ (inR u ∧ inR v)) ∧ fw l dC dI al cyC cyI cyO rho A Ln xs KK CC mi t ∨
    (match c with
      | .eq => ¬ (u = v) ∧ (inR u ∧ inR v) | .ne => ¬ (¬ u = v) | .lt => ¬ (u < v) ∧ (inR u ∧ inR v) | .ge => ¬ (¬ u < v) ∧ (inR u ∧ inR v) | .gt => ¬ (v < u) ∧ (inR u ∧ inR v) | .le => ¬ (¬ v < u) ∧ (inR u ∧ inR v)) ∧ fw l dC dI al cyC cyI cyO rho A Ln xs KK CC mi f := by
  cases c <;> simp only [c2] at h
  case eq =>
    split at h
    · next e => exact Or.inl ⟨e, h⟩
    · next e => obtain ⟨h1, h2⟩ := fe_ite h; exact Or.inr ⟨⟨e, h1⟩, h2⟩
  case ne =>
    split at h
    · next e => exact Or.inr ⟨fun g => g e, h⟩
    · next e => obtain ⟨h1, h2⟩ := fe_ite h; exact Or.inl ⟨⟨e, h1⟩, h2⟩
  all_goals
    obtain ⟨h1, h2⟩ := fe_ite h
    split at h2
    · next e => first | exact Or.inl ⟨⟨e, h1⟩, h2⟩ | exact Or.inr ⟨⟨fun g => g e, h1⟩, h2⟩
    · next e => first | exact Or.inr ⟨⟨e, h1⟩, h2⟩ | exact Or.inl ⟨⟨e, h1⟩, h2⟩
/-- ONE STEP IS TRUE -/
theorem stp (hLn : Ln < 2147483648) {KK : KT} {CC : Prop} {mi pc : Nat} {L : Lc} {st : List MV} {S : Hp} (h : fw l dC dI al cyC cyI cyO rho A Ln xs KK CC mi (stR mi pc L st S)) (hm : mi < mN) (hS : StS Ln xs S) (hL : ∀ (i : Nat) (v : MV), L[i]? = some (some v) → vM al v) (hst : ∀ v ∈ st, vM al v) :
    CC ∧ Gd l dC dI al cyC cyI cyO rho A Ln xs mi KK pc L st S := by
  unfold stR at h
  split at h
  · exact fe_none h
  · next ins len r1 r2 r34 heq =>
    obtain ⟨r3, r4⟩ := r34
    have hp : pc < mZ mi := by
      rcases Nat.lt_or_ge pc (mZ mi) with g | g
      · exact g
      · rw [if_neg (by omega)] at heq; cases heq
    rw [if_pos hp] at heq
    have hk := ck_all hm hp
    unfold ckAt at hk
    rw [heq] at hk
    simp only [Bool.and_eq_true, decide_eq_true_eq] at hk
    obtain ⟨hd, hlk⟩ := hk
    cases ins
    case iload_n i =>
      obtain ⟨z, hz, h⟩ := fe_gI h
      obtain ⟨g1, g3⟩ := h hS hL (vst_0 hst trivial)
      exact ⟨g1, gd_iload_n hd hz g3⟩
    case iload i =>
      obtain ⟨z, hz, h⟩ := fe_gI h
      obtain ⟨g1, g3⟩ := h hS hL (vst_0 hst trivial)
      exact ⟨g1, gd_iload hd hz g3⟩
    case aload_n i =>
      obtain ⟨z, hz, h⟩ := fe_gA h
      obtain ⟨g1, g3⟩ := h hS hL (vst_0 hst (hL _ _ hz))
      exact ⟨g1, gd_aload_n hd hz g3⟩
    case aload i =>
      obtain ⟨z, hz, h⟩ := fe_gA h
      obtain ⟨g1, g3⟩ := h hS hL (vst_0 hst (hL _ _ hz))
      exact ⟨g1, gd_aload hd hz g3⟩
    case istore_n i =>
      simp only [stI] at h
      obtain ⟨z, st', rfl, hi, h⟩ := fe_sI h
      obtain ⟨g1, g3⟩ := h hS (vL_set hL trivial) (vst_t hst)
      exact ⟨g1, gd_istore_n hd hi g3⟩
    case istore i =>
      simp only [stI] at h
      obtain ⟨z, st', rfl, hi, h⟩ := fe_sI h
      obtain ⟨g1, g3⟩ := h hS (vL_set hL trivial) (vst_t hst)
      exact ⟨g1, gd_istore hd hi g3⟩
    case astore_n i =>
      simp only [stI] at h
      obtain ⟨z, st', rfl, hi, h⟩ := fe_sA h
      obtain ⟨g1, g3⟩ := h hS (vL_set hL (hst _ List.mem_cons_self)) (vst_t hst)
      exact ⟨g1, gd_astore_n hd hi g3⟩
    case astore i =>
      simp only [stI] at h
      obtain ⟨z, st', rfl, hi, h⟩ := fe_sA h
      obtain ⟨g1, g3⟩ := h hS (vL_set hL (hst _ List.mem_cons_self)) (vst_t hst)
      exact ⟨g1, gd_astore hd hi g3⟩
    case iconst z =>
      obtain ⟨g1, g3⟩ := h hS hL (vst_0 hst trivial)
      exact ⟨g1, gd_iconst hd g3⟩
    case bipush z =>
      obtain ⟨g1, g3⟩ := h hS hL (vst_0 hst trivial)
      exact ⟨g1, gd_bipush hd (of_decide_eq_true hlk) g3⟩
    case sipush z =>
      obtain ⟨g1, g3⟩ := h hS hL (vst_0 hst trivial)
      exact ⟨g1, gd_sipush hd (of_decide_eq_true hlk) g3⟩
    case ldc i =>
      obtain ⟨g1, g3⟩ := h hS hL (vst_0 hst trivial)
      exact ⟨g1, gd_ldc hd hlk g3⟩
    case ldc_w i =>
      obtain ⟨g1, g3⟩ := h hS hL (vst_0 hst trivial)
      exact ⟨g1, gd_ldc_w hd hlk g3⟩
    case iadd =>
      obtain ⟨u, v, st', rfl, h⟩ := fe_bi h
      obtain ⟨g1, g3⟩ := h hS hL (vst_0 (vst_t (vst_t hst)) trivial)
      exact ⟨g1, gd_iadd hd g3⟩
    case isub =>
      obtain ⟨u, v, st', rfl, h⟩ := fe_bi h
      obtain ⟨g1, g3⟩ := h hS hL (vst_0 (vst_t (vst_t hst)) trivial)
      exact ⟨g1, gd_isub hd g3⟩
    case imul =>
      obtain ⟨u, v, st', rfl, h⟩ := fe_bi h
      obtain ⟨g1, g3⟩ := h hS hL (vst_0 (vst_t (vst_t hst)) trivial)
      exact ⟨g1, gd_imul hd g3⟩
    case iand =>
      obtain ⟨u, v, st', rfl, h⟩ := fe_bi h
      obtain ⟨g1, g3⟩ := h hS hL (vst_0 (vst_t (vst_t hst)) trivial)
      exact ⟨g1, gd_iand hd g3⟩
    case ior =>
      obtain ⟨u, v, st', rfl, h⟩ := fe_bi h
      obtain ⟨g1, g3⟩ := h hS hL (vst_0 (vst_t (vst_t hst)) trivial)
      exact ⟨g1, gd_ior hd g3⟩
    case ixor =>
      obtain ⟨u, v, st', rfl, h⟩ := fe_bi h
      obtain ⟨g1, g3⟩ := h hS hL (vst_0 (vst_t (vst_t hst)) trivial)
      exact ⟨g1, gd_ixor hd g3⟩
    case idiv =>
      obtain ⟨u, v, st', rfl, h⟩ := fe_bi h
      obtain ⟨hy, h⟩ := fe_ite h
      obtain ⟨g1, g3⟩ := h hS hL (vst_0 (vst_t (vst_t hst)) trivial)
      exact ⟨g1, gd_idiv hd hy g3⟩
    case irem =>
      obtain ⟨u, v, st', rfl, h⟩ := fe_bi h
      obtain ⟨hy, h⟩ := fe_ite h
      obtain ⟨g1, g3⟩ := h hS hL (vst_0 (vst_t (vst_t hst)) trivial)
      exact ⟨g1, gd_irem hd hy g3⟩
    case ishl =>
      obtain ⟨u, v, st', rfl, h⟩ := fe_bi h
      obtain ⟨hy, h⟩ := fe_ite h
      obtain ⟨g1, g3⟩ := h hS hL (vst_0 (vst_t (vst_t hst)) trivial)
      exact ⟨g1, gd_ishl hd hy g3⟩
    case ishr =>
      obtain ⟨u, v, st', rfl, h⟩ := fe_bi h
      obtain ⟨hy, h⟩ := fe_ite h
      obtain ⟨g1, g3⟩ := h hS hL (vst_0 (vst_t (vst_t hst)) trivial)
      exact ⟨g1, gd_ishr hd hy g3⟩
    case iushr =>
      obtain ⟨u, v, st', rfl, h⟩ := fe_bi h
      obtain ⟨hy, h⟩ := fe_ite h
      obtain ⟨g1, g3⟩ := h hS hL (vst_0 (vst_t (vst_t hst)) trivial)
      exact ⟨g1, gd_iushr hd hy g3⟩
    case iinc i z =>
      obtain ⟨u, hu, h⟩ := fe_gI h
      obtain ⟨hi, h⟩ := fe_ite h
      obtain ⟨g1, g3⟩ := h hS (vL_set hL trivial) hst
      exact ⟨g1, gd_iinc hd hu hi g3⟩
    case i2c =>
      match st, h, hst with
      | .inl z :: st, h, hst =>
        obtain ⟨g1, g3⟩ := h hS hL (vst_1 hst trivial)
        exact ⟨g1, gd_i2c hd g3⟩
      | [], h, _ => exact fe_none h
      | .inr _ :: _, h, _ => exact fe_none h
    case dup =>
      match st, h, hst with
      | v :: st, h, hst =>
        obtain ⟨g1, g3⟩ := h hS hL (vst_0 hst (hst _ List.mem_cons_self))
        exact ⟨g1, gd_dup hd g3⟩
      | [], h, _ => exact fe_none h
    case dup2 =>
      match st, h, hst with
      | v :: u :: st, h, hst =>
        obtain ⟨g1, g3⟩ := h hS hL (vst_0 (vst_0 hst (hst _ (List.mem_cons_of_mem _ List.mem_cons_self))) (hst _ List.mem_cons_self))
        exact ⟨g1, gd_dup2 hd g3⟩
      | [], h, _ => exact fe_none h
      | [_], h, _ => exact fe_none h
    case pop =>
      match st, h, hst with
      | v :: st, h, hst =>
        obtain ⟨g1, g3⟩ := h hS hL (vst_t hst)
        exact ⟨g1, gd_pop hd g3⟩
      | [], h, _ => exact fe_none h
    case goto i =>
      obtain ⟨g1, g3⟩ := h hS hL hst
      exact ⟨g1, gd_goto hd (of_decide_eq_true hlk) g3⟩
    case if_icmp c i =>
      obtain ⟨u, v, st', rfl, h⟩ := fe_bi h
      have ht := of_decide_eq_true hlk
      have hs := vst_t (vst_t hst)
      rcases c2_is c h with ⟨hc, h⟩ | ⟨hc, h⟩
      · obtain ⟨g1, g3⟩ := h hS hL hs
        refine ⟨g1, ?_⟩
        cases c
        case eq => exact gd_icmp_eq_t hd ht hc g3
        case ne => exact gd_icmp_ne_t hd ht hc.1 hc.2 g3
        case lt => exact gd_icmp_lt_t hd ht hc.1 hc.2 g3
        case ge => exact gd_icmp_ge_t hd ht hc.1 hc.2 g3
        case gt => exact gd_icmp_gt_t hd ht hc.1 hc.2 g3
        case le => exact gd_icmp_le_t hd ht hc.1 hc.2 g3
      · obtain ⟨g1, g3⟩ := h hS hL hs
        refine ⟨g1, ?_⟩
        cases c
        case eq => exact gd_icmp_eq_f hd ht hc.1 hc.2 g3
        case ne => exact gd_icmp_ne_f hd ht hc g3
        case lt => exact gd_icmp_lt_f hd ht hc.1 hc.2 g3
        case ge => exact gd_icmp_ge_f hd ht hc.1 hc.2 g3
        case gt => exact gd_icmp_gt_f hd ht hc.1 hc.2 g3
        case le => exact gd_icmp_le_f hd ht hc.1 hc.2 g3
    case ifCond c i =>
      match st, h, hst with
      | .inl u :: st, h, hst =>
        have ht := of_decide_eq_true hlk
        have hs := vst_t hst
        rcases c2_is c h with ⟨hc, h⟩ | ⟨hc, h⟩
        · obtain ⟨g1, g3⟩ := h hS hL hs
          refine ⟨g1, ?_⟩
          cases c
          case eq => exact gd_if_eq_t hd ht hc g3
          case ne => exact gd_if_ne_t hd ht hc.1 hc.2 g3
          case lt => exact gd_if_lt_t hd ht hc.1 hc.2 g3
          case ge => exact gd_if_ge_t hd ht hc.1 hc.2 g3
          case gt => exact gd_if_gt_t hd ht hc.1 hc.2 g3
          case le => exact gd_if_le_t hd ht hc.1 hc.2 g3
        · obtain ⟨g1, g3⟩ := h hS hL hs
          refine ⟨g1, ?_⟩
          cases c
          case eq => exact gd_if_eq_f hd ht hc.1 hc.2 g3
          case ne => exact gd_if_ne_f hd ht hc g3
          case lt => exact gd_if_lt_f hd ht hc.1 hc.2 g3
          case ge => exact gd_if_ge_f hd ht hc.1 hc.2 g3
          case gt => exact gd_if_gt_f hd ht hc.1 hc.2 g3
          case le => exact gd_if_le_f hd ht hc.1 hc.2 g3
      | [], h, _ => exact fe_none h
      | .inr _ :: _, h, _ => exact fe_none h
    case tableswitch d lo hi os =>
      match st, h, hst with
      | .inl z :: st, h, hst =>
        obtain ⟨hz, h⟩ := fe_ite h
        simp only [ckL, Bool.and_eq_true, decide_eq_true_eq] at hlk
        obtain ⟨⟨k1, k2⟩, k3⟩ := hlk
        rcases tsw_is L st S pc d z os.toList lo with ⟨-, -, o, -, e⟩ | ⟨-, e⟩
        · rw [e] at h
          obtain ⟨g1, g3⟩ := h hS hL (vst_t hst)
          exact ⟨g1, gd_tsw hd hz k1 k2 k3 e g3⟩
        · rw [e] at h
          obtain ⟨g1, g3⟩ := h hS hL (vst_t hst)
          exact ⟨g1, gd_tsw hd hz k1 k2 k3 e g3⟩
      | [], h, _ => exact fe_none h
      | .inr _ :: _, h, _ => exact fe_none h
    case lookupswitch d ps =>
      match st, h, hst with
      | .inl z :: st, h, hst =>
        obtain ⟨hz, h⟩ := fe_ite h
        simp only [ckL, Bool.and_eq_true, decide_eq_true_eq] at hlk
        obtain ⟨⟨k1, k2⟩, k3⟩ := hlk
        have e := (lsw_is L st S pc d z ps.toList).1
        rw [e] at h
        obtain ⟨g1, g3⟩ := h hS hL (vst_t hst)
        exact ⟨g1, gd_lsw hd hz k1 k2 k3 e g3⟩
      | [], h, _ => exact fe_none h
      | .inr _ :: _, h, _ => exact fe_none h
    case getfield i =>
      match st, h, hst with
      | .inr (k, c) :: st, h, hst =>
        obtain ⟨rfl, h⟩ := fe_ite h
        simp only [ckL, Bool.and_eq_true, decide_eq_true_eq] at hlk
        obtain ⟨⟨k1, k2⟩, k3⟩ := hlk
        obtain ⟨t, ht, h⟩ := fe_gF h
        have hk := vM_ref (hst _ List.mem_cons_self) k2
        obtain ⟨g1, g3⟩ := h hS hL (vst_1 hst (vM_fM hS.1 k2 hk ht))
        exact ⟨g1, gd_getfield hd k1 k2 hk ht k3 g3⟩
      | [], h, _ => exact fe_none h
      | .inl _ :: _, h, _ => exact fe_none h
    case putfield i =>
      match st, h, hst with
      | v :: .inr (k, c) :: st, h, hst =>
        obtain ⟨rfl, h⟩ := fe_ite h
        simp only [ckL, Bool.and_eq_true, Bool.or_eq_true, decide_eq_true_eq] at hlk
        obtain ⟨⟨⟨k1, k2⟩, k3⟩, k4⟩ := hlk
        have hk := vM_ref (hst _ (List.mem_cons_of_mem _ List.mem_cons_self)) k2
        have ho2 : ∀ {z : Int} (i : Nat), i ≠ r2 → hu S k c r2 z k c i = S k c i := fun i hi => by rw [hu_at, if_neg (by omega)]
        unfold pF at h
        split at h
        · next z hq _ =>
          rcases k4 with k4 | ⟨k4, (k5 | k5) | k5⟩
          · rw [hq] at k4; simp at k4
          · obtain ⟨g1, g3⟩ := h (StS_hu hS k2 (by rw [Int.toNat_natCast, hq]; rintro (e | e); cases e; omega)) hL (vst_t (vst_t hst))
            exact ⟨g1, gd_putfield (v := .inl z) hd k1 k2 hk hq k3 (by simpa using k4) k5.2 rfl rfl (by unfold fM; rw [hq]; show cvv rho (.inl (hu S k c r2 z k c r2)) = _; rw [hu_at, if_pos rfl]) hu_off ho2 g3⟩
          · rw [hq] at k5; cases k5.1
          · rw [hq] at k5; cases k5.1
        · next z hq _ =>
          obtain ⟨hz, h⟩ := fe_ite h
          rcases k4 with k4 | ⟨k4, (k5 | k5) | k5⟩
          · rw [hq] at k4; simp at k4
          · rw [hq] at k5; cases k5.1
          · obtain ⟨g1, g3⟩ := h (StS_hu hS k2 (by rw [Int.toNat_natCast, hq]; rintro (e | e); cases e; omega)) hL (vst_t (vst_t hst))
            exact ⟨g1, gd_putfield (v := .inl z) hd k1 k2 hk hq k3 (by simpa using k4) k5.2 (by rcases hz with rfl | rfl <;> rfl) (by rcases hz with rfl | rfl <;> rfl) (by unfold fM; rw [hq]; show cvv rho (.inl (hu S k c r2 z k c r2)) = _; rw [hu_at, if_pos rfl]) hu_off ho2 g3⟩
          · rw [hq] at k5; cases k5.1
        · next z hq _ =>
          have hz : z < 7 := vM_ref (hst _ List.mem_cons_self) (by decide)
          rcases k4 with k4 | ⟨k4, (k5 | k5) | k5⟩
          · rw [hq] at k4; simp at k4
          · rw [hq] at k5; cases k5.1
          · rw [hq] at k5; cases k5.1
          · obtain ⟨g1, g3⟩ := h (StS_hu hS k2 (fun _ => by omega)) hL (vst_t (vst_t hst))
            exact ⟨g1, gd_putfield (v := .inr (z, 0)) hd k1 k2 hk hq k3 (by simpa using k4) k5.2 rfl rfl (by unfold fM; rw [hq]; show cvv rho (.inr ((hu S k c r2 z k c r2).toNat, 0)) = _; rw [hu_at, if_pos rfl, Int.toNat_natCast]) hu_off ho2 g3⟩
        · exact fe_none h
      | [], h, _ => exact fe_none h
      | [_], h, _ => exact fe_none h
      | _ :: .inl _ :: _, h, _ => exact fe_none h
    case getstatic i =>
      simp only [ckL, Bool.and_eq_true, decide_eq_true_eq] at hlk
      obtain ⟨⟨k1, k2⟩, k3⟩ := hlk
      obtain ⟨g1, g3⟩ := h hS hL (vst_0 hst (Or.inr ⟨k1, by show r1 < 41; omega, rfl⟩))
      exact ⟨g1, gd_getstatic hd k1 k2 k3 g3⟩
    case iaload =>
      match st, h, hst with
      | .inl z :: .inr (k, c) :: st, h, hst =>
        have hv := hst _ (List.mem_cons_of_mem _ List.mem_cons_self)
        have hs := vst_t (vst_t hst)
        simp only [stI] at h
        split at h
        · next h1 =>
          obtain ⟨hz, h⟩ := fe_ite h
          obtain ⟨g1, g3⟩ := h hS hL (vst_0 hs trivial)
          exact ⟨g1, gd_iaload hd h1 (vM_ref hv (kT_lt c (by omega))) hz g3⟩
        · split at h
          · next h1 =>
            obtain ⟨hz, h⟩ := fe_ite h
            obtain ⟨g1, g3⟩ := h hS hL (vst_0 hs trivial)
            have hc : c < 41 := by rcases hv with hv | hv <;> simp only at hv <;> omega
            have hk : k = 0 := by
              rcases hv with hv | hv
              · have := (kT_5 c hc h1).1; simp only at hv; omega
              · exact hv.2.2
            subst hk
            exact ⟨g1, gd_iastatic hd h1 hc hz g3⟩
          · obtain ⟨h1, h2⟩ := fe_ite h
            obtain ⟨hz, h3⟩ := fe_ite h2
            clear h h2
            have hc : c < 41 := by rcases hv with hv | hv <;> simp only at hv <;> omega
            have hc2 := kT_6 c hc h1
            have hk : k = 0 := by
              rcases hv with hv | hv
              · simp only at hv; omega
              · exact hv.2.2
            subst hk
            subst hc2
            rw [hS.2.2] at h3
            rw [hS.2.1] at hz
            obtain ⟨g1, g3⟩ := h3 hS hL (vst_0 hs trivial)
            exact ⟨g1, gd_iascript hd hz hLn g3⟩
      | [], h, _ => exact fe_none h
      | [_], h, _ => cases ‹MV› <;> exact fe_none h
      | .inl _ :: .inl _ :: _, h, _ => exact fe_none h
      | .inr _ :: _ :: _, h, _ => exact fe_none h
    case iastore =>
      match st, h, hst with
      | .inl v :: .inl z :: .inr (k, c) :: st, h, hst =>
        obtain ⟨h1, h⟩ := fe_ite h
        obtain ⟨hz, h⟩ := fe_ite h
        have hc := kT_lt c (by omega)
        have hk := vM_ref (hst _ (List.mem_cons_of_mem _ (List.mem_cons_of_mem _ List.mem_cons_self))) hc
        obtain ⟨g1, g3⟩ := h (StS_hu hS hc (by rw [kF_arr c hc (Or.inl h1)]; rintro (e | e); cases e; omega)) hL (vst_t (vst_t (vst_t hst)))
        exact ⟨g1, gd_iastore hd h1 hk hz g3⟩
      | [], h, _ => exact fe_none h
      | [_], h, _ => cases ‹MV› <;> exact fe_none h
      | [.inl _, .inl _], h, _ => exact fe_none h
      | .inl _ :: .inr _ :: _, h, _ => exact fe_none h
      | .inr _ :: _ :: _, h, _ => exact fe_none h
      | .inl _ :: .inl _ :: .inl _ :: _, h, _ => exact fe_none h
    case caload =>
      match st, h, hst with
      | .inl z :: .inr (k, c) :: st, h, hst =>
        obtain ⟨h1, h⟩ := fe_ite h
        obtain ⟨hz, h⟩ := fe_ite h
        have hc := kT_lt c (by omega)
        have hk := vM_ref (hst _ (List.mem_cons_of_mem _ List.mem_cons_self)) hc
        obtain ⟨g1, g3⟩ := h hS hL (vst_0 (vst_t (vst_t hst)) trivial)
        exact ⟨g1, gd_caload hd h1 hk hz g3⟩
      | [], h, _ => exact fe_none h
      | [_], h, _ => cases ‹MV› <;> exact fe_none h
      | .inl _ :: .inl _ :: _, h, _ => exact fe_none h
      | .inr _ :: _ :: _, h, _ => exact fe_none h
    case castore =>
      match st, h, hst with
      | .inl v :: .inl z :: .inr (k, c) :: st, h, hst =>
        obtain ⟨h1, h⟩ := fe_ite h
        obtain ⟨⟨hz, hv⟩, h⟩ := fe_ite h
        have hc := kT_lt c (by omega)
        have hk := vM_ref (hst _ (List.mem_cons_of_mem _ (List.mem_cons_of_mem _ List.mem_cons_self))) hc
        obtain ⟨g1, g3⟩ := h (StS_hu hS hc (by rw [kF_arr c hc (Or.inr (Or.inl h1))]; rintro (e | e); cases e; omega)) hL (vst_t (vst_t (vst_t hst)))
        exact ⟨g1, gd_castore hd h1 hk hz hv g3⟩
      | [], h, _ => exact fe_none h
      | [_], h, _ => cases ‹MV› <;> exact fe_none h
      | [.inl _, .inl _], h, _ => exact fe_none h
      | .inl _ :: .inr _ :: _, h, _ => exact fe_none h
      | .inr _ :: _ :: _, h, _ => exact fe_none h
      | .inl _ :: .inl _ :: .inl _ :: _, h, _ => exact fe_none h
    case aaload =>
      match st, h, hst with
      | .inl z :: .inr (k, c) :: st, h, hst =>
        obtain ⟨h1, h⟩ := fe_ite h
        obtain ⟨hz, h⟩ := fe_ite h
        have hc := kT_lt c (by omega)
        have hk := vM_ref (hst _ (List.mem_cons_of_mem _ List.mem_cons_self)) hc
        have hk0 := hk
        rw [kK_lo (kT_4 c hc h1)] at hk0
        have hb := hS.1.2 k c z hk0 h1 hz.1 hz.2
        obtain ⟨g1, g3⟩ := h hS hL (vst_0 (vst_t (vst_t hst)) (Or.inl ⟨Nat.le_of_ble_eq_true rfl, by show _ < 7; omega⟩))
        exact ⟨g1, gd_aaload hd h1 hk hz g3⟩
      | [], h, _ => exact fe_none h
      | [_], h, _ => cases ‹MV› <;> exact fe_none h
      | .inl _ :: .inl _ :: _, h, _ => exact fe_none h
      | .inr _ :: _ :: _, h, _ => exact fe_none h
    case aastore =>
      simp only [stI] at h
      split at h
      · next q z k c st =>
        obtain ⟨h1, h⟩ := fe_ite h
        obtain ⟨hz, h⟩ := fe_ite h
        have hc := kT_lt c (by omega)
        have hk := vM_ref (hst _ (List.mem_cons_of_mem _ (List.mem_cons_of_mem _ List.mem_cons_self))) hc
        have hq : q < 7 := vM_ref (hst _ List.mem_cons_self) (by decide)
        obtain ⟨g1, g3⟩ := h (StS_hu hS hc (fun _ => by omega)) hL (vst_t (vst_t (vst_t hst)))
        exact ⟨g1, gd_aastore hd h1 hk hz hq g3⟩
      · exact fe_none h
    case arraylength =>
      match st, h, hst with
      | .inr (k, c) :: st, h, hst =>
        obtain ⟨h1, h3⟩ := fe_ite h
        clear h
        have hv := hst _ List.mem_cons_self
        have hc : c < 41 := by rcases hv with hv | hv <;> simp only at hv <;> omega
        have hc2 := kT_6 c hc h1
        have hk : k = 0 := by
          rcases hv with hv | hv
          · simp only at hv; omega
          · exact hv.2.2
        subst hk
        subst hc2
        rw [hS.2.1] at h3
        obtain ⟨g1, g3⟩ := h3 hS hL (vst_1 hst trivial)
        exact ⟨g1, gd_arraylength hd g3⟩
      | [], h, _ => exact fe_none h
      | .inl _ :: _, h, _ => exact fe_none h
    case invokevirtual i =>
      change fw l dC dI al cyC cyI cyO rho A Ln xs KK CC mi (match (st.take (r2 + 1)).reverse with
        | .inr (k, c) :: as => if c = mT r1 ∧ as.length = r2 ∧ (st.drop (r2 + 1)).length ≤ 8 then rC r1 (.inr (k, c) :: as) (pc + 3) L (st.drop (r2 + 1)) S else none
        | _ => none) at h
      split at h
      · next k c as hrev =>
        obtain ⟨⟨rfl, ha, h8⟩, h⟩ := fe_ite h
        simp only [ckL, Bool.and_eq_true, decide_eq_true_eq, Bool.not_eq_true'] at hlk
        obtain ⟨⟨⟨k1, k2⟩, k3⟩, k4⟩ := hlk
        have k0 := k1
        simp only [ckCall, Bool.and_eq_true, decide_eq_true_eq] at k0
        obtain ⟨⟨⟨⟨⟨-, c1⟩, c2⟩, -⟩, -⟩, -⟩ := k0
        have hz := (ckM_use c1 c2).2.1
        rw [k2] at hz
        simp only [Bool.and_eq_true, decide_eq_true_eq, Bool.false_eq_true, ↓reduceIte] at hz
        have htk : st.take (r2 + 1) = as.reverse ++ [.inr (k, mT r1)] := by
          have := congrArg List.reverse hrev
          simpa using this
        have hst' : st = as.reverse ++ .inr (k, mT r1) :: st.drop (r2 + 1) := by
          have := List.take_append_drop (r2 + 1) st
          rw [htk] at this
          simpa using this.symm
        have hk : k < kK al (mT r1) := vM_ref (hst (.inr (k, mT r1)) (by rw [hst']; simp)) hz.2
        have hvs : ∀ w ∈ (.inr (k, mT r1) :: as : List MV), vM al w := by
          intro w hw
          refine hst w ?_
          rw [hst']
          rcases List.mem_cons.mp hw with rfl | hw
          · simp
          · exact List.mem_append_left _ (List.mem_reverse.mpr hw)
        obtain ⟨v1, S1, e1, e2, e3, h⟩ := h c1 hS hvs
        have hs1 : ∀ w ∈ v1.toList ++ st.drop (r2 + 1), vM al w := by
          intro w hw
          rcases List.mem_append.mp hw with hw | hw
          · cases v1 with
            | none => cases hw
            | some u => simp at hw; subst hw; exact e2 _ rfl
          · exact hst w (List.mem_of_mem_drop hw)
        obtain ⟨g1, g3⟩ := h e1 hL hs1
        refine ⟨g1, ?_⟩
        rw [hst']
        exact gd_callV hd k1 k2 k4 hk ha h8 hS e3 g3
      · exact fe_none h
    case invokestatic i =>
      simp only [stI] at h
      split at h
      · next e9 =>
        split at h
        · next n' dp k2 c2 sp k1 c1 =>
          obtain ⟨⟨⟨t1, t2⟩, t3, t4, t5⟩, h⟩ := fe_ite h
          simp only [ckL, e9, ↓reduceIte, Bool.and_eq_true, decide_eq_true_eq] at hlk
          obtain ⟨⟨b1, b2⟩, b3⟩ := hlk
          have hk1 := vM_ref (hst (.inr (k1, c1)) (by simp)) (kT_lt c1 (by omega))
          have hk2 := vM_ref (hst (.inr (k2, c2)) (by simp)) (kT_lt c2 (by omega))
          obtain ⟨g1, g3⟩ := h (StS_hcp hS t2) hL (fun v hv => by cases hv)
          exact ⟨g1, gd_copy hd b1 b2 b3 t1 t2 hk1 hk2 t3 t4 t5 (by decide +kernel) (by decide +kernel) (by decide +kernel) g3⟩
        · exact fe_none h
      · next e9 =>
        obtain ⟨⟨ha, h8⟩, h⟩ := fe_ite h
        simp only [ckL, e9, ↓reduceIte, Bool.and_eq_true, decide_eq_true_eq] at hlk
        obtain ⟨⟨k1, k2⟩, k3⟩ := hlk
        have k0 := k1
        simp only [ckCall, Bool.and_eq_true, decide_eq_true_eq] at k0
        obtain ⟨⟨⟨⟨⟨-, c1⟩, c2⟩, -⟩, -⟩, -⟩ := k0
        have hst' : st = ((st.take r2).reverse).reverse ++ st.drop r2 := by
          rw [List.reverse_reverse, List.take_append_drop]
        obtain ⟨v1, S1, e1, e2, e3, h⟩ := h c1 hS (fun v hv => hst v (List.mem_of_mem_take (List.mem_reverse.mp hv)))
        have hs1 : ∀ w ∈ v1.toList ++ st.drop r2, vM al w := by
          intro w hw
          rcases List.mem_append.mp hw with hw | hw
          · cases v1 with
            | none => cases hw
            | some u => simp at hw; subst hw; exact e2 _ rfl
          · exact hst w (List.mem_of_mem_drop hw)
        obtain ⟨g1, g3⟩ := h e1 hL hs1
        refine ⟨g1, ?_⟩
        have h9 := gd_callS (st := st.drop r2) hd k1 k2 k3 (by rw [List.length_reverse]; exact ha) h8 hS e3 g3
        rw [← hst'] at h9
        exact h9
    case ireturn =>
      match st, h, hst with
      | [.inl z], h, hst =>
        simp only [stI] at h
        split at h
        · next hr =>
          obtain ⟨g1, g3⟩ := h hS (fun v hv => by cases hv; trivial)
          exact ⟨g1, g3 pc L [.inl z] (Or.inl ⟨z, rfl, hd, Or.inl hr⟩) rfl⟩
        · next hr =>
          obtain ⟨hz, h⟩ := fe_ite h
          obtain ⟨g1, g3⟩ := h hS (fun v hv => by cases hv; trivial)
          exact ⟨g1, g3 pc L [.inl z] (Or.inl ⟨z, rfl, hd, Or.inr ⟨hr, hz⟩⟩) rfl⟩
        · exact fe_none h
      | [], h, _ => exact fe_none h
      | [.inr _], h, _ => exact fe_none h
      | .inl _ :: _ :: _, h, _ => exact fe_none h
      | .inr _ :: _ :: _, h, _ => exact fe_none h
    case areturn =>
      match st, h, hst with
      | [.inr z], h, hst =>
        simp only [stI] at h
        split at h
        · next nn hr =>
          obtain ⟨g1, g3⟩ := h hS (fun v hv => by cases hv; exact hst _ List.mem_cons_self)
          exact ⟨g1, g3 pc L [.inr z] (Or.inr (Or.inl ⟨z, rfl, hd, Or.inl ⟨nn, hr⟩⟩)) rfl⟩
        · next nn hr =>
          obtain ⟨g1, g3⟩ := h hS (fun v hv => by cases hv; exact hst _ List.mem_cons_self)
          exact ⟨g1, g3 pc L [.inr z] (Or.inr (Or.inl ⟨z, rfl, hd, Or.inr ⟨nn, hr⟩⟩)) rfl⟩
        · exact fe_none h
      | [], h, _ => exact fe_none h
      | [.inl _], h, _ => exact fe_none h
      | .inl _ :: _ :: _, h, _ => exact fe_none h
      | .inr _ :: _ :: _, h, _ => exact fe_none h
    case return_ =>
      match st, h, hst with
      | [], h, hst =>
        simp only [stI] at h
        split at h
        · next hr =>
          obtain ⟨g1, g3⟩ := h hS (fun v hv => by cases hv)
          exact ⟨g1, g3 pc L [] (Or.inr (Or.inr ⟨rfl, hd, hr⟩)) rfl⟩
        · exact fe_none h
      | _ :: _, h, _ => exact fe_none h
    all_goals exact fe_none h
/-- THE SMALL MACHINE IS TRUE -/
theorem snd (hLn : Ln < 2147483648) : ∀ (n mi pc : Nat) (L : Lc) (st : List MV) (S : Hp) (r : Option MV) (S' : Hp), ex n mi pc L st S = some (r, S') → mi < mN → StS Ln xs S → (∀ (i : Nat) (v : MV), L[i]? = some (some v) → vM al v) → (∀ v ∈ st, vM al v) →
    (StS Ln xs S' ∧ (∀ v, r = some v → vM al v)) ∧ Gd l dC dI al cyC cyI cyO rho A Ln xs mi (Rh l dC dI al cyC cyI cyO rho A mi r S') pc L st S := by
  intro n
  induction n with
  | zero => intro mi pc L st S r S' h; simp [ex] at h
  | succ n ih =>
    intro mi pc L st S r S' h hm hS hL hst
    refine stp hLn ?_ hm hS hL hst
    rw [ex] at h
    match hr : stR mi pc L st S, h with
    | none, h => simp [fo] at h
    | some (.inl (pc', L', st', S1)), h =>
      show NX l dC dI al cyC cyI cyO rho A Ln xs _ _ mi pc' L' st' S1
      intro hS1 hL1 hst1
      exact ih _ _ _ _ _ _ _ h hm hS1 hL1 hst1
    | some (.inr (.inl (m', as, pc', L', st', S1))), h =>
      intro hm1 hS1 has
      simp only [fo] at h
      match h1 : ex n m' 0 (ini m' as) [] S1, h with
      | none, h => simp at h
      | some (v1, S2), h =>
        obtain ⟨⟨e1, e2⟩, e3⟩ := ih _ _ _ _ _ _ _ h1 hm1 hS1 (fun i v hv => has v (List.mem_of_getElem? (ini_some hv))) (fun v hv => by cases hv)
        refine ⟨v1, S2, e1, e2, e3, ?_⟩
        intro hS3 hL1 hst1
        exact ih _ _ _ _ _ _ _ h hm hS3 hL1 hst1
    | some (.inr (.inr (v', S1))), h =>
      simp only [fo, Option.some.injEq, Prod.mk.injEq] at h
      obtain ⟨rfl, rfl⟩ := h
      intro hS1 hv1
      exact ⟨⟨hS1, hv1⟩, fun pc L st hr1 hst1 => gd_ret hr1 hst1 rfl⟩
end SND
