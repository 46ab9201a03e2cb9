/-! THE LAW'S FRAME: from a state of the small machine (kk told arrays may still be made, al are alive) the law comes to its end -/
abbrev PT : Type := Launch × (Nat → ClassId) × (Nat → Nat → Nat) × ClassId × ClassId × ClassId × (Nat → Prop) × Nat × Nat × (Nat → Int32)
def PLn (P : PT) : Nat := P.2.2.2.2.2.2.2.2.1
def Pxs (P : PT) : Nat → Int32 := P.2.2.2.2.2.2.2.2.2
def xI (xs : Nat → Int32) : Int → Int := fun j => (xs j.toNat).toInt
def KL (P : PT) (kk : Nat) : KT := fun p _ R s m args below meth c cells slots Q => match P with
  | (_, _, _, _, _, _, A, b, Ln, xs) => R = room_1 ∧ args = #[.ref b] ∧ Q = lw_Z below #[.ref b] s ∧ lw_At p s m meth c b Ln xs ∧ A = (fun q => s.heap.size ≤ q) ∧ cells + kk ≤ 600000 ∧ slots + 64 * kk ≤ 7302249
def LW (P : PT) (kk al pc : Nat) (L : Lc) (st : List MV) (S : Hp) : Prop := match P with
  | (l, dC, dI, cyC, cyI, cyO, A, b, Ln, xs) => Ln ≤ 260 → ∀ rho : Nat → Nat → Nat, StS Ln (xI xs) S → (∀ (i : Nat) (v : MV), L[i]? = some (some v) → vM al v) → (∀ v ∈ st, vM al v) →
      Gd l dC dI al cyC cyI cyO rho A Ln (xI xs) 0 (KL (l, dC, dI, cyC, cyI, cyO, A, b, Ln, xs) kk) pc L st S
/-- one step of the law -/
def lS (P : PT) (kk al : Nat) : Option Rs → Prop := fo False (fun pc L st S => LW P kk al pc L st S) (fun m as pc L st S => Wp m 0 (ini m as) [] S (fun v S1 => LW P kk al pc L (v.toList ++ st) S1)) (fun v _ => v = some (.inl 1))
theorem mN_pos : 0 < mN := by decide
theorem LW_step {P : PT} {kk al pc : Nat} {L : Lc} {st : List MV} {S : Hp} (h : lS P kk al (stR 0 pc L st S)) : LW P kk al pc L st S := by
  obtain ⟨l, dC, dI, cyC, cyI, cyO, A, b, Ln, xs⟩ := P
  intro h260 rho hS hL hst
  have hLn : Ln < 2147483648 := by omega
  refine (stp (l := l) (dC := dC) (dI := dI) (al := al) (cyC := cyC) (cyI := cyI) (cyO := cyO) (rho := rho) (A := A) (Ln := Ln) (xs := xI xs) hLn (CC := True) ?_ mN_pos hS hL hst).2
  match hr : stR 0 pc L st S with
  | none => rw [hr] at h; exact h.elim
  | some (.inl (pc', L', st', S1)) =>
    rw [hr] at h
    intro hS1 hL1 hst1
    exact ⟨trivial, h h260 rho hS1 hL1 hst1⟩
  | some (.inr (.inl (m', as, pc', L', st', S1))) =>
    rw [hr] at h
    intro hm1 hS1 has
    obtain ⟨n, v, S2, hex, hq⟩ := h
    obtain ⟨⟨e1, e2⟩, e3⟩ := snd (l := l) (dC := dC) (dI := dI) (al := al) (cyC := cyC) (cyI := cyI) (cyO := cyO) (rho := rho) (A := A) (Ln := Ln) (xs := xI xs) hLn _ _ _ _ _ _ _ _ hex hm1 hS1 (fun i v hv => has v (List.mem_of_getElem? (ini_some hv))) (fun v hv => by cases hv)
    exact ⟨v, S2, e1, e2, e3, fun hS3 hL1 hst1 => ⟨trivial, hq h260 rho hS3 hL1 hst1⟩⟩
  | some (.inr (.inr (v', S1))) =>
    rw [hr] at h
    intro hS1 hv1
    have hv : v' = some (.inl 1) := h
    subst hv
    refine ⟨trivial, fun pc L st hret hst1 => ?_⟩
    intro p e R s m args below meth c H locs cells slots Q ls hC hP hS2 hl hK
    obtain ⟨rfl, rfl, rfl, C0, rfl, k1, k2⟩ := hK
    obtain ⟨hx, hb, hrr, hml, hown, hts0, hX, hbl, hlocks, hgv⟩ := id C0
    rw [hst1]
    rcases hret with ⟨z, hz, hd, -⟩ | ⟨q, hq, -⟩ | ⟨hq, -⟩
    · refine va_forget (fun q hq => hS2.2.2 q hq) ?_
      refine W.widen (k := 600000) (n := 7302249) (by omega) (by omega) ?_
      exact lw_ret hx hb hrr hlocks hd
    · cases hq
    · cases hq
/-- what is forgotten: told arrays behind the first al', locals -/
theorem ids_sub {al al' : Nat} (h : al' ≤ al) : (ids al').Sublist (ids al) := by
  unfold ids
  refine List.Sublist.append_left ?_ _
  refine List.Sublist.map _ ?_
  exact List.range_sublist.mpr h
theorem LW_weak {P : PT} {kk kk' al al' pc : Nat} {L L' : Lc} {st : List MV} {S : Hp} (hk : kk ≤ kk') (ha : al' ≤ al) (hlen : L'.length = L.length) (hsub : ∀ (i : Nat) (v : MV), L'[i]? = some (some v) → L[i]? = some (some v) ∧ vM al' v) (hst : ∀ v ∈ st, vM al' v) (h : LW P kk al' pc L' st S) : LW P kk' al pc L st S := by
  obtain ⟨l, dC, dI, cyC, cyI, cyO, A, b, Ln, xs⟩ := P
  intro h260 rho hS hL _
  have hg := h h260 rho hS (fun i v hv => (hsub i v hv).2) hst
  intro p e R s m args below meth c H locs cells slots Q ls hC hP hS2 hl hK
  obtain ⟨hx, hb, hml, hown, hts, hSt, hf, hlo, hcs, hss, hAD⟩ := id hC
  obtain ⟨k1, k2, k3, k4, k5, k6, k7⟩ := hK
  have hsl := ids_sub ha
  have hP1 : va_P (dC, dI) vwCl (wL al' cyC cyI cyO rho S) H := P_mem.mpr (fun q hq => P_mem.mp hP q (by
    unfold wL at hq ⊢
    exact (hsl.map _).subset hq))
  have hD1 : va_D A (wL al' cyC cyI cyO rho (fun _ _ _ => 0)) := by
    have h0 := D_nd.mp hAD.2
    refine D_nd.mpr ⟨List.Sublist.nodup ?_ h0.1, fun q hq => h0.2 q (by
      unfold wL at hq ⊢
      exact (hsl.map _).subset hq)⟩
    unfold wL
    exact (hsl.map _).map _
  refine hg p e R s m args below meth c H locs cells slots Q ls ⟨hx, hb, hml, hown, hts, hSt, hf, hlo, hcs, hss, hAD.1, hD1⟩ hP1 hS2 ?_ ⟨k1, k2, k3, k4, k5, by omega, by omega⟩
  refine ⟨by rw [hlen]; exact hl.1, hl.2.1, hl.2.2.1, fun q hq => ?_⟩
  obtain ⟨v, h1, h2⟩ := lvL_of hq
  obtain ⟨i, w⟩ := q
  dsimp only at h1 h2
  subst h2
  exact hl.2.2.2 _ (lvL_mem (hsub i v h1).1)
/-! tell: a new array -/
def rhoN (rho : Nat → Nat → Nat) (al q : Nat) : Nat → Nat → Nat := fun k c => if k = al ∧ c = 30 then q else rho k c
def zr (S : Hp) (al : Nat) : Hp := fun k c => if k = al ∧ c = 30 then (fun _ => 0) else S k c
theorem kF_30 : ∀ c, c < 36 → ∀ q ∈ kF c, 10 ≤ q → q < 100 → ¬ q - 10 = 30 := by decide +kernel
theorem kF_3 : ∀ c, c < 36 → ∀ q ∈ kF c, 3 ≤ q → 10 ≤ q := by decide +kernel
section TL
variable {al : Nat} {cyC cyI cyO : ClassId} {rho : Nat → Nat → Nat} {q : Nat} {S S' : Hp}
theorem cvv_N {v : MV} (h : vM al v) : cvv (rhoN rho al q) v = cvv rho v := by
  match v, h with
  | .inl z, _ => rfl
  | .inr (k, c), h =>
    show Value.ref _ = Value.ref _
    unfold rhoN
    rw [if_neg]
    rintro ⟨rfl, rfl⟩
    rcases h with h | h
    · have := h.2
      dsimp only at this
      rw [kK_30] at this
      omega
    · have := h.1
      dsimp only at this
      omega
theorem cE_N (hS : vS S) {k c : Nat} (hk : (k, c) ∈ ids al) : cE cyC cyI cyO (rhoN rho al q) S k c = cE cyC cyI cyO rho S k c := by
  obtain ⟨hc, hk2⟩ := ids_mem.mp hk
  have e1 : (List.range (kF c).length).map (fun j => cvv (rhoN rho al q) (fM S k c j)) = (List.range (kF c).length).map (fun j => cvv rho (fM S k c j)) := by
    apply List.map_congr_left
    intro j hj
    have hj2 := List.mem_range.mp hj
    exact cvv_N (vM_fM hS hc hk2 (List.getElem?_eq_getElem hj2))
  have e2 : ∀ n : Nat, rhoN rho al q n 0 = rho n 0 := fun n => by
    unfold rhoN
    rw [if_neg (fun h => absurd h.2 (by decide))]
  unfold cE
  rw [e1]
  simp only [e2]
theorem wL_N (hS : vS S) (hz : S al 30 = fun _ => 0) : wL (al + 1) cyC cyI cyO (rhoN rho al q) S = wL al cyC cyI cyO rho S ++ [(q, .inl (cyI, 64, .inl (fun _ : Nat => (0 : Int32))))] := by
  unfold wL
  rw [ids_succ, List.map_append]
  congr 1
  · apply List.map_congr_left
    rintro ⟨k, c⟩ hk
    dsimp only
    rw [cE_N hS hk]
    obtain ⟨hc, hk2⟩ := ids_mem.mp hk
    have e : rhoN rho al q k c = rho k c := by
      unfold rhoN
      rw [if_neg]
      rintro ⟨rfl, rfl⟩
      rw [kK_30] at hk2
      omega
    rw [e]
  · show [(rhoN rho al q al 30, cE cyC cyI cyO (rhoN rho al q) S al 30)] = _
    have e : rhoN rho al q al 30 = q := if_pos ⟨rfl, rfl⟩
    rw [e, cE_int (show kT 30 = 2 from rfl), hz]
    rfl
/-- rows that are not alive don't show -/
theorem wL_zr : wL al cyC cyI cyO rho (zr S al) = wL al cyC cyI cyO rho S := by
  unfold wL
  apply List.map_congr_left
  rintro ⟨k, c⟩ hk
  dsimp only
  rw [cE_congr (fun j => ?_)]
  obtain ⟨hc, hk2⟩ := ids_mem.mp hk
  unfold zr
  rw [if_neg]
  rintro ⟨rfl, rfl⟩
  rw [kK_30] at hk2
  omega
theorem zr_vS (h : vS S) : vS (zr S al) := by
  refine ⟨fun k c j hk hq => ?_, fun k c j hk ht h1 h2 => ?_⟩
  · have e : zr S al k c = S k c := by
      unfold zr
      rw [if_neg]
      rintro ⟨rfl, rfl⟩
      have e30 : kF 30 = [] := rfl
      rw [e30] at hq
      cases hq
    rw [e]
    exact h.1 k c j hk hq
  · have e : zr S al k c = S k c := by
      unfold zr
      rw [if_neg]
      rintro ⟨rfl, rfl⟩
      exact absurd ht (by decide)
    rw [e]
    exact h.2 k c j hk ht h1 h2
theorem zr_nc {k c : Nat} (h : ¬ c = 30) : zr S al k c = S k c := if_neg (fun q => h q.2)
theorem zr_St {Ln : Nat} {xs : Int → Int} (h : StS Ln xs S) : StS Ln xs (zr S al) := ⟨zr_vS h.1, by rw [zr_nc (by decide)]; exact h.2.1, fun j => by rw [zr_nc (by decide)]; exact h.2.2 j⟩
theorem vM_s {v : MV} (h : vM al v) : vM (al + 1) v := by
  match v, h with
  | .inl _, _ => trivial
  | .inr (k, c), h =>
    rcases h with h | h
    · refine Or.inl ⟨h.1, ?_⟩
      have h2 := h.2
      dsimp only at h2 ⊢
      rcases Nat.lt_or_ge c 30 with g | g
      · rw [kK_lo g] at h2 ⊢; exact h2
      · rcases Nat.eq_or_lt_of_le g with g | g
        · subst g
          rw [kK_30] at h2 ⊢
          omega
        · rw [kK_hi g] at h2; omega
    · exact Or.inr h
end TL
