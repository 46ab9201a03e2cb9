/-! numbers: what ofInt does to the operations -/
theorem oi_toInt {z : Int} (h : inR z) : (Int32.ofInt z).toInt = z := by
  obtain ⟨h1, h2⟩ := h
  exact Int32.toInt_ofInt_of_le (by omega) (by omega)
theorem oi_lt {u v : Int} (hu : inR u) (hv : inR v) : Int32.ofInt u < Int32.ofInt v ↔ u < v := by
  rw [Int32.lt_iff_toInt_lt, oi_toInt hu, oi_toInt hv]
theorem oi_le {u v : Int} (hu : inR u) (hv : inR v) : Int32.ofInt u ≤ Int32.ofInt v ↔ u ≤ v := by
  rw [Int32.le_iff_toInt_le, oi_toInt hu, oi_toInt hv]
theorem oi_eq {u v : Int} (hu : inR u) (hv : inR v) : Int32.ofInt u = Int32.ofInt v ↔ u = v := by
  constructor
  · intro h
    have h1 := congrArg Int32.toInt h
    rwa [oi_toInt hu, oi_toInt hv] at h1
  · intro h; rw [h]
theorem oi_nI (n : Nat) : Int32.ofInt (n : Int) = nI n := Int32.ofInt_eq_ofNat
theorem oi_clamp {z : Int} (h0 : 0 ≤ z) (h : z < 2147483648) : (Int32.ofInt z).toNatClampNeg = z.toNat := by
  obtain ⟨n, rfl⟩ : ∃ n : Nat, z = n := ⟨z.toNat, by omega⟩
  rw [oi_nI, nI_clamp (by omega)]
  rfl
theorem oi_in {z : Int} {n : Nat} (h0 : 0 ≤ z) (h : z < n) (hn : n < 2147483648) : vp_in (Int32.ofInt z) n := by
  obtain ⟨k, rfl⟩ : ∃ k : Nat, z = k := ⟨z.toNat, by omega⟩
  rw [oi_nI]
  exact vp_in_nI (by omega) (by omega)
theorem oi_div {u v : Int} (h : 0 ≤ u ∧ u < 2147483648 ∧ 0 < v ∧ v < 2147483648) : Int32.ofInt u / Int32.ofInt v = Int32.ofInt (u / v) := by
  obtain ⟨a, rfl⟩ : ∃ a : Nat, u = a := ⟨u.toNat, by omega⟩
  obtain ⟨b, rfl⟩ : ∃ b : Nat, v = b := ⟨v.toNat, by omega⟩
  rw [← Int.natCast_ediv, oi_nI, oi_nI, oi_nI]
  exact pk_div (by omega) (by omega) (by omega)
theorem oi_rem {u v : Int} (h : 0 ≤ u ∧ u < 2147483648 ∧ 0 < v ∧ v < 2147483648) : Int32.ofInt u - Int32.ofInt u / Int32.ofInt v * Int32.ofInt v = Int32.ofInt (u % v) := by
  obtain ⟨a, rfl⟩ : ∃ a : Nat, u = a := ⟨u.toNat, by omega⟩
  obtain ⟨b, rfl⟩ : ∃ b : Nat, v = b := ⟨v.toNat, by omega⟩
  rw [← Int.natCast_emod, oi_nI, oi_nI, oi_nI]
  exact pk_rem (by omega) (by omega) (by omega)
theorem oi_s_l : ∀ n, n < 32 → ((nI n &&& 31).toBitVec.smod 32).toNat = n := by decide +kernel
theorem oi_s_u : ∀ n, n < 32 → (((nI n).toUInt32 &&& Int32.toUInt32 31).toBitVec % 32).toNat = n := by decide +kernel
theorem oi_shl {u v : Int} (h : 0 ≤ v ∧ v < 32 ∧ 0 ≤ u ∧ u * 2 ^ v.toNat < 2147483648) : Int32.ofInt u <<< (Int32.ofInt v &&& 31) = Int32.ofInt (u * 2 ^ v.toNat) := by
  obtain ⟨a, rfl⟩ : ∃ a : Nat, u = a := ⟨u.toNat, by omega⟩
  obtain ⟨b, rfl⟩ : ∃ b : Nat, v = b := ⟨v.toNat, by omega⟩
  have e : ((a : Int) * 2 ^ (b : Int).toNat) = ((a * 2 ^ b : Nat) : Int) := by simp
  rw [e] at h ⊢
  rw [oi_nI, oi_nI, oi_nI]
  exact pk_shlN _ b (oi_s_l b (by omega)) (by omega)
theorem oi_shr {u v : Int} (h : 0 ≤ v ∧ v < 32 ∧ -2147483648 ≤ u ∧ u < 2147483648) : Int32.ofInt u >>> (Int32.ofInt v &&& 31) = Int32.ofInt (u / 2 ^ v.toNat) := by
  obtain ⟨h1, h2, h3, h4⟩ := h
  obtain ⟨b, rfl⟩ : ∃ b : Nat, v = b := ⟨v.toNat, by omega⟩
  have e1 := oi_s_l b (by omega)
  have hb : ((Int32.ofInt (b : Int)) &&& 31).toBitVec.smod 32 = ((nI b) &&& 31).toBitVec.smod 32 := by rw [oi_nI]
  apply Int32.toInt_inj.1
  have hd : inR (u / 2 ^ (b : Int).toNat) := by
    have hp : (1 : Int) ≤ 2 ^ b := by
      have h5 : (1 : Nat) ≤ 2 ^ b := Nat.one_le_two_pow
      have h6 : (((2 : Nat) ^ b : Nat) : Int) = 2 ^ b := by simp
      omega
    rw [Int.toNat_natCast]
    constructor
    · have := Int.le_ediv_of_mul_le (a := -2147483648) (b := u) (c := 2 ^ b) (by omega) (by
        generalize (2 : Int) ^ b = p at *
        omega)
      exact this
    · exact Int.ediv_lt_of_lt_mul (by omega) (by
        generalize (2 : Int) ^ b = p at *
        omega)
  rw [oi_toInt hd]
  show ((Int32.ofInt u).toBitVec.sshiftRight' (((Int32.ofInt (b : Int)) &&& 31).toBitVec.smod 32)).toInt = _
  rw [hb, BitVec.sshiftRight', BitVec.toInt_sshiftRight, e1, Int.shiftRight_eq_div_pow]
  have e3 : (Int32.ofInt u).toBitVec.toInt = u := oi_toInt ⟨h3, h4⟩
  rw [e3]
  simp
theorem oi_ushr {u v : Int} (h : 0 ≤ v ∧ v < 32 ∧ 0 ≤ u ∧ u < 2147483648) : ((Int32.ofInt u).toUInt32 >>> ((Int32.ofInt v).toUInt32 &&& Int32.toUInt32 31)).toInt32 = Int32.ofInt (u / 2 ^ v.toNat) := by
  obtain ⟨a, rfl⟩ : ∃ a : Nat, u = a := ⟨u.toNat, by omega⟩
  obtain ⟨b, rfl⟩ : ∃ b : Nat, v = b := ⟨v.toNat, by omega⟩
  have e : ((a : Int) / 2 ^ (b : Int).toNat) = ((a / 2 ^ b : Nat) : Int) := by simp
  rw [e, oi_nI, oi_nI, oi_nI]
  exact pk_ushrN (by omega) _ b (oi_s_u b (by omega))
theorem oi_char (z : Int) : ((Int32.ofInt z).toUInt32 % 65536).toInt32 = Int32.ofInt (z % 65536) := by
  rw [pk_char]
  have e : z % 65536 = (((Int32.ofInt z).toBitVec.toNat % 65536 : Nat) : Int) := by
    rw [Int32.toBitVec_ofInt, BitVec.toNat_ofInt]
    have h1 : (0 : Int) ≤ z % ((2 ^ 32 : Nat) : Int) := Int.emod_nonneg _ (by decide)
    omega
  rw [e, oi_nI]
theorem oi_nar {v : Int} (h : 0 ≤ v ∧ v < 65536) : vp_nar .char (Int32.ofInt v) = Int32.ofInt v := by
  obtain ⟨a, rfl⟩ : ∃ a : Nat, v = a := ⟨v.toNat, by omega⟩
  rw [oi_nI]
  unfold vp_nar
  rw [(pk_charN (by omega : a < 65536)).1]
theorem oi_and (u v : Int) : Int32.ofInt u &&& Int32.ofInt v = Int32.ofInt (bAnd u v) := (Int32.ofInt_toInt _).symm
theorem oi_or (u v : Int) : Int32.ofInt u ||| Int32.ofInt v = Int32.ofInt (bOr u v) := (Int32.ofInt_toInt _).symm
theorem oi_xor (u v : Int) : Int32.ofInt u ^^^ Int32.ofInt v = Int32.ofInt (bXor u v) := (Int32.ofInt_toInt _).symm
theorem oi_ne0 {v : Int} (h : 0 < v) (h2 : v < 2147483648) : ¬ Int32.ofInt v = 0 := by
  intro e
  have h1 := (oi_eq (u := v) (v := 0) (by omega) (by omega)).mp (e.trans rfl)
  omega
