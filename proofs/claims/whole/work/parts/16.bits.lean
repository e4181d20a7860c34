/-! shifts and joins of longs -/
theorem ze_sh64 {s : Int} (h : 0 ≤ s ∧ s < 64) : ((Int32.ofInt s).toInt64.toUInt64 &&& Int64.toUInt64 63).toNat = s.toNat := by
  obtain ⟨n, rfl⟩ := Int.eq_ofNat_of_zero_le h.1
  have hn : n < 64 := by omega
  have key : ∀ m : Fin 64, ((Int32.ofInt (m.val : Int)).toInt64.toUInt64 &&& Int64.toUInt64 63).toNat = m.val := by decide +kernel
  exact key ⟨n, hn⟩
theorem ze_sh64' {s : Int} (h : 0 ≤ s ∧ s < 64) : ((Int32.ofInt s).toInt64 &&& 63) = Int64.ofInt s := by
  obtain ⟨n, rfl⟩ := Int.eq_ofNat_of_zero_le h.1
  have hn : n < 64 := by omega
  have key : ∀ m : Fin 64, ((Int32.ofInt (m.val : Int)).toInt64 &&& 63) = Int64.ofInt (m.val : Int) := by decide +kernel
  exact key ⟨n, hn⟩
theorem ze_zushr {a s z : Int} (h : 0 ≤ s ∧ s < 64) (ha : 0 ≤ a ∧ a < 18446744073709551616) (hz : a / 2 ^ s.toNat = z) : ((Int64.ofInt a).toUInt64 >>> ((Int32.ofInt s).toInt64.toUInt64 &&& Int64.toUInt64 63)).toInt64 = Int64.ofInt z := by
  subst hz
  apply Int64.toBitVec_inj.mp
  apply BitVec.eq_of_toNat_eq
  have h1 : ((Int64.ofInt a).toUInt64 >>> ((Int32.ofInt s).toInt64.toUInt64 &&& Int64.toUInt64 63)).toInt64.toBitVec.toNat = ((Int64.ofInt a).toUInt64 >>> ((Int32.ofInt s).toInt64.toUInt64 &&& Int64.toUInt64 63)).toNat := rfl
  rw [h1, UInt64.toNat_shiftRight, ze_sh64 h, Nat.shiftRight_eq_div_pow]
  have h2 : (Int64.ofInt a).toUInt64.toNat = a.toNat := by
    show (Int64.ofInt a).toBitVec.toNat = _
    rw [Int64.toBitVec_ofInt, BitVec.toNat_ofInt]
    omega
  rw [h2, Int64.toBitVec_ofInt, BitVec.toNat_ofInt, Nat.mod_eq_of_lt (show s.toNat < 64 by omega)]
  obtain ⟨n, rfl⟩ := Int.eq_ofNat_of_zero_le ha.1
  have h3 : ((n : Int) / 2 ^ s.toNat) = ((n / 2 ^ s.toNat : Nat) : Int) := by
    rw [Int.natCast_ediv]
    simp
  rw [h3]
  have h4 : n / 2 ^ s.toNat ≤ n := Nat.div_le_self _ _
  simp only [Int.toNat_natCast]
  generalize n / 2 ^ s.toNat = t at h4 ⊢
  omega
theorem ze_zshl {a s z : Int} (h : 0 ≤ s ∧ s < 64) (hz : (a * 2 ^ s.toNat) % 18446744073709551616 = z % 18446744073709551616) : Int64.ofInt a <<< ((Int32.ofInt s).toInt64 &&& 63) = Int64.ofInt z := by
  have e1 : Int64.ofInt z = Int64.ofInt (a * 2 ^ s.toNat) := by
    have : z = a * 2 ^ s.toNat + 18446744073709551616 * ((z - a * 2 ^ s.toNat) / 18446744073709551616) := by omega
    rw [this, Int64.ofInt_add, Int64.ofInt_mul 18446744073709551616, show Int64.ofInt 18446744073709551616 = 0 by decide, Int64.zero_mul, Int64.add_zero]
  rw [e1, ze_sh64' h, Int64.ofInt_mul]
  obtain ⟨n, rfl⟩ := Int.eq_ofNat_of_zero_le h.1
  have hn : n < 64 := by omega
  have key : ∀ m : Fin 64, Int64.ofInt (2 ^ m.val) = 1 <<< Int64.ofInt (m.val : Int) := by decide +kernel
  have k2 := key ⟨n, hn⟩
  simp only [Int.toNat_natCast]
  have k3 : (Int64.ofInt (2 ^ n)) = 1 <<< Int64.ofInt (n : Int) := k2
  rw [k3]
  have key2 : ∀ m : Fin 64, ((Int64.ofInt (m.val : Int)).toBitVec.smod 64).toNat = m.val := by decide +kernel
  have k4 : ((Int64.ofInt (n : Int)).toBitVec.smod 64).toNat = n := key2 ⟨n, hn⟩
  apply Int64.toBitVec_inj.mp
  rw [Int64.toBitVec_mul, Int64.toBitVec_shiftLeft, Int64.toBitVec_shiftLeft]
  apply BitVec.eq_of_toNat_eq
  rw [BitVec.toNat_mul]
  simp only [BitVec.shiftLeft_eq', BitVec.toNat_shiftLeft, k4]
  have h1 : (1 : Int64).toBitVec.toNat = 1 := rfl
  rw [h1, Nat.shiftLeft_eq, Nat.shiftLeft_eq, Nat.one_mul, Nat.mod_eq_of_lt (Nat.pow_lt_pow_right (by decide) hn)]
theorem ze_zor {a b z : Int} (k : Nat) (ha : 0 ≤ a ∧ a < 18446744073709551616) (hd : a % 2 ^ k = 0) (hb : 0 ≤ b ∧ b < 2 ^ k) (hk : k ≤ 64) (hz : a + b = z) : Int64.ofInt a ||| Int64.ofInt b = Int64.ofInt z := by
  subst hz
  obtain ⟨n, rfl⟩ := Int.eq_ofNat_of_zero_le ha.1
  obtain ⟨m, rfl⟩ := Int.eq_ofNat_of_zero_le hb.1
  have hm : m < 2 ^ k := by
    have := hb.2
    exact_mod_cast this
  have hd' : n % 2 ^ k = 0 := by
    have := hd
    exact_mod_cast this
  have hn : n < 18446744073709551616 := by omega
  have hk2 : 2 ^ k ≤ 2 ^ 64 := Nat.pow_le_pow_right (by decide) hk
  have hm2 : m < 18446744073709551616 := by
    have : (2 : Nat) ^ 64 = 18446744073709551616 := by decide
    omega
  apply Int64.toBitVec_inj.mp
  apply BitVec.eq_of_toNat_eq
  rw [Int64.toBitVec_or, BitVec.toNat_or]
  simp only [Int64.toBitVec_ofInt, BitVec.toNat_ofInt]
  have e1 : ((n : Int) % ((2 ^ 64 : Nat) : Int)).toNat = n := by omega
  have e2 : ((m : Int) % ((2 ^ 64 : Nat) : Int)).toNat = m := by omega
  have e0 : n = 2 ^ k * (n / 2 ^ k) := by
    have := Nat.div_add_mod n (2 ^ k)
    omega
  have e3 : n ||| m = n + m := by
    rw [e0]
    exact (Nat.two_pow_add_eq_or_of_lt hm (n / 2 ^ k)).symm
  rw [e1, e2, e3]
  have hsum : n + m < 18446744073709551616 := by
    obtain ⟨d, hd2⟩ : ∃ d, 2 ^ 64 = 2 ^ k * d := ⟨2 ^ (64 - k), by rw [← Nat.pow_add]; congr 1; omega⟩
    have hq : n / 2 ^ k < d := by
      apply Nat.div_lt_of_lt_mul
      rw [← hd2]
      exact hn
    have h5 : 2 ^ k * (n / 2 ^ k + 1) ≤ 2 ^ k * d := Nat.mul_le_mul_left _ hq
    rw [Nat.mul_add, ← e0, ← hd2] at h5
    have : (2 : Nat) ^ 64 = 18446744073709551616 := by decide
    omega
  omega
theorem ze_znot {a : Int} : Int64.ofInt a ^^^ Int64.ofInt (-1) = Int64.ofInt (-a - 1) := by
  apply Int64.toBitVec_inj.mp
  rw [Int64.toBitVec_xor]
  have h1 : (Int64.ofInt (-1)).toBitVec = BitVec.allOnes 64 := by decide
  rw [h1, BitVec.xor_allOnes, Int64.ofInt_sub, Int64.ofInt_neg, Int64.toBitVec_sub, Int64.toBitVec_neg, BitVec.neg_eq_not_add]
  have h2 : (Int64.ofInt 1).toBitVec = 1#64 := rfl
  rw [h2, BitVec.add_sub_cancel]
theorem ze_msb {a : Int} (h : -9223372036854775808 ≤ a ∧ a < 9223372036854775808) : (Int64.ofInt a).toBitVec.msb = decide (a < 0) := by
  rw [BitVec.msb_eq_toInt, show (Int64.ofInt a).toBitVec.toInt = a from ze_t64 h]
/-- the sign of a join -/
theorem ze_zors {a b : Int} (ha : -9223372036854775808 ≤ a ∧ a < 9223372036854775808) (hb : -9223372036854775808 ≤ b ∧ b < 9223372036854775808) : ∃ z : Int, (-9223372036854775808 ≤ z ∧ z < 9223372036854775808) ∧ Int64.ofInt a ||| Int64.ofInt b = Int64.ofInt z ∧ (z < 0 ↔ a < 0 ∨ b < 0) := by
  refine ⟨(Int64.ofInt a ||| Int64.ofInt b).toInt, ⟨Int64.le_toInt _, Int64.toInt_lt _⟩, (Int64.ofInt_toInt _).symm, ?_⟩
  have h1 : (Int64.ofInt a ||| Int64.ofInt b).toBitVec.msb = decide ((Int64.ofInt a ||| Int64.ofInt b).toInt < 0) := by
    rw [BitVec.msb_eq_toInt]
    rfl
  rw [Int64.toBitVec_or, BitVec.msb_or, ze_msb ha, ze_msb hb] at h1
  have h2 := h1.symm
  simp only [Bool.or_eq_true, decide_eq_true_eq, ← Bool.decide_or, decide_eq_decide] at h2
  exact h2
