/-! the JDK's own methods that are reached -/
theorem ze_ziu {a k : Nat} (ha : a < 2147483648) (hk : k < 32) : ((Int32.ofInt (a : Nat)).toUInt32 >>> ((Int32.ofInt (k : Nat)).toUInt32 &&& Int32.toUInt32 31)).toInt32 = Int32.ofInt ((a / 2 ^ k : Nat)) := by
  apply Int32.toBitVec_inj.mp
  apply BitVec.eq_of_toNat_eq
  have h1 : ((Int32.ofInt (a : Nat)).toUInt32 >>> ((Int32.ofInt (k : Nat)).toUInt32 &&& Int32.toUInt32 31)).toInt32.toBitVec.toNat = ((Int32.ofInt (a : Nat)).toUInt32 >>> ((Int32.ofInt (k : Nat)).toUInt32 &&& Int32.toUInt32 31)).toNat := rfl
  have key : ∀ m : Fin 32, ((Int32.ofInt (m.val : Int)).toUInt32 &&& Int32.toUInt32 31).toNat = m.val := by decide +kernel
  have k2 : ((Int32.ofInt (k : Nat)).toUInt32 &&& Int32.toUInt32 31).toNat = k := key ⟨k, hk⟩
  have h2 : (Int32.ofInt (a : Nat)).toUInt32.toNat = a := by
    show (Int32.ofInt (a : Nat)).toBitVec.toNat = _
    rw [Int32.toBitVec_ofInt, BitVec.toNat_ofInt]
    omega
  rw [h1, UInt32.toNat_shiftRight, k2, Nat.shiftRight_eq_div_pow, h2, Int32.toBitVec_ofInt, BitVec.toNat_ofInt, Nat.mod_eq_of_lt hk]
  have h4 : a / 2 ^ k ≤ a := Nat.div_le_self _ _
  generalize a / 2 ^ k = t at h4 ⊢
  omega
def cmp3 (a b : Int) : Int := if a < b then -1 else if a = b then 0 else 1

theorem CJ_cmp {G : ze_G} {l : Launch} {w : ze_W} {x y : Int} (hx : -2147483648 ≤ x ∧ x < 2147483648) (hy : -2147483648 ≤ y ∧ y < 2147483648) : ze_C G l 0 0 0 MJ6_compare [ze_i x, ze_i y] w (ze_qi (fun r w' => r = cmp3 x y ∧ w' = w)) := by
  refine ze_enter (by decide +kernel) rfl ?_
  change ze_V G l (ze_rm 0 0 0) MJ6_compare _ 0 [(0, ze_i (x)), (1, ze_i (y))] [] w 0 0
  refine ze_iload_n dJ6_compare_7cf53_0 rfl ?_
  refine ze_iload_n dJ6_compare_7cf53_1 rfl ?_
  refine ze_icmp_ge 9 dJ6_compare_7cf53_2 (by decide) (by omega) (by omega) (fun q1 => ?_) (fun q1 => ?_)
  · refine ze_iload_n dJ6_compare_7cf53_9 rfl ?_
    refine ze_iload_n dJ6_compare_7cf53_10 rfl ?_
    refine ze_icmp_ne 18 dJ6_compare_7cf53_11 (by decide) (by omega) (by omega) (fun q2 => ?_) (fun q2 => ?_)
    · refine ze_iconst dJ6_compare_7cf53_18 ?_
      exact ze_ireturn rfl dJ6_compare_7cf53_19 ⟨_, rfl, by unfold cmp3; rw [if_neg (by omega), if_neg q2], rfl⟩ rfl rfl
    · refine ze_iconst dJ6_compare_7cf53_14 ?_
      refine ze_goto 19 dJ6_compare_7cf53_15 (by decide) ?_
      exact ze_ireturn rfl dJ6_compare_7cf53_19 ⟨_, rfl, by unfold cmp3; rw [if_neg (by omega), if_pos q2], rfl⟩ rfl rfl
  · refine ze_iconst dJ6_compare_7cf53_5 ?_
    refine ze_goto 19 dJ6_compare_7cf53_6 (by decide) ?_
    exact ze_ireturn rfl dJ6_compare_7cf53_19 ⟨_, rfl, by unfold cmp3; rw [if_pos q1], rfl⟩ rfl rfl
theorem CJ_cmpu {G : ze_G} {l : Launch} {w : ze_W} {x y : Int} (hx : 0 ≤ x ∧ x < 4294967296) (hy : 0 ≤ y ∧ y < 4294967296) : ze_C G l 1 0 0 MJ6_compareUnsigned [ze_i x, ze_i y] w (ze_qi (fun r w' => r = cmp3 x y ∧ w' = w)) := by
  refine ze_enter (by decide +kernel) rfl ?_
  change ze_V G l (ze_rm 1 0 0) MJ6_compareUnsigned _ 0 [(0, ze_i (x)), (1, ze_i (y))] [] w 0 0
  refine ze_iload_n dJ6_compareUnsigned_7cf53_0 rfl ?_
  refine ze_ldc (z := -2147483648) dJ6_compareUnsigned_7cf53_1 ct_J6_127 (by decide) ?_
  refine ze_iadd dJ6_compareUnsigned_7cf53_3 ?_
  refine ze_iload_n dJ6_compareUnsigned_7cf53_4 rfl ?_
  refine ze_ldc (z := -2147483648) dJ6_compareUnsigned_7cf53_5 ct_J6_127 (by decide) ?_
  refine ze_iadd dJ6_compareUnsigned_7cf53_7 ?_
  refine ze_callS (As := [ze_i (x + (-2147483648)), ze_i (y + (-2147483648))]) (rest := []) dJ6_compareUnsigned_7cf53_8 (CJ_cmp (by omega) (by omega)) moJ6_compare ml_J6_259 st_J6_compare rfl rfl rfl ⟨Nat.le_refl _, Nat.le_refl _⟩ rfl (Nat.le_of_ble_eq_true rfl) ?_
  rintro _ w' ⟨r, rfl, rfl, rfl⟩
  refine ze_ireturn (a := cmp3 (x + -2147483648) (y + -2147483648)) rfl dJ6_compareUnsigned_7cf53_11 ⟨_, rfl, ?_, rfl⟩ rfl rfl
  unfold cmp3
  split <;> split <;> (try split) <;> (try split) <;> omega
theorem CJ_lcmp {G : ze_G} {l : Launch} {w : ze_W} {x y : Int} (hx : -9223372036854775808 ≤ x ∧ x < 9223372036854775808) (hy : -9223372036854775808 ≤ y ∧ y < 9223372036854775808) : ze_C G l 0 0 0 MJ13_compare [ze_l x, ze_l y] w (ze_qi (fun r w' => r = cmp3 x y ∧ w' = w)) := by
  refine ze_enter (by decide +kernel) rfl ?_
  change ze_V G l (ze_rm 0 0 0) MJ13_compare _ 0 [(0, ze_l (x)), (2, ze_l (y))] [] w 0 0
  refine ze_lload_n dJ13_compare_74951_0 rfl ?_
  refine ze_lload_n dJ13_compare_74951_1 rfl ?_
  refine ze_lc_ge 10 dJ13_compare_74951_2 dJ13_compare_74951_3 (by decide) (by omega) (by omega) (fun q1 => ?_) (fun q1 => ?_)
  · refine ze_lload_n dJ13_compare_74951_10 rfl ?_
    refine ze_lload_n dJ13_compare_74951_11 rfl ?_
    refine ze_lc_ne 20 dJ13_compare_74951_12 dJ13_compare_74951_13 (by decide) (by omega) (by omega) (fun q2 => ?_) (fun q2 => ?_)
    · refine ze_iconst dJ13_compare_74951_20 ?_
      exact ze_ireturn rfl dJ13_compare_74951_21 ⟨_, rfl, by unfold cmp3; rw [if_neg (by omega), if_neg q2], rfl⟩ rfl rfl
    · refine ze_iconst dJ13_compare_74951_16 ?_
      refine ze_goto 21 dJ13_compare_74951_17 (by decide) ?_
      exact ze_ireturn rfl dJ13_compare_74951_21 ⟨_, rfl, by unfold cmp3; rw [if_neg (by omega), if_pos q2], rfl⟩ rfl rfl
  · refine ze_iconst dJ13_compare_74951_6 ?_
    refine ze_goto 21 dJ13_compare_74951_7 (by decide) ?_
    exact ze_ireturn rfl dJ13_compare_74951_21 ⟨_, rfl, by unfold cmp3; rw [if_pos q1], rfl⟩ rfl rfl
theorem CJ_lcmpu {G : ze_G} {l : Launch} {w : ze_W} {x y : Int} (hx : 0 ≤ x ∧ x < 18446744073709551616) (hy : 0 ≤ y ∧ y < 18446744073709551616) : ze_C G l 1 0 0 MJ13_compareUnsigned [ze_l x, ze_l y] w (ze_qi (fun r w' => r = cmp3 x y ∧ w' = w)) := by
  refine ze_enter (by decide +kernel) rfl ?_
  change ze_V G l (ze_rm 1 0 0) MJ13_compareUnsigned _ 0 [(0, ze_l (x)), (2, ze_l (y))] [] w 0 0
  refine ze_lload_n dJ13_compareUnsigned_74951_0 rfl ?_
  refine ze_ldc2 (z := -9223372036854775808) dJ13_compareUnsigned_74951_1 ct_J13_168 (by decide) ?_
  refine ze_ladd dJ13_compareUnsigned_74951_4 ?_
  refine ze_lload_n dJ13_compareUnsigned_74951_5 rfl ?_
  refine ze_ldc2 (z := -9223372036854775808) dJ13_compareUnsigned_74951_6 ct_J13_168 (by decide) ?_
  refine ze_ladd dJ13_compareUnsigned_74951_9 ?_
  refine ze_callS (As := [ze_l (x + (-9223372036854775808)), ze_l (y + (-9223372036854775808))]) (rest := []) dJ13_compareUnsigned_74951_10 (CJ_lcmp (by omega) (by omega)) moJ13_compare ml_J13_302 st_J13_compare rfl rfl rfl ⟨Nat.le_refl _, Nat.le_refl _⟩ rfl (Nat.le_of_ble_eq_true rfl) ?_
  rintro _ w' ⟨r, rfl, rfl, rfl⟩
  refine ze_ireturn (a := cmp3 (x + -9223372036854775808) (y + -9223372036854775808)) rfl dJ13_compareUnsigned_74951_13 ⟨_, rfl, ?_, rfl⟩ rfl rfl
  unfold cmp3
  split <;> split <;> (try split) <;> (try split) <;> omega
theorem ze_zshr63 {a z : Int} (ha : -9223372036854775808 ≤ a ∧ a < 9223372036854775808) (hz : z = if a < 0 then -1 else 0) : Int64.ofInt a >>> ((Int32.ofInt 63).toInt64 &&& 63) = Int64.ofInt z := by
  rw [ze_sh64' (by omega)]
  apply Int64.toInt_inj.mp
  have h1 : (Int64.ofInt a >>> Int64.ofInt 63).toInt = (Int64.ofInt a).toInt >>> 63 := by
    show (Int64.ofInt a >>> Int64.ofInt 63).toBitVec.toInt = _
    rw [Int64.toBitVec_shiftRight]
    unfold BitVec.sshiftRight'
    rw [BitVec.toInt_sshiftRight]
    rfl
  rw [h1, ze_t64 ha, ze_t64 (by split at hz <;> omega), Int.shiftRight_eq_div_pow]
  subst hz
  have : ((2 ^ 63 : Nat) : Int) = 9223372036854775808 := by decide
  rw [this]
  split <;> omega
theorem ze_zandm {b : Int} : Int64.ofInt (-1) &&& Int64.ofInt b = Int64.ofInt b := by
  apply Int64.toBitVec_inj.mp
  rw [Int64.toBitVec_and, show (Int64.ofInt (-1)).toBitVec = BitVec.allOnes 64 by decide, BitVec.allOnes_and]
theorem ze_zand0 {b : Int} : Int64.ofInt 0 &&& Int64.ofInt b = Int64.ofInt 0 := by
  apply Int64.toBitVec_inj.mp
  rw [Int64.toBitVec_and, show (Int64.ofInt 0).toBitVec = 0#64 by decide, BitVec.zero_and]

theorem CJ_divu {G : ze_G} {l : Launch} {w : ze_W} {x y : Int} (hx : 0 ≤ x ∧ x < 18446744073709551616) (hy : 0 < y ∧ y < 4294967296) : ze_C G l 0 0 0 MJ13_divideUnsigned [ze_l x, ze_l y] w (ze_ql (fun r w' => r = x / y ∧ w' = w)) := by
  refine ze_enter (by decide +kernel) rfl ?_
  have e1 : x / 2 / y * 2 * y ≤ x := by
    have h1 := Int.mul_ediv_self_le (x := x / 2) (k := y) (by omega)
    rw [show x / 2 / y * 2 * y = y * (x / 2 / y) * 2 by rw [Int.mul_right_comm, Int.mul_comm (x / 2 / y) y]]
    omega
  have e2 : x - x / 2 / y * 2 * y < 2 * y := by
    have h1 := Int.lt_mul_ediv_self_add (x := x / 2) (k := y) (by omega)
    rw [show x / 2 / y * 2 * y = y * (x / 2 / y) * 2 by rw [Int.mul_right_comm, Int.mul_comm (x / 2 / y) y]]
    omega
  have e3 : 0 ≤ x / 2 / y := Int.ediv_nonneg (by omega) (by omega)
  have e4 : x / 2 / y ≤ x / 2 := Int.ediv_le_self _ (by omega)
  generalize hR : x - x / 2 / y * 2 * y = R at e2
  have hxR : x = R + x / 2 / y * 2 * y := by omega
  have e5 : 0 ≤ R := by omega
  change ze_V G l (ze_rm 0 0 0) MJ13_divideUnsigned _ 0 [(0, ze_l (x)), (2, ze_l (y))] [] w 0 0
  refine ze_lload_n dJ13_divideUnsigned_f86c9_0 rfl ?_
  refine ze_lconst (z := 0) dJ13_divideUnsigned_f86c9_1 (by decide) ?_
  refine ze_lc_lt 41 dJ13_divideUnsigned_f86c9_2 dJ13_divideUnsigned_f86c9_3 (by decide) (by omega) (by omega) (fun q => ?_) (fun q => ?_)
  · omega
  · refine ze_lload_n dJ13_divideUnsigned_f86c9_6 rfl ?_
    refine ze_iconst dJ13_divideUnsigned_f86c9_7 ?_
    refine ze_lushr (z := x / 2) dJ13_divideUnsigned_f86c9_8 (ze_zushr (by omega) (by omega) (by simp)) ?_
    refine ze_lload_n dJ13_divideUnsigned_f86c9_9 rfl ?_
    refine ze_ldiv dJ13_divideUnsigned_f86c9_10 (by omega) (by omega) ?_
    refine ze_iconst dJ13_divideUnsigned_f86c9_11 ?_
    refine ze_lshl (z := x / 2 / y * 2) dJ13_divideUnsigned_f86c9_12 (ze_zshl (by omega) (by simp)) ?_
    refine ze_lstore (lv' := [(0, ze_l (x)), (2, ze_l (y)), (4, ze_l (x / 2 / y * 2))]) dJ13_divideUnsigned_f86c9_13 rfl rfl ?_
    refine ze_lload_n dJ13_divideUnsigned_f86c9_15 rfl ?_
    refine ze_lload dJ13_divideUnsigned_f86c9_16 rfl ?_
    refine ze_lload_n dJ13_divideUnsigned_f86c9_18 rfl ?_
    refine ze_lmul dJ13_divideUnsigned_f86c9_19 ?_
    refine ze_lsub dJ13_divideUnsigned_f86c9_20 ?_
    rw [hR]
    refine ze_lstore (lv' := [(0, ze_l (x)), (2, ze_l (y)), (4, ze_l (x / 2 / y * 2)), (6, ze_l (R))]) dJ13_divideUnsigned_f86c9_21 rfl rfl ?_
    refine ze_lload dJ13_divideUnsigned_f86c9_23 rfl ?_
    refine ze_lload dJ13_divideUnsigned_f86c9_25 rfl ?_
    refine ze_lload dJ13_divideUnsigned_f86c9_27 rfl ?_
    refine ze_lload_n dJ13_divideUnsigned_f86c9_29 rfl ?_
    refine ze_lsub dJ13_divideUnsigned_f86c9_30 ?_
    refine ze_ldc2 (z := -1) dJ13_divideUnsigned_f86c9_31 ct_J13_306 (by decide) ?_
    refine ze_lxor (z := -(R - y) - 1) dJ13_divideUnsigned_f86c9_34 ze_znot ?_
    obtain ⟨zz, zr, ze, zs⟩ := ze_zors (a := R) (b := -(R - y) - 1) (by omega) (by omega)
    refine ze_lor (z := zz) dJ13_divideUnsigned_f86c9_35 ze ?_
    refine ze_bipush dJ13_divideUnsigned_f86c9_36 (by decide) ?_
    have hu : Int64.ofInt zz = Int64.ofInt (zz % 18446744073709551616) := by
      have h9 : zz = zz % 18446744073709551616 + 18446744073709551616 * (zz / 18446744073709551616) := by omega
      conv => lhs; rw [h9]
      rw [Int64.ofInt_add, Int64.ofInt_mul, show Int64.ofInt 18446744073709551616 = 0 by decide, Int64.zero_mul, Int64.add_zero]
    refine ze_lushr (z := (if y ≤ R then 1 else 0)) dJ13_divideUnsigned_f86c9_38 (by rw [hu]; exact ze_zushr (by omega) (by omega) (by simp only [show (63 : Int).toNat = 63 from rfl]; split <;> omega)) ?_
    refine ze_ladd dJ13_divideUnsigned_f86c9_39 ?_
    refine ze_lreturn rfl dJ13_divideUnsigned_f86c9_40 ⟨_, rfl, ?_, rfl⟩ rfl rfl
    have h6 : x / y = x / 2 / y * 2 + R / y := by
      conv => lhs; rw [hxR]
      rw [Int.add_mul_ediv_right _ _ (by omega)]
      omega
    rw [h6]
    split
    · have : R / y = 1 := by
        rw [show R = (R - y) + 1 * y by omega, Int.add_mul_ediv_right _ _ (by omega), Int.ediv_eq_zero_of_lt (by omega) (by omega)]
        rfl
      omega
    · have h7 : R / y = 0 := Int.ediv_eq_zero_of_lt (by omega) (by omega)
      omega
theorem CJ_remu {G : ze_G} {l : Launch} {w : ze_W} {x y : Int} (hx : 0 ≤ x ∧ x < 18446744073709551616) (hy : 0 < y ∧ y < 4294967296) : ze_C G l 0 0 0 MJ13_remainderUnsigned [ze_l x, ze_l y] w (ze_ql (fun r w' => r = x % y ∧ w' = w)) := by
  refine ze_enter (by decide +kernel) rfl ?_
  have e1 : x / 2 / y * 2 * y ≤ x := by
    have h1 := Int.mul_ediv_self_le (x := x / 2) (k := y) (by omega)
    rw [show x / 2 / y * 2 * y = y * (x / 2 / y) * 2 by rw [Int.mul_right_comm, Int.mul_comm (x / 2 / y) y]]
    omega
  have e2 : x - x / 2 / y * 2 * y < 2 * y := by
    have h1 := Int.lt_mul_ediv_self_add (x := x / 2) (k := y) (by omega)
    rw [show x / 2 / y * 2 * y = y * (x / 2 / y) * 2 by rw [Int.mul_right_comm, Int.mul_comm (x / 2 / y) y]]
    omega
  have e3 : 0 ≤ x / 2 / y := Int.ediv_nonneg (by omega) (by omega)
  have e4 : x / 2 / y ≤ x / 2 := Int.ediv_le_self _ (by omega)
  generalize hR : x - x / 2 / y * 2 * y = R at e2
  have hxR : x = R + x / 2 / y * 2 * y := by omega
  have e5 : 0 ≤ R := by omega
  change ze_V G l (ze_rm 0 0 0) MJ13_remainderUnsigned _ 0 [(0, ze_l (x)), (2, ze_l (y))] [] w 0 0
  refine ze_lload_n dJ13_remainderUnsigned_f86c9_0 rfl ?_
  refine ze_lconst (z := 0) dJ13_remainderUnsigned_f86c9_1 (by decide) ?_
  refine ze_lc_lt 40 dJ13_remainderUnsigned_f86c9_2 dJ13_remainderUnsigned_f86c9_3 (by decide) (by omega) (by omega) (fun q => ?_) (fun q => ?_)
  · omega
  · refine ze_lload_n dJ13_remainderUnsigned_f86c9_6 rfl ?_
    refine ze_iconst dJ13_remainderUnsigned_f86c9_7 ?_
    refine ze_lushr (z := x / 2) dJ13_remainderUnsigned_f86c9_8 (ze_zushr (by omega) (by omega) (by simp)) ?_
    refine ze_lload_n dJ13_remainderUnsigned_f86c9_9 rfl ?_
    refine ze_ldiv dJ13_remainderUnsigned_f86c9_10 (by omega) (by omega) ?_
    refine ze_iconst dJ13_remainderUnsigned_f86c9_11 ?_
    refine ze_lshl (z := x / 2 / y * 2) dJ13_remainderUnsigned_f86c9_12 (ze_zshl (by omega) (by simp)) ?_
    refine ze_lstore (lv' := [(0, ze_l (x)), (2, ze_l (y)), (4, ze_l (x / 2 / y * 2))]) dJ13_remainderUnsigned_f86c9_13 rfl rfl ?_
    refine ze_lload_n dJ13_remainderUnsigned_f86c9_15 rfl ?_
    refine ze_lload dJ13_remainderUnsigned_f86c9_16 rfl ?_
    refine ze_lload_n dJ13_remainderUnsigned_f86c9_18 rfl ?_
    refine ze_lmul dJ13_remainderUnsigned_f86c9_19 ?_
    refine ze_lsub dJ13_remainderUnsigned_f86c9_20 ?_
    rw [hR]
    refine ze_lstore (lv' := [(0, ze_l (x)), (2, ze_l (y)), (4, ze_l (x / 2 / y * 2)), (6, ze_l (R))]) dJ13_remainderUnsigned_f86c9_21 rfl rfl ?_
    refine ze_lload dJ13_remainderUnsigned_f86c9_23 rfl ?_
    refine ze_lload dJ13_remainderUnsigned_f86c9_25 rfl ?_
    refine ze_lload_n dJ13_remainderUnsigned_f86c9_27 rfl ?_
    refine ze_lsub dJ13_remainderUnsigned_f86c9_28 ?_
    refine ze_ldc2 (z := -1) dJ13_remainderUnsigned_f86c9_29 ct_J13_306 (by decide) ?_
    refine ze_lxor (z := -(R - y) - 1) dJ13_remainderUnsigned_f86c9_32 ze_znot ?_
    refine ze_bipush dJ13_remainderUnsigned_f86c9_33 (by decide) ?_
    refine ze_lshr (z := (if y ≤ R then -1 else 0)) dJ13_remainderUnsigned_f86c9_35 (ze_zshr63 (by omega) (by split <;> omega)) ?_
    refine ze_lload_n dJ13_remainderUnsigned_f86c9_36 rfl ?_
    refine ze_land (z := (if y ≤ R then y else 0)) dJ13_remainderUnsigned_f86c9_37 (by split <;> first | exact ze_zandm | exact ze_zand0) ?_
    refine ze_lsub dJ13_remainderUnsigned_f86c9_38 ?_
    refine ze_lreturn rfl dJ13_remainderUnsigned_f86c9_39 ⟨_, rfl, ?_, rfl⟩ rfl rfl
    have h6 : x % y = R % y := by
      conv => lhs; rw [hxR]
      rw [Int.add_mul_emod_self_right]
    rw [h6]
    split
    · rw [show R % y = (R - y) % y by rw [Int.sub_emod_right], Int.emod_eq_of_lt (by omega) (by omega)]
    · rw [Int.emod_eq_of_lt (by omega) (by omega)]
      omega
/-- how many leading zeros a part has -/
def nlz (i r : Nat) : Prop := (i = 0 ∧ r = 32) ∨ (0 < i ∧ r ≤ 31 ∧ 2 ^ (31 - r) ≤ i ∧ i < 2 ^ (32 - r))
theorem CJ_nlz {G : ze_G} {l : Launch} {w : ze_W} {i : Nat} (hi : i < 4294967296) : ze_C G l 0 0 0 MJ6_numberOfLeadingZeros [ze_i (i : Nat)] w (ze_qi (fun r w' => (∃ k : Nat, r = k ∧ nlz i k) ∧ w' = w)) := by
  rcases (Nat.lt_or_ge i 2147483648).symm with hs | hs
  · rw [show ze_i (i : Nat) = ze_i ((i : Nat) - 4294967296) from congrArg Value.int (ze_mod (by omega))]
    refine ze_enter (by decide +kernel) rfl ?_
    change ze_V G l (ze_rm 0 0 0) MJ6_numberOfLeadingZeros _ 0 [(0, ze_i ((i : Nat) - 4294967296))] [] w 0 0
    refine ze_iload_n dJ6_numberOfLeadingZeros_0f7a4_0 rfl ?_
    refine ze_if_gt 15 dJ6_numberOfLeadingZeros_0f7a4_1 (by decide) (by omega) (fun q => ?_) (fun q => ?_)
    · omega
    · refine ze_iload_n dJ6_numberOfLeadingZeros_0f7a4_4 rfl ?_
      refine ze_if_ne 13 dJ6_numberOfLeadingZeros_0f7a4_5 (by decide) (by omega) (fun q => ?_) (fun q => ?_)
      · refine ze_iconst dJ6_numberOfLeadingZeros_0f7a4_13 ?_
        exact ze_ireturn rfl dJ6_numberOfLeadingZeros_0f7a4_14 ⟨_, rfl, ⟨0, rfl, Or.inr ⟨by omega, by omega, by simpa using hs, by simpa using hi⟩⟩, rfl⟩ rfl rfl
      · omega
  · refine ze_enter (by decide +kernel) rfl ?_
    generalize hQ : (ze_Q G (ze_qi (fun r w' => (∃ k : Nat, r = k ∧ nlz i k) ∧ w' = w)) 0 0) = Z
    have t73 : ∀ s : Nat, s ≤ 30 → 0 < i / 2 ^ s → i / 2 ^ s < 4 → ze_V G l (ze_rm 0 0 0) MJ6_numberOfLeadingZeros Z 73 [(0, ze_i ((i / 2 ^ s : Nat))), (1, ze_i (31 - (s : Nat)))] [] w 0 0 := by
      intro s h1 h2 h3
      rw [← hQ]
      refine ze_iload_n dJ6_numberOfLeadingZeros_0f7a4_73 rfl ?_
      refine ze_iload_n dJ6_numberOfLeadingZeros_0f7a4_74 rfl ?_
      refine ze_iconst dJ6_numberOfLeadingZeros_0f7a4_75 ?_
      refine ze_iushr (z := ((i / 2 ^ s / 2 ^ 1 : Nat))) dJ6_numberOfLeadingZeros_0f7a4_76 (ze_ziu (k := 1) (by omega) (by omega)) ?_
      refine ze_isub dJ6_numberOfLeadingZeros_0f7a4_77 ?_
      refine ze_ireturn rfl dJ6_numberOfLeadingZeros_0f7a4_78 ⟨_, rfl, ⟨31 - s - i / 2 ^ s / 2 ^ 1, by omega, Or.inr ?_⟩, rfl⟩ rfl rfl
      have h4 := Nat.div_add_mod i (2 ^ s)
      have h5 := Nat.mod_lt i (Nat.two_pow_pos s)
      have hpos : 0 < i := by
        rcases Nat.eq_zero_or_pos i with h | h
        · rw [h] at h2; simp at h2
        · exact h
      refine ⟨hpos, by omega, ?_⟩
      rcases Nat.lt_or_ge (i / 2 ^ s) 2 with h6 | h6
      · have h7 : i / 2 ^ s = 1 := by omega
        rw [h7] at h4 ⊢
        rw [show 31 - (31 - s - 1 / 2 ^ 1) = s by omega, show 32 - (31 - s - 1 / 2 ^ 1) = s + 1 by omega, Nat.pow_succ]
        omega
      · have h7 : i / 2 ^ s / 2 ^ 1 = 1 := by omega
        rw [h7, show 31 - (31 - s - 1) = s + 1 by omega, show 32 - (31 - s - 1) = s + 1 + 1 by omega, Nat.pow_succ, Nat.pow_succ]
        rcases Nat.lt_or_ge (i / 2 ^ s) 3 with h8 | h8
        · have h9 : i / 2 ^ s = 2 := by omega
          rw [h9] at h4
          omega
        · have h9 : i / 2 ^ s = 3 := by omega
          rw [h9] at h4
          omega
    have t61 : ∀ s : Nat, s ≤ 28 → 0 < i / 2 ^ s → i / 2 ^ s < 16 → ze_V G l (ze_rm 0 0 0) MJ6_numberOfLeadingZeros Z 61 [(0, ze_i ((i / 2 ^ s : Nat))), (1, ze_i (31 - (s : Nat)))] [] w 0 0 := by
      intro s h1 h2 h3
      refine ze_iload_n dJ6_numberOfLeadingZeros_0f7a4_61 rfl ?_
      refine ze_iconst dJ6_numberOfLeadingZeros_0f7a4_62 ?_
      refine ze_icmp_lt 73 dJ6_numberOfLeadingZeros_0f7a4_63 (by decide) (by omega) (by omega) (fun q => ?_) (fun q => ?_)
      · exact t73 s (by omega) h2 (by omega)
      · have hd : i / 2 ^ s / 2 ^ 2 = i / 2 ^ (s + 2) := by rw [Nat.div_div_eq_div_mul, ← Nat.pow_add]
        refine ze_iinc (b := 31 - ((s + 2 : Nat) : Nat)) (lv' := [(0, ze_i ((i / 2 ^ s : Nat))), (1, ze_i (31 - ((s + 2 : Nat) : Nat)))]) dJ6_numberOfLeadingZeros_0f7a4_66 rfl rfl (by omega) rfl ?_
        refine ze_iload_n dJ6_numberOfLeadingZeros_0f7a4_69 rfl ?_
        refine ze_iconst dJ6_numberOfLeadingZeros_0f7a4_70 ?_
        refine ze_iushr (z := ((i / 2 ^ s / 2 ^ 2 : Nat))) dJ6_numberOfLeadingZeros_0f7a4_71 (ze_ziu (k := 2) (by omega) (by omega)) ?_
        rw [hd]
        refine ze_istore_n (lv' := [(0, ze_i ((i / 2 ^ (s + 2) : Nat))), (1, ze_i (31 - ((s + 2 : Nat) : Nat)))]) dJ6_numberOfLeadingZeros_0f7a4_72 rfl rfl ?_
        exact t73 (s + 2) (by omega) (by omega) (by omega)
    have t48 : ∀ s : Nat, s ≤ 24 → 0 < i / 2 ^ s → i / 2 ^ s < 256 → ze_V G l (ze_rm 0 0 0) MJ6_numberOfLeadingZeros Z 48 [(0, ze_i ((i / 2 ^ s : Nat))), (1, ze_i (31 - (s : Nat)))] [] w 0 0 := by
      intro s h1 h2 h3
      refine ze_iload_n dJ6_numberOfLeadingZeros_0f7a4_48 rfl ?_
      refine ze_bipush dJ6_numberOfLeadingZeros_0f7a4_49 (by decide) ?_
      refine ze_icmp_lt 61 dJ6_numberOfLeadingZeros_0f7a4_51 (by decide) (by omega) (by omega) (fun q => ?_) (fun q => ?_)
      · exact t61 s (by omega) h2 (by omega)
      · have hd : i / 2 ^ s / 2 ^ 4 = i / 2 ^ (s + 4) := by rw [Nat.div_div_eq_div_mul, ← Nat.pow_add]
        refine ze_iinc (b := 31 - ((s + 4 : Nat) : Nat)) (lv' := [(0, ze_i ((i / 2 ^ s : Nat))), (1, ze_i (31 - ((s + 4 : Nat) : Nat)))]) dJ6_numberOfLeadingZeros_0f7a4_54 rfl rfl (by omega) rfl ?_
        refine ze_iload_n dJ6_numberOfLeadingZeros_0f7a4_57 rfl ?_
        refine ze_iconst dJ6_numberOfLeadingZeros_0f7a4_58 ?_
        refine ze_iushr (z := ((i / 2 ^ s / 2 ^ 4 : Nat))) dJ6_numberOfLeadingZeros_0f7a4_59 (ze_ziu (k := 4) (by omega) (by omega)) ?_
        rw [hd]
        refine ze_istore_n (lv' := [(0, ze_i ((i / 2 ^ (s + 4) : Nat))), (1, ze_i (31 - ((s + 4 : Nat) : Nat)))]) dJ6_numberOfLeadingZeros_0f7a4_60 rfl rfl ?_
        exact t61 (s + 4) (by omega) (by omega) (by omega)
    have t33 : ∀ s : Nat, s ≤ 16 → 0 < i / 2 ^ s → i / 2 ^ s < 65536 → ze_V G l (ze_rm 0 0 0) MJ6_numberOfLeadingZeros Z 33 [(0, ze_i ((i / 2 ^ s : Nat))), (1, ze_i (31 - (s : Nat)))] [] w 0 0 := by
      intro s h1 h2 h3
      refine ze_iload_n dJ6_numberOfLeadingZeros_0f7a4_33 rfl ?_
      refine ze_sipush dJ6_numberOfLeadingZeros_0f7a4_34 (by decide) ?_
      refine ze_icmp_lt 48 dJ6_numberOfLeadingZeros_0f7a4_37 (by decide) (by omega) (by omega) (fun q => ?_) (fun q => ?_)
      · exact t48 s (by omega) h2 (by omega)
      · have hd : i / 2 ^ s / 2 ^ 8 = i / 2 ^ (s + 8) := by rw [Nat.div_div_eq_div_mul, ← Nat.pow_add]
        refine ze_iinc (b := 31 - ((s + 8 : Nat) : Nat)) (lv' := [(0, ze_i ((i / 2 ^ s : Nat))), (1, ze_i (31 - ((s + 8 : Nat) : Nat)))]) dJ6_numberOfLeadingZeros_0f7a4_40 rfl rfl (by omega) rfl ?_
        refine ze_iload_n dJ6_numberOfLeadingZeros_0f7a4_43 rfl ?_
        refine ze_bipush dJ6_numberOfLeadingZeros_0f7a4_44 (by decide) ?_
        refine ze_iushr (z := ((i / 2 ^ s / 2 ^ 8 : Nat))) dJ6_numberOfLeadingZeros_0f7a4_46 (ze_ziu (k := 8) (by omega) (by omega)) ?_
        rw [hd]
        refine ze_istore_n (lv' := [(0, ze_i ((i / 2 ^ (s + 8) : Nat))), (1, ze_i (31 - ((s + 8 : Nat) : Nat)))]) dJ6_numberOfLeadingZeros_0f7a4_47 rfl rfl ?_
        exact t48 (s + 8) (by omega) (by omega) (by omega)
    change ze_V G l (ze_rm 0 0 0) MJ6_numberOfLeadingZeros Z 0 [(0, ze_i ((i : Nat)))] [] w 0 0
    refine ze_iload_n dJ6_numberOfLeadingZeros_0f7a4_0 rfl ?_
    refine ze_if_gt 15 dJ6_numberOfLeadingZeros_0f7a4_1 (by decide) (by omega) (fun q => ?_) (fun q => ?_)
    · refine ze_bipush dJ6_numberOfLeadingZeros_0f7a4_15 (by decide) ?_
      refine ze_istore_n (lv' := [(0, ze_i ((i : Nat))), (1, ze_i (31))]) dJ6_numberOfLeadingZeros_0f7a4_17 rfl rfl ?_
      refine ze_iload_n dJ6_numberOfLeadingZeros_0f7a4_18 rfl ?_
      refine ze_ldcw (z := 65536) dJ6_numberOfLeadingZeros_0f7a4_19 ct_J6_264 (by decide) ?_
      refine ze_icmp_lt 33 dJ6_numberOfLeadingZeros_0f7a4_22 (by decide) (by omega) (by omega) (fun q => ?_) (fun q => ?_)
      · have := t33 0 (by omega) (by simp; omega) (by simp; omega)
        simpa using this
      · have hd : i / 2 ^ 16 = i / 2 ^ 16 := rfl
        refine ze_iinc (b := 31 - ((16 : Nat) : Nat)) (lv' := [(0, ze_i ((i : Nat))), (1, ze_i (31 - ((16 : Nat) : Nat)))]) dJ6_numberOfLeadingZeros_0f7a4_25 rfl rfl (by omega) rfl ?_
        refine ze_iload_n dJ6_numberOfLeadingZeros_0f7a4_28 rfl ?_
        refine ze_bipush dJ6_numberOfLeadingZeros_0f7a4_29 (by decide) ?_
        refine ze_iushr (z := ((i / 2 ^ 16 : Nat))) dJ6_numberOfLeadingZeros_0f7a4_31 (ze_ziu (k := 16) (by omega) (by omega)) ?_
        refine ze_istore_n (lv' := [(0, ze_i (((i / 2 ^ 16 : Nat)))), (1, ze_i (31 - ((16 : Nat) : Nat)))]) dJ6_numberOfLeadingZeros_0f7a4_32 rfl rfl ?_
        exact t33 16 (by omega) (by omega) (by omega)
    · rw [← hQ]
      refine ze_iload_n dJ6_numberOfLeadingZeros_0f7a4_4 rfl ?_
      refine ze_if_ne 13 dJ6_numberOfLeadingZeros_0f7a4_5 (by decide) (by omega) (fun q => ?_) (fun q => ?_)
      · omega
      · refine ze_bipush dJ6_numberOfLeadingZeros_0f7a4_8 (by decide) ?_
        refine ze_goto 14 dJ6_numberOfLeadingZeros_0f7a4_10 (by decide) ?_
        exact ze_ireturn rfl dJ6_numberOfLeadingZeros_0f7a4_14 ⟨_, rfl, ⟨32, rfl, Or.inl ⟨by omega, rfl⟩⟩, rfl⟩ rfl rfl
