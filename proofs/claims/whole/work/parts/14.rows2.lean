/-! more rows: writes with a new name for the store; compares of longs; unsigned parts -/
theorem ze_uz {a : Int} (ha : -4294967296 < a ∧ a < 4294967296) : Int32.ofInt a = 0 ↔ a = 0 := by
  constructor
  · intro h
    have h2 := congrArg (fun x : Int32 => x.toBitVec.toNat) h
    simp only [Int32.toBitVec_ofInt, BitVec.toNat_ofInt] at h2
    have h3 : (0 : Int32).toBitVec.toNat = 0 := rfl
    rw [h3] at h2
    omega
  · rintro rfl
    rfl
theorem ze_ue {a b : Int} (ha : -4294967296 < a - b ∧ a - b < 4294967296) : Int32.ofInt a = Int32.ofInt b ↔ a = b := by
  constructor
  · intro h
    have h2 : Int32.ofInt (a - b) = 0 := by rw [Int32.ofInt_sub, h, Int32.sub_self]
    have := (ze_uz ha).mp h2
    omega
  · rintro rfl
    rfl
theorem ze_mod {a b : Int} (h : a % 4294967296 = b % 4294967296) : Int32.ofInt a = Int32.ofInt b := by
  have : a = b + 4294967296 * ((a - b) / 4294967296) := by omega
  rw [this, Int32.ofInt_add, Int32.ofInt_mul, show Int32.ofInt 4294967296 = 0 by decide, Int32.zero_mul, Int32.add_zero]
section ZW
variable {G : ze_G} {l : Launch} {R : Room} {M : ze_M} {Z : List Frame → Array Value → State → State → Prop} {pc : Nat} {lv : List (Nat × Value)} {st : List Value} {w : ze_W} {cu su : Nat}
theorem ze_putfW {ci k ix a : Nat} {fin : Bool} {ty : FieldType} {fs fs' : List Value} {v : Value} (hd : decode M.2.1 pc = .ok (.putfield ix, 3)) (hf : ze_fl M.1.cls ix ci k fin ty) (hfin : fin = false ∨ (M.1.name = "<init>" ∧ ze_cl[ci]?.map (fun q => q.1) = some M.1.cls)) (hw : w.2 a = some (ze_ob ci fs)) (hn : narrow ty v = v) (hfit : fits ty v = true) (hl0 : k < fs.length) (he : fs.set k v = fs')
    (kk : ∀ w' : ze_W, w'.1 = w.1 → w'.2 a = some (ze_ob ci fs') → (∀ x, x ≠ a → w'.2 x = w.2 x) → ze_V G l R M Z (pc + 3) lv st w' cu su) : ze_V G l R M Z pc lv (v :: .ref a :: st) w cu su :=
  ze_putf hd hf hfin hw hn hfit hl0 he (kk _ rfl (ze_up_s _ _ _) (fun _ h => ze_up_n _ _ h))
theorem ze_putNW {a : Nat} {fs fs' : List Value} {z : Int} (hM : M.1.cls = RX8) (hd : decode M.2.1 pc = .ok (.putfield 157, 3)) (hf : ∀ w ∈ u_ws RX7 TX7 3, w ∈ ze_T) (hw : w.2 a = some (ze_ob 7 fs)) (hl0 : 2 < fs.length) (he : fs.set 2 (ze_i z) = fs')
    (kk : ∀ w' : ze_W, w'.1 = w.1 → w'.2 a = some (ze_ob 7 fs') → (∀ x, x ≠ a → w'.2 x = w.2 x) → ze_V G l R M Z (pc + 3) lv st w' cu su) : ze_V G l R M Z pc lv (ze_i z :: .ref a :: st) w cu su :=
  ze_putN hM hd hf hw hl0 he (kk _ rfl (ze_up_s _ _ _) (fun _ h => ze_up_n _ _ h))
theorem ze_iastW {a n j : Nat} {i x : Int} {f f' : Nat → Int} (hd : decode M.2.1 pc = .ok (.iastore, 1)) (hw : w.2 a = some (ze_ia G n f)) (hi : i = (j : Int)) (hj : j < n) (hn : n < 2147483648) (hf : va_up f j x = f')
    (kk : ∀ w' : ze_W, w'.1 = w.1 → w'.2 a = some (ze_ia G n f') → (∀ x, x ≠ a → w'.2 x = w.2 x) → ze_V G l R M Z (pc + 1) lv st w' cu su) : ze_V G l R M Z pc lv (ze_i x :: ze_i i :: .ref a :: st) w cu su :=
  ze_iast hd hw hi hj hn hf (kk _ rfl (ze_up_s _ _ _) (fun _ h => ze_up_n _ _ h))
theorem ze_lastW {a n j : Nat} {i x : Int} {f f' : Nat → Int} (hd : decode M.2.1 pc = .ok (.lastore, 1)) (hw : w.2 a = some (ze_la G n f)) (hi : i = (j : Int)) (hj : j < n) (hn : n < 2147483648) (hf : va_up f j x = f')
    (kk : ∀ w' : ze_W, w'.1 = w.1 → w'.2 a = some (ze_la G n f') → (∀ x, x ≠ a → w'.2 x = w.2 x) → ze_V G l R M Z (pc + 1) lv st w' cu su) : ze_V G l R M Z pc lv (ze_l x :: ze_i i :: .ref a :: st) w cu su :=
  ze_last hd hw hi hj hn hf (kk _ rfl (ze_up_s _ _ _) (fun _ h => ze_up_n _ _ h))
/-- a part as it stands in the row (any number that is the same out of 2^32) -/
theorem ze_iastM {a n j : Nat} {i x y : Int} {f f' : Nat → Int} (hd : decode M.2.1 pc = .ok (.iastore, 1)) (hw : w.2 a = some (ze_ia G n f)) (hi : i = (j : Int)) (hj : j < n) (hn : n < 2147483648) (hx : Int32.ofInt x = Int32.ofInt y) (hf : va_up f j y = f')
    (kk : ∀ w' : ze_W, w'.1 = w.1 → w'.2 a = some (ze_ia G n f') → (∀ x, x ≠ a → w'.2 x = w.2 x) → ze_V G l R M Z (pc + 1) lv st w' cu su) : ze_V G l R M Z pc lv (ze_i x :: ze_i i :: .ref a :: st) w cu su := by
  rw [show ze_i x = ze_i y from congrArg Value.int hx]
  exact ze_iastW hd hw hi hj hn hf kk
theorem ze_aastW {a n j t ci v : Nat} {r : vw_C} {vs : List Value} {i : Int} {f f' : Nat → Option Nat} (hd : decode M.2.1 pc = .ok (.aastore, 1)) (hw : w.2 a = some (ze_ra G t n f)) (ht : (ze_ty G)[t]? = some (G.2.2.1 t, .object r.1)) (hc : ze_cl[ci]? = some r) (hv : w.2 v = some (ze_ob ci vs)) (hi : i = (j : Int)) (hj : j < n) (hn : n < 2147483648) (hf : va_up f j (some v) = f')
    (kk : ∀ w' : ze_W, w'.1 = w.1 → w'.2 a = some (ze_ra G t n f') → (∀ x, x ≠ a → w'.2 x = w.2 x) → ze_V G l R M Z (pc + 1) lv st w' cu su) : ze_V G l R M Z pc lv (.ref v :: ze_i i :: .ref a :: st) w cu su :=
  ze_aast hd hw ht hc hv hi hj hn hf (kk _ rfl (ze_up_s _ _ _) (fun _ h => ze_up_n _ _ h))
theorem ze_cpyW {ix : Nat} {a0 a n0 n1 j : Nat} {f g f' : Nat → Int} {z : Int} (hd : decode M.2.1 pc = .ok (.invokestatic ix, 3)) (h1 : Cond.methodLink M.1.cls ix arraycopyName ∈ ze_T) 
    (hw0 : w.2 a0 = some (ze_ia G n0 f)) (hw1 : w.2 a = some (ze_ia G n1 g)) (hz : z = (j : Int)) (hj0 : j ≤ n0) (hj1 : j ≤ n1) (hj : j < 2147483648) (hff : (fun q => if q < j then f q else g q) = f')
    (hfr : Nat.ble 1 R.frames = true) (hlo : Nat.ble ((st.map fun v => v.category).sum + (nativeFrameWords "java/lang/System" "arraycopy" 5 + 11)) R.locals = true)
    (kk : ∀ w' : ze_W, w'.1 = w.1 → w'.2 a = some (ze_ia G n1 f') → (∀ x, x ≠ a → w'.2 x = w.2 x) → ze_V G l R M Z (pc + 3) lv st w' cu su) : ze_V G l R M Z pc lv (ze_i z :: ze_i 0 :: .ref a :: ze_i 0 :: .ref a0 :: st) w cu su :=
  ze_cpy hd h1 nat_cpy st_arraycopyName n_J10 hw0 hw1 hz hj0 hj1 hj hff hfr hlo (kk _ rfl (ze_up_s _ _ _) (fun _ h => ze_up_n _ _ h))
/-- (long) part & 0xFFFFFFFFL: the part as a number 0 .. 2^32 - 1 -/
theorem ze_msk {ix : Nat} {a : Int} (hd1 : decode M.2.1 pc = .ok (.i2l, 1)) (hd2 : decode M.2.1 (pc + 1) = .ok (.ldc2_w ix, 3)) (hd3 : decode M.2.1 (pc + 4) = .ok (.land, 1)) (hc : Cond.constantLong M.1.cls ix 4294967295 ∈ ze_T) (ha : 0 ≤ a ∧ a < 4294967296) (kk : ze_V G l R M Z (pc + 5) lv (ze_l a :: st) w cu su) : ze_V G l R M Z pc lv (ze_i a :: st) w cu su := by
  obtain ⟨b, hb1, hb2⟩ : ∃ b : Int, (-2147483648 ≤ b ∧ b < 2147483648) ∧ (a = b ∨ a = b + 4294967296) := by
    by_cases h : a < 2147483648
    · exact ⟨a, by omega, Or.inl rfl⟩
    · exact ⟨a - 4294967296, by omega, Or.inr (by omega)⟩
  have e1 : Int32.ofInt a = Int32.ofInt b := by
    rcases hb2 with rfl | rfl
    · rfl
    · rw [Int32.ofInt_add, show Int32.ofInt 4294967296 = 0 by decide, Int32.add_zero]
  rw [show ze_i a = ze_i b from congrArg Value.int e1]
  refine ze_i2l hd1 hb1 ?_
  refine ze_ldc2 (z := 4294967295) hd2 hc (by decide) ?_
  refine ze_land (z := a) hd3 ?_ kk
  apply Int64.toBitVec_inj.mp
  rw [Int64.toBitVec_and]
  apply BitVec.eq_of_toNat_eq
  rw [BitVec.toNat_and]
  simp only [Int64.toBitVec_ofInt, BitVec.toNat_ofInt]
  have h2 : ((4294967295 : Int) % (2 ^ 64 : Nat)).toNat = 2 ^ 32 - 1 := by decide
  rw [h2, Nat.and_two_pow_sub_one_eq_mod]
  omega
theorem ze_lc_eq {a b off : Int} (tgt : Nat) (hd1 : decode M.2.1 pc = .ok (.lcmp, 1)) (hd2 : decode M.2.1 (pc + 1) = .ok (.ifCond .eq off, 3)) (ht : ((pc + 1 : Nat) : Int) + off = (tgt : Int)) (ha : -9223372036854775808 ≤ a ∧ a < 9223372036854775808) (hb : -9223372036854775808 ≤ b ∧ b < 9223372036854775808) (kt : a = b → ze_V G l R M Z tgt lv st w cu su) (kf : a ≠ b → ze_V G l R M Z (pc + 4) lv st w cu su) : ze_V G l R M Z pc lv (ze_l b :: ze_l a :: st) w cu su := by
  refine ze_lcmp hd1 ha hb (ze_if_eq tgt hd2 ht ?_ (fun q => kt ?_) (fun q => kf ?_))
  · split
    · decide
    · split <;> decide
  all_goals (split at q <;> (try split at q) <;> omega)
theorem ze_lc_ne {a b off : Int} (tgt : Nat) (hd1 : decode M.2.1 pc = .ok (.lcmp, 1)) (hd2 : decode M.2.1 (pc + 1) = .ok (.ifCond .ne off, 3)) (ht : ((pc + 1 : Nat) : Int) + off = (tgt : Int)) (ha : -9223372036854775808 ≤ a ∧ a < 9223372036854775808) (hb : -9223372036854775808 ≤ b ∧ b < 9223372036854775808) (kt : a ≠ b → ze_V G l R M Z tgt lv st w cu su) (kf : a = b → ze_V G l R M Z (pc + 4) lv st w cu su) : ze_V G l R M Z pc lv (ze_l b :: ze_l a :: st) w cu su := by
  refine ze_lcmp hd1 ha hb (ze_if_ne tgt hd2 ht ?_ (fun q => kt ?_) (fun q => kf ?_))
  · split
    · decide
    · split <;> decide
  all_goals (split at q <;> (try split at q) <;> omega)
theorem ze_lc_lt {a b off : Int} (tgt : Nat) (hd1 : decode M.2.1 pc = .ok (.lcmp, 1)) (hd2 : decode M.2.1 (pc + 1) = .ok (.ifCond .lt off, 3)) (ht : ((pc + 1 : Nat) : Int) + off = (tgt : Int)) (ha : -9223372036854775808 ≤ a ∧ a < 9223372036854775808) (hb : -9223372036854775808 ≤ b ∧ b < 9223372036854775808) (kt : a < b → ze_V G l R M Z tgt lv st w cu su) (kf : b ≤ a → ze_V G l R M Z (pc + 4) lv st w cu su) : ze_V G l R M Z pc lv (ze_l b :: ze_l a :: st) w cu su := by
  refine ze_lcmp hd1 ha hb (ze_if_lt tgt hd2 ht ?_ (fun q => kt ?_) (fun q => kf ?_))
  · split
    · decide
    · split <;> decide
  all_goals (split at q <;> (try split at q) <;> omega)
theorem ze_lc_ge {a b off : Int} (tgt : Nat) (hd1 : decode M.2.1 pc = .ok (.lcmp, 1)) (hd2 : decode M.2.1 (pc + 1) = .ok (.ifCond .ge off, 3)) (ht : ((pc + 1 : Nat) : Int) + off = (tgt : Int)) (ha : -9223372036854775808 ≤ a ∧ a < 9223372036854775808) (hb : -9223372036854775808 ≤ b ∧ b < 9223372036854775808) (kt : b ≤ a → ze_V G l R M Z tgt lv st w cu su) (kf : a < b → ze_V G l R M Z (pc + 4) lv st w cu su) : ze_V G l R M Z pc lv (ze_l b :: ze_l a :: st) w cu su := by
  refine ze_lcmp hd1 ha hb (ze_if_ge tgt hd2 ht ?_ (fun q => kt ?_) (fun q => kf ?_))
  · split
    · decide
    · split <;> decide
  all_goals (split at q <;> (try split at q) <;> omega)
theorem ze_lc_gt {a b off : Int} (tgt : Nat) (hd1 : decode M.2.1 pc = .ok (.lcmp, 1)) (hd2 : decode M.2.1 (pc + 1) = .ok (.ifCond .gt off, 3)) (ht : ((pc + 1 : Nat) : Int) + off = (tgt : Int)) (ha : -9223372036854775808 ≤ a ∧ a < 9223372036854775808) (hb : -9223372036854775808 ≤ b ∧ b < 9223372036854775808) (kt : b < a → ze_V G l R M Z tgt lv st w cu su) (kf : a ≤ b → ze_V G l R M Z (pc + 4) lv st w cu su) : ze_V G l R M Z pc lv (ze_l b :: ze_l a :: st) w cu su := by
  refine ze_lcmp hd1 ha hb (ze_if_gt tgt hd2 ht ?_ (fun q => kt ?_) (fun q => kf ?_))
  · split
    · decide
    · split <;> decide
  all_goals (split at q <;> (try split at q) <;> omega)
theorem ze_lc_le {a b off : Int} (tgt : Nat) (hd1 : decode M.2.1 pc = .ok (.lcmp, 1)) (hd2 : decode M.2.1 (pc + 1) = .ok (.ifCond .le off, 3)) (ht : ((pc + 1 : Nat) : Int) + off = (tgt : Int)) (ha : -9223372036854775808 ≤ a ∧ a < 9223372036854775808) (hb : -9223372036854775808 ≤ b ∧ b < 9223372036854775808) (kt : a ≤ b → ze_V G l R M Z tgt lv st w cu su) (kf : b < a → ze_V G l R M Z (pc + 4) lv st w cu su) : ze_V G l R M Z pc lv (ze_l b :: ze_l a :: st) w cu su := by
  refine ze_lcmp hd1 ha hb (ze_if_le tgt hd2 ht ?_ (fun q => kt ?_) (fun q => kf ?_))
  · split
    · decide
    · split <;> decide
  all_goals (split at q <;> (try split at q) <;> omega)
theorem ze_ifu_eq {a off : Int} (tgt : Nat) (hd : decode M.2.1 pc = .ok (.ifCond .eq off, 3)) (ht : (pc : Int) + off = (tgt : Int)) (ha : -4294967296 < a ∧ a < 4294967296) (kt : a = 0 → ze_V G l R M Z tgt lv st w cu su) (kf : a ≠ 0 → ze_V G l R M Z (pc + 3) lv st w cu su) : ze_V G l R M Z pc lv (ze_i a :: st) w cu su := by
  intro p e s m args below meth c H locs ls X hH hS hl
  have h := ze_uz ha
  exact lv_if_eq X.1 X.2.1 hd ht (fun q => kt (h.mp q) p e s m args below meth c H locs ls X hH hS hl) (fun q => kf (fun q2 => q (h.mpr q2)) p e s m args below meth c H locs ls X hH hS hl)
theorem ze_ifu_ne {a off : Int} (tgt : Nat) (hd : decode M.2.1 pc = .ok (.ifCond .ne off, 3)) (ht : (pc : Int) + off = (tgt : Int)) (ha : -4294967296 < a ∧ a < 4294967296) (kt : a ≠ 0 → ze_V G l R M Z tgt lv st w cu su) (kf : a = 0 → ze_V G l R M Z (pc + 3) lv st w cu su) : ze_V G l R M Z pc lv (ze_i a :: st) w cu su := by
  intro p e s m args below meth c H locs ls X hH hS hl
  have h := ze_uz ha
  exact lv_if_ne X.1 X.2.1 hd ht (fun q => kt (fun q2 => q (h.mpr q2)) p e s m args below meth c H locs ls X hH hS hl) (fun q => kf (h.mp q) p e s m args below meth c H locs ls X hH hS hl)
theorem ze_icmpu_eq {a b off : Int} (tgt : Nat) (hd : decode M.2.1 pc = .ok (.if_icmp .eq off, 3)) (ht : (pc : Int) + off = (tgt : Int)) (ha : -4294967296 < a - b ∧ a - b < 4294967296) (kt : a = b → ze_V G l R M Z tgt lv st w cu su) (kf : a ≠ b → ze_V G l R M Z (pc + 3) lv st w cu su) : ze_V G l R M Z pc lv (ze_i b :: ze_i a :: st) w cu su := by
  intro p e s m args below meth c H locs ls X hH hS hl
  have h := ze_ue ha
  exact lv_icmp_eq X.1 X.2.1 hd ht (fun q => kt (h.mp q) p e s m args below meth c H locs ls X hH hS hl) (fun q => kf (fun q2 => q (h.mpr q2)) p e s m args below meth c H locs ls X hH hS hl)
theorem ze_icmpu_ne {a b off : Int} (tgt : Nat) (hd : decode M.2.1 pc = .ok (.if_icmp .ne off, 3)) (ht : (pc : Int) + off = (tgt : Int)) (ha : -4294967296 < a - b ∧ a - b < 4294967296) (kt : a ≠ b → ze_V G l R M Z tgt lv st w cu su) (kf : a = b → ze_V G l R M Z (pc + 3) lv st w cu su) : ze_V G l R M Z pc lv (ze_i b :: ze_i a :: st) w cu su := by
  intro p e s m args below meth c H locs ls X hH hS hl
  have h := ze_ue ha
  exact lv_icmp_ne X.1 X.2.1 hd ht (fun q => kt (fun q2 => q (h.mpr q2)) p e s m args below meth c H locs ls X hH hS hl) (fun q => kf (h.mp q) p e s m args below meth c H locs ls X hH hS hl)
end ZW
