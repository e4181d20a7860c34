/-! locals and numbers -/
def ze_get : List (Nat × Value) → Nat → Option Value
  | [], _ => none
  | q :: r, i => match Nat.beq q.1 i with | true => some q.2 | false => ze_get r i
def ze_ins (i : Nat) (v : Value) : List (Nat × Value) → List (Nat × Value)
  | [] => [(i, v)]
  | q :: r => match Nat.ble i q.1 with | true => (i, v) :: q :: r | false => q :: ze_ins i v r
def ze_st1 (lv : List (Nat × Value)) (i : Nat) (v : Value) : List (Nat × Value) := ze_ins i v (lv.filter (fun q => !(q.1 == i) && !(q.1 + 1 == i && q.2.category == 2)))
def ze_st2 (lv : List (Nat × Value)) (i : Nat) (v : Value) : List (Nat × Value) := ze_ins i v (lv.filter (fun q => !(q.1 == i) && (!(q.1 == i + 1) && !(q.1 + 1 == i && q.2.category == 2))))
theorem ze_get_mem {lv : List (Nat × Value)} {i : Nat} {v : Value} (h : ze_get lv i = some v) : (i, v) ∈ lv := by
  induction lv with
  | nil => simp [ze_get] at h
  | cons q r ih =>
    unfold ze_get at h
    split at h
    · rename_i hb
      have := Nat.eq_of_beq_eq_true hb
      cases h
      subst this
      exact List.mem_cons_self
    · exact List.mem_cons_of_mem _ (ih h)
theorem ze_ins_mem {i : Nat} {v : Value} {lv : List (Nat × Value)} {q : Nat × Value} (h : q ∈ ze_ins i v lv) : q ∈ (i, v) :: lv := by
  induction lv with
  | nil => exact h
  | cons a r ih =>
    unfold ze_ins at h
    split at h
    · exact h
    · rcases List.mem_cons.mp h with rfl | h
      · exact List.mem_cons_of_mem _ List.mem_cons_self
      · rcases List.mem_cons.mp (ih h) with rfl | h
        · exact List.mem_cons_self
        · exact List.mem_cons_of_mem _ (List.mem_cons_of_mem _ h)
theorem ze_has_ins {ls : Array Slot} {n i : Nat} {v : Value} {lv : List (Nat × Value)} (h : lv_has ls n ((i, v) :: lv)) : lv_has ls n (ze_ins i v lv) := ⟨h.1, h.2.1, fun q hq => h.2.2 q (ze_ins_mem hq)⟩
theorem ze_at {ls : Array Slot} {n i : Nat} {v : Value} {lv : List (Nat × Value)} (h : lv_has ls n lv) (hg : ze_get lv i = some v) : ls[i]? = some (.val v) := h.2.2 (i, v) (ze_get_mem hg)
theorem ze_t32 {a : Int} (h : -2147483648 ≤ a ∧ a < 2147483648) : (Int32.ofInt a).toInt = a := Int32.toInt_ofInt_of_le (by simpa using h.1) (by simpa using h.2)
theorem ze_t64 {a : Int} (h : -9223372036854775808 ≤ a ∧ a < 9223372036854775808) : (Int64.ofInt a).toInt = a := Int64.toInt_ofInt_of_le (by simpa using h.1) (by simpa using h.2)
theorem ze_lt32 {a b : Int} (ha : -2147483648 ≤ a ∧ a < 2147483648) (hb : -2147483648 ≤ b ∧ b < 2147483648) : Int32.ofInt a < Int32.ofInt b ↔ a < b := by rw [Int32.lt_iff_toInt_lt, ze_t32 ha, ze_t32 hb]
theorem ze_le32 {a b : Int} (ha : -2147483648 ≤ a ∧ a < 2147483648) (hb : -2147483648 ≤ b ∧ b < 2147483648) : Int32.ofInt a ≤ Int32.ofInt b ↔ a ≤ b := by rw [Int32.le_iff_toInt_le, ze_t32 ha, ze_t32 hb]
theorem ze_eq32 {a b : Int} (ha : -2147483648 ≤ a ∧ a < 2147483648) (hb : -2147483648 ≤ b ∧ b < 2147483648) : Int32.ofInt a = Int32.ofInt b ↔ a = b := by rw [← Int32.toInt_inj, ze_t32 ha, ze_t32 hb]
theorem ze_lt64 {a b : Int} (ha : -9223372036854775808 ≤ a ∧ a < 9223372036854775808) (hb : -9223372036854775808 ≤ b ∧ b < 9223372036854775808) : Int64.ofInt a < Int64.ofInt b ↔ a < b := by rw [Int64.lt_iff_toInt_lt, ze_t64 ha, ze_t64 hb]
theorem ze_eq64 {a b : Int} (ha : -9223372036854775808 ≤ a ∧ a < 9223372036854775808) (hb : -9223372036854775808 ≤ b ∧ b < 9223372036854775808) : Int64.ofInt a = Int64.ofInt b ↔ a = b := by rw [← Int64.toInt_inj, ze_t64 ha, ze_t64 hb]
theorem ze_clamp {a : Int} {n : Nat} (h : a = n) (hn : n < 2147483648) : (Int32.ofInt a).toNatClampNeg = n := by
  rw [Int32.toNatClampNeg, ze_t32 (by omega)]
  omega
theorem ze_in {i : Int} {n : Nat} (h0 : 0 ≤ i) (h1 : i < n) (hn : n < 2147483648) : vp_in (Int32.ofInt i) n := by
  rw [vp_in_iff, ze_t32 (by omega)]
  exact ⟨h0, h1⟩
theorem ze_cn {i : Int} (h0 : 0 ≤ i) (h1 : i < 2147483648) : (Int32.ofInt i).toNatClampNeg = i.toNat := ze_clamp (by omega) (by omega)
section ZR
variable {G : ze_G} {l : Launch} {R : Room} {M : ze_M} {Z : List Frame → Array Value → State → State → Prop} {pc : Nat} {lv : List (Nat × Value)} {st : List Value} {w : ze_W} {cu su : Nat}
theorem ze_iconst {n : Int} (hd : decode M.2.1 pc = .ok (.iconst n, 1)) (k : ze_V G l R M Z (pc + 1) lv (ze_i n :: st) w cu su) : ze_V G l R M Z pc lv (st) w cu su := by
  intro p e s m args below meth c H locs ls X hH hS hl
  exact lv_iconst X.1 X.2.1 hd rfl (k p e s m args below meth c H locs ls X hH hS hl)
theorem ze_bipush {n : Int} (hd : decode M.2.1 pc = .ok (.bipush n, 2)) (hv : (Int8.ofInt n).toInt32 = Int32.ofInt n) (k : ze_V G l R M Z (pc + 2) lv (ze_i n :: st) w cu su) : ze_V G l R M Z pc lv (st) w cu su := by
  intro p e s m args below meth c H locs ls X hH hS hl
  exact lv_bipush X.1 X.2.1 hd hv (k p e s m args below meth c H locs ls X hH hS hl)
theorem ze_sipush {n : Int} (hd : decode M.2.1 pc = .ok (.sipush n, 3)) (hv : (Int16.ofInt n).toInt32 = Int32.ofInt n) (k : ze_V G l R M Z (pc + 3) lv (ze_i n :: st) w cu su) : ze_V G l R M Z pc lv (st) w cu su := by
  intro p e s m args below meth c H locs ls X hH hS hl
  exact lv_sipush X.1 X.2.1 hd hv (k p e s m args below meth c H locs ls X hH hS hl)
theorem ze_lconst {n : Fin 2} {z : Int} (hd : decode M.2.1 pc = .ok (.lconst n, 1)) (hv : Int64.ofNat (n : Nat) = Int64.ofInt z) (k : ze_V G l R M Z (pc + 1) lv (ze_l z :: st) w cu su) : ze_V G l R M Z pc lv (st) w cu su := by
  intro p e s m args below meth c H locs ls X hH hS hl
  exact lv_lconst X.1 X.2.1 hd hv (k p e s m args below meth c H locs ls X hH hS hl)
theorem ze_ldc {ix : Nat} {v : Int32} {z : Int} (hd : decode M.2.1 pc = .ok (.ldc ix, 2)) (hc : Cond.constant M.1.cls ix v ∈ ze_T) (hv : Int32.ofInt z = v) (k : ze_V G l R M Z (pc + 2) lv (ze_i z :: st) w cu su) : ze_V G l R M Z pc lv (st) w cu su := by
  intro p e s m args below meth c H locs ls X hH hS hl
  subst hv
  exact lv_ldc X.1 X.2.1 X.2.2.2.2.2.1 (X.2.2.2.2.2.2.1 _ hc) hd (k p e s m args below meth c H locs ls X hH hS hl)
theorem ze_ldcw {ix : Nat} {v : Int32} {z : Int} (hd : decode M.2.1 pc = .ok (.ldc_w ix, 3)) (hc : Cond.constant M.1.cls ix v ∈ ze_T) (hv : Int32.ofInt z = v) (k : ze_V G l R M Z (pc + 3) lv (ze_i z :: st) w cu su) : ze_V G l R M Z pc lv (st) w cu su := by
  intro p e s m args below meth c H locs ls X hH hS hl
  subst hv
  exact lv_ldcw X.1 X.2.1 X.2.2.2.2.2.1 (X.2.2.2.2.2.2.1 _ hc) hd (k p e s m args below meth c H locs ls X hH hS hl)
theorem ze_ldc2 {ix : Nat} {v : Int64} {z : Int} (hd : decode M.2.1 pc = .ok (.ldc2_w ix, 3)) (hc : Cond.constantLong M.1.cls ix v ∈ ze_T) (hv : Int64.ofInt z = v) (k : ze_V G l R M Z (pc + 3) lv (ze_l z :: st) w cu su) : ze_V G l R M Z pc lv (st) w cu su := by
  intro p e s m args below meth c H locs ls X hH hS hl
  subst hv
  exact lv_ldc2 X.1 X.2.1 X.2.2.2.2.2.1 (X.2.2.2.2.2.2.1 _ hc) hd (k p e s m args below meth c H locs ls X hH hS hl)
theorem ze_null (hd : decode M.2.1 pc = .ok (.aconst_null, 1)) (k : ze_V G l R M Z (pc + 1) lv (.null :: st) w cu su) : ze_V G l R M Z pc lv (st) w cu su := by
  intro p e s m args below meth c H locs ls X hH hS hl
  exact lv_null X.1 X.2.1 hd (k p e s m args below meth c H locs ls X hH hS hl)
theorem ze_iload_n {i : Fin 4} {a : Int} (hd : decode M.2.1 pc = .ok (.iload_n i, 1)) (hg : ze_get lv (i : Nat) = some (ze_i a)) (k : ze_V G l R M Z (pc + 1) lv (ze_i a :: st) w cu su) : ze_V G l R M Z pc lv (st) w cu su := by
  intro p e s m args below meth c H locs ls X hH hS hl
  exact lv_iload_n X.1 X.2.1 hd rfl (ze_at hl hg) (k p e s m args below meth c H locs ls X hH hS hl)
theorem ze_iload {i : Nat} {a : Int} (hd : decode M.2.1 pc = .ok (.iload i, 2)) (hg : ze_get lv i = some (ze_i a)) (k : ze_V G l R M Z (pc + 2) lv (ze_i a :: st) w cu su) : ze_V G l R M Z pc lv (st) w cu su := by
  intro p e s m args below meth c H locs ls X hH hS hl
  exact lv_iload X.1 X.2.1 hd (ze_at hl hg) (k p e s m args below meth c H locs ls X hH hS hl)
theorem ze_lload_n {i : Fin 4} {a : Int} (hd : decode M.2.1 pc = .ok (.lload_n i, 1)) (hg : ze_get lv (i : Nat) = some (ze_l a)) (k : ze_V G l R M Z (pc + 1) lv (ze_l a :: st) w cu su) : ze_V G l R M Z pc lv (st) w cu su := by
  intro p e s m args below meth c H locs ls X hH hS hl
  exact lv_lload_n X.1 X.2.1 hd rfl (ze_at hl hg) (k p e s m args below meth c H locs ls X hH hS hl)
theorem ze_lload {i : Nat} {a : Int} (hd : decode M.2.1 pc = .ok (.lload i, 2)) (hg : ze_get lv i = some (ze_l a)) (k : ze_V G l R M Z (pc + 2) lv (ze_l a :: st) w cu su) : ze_V G l R M Z pc lv (st) w cu su := by
  intro p e s m args below meth c H locs ls X hH hS hl
  exact lv_lload X.1 X.2.1 hd (ze_at hl hg) (k p e s m args below meth c H locs ls X hH hS hl)
theorem ze_aload_n {i : Fin 4} {a : Nat} (hd : decode M.2.1 pc = .ok (.aload_n i, 1)) (hg : ze_get lv (i : Nat) = some (.ref a)) (k : ze_V G l R M Z (pc + 1) lv (.ref a :: st) w cu su) : ze_V G l R M Z pc lv (st) w cu su := by
  intro p e s m args below meth c H locs ls X hH hS hl
  exact lv_aload_n X.1 X.2.1 hd rfl (ze_at hl hg) (k p e s m args below meth c H locs ls X hH hS hl)
theorem ze_aload {i : Nat} {a : Nat} (hd : decode M.2.1 pc = .ok (.aload i, 2)) (hg : ze_get lv i = some (.ref a)) (k : ze_V G l R M Z (pc + 2) lv (.ref a :: st) w cu su) : ze_V G l R M Z pc lv (st) w cu su := by
  intro p e s m args below meth c H locs ls X hH hS hl
  exact lv_aload X.1 X.2.1 hd (ze_at hl hg) (k p e s m args below meth c H locs ls X hH hS hl)
theorem ze_aload_nN {i : Fin 4} (hd : decode M.2.1 pc = .ok (.aload_n i, 1)) (hg : ze_get lv (i : Nat) = some .null) (k : ze_V G l R M Z (pc + 1) lv (.null :: st) w cu su) : ze_V G l R M Z pc lv (st) w cu su := by
  intro p e s m args below meth c H locs ls X hH hS hl
  exact lv_aload_nN X.1 X.2.1 hd rfl (ze_at hl hg) (k p e s m args below meth c H locs ls X hH hS hl)
theorem ze_aloadN {i : Nat} (hd : decode M.2.1 pc = .ok (.aload i, 2)) (hg : ze_get lv i = some .null) (k : ze_V G l R M Z (pc + 2) lv (.null :: st) w cu su) : ze_V G l R M Z pc lv (st) w cu su := by
  intro p e s m args below meth c H locs ls X hH hS hl
  exact lv_aloadN X.1 X.2.1 hd (ze_at hl hg) (k p e s m args below meth c H locs ls X hH hS hl)
theorem ze_istore_n {i : Fin 4} {a : Int} {lv' : List (Nat × Value)} (hd : decode M.2.1 pc = .ok (.istore_n i, 1)) (hn : Nat.ble ((i : Nat) + 1) M.2.2.1 = true) (hl' : ze_st1 lv (i : Nat) (ze_i a) = lv') (k : ze_V G l R M Z (pc + 1) lv' (st) w cu su) : ze_V G l R M Z pc lv (ze_i a :: st) w cu su := by
  intro p e s m args below meth c H locs ls X hH hS hl
  refine lv_istore_n X.1 X.2.1 hd rfl hl (Nat.le_of_ble_eq_true hn) rfl (fun ls' h' => ?_)
  exact k p e s m args below meth c H locs ls' X hH hS (hl' ▸ ze_has_ins h')
theorem ze_istore {i : Nat} {a : Int} {lv' : List (Nat × Value)} (hd : decode M.2.1 pc = .ok (.istore i, 2)) (hn : Nat.ble (i + 1) M.2.2.1 = true) (hl' : ze_st1 lv i (ze_i a) = lv') (k : ze_V G l R M Z (pc + 2) lv' (st) w cu su) : ze_V G l R M Z pc lv (ze_i a :: st) w cu su := by
  intro p e s m args below meth c H locs ls X hH hS hl
  refine lv_istore X.1 X.2.1 hd hl (Nat.le_of_ble_eq_true hn) rfl (fun ls' h' => ?_)
  exact k p e s m args below meth c H locs ls' X hH hS (hl' ▸ ze_has_ins h')
theorem ze_lstore_n {i : Fin 4} {a : Int} {lv' : List (Nat × Value)} (hd : decode M.2.1 pc = .ok (.lstore_n i, 1)) (hn : Nat.ble ((i : Nat) + 1 + 1) M.2.2.1 = true) (hl' : ze_st2 lv (i : Nat) (ze_l a) = lv') (k : ze_V G l R M Z (pc + 1) lv' (st) w cu su) : ze_V G l R M Z pc lv (ze_l a :: st) w cu su := by
  intro p e s m args below meth c H locs ls X hH hS hl
  refine lv_lstore_n X.1 X.2.1 hd rfl hl (Nat.le_of_ble_eq_true hn) rfl (fun ls' h' => ?_)
  exact k p e s m args below meth c H locs ls' X hH hS (hl' ▸ ze_has_ins h')
theorem ze_lstore {i : Nat} {a : Int} {lv' : List (Nat × Value)} (hd : decode M.2.1 pc = .ok (.lstore i, 2)) (hn : Nat.ble (i + 1 + 1) M.2.2.1 = true) (hl' : ze_st2 lv i (ze_l a) = lv') (k : ze_V G l R M Z (pc + 2) lv' (st) w cu su) : ze_V G l R M Z pc lv (ze_l a :: st) w cu su := by
  intro p e s m args below meth c H locs ls X hH hS hl
  refine lv_lstore X.1 X.2.1 hd hl (Nat.le_of_ble_eq_true hn) rfl (fun ls' h' => ?_)
  exact k p e s m args below meth c H locs ls' X hH hS (hl' ▸ ze_has_ins h')
theorem ze_astore_n {i : Fin 4} {a : Nat} {lv' : List (Nat × Value)} (hd : decode M.2.1 pc = .ok (.astore_n i, 1)) (hn : Nat.ble ((i : Nat) + 1) M.2.2.1 = true) (hl' : ze_st1 lv (i : Nat) (.ref a) = lv') (k : ze_V G l R M Z (pc + 1) lv' (st) w cu su) : ze_V G l R M Z pc lv (.ref a :: st) w cu su := by
  intro p e s m args below meth c H locs ls X hH hS hl
  refine lv_astore_n X.1 X.2.1 hd rfl hl (Nat.le_of_ble_eq_true hn) rfl (fun ls' h' => ?_)
  exact k p e s m args below meth c H locs ls' X hH hS (hl' ▸ ze_has_ins h')
theorem ze_astore {i : Nat} {a : Nat} {lv' : List (Nat × Value)} (hd : decode M.2.1 pc = .ok (.astore i, 2)) (hn : Nat.ble (i + 1) M.2.2.1 = true) (hl' : ze_st1 lv i (.ref a) = lv') (k : ze_V G l R M Z (pc + 2) lv' (st) w cu su) : ze_V G l R M Z pc lv (.ref a :: st) w cu su := by
  intro p e s m args below meth c H locs ls X hH hS hl
  refine lv_astore X.1 X.2.1 hd hl (Nat.le_of_ble_eq_true hn) rfl (fun ls' h' => ?_)
  exact k p e s m args below meth c H locs ls' X hH hS (hl' ▸ ze_has_ins h')
theorem ze_astore_nN {i : Fin 4} {lv' : List (Nat × Value)} (hd : decode M.2.1 pc = .ok (.astore_n i, 1)) (hn : Nat.ble ((i : Nat) + 1) M.2.2.1 = true) (hl' : ze_st1 lv (i : Nat) .null = lv') (k : ze_V G l R M Z (pc + 1) lv' (st) w cu su) : ze_V G l R M Z pc lv (.null :: st) w cu su := by
  intro p e s m args below meth c H locs ls X hH hS hl
  refine lv_astore_nN X.1 X.2.1 hd rfl hl (Nat.le_of_ble_eq_true hn) rfl (fun ls' h' => ?_)
  exact k p e s m args below meth c H locs ls' X hH hS (hl' ▸ ze_has_ins h')
theorem ze_astoreN {i : Nat} {lv' : List (Nat × Value)} (hd : decode M.2.1 pc = .ok (.astore i, 2)) (hn : Nat.ble (i + 1) M.2.2.1 = true) (hl' : ze_st1 lv i .null = lv') (k : ze_V G l R M Z (pc + 2) lv' (st) w cu su) : ze_V G l R M Z pc lv (.null :: st) w cu su := by
  intro p e s m args below meth c H locs ls X hH hS hl
  refine lv_astoreN X.1 X.2.1 hd hl (Nat.le_of_ble_eq_true hn) rfl (fun ls' h' => ?_)
  exact k p e s m args below meth c H locs ls' X hH hS (hl' ▸ ze_has_ins h')
theorem ze_iinc {i : Nat} {n a b : Int} {lv' : List (Nat × Value)} (hd : decode M.2.1 pc = .ok (.iinc i n, 3)) (hg : ze_get lv i = some (ze_i a)) (hn : Nat.ble (i + 1) M.2.2.1 = true) (hb : a + n = b) (hl' : ze_st1 lv i (ze_i b) = lv') (k : ze_V G l R M Z (pc + 3) lv' (st) w cu su) : ze_V G l R M Z pc lv (st) w cu su := by
  intro p e s m args below meth c H locs ls X hH hS hl
  subst hb
  obtain ⟨j, hj⟩ := List.getElem?_of_mem (ze_get_mem hg)
  refine lv_iinc (k := j) X.1 X.2.1 hd hl hj (Int32.ofInt_add a n).symm (Nat.le_of_ble_eq_true hn) rfl (fun ls' h' => ?_)
  exact k p e s m args below meth c H locs ls' X hH hS (hl' ▸ ze_has_ins h')
theorem ze_iadd {a b : Int} (hd : decode M.2.1 pc = .ok (.iadd, 1)) (k : ze_V G l R M Z (pc + 1) lv (ze_i (a + b) :: st) w cu su) : ze_V G l R M Z pc lv (ze_i b :: ze_i a :: st) w cu su := by
  intro p e s m args below meth c H locs ls X hH hS hl
  refine lv_iadd X.1 X.2.1 hd ?_
  rw [← Int32.ofInt_add]
  exact k p e s m args below meth c H locs ls X hH hS hl
theorem ze_isub {a b : Int} (hd : decode M.2.1 pc = .ok (.isub, 1)) (k : ze_V G l R M Z (pc + 1) lv (ze_i (a - b) :: st) w cu su) : ze_V G l R M Z pc lv (ze_i b :: ze_i a :: st) w cu su := by
  intro p e s m args below meth c H locs ls X hH hS hl
  refine lv_isub X.1 X.2.1 hd ?_
  rw [← Int32.ofInt_sub]
  exact k p e s m args below meth c H locs ls X hH hS hl
theorem ze_imul {a b : Int} (hd : decode M.2.1 pc = .ok (.imul, 1)) (k : ze_V G l R M Z (pc + 1) lv (ze_i (a * b) :: st) w cu su) : ze_V G l R M Z pc lv (ze_i b :: ze_i a :: st) w cu su := by
  intro p e s m args below meth c H locs ls X hH hS hl
  refine lv_imul X.1 X.2.1 hd ?_
  rw [← Int32.ofInt_mul]
  exact k p e s m args below meth c H locs ls X hH hS hl
theorem ze_ladd {a b : Int} (hd : decode M.2.1 pc = .ok (.ladd, 1)) (k : ze_V G l R M Z (pc + 1) lv (ze_l (a + b) :: st) w cu su) : ze_V G l R M Z pc lv (ze_l b :: ze_l a :: st) w cu su := by
  intro p e s m args below meth c H locs ls X hH hS hl
  refine lv_ladd X.1 X.2.1 hd ?_
  rw [← Int64.ofInt_add]
  exact k p e s m args below meth c H locs ls X hH hS hl
theorem ze_lsub {a b : Int} (hd : decode M.2.1 pc = .ok (.lsub, 1)) (k : ze_V G l R M Z (pc + 1) lv (ze_l (a - b) :: st) w cu su) : ze_V G l R M Z pc lv (ze_l b :: ze_l a :: st) w cu su := by
  intro p e s m args below meth c H locs ls X hH hS hl
  refine lv_lsub X.1 X.2.1 hd ?_
  rw [← Int64.ofInt_sub]
  exact k p e s m args below meth c H locs ls X hH hS hl
theorem ze_lmul {a b : Int} (hd : decode M.2.1 pc = .ok (.lmul, 1)) (k : ze_V G l R M Z (pc + 1) lv (ze_l (a * b) :: st) w cu su) : ze_V G l R M Z pc lv (ze_l b :: ze_l a :: st) w cu su := by
  intro p e s m args below meth c H locs ls X hH hS hl
  refine lv_lmul X.1 X.2.1 hd ?_
  rw [← Int64.ofInt_mul]
  exact k p e s m args below meth c H locs ls X hH hS hl
theorem ze_ineg {a : Int} (hd : decode M.2.1 pc = .ok (.ineg, 1)) (k : ze_V G l R M Z (pc + 1) lv (ze_i (-a) :: st) w cu su) : ze_V G l R M Z pc lv (ze_i a :: st) w cu su := by
  intro p e s m args below meth c H locs ls X hH hS hl
  refine lv_ineg X.1 X.2.1 hd ?_
  rw [← Int32.ofInt_neg]
  exact k p e s m args below meth c H locs ls X hH hS hl
theorem ze_lneg {a : Int} (hd : decode M.2.1 pc = .ok (.lneg, 1)) (k : ze_V G l R M Z (pc + 1) lv (ze_l (-a) :: st) w cu su) : ze_V G l R M Z pc lv (ze_l a :: st) w cu su := by
  intro p e s m args below meth c H locs ls X hH hS hl
  refine lv_lneg X.1 X.2.1 hd ?_
  rw [← Int64.ofInt_neg]
  exact k p e s m args below meth c H locs ls X hH hS hl
theorem ze_idiv {a b : Int} (hd : decode M.2.1 pc = .ok (.idiv, 1)) (ha : 0 ≤ a ∧ a < 2147483648) (hb : 0 < b ∧ b < 2147483648) (k : ze_V G l R M Z (pc + 1) lv (ze_i (a / b) :: st) w cu su) : ze_V G l R M Z pc lv (ze_i b :: ze_i a :: st) w cu su := by
  intro p e s m args below meth c H locs ls X hH hS hl
  have ee : Int32.ofInt (a / b) = Int32.ofInt a / Int32.ofInt b := by
    rw [← Int.tdiv_eq_ediv_of_nonneg ha.1]
    exact Int32.ofInt_tdiv (by simp only [Int32.toInt_minValue]; omega) (by simp only [Int32.toInt_maxValue]; omega) (by simp only [Int32.toInt_minValue]; omega) (by simp only [Int32.toInt_maxValue]; omega)
  refine lv_idiv X.1 X.2.1 hd (fun h => ?_) ?_
  · have h2 := congrArg Int32.toInt h
    rw [ze_t32 (by omega)] at h2
    simp at h2
    omega
  · rw [← ee]
    exact k p e s m args below meth c H locs ls X hH hS hl
theorem ze_irem {a b : Int} (hd : decode M.2.1 pc = .ok (.irem, 1)) (ha : 0 ≤ a ∧ a < 2147483648) (hb : 0 < b ∧ b < 2147483648) (k : ze_V G l R M Z (pc + 1) lv (ze_i (a % b) :: st) w cu su) : ze_V G l R M Z pc lv (ze_i b :: ze_i a :: st) w cu su := by
  intro p e s m args below meth c H locs ls X hH hS hl
  have ee : Int32.ofInt (a / b) = Int32.ofInt a / Int32.ofInt b := by
    rw [← Int.tdiv_eq_ediv_of_nonneg ha.1]
    exact Int32.ofInt_tdiv (by simp only [Int32.toInt_minValue]; omega) (by simp only [Int32.toInt_maxValue]; omega) (by simp only [Int32.toInt_minValue]; omega) (by simp only [Int32.toInt_maxValue]; omega)
  refine lv_irem X.1 X.2.1 hd (fun h => ?_) ?_
  · have h2 := congrArg Int32.toInt h
    rw [ze_t32 (by omega)] at h2
    simp at h2
    omega
  · rw [← ee, ← Int32.ofInt_mul, ← Int32.ofInt_sub, show a - a / b * b = a % b by rw [Int.mul_comm, Int.emod_def]]
    exact k p e s m args below meth c H locs ls X hH hS hl
theorem ze_ldiv {a b : Int} (hd : decode M.2.1 pc = .ok (.ldiv, 1)) (ha : 0 ≤ a ∧ a < 9223372036854775808) (hb : 0 < b ∧ b < 9223372036854775808) (k : ze_V G l R M Z (pc + 1) lv (ze_l (a / b) :: st) w cu su) : ze_V G l R M Z pc lv (ze_l b :: ze_l a :: st) w cu su := by
  intro p e s m args below meth c H locs ls X hH hS hl
  have ee : Int64.ofInt (a / b) = Int64.ofInt a / Int64.ofInt b := by
    rw [← Int.tdiv_eq_ediv_of_nonneg ha.1]
    exact Int64.ofInt_tdiv (by simp only [Int64.toInt_minValue]; omega) (by simp only [Int64.toInt_maxValue]; omega) (by simp only [Int64.toInt_minValue]; omega) (by simp only [Int64.toInt_maxValue]; omega)
  refine lv_ldiv X.1 X.2.1 hd (fun h => ?_) ?_
  · have h2 := congrArg Int64.toInt h
    rw [ze_t64 (by omega)] at h2
    simp at h2
    omega
  · rw [← ee]
    exact k p e s m args below meth c H locs ls X hH hS hl
theorem ze_lrem {a b : Int} (hd : decode M.2.1 pc = .ok (.lrem, 1)) (ha : 0 ≤ a ∧ a < 9223372036854775808) (hb : 0 < b ∧ b < 9223372036854775808) (k : ze_V G l R M Z (pc + 1) lv (ze_l (a % b) :: st) w cu su) : ze_V G l R M Z pc lv (ze_l b :: ze_l a :: st) w cu su := by
  intro p e s m args below meth c H locs ls X hH hS hl
  have ee : Int64.ofInt (a / b) = Int64.ofInt a / Int64.ofInt b := by
    rw [← Int.tdiv_eq_ediv_of_nonneg ha.1]
    exact Int64.ofInt_tdiv (by simp only [Int64.toInt_minValue]; omega) (by simp only [Int64.toInt_maxValue]; omega) (by simp only [Int64.toInt_minValue]; omega) (by simp only [Int64.toInt_maxValue]; omega)
  refine lv_lrem X.1 X.2.1 hd (fun h => ?_) ?_
  · have h2 := congrArg Int64.toInt h
    rw [ze_t64 (by omega)] at h2
    simp at h2
    omega
  · rw [← ee, ← Int64.ofInt_mul, ← Int64.ofInt_sub, show a - a / b * b = a % b by rw [Int.mul_comm, Int.emod_def]]
    exact k p e s m args below meth c H locs ls X hH hS hl
theorem ze_lrem2 {a b z : Int} (hd : decode M.2.1 pc = .ok (.lrem, 1)) (hb : 0 < b ∧ b < 9223372036854775808) (ha : -9223372036854775808 ≤ a ∧ a < 9223372036854775808) (hz : a.tmod b = z) (k : ze_V G l R M Z (pc + 1) lv (ze_l z :: st) w cu su) : ze_V G l R M Z pc lv (ze_l b :: ze_l a :: st) w cu su := by
  intro p e s m args below meth c H locs ls X hH hS hl
  have ee : Int64.ofInt (a.tdiv b) = Int64.ofInt a / Int64.ofInt b := Int64.ofInt_tdiv (by simp only [Int64.toInt_minValue]; omega) (by simp only [Int64.toInt_maxValue]; omega) (by simp only [Int64.toInt_minValue]; omega) (by simp only [Int64.toInt_maxValue]; omega)
  refine lv_lrem X.1 X.2.1 hd (fun h => ?_) ?_
  · have h2 := congrArg Int64.toInt h
    rw [ze_t64 (by omega)] at h2
    simp at h2
    omega
  · rw [← ee, ← Int64.ofInt_mul, ← Int64.ofInt_sub, show a - a.tdiv b * b = z by rw [← hz, Int.tmod_def, Int.mul_comm]]
    exact k p e s m args below meth c H locs ls X hH hS hl
theorem ze_i2l {a : Int} (hd : decode M.2.1 pc = .ok (.i2l, 1)) (ha : -2147483648 ≤ a ∧ a < 2147483648) (k : ze_V G l R M Z (pc + 1) lv (ze_l a :: st) w cu su) : ze_V G l R M Z pc lv (ze_i a :: st) w cu su := by
  intro p e s m args below meth c H locs ls X hH hS hl
  refine lv_i2l X.1 X.2.1 hd (v := Int64.ofInt a) ?_ (k p e s m args below meth c H locs ls X hH hS hl)
  apply Int64.toInt_inj.mp
  rw [Int32.toInt_toInt64, ze_t32 ha, ze_t64 (by omega)]
theorem ze_l2i {a : Int} (hd : decode M.2.1 pc = .ok (.l2i, 1)) (k : ze_V G l R M Z (pc + 1) lv (ze_i a :: st) w cu su) : ze_V G l R M Z pc lv (ze_l a :: st) w cu su := by
  intro p e s m args below meth c H locs ls X hH hS hl
  refine lv_l2i X.1 X.2.1 hd (v := Int32.ofInt a) ?_ (k p e s m args below meth c H locs ls X hH hS hl)
  exact Int64.toInt32_ofInt
theorem ze_land {a b z : Int} (hd : decode M.2.1 pc = .ok (.land, 1)) (hz : Int64.ofInt a &&& Int64.ofInt b = Int64.ofInt z) (k : ze_V G l R M Z (pc + 1) lv (ze_l z :: st) w cu su) : ze_V G l R M Z pc lv (ze_l b :: ze_l a :: st) w cu su := by
  intro p e s m args below meth c H locs ls X hH hS hl
  refine lv_land X.1 X.2.1 hd ?_
  rw [hz]
  exact k p e s m args below meth c H locs ls X hH hS hl
theorem ze_lor {a b z : Int} (hd : decode M.2.1 pc = .ok (.lor, 1)) (hz : Int64.ofInt a ||| Int64.ofInt b = Int64.ofInt z) (k : ze_V G l R M Z (pc + 1) lv (ze_l z :: st) w cu su) : ze_V G l R M Z pc lv (ze_l b :: ze_l a :: st) w cu su := by
  intro p e s m args below meth c H locs ls X hH hS hl
  refine lv_lor X.1 X.2.1 hd ?_
  rw [hz]
  exact k p e s m args below meth c H locs ls X hH hS hl
theorem ze_lxor {a b z : Int} (hd : decode M.2.1 pc = .ok (.lxor, 1)) (hz : Int64.ofInt a ^^^ Int64.ofInt b = Int64.ofInt z) (k : ze_V G l R M Z (pc + 1) lv (ze_l z :: st) w cu su) : ze_V G l R M Z pc lv (ze_l b :: ze_l a :: st) w cu su := by
  intro p e s m args below meth c H locs ls X hH hS hl
  refine lv_lxor X.1 X.2.1 hd ?_
  rw [hz]
  exact k p e s m args below meth c H locs ls X hH hS hl
theorem ze_iand {a b z : Int} (hd : decode M.2.1 pc = .ok (.iand, 1)) (hz : Int32.ofInt a &&& Int32.ofInt b = Int32.ofInt z) (k : ze_V G l R M Z (pc + 1) lv (ze_i z :: st) w cu su) : ze_V G l R M Z pc lv (ze_i b :: ze_i a :: st) w cu su := by
  intro p e s m args below meth c H locs ls X hH hS hl
  refine lv_iand X.1 X.2.1 hd ?_
  rw [hz]
  exact k p e s m args below meth c H locs ls X hH hS hl
theorem ze_iushr {a b z : Int} (hd : decode M.2.1 pc = .ok (.iushr, 1)) (hz : ((Int32.ofInt a).toUInt32 >>> ((Int32.ofInt b).toUInt32 &&& Int32.toUInt32 31)).toInt32 = Int32.ofInt z) (k : ze_V G l R M Z (pc + 1) lv (ze_i z :: st) w cu su) : ze_V G l R M Z pc lv (ze_i b :: ze_i a :: st) w cu su := by
  intro p e s m args below meth c H locs ls X hH hS hl
  exact lv_iushr X.1 X.2.1 hd hz (k p e s m args below meth c H locs ls X hH hS hl)
theorem ze_lushr {a b z : Int} (hd : decode M.2.1 pc = .ok (.lushr, 1)) (hz : ((Int64.ofInt a).toUInt64 >>> ((Int32.ofInt b).toInt64.toUInt64 &&& Int64.toUInt64 63)).toInt64 = Int64.ofInt z) (k : ze_V G l R M Z (pc + 1) lv (ze_l z :: st) w cu su) : ze_V G l R M Z pc lv (ze_i b :: ze_l a :: st) w cu su := by
  intro p e s m args below meth c H locs ls X hH hS hl
  exact lv_lushr X.1 X.2.1 hd hz (k p e s m args below meth c H locs ls X hH hS hl)
theorem ze_lshl {a b z : Int} (hd : decode M.2.1 pc = .ok (.lshl, 1)) (hz : Int64.ofInt a <<< ((Int32.ofInt b).toInt64 &&& 63) = Int64.ofInt z) (k : ze_V G l R M Z (pc + 1) lv (ze_l z :: st) w cu su) : ze_V G l R M Z pc lv (ze_i b :: ze_l a :: st) w cu su := by
  intro p e s m args below meth c H locs ls X hH hS hl
  exact lv_lshl X.1 X.2.1 hd hz (k p e s m args below meth c H locs ls X hH hS hl)
theorem ze_lshr {a b z : Int} (hd : decode M.2.1 pc = .ok (.lshr, 1)) (hz : Int64.ofInt a >>> ((Int32.ofInt b).toInt64 &&& 63) = Int64.ofInt z) (k : ze_V G l R M Z (pc + 1) lv (ze_l z :: st) w cu su) : ze_V G l R M Z pc lv (ze_i b :: ze_l a :: st) w cu su := by
  intro p e s m args below meth c H locs ls X hH hS hl
  exact lv_lshr X.1 X.2.1 hd hz (k p e s m args below meth c H locs ls X hH hS hl)
theorem ze_lcmp {a b : Int} (hd : decode M.2.1 pc = .ok (.lcmp, 1)) (ha : -9223372036854775808 ≤ a ∧ a < 9223372036854775808) (hb : -9223372036854775808 ≤ b ∧ b < 9223372036854775808) (k : ze_V G l R M Z (pc + 1) lv (ze_i (if b < a then 1 else if a = b then 0 else -1) :: st) w cu su) : ze_V G l R M Z pc lv (ze_l b :: ze_l a :: st) w cu su := by
  intro p e s m args below meth c H locs ls X hH hS hl
  refine W.lcmp X.1 X.2.1 hd ?_
  have ee : lg_cmp (Int64.ofInt a) (Int64.ofInt b) = Int32.ofInt (if b < a then 1 else if a = b then 0 else -1) := by
    unfold lg_cmp
    have h1 := ze_lt64 hb ha
    have h2 := ze_eq64 ha hb
    by_cases q1 : b < a
    · rw [if_pos (h1.mpr q1), if_pos q1]; rfl
    · rw [if_neg (fun h => q1 (h1.mp h)), if_neg q1]
      by_cases q2 : a = b
      · rw [if_pos (h2.mpr q2), if_pos q2]; rfl
      · rw [if_neg (fun h => q2 (h2.mp h)), if_neg q2]; rfl
  rw [ee]
  exact k p e s m args below meth c H locs ls X hH hS hl
theorem ze_dup {v : Value} (hd : decode M.2.1 pc = .ok (.dup, 1)) (hv : v.category = 1) (k : ze_V G l R M Z (pc + 1) lv (v :: v :: st) w cu su) : ze_V G l R M Z pc lv (v :: st) w cu su := by
  intro p e s m args below meth c H locs ls X hH hS hl
  exact lv_dup X.1 X.2.1 hd hv (k p e s m args below meth c H locs ls X hH hS hl)
theorem ze_dup2 {v u : Value} (hd : decode M.2.1 pc = .ok (.dup2, 1)) (hv : v.category = 1) (hu : u.category = 1) (k : ze_V G l R M Z (pc + 1) lv (v :: u :: v :: u :: st) w cu su) : ze_V G l R M Z pc lv (v :: u :: st) w cu su := by
  intro p e s m args below meth c H locs ls X hH hS hl
  exact lv_dup2_11 X.1 X.2.1 hd hv hu (k p e s m args below meth c H locs ls X hH hS hl)
theorem ze_goto {off : Int} (tgt : Nat) (hd : decode M.2.1 pc = .ok (.goto off, 3)) (ht : (pc : Int) + off = (tgt : Int)) (k : ze_V G l R M Z (tgt) lv (st) w cu su) : ze_V G l R M Z pc lv (st) w cu su := by
  intro p e s m args below meth c H locs ls X hH hS hl
  exact lv_goto X.1 X.2.1 hd ht (k p e s m args below meth c H locs ls X hH hS hl)
theorem ze_icmp_eq {a b off : Int} (tgt : Nat) (hd : decode M.2.1 pc = .ok (.if_icmp .eq off, 3)) (ht : (pc : Int) + off = (tgt : Int)) (ha : -2147483648 ≤ a ∧ a < 2147483648) (hb : -2147483648 ≤ b ∧ b < 2147483648) (kt : a = b → ze_V G l R M Z tgt lv st w cu su) (kf : a ≠ b → ze_V G l R M Z (pc + 3) lv st w cu su) : ze_V G l R M Z pc lv (ze_i b :: ze_i a :: st) w cu su := by
  intro p e s m args below meth c H locs ls X hH hS hl
  have h := ze_eq32 ha hb
  exact lv_icmp_eq X.1 X.2.1 hd ht (fun q => kt (h.mp q) p e s m args below meth c H locs ls X hH hS hl) (fun q => kf (fun q2 => q (h.mpr q2)) p e s m args below meth c H locs ls X hH hS hl)
theorem ze_if_eq {a off : Int} (tgt : Nat) (hd : decode M.2.1 pc = .ok (.ifCond .eq off, 3)) (ht : (pc : Int) + off = (tgt : Int)) (ha : -2147483648 ≤ a ∧ a < 2147483648) (kt : a = 0 → ze_V G l R M Z tgt lv st w cu su) (kf : a ≠ 0 → ze_V G l R M Z (pc + 3) lv st w cu su) : ze_V G l R M Z pc lv (ze_i a :: st) w cu su := by
  intro p e s m args below meth c H locs ls X hH hS hl
  have h := ze_eq32 ha (b := 0) (by omega)
  exact lv_if_eq X.1 X.2.1 hd ht (fun q => kt (h.mp q) p e s m args below meth c H locs ls X hH hS hl) (fun q => kf (fun q2 => q (h.mpr q2)) p e s m args below meth c H locs ls X hH hS hl)
theorem ze_icmp_ne {a b off : Int} (tgt : Nat) (hd : decode M.2.1 pc = .ok (.if_icmp .ne off, 3)) (ht : (pc : Int) + off = (tgt : Int)) (ha : -2147483648 ≤ a ∧ a < 2147483648) (hb : -2147483648 ≤ b ∧ b < 2147483648) (kt : a ≠ b → ze_V G l R M Z tgt lv st w cu su) (kf : a = b → ze_V G l R M Z (pc + 3) lv st w cu su) : ze_V G l R M Z pc lv (ze_i b :: ze_i a :: st) w cu su := by
  intro p e s m args below meth c H locs ls X hH hS hl
  have h := ze_eq32 ha hb
  exact lv_icmp_ne X.1 X.2.1 hd ht (fun q => kt (fun q2 => q (h.mpr q2)) p e s m args below meth c H locs ls X hH hS hl) (fun q => kf (h.mp q) p e s m args below meth c H locs ls X hH hS hl)
theorem ze_if_ne {a off : Int} (tgt : Nat) (hd : decode M.2.1 pc = .ok (.ifCond .ne off, 3)) (ht : (pc : Int) + off = (tgt : Int)) (ha : -2147483648 ≤ a ∧ a < 2147483648) (kt : a ≠ 0 → ze_V G l R M Z tgt lv st w cu su) (kf : a = 0 → ze_V G l R M Z (pc + 3) lv st w cu su) : ze_V G l R M Z pc lv (ze_i a :: st) w cu su := by
  intro p e s m args below meth c H locs ls X hH hS hl
  have h := ze_eq32 ha (b := 0) (by omega)
  exact lv_if_ne X.1 X.2.1 hd ht (fun q => kt (fun q2 => q (h.mpr q2)) p e s m args below meth c H locs ls X hH hS hl) (fun q => kf (h.mp q) p e s m args below meth c H locs ls X hH hS hl)
theorem ze_icmp_lt {a b off : Int} (tgt : Nat) (hd : decode M.2.1 pc = .ok (.if_icmp .lt off, 3)) (ht : (pc : Int) + off = (tgt : Int)) (ha : -2147483648 ≤ a ∧ a < 2147483648) (hb : -2147483648 ≤ b ∧ b < 2147483648) (kt : a < b → ze_V G l R M Z tgt lv st w cu su) (kf : b ≤ a → ze_V G l R M Z (pc + 3) lv st w cu su) : ze_V G l R M Z pc lv (ze_i b :: ze_i a :: st) w cu su := by
  intro p e s m args below meth c H locs ls X hH hS hl
  have h := ze_lt32 ha hb
  exact lv_icmp_lt X.1 X.2.1 hd ht (fun q => kt (h.mp q) p e s m args below meth c H locs ls X hH hS hl) (fun q => kf (Int.not_lt.mp (fun q2 => q (h.mpr q2))) p e s m args below meth c H locs ls X hH hS hl)
theorem ze_if_lt {a off : Int} (tgt : Nat) (hd : decode M.2.1 pc = .ok (.ifCond .lt off, 3)) (ht : (pc : Int) + off = (tgt : Int)) (ha : -2147483648 ≤ a ∧ a < 2147483648) (kt : a < 0 → ze_V G l R M Z tgt lv st w cu su) (kf : 0 ≤ a → ze_V G l R M Z (pc + 3) lv st w cu su) : ze_V G l R M Z pc lv (ze_i a :: st) w cu su := by
  intro p e s m args below meth c H locs ls X hH hS hl
  have h := ze_lt32 ha (b := 0) (by omega)
  exact lv_if_lt X.1 X.2.1 hd ht (fun q => kt (h.mp q) p e s m args below meth c H locs ls X hH hS hl) (fun q => kf (Int.not_lt.mp (fun q2 => q (h.mpr q2))) p e s m args below meth c H locs ls X hH hS hl)
theorem ze_icmp_ge {a b off : Int} (tgt : Nat) (hd : decode M.2.1 pc = .ok (.if_icmp .ge off, 3)) (ht : (pc : Int) + off = (tgt : Int)) (ha : -2147483648 ≤ a ∧ a < 2147483648) (hb : -2147483648 ≤ b ∧ b < 2147483648) (kt : b ≤ a → ze_V G l R M Z tgt lv st w cu su) (kf : a < b → ze_V G l R M Z (pc + 3) lv st w cu su) : ze_V G l R M Z pc lv (ze_i b :: ze_i a :: st) w cu su := by
  intro p e s m args below meth c H locs ls X hH hS hl
  have h := ze_le32 hb ha
  exact lv_icmp_ge X.1 X.2.1 hd ht (fun q => kt (h.mp q) p e s m args below meth c H locs ls X hH hS hl) (fun q => kf (Int.not_le.mp (fun q2 => q (h.mpr q2))) p e s m args below meth c H locs ls X hH hS hl)
theorem ze_if_ge {a off : Int} (tgt : Nat) (hd : decode M.2.1 pc = .ok (.ifCond .ge off, 3)) (ht : (pc : Int) + off = (tgt : Int)) (ha : -2147483648 ≤ a ∧ a < 2147483648) (kt : 0 ≤ a → ze_V G l R M Z tgt lv st w cu su) (kf : a < 0 → ze_V G l R M Z (pc + 3) lv st w cu su) : ze_V G l R M Z pc lv (ze_i a :: st) w cu su := by
  intro p e s m args below meth c H locs ls X hH hS hl
  have h := ze_le32 (a := 0) (by omega) ha
  exact lv_if_ge X.1 X.2.1 hd ht (fun q => kt (h.mp q) p e s m args below meth c H locs ls X hH hS hl) (fun q => kf (Int.not_le.mp (fun q2 => q (h.mpr q2))) p e s m args below meth c H locs ls X hH hS hl)
theorem ze_icmp_gt {a b off : Int} (tgt : Nat) (hd : decode M.2.1 pc = .ok (.if_icmp .gt off, 3)) (ht : (pc : Int) + off = (tgt : Int)) (ha : -2147483648 ≤ a ∧ a < 2147483648) (hb : -2147483648 ≤ b ∧ b < 2147483648) (kt : b < a → ze_V G l R M Z tgt lv st w cu su) (kf : a ≤ b → ze_V G l R M Z (pc + 3) lv st w cu su) : ze_V G l R M Z pc lv (ze_i b :: ze_i a :: st) w cu su := by
  intro p e s m args below meth c H locs ls X hH hS hl
  have h := ze_lt32 hb ha
  exact lv_icmp_gt X.1 X.2.1 hd ht (fun q => kt (h.mp q) p e s m args below meth c H locs ls X hH hS hl) (fun q => kf (Int.not_lt.mp (fun q2 => q (h.mpr q2))) p e s m args below meth c H locs ls X hH hS hl)
theorem ze_if_gt {a off : Int} (tgt : Nat) (hd : decode M.2.1 pc = .ok (.ifCond .gt off, 3)) (ht : (pc : Int) + off = (tgt : Int)) (ha : -2147483648 ≤ a ∧ a < 2147483648) (kt : 0 < a → ze_V G l R M Z tgt lv st w cu su) (kf : a ≤ 0 → ze_V G l R M Z (pc + 3) lv st w cu su) : ze_V G l R M Z pc lv (ze_i a :: st) w cu su := by
  intro p e s m args below meth c H locs ls X hH hS hl
  have h := ze_lt32 (a := 0) (by omega) ha
  exact lv_if_gt X.1 X.2.1 hd ht (fun q => kt (h.mp q) p e s m args below meth c H locs ls X hH hS hl) (fun q => kf (Int.not_lt.mp (fun q2 => q (h.mpr q2))) p e s m args below meth c H locs ls X hH hS hl)
theorem ze_icmp_le {a b off : Int} (tgt : Nat) (hd : decode M.2.1 pc = .ok (.if_icmp .le off, 3)) (ht : (pc : Int) + off = (tgt : Int)) (ha : -2147483648 ≤ a ∧ a < 2147483648) (hb : -2147483648 ≤ b ∧ b < 2147483648) (kt : a ≤ b → ze_V G l R M Z tgt lv st w cu su) (kf : b < a → ze_V G l R M Z (pc + 3) lv st w cu su) : ze_V G l R M Z pc lv (ze_i b :: ze_i a :: st) w cu su := by
  intro p e s m args below meth c H locs ls X hH hS hl
  have h := ze_le32 ha hb
  exact lv_icmp_le X.1 X.2.1 hd ht (fun q => kt (h.mp q) p e s m args below meth c H locs ls X hH hS hl) (fun q => kf (Int.not_le.mp (fun q2 => q (h.mpr q2))) p e s m args below meth c H locs ls X hH hS hl)
theorem ze_if_le {a off : Int} (tgt : Nat) (hd : decode M.2.1 pc = .ok (.ifCond .le off, 3)) (ht : (pc : Int) + off = (tgt : Int)) (ha : -2147483648 ≤ a ∧ a < 2147483648) (kt : a ≤ 0 → ze_V G l R M Z tgt lv st w cu su) (kf : 0 < a → ze_V G l R M Z (pc + 3) lv st w cu su) : ze_V G l R M Z pc lv (ze_i a :: st) w cu su := by
  intro p e s m args below meth c H locs ls X hH hS hl
  have h := ze_le32 ha (b := 0) (by omega)
  exact lv_if_le X.1 X.2.1 hd ht (fun q => kt (h.mp q) p e s m args below meth c H locs ls X hH hS hl) (fun q => kf (Int.not_le.mp (fun q2 => q (h.mpr q2))) p e s m args below meth c H locs ls X hH hS hl)
theorem ze_ifnull {a : Nat} {off : Int} (hd : decode M.2.1 pc = .ok (.ifnull off, 3)) (k : ze_V G l R M Z (pc + 3) lv (st) w cu su) : ze_V G l R M Z pc lv (.ref a :: st) w cu su := by
  intro p e s m args below meth c H locs ls X hH hS hl
  exact lv_ifnull X.1 X.2.1 hd (k p e s m args below meth c H locs ls X hH hS hl)
theorem ze_ifnullN {off : Int} (tgt : Nat) (hd : decode M.2.1 pc = .ok (.ifnull off, 3)) (ht : (pc : Int) + off = (tgt : Int)) (k : ze_V G l R M Z (tgt) lv (st) w cu su) : ze_V G l R M Z pc lv (.null :: st) w cu su := by
  intro p e s m args below meth c H locs ls X hH hS hl
  exact lv_ifnullN X.1 X.2.1 hd ht (k p e s m args below meth c H locs ls X hH hS hl)
theorem ze_ifnonnull {a : Nat} {off : Int} (tgt : Nat) (hd : decode M.2.1 pc = .ok (.ifnonnull off, 3)) (ht : (pc : Int) + off = (tgt : Int)) (k : ze_V G l R M Z (tgt) lv (st) w cu su) : ze_V G l R M Z pc lv (.ref a :: st) w cu su := by
  intro p e s m args below meth c H locs ls X hH hS hl
  exact lv_ifnonnull X.1 X.2.1 hd ht (k p e s m args below meth c H locs ls X hH hS hl)
theorem ze_ifnonnullN {off : Int} (hd : decode M.2.1 pc = .ok (.ifnonnull off, 3)) (k : ze_V G l R M Z (pc + 3) lv (st) w cu su) : ze_V G l R M Z pc lv (.null :: st) w cu su := by
  intro p e s m args below meth c H locs ls X hH hS hl
  exact lv_ifnonnullN X.1 X.2.1 hd (k p e s m args below meth c H locs ls X hH hS hl)
theorem ze_ti {a b : Int} (h : a = b) (k : ze_V G l R M Z pc lv (ze_i b :: st) w cu su) : ze_V G l R M Z pc lv (ze_i a :: st) w cu su := h ▸ k
theorem ze_tl {a b : Int} (h : a = b) (k : ze_V G l R M Z pc lv (ze_l b :: st) w cu su) : ze_V G l R M Z pc lv (ze_l a :: st) w cu su := h ▸ k
theorem ze_lv {lv' : List (Nat × Value)} (ks : List Nat) (h : lv_pick lv ks = lv') (k : ze_V G l R M Z pc lv' st w cu su) : ze_V G l R M Z pc lv st w cu su := by
  intro p e s m args below meth c H locs ls X hH hS hl
  exact k p e s m args below meth c H locs ls X hH hS (lv_sub hl ks h)
theorem ze_wd {c1 s1 : Nat} (h1 : cu ≤ c1) (h2 : su ≤ s1) (k : ze_V G l R M Z pc lv st w c1 s1) : ze_V G l R M Z pc lv st w cu su := by
  intro p e s m args below meth c H locs ls X hH hS hl
  exact W.widen h1 h2 (k p e s m args below meth c H locs ls X hH hS hl)
end ZR
theorem ze_enter {G : ze_G} {l : Launch} {k mc ms : Nat} {M : ze_M} {av : List Value} {w : ze_W} {Q : Option Value → ze_W → Prop} (hy : plainName M.1.cls = true) (hn : Nat.ble (lg_sl av).length M.2.2.1 = true) (hv : ze_V G l (ze_rm k mc ms) M (ze_Q G Q mc ms) 0 (lv_args 0 av) [] w 0 0) : ze_C G l k mc ms M av w Q := by
  refine Met.ofW (cc := M.2.1) (maxL := M.2.2.1) (ret := M.2.2.2) hy rfl ?_
  intro p e s m args below meth c s₁ B hml hv'
  obtain ⟨rfl, hH, hK, hZ, hb⟩ := hv'
  have hts := atoms_spec (ws := ze_ws M) B.pre
  have hown : s.vm.findClass M.1.cls = some m.cls := findClass_of_methodNamed B.named
  have hin := (name_of_methodNamed B.named B.method).1
  have hl := lv_entry av (Nat.le_of_ble_eq_true hn)
  rw [lg_entry_eq]
  exact hv p e s m _ below meth c s.heap [] _ ⟨B.exec, B.bytes, hml, B.returns, B.notSynchronized, hown, fun w hw => hts w (List.mem_cons_of_mem _ hw), hK, hZ, hb, hin⟩ hH va_S.rf hl
section ZE
variable {G : ze_G} {l : Launch} {R : Room} {M : ze_M} {Q : Option Value → ze_W → Prop} {mc ms : Nat} {pc : Nat} {lv : List (Nat × Value)} {w : ze_W} {cu su : Nat}
theorem ze_ireturn {a : Int} (hr : M.2.2.2 = some .int) (hd : decode M.2.1 pc = .ok (.ireturn, 1)) (hq : Q (some (ze_i a)) w) (hc : Nat.ble cu mc = true) (hs : Nat.ble su ms = true) : ze_V G l R M (ze_Q G Q mc ms) pc lv ([ze_i a]) w cu su := by
  intro p e s m args below meth c H locs ls X hH hS hl
  refine W.widen (Nat.le_of_ble_eq_true hc) (Nat.le_of_ble_eq_true hs) ?_
  exact W.iret X.1 X.2.1 (X.2.2.2.1.trans hr) (fun t ht hW => ⟨⟨some (ze_i a), w, rfl, hq, by rw [ht]; exact hH⟩, hS.F ht⟩) hS.2.2 hd X.2.2.2.2.1
theorem ze_zreturn {a : Int} (hr : M.2.2.2 = some .boolean) (hd : decode M.2.1 pc = .ok (.ireturn, 1)) (ha : a = 0 ∨ a = 1) (hq : Q (some (ze_i a)) w) (hc : Nat.ble cu mc = true) (hs : Nat.ble su ms = true) : ze_V G l R M (ze_Q G Q mc ms) pc lv ([ze_i a]) w cu su := by
  intro p e s m args below meth c H locs ls X hH hS hl
  refine W.widen (Nat.le_of_ble_eq_true hc) (Nat.le_of_ble_eq_true hs) ?_
  exact W.zret X.1 X.2.1 (X.2.2.2.1.trans hr) (by rcases ha with rfl | rfl <;> rfl) (fun t ht hW => ⟨⟨some (ze_i a), w, rfl, hq, by rw [ht]; exact hH⟩, hS.F ht⟩) hS.2.2 hd X.2.2.2.2.1
theorem ze_lreturn {a : Int} (hr : M.2.2.2 = some .long) (hd : decode M.2.1 pc = .ok (.lreturn, 1)) (hq : Q (some (ze_l a)) w) (hc : Nat.ble cu mc = true) (hs : Nat.ble su ms = true) : ze_V G l R M (ze_Q G Q mc ms) pc lv ([ze_l a]) w cu su := by
  intro p e s m args below meth c H locs ls X hH hS hl
  refine W.widen (Nat.le_of_ble_eq_true hc) (Nat.le_of_ble_eq_true hs) ?_
  exact W.lret X.1 X.2.1 (X.2.2.2.1.trans hr) (fun t ht hW => ⟨⟨some (ze_l a), w, rfl, hq, by rw [ht]; exact hH⟩, hS.F ht⟩) hS.2.2 hd X.2.2.2.2.1
theorem ze_return (hr : M.2.2.2 = none) (hd : decode M.2.1 pc = .ok (.return_, 1)) (hq : Q none w) (hc : Nat.ble cu mc = true) (hs : Nat.ble su ms = true) : ze_V G l R M (ze_Q G Q mc ms) pc lv ([]) w cu su := by
  intro p e s m args below meth c H locs ls X hH hS hl
  refine W.widen (Nat.le_of_ble_eq_true hc) (Nat.le_of_ble_eq_true hs) ?_
  exact W.vret X.1 X.2.1 (X.2.2.2.1.trans hr) (fun t ht hW => ⟨⟨none, w, rfl, hq, by rw [ht]; exact hH⟩, hS.F ht⟩) hS.2.2 hd X.2.2.2.2.1
theorem ze_areturn {r : Option Nat} {ty : FieldType} (hr : M.2.2.2 = some ty) (hty : (∃ n, ty = .object n) ∨ ∃ t, ty = .array t) (hd : decode M.2.1 pc = .ok (.areturn, 1)) (hq : Q (some (va_rf r)) w) (hc : Nat.ble cu mc = true) (hs : Nat.ble su ms = true) : ze_V G l R M (ze_Q G Q mc ms) pc lv ([va_rf r]) w cu su := by
  intro p e s m args below meth c H locs ls X hH hS hl
  refine W.widen (Nat.le_of_ble_eq_true hc) (Nat.le_of_ble_eq_true hs) ?_
  exact W.aret X.1 X.2.1 (X.2.2.2.1.trans hr) hty (by cases r <;> simp [va_rf]) (fun t ht hW => ⟨⟨some (va_rf r), w, rfl, hq, by rw [ht]; exact hH⟩, hS.F ht⟩) hS.2.2 hd X.2.2.2.2.1
end ZE
