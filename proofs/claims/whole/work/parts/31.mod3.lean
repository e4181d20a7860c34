/-! the reference: chances -/
theorem sm_mul {n : Nat} {f : Nat → Nat} (a : Nat) : sm n (fun j => a * f j) = a * sm n f := by
  induction n with
  | zero => rfl
  | succ n ih => rw [sm_s, sm_s, ih, Nat.mul_add]
theorem sm_add {n : Nat} {f g : Nat → Nat} : sm n (fun j => f j + g j) = sm n f + sm n g := by
  induction n with
  | zero => rfl
  | succ n ih => rw [sm_s, sm_s, sm_s, ih]; omega
theorem sm_zero {n : Nat} : sm n (fun _ => 0) = 0 := by
  induction n with
  | zero => rfl
  | succ n ih => rw [sm_s, ih]
theorem sm_swap {n m : Nat} {f : Nat → Nat → Nat} : sm n (fun i => sm m (fun j => f i j)) = sm m (fun j => sm n (fun i => f i j)) := by
  induction n with
  | zero => exact sm_zero.symm
  | succ n ih =>
    rw [sm_s, ih, ← sm_add]
    rfl
theorem sm_lem {n : Nat} {f g : Nat → Nat} (h : ∀ j, j < n → f j ≤ g j) : sm n f ≤ sm n g := by
  induction n with
  | zero => exact Nat.le_refl _
  | succ n ih =>
    rw [sm_s, sm_s]
    exact Nat.add_le_add (ih (fun j hj => h j (by omega))) (h n (by omega))
/-- what the sign at place i weighs in state s -/
def ce (ar : Nat → Nat → Int) (c s i : Nat) : Nat := (shx ar c s (ar 7 i)).toNat
/-- the chances behind, d places from the end of a row of L -/
def bk (ar : Nat → Nat → Int) (c L : Nat) : Nat → Nat → Nat
  | 0, _ => 1
  | d + 1, s => sm (cn ar c) (fun t => bk ar c L d t * (cg ar c s t * ce ar c t (L - 1 - d)))
/-- the chances ahead -/
def fk (ar : Nat → Nat → Int) (c : Nat) : Nat → Nat → Nat
  | 0, s => cb ar c s * ce ar c s 0
  | i + 1, s => sm (cn ar c) (fun t => fk ar c i t * (cg ar c t s * ce ar c s (i + 1)))
/-- a row that fits a sound chain -/
def rok (ar : Nat → Nat → Int) (c L : Nat) : Prop := mch ar c ∧ snd ar c ∧ L ≤ 60 ∧ ∀ i, i < L → -1 ≤ ar 7 i ∧ ar 7 i < ar 2 c
theorem shx_nn {ar : Nat → Nat → Int} {c s : Nat} {x : Int} (h : mch ar c) (hs : s < 8) (hx : -1 ≤ x ∧ x < 6) : shx ar c s x = ((shx ar c s x).toNat : Nat) ∧ (shx ar c s x).toNat ≤ ct ar c := by
  have h1 := h.2.2.1
  unfold shx ct
  split
  · omega
  · have h2 := h.2.2.2.2.2 s x.toNat hs (by omega)
    omega
theorem rok_e {ar : Nat → Nat → Int} {c L s i : Nat} (h : rok ar c L) (hs : s < 8) (hi : i < L) : shx ar c s (ar 7 i) = (ce ar c s i : Nat) ∧ ce ar c s i ≤ ct ar c := by
  have h2 := (mch_k h.1)
  have h1 := h.2.2.2 i hi
  exact shx_nn h.1 hs (by omega)
theorem rok_r {ar : Nat → Nat → Int} {c L i : Nat} (h : rok ar c L) (hi : i < L) : -1 ≤ ar 7 i ∧ ar 7 i < 6 := by
  have h2 := (mch_k h.1)
  have h1 := h.2.2.2 i hi
  omega
theorem bk_le {ar : Nat → Nat → Int} {c L : Nat} (h : rok ar c L) (d : Nat) : ∀ s, d < L → s < cn ar c → bk ar c L d s ≤ 1000000 ^ d := by
  have h8 := mch_n h.1
  have ht := mch_t h.1
  induction d with
  | zero => intro s _ _; exact Nat.le_refl _
  | succ d ih =>
    intro s hd hs
    have h1 : bk ar c L (d + 1) s ≤ sm (cn ar c) (fun t => 1000000 ^ d * ct ar c * cg ar c s t) := by
      apply sm_lem
      intro t ht2
      have e1 := ih t (by omega) ht2
      have e2 := (rok_e h (show t < 8 by omega) (show L - 1 - d < L by omega)).2
      calc bk ar c L d t * (cg ar c s t * ce ar c t (L - 1 - d)) ≤ 1000000 ^ d * (cg ar c s t * ct ar c) := Nat.mul_le_mul e1 (Nat.mul_le_mul_left _ e2)
        _ = 1000000 ^ d * ct ar c * cg ar c s t := by rw [Nat.mul_comm (cg ar c s t), Nat.mul_assoc]
    rw [sm_mul, (h.2.1.2 s hs).1, Nat.mul_assoc] at h1
    refine Nat.le_trans h1 ?_
    rw [Nat.pow_succ]
    exact Nat.mul_le_mul_left _ (Nat.mul_le_mul ht.2.2 ht.2.2)
theorem fk_sum {ar : Nat → Nat → Int} {c L : Nat} (h : rok ar c L) (i : Nat) : i < L → sm (cn ar c) (fk ar c i) ≤ 1000000 ^ (i + 1) := by
  have h8 := mch_n h.1
  have ht := mch_t h.1
  induction i with
  | zero =>
    intro hi
    have h1 : sm (cn ar c) (fk ar c 0) ≤ sm (cn ar c) (fun s => ct ar c * cb ar c s) := by
      apply sm_lem
      intro s hs
      have e2 := (rok_e h (show s < 8 by omega) hi).2
      show cb ar c s * ce ar c s 0 ≤ _
      rw [Nat.mul_comm]
      exact Nat.mul_le_mul_right _ e2
    rw [sm_mul, h.2.1.1] at h1
    refine Nat.le_trans h1 ?_
    rw [Nat.zero_add, Nat.pow_one]
    have := Nat.mul_le_mul ht.2.2 ht.2.2
    exact this
  | succ i ih =>
    intro hi
    have e0 := ih (by omega)
    have h1 : sm (cn ar c) (fk ar c (i + 1)) ≤ sm (cn ar c) (fun s => sm (cn ar c) (fun t => ct ar c * (fk ar c i t * cg ar c t s))) := by
      apply sm_lem
      intro s hs
      show sm (cn ar c) (fun t => fk ar c i t * (cg ar c t s * ce ar c s (i + 1))) ≤ _
      apply sm_lem
      intro t ht2
      have e2 := (rok_e h (show s < 8 by omega) hi).2
      rw [← Nat.mul_assoc, Nat.mul_comm (ct ar c)]
      exact Nat.mul_le_mul_left _ e2
    rw [sm_swap] at h1
    have h2 : sm (cn ar c) (fun t => sm (cn ar c) (fun s => ct ar c * (fk ar c i t * cg ar c t s))) = sm (cn ar c) (fun t => ct ar c * ct ar c * fk ar c i t) := by
      apply sm_congr
      intro t ht2
      rw [sm_mul, sm_mul, (h.2.1.2 t ht2).1, Nat.mul_comm (fk ar c i t), Nat.mul_assoc]
    rw [h2, sm_mul] at h1
    refine Nat.le_trans h1 ?_
    rw [Nat.pow_succ, Nat.mul_comm (1000000 ^ (i + 1))]
    exact Nat.mul_le_mul (Nat.mul_le_mul ht.2.2 ht.2.2) e0
theorem sm_one {n s : Nat} {f : Nat → Nat} (hs : s < n) : f s ≤ sm n f := by
  have h1 : sm (s + 1) f ≤ sm n f := sm_mono hs
  rw [sm_s] at h1
  omega
theorem fk_le {ar : Nat → Nat → Int} {c L i s : Nat} (h : rok ar c L) (hi : i < L) (hs : s < cn ar c) : fk ar c i s ≤ 1000000 ^ (i + 1) := Nat.le_trans (sm_one hs) (fk_sum h i hi)
theorem pw_lt {d : Nat} (h : d ≤ 61) : 1000000 ^ d < 4294967296 ^ 46 := Nat.lt_of_le_of_lt (Nat.pow_le_pow_right (by decide) h) (by decide +kernel)
theorem fit_46 {x d : Nat} (h : x ≤ 1000000 ^ d) (hd : d ≤ 61) : fit (x : Nat) 46 := Nat.lt_of_le_of_lt h (pw_lt hd)
theorem C8_addTimes {G : ze_G} {l : Launch} {w0 w : ze_W} {m C P F : Nat} {ar : Nat → Nat → Int} {bz : Nat → Int} (hM : mst G w0 w m C P F ar bz) {o1 o2 : Nat} {v : Int} (h1 : mcap o1 ≠ 0) (h2 : mcap o2 ≠ 0) (n1 : o1 ≠ 24 ∧ o1 ≠ 26 ∧ o1 ≠ 34) (n2 : o2 ≠ 24 ∧ o2 ≠ 34) (hv : -2147483648 ≤ v ∧ v < 2147483648) (f1 : fit (bz o1) 400) (f2 : fit (bz o2) 400) (f3 : fit (bz o1 + bz o2 * v) (mcap o1)) : ze_C G l 5 0 0 M8_addTimes [.ref m, .ref (m + o1), .ref (m + o2), ze_i v] w (ze_qv (fun w' => ∃ bz', mst G w0 w' m C P F ar bz' ∧ bz' o1 = bz o1 + bz o2 * v ∧ ∀ o, o ≠ o1 → o ≠ 24 → o ≠ 26 → o ≠ 34 → bz' o = bz o)) := by
  refine ze_enter (by decide +kernel) rfl ?_
  change ze_V G l (ze_rm 5 0 0) M8_addTimes _ 0 [(0, .ref m), (1, .ref (m + o1)), (2, .ref (m + o2)), (3, ze_i (v))] [] w 0 0
  refine ze_aload_n dX8_addTimes_0 rfl ?_
  refine ze_getf dX8_addTimes_1 fl_X8_98 (ms_o hM) rfl ?_
  refine ze_iload_n dX8_addTimes_4 rfl ?_
  refine ze_i2l dX8_addTimes_5 (by omega) ?_
  refine ze_callV (As := [ze_l (v)]) (rest := []) dX8_addTimes_6 (E7_of hM (o1 := 34) (by decide) (by omega)) mo7_of ml_X8_132 in_7_of se_7_of (ms_bx hM (by decide)).choose_spec rfl rfl rfl rfl rfl ⟨Nat.le_refl _, Nat.le_refl _⟩ rfl (Nat.le_of_ble_eq_true rfl) ?_
  rintro _ w1 ⟨rfl, hM1⟩
  change ze_V G l (ze_rm 5 0 0) M8_addTimes _ 9 [(0, .ref m), (1, .ref (m + o1)), (2, .ref (m + o2)), (3, ze_i (v))] [] w1 0 0
  have e1 : (va_up bz 34 v) o2 = bz o2 := va_up_ne _ _ n2.2
  have e2 : (va_up bz 34 v) 34 = v := va_up_self _ _ _
  have e3 : (va_up bz 34 v) o1 = bz o1 := va_up_ne _ _ n1.2.2
  have e4 : ∀ o, o ≠ 34 → (va_up bz 34 v) o = bz o := fun o h => va_up_ne _ _ h
  generalize va_up bz 34 v = bz1 at *
  refine ze_aload_n dX8_addTimes_9 rfl ?_
  refine ze_getf dX8_addTimes_10 fl_X8_83 (ms_o hM1) rfl ?_
  refine ze_aload_n dX8_addTimes_13 rfl ?_
  refine ze_aload_n dX8_addTimes_14 rfl ?_
  refine ze_getf dX8_addTimes_15 fl_X8_98 (ms_o hM1) rfl ?_
  refine ze_callV (As := [.ref (m + o2), .ref (m + 34)]) (rest := []) dX8_addTimes_18 (E7_times hM1 (o1 := 24) (o2 := o2) (o3 := 34) (K1 := 400) (K2 := 1) (by decide) h2 (by decide) (by omega) (by decide) (by rw [e1]; exact f2) (by rw [e2]; exact fit_sm (by omega)) (by decide)) mo7_times ml_X8_136 in_7_times se_7_times (ms_bx hM1 (by decide)).choose_spec rfl rfl rfl rfl rfl ⟨Nat.le_refl _, Nat.le_refl _⟩ rfl (Nat.le_of_ble_eq_true rfl) ?_
  rintro _ w2 ⟨rfl, hM2⟩
  change ze_V G l (ze_rm 5 0 0) M8_addTimes _ 21 [(0, .ref m), (1, .ref (m + o1)), (2, .ref (m + o2)), (3, ze_i (v))] [] w2 0 0
  have e5 : (va_up bz1 24 (bz1 o2 * bz1 34)) 24 = bz o2 * v := by rw [va_up_self, e1, e2]
  have e6 : (va_up bz1 24 (bz1 o2 * bz1 34)) o1 = bz o1 := by rw [va_up_ne _ _ n1.1, e3]
  have e7 : ∀ o, o ≠ 24 → o ≠ 34 → (va_up bz1 24 (bz1 o2 * bz1 34)) o = bz o := fun o h h' => by rw [va_up_ne _ _ h, e4 o h']
  generalize va_up bz1 24 (bz1 o2 * bz1 34) = bz2 at *
  refine ze_aload_n dX8_addTimes_21 rfl ?_
  refine ze_getf dX8_addTimes_22 fl_X8_86 (ms_o hM2) rfl ?_
  refine ze_aload_n dX8_addTimes_25 rfl ?_
  refine ze_aload_n dX8_addTimes_26 rfl ?_
  refine ze_getf dX8_addTimes_27 fl_X8_83 (ms_o hM2) rfl ?_
  refine ze_callV (As := [.ref (m + o1), .ref (m + 24)]) (rest := []) dX8_addTimes_30 (E7_add hM2 (o1 := 26) (o2 := o1) (o3 := 24) (K := 401) (by decide) h1 (by decide) (by omega) (by decide) (by rw [e6]; exact fit_le f1 (by decide)) (by rw [e5]; exact fit_mul f2 (fit_sm (by omega))) (by decide)) mo7_add ml_X8_140 in_7_add se_7_add (ms_bx hM2 (by decide)).choose_spec rfl rfl rfl rfl rfl ⟨Nat.le_refl _, Nat.le_refl _⟩ rfl (Nat.le_of_ble_eq_true rfl) ?_
  rintro _ w3 ⟨rfl, hM3⟩
  change ze_V G l (ze_rm 5 0 0) M8_addTimes _ 33 [(0, .ref m), (1, .ref (m + o1)), (2, .ref (m + o2)), (3, ze_i (v))] [] w3 0 0
  have e8 : (va_up bz2 26 (bz2 o1 + bz2 24)) 26 = bz o1 + bz o2 * v := by rw [va_up_self, e5, e6]
  have e9 : ∀ o, o ≠ 24 → o ≠ 26 → o ≠ 34 → (va_up bz2 26 (bz2 o1 + bz2 24)) o = bz o := fun o h h' h'' => by rw [va_up_ne _ _ h', e7 o h h'']
  generalize va_up bz2 26 (bz2 o1 + bz2 24) = bz3 at *
  refine ze_aload_n dX8_addTimes_33 rfl ?_
  refine ze_aload_n dX8_addTimes_34 rfl ?_
  refine ze_getf dX8_addTimes_35 fl_X8_86 (ms_o hM3) rfl ?_
  refine ze_callV (As := [.ref (m + 26)]) (rest := []) dX8_addTimes_38 (E7_copy hM3 (o1 := o1) (o2 := 26) h1 (by decide) (by omega) (by rw [e8]; exact f3)) mo7_copy ml_X8_143 in_7_copy se_7_copy (ms_bx hM3 h1).choose_spec rfl rfl rfl rfl rfl ⟨Nat.le_refl _, Nat.le_refl _⟩ rfl (Nat.le_of_ble_eq_true rfl) ?_
  rintro _ w4 ⟨rfl, hM4⟩
  change ze_V G l (ze_rm 5 0 0) M8_addTimes _ 41 [(0, .ref m), (1, .ref (m + o1)), (2, .ref (m + o2)), (3, ze_i (v))] [] w4 0 0
  exact ze_return rfl dX8_addTimes_41 ⟨rfl, _, hM4, by rw [va_up_self, e8], fun o g1 g2 g3 g4 => by rw [va_up_ne _ _ g1, e9 o g2 g3 g4]⟩ rfl rfl
