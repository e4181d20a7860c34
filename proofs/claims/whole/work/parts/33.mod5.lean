/-! the reference: chances, digits, parts, compares -/
/-- the chance of the row -/
def chn (ar : Nat → Nat → Int) (c P : Nat) : Nat := sm (cn ar c) (fun s => bk ar c P (P - 1) s * (cb ar c s * ce ar c s 0))
theorem chn_le {ar : Nat → Nat → Int} {c P : Nat} (h : rok ar c P) (hP : 0 < P) : chn ar c P ≤ 1000000 ^ P := by
  have h8 := mch_n h.1
  have ht := mch_t h.1
  have h1 : chn ar c P ≤ sm (cn ar c) (fun s => 1000000 ^ (P - 1) * ct ar c * cb ar c s) := by
    apply sm_lem
    intro s hs
    have e1 := bk_le h (P - 1) s (by omega) hs
    have e2 := (rok_e h (show s < 8 by omega) hP).2
    calc bk ar c P (P - 1) s * (cb ar c s * ce ar c s 0) ≤ 1000000 ^ (P - 1) * (cb ar c s * ct ar c) := Nat.mul_le_mul e1 (Nat.mul_le_mul_left _ e2)
      _ = 1000000 ^ (P - 1) * ct ar c * cb ar c s := by rw [Nat.mul_comm (cb ar c s), Nat.mul_assoc]
  rw [sm_mul, h.2.1.1, Nat.mul_assoc] at h1
  refine Nat.le_trans h1 ?_
  have e3 : 1000000 ^ P = 1000000 ^ (P - 1) * 1000000 := by
    rw [← Nat.pow_succ]
    congr 1
    omega
  rw [e3]
  exact Nat.mul_le_mul_left _ (Nat.mul_le_mul ht.2.2 ht.2.2)
/-- how many digits a number has -/
def isd (v : Nat) (r : Int) : Prop := (v = 0 ∧ r = 1) ∨ (0 < v ∧ ∃ k : Nat, r = (k + 1 : Nat) ∧ 10 ^ k ≤ v ∧ v < 10 ^ (k + 1))
theorem isd_un {v : Nat} {r r' : Int} (h : isd v r) (h' : isd v r') : r = r' := by
  rcases h with ⟨h1, h2⟩ | ⟨h1, k, h2, h3, h4⟩ <;> rcases h' with ⟨g1, g2⟩ | ⟨g1, k', g2, g3, g4⟩
  · omega
  · omega
  · omega
  · have e1 : k < k' + 1 := (Nat.pow_lt_pow_iff_right (by decide : 1 < 10)).1 (Nat.lt_of_le_of_lt h3 g4)
    have e2 : k' < k + 1 := (Nat.pow_lt_pow_iff_right (by decide : 1 < 10)).1 (Nat.lt_of_le_of_lt g3 h4)
    omega
theorem C8_chance {G : ze_G} {l : Launch} {w0 w : ze_W} {m C P F : Nat} {ar : Nat → Nat → Int} {bz : Nat → Int} (hM : mst G w0 w m C P F ar bz) {c o1 : Nat} (hc : c < 6) (hR : rok ar c P) (hP0 : 0 < P) (ho : o1 = 8 ∨ o1 = 28) : ze_C G l 7 0 0 M8_chance [.ref m, ze_i (c : Nat), .ref (m + o1)] w (ze_qv (fun w' => ∃ bz', mst G w0 w' m C P F ar bz' ∧ bz' o1 = (chn ar c P : Nat) ∧ (∀ o, (∀ j, o ≠ 38 + 4 * j) → o ≠ 24 → o ≠ 26 → o ≠ 34 → o ≠ o1 → bz' o = bz o))) := by
  obtain ⟨en, n1, n8⟩ := mch_n hR.1
  have hP := hR.2.2.1
  have hct := (mch_t hR.1).2.2
  have h1 : mcap o1 ≠ 0 := by rcases ho with h | h <;> rw [h] <;> decide
  have h420 : mcap o1 = 420 := by rcases ho with h | h <;> rw [h] <;> decide
  have hch := chn_le hR hP0
  refine ze_enter (by decide +kernel) rfl ?_
  generalize hQ : (ze_Q G (ze_qv (fun w' => ∃ bz', mst G w0 w' m C P F ar bz' ∧ bz' o1 = (chn ar c P : Nat) ∧ (∀ o, (∀ j, o ≠ 38 + 4 * j) → o ≠ 24 → o ≠ 26 → o ≠ 34 → o ≠ o1 → bz' o = bz o))) 0 0) = Z
  have loop : ∀ (d s : Nat) (bz1 : Nat → Int) (w1 : ze_W), s + d = cn ar c → mst G w0 w1 m C P F ar bz1 → (∀ y, y < cn ar c → bz1 (38 + 4 * (0 * 8 + y)) = (bk ar c P (P - 1) y : Nat)) → bz1 o1 = (sm s (fun s => bk ar c P (P - 1) s * (cb ar c s * ce ar c s 0)) : Nat) → (∀ o, (∀ j, o ≠ 38 + 4 * j) → o ≠ 24 → o ≠ 26 → o ≠ 34 → o ≠ o1 → bz1 o = bz o) → ze_V G l (ze_rm 7 0 0) M8_chance Z 11 [(0, .ref m), (1, ze_i ((c : Nat))), (2, .ref (m + o1)), (3, ze_i ((s : Nat)))] [] w1 0 0 := by
    intro d
    induction d with
    | zero =>
      intro s bz1 w1 hs hM1 hb hv hf
      have hsn : s = cn ar c := by omega
      rw [← hQ]
      refine ze_iload_n dX8_chance_11 rfl ?_
      refine ze_aload_n dX8_chance_12 rfl ?_
      refine ze_getf dX8_chance_13 fl_X8_9 (ms_o hM1) rfl ?_
      refine ze_iload_n dX8_chance_16 rfl ?_
      refine ze_iald (j := c) dX8_chance_17 (show w1.2 (m + 1) = some (ze_ia G 6 (ar 1)) from ms_i hM1 1 (by decide)) (by omega) (by omega) (by omega) ?_
      rw [en]
      refine ze_icmp_ge 62 dX8_chance_18 (by decide) (by omega) (by omega) (fun q1 => ?_) (fun q1 => ?_)
      · exact ze_return rfl dX8_chance_62 ⟨rfl, bz1, hM1, by rw [hv, hsn]; rfl, hf⟩ rfl rfl
      · omega
    | succ d ih =>
      intro s bz1 w1 hs hM1 hb hv hf
      have hs8 : s < 8 := by omega
      obtain ⟨eb, eb2⟩ := mch_b hR.1 hs8
      obtain ⟨ee, ee2⟩ := rok_e hR hs8 hP0
      obtain ⟨D, hD⟩ : ∃ D, D = cb ar c s * ce ar c s 0 := ⟨_, rfl⟩
      have hDb : D ≤ 1000 * 1000 := by rw [hD]; exact Nat.mul_le_mul eb2 (by omega)
      have hb2 := hb s (by omega)
      rw [show 0 * 8 + s = s by omega] at hb2
      have hb3 := bk_le hR (P - 1) s (by omega) (by omega)
      have hs1 : sm (s + 1) (fun s => bk ar c P (P - 1) s * (cb ar c s * ce ar c s 0)) ≤ 1000000 ^ P := Nat.le_trans (sm_mono (m := cn ar c) (by omega)) hch
      have hs0 : sm s (fun s => bk ar c P (P - 1) s * (cb ar c s * ce ar c s 0)) ≤ 1000000 ^ P := Nat.le_trans (sm_mono (by omega)) hs1
      have hval : bz1 o1 + bz1 (38 + 4 * s) * ((D : Nat) : Int) = (sm (s + 1) (fun s => bk ar c P (P - 1) s * (cb ar c s * ce ar c s 0)) : Nat) := by
        rw [hv, hb2, sm_s, ← hD]
        push_cast
        rfl
      refine ze_iload_n dX8_chance_11 rfl ?_
      refine ze_aload_n dX8_chance_12 rfl ?_
      refine ze_getf dX8_chance_13 fl_X8_9 (ms_o hM1) rfl ?_
      refine ze_iload_n dX8_chance_16 rfl ?_
      refine ze_iald (j := c) dX8_chance_17 (show w1.2 (m + 1) = some (ze_ia G 6 (ar 1)) from ms_i hM1 1 (by decide)) (by omega) (by omega) (by omega) ?_
      rw [en]
      refine ze_icmp_ge 62 dX8_chance_18 (by decide) (by omega) (by omega) (fun q1 => ?_) (fun q1 => ?_)
      · omega
      · refine ze_aload_n dX8_chance_21 rfl ?_
        refine ze_aload_n dX8_chance_22 rfl ?_
        refine ze_aload_n dX8_chance_23 rfl ?_
        refine ze_getf dX8_chance_24 fl_X8_44 (ms_o hM1) rfl ?_
        refine ze_iload_n dX8_chance_27 rfl ?_
        refine ze_aald (j := s) (b := (m + (38 + 4 * s))) dX8_chance_28 (show w1.2 (m + 11) = some (ze_ra G 4 480 (fun j => some (m + mro 11 j))) from ms_r hM1 11 (by decide)) rfl (by omega) (by omega) (by omega) rfl ?_
        refine ze_aload_n dX8_chance_29 rfl ?_
        refine ze_getf dX8_chance_30 fl_X8_19 (ms_o hM1) rfl ?_
        refine ze_iload_n dX8_chance_33 rfl ?_
        refine ze_bipush dX8_chance_34 (by decide) ?_
        refine ze_imul dX8_chance_36 ?_
        refine ze_iload_n dX8_chance_37 rfl ?_
        refine ze_iadd dX8_chance_38 ?_
        refine ze_iald (j := c * 8 + s) dX8_chance_39 (show w1.2 (m + 4) = some (ze_ia G 48 (ar 4)) from ms_i hM1 4 (by decide)) (by omega) (by omega) (by omega) ?_
        rw [eb]
        refine ze_aload_n dX8_chance_40 rfl ?_
        refine ze_iload_n dX8_chance_41 rfl ?_
        refine ze_iload_n dX8_chance_42 rfl ?_
        refine ze_aload_n dX8_chance_43 rfl ?_
        refine ze_getf dX8_chance_44 fl_X8_28 (ms_o hM1) rfl ?_
        refine ze_iconst dX8_chance_47 ?_
        refine ze_iald (j := 0) dX8_chance_48 (show w1.2 (m + 7) = some (ze_ia G 60 (ar 7)) from ms_i hM1 7 (by decide)) (by omega) (by omega) (by omega) ?_
        refine ze_callV (As := [ze_i ((c : Nat)), ze_i ((s : Nat)), ze_i (ar 7 0)]) (rest := [ze_i ((cb ar c s : Nat)), .ref (m + (38 + 4 * s)), .ref (m + o1), .ref m]) dX8_chance_49 (C8_showOf hM1 (c := c) (s := s) (x := ar 7 0) hc hs8 (rok_r hR hP0)) mo8_showOf ml_X8_120 in_8_showOf se_8_showOf (ms_o hM1) rfl rfl rfl rfl rfl ⟨Nat.le_refl _, Nat.le_refl _⟩ rfl (Nat.le_of_ble_eq_true rfl) ?_
        rintro _ w' ⟨r2, rfl, rfl, rfl⟩
        change ze_V G l (ze_rm 7 0 0) M8_chance _ 52 [(0, .ref m), (1, ze_i ((c : Nat))), (2, .ref (m + o1)), (3, ze_i ((s : Nat)))] [ze_i (shx ar c s (ar 7 0)), ze_i ((cb ar c s : Nat)), .ref (m + (38 + 4 * s)), .ref (m + o1), .ref m] w' 0 0
        rw [ee]
        refine ze_imul dX8_chance_52 ?_
        refine ze_ti (b := (D : Nat)) (by rw [hD]; push_cast; rfl) ?_
        refine ze_callV (As := [.ref (m + o1), .ref (m + (38 + 4 * s)), ze_i ((D : Nat))]) (rest := []) dX8_chance_53 (C8_addTimes hM1 (o1 := o1) (o2 := 38 + 4 * s) (v := ((D : Nat) : Int)) h1 (mc_11 (by omega)) (by omega) (by omega) (by omega) (by rw [hv]; exact fit_le (fit_46 hs0 (by omega)) (by decide)) (by rw [hb2]; exact fit_le (fit_46 hb3 (by omega)) (by decide)) (by rw [hval, h420]; exact fit_le (fit_46 hs1 (by omega)) (by decide))) mo8_addTimes ml_X8_150 in_8_addTimes se_8_addTimes (ms_o hM1) rfl rfl rfl rfl rfl ⟨Nat.le_refl _, Nat.le_refl _⟩ rfl (Nat.le_of_ble_eq_true rfl) ?_
        rintro _ w3 ⟨rfl, bz3, hM3, hz3, hf3⟩
        change ze_V G l (ze_rm 7 0 0) M8_chance _ 56 [(0, .ref m), (1, ze_i ((c : Nat))), (2, .ref (m + o1)), (3, ze_i ((s : Nat)))] [] w3 0 0
        refine ze_iinc (b := ((s + 1 : Nat))) (lv' := [(0, .ref m), (1, ze_i ((c : Nat))), (2, .ref (m + o1)), (3, ze_i (((s + 1 : Nat))))]) dX8_chance_56 rfl rfl (by omega) rfl ?_
        refine ze_goto 11 dX8_chance_59 (by decide) ?_
        refine ih (s + 1) bz3 w3 (by omega) hM3 (fun y hy => ?_) (by rw [hz3, hval]) (fun o g1 g2 g3 g4 g5 => ?_)
        · rw [hf3 _ (by omega) (by omega) (by omega) (by omega)]; exact hb y hy
        · rw [hf3 o g5 g2 g3 g4]; exact hf o g1 g2 g3 g4 g5
  change ze_V G l (ze_rm 7 0 0) M8_chance Z 0 [(0, .ref m), (1, ze_i ((c : Nat))), (2, .ref (m + o1))] [] w 0 0
  refine ze_aload_n dX8_chance_0 rfl ?_
  refine ze_iload_n dX8_chance_1 rfl ?_
  refine ze_callV (As := [ze_i ((c : Nat))]) (rest := []) dX8_chance_2 (C8_workBehind hM hc hR) mo8_workBehind ml_X8_154 in_8_workBehind se_8_workBehind (ms_o hM) rfl rfl rfl rfl rfl ⟨Nat.le_refl _, Nat.le_refl _⟩ rfl (Nat.le_of_ble_eq_true rfl) ?_
  rintro _ w2 ⟨rfl, bz2, hM2, hb2, hf2⟩
  change ze_V G l (ze_rm 7 0 0) M8_chance _ 5 [(0, .ref m), (1, ze_i ((c : Nat))), (2, .ref (m + o1))] [] w2 0 0
  refine ze_aload_n dX8_chance_5 rfl ?_
  refine ze_callV (As := []) (rest := []) dX8_chance_6 (E7_clear hM2 (o1 := o1) h1) mo7_clear ml_X8_147 in_7_clear se_7_clear (ms_bx hM2 h1).choose_spec rfl rfl rfl rfl rfl ⟨Nat.le_refl _, Nat.le_refl _⟩ rfl (Nat.le_of_ble_eq_true rfl) ?_
  rintro _ w1 ⟨rfl, hM1⟩
  change ze_V G l (ze_rm 7 0 0) M8_chance _ 9 [(0, .ref m), (1, ze_i ((c : Nat))), (2, .ref (m + o1))] [] w1 0 0
  refine ze_iconst dX8_chance_9 ?_
  refine ze_ti (b := ((0 : Nat) : Nat)) rfl ?_
  refine ze_istore_n (lv' := [(0, .ref m), (1, ze_i ((c : Nat))), (2, .ref (m + o1)), (3, ze_i (((0 : Nat) : Nat)))]) dX8_chance_10 rfl rfl ?_
  exact loop (cn ar c) 0 _ _ (by omega) hM1 (fun y hy => by rw [va_up_ne _ _ (by omega)]; have := hb2 0 y hP0 hy; rw [show P - 1 - 0 = P - 1 by omega] at this; exact this) (by rw [va_up_self]; rfl) (fun o g1 g2 g3 g4 g5 => by rw [va_up_ne _ _ g5]; exact hf2 o g1 g2 g3 g4)
theorem dg_b : 4294967296 ^ 420 < 10 ^ 14000 := by decide +kernel
theorem C8_digits {G : ze_G} {l : Launch} {w0 w : ze_W} {m C P F : Nat} {ar : Nat → Nat → Int} {bz : Nat → Int} (hM : mst G w0 w m C P F ar bz) (h0 : 0 ≤ bz 8) : ze_C G l 2 0 0 M8_digits [.ref m] w (ze_qi (fun r w' => ∃ bz', mst G w0 w' m C P F ar bz' ∧ isd (bz 8).toNat r ∧ (∀ o, o ≠ 24 → bz' o = bz o))) := by
  obtain ⟨v, hv⟩ : ∃ v : Nat, bz 8 = v := ⟨(bz 8).toNat, by omega⟩
  have hvb : v < 4294967296 ^ 420 := by
    have := bgz_cap (ms_b hM (o := 8) (by decide))
    rw [hv] at this
    exact this
  have ev : (bz 8).toNat = v := by omega
  refine ze_enter (by decide +kernel) rfl ?_
  generalize hQ : (ze_Q G (ze_qi (fun r w' => ∃ bz', mst G w0 w' m C P F ar bz' ∧ isd (bz 8).toNat r ∧ (∀ o, o ≠ 24 → bz' o = bz o))) 0 0) = Z
  rw [ev] at hQ
  have loop : ∀ (d n : Nat) (bz1 : Nat → Int) (w1 : ze_W), n + d = 14000 → mst G w0 w1 m C P F ar bz1 → bz1 24 = (v / 10 ^ n : Nat) → (n = 0 ∨ 10 ^ (n - 1) ≤ v) → (∀ o, o ≠ 24 → bz1 o = bz o) → ze_V G l (ze_rm 2 0 0) M8_digits Z 13 [(0, .ref m), (1, ze_i ((n : Nat)))] [] w1 0 0 := by
    intro d
    induction d with
    | zero =>
      intro n bz1 w1 hn hM1 ht hl hf
      exfalso
      have hn2 : n = 14000 := by omega
      rcases hl with h | h
      · omega
      · rw [hn2] at h
        have h3 : 4294967296 ^ 420 < 10 ^ (14000 - 1) := by decide +kernel
        exact absurd (Nat.lt_trans hvb h3) (Nat.not_lt.2 h)
    | succ d ih =>
      intro n bz1 w1 hn hM1 ht hl hf
      obtain ⟨bn, bs, hbo, hb0, hb1, -⟩ := ms_bo hM1 (o := 24) (by decide)
      have hbr : -2147483648 ≤ bs ∧ bs < 2147483648 := by omega
      refine ze_aload_n dX8_digits_13 rfl ?_
      refine ze_getf dX8_digits_14 fl_X8_83 (ms_o hM1) rfl ?_
      refine ze_getN rfl dX8_digits_17 inX7 hbo rfl ?_
      refine ze_if_eq 39 dX8_digits_20 (by decide) hbr (fun q1 => ?_) (fun q1 => ?_)
      · refine ze_iload_n dX8_digits_39 rfl ?_
        refine ze_if_ne 47 dX8_digits_40 (by decide) (by omega) (fun q2 => ?_) (fun q2 => ?_)
        · refine ze_iload_n dX8_digits_47 rfl ?_
          rw [← hQ]
          have hz : v / 10 ^ n = 0 := by have := hb0.1 q1; rw [ht] at this; exact Int.ofNat_eq_zero.1 this
          have hlt : v < 10 ^ n := by
            rcases Nat.lt_or_ge v (10 ^ n) with h | h
            · exact h
            · have := Nat.div_pos h (Nat.pow_pos (by decide)); omega
          have hn0 : n ≠ 0 := by omega
          have hl2 : 10 ^ (n - 1) ≤ v := by rcases hl with h | h; (omega); exact h
          have hp : 0 < 10 ^ (n - 1) := Nat.pow_pos (by decide)
          exact ze_ireturn rfl dX8_digits_48 ⟨_, rfl, bz1, hM1, Or.inr ⟨by omega, n - 1, by omega, hl2, by rw [show n - 1 + 1 = n by omega]; exact hlt⟩, hf⟩ rfl rfl
        · refine ze_iconst dX8_digits_43 ?_
          refine ze_goto 48 dX8_digits_44 (by decide) ?_
          rw [← hQ]
          have hz : v / 10 ^ n = 0 := by have := hb0.1 q1; rw [ht] at this; exact Int.ofNat_eq_zero.1 this
          have hlt : v < 10 ^ n := by
            rcases Nat.lt_or_ge v (10 ^ n) with h | h
            · exact h
            · have := Nat.div_pos h (Nat.pow_pos (by decide)); omega
          have hn0 : n = 0 := by omega
          rw [hn0, Nat.pow_zero] at hlt
          exact ze_ireturn rfl dX8_digits_48 ⟨_, rfl, bz1, hM1, Or.inl ⟨by omega, rfl⟩, hf⟩ rfl rfl
      · refine ze_aload_n dX8_digits_23 rfl ?_
        refine ze_getf dX8_digits_24 fl_X8_83 (ms_o hM1) rfl ?_
        refine ze_bipush dX8_digits_27 (by decide) ?_
        have hnz : v / 10 ^ n ≠ 0 := fun h => q1 (hb0.2 (by rw [ht, h]; rfl))
        refine ze_callV (As := [ze_i (10)]) (rest := []) dX8_digits_29 (E7_overSmall hM1 (o1 := 24) (by' := 10) (by decide) (by rw [ht]; exact Int.natCast_nonneg _) (by decide)) mo7_overSmall ml_X8_160 in_7_overSmall se_7_overSmall hbo rfl rfl rfl rfl rfl ⟨Nat.le_refl _, Nat.le_refl _⟩ rfl (Nat.le_of_ble_eq_true rfl) ?_
        rintro _ w3 ⟨rr, rfl, -, hM3⟩
        change ze_V G l (ze_rm 2 0 0) M8_digits _ 32 [(0, .ref m), (1, ze_i ((n : Nat)))] [ze_i (rr)] w3 0 0
        refine ze_istore_n (lv' := [(0, .ref m), (1, ze_i ((n : Nat))), (2, ze_i (rr))]) dX8_digits_32 rfl rfl ?_
        refine ze_iinc (b := ((n + 1 : Nat))) (lv' := [(0, .ref m), (1, ze_i (((n + 1 : Nat)))), (2, ze_i (rr))]) dX8_digits_33 rfl rfl (by omega) rfl ?_
        refine ze_goto 13 dX8_digits_36 (by decide) ?_
        refine ze_lv (lv' := [(0, .ref m), (1, ze_i (((n + 1 : Nat))))]) [0, 1] rfl ?_
        refine ih (n + 1) _ _ (by omega) hM3 ?_ ?_ (fun o h => by rw [va_up_ne _ _ h]; exact hf o h)
        · rw [va_up_self, ht, Nat.pow_succ, ← Nat.div_div_eq_div_mul]
          exact (Int.natCast_ediv _ _).symm
        · right
          rw [Nat.add_sub_cancel]
          rcases Nat.lt_or_ge v (10 ^ n) with h | h
          · exact absurd (Nat.div_eq_of_lt h) hnz
          · exact h
  change ze_V G l (ze_rm 2 0 0) M8_digits Z 0 [(0, .ref m)] [] w 0 0
  refine ze_aload_n dX8_digits_0 rfl ?_
  refine ze_getf dX8_digits_1 fl_X8_83 (ms_o hM) rfl ?_
  refine ze_aload_n dX8_digits_4 rfl ?_
  refine ze_getf dX8_digits_5 fl_X8_36 (ms_o hM) rfl ?_
  refine ze_callV (As := [.ref (m + 8)]) (rest := []) dX8_digits_8 (E7_copy hM (o1 := 24) (o2 := 8) (by decide) (by decide) (by decide) (bgz_cap (ms_b hM (o := 8) (by decide)))) mo7_copy ml_X8_143 in_7_copy se_7_copy (ms_bx hM (by decide)).choose_spec rfl rfl rfl rfl rfl ⟨Nat.le_refl _, Nat.le_refl _⟩ rfl (Nat.le_of_ble_eq_true rfl) ?_
  rintro _ w1 ⟨rfl, hM1⟩
  change ze_V G l (ze_rm 2 0 0) M8_digits _ 11 [(0, .ref m)] [] w1 0 0
  refine ze_iconst dX8_digits_11 ?_
  refine ze_ti (b := ((0 : Nat) : Nat)) rfl ?_
  refine ze_istore_n (lv' := [(0, .ref m), (1, ze_i (((0 : Nat) : Nat)))]) dX8_digits_12 rfl rfl ?_
  exact loop 14000 0 _ _ (by omega) hM1 (by rw [va_up_self, hv, Nat.pow_zero, Nat.div_one]) (Or.inl rfl) (fun o h => va_up_ne _ _ h)
