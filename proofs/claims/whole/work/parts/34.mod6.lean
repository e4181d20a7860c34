/-! the reference: sum, odds, moment, compare, part -/
theorem rfs_ok {ar : Nat → Nat → Int} {C P F c : Nat} {r : Int} (hG : mgd C P F ar) (hc : c < C) (h : rfs ar P c r) (h0 : r = 0) : rok ar c P ∧ 0 < P := by
  have hK := hG.2.1 c hc
  have hG1 := hG.1
  rcases h with h | h | h | ⟨h1, h2, h3, -⟩
  · omega
  · omega
  · omega
  · exact ⟨⟨hK, h2, by omega, fun i hi => ⟨(hG.2.2.1 i hi).1, h3 i hi⟩⟩, by omega⟩
theorem C8_sum {G : ze_G} {l : Launch} {w0 w : ze_W} {m C P F : Nat} {ar : Nat → Nat → Int} {bz : Nat → Int} (hM : mst G w0 w m C P F ar bz) {c : Int} (r_c : -2147483648 ≤ c ∧ c < 2147483648) (hG : mgd C P F ar) : ze_C G l 8 0 0 M8_sum [.ref m, ze_i c] w (ze_qi (fun r w' => ∃ bz', mst G w0 w' m C P F ar bz' ∧ ((¬ (0 ≤ c ∧ c < (C : Int)) ∧ r = -1 ∧ bz' 8 = bz 8) ∨ ((0 ≤ c ∧ c < (C : Int)) ∧ rfs ar P c.toNat r ∧ r ≠ 0 ∧ bz' 8 = bz 8) ∨ ((0 ≤ c ∧ c < (C : Int)) ∧ rfs ar P c.toNat 0 ∧ bz' 8 = (chn ar c.toNat P : Nat) ∧ isd (chn ar c.toNat P) r)))) := by
  have hG1 := hG.1
  refine ze_enter (by decide +kernel) rfl ?_
  change ze_V G l (ze_rm 8 0 0) M8_sum _ 0 [(0, .ref m), (1, ze_i (c))] [] w 0 0
  refine ze_aload_n dX8_sum_0 rfl ?_
  refine ze_iload_n dX8_sum_1 rfl ?_
  refine ze_callV (As := [ze_i (c)]) (rest := []) dX8_sum_2 (C8_is hM r_c hG.1.1) mo8_is ml_X8_105 in_8_is se_8_is (ms_o hM) rfl rfl rfl rfl rfl ⟨Nat.le_refl _, Nat.le_refl _⟩ rfl (Nat.le_of_ble_eq_true rfl) ?_
  rintro _ w' ⟨r1, rfl, rfl, rfl⟩
  change ze_V G l (ze_rm 8 0 0) M8_sum _ 5 [(0, .ref m), (1, ze_i (c))] [ze_i (bi (0 ≤ c ∧ c < (C : Int)))] w' 0 0
  refine ze_if_ne 10 dX8_sum_5 (by decide) (bi_rng _) (fun q1 => ?_) (fun q1 => ?_)
  · rw [bi_n] at q1
    obtain ⟨c, rfl⟩ := Int.eq_ofNat_of_zero_le q1.1
    change ze_V G l (ze_rm 8 0 0) M8_sum _ 10 [(0, .ref m), (1, ze_i ((c : Nat)))] [] w' 0 0
    refine ze_aload_n dX8_sum_10 rfl ?_
    refine ze_iload_n dX8_sum_11 rfl ?_
    refine ze_callV (As := [ze_i ((c : Nat))]) (rest := []) dX8_sum_12 (C8_refusal hM (c := c) (by omega) hG) mo8_refusal ml_X8_164 in_8_refusal se_8_refusal (ms_o hM) rfl rfl rfl rfl rfl ⟨Nat.le_refl _, Nat.le_refl _⟩ rfl (Nat.le_of_ble_eq_true rfl) ?_
    rintro _ w' ⟨rr, rfl, hrr, rfl⟩
    change ze_V G l (ze_rm 8 0 0) M8_sum _ 15 [(0, .ref m), (1, ze_i ((c : Nat)))] [ze_i (rr)] w' 0 0
    refine ze_istore_n (lv' := [(0, .ref m), (1, ze_i ((c : Nat))), (2, ze_i (rr))]) dX8_sum_15 rfl rfl ?_
    refine ze_iload_n dX8_sum_16 rfl ?_
    refine ze_if_eq 22 dX8_sum_17 (by decide) (rfs_rng hrr) (fun q2 => ?_) (fun q2 => ?_)
    · obtain ⟨hR, hP0⟩ := rfs_ok hG (by omega) hrr q2
      refine ze_aload_n dX8_sum_22 rfl ?_
      refine ze_iload_n dX8_sum_23 rfl ?_
      refine ze_aload_n dX8_sum_24 rfl ?_
      refine ze_getf dX8_sum_25 fl_X8_36 (ms_o hM) rfl ?_
      refine ze_callV (As := [ze_i ((c : Nat)), .ref (m + 8)]) (rest := []) dX8_sum_28 (C8_chance hM (c := c) (o1 := 8) (by omega) hR hP0 (Or.inl rfl)) mo8_chance ml_X8_167 in_8_chance se_8_chance (ms_o hM) rfl rfl rfl rfl rfl ⟨Nat.le_refl _, Nat.le_refl _⟩ rfl (Nat.le_of_ble_eq_true rfl) ?_
      rintro _ w2 ⟨rfl, bz2, hM2, hv2, hf2⟩
      change ze_V G l (ze_rm 8 0 0) M8_sum _ 31 [(0, .ref m), (1, ze_i ((c : Nat))), (2, ze_i (rr))] [] w2 0 0
      refine ze_aload_n dX8_sum_31 rfl ?_
      have hv8 : bz2 8 = (chn ar c P : Nat) := hv2
      refine ze_callV (As := []) (rest := []) dX8_sum_32 (C8_digits hM2 (by rw [hv8]; exact Int.natCast_nonneg _)) mo8_digits ml_X8_171 in_8_digits se_8_digits (ms_o hM2) rfl rfl rfl rfl rfl ⟨Nat.le_refl _, Nat.le_refl _⟩ rfl (Nat.le_of_ble_eq_true rfl) ?_
      rintro _ w9 ⟨rd, rfl, bz9, hM9, hd9, hf9⟩
      rw [hv8, Int.toNat_natCast] at hd9
      change ze_V G l (ze_rm 8 0 0) M8_sum _ 35 [(0, .ref m), (1, ze_i ((c : Nat))), (2, ze_i (rr))] [ze_i (rd)] w9 0 0
      exact ze_ireturn rfl dX8_sum_35 ⟨_, rfl, bz9, hM9, Or.inr (Or.inr ⟨q1, by rw [q2] at hrr; exact hrr, by rw [hf9 8 (by decide), hv2]; rfl, hd9⟩)⟩ rfl rfl
    · refine ze_iload_n dX8_sum_20 rfl ?_
      exact ze_ireturn rfl dX8_sum_21 ⟨_, rfl, _, hM, Or.inr (Or.inl ⟨q1, hrr, q2, rfl⟩)⟩ rfl rfl
  · rw [bi_z] at q1
    refine ze_iconst dX8_sum_8 ?_
    exact ze_ireturn rfl dX8_sum_9 ⟨_, rfl, _, hM, Or.inl ⟨q1, rfl, rfl⟩⟩ rfl rfl
/-- what odds tells -/
def odv (ar : Nat → Nat → Int) (c P i s : Nat) (how : Int) : Nat := if how = 0 then fk ar c i s else if how = 1 then bk ar c P (P - 1 - i) s else fk ar c i s * bk ar c P (P - 1 - i) s
theorem C8_odds {G : ze_G} {l : Launch} {w0 w : ze_W} {m C P F : Nat} {ar : Nat → Nat → Int} {bz : Nat → Int} (hM : mst G w0 w m C P F ar bz) {c i s h : Int} (r_c : -2147483648 ≤ c ∧ c < 2147483648) (r_i : -2147483648 ≤ i ∧ i < 2147483648) (r_s : -2147483648 ≤ s ∧ s < 2147483648) (r_h : -2147483648 ≤ h ∧ h < 2147483648) (hG : mgd C P F ar) : ze_C G l 8 0 0 M8_odds [.ref m, ze_i c, ze_i i, ze_i s, ze_i h] w (ze_qi (fun r w' => ∃ bz', mst G w0 w' m C P F ar bz' ∧ ((¬ ((0 ≤ c ∧ c < (C : Int)) ∧ (0 ≤ i ∧ i < (P : Int)) ∧ (0 ≤ s ∧ s < ar 1 c.toNat) ∧ (0 ≤ h ∧ h ≤ 2)) ∧ r = -1 ∧ bz' 8 = bz 8) ∨ (((0 ≤ c ∧ c < (C : Int)) ∧ (0 ≤ i ∧ i < (P : Int)) ∧ (0 ≤ s ∧ s < ar 1 c.toNat) ∧ (0 ≤ h ∧ h ≤ 2)) ∧ rfs ar P c.toNat r ∧ r ≠ 0 ∧ bz' 8 = bz 8) ∨ (((0 ≤ c ∧ c < (C : Int)) ∧ (0 ≤ i ∧ i < (P : Int)) ∧ (0 ≤ s ∧ s < ar 1 c.toNat) ∧ (0 ≤ h ∧ h ≤ 2)) ∧ rfs ar P c.toNat 0 ∧ bz' 8 = (odv ar c.toNat P i.toNat s.toNat h : Nat) ∧ isd (odv ar c.toNat P i.toNat s.toNat h) r)))) := by
  have hG1 := hG.1
  refine ze_enter (by decide +kernel) rfl ?_
  change ze_V G l (ze_rm 8 0 0) M8_odds _ 0 [(0, .ref m), (1, ze_i (c)), (2, ze_i (i)), (3, ze_i (s)), (4, ze_i (h))] [] w 0 0
  refine ze_aload_n dX8_odds_0 rfl ?_
  refine ze_iload_n dX8_odds_1 rfl ?_
  refine ze_callV (As := [ze_i (c)]) (rest := []) dX8_odds_2 (C8_is hM r_c hG.1.1) mo8_is ml_X8_105 in_8_is se_8_is (ms_o hM) rfl rfl rfl rfl rfl ⟨Nat.le_refl _, Nat.le_refl _⟩ rfl (Nat.le_of_ble_eq_true rfl) ?_
  rintro _ w' ⟨r1, rfl, rfl, rfl⟩
  change ze_V G l (ze_rm 8 0 0) M8_odds _ 5 [(0, .ref m), (1, ze_i (c)), (2, ze_i (i)), (3, ze_i (s)), (4, ze_i (h))] [ze_i (bi (0 ≤ c ∧ c < (C : Int)))] w' 0 0
  refine ze_if_eq 40 dX8_odds_5 (by decide) (bi_rng _) (fun q2 => ?_) (fun q2 => ?_)
  · rw [bi_z] at q2
    refine ze_iconst dX8_odds_40 ?_
    exact ze_ireturn rfl dX8_odds_41 ⟨_, rfl, _, hM, Or.inl ⟨by omega, rfl, rfl⟩⟩ rfl rfl
  · rw [bi_n] at q2
    have hK := mg_c hG q2
    have hK1 := hK.1
    refine ze_iload_n dX8_odds_8 rfl ?_
    refine ze_if_lt 40 dX8_odds_9 (by decide) (by omega) (fun q3 => ?_) (fun q3 => ?_)
    · refine ze_iconst dX8_odds_40 ?_
      exact ze_ireturn rfl dX8_odds_41 ⟨_, rfl, _, hM, Or.inl ⟨by omega, rfl, rfl⟩⟩ rfl rfl
    · refine ze_iload_n dX8_odds_12 rfl ?_
      refine ze_aload_n dX8_odds_13 rfl ?_
      refine ze_getf dX8_odds_14 fl_X8_126 (ms_o hM) rfl ?_
      refine ze_icmp_ge 40 dX8_odds_17 (by decide) (by omega) (by omega) (fun q4 => ?_) (fun q4 => ?_)
      · refine ze_iconst dX8_odds_40 ?_
        exact ze_ireturn rfl dX8_odds_41 ⟨_, rfl, _, hM, Or.inl ⟨by omega, rfl, rfl⟩⟩ rfl rfl
      · refine ze_aload_n dX8_odds_20 rfl ?_
        refine ze_iload_n dX8_odds_21 rfl ?_
        refine ze_iload_n dX8_odds_22 rfl ?_
        refine ze_callV (As := [ze_i (c), ze_i (s)]) (rest := []) dX8_odds_23 (C8_isState hM (c := c) (s := s) r_s (by omega) (mg_c hG (by omega)).1) mo8_isState ml_X8_109 in_8_isState se_8_isState (ms_o hM) rfl rfl rfl rfl rfl ⟨Nat.le_refl _, Nat.le_refl _⟩ rfl (Nat.le_of_ble_eq_true rfl) ?_
        rintro _ w' ⟨r5, rfl, rfl, rfl⟩
        change ze_V G l (ze_rm 8 0 0) M8_odds _ 26 [(0, .ref m), (1, ze_i (c)), (2, ze_i (i)), (3, ze_i (s)), (4, ze_i (h))] [ze_i (bi (0 ≤ s ∧ s < ar 1 c.toNat))] w' 0 0
        refine ze_if_eq 40 dX8_odds_26 (by decide) (bi_rng _) (fun q6 => ?_) (fun q6 => ?_)
        · rw [bi_z] at q6
          refine ze_iconst dX8_odds_40 ?_
          exact ze_ireturn rfl dX8_odds_41 ⟨_, rfl, _, hM, Or.inl ⟨by omega, rfl, rfl⟩⟩ rfl rfl
        · rw [bi_n] at q6
          refine ze_iload dX8_odds_29 rfl ?_
          refine ze_if_lt 40 dX8_odds_31 (by decide) (by omega) (fun q7 => ?_) (fun q7 => ?_)
          · refine ze_iconst dX8_odds_40 ?_
            exact ze_ireturn rfl dX8_odds_41 ⟨_, rfl, _, hM, Or.inl ⟨by omega, rfl, rfl⟩⟩ rfl rfl
          · refine ze_iload dX8_odds_34 rfl ?_
            refine ze_iconst dX8_odds_36 ?_
            refine ze_icmp_le 42 dX8_odds_37 (by decide) (by omega) (by omega) (fun q8 => ?_) (fun q8 => ?_)
            · have hcond : (0 ≤ c ∧ c < (C : Int)) ∧ (0 ≤ i ∧ i < (P : Int)) ∧ (0 ≤ s ∧ s < ar 1 c.toNat) ∧ (0 ≤ h ∧ h ≤ 2) := by omega
              obtain ⟨c, rfl⟩ := Int.eq_ofNat_of_zero_le hcond.1.1
              obtain ⟨i, rfl⟩ := Int.eq_ofNat_of_zero_le hcond.2.1.1
              obtain ⟨s, rfl⟩ := Int.eq_ofNat_of_zero_le hcond.2.2.1.1
              rw [Int.toNat_natCast] at hK hK1
              change ze_V G l (ze_rm 8 0 0) M8_odds _ 42 [(0, .ref m), (1, ze_i ((c : Nat))), (2, ze_i ((i : Nat))), (3, ze_i ((s : Nat))), (4, ze_i (h))] [] w' 0 0
              refine ze_aload_n dX8_odds_42 rfl ?_
              refine ze_iload_n dX8_odds_43 rfl ?_
              refine ze_callV (As := [ze_i ((c : Nat))]) (rest := []) dX8_odds_44 (C8_refusal hM (c := c) (by omega) hG) mo8_refusal ml_X8_164 in_8_refusal se_8_refusal (ms_o hM) rfl rfl rfl rfl rfl ⟨Nat.le_refl _, Nat.le_refl _⟩ rfl (Nat.le_of_ble_eq_true rfl) ?_
              rintro _ w' ⟨rr, rfl, hrr, rfl⟩
              change ze_V G l (ze_rm 8 0 0) M8_odds _ 47 [(0, .ref m), (1, ze_i ((c : Nat))), (2, ze_i ((i : Nat))), (3, ze_i ((s : Nat))), (4, ze_i (h))] [ze_i (rr)] w' 0 0
              refine ze_istore (lv' := [(0, .ref m), (1, ze_i ((c : Nat))), (2, ze_i ((i : Nat))), (3, ze_i ((s : Nat))), (4, ze_i (h)), (5, ze_i (rr))]) dX8_odds_47 rfl rfl ?_
              refine ze_iload dX8_odds_49 rfl ?_
              refine ze_if_eq 57 dX8_odds_51 (by decide) (rfs_rng hrr) (fun q2 => ?_) (fun q2 => ?_)
              · obtain ⟨hR, hP0⟩ := rfs_ok hG (by omega) hrr q2
                obtain ⟨en, -, n8⟩ := mch_n hR.1
                have hsn : s < cn ar c := by have := hcond.2.2.1.2; rw [Int.toNat_natCast] at this; omega
                have hiP : i < P := by omega
                refine ze_aload_n dX8_odds_57 rfl ?_
                refine ze_iload_n dX8_odds_58 rfl ?_
                refine ze_callV (As := [ze_i ((c : Nat))]) (rest := []) dX8_odds_59 (C8_workAhead hM (c := c) (by omega) hR) mo8_workAhead ml_X8_175 in_8_workAhead se_8_workAhead (ms_o hM) rfl rfl rfl rfl rfl ⟨Nat.le_refl _, Nat.le_refl _⟩ rfl (Nat.le_of_ble_eq_true rfl) ?_
                rintro _ w2 ⟨rfl, bz2, hM2, ha2, hf2⟩
                change ze_V G l (ze_rm 8 0 0) M8_odds _ 62 [(0, .ref m), (1, ze_i ((c : Nat))), (2, ze_i ((i : Nat))), (3, ze_i ((s : Nat))), (4, ze_i (h)), (5, ze_i (rr))] [] w2 0 0
                refine ze_aload_n dX8_odds_62 rfl ?_
                refine ze_iload_n dX8_odds_63 rfl ?_
                refine ze_callV (As := [ze_i ((c : Nat))]) (rest := []) dX8_odds_64 (C8_workBehind hM2 (c := c) (by omega) hR) mo8_workBehind ml_X8_154 in_8_workBehind se_8_workBehind (ms_o hM2) rfl rfl rfl rfl rfl ⟨Nat.le_refl _, Nat.le_refl _⟩ rfl (Nat.le_of_ble_eq_true rfl) ?_
                rintro _ w3 ⟨rfl, bz3, hM3, hb3, hf3⟩
                have eA : bz3 (36 + 4 * (i * 8 + s)) = (fk ar c i s : Nat) := by rw [hf3 _ (fun j => by omega) (by omega) (by omega) (by omega)]; exact ha2 i s hiP hsn
                have eB := hb3 i s hiP hsn
                have hA := fk_le hR hiP hsn
                have hB := bk_le hR (P - 1 - i) s (by omega) hsn
                have fA : fit (bz3 (36 + 4 * (i * 8 + s))) 46 := by rw [eA]; exact fit_46 hA (by omega)
                have fB : fit (bz3 (38 + 4 * (i * 8 + s))) 46 := by rw [eB]; exact fit_46 hB (by omega)
                change ze_V G l (ze_rm 8 0 0) M8_odds _ 67 [(0, .ref m), (1, ze_i ((c : Nat))), (2, ze_i ((i : Nat))), (3, ze_i ((s : Nat))), (4, ze_i (h)), (5, ze_i (rr))] [] w3 0 0
                refine ze_iload dX8_odds_67 rfl ?_
                refine ze_iconst dX8_odds_69 ?_
                refine ze_icmp_ge 113 dX8_odds_70 (by decide) (by omega) (by omega) (fun q3 => ?_) (fun q3 => ?_)
                · refine ze_aload_n dX8_odds_113 rfl ?_
                  refine ze_getf dX8_odds_114 fl_X8_36 (ms_o hM3) rfl ?_
                  refine ze_aload_n dX8_odds_117 rfl ?_
                  refine ze_getf dX8_odds_118 fl_X8_40 (ms_o hM3) rfl ?_
                  refine ze_iload_n dX8_odds_121 rfl ?_
                  refine ze_bipush dX8_odds_122 (by decide) ?_
                  refine ze_imul dX8_odds_124 ?_
                  refine ze_iload_n dX8_odds_125 rfl ?_
                  refine ze_iadd dX8_odds_126 ?_
                  refine ze_aald (j := i * 8 + s) (b := (m + (36 + 4 * (i * 8 + s)))) dX8_odds_127 (show w3.2 (m + 10) = some (ze_ra G 4 480 (fun j => some (m + mro 10 j))) from ms_r hM3 10 (by decide)) rfl (by omega) (by omega) (by omega) rfl ?_
                  refine ze_aload_n dX8_odds_128 rfl ?_
                  refine ze_getf dX8_odds_129 fl_X8_44 (ms_o hM3) rfl ?_
                  refine ze_iload_n dX8_odds_132 rfl ?_
                  refine ze_bipush dX8_odds_133 (by decide) ?_
                  refine ze_imul dX8_odds_135 ?_
                  refine ze_iload_n dX8_odds_136 rfl ?_
                  refine ze_iadd dX8_odds_137 ?_
                  refine ze_aald (j := i * 8 + s) (b := (m + (38 + 4 * (i * 8 + s)))) dX8_odds_138 (show w3.2 (m + 11) = some (ze_ra G 4 480 (fun j => some (m + mro 11 j))) from ms_r hM3 11 (by decide)) rfl (by omega) (by omega) (by omega) rfl ?_
                  refine ze_callV (As := [.ref (m + (36 + 4 * (i * 8 + s))), .ref (m + (38 + 4 * (i * 8 + s)))]) (rest := []) dX8_odds_139 (E7_times hM3 (o1 := 8) (o2 := 36 + 4 * (i * 8 + s)) (o3 := 38 + 4 * (i * 8 + s)) (K1 := 46) (K2 := 46) (by decide) (mc_10 (by omega)) (mc_11 (by omega)) (by omega) (by omega) fA fB (by decide)) mo7_times ml_X8_136 in_7_times se_7_times (ms_bx hM3 (by decide)).choose_spec rfl rfl rfl rfl rfl ⟨Nat.le_refl _, Nat.le_refl _⟩ rfl (Nat.le_of_ble_eq_true rfl) ?_
                  rintro _ w9 ⟨rfl, hM9⟩
                  change ze_V G l (ze_rm 8 0 0) M8_odds _ 142 [(0, .ref m), (1, ze_i ((c : Nat))), (2, ze_i ((i : Nat))), (3, ze_i ((s : Nat))), (4, ze_i (h)), (5, ze_i (rr))] [] w9 0 0
                  refine ze_aload_n dX8_odds_142 rfl ?_
                  have hv8 : (va_up bz3 8 (bz3 (36 + 4 * (i * 8 + s)) * bz3 (38 + 4 * (i * 8 + s)))) 8 = (odv ar c P i s h : Nat) := (by rw [va_up_self, eA, eB]; unfold odv; rw [if_neg (by omega), if_neg (by omega)]; exact (Int.natCast_mul _ _).symm)
                  refine ze_callV (As := []) (rest := []) dX8_odds_143 (C8_digits hM9 (by rw [hv8]; exact Int.natCast_nonneg _)) mo8_digits ml_X8_171 in_8_digits se_8_digits (ms_o hM9) rfl rfl rfl rfl rfl ⟨Nat.le_refl _, Nat.le_refl _⟩ rfl (Nat.le_of_ble_eq_true rfl) ?_
                  rintro _ w9 ⟨rd, rfl, bz9, hM9, hd9, hf9⟩
                  rw [hv8, Int.toNat_natCast] at hd9
                  change ze_V G l (ze_rm 8 0 0) M8_odds _ 146 [(0, .ref m), (1, ze_i ((c : Nat))), (2, ze_i ((i : Nat))), (3, ze_i ((s : Nat))), (4, ze_i (h)), (5, ze_i (rr))] [ze_i (rd)] w9 0 0
                  exact ze_ireturn rfl dX8_odds_146 ⟨_, rfl, bz9, hM9, Or.inr (Or.inr ⟨hcond, by rw [q2] at hrr; exact hrr, by rw [hf9 8 (by decide)]; exact hv8, hd9⟩)⟩ rfl rfl
                · refine ze_aload_n dX8_odds_73 rfl ?_
                  refine ze_getf dX8_odds_74 fl_X8_36 (ms_o hM3) rfl ?_
                  refine ze_iload dX8_odds_77 rfl ?_
                  refine ze_if_ne 96 dX8_odds_79 (by decide) (by omega) (fun q4 => ?_) (fun q4 => ?_)
                  · refine ze_aload_n dX8_odds_96 rfl ?_
                    refine ze_getf dX8_odds_97 fl_X8_44 (ms_o hM3) rfl ?_
                    refine ze_iload_n dX8_odds_100 rfl ?_
                    refine ze_bipush dX8_odds_101 (by decide) ?_
                    refine ze_imul dX8_odds_103 ?_
                    refine ze_iload_n dX8_odds_104 rfl ?_
                    refine ze_iadd dX8_odds_105 ?_
                    refine ze_aald (j := i * 8 + s) (b := (m + (38 + 4 * (i * 8 + s)))) dX8_odds_106 (show w3.2 (m + 11) = some (ze_ra G 4 480 (fun j => some (m + mro 11 j))) from ms_r hM3 11 (by decide)) rfl (by omega) (by omega) (by omega) rfl ?_
                    refine ze_callV (As := [.ref (m + (38 + 4 * (i * 8 + s)))]) (rest := []) dX8_odds_107 (E7_copy hM3 (o1 := 8) (o2 := 38 + 4 * (i * 8 + s)) (by decide) (mc_11 (by omega)) (by omega) (fit_le fB (by decide))) mo7_copy ml_X8_143 in_7_copy se_7_copy (ms_bx hM3 (by decide)).choose_spec rfl rfl rfl rfl rfl ⟨Nat.le_refl _, Nat.le_refl _⟩ rfl (Nat.le_of_ble_eq_true rfl) ?_
                    rintro _ w10 ⟨rfl, hM10⟩
                    change ze_V G l (ze_rm 8 0 0) M8_odds _ 110 [(0, .ref m), (1, ze_i ((c : Nat))), (2, ze_i ((i : Nat))), (3, ze_i ((s : Nat))), (4, ze_i (h)), (5, ze_i (rr))] [] w10 0 0
                    refine ze_goto 142 dX8_odds_110 (by decide) ?_
                    refine ze_aload_n dX8_odds_142 rfl ?_
                    have hv8 : (va_up bz3 8 (bz3 (38 + 4 * (i * 8 + s)))) 8 = (odv ar c P i s h : Nat) := (by rw [va_up_self, eB]; unfold odv; rw [if_neg (by omega), if_pos (by omega)])
                    refine ze_callV (As := []) (rest := []) dX8_odds_143 (C8_digits hM10 (by rw [hv8]; exact Int.natCast_nonneg _)) mo8_digits ml_X8_171 in_8_digits se_8_digits (ms_o hM10) rfl rfl rfl rfl rfl ⟨Nat.le_refl _, Nat.le_refl _⟩ rfl (Nat.le_of_ble_eq_true rfl) ?_
                    rintro _ w9 ⟨rd, rfl, bz9, hM9, hd9, hf9⟩
                    rw [hv8, Int.toNat_natCast] at hd9
                    change ze_V G l (ze_rm 8 0 0) M8_odds _ 146 [(0, .ref m), (1, ze_i ((c : Nat))), (2, ze_i ((i : Nat))), (3, ze_i ((s : Nat))), (4, ze_i (h)), (5, ze_i (rr))] [ze_i (rd)] w9 0 0
                    exact ze_ireturn rfl dX8_odds_146 ⟨_, rfl, bz9, hM9, Or.inr (Or.inr ⟨hcond, by rw [q2] at hrr; exact hrr, by rw [hf9 8 (by decide)]; exact hv8, hd9⟩)⟩ rfl rfl
                  · refine ze_aload_n dX8_odds_82 rfl ?_
                    refine ze_getf dX8_odds_83 fl_X8_40 (ms_o hM3) rfl ?_
                    refine ze_iload_n dX8_odds_86 rfl ?_
                    refine ze_bipush dX8_odds_87 (by decide) ?_
                    refine ze_imul dX8_odds_89 ?_
                    refine ze_iload_n dX8_odds_90 rfl ?_
                    refine ze_iadd dX8_odds_91 ?_
                    refine ze_aald (j := i * 8 + s) (b := (m + (36 + 4 * (i * 8 + s)))) dX8_odds_92 (show w3.2 (m + 10) = some (ze_ra G 4 480 (fun j => some (m + mro 10 j))) from ms_r hM3 10 (by decide)) rfl (by omega) (by omega) (by omega) rfl ?_
                    refine ze_goto 107 dX8_odds_93 (by decide) ?_
                    refine ze_callV (As := [.ref (m + (36 + 4 * (i * 8 + s)))]) (rest := []) dX8_odds_107 (E7_copy hM3 (o1 := 8) (o2 := 36 + 4 * (i * 8 + s)) (by decide) (mc_10 (by omega)) (by omega) (fit_le fA (by decide))) mo7_copy ml_X8_143 in_7_copy se_7_copy (ms_bx hM3 (by decide)).choose_spec rfl rfl rfl rfl rfl ⟨Nat.le_refl _, Nat.le_refl _⟩ rfl (Nat.le_of_ble_eq_true rfl) ?_
                    rintro _ w11 ⟨rfl, hM11⟩
                    change ze_V G l (ze_rm 8 0 0) M8_odds _ 110 [(0, .ref m), (1, ze_i ((c : Nat))), (2, ze_i ((i : Nat))), (3, ze_i ((s : Nat))), (4, ze_i (h)), (5, ze_i (rr))] [] w11 0 0
                    refine ze_goto 142 dX8_odds_110 (by decide) ?_
                    refine ze_aload_n dX8_odds_142 rfl ?_
                    have hv8 : (va_up bz3 8 (bz3 (36 + 4 * (i * 8 + s)))) 8 = (odv ar c P i s h : Nat) := (by rw [va_up_self, eA]; unfold odv; rw [if_pos (by omega)])
                    refine ze_callV (As := []) (rest := []) dX8_odds_143 (C8_digits hM11 (by rw [hv8]; exact Int.natCast_nonneg _)) mo8_digits ml_X8_171 in_8_digits se_8_digits (ms_o hM11) rfl rfl rfl rfl rfl ⟨Nat.le_refl _, Nat.le_refl _⟩ rfl (Nat.le_of_ble_eq_true rfl) ?_
                    rintro _ w9 ⟨rd, rfl, bz9, hM9, hd9, hf9⟩
                    rw [hv8, Int.toNat_natCast] at hd9
                    change ze_V G l (ze_rm 8 0 0) M8_odds _ 146 [(0, .ref m), (1, ze_i ((c : Nat))), (2, ze_i ((i : Nat))), (3, ze_i ((s : Nat))), (4, ze_i (h)), (5, ze_i (rr))] [ze_i (rd)] w9 0 0
                    exact ze_ireturn rfl dX8_odds_146 ⟨_, rfl, bz9, hM9, Or.inr (Or.inr ⟨hcond, by rw [q2] at hrr; exact hrr, by rw [hf9 8 (by decide)]; exact hv8, hd9⟩)⟩ rfl rfl
              · refine ze_iload dX8_odds_54 rfl ?_
                exact ze_ireturn rfl dX8_odds_56 ⟨_, rfl, _, hM, Or.inr (Or.inl ⟨hcond, hrr, q2, rfl⟩)⟩ rfl rfl
            · refine ze_iconst dX8_odds_40 ?_
              exact ze_ireturn rfl dX8_odds_41 ⟨_, rfl, _, hM, Or.inl ⟨by omega, rfl, rfl⟩⟩ rfl rfl
/-- the first of the greatest -/
def mx (f : Nat → Nat) : Nat → Nat × Nat
  | 0 => (0, 0)
  | s + 1 => if (mx f s).2 < f s then (s, f s) else mx f s
theorem mx_lt {f : Nat → Nat} {n : Nat} (h : 0 < n) : (mx f n).1 < n := by
  induction n with
  | zero => omega
  | succ n ih =>
    unfold mx
    split
    · exact Nat.lt_succ_self _
    · cases n with
      | zero => exact Nat.zero_lt_one
      | succ n => exact Nat.lt_succ_of_lt (ih (by omega))
theorem mx_le {f : Nat → Nat} {n B : Nat} (h : ∀ j, j < n → f j ≤ B) : (mx f n).2 ≤ B := by
  induction n with
  | zero => exact Nat.zero_le _
  | succ n ih =>
    unfold mx
    split
    · exact h n (by omega)
    · exact ih (fun j hj => h j (by omega))
/-- what moment tells -/
def mov (ar : Nat → Nat → Int) (c P i : Nat) : Int := if (mx (fun s => fk ar c i s * bk ar c P (P - 1 - i) s) (cn ar c)).2 = 0 then -5 else ((mx (fun s => fk ar c i s * bk ar c P (P - 1 - i) s) (cn ar c)).1 : Nat)
theorem C8_moment {G : ze_G} {l : Launch} {w0 w : ze_W} {m C P F : Nat} {ar : Nat → Nat → Int} {bz : Nat → Int} (hM : mst G w0 w m C P F ar bz) {c i : Int} (r_c : -2147483648 ≤ c ∧ c < 2147483648) (r_i : -2147483648 ≤ i ∧ i < 2147483648) (hG : mgd C P F ar) : ze_C G l 8 0 0 M8_moment [.ref m, ze_i c, ze_i i] w (ze_qi (fun r w' => ∃ bz', mst G w0 w' m C P F ar bz' ∧ bz' 8 = bz 8 ∧ ((¬ ((0 ≤ c ∧ c < (C : Int)) ∧ (0 ≤ i ∧ i < (P : Int))) ∧ r = -1) ∨ (((0 ≤ c ∧ c < (C : Int)) ∧ (0 ≤ i ∧ i < (P : Int))) ∧ rfs ar P c.toNat r ∧ r ≠ 0) ∨ (((0 ≤ c ∧ c < (C : Int)) ∧ (0 ≤ i ∧ i < (P : Int))) ∧ rfs ar P c.toNat 0 ∧ r = mov ar c.toNat P i.toNat)))) := by
  have hG1 := hG.1
  refine ze_enter (by decide +kernel) rfl ?_
  generalize hQ : (ze_Q G (ze_qi (fun r w' => ∃ bz', mst G w0 w' m C P F ar bz' ∧ bz' 8 = bz 8 ∧ ((¬ ((0 ≤ c ∧ c < (C : Int)) ∧ (0 ≤ i ∧ i < (P : Int))) ∧ r = -1) ∨ (((0 ≤ c ∧ c < (C : Int)) ∧ (0 ≤ i ∧ i < (P : Int))) ∧ rfs ar P c.toNat r ∧ r ≠ 0) ∨ (((0 ≤ c ∧ c < (C : Int)) ∧ (0 ≤ i ∧ i < (P : Int))) ∧ rfs ar P c.toNat 0 ∧ r = mov ar c.toNat P i.toNat)))) 0 0) = Z
  change ze_V G l (ze_rm 8 0 0) M8_moment _ 0 [(0, .ref m), (1, ze_i (c)), (2, ze_i (i))] [] w 0 0
  refine ze_aload_n dX8_moment_0 rfl ?_
  refine ze_iload_n dX8_moment_1 rfl ?_
  refine ze_callV (As := [ze_i (c)]) (rest := []) dX8_moment_2 (C8_is hM r_c hG.1.1) mo8_is ml_X8_105 in_8_is se_8_is (ms_o hM) rfl rfl rfl rfl rfl ⟨Nat.le_refl _, Nat.le_refl _⟩ rfl (Nat.le_of_ble_eq_true rfl) ?_
  rintro _ w' ⟨r1, rfl, rfl, rfl⟩
  change ze_V G l (ze_rm 8 0 0) M8_moment _ 5 [(0, .ref m), (1, ze_i (c)), (2, ze_i (i))] [ze_i (bi (0 ≤ c ∧ c < (C : Int)))] w' 0 0
  refine ze_if_eq 20 dX8_moment_5 (by decide) (bi_rng _) (fun q2 => ?_) (fun q2 => ?_)
  · rw [bi_z] at q2
    refine ze_iconst dX8_moment_20 ?_
    rw [← hQ]
    exact ze_ireturn rfl dX8_moment_21 ⟨_, rfl, _, hM, rfl, Or.inl ⟨by omega, rfl⟩⟩ rfl rfl
  · rw [bi_n] at q2
    have hK := mg_c hG q2
    have hK1 := hK.1
    refine ze_iload_n dX8_moment_8 rfl ?_
    refine ze_if_lt 20 dX8_moment_9 (by decide) (by omega) (fun q3 => ?_) (fun q3 => ?_)
    · refine ze_iconst dX8_moment_20 ?_
      rw [← hQ]
      exact ze_ireturn rfl dX8_moment_21 ⟨_, rfl, _, hM, rfl, Or.inl ⟨by omega, rfl⟩⟩ rfl rfl
    · refine ze_iload_n dX8_moment_12 rfl ?_
      refine ze_aload_n dX8_moment_13 rfl ?_
      refine ze_getf dX8_moment_14 fl_X8_126 (ms_o hM) rfl ?_
      refine ze_icmp_lt 22 dX8_moment_17 (by decide) (by omega) (by omega) (fun q4 => ?_) (fun q4 => ?_)
      · have hcond : (0 ≤ c ∧ c < (C : Int)) ∧ (0 ≤ i ∧ i < (P : Int)) := by omega
        obtain ⟨c, rfl⟩ := Int.eq_ofNat_of_zero_le hcond.1.1
        obtain ⟨i, rfl⟩ := Int.eq_ofNat_of_zero_le hcond.2.1
        rw [Int.toNat_natCast] at hK hK1
        change ze_V G l (ze_rm 8 0 0) M8_moment _ 22 [(0, .ref m), (1, ze_i ((c : Nat))), (2, ze_i ((i : Nat)))] [] w' 0 0
        refine ze_aload_n dX8_moment_22 rfl ?_
        refine ze_iload_n dX8_moment_23 rfl ?_
        refine ze_callV (As := [ze_i ((c : Nat))]) (rest := []) dX8_moment_24 (C8_refusal hM (c := c) (by omega) hG) mo8_refusal ml_X8_164 in_8_refusal se_8_refusal (ms_o hM) rfl rfl rfl rfl rfl ⟨Nat.le_refl _, Nat.le_refl _⟩ rfl (Nat.le_of_ble_eq_true rfl) ?_
        rintro _ w' ⟨rr, rfl, hrr, rfl⟩
        change ze_V G l (ze_rm 8 0 0) M8_moment _ 27 [(0, .ref m), (1, ze_i ((c : Nat))), (2, ze_i ((i : Nat)))] [ze_i (rr)] w' 0 0
        refine ze_istore_n (lv' := [(0, .ref m), (1, ze_i ((c : Nat))), (2, ze_i ((i : Nat))), (3, ze_i (rr))]) dX8_moment_27 rfl rfl ?_
        refine ze_iload_n dX8_moment_28 rfl ?_
        refine ze_if_eq 34 dX8_moment_29 (by decide) (rfs_rng hrr) (fun q2 => ?_) (fun q2 => ?_)
        · obtain ⟨hR, hP0⟩ := rfs_ok hG (by omega) hrr q2
          obtain ⟨en, n1, n8⟩ := mch_n hR.1
          have hiP : i < P := by omega
          refine ze_aload_n dX8_moment_34 rfl ?_
          refine ze_iload_n dX8_moment_35 rfl ?_
          refine ze_callV (As := [ze_i ((c : Nat))]) (rest := []) dX8_moment_36 (C8_workAhead hM (c := c) (by omega) hR) mo8_workAhead ml_X8_175 in_8_workAhead se_8_workAhead (ms_o hM) rfl rfl rfl rfl rfl ⟨Nat.le_refl _, Nat.le_refl _⟩ rfl (Nat.le_of_ble_eq_true rfl) ?_
          rintro _ w2 ⟨rfl, bz2, hM2, ha2, hf2⟩
          change ze_V G l (ze_rm 8 0 0) M8_moment _ 39 [(0, .ref m), (1, ze_i ((c : Nat))), (2, ze_i ((i : Nat))), (3, ze_i (rr))] [] w2 0 0
          refine ze_aload_n dX8_moment_39 rfl ?_
          refine ze_iload_n dX8_moment_40 rfl ?_
          refine ze_callV (As := [ze_i ((c : Nat))]) (rest := []) dX8_moment_41 (C8_workBehind hM2 (c := c) (by omega) hR) mo8_workBehind ml_X8_154 in_8_workBehind se_8_workBehind (ms_o hM2) rfl rfl rfl rfl rfl ⟨Nat.le_refl _, Nat.le_refl _⟩ rfl (Nat.le_of_ble_eq_true rfl) ?_
          rintro _ w3 ⟨rfl, bz3, hM3, hb3, hf3⟩
          have eA : ∀ s, s < cn ar c → bz3 (36 + 4 * (i * 8 + s)) = (fk ar c i s : Nat) := fun s hs => by rw [hf3 _ (fun j => by omega) (by omega) (by omega) (by omega)]; exact ha2 i s hiP hs
          have eB : ∀ s, s < cn ar c → bz3 (38 + 4 * (i * 8 + s)) = (bk ar c P (P - 1 - i) s : Nat) := fun s hs => hb3 i s hiP hs
          have e8 : bz3 8 = bz 8 := by rw [hf3 8 (fun j => by omega) (by omega) (by omega) (by omega), hf2 8 (fun j => by omega) (by omega) (by omega) (by omega)]
          have hF : ∀ s, s < cn ar c → fit ((fk ar c i s : Nat) : Int) 46 := fun s hs => fit_46 (fk_le hR hiP hs) (by omega)
          have hB : ∀ s, s < cn ar c → fit ((bk ar c P (P - 1 - i) s : Nat) : Int) 46 := fun s hs => fit_46 (bk_le hR (P - 1 - i) s (by omega) hs) (by omega)
          have hPF : ∀ s, s < cn ar c → fit ((fk ar c i s * bk ar c P (P - 1 - i) s : Nat) : Int) 92 := fun s hs => by rw [Int.natCast_mul]; exact fit_mul (hF s hs) (hB s hs)
          change ze_V G l (ze_rm 8 0 0) M8_moment _ 44 [(0, .ref m), (1, ze_i ((c : Nat))), (2, ze_i ((i : Nat))), (3, ze_i (rr))] [] w3 0 0
          have loop : ∀ (d s : Nat) (bz4 : Nat → Int) (w4 : ze_W), s + d = cn ar c → mst G w0 w4 m C P F ar bz4 → bz4 28 = ((mx (fun s => fk ar c i s * bk ar c P (P - 1 - i) s) s).2 : Nat) → (∀ o, o ≠ 28 → o ≠ 30 → bz4 o = bz3 o) → ze_V G l (ze_rm 8 0 0) M8_moment Z 57 [(0, .ref m), (1, ze_i ((c : Nat))), (2, ze_i ((i : Nat))), (3, ze_i (rr)), (4, ze_i (((mx (fun s => fk ar c i s * bk ar c P (P - 1 - i) s) s).1 : Nat))), (5, ze_i ((s : Nat)))] [] w4 0 0 := by
            intro d
            induction d with
            | zero =>
              intro s bz4 w4 hs hM4 hv hf
              have hsn : s = cn ar c := by omega
              obtain ⟨bn, bs, hbo, hb0, hb1, -⟩ := ms_bo hM4 (o := 28) (by decide)
              have hml := mx_lt (f := (fun s => fk ar c i s * bk ar c P (P - 1 - i) s)) n1
              rw [← hQ]
              refine ze_iload dX8_moment_57 rfl ?_
              refine ze_aload_n dX8_moment_59 rfl ?_
              refine ze_getf dX8_moment_60 fl_X8_9 (ms_o hM4) rfl ?_
              refine ze_iload_n dX8_moment_63 rfl ?_
              refine ze_iald (j := c) dX8_moment_64 (show w4.2 (m + 1) = some (ze_ia G 6 (ar 1)) from ms_i hM4 1 (by decide)) (by omega) (by omega) (by omega) ?_
              rw [en]
              refine ze_icmp_ge 134 dX8_moment_65 (by decide) (by omega) (by omega) (fun q3 => ?_) (fun q3 => ?_)
              · refine ze_aload_n dX8_moment_134 rfl ?_
                refine ze_getf dX8_moment_135 fl_X8_89 (ms_o hM4) rfl ?_
                refine ze_getN rfl dX8_moment_138 inX7 hbo rfl ?_
                refine ze_if_ne 149 dX8_moment_141 (by decide) (by omega) (fun q4 => ?_) (fun q4 => ?_)
                · refine ze_iload dX8_moment_149 rfl ?_
                  exact ze_ireturn rfl dX8_moment_151 ⟨_, rfl, bz4, hM4, by rw [hf 8 (by decide) (by decide), e8], Or.inr (Or.inr ⟨hcond, by rw [q2] at hrr; exact hrr, by unfold mov; rw [Int.toNat_natCast, Int.toNat_natCast, if_neg (fun h => q4 (hb0.2 (by rw [hv, hsn, h]; rfl))), hsn]⟩)⟩ rfl rfl
                · refine ze_bipush dX8_moment_144 (by decide) ?_
                  refine ze_goto 151 dX8_moment_146 (by decide) ?_
                  exact ze_ireturn rfl dX8_moment_151 ⟨_, rfl, bz4, hM4, by rw [hf 8 (by decide) (by decide), e8], Or.inr (Or.inr ⟨hcond, by rw [q2] at hrr; exact hrr, by unfold mov; rw [Int.toNat_natCast, Int.toNat_natCast, if_pos (by rw [← hsn]; have := hb0.1 q4; rw [hv] at this; exact Int.ofNat_eq_zero.1 this)]⟩)⟩ rfl rfl
              · omega
            | succ d ih =>
              intro s bz4 w4 hs hM4 hv hf
              have hsn : s < cn ar c := by omega
              have e1 : bz4 (36 + 4 * (i * 8 + s)) = (fk ar c i s : Nat) := by rw [hf _ (by omega) (by omega)]; exact eA s hsn
              have e2 : bz4 (38 + 4 * (i * 8 + s)) = (bk ar c P (P - 1 - i) s : Nat) := by rw [hf _ (by omega) (by omega)]; exact eB s hsn
              have emx : mx (fun s => fk ar c i s * bk ar c P (P - 1 - i) s) (s + 1) = if (mx (fun s => fk ar c i s * bk ar c P (P - 1 - i) s) s).2 < fk ar c i s * bk ar c P (P - 1 - i) s then (s, fk ar c i s * bk ar c P (P - 1 - i) s) else mx (fun s => fk ar c i s * bk ar c P (P - 1 - i) s) s := rfl
              refine ze_iload dX8_moment_57 rfl ?_
              refine ze_aload_n dX8_moment_59 rfl ?_
              refine ze_getf dX8_moment_60 fl_X8_9 (ms_o hM4) rfl ?_
              refine ze_iload_n dX8_moment_63 rfl ?_
              refine ze_iald (j := c) dX8_moment_64 (show w4.2 (m + 1) = some (ze_ia G 6 (ar 1)) from ms_i hM4 1 (by decide)) (by omega) (by omega) (by omega) ?_
              rw [en]
              refine ze_icmp_ge 134 dX8_moment_65 (by decide) (by omega) (by omega) (fun q3 => ?_) (fun q3 => ?_)
              · omega
              · refine ze_aload_n dX8_moment_68 rfl ?_
                refine ze_getf dX8_moment_69 fl_X8_92 (ms_o hM4) rfl ?_
                refine ze_aload_n dX8_moment_72 rfl ?_
                refine ze_getf dX8_moment_73 fl_X8_40 (ms_o hM4) rfl ?_
                refine ze_iload_n dX8_moment_76 rfl ?_
                refine ze_bipush dX8_moment_77 (by decide) ?_
                refine ze_imul dX8_moment_79 ?_
                refine ze_iload dX8_moment_80 rfl ?_
                refine ze_iadd dX8_moment_82 ?_
                refine ze_aald (j := i * 8 + s) (b := (m + (36 + 4 * (i * 8 + s)))) dX8_moment_83 (show w4.2 (m + 10) = some (ze_ra G 4 480 (fun j => some (m + mro 10 j))) from ms_r hM4 10 (by decide)) rfl (by omega) (by omega) (by omega) rfl ?_
                refine ze_aload_n dX8_moment_84 rfl ?_
                refine ze_getf dX8_moment_85 fl_X8_44 (ms_o hM4) rfl ?_
                refine ze_iload_n dX8_moment_88 rfl ?_
                refine ze_bipush dX8_moment_89 (by decide) ?_
                refine ze_imul dX8_moment_91 ?_
                refine ze_iload dX8_moment_92 rfl ?_
                refine ze_iadd dX8_moment_94 ?_
                refine ze_aald (j := i * 8 + s) (b := (m + (38 + 4 * (i * 8 + s)))) dX8_moment_95 (show w4.2 (m + 11) = some (ze_ra G 4 480 (fun j => some (m + mro 11 j))) from ms_r hM4 11 (by decide)) rfl (by omega) (by omega) (by omega) rfl ?_
                refine ze_callV (As := [.ref (m + (36 + 4 * (i * 8 + s))), .ref (m + (38 + 4 * (i * 8 + s)))]) (rest := []) dX8_moment_96 (E7_times hM4 (o1 := 30) (o2 := 36 + 4 * (i * 8 + s)) (o3 := 38 + 4 * (i * 8 + s)) (K1 := 46) (K2 := 46) (by decide) (mc_10 (by omega)) (mc_11 (by omega)) (by omega) (by omega) (by rw [e1]; exact hF s hsn) (by rw [e2]; exact hB s hsn) (by decide)) mo7_times ml_X8_136 in_7_times se_7_times (ms_bx hM4 (by decide)).choose_spec rfl rfl rfl rfl rfl ⟨Nat.le_refl _, Nat.le_refl _⟩ rfl (Nat.le_of_ble_eq_true rfl) ?_
                rintro _ w4 ⟨rfl, hM4⟩
                change ze_V G l (ze_rm 8 0 0) M8_moment _ 99 [(0, .ref m), (1, ze_i ((c : Nat))), (2, ze_i ((i : Nat))), (3, ze_i (rr)), (4, ze_i (((mx (fun s => fk ar c i s * bk ar c P (P - 1 - i) s) s).1 : Nat))), (5, ze_i ((s : Nat)))] [] w4 0 0
                have e30 : (va_up bz4 30 (bz4 (36 + 4 * (i * 8 + s)) * bz4 (38 + 4 * (i * 8 + s)))) 30 = ((fk ar c i s * bk ar c P (P - 1 - i) s : Nat) : Int) := by rw [va_up_self, e1, e2]; exact (Int.natCast_mul _ _).symm
                have e28 : (va_up bz4 30 (bz4 (36 + 4 * (i * 8 + s)) * bz4 (38 + 4 * (i * 8 + s)))) 28 = ((mx (fun s => fk ar c i s * bk ar c P (P - 1 - i) s) s).2 : Nat) := by rw [va_up_ne _ _ (by decide)]; exact hv
                have eo : ∀ o, o ≠ 28 → o ≠ 30 → (va_up bz4 30 (bz4 (36 + 4 * (i * 8 + s)) * bz4 (38 + 4 * (i * 8 + s)))) o = bz3 o := fun o g1 g2 => by rw [va_up_ne _ _ g2]; exact hf o g1 g2
                generalize va_up bz4 30 (bz4 (36 + 4 * (i * 8 + s)) * bz4 (38 + 4 * (i * 8 + s))) = bz5 at *
                refine ze_aload_n dX8_moment_99 rfl ?_
                refine ze_getf dX8_moment_100 fl_X8_92 (ms_o hM4) rfl ?_
                refine ze_aload_n dX8_moment_103 rfl ?_
                refine ze_getf dX8_moment_104 fl_X8_89 (ms_o hM4) rfl ?_
                refine ze_callV (As := [.ref (m + 28)]) (rest := []) dX8_moment_107 (E7_compare hM4 (o1 := 30) (o2 := 28) (by decide) (by decide)) mo7_compare ml_X8_178 in_7_compare se_7_compare (ms_bx hM4 (by decide)).choose_spec rfl rfl rfl rfl rfl ⟨Nat.le_refl _, Nat.le_refl _⟩ rfl (Nat.le_of_ble_eq_true rfl) ?_
                rintro _ w' ⟨rc, rfl, hrc, rfl⟩
                rw [e30, e28] at hrc
                change ze_V G l (ze_rm 8 0 0) M8_moment _ 110 [(0, .ref m), (1, ze_i ((c : Nat))), (2, ze_i ((i : Nat))), (3, ze_i (rr)), (4, ze_i (((mx (fun s => fk ar c i s * bk ar c P (P - 1 - i) s) s).1 : Nat))), (5, ze_i ((s : Nat)))] [ze_i (rc)] w' 0 0
                refine ze_if_le 128 dX8_moment_110 (by decide) (by rw [hrc]; exact cmp3_rng _ _) (fun q4 => ?_) (fun q4 => ?_)
                · have hle := cmp3_le0 (show cmp3 _ _ ≤ 0 by rw [← hrc]; exact q4)
                  rw [if_neg (by omega)] at emx
                  rw [← emx]
                  change ze_V G l (ze_rm 8 0 0) M8_moment _ 128 [(0, .ref m), (1, ze_i ((c : Nat))), (2, ze_i ((i : Nat))), (3, ze_i (rr)), (4, ze_i (((mx (fun s => fk ar c i s * bk ar c P (P - 1 - i) s) (s + 1)).1 : Nat))), (5, ze_i ((s : Nat)))] [] w' 0 0
                  refine ze_iinc (b := ((s + 1 : Nat))) (lv' := [(0, .ref m), (1, ze_i ((c : Nat))), (2, ze_i ((i : Nat))), (3, ze_i (rr)), (4, ze_i (((mx (fun s => fk ar c i s * bk ar c P (P - 1 - i) s) (s + 1)).1 : Nat))), (5, ze_i (((s + 1 : Nat))))]) dX8_moment_128 rfl rfl (by omega) rfl ?_
                  refine ze_goto 57 dX8_moment_131 (by decide) ?_
                  exact ih (s + 1) _ _ (by omega) hM4 (by rw [e28, emx]) eo
                · refine ze_iload dX8_moment_113 rfl ?_
                  have hgt := cmp3_gt0 (show 0 < cmp3 _ _ by rw [← hrc]; exact q4)
                  rw [if_pos hgt] at emx
                  refine ze_ti (b := ((mx (fun s => fk ar c i s * bk ar c P (P - 1 - i) s) (s + 1)).1 : Nat)) (by rw [emx]) ?_
                  refine ze_istore (lv' := [(0, .ref m), (1, ze_i ((c : Nat))), (2, ze_i ((i : Nat))), (3, ze_i (rr)), (4, ze_i (((mx (fun s => fk ar c i s * bk ar c P (P - 1 - i) s) (s + 1)).1 : Nat))), (5, ze_i ((s : Nat)))]) dX8_moment_115 rfl rfl ?_
                  refine ze_aload_n dX8_moment_117 rfl ?_
                  refine ze_getf dX8_moment_118 fl_X8_89 (ms_o hM4) rfl ?_
                  refine ze_aload_n dX8_moment_121 rfl ?_
                  refine ze_getf dX8_moment_122 fl_X8_92 (ms_o hM4) rfl ?_
                  refine ze_callV (As := [.ref (m + 30)]) (rest := []) dX8_moment_125 (E7_copy hM4 (o1 := 28) (o2 := 30) (by decide) (by decide) (by decide) (by rw [e30]; exact fit_le (hPF s hsn) (by decide))) mo7_copy ml_X8_143 in_7_copy se_7_copy (ms_bx hM4 (by decide)).choose_spec rfl rfl rfl rfl rfl ⟨Nat.le_refl _, Nat.le_refl _⟩ rfl (Nat.le_of_ble_eq_true rfl) ?_
                  rintro _ w6 ⟨rfl, hM6⟩
                  change ze_V G l (ze_rm 8 0 0) M8_moment _ 128 [(0, .ref m), (1, ze_i ((c : Nat))), (2, ze_i ((i : Nat))), (3, ze_i (rr)), (4, ze_i (((mx (fun s => fk ar c i s * bk ar c P (P - 1 - i) s) (s + 1)).1 : Nat))), (5, ze_i ((s : Nat)))] [] w6 0 0
                  refine ze_iinc (b := ((s + 1 : Nat))) (lv' := [(0, .ref m), (1, ze_i ((c : Nat))), (2, ze_i ((i : Nat))), (3, ze_i (rr)), (4, ze_i (((mx (fun s => fk ar c i s * bk ar c P (P - 1 - i) s) (s + 1)).1 : Nat))), (5, ze_i (((s + 1 : Nat))))]) dX8_moment_128 rfl rfl (by omega) rfl ?_
                  refine ze_goto 57 dX8_moment_131 (by decide) ?_
                  exact ih (s + 1) _ _ (by omega) hM6 (by rw [va_up_self, e30, emx]) (fun o g1 g2 => by rw [va_up_ne _ _ g1]; exact eo o g1 g2)
          refine ze_iconst dX8_moment_44 ?_
          refine ze_ti (b := ((mx (fun s => fk ar c i s * bk ar c P (P - 1 - i) s) 0).1 : Nat)) rfl ?_
          refine ze_istore (lv' := [(0, .ref m), (1, ze_i ((c : Nat))), (2, ze_i ((i : Nat))), (3, ze_i (rr)), (4, ze_i (((mx (fun s => fk ar c i s * bk ar c P (P - 1 - i) s) 0).1 : Nat)))]) dX8_moment_45 rfl rfl ?_
          refine ze_aload_n dX8_moment_47 rfl ?_
          refine ze_getf dX8_moment_48 fl_X8_89 (ms_o hM3) rfl ?_
          refine ze_callV (As := []) (rest := []) dX8_moment_51 (E7_clear hM3 (o1 := 28) (by decide)) mo7_clear ml_X8_147 in_7_clear se_7_clear (ms_bx hM3 (by decide)).choose_spec rfl rfl rfl rfl rfl ⟨Nat.le_refl _, Nat.le_refl _⟩ rfl (Nat.le_of_ble_eq_true rfl) ?_
          rintro _ w5 ⟨rfl, hM5⟩
          change ze_V G l (ze_rm 8 0 0) M8_moment _ 54 [(0, .ref m), (1, ze_i ((c : Nat))), (2, ze_i ((i : Nat))), (3, ze_i (rr)), (4, ze_i (((mx (fun s => fk ar c i s * bk ar c P (P - 1 - i) s) 0).1 : Nat)))] [] w5 0 0
          refine ze_iconst dX8_moment_54 ?_
          refine ze_ti (b := ((0 : Nat) : Nat)) rfl ?_
          refine ze_istore (lv' := [(0, .ref m), (1, ze_i ((c : Nat))), (2, ze_i ((i : Nat))), (3, ze_i (rr)), (4, ze_i (((mx (fun s => fk ar c i s * bk ar c P (P - 1 - i) s) 0).1 : Nat))), (5, ze_i (((0 : Nat) : Nat)))]) dX8_moment_55 rfl rfl ?_
          exact loop (cn ar c) 0 _ _ (by omega) hM5 (by rw [va_up_self]; rfl) (fun o g1 g2 => va_up_ne _ _ g1)
        · refine ze_iload_n dX8_moment_32 rfl ?_
          rw [← hQ]
          exact ze_ireturn rfl dX8_moment_33 ⟨_, rfl, _, hM, rfl, Or.inr (Or.inl ⟨hcond, hrr, q2⟩)⟩ rfl rfl
      · refine ze_iconst dX8_moment_20 ?_
        rw [← hQ]
        exact ze_ireturn rfl dX8_moment_21 ⟨_, rfl, _, hM, rfl, Or.inl ⟨by omega, rfl⟩⟩ rfl rfl
