/-! the reference: power, compare, part, chain -/
theorem pw_fit {t k : Nat} (ht : t ≤ 1000) (hk : k ≤ 120) : fit ((t ^ k : Nat) : Int) 46 := by
  have h1 : t ^ k ≤ 1000 ^ 120 := Nat.le_trans (Nat.pow_le_pow_left ht k) (Nat.pow_le_pow_right (by decide) hk)
  exact Nat.lt_of_le_of_lt h1 (by decide +kernel)
theorem C8_power {G : ze_G} {l : Launch} {w0 w : ze_W} {m C P F : Nat} {ar : Nat → Nat → Int} {bz : Nat → Int} (hM : mst G w0 w m C P F ar bz) {t n : Nat} (ht : t ≤ 1000) (hn : n ≤ 120) : ze_C G l 2 0 0 M8_power [.ref m, ze_i (t : Nat), ze_i (n : Nat), .ref (m + 30)] w (ze_qv (fun w' => ∃ bz', mst G w0 w' m C P F ar bz' ∧ bz' 30 = (t ^ n : Nat) ∧ (∀ o, o ≠ 24 → o ≠ 30 → o ≠ 34 → bz' o = bz o))) := by
  refine ze_enter (by decide +kernel) rfl ?_
  generalize hQ : (ze_Q G (ze_qv (fun w' => ∃ bz', mst G w0 w' m C P F ar bz' ∧ bz' 30 = (t ^ n : Nat) ∧ (∀ o, o ≠ 24 → o ≠ 30 → o ≠ 34 → bz' o = bz o))) 0 0) = Z
  have loop : ∀ (d k : Nat) (bz1 : Nat → Int) (w1 : ze_W), k + d = n → mst G w0 w1 m C P F ar bz1 → bz1 30 = (t ^ k : Nat) → bz1 34 = (t : Nat) → (∀ o, o ≠ 24 → o ≠ 30 → o ≠ 34 → bz1 o = bz o) → ze_V G l (ze_rm 2 0 0) M8_power Z 17 [(0, .ref m), (1, ze_i ((t : Nat))), (2, ze_i ((n : Nat))), (3, .ref (m + 30)), (4, ze_i ((k : Nat)))] [] w1 0 0 := by
    intro d
    induction d with
    | zero =>
      intro k bz1 w1 hk hM1 hv h34 hf
      have hkn : k = n := by omega
      rw [hkn] at hv
      rw [← hQ]
      refine ze_iload dX8_power_17 rfl ?_
      refine ze_iload_n dX8_power_19 rfl ?_
      refine ze_icmp_ge 49 dX8_power_20 (by decide) (by omega) (by omega) (fun q1 => ?_) (fun q1 => ?_)
      · exact ze_return rfl dX8_power_49 ⟨rfl, bz1, hM1, hv, hf⟩ rfl rfl
      · omega
    | succ d ih =>
      intro k bz1 w1 hk hM1 hv h34 hf
      refine ze_iload dX8_power_17 rfl ?_
      refine ze_iload_n dX8_power_19 rfl ?_
      refine ze_icmp_ge 49 dX8_power_20 (by decide) (by omega) (by omega) (fun q1 => ?_) (fun q1 => ?_)
      · omega
      · refine ze_aload_n dX8_power_23 rfl ?_
        refine ze_getf dX8_power_24 fl_X8_83 (ms_o hM1) rfl ?_
        refine ze_aload_n dX8_power_27 rfl ?_
        refine ze_aload_n dX8_power_28 rfl ?_
        refine ze_getf dX8_power_29 fl_X8_98 (ms_o hM1) rfl ?_
        refine ze_callV (As := [.ref (m + 30), .ref (m + 34)]) (rest := []) dX8_power_32 (E7_times hM1 (o1 := 24) (o2 := 30) (o3 := 34) (K1 := 46) (K2 := 1) (by decide) (by decide) (by decide) (by decide) (by decide) (by rw [hv]; exact pw_fit ht (by omega)) (by rw [h34]; exact fit_sm (by omega)) (by decide)) mo7_times ml_X8_136 in_7_times se_7_times (ms_bx hM1 (by decide)).choose_spec rfl rfl rfl rfl rfl ⟨Nat.le_refl _, Nat.le_refl _⟩ rfl (Nat.le_of_ble_eq_true rfl) ?_
        rintro _ w2 ⟨rfl, hM2⟩
        change ze_V G l (ze_rm 2 0 0) M8_power _ 35 [(0, .ref m), (1, ze_i ((t : Nat))), (2, ze_i ((n : Nat))), (3, .ref (m + 30)), (4, ze_i ((k : Nat)))] [] w2 0 0
        have e24 : (va_up bz1 24 (bz1 30 * bz1 34)) 24 = ((t ^ (k + 1) : Nat) : Int) := by rw [va_up_self, hv, h34, Nat.pow_succ]; exact (Int.natCast_mul _ _).symm
        have eo : ∀ o, o ≠ 24 → (va_up bz1 24 (bz1 30 * bz1 34)) o = bz1 o := fun o g => va_up_ne _ _ g
        generalize va_up bz1 24 (bz1 30 * bz1 34) = bz2 at *
        refine ze_aload_n dX8_power_35 rfl ?_
        refine ze_aload_n dX8_power_36 rfl ?_
        refine ze_getf dX8_power_37 fl_X8_83 (ms_o hM2) rfl ?_
        refine ze_callV (As := [.ref (m + 24)]) (rest := []) dX8_power_40 (E7_copy hM2 (o1 := 30) (o2 := 24) (by decide) (by decide) (by decide) (by rw [e24]; exact fit_le (pw_fit ht (by omega)) (by decide))) mo7_copy ml_X8_143 in_7_copy se_7_copy (ms_bx hM2 (by decide)).choose_spec rfl rfl rfl rfl rfl ⟨Nat.le_refl _, Nat.le_refl _⟩ rfl (Nat.le_of_ble_eq_true rfl) ?_
        rintro _ w3 ⟨rfl, hM3⟩
        change ze_V G l (ze_rm 2 0 0) M8_power _ 43 [(0, .ref m), (1, ze_i ((t : Nat))), (2, ze_i ((n : Nat))), (3, .ref (m + 30)), (4, ze_i ((k : Nat)))] [] w3 0 0
        refine ze_iinc (b := ((k + 1 : Nat))) (lv' := [(0, .ref m), (1, ze_i ((t : Nat))), (2, ze_i ((n : Nat))), (3, .ref (m + 30)), (4, ze_i (((k + 1 : Nat))))]) dX8_power_43 rfl rfl (by omega) rfl ?_
        refine ze_goto 17 dX8_power_46 (by decide) ?_
        exact ih (k + 1) _ _ (by omega) hM3 (by rw [va_up_self, e24]) (by rw [va_up_ne _ _ (by decide), eo 34 (by decide), h34]) (fun o g1 g2 g3 => by rw [va_up_ne _ _ g2, eo o g1]; exact hf o g1 g2 g3)
  change ze_V G l (ze_rm 2 0 0) M8_power Z 0 [(0, .ref m), (1, ze_i ((t : Nat))), (2, ze_i ((n : Nat))), (3, .ref (m + 30))] [] w 0 0
  refine ze_aload_n dX8_power_0 rfl ?_
  refine ze_lconst (z := 1) dX8_power_1 (by decide) ?_
  refine ze_callV (As := [ze_l (1)]) (rest := []) dX8_power_2 (E7_of hM (o1 := 30) (v := 1) (by decide) (by omega)) mo7_of ml_X8_132 in_7_of se_7_of (ms_bx hM (by decide)).choose_spec rfl rfl rfl rfl rfl ⟨Nat.le_refl _, Nat.le_refl _⟩ rfl (Nat.le_of_ble_eq_true rfl) ?_
  rintro _ w1 ⟨rfl, hM1⟩
  change ze_V G l (ze_rm 2 0 0) M8_power _ 5 [(0, .ref m), (1, ze_i ((t : Nat))), (2, ze_i ((n : Nat))), (3, .ref (m + 30))] [] w1 0 0
  refine ze_aload_n dX8_power_5 rfl ?_
  refine ze_getf dX8_power_6 fl_X8_98 (ms_o hM1) rfl ?_
  refine ze_iload_n dX8_power_9 rfl ?_
  refine ze_i2l dX8_power_10 (by omega) ?_
  refine ze_callV (As := [ze_l ((t : Nat))]) (rest := []) dX8_power_11 (E7_of hM1 (o1 := 34) (v := ((t : Nat) : Int)) (by decide) (by omega)) mo7_of ml_X8_132 in_7_of se_7_of (ms_bx hM1 (by decide)).choose_spec rfl rfl rfl rfl rfl ⟨Nat.le_refl _, Nat.le_refl _⟩ rfl (Nat.le_of_ble_eq_true rfl) ?_
  rintro _ w2 ⟨rfl, hM2⟩
  change ze_V G l (ze_rm 2 0 0) M8_power _ 14 [(0, .ref m), (1, ze_i ((t : Nat))), (2, ze_i ((n : Nat))), (3, .ref (m + 30))] [] w2 0 0
  refine ze_iconst dX8_power_14 ?_
  refine ze_ti (b := ((0 : Nat) : Nat)) rfl ?_
  refine ze_istore (lv' := [(0, .ref m), (1, ze_i ((t : Nat))), (2, ze_i ((n : Nat))), (3, .ref (m + 30)), (4, ze_i (((0 : Nat) : Nat)))]) dX8_power_15 rfl rfl ?_
  exact loop n 0 _ _ (by omega) hM2 (by rw [va_up_ne _ _ (by decide), va_up_self, Nat.pow_zero]; rfl) (by rw [va_up_self]) (fun o g1 g2 g3 => by rw [va_up_ne _ _ g3, va_up_ne _ _ g2])
theorem rfs_un {ar : Nat → Nat → Int} {P c : Nat} {r r' : Int} (h : rfs ar P c r) (h' : rfs ar P c r') : r = r' := by
  unfold rfs at h h'
  rcases h with ⟨a1, a2⟩ | ⟨a1, a2, a3⟩ | ⟨a1, a2, a3, a4⟩ | ⟨a1, a2, a3, a4⟩ <;> rcases h' with ⟨b1, b2⟩ | ⟨b1, b2, b3⟩ | ⟨b1, b2, b3, b4⟩ | ⟨b1, b2, b3, b4⟩ <;> first | omega | (exact absurd ‹snd ar c› ‹¬ snd ar c›) | (exact absurd b3 a3) | (exact absurd a3 b3)
theorem C8_compare {G : ze_G} {l : Launch} {w0 w : ze_W} {m C P F : Nat} {ar : Nat → Nat → Int} {bz : Nat → Int} (hM : mst G w0 w m C P F ar bz) {a b : Int} (r_a : -2147483648 ≤ a ∧ a < 2147483648) (r_b : -2147483648 ≤ b ∧ b < 2147483648) (hG : mgd C P F ar) : ze_C G l 8 0 0 M8_compare [.ref m, ze_i a, ze_i b] w (ze_qi (fun r w' => ∃ bz', mst G w0 w' m C P F ar bz' ∧ bz' 8 = bz 8 ∧ ((¬ (((0 ≤ a ∧ a < (C : Int)) ∧ (0 ≤ b ∧ b < (C : Int))) ∧ rfs ar P a.toNat 0 ∧ rfs ar P b.toNat 0) ∧ r = -2) ∨ ((((0 ≤ a ∧ a < (C : Int)) ∧ (0 ≤ b ∧ b < (C : Int))) ∧ rfs ar P a.toNat 0 ∧ rfs ar P b.toNat 0) ∧ r = cmp3 ((chn ar a.toNat P * ct ar b.toNat ^ (2 * P) : Nat) : Int) ((chn ar b.toNat P * ct ar a.toNat ^ (2 * P) : Nat) : Int))))) := by
  have hG1 := hG.1
  refine ze_enter (by decide +kernel) rfl ?_
  generalize hQ : (ze_Q G (ze_qi (fun r w' => ∃ bz', mst G w0 w' m C P F ar bz' ∧ bz' 8 = bz 8 ∧ ((¬ (((0 ≤ a ∧ a < (C : Int)) ∧ (0 ≤ b ∧ b < (C : Int))) ∧ rfs ar P a.toNat 0 ∧ rfs ar P b.toNat 0) ∧ r = -2) ∨ ((((0 ≤ a ∧ a < (C : Int)) ∧ (0 ≤ b ∧ b < (C : Int))) ∧ rfs ar P a.toNat 0 ∧ rfs ar P b.toNat 0) ∧ r = cmp3 ((chn ar a.toNat P * ct ar b.toNat ^ (2 * P) : Nat) : Int) ((chn ar b.toNat P * ct ar a.toNat ^ (2 * P) : Nat) : Int))))) 0 0) = Z
  change ze_V G l (ze_rm 8 0 0) M8_compare _ 0 [(0, .ref m), (1, ze_i (a)), (2, ze_i (b))] [] w 0 0
  refine ze_aload_n dX8_compare_0 rfl ?_
  refine ze_iload_n dX8_compare_1 rfl ?_
  refine ze_callV (As := [ze_i (a)]) (rest := []) dX8_compare_2 (C8_is hM r_a hG.1.1) mo8_is ml_X8_105 in_8_is se_8_is (ms_o hM) rfl rfl rfl rfl rfl ⟨Nat.le_refl _, Nat.le_refl _⟩ rfl (Nat.le_of_ble_eq_true rfl) ?_
  rintro _ w' ⟨r1, rfl, rfl, rfl⟩
  change ze_V G l (ze_rm 8 0 0) M8_compare _ 5 [(0, .ref m), (1, ze_i (a)), (2, ze_i (b))] [ze_i (bi (0 ≤ a ∧ a < (C : Int)))] w' 0 0
  refine ze_if_eq 32 dX8_compare_5 (by decide) (bi_rng _) (fun q1 => ?_) (fun q1 => ?_)
  · rw [bi_z] at q1
    refine ze_bipush dX8_compare_32 (by decide) ?_
    rw [← hQ]
    exact ze_ireturn rfl dX8_compare_34 ⟨_, rfl, _, hM, rfl, Or.inl ⟨fun h => q1 h.1.1, rfl⟩⟩ rfl rfl
  · rw [bi_n] at q1
    refine ze_aload_n dX8_compare_8 rfl ?_
    refine ze_iload_n dX8_compare_9 rfl ?_
    refine ze_callV (As := [ze_i (b)]) (rest := []) dX8_compare_10 (C8_is hM r_b hG.1.1) mo8_is ml_X8_105 in_8_is se_8_is (ms_o hM) rfl rfl rfl rfl rfl ⟨Nat.le_refl _, Nat.le_refl _⟩ rfl (Nat.le_of_ble_eq_true rfl) ?_
    rintro _ w' ⟨r2, rfl, rfl, rfl⟩
    change ze_V G l (ze_rm 8 0 0) M8_compare _ 13 [(0, .ref m), (1, ze_i (a)), (2, ze_i (b))] [ze_i (bi (0 ≤ b ∧ b < (C : Int)))] w' 0 0
    refine ze_if_eq 32 dX8_compare_13 (by decide) (bi_rng _) (fun q2 => ?_) (fun q2 => ?_)
    · rw [bi_z] at q2
      refine ze_bipush dX8_compare_32 (by decide) ?_
      rw [← hQ]
      exact ze_ireturn rfl dX8_compare_34 ⟨_, rfl, _, hM, rfl, Or.inl ⟨fun h => q2 h.1.2, rfl⟩⟩ rfl rfl
    · rw [bi_n] at q2
      obtain ⟨a, rfl⟩ := Int.eq_ofNat_of_zero_le q1.1
      obtain ⟨b, rfl⟩ := Int.eq_ofNat_of_zero_le q2.1
      change ze_V G l (ze_rm 8 0 0) M8_compare _ 16 [(0, .ref m), (1, ze_i ((a : Nat))), (2, ze_i ((b : Nat)))] [] w' 0 0
      refine ze_aload_n dX8_compare_16 rfl ?_
      refine ze_iload_n dX8_compare_17 rfl ?_
      refine ze_callV (As := [ze_i ((a : Nat))]) (rest := []) dX8_compare_18 (C8_refusal hM (c := a) (by omega) hG) mo8_refusal ml_X8_164 in_8_refusal se_8_refusal (ms_o hM) rfl rfl rfl rfl rfl ⟨Nat.le_refl _, Nat.le_refl _⟩ rfl (Nat.le_of_ble_eq_true rfl) ?_
      rintro _ w' ⟨ra, rfl, hra, rfl⟩
      change ze_V G l (ze_rm 8 0 0) M8_compare _ 21 [(0, .ref m), (1, ze_i ((a : Nat))), (2, ze_i ((b : Nat)))] [ze_i (ra)] w' 0 0
      refine ze_if_ne 32 dX8_compare_21 (by decide) (rfs_rng hra) (fun q3 => ?_) (fun q3 => ?_)
      · refine ze_bipush dX8_compare_32 (by decide) ?_
        rw [← hQ]
        exact ze_ireturn rfl dX8_compare_34 ⟨_, rfl, _, hM, rfl, Or.inl ⟨fun h => q3 (rfs_un hra h.2.1), rfl⟩⟩ rfl rfl
      · refine ze_aload_n dX8_compare_24 rfl ?_
        refine ze_iload_n dX8_compare_25 rfl ?_
        refine ze_callV (As := [ze_i ((b : Nat))]) (rest := []) dX8_compare_26 (C8_refusal hM (c := b) (by omega) hG) mo8_refusal ml_X8_164 in_8_refusal se_8_refusal (ms_o hM) rfl rfl rfl rfl rfl ⟨Nat.le_refl _, Nat.le_refl _⟩ rfl (Nat.le_of_ble_eq_true rfl) ?_
        rintro _ w' ⟨rb, rfl, hrb, rfl⟩
        change ze_V G l (ze_rm 8 0 0) M8_compare _ 29 [(0, .ref m), (1, ze_i ((a : Nat))), (2, ze_i ((b : Nat)))] [ze_i (rb)] w' 0 0
        refine ze_if_eq 35 dX8_compare_29 (by decide) (rfs_rng hrb) (fun q4 => ?_) (fun q4 => ?_)
        · rw [q3] at hra
          rw [q4] at hrb
          obtain ⟨hRa, hP0⟩ := rfs_ok hG (by omega) hra rfl
          obtain ⟨hRb, -⟩ := rfs_ok hG (by omega) hrb rfl
          obtain ⟨eta, -, ta⟩ := mch_t hRa.1
          obtain ⟨etb, -, tb⟩ := mch_t hRb.1
          have hca := chn_le hRa hP0
          have hcb := chn_le hRb hP0
          refine ze_aload_n dX8_compare_35 rfl ?_
          refine ze_iload_n dX8_compare_36 rfl ?_
          refine ze_aload_n dX8_compare_37 rfl ?_
          refine ze_getf dX8_compare_38 fl_X8_89 (ms_o hM) rfl ?_
          refine ze_callV (As := [ze_i ((a : Nat)), .ref (m + 28)]) (rest := []) dX8_compare_41 (C8_chance hM (c := a) (o1 := 28) (by omega) hRa hP0 (Or.inr rfl)) mo8_chance ml_X8_167 in_8_chance se_8_chance (ms_o hM) rfl rfl rfl rfl rfl ⟨Nat.le_refl _, Nat.le_refl _⟩ rfl (Nat.le_of_ble_eq_true rfl) ?_
          rintro _ w21 ⟨rfl, bz21, hM21, hv21, hf21⟩
          change ze_V G l (ze_rm 8 0 0) M8_compare _ 44 [(0, .ref m), (1, ze_i ((a : Nat))), (2, ze_i ((b : Nat)))] [] w21 0 0
          refine ze_aload_n dX8_compare_44 rfl ?_
          refine ze_aload_n dX8_compare_45 rfl ?_
          refine ze_getf dX8_compare_46 fl_X8_16 (ms_o hM21) rfl ?_
          refine ze_iload_n dX8_compare_49 rfl ?_
          refine ze_iald (j := b) dX8_compare_50 (show w21.2 (m + 3) = some (ze_ia G 6 (ar 3)) from ms_i hM21 3 (by decide)) (by omega) (by omega) (by omega) ?_
          rw [etb]
          refine ze_iconst dX8_compare_51 ?_
          refine ze_aload_n dX8_compare_52 rfl ?_
          refine ze_getf dX8_compare_53 fl_X8_126 (ms_o hM21) rfl ?_
          refine ze_imul dX8_compare_56 ?_
          refine ze_ti (b := ((2 * P : Nat))) (by omega) ?_
          refine ze_aload_n dX8_compare_57 rfl ?_
          refine ze_getf dX8_compare_58 fl_X8_92 (ms_o hM21) rfl ?_
          refine ze_callV (As := [ze_i ((ct ar b : Nat)), ze_i (((2 * P : Nat))), .ref (m + 30)]) (rest := []) dX8_compare_61 (C8_power hM21 (t := ct ar b) (n := 2 * P) tb (by omega)) mo8_power ml_X8_192 in_8_power se_8_power (ms_o hM21) rfl rfl rfl rfl rfl ⟨Nat.le_refl _, Nat.le_refl _⟩ rfl (Nat.le_of_ble_eq_true rfl) ?_
          rintro _ w22 ⟨rfl, bz22, hM22, hv22, hf22⟩
          change ze_V G l (ze_rm 8 0 0) M8_compare _ 64 [(0, .ref m), (1, ze_i ((a : Nat))), (2, ze_i ((b : Nat)))] [] w22 0 0
          have e28 : bz22 28 = (chn ar a P : Nat) := by rw [hf22 28 (by decide) (by decide) (by decide), hv21]
          refine ze_aload_n dX8_compare_64 rfl ?_
          refine ze_getf dX8_compare_65 fl_X8_95 (ms_o hM22) rfl ?_
          refine ze_aload_n dX8_compare_68 rfl ?_
          refine ze_getf dX8_compare_69 fl_X8_89 (ms_o hM22) rfl ?_
          refine ze_aload_n dX8_compare_72 rfl ?_
          refine ze_getf dX8_compare_73 fl_X8_92 (ms_o hM22) rfl ?_
          refine ze_callV (As := [.ref (m + 28), .ref (m + 30)]) (rest := []) dX8_compare_76 (E7_times hM22 (o1 := 32) (o2 := 28) (o3 := 30) (K1 := 46) (K2 := 46) (by decide) (by decide) (by decide) (by decide) (by decide) (by rw [e28]; exact fit_46 hca (by omega)) (by rw [hv22]; exact pw_fit tb (by omega)) (by decide)) mo7_times ml_X8_136 in_7_times se_7_times (ms_bx hM22 (by decide)).choose_spec rfl rfl rfl rfl rfl ⟨Nat.le_refl _, Nat.le_refl _⟩ rfl (Nat.le_of_ble_eq_true rfl) ?_
          rintro _ w31 ⟨rfl, hM31⟩
          change ze_V G l (ze_rm 8 0 0) M8_compare _ 79 [(0, .ref m), (1, ze_i ((a : Nat))), (2, ze_i ((b : Nat)))] [] w31 0 0
          have e32 : (va_up bz22 32 (bz22 28 * bz22 30)) 32 = ((chn ar a P * ct ar b ^ (2 * P) : Nat) : Int) := by rw [va_up_self, e28, hv22]; exact (Int.natCast_mul _ _).symm
          have e8 : (va_up bz22 32 (bz22 28 * bz22 30)) 8 = bz 8 := by rw [va_up_ne _ _ (by decide), hf22 8 (by decide) (by decide) (by decide), hf21 8 (fun j => by omega) (by decide) (by decide) (by decide) (by decide)]
          generalize va_up bz22 32 (bz22 28 * bz22 30) = bz23 at *
          refine ze_aload_n dX8_compare_79 rfl ?_
          refine ze_iload_n dX8_compare_80 rfl ?_
          refine ze_aload_n dX8_compare_81 rfl ?_
          refine ze_getf dX8_compare_82 fl_X8_89 (ms_o hM31) rfl ?_
          refine ze_callV (As := [ze_i ((b : Nat)), .ref (m + 28)]) (rest := []) dX8_compare_85 (C8_chance hM31 (c := b) (o1 := 28) (by omega) hRb hP0 (Or.inr rfl)) mo8_chance ml_X8_167 in_8_chance se_8_chance (ms_o hM31) rfl rfl rfl rfl rfl ⟨Nat.le_refl _, Nat.le_refl _⟩ rfl (Nat.le_of_ble_eq_true rfl) ?_
          rintro _ w24 ⟨rfl, bz24, hM24, hv24, hf24⟩
          change ze_V G l (ze_rm 8 0 0) M8_compare _ 88 [(0, .ref m), (1, ze_i ((a : Nat))), (2, ze_i ((b : Nat)))] [] w24 0 0
          refine ze_aload_n dX8_compare_88 rfl ?_
          refine ze_aload_n dX8_compare_89 rfl ?_
          refine ze_getf dX8_compare_90 fl_X8_16 (ms_o hM24) rfl ?_
          refine ze_iload_n dX8_compare_93 rfl ?_
          refine ze_iald (j := a) dX8_compare_94 (show w24.2 (m + 3) = some (ze_ia G 6 (ar 3)) from ms_i hM24 3 (by decide)) (by omega) (by omega) (by omega) ?_
          rw [eta]
          refine ze_iconst dX8_compare_95 ?_
          refine ze_aload_n dX8_compare_96 rfl ?_
          refine ze_getf dX8_compare_97 fl_X8_126 (ms_o hM24) rfl ?_
          refine ze_imul dX8_compare_100 ?_
          refine ze_ti (b := ((2 * P : Nat))) (by omega) ?_
          refine ze_aload_n dX8_compare_101 rfl ?_
          refine ze_getf dX8_compare_102 fl_X8_92 (ms_o hM24) rfl ?_
          refine ze_callV (As := [ze_i ((ct ar a : Nat)), ze_i (((2 * P : Nat))), .ref (m + 30)]) (rest := []) dX8_compare_105 (C8_power hM24 (t := ct ar a) (n := 2 * P) ta (by omega)) mo8_power ml_X8_192 in_8_power se_8_power (ms_o hM24) rfl rfl rfl rfl rfl ⟨Nat.le_refl _, Nat.le_refl _⟩ rfl (Nat.le_of_ble_eq_true rfl) ?_
          rintro _ w25 ⟨rfl, bz25, hM25, hv25, hf25⟩
          change ze_V G l (ze_rm 8 0 0) M8_compare _ 108 [(0, .ref m), (1, ze_i ((a : Nat))), (2, ze_i ((b : Nat)))] [] w25 0 0
          have e28b : bz25 28 = (chn ar b P : Nat) := by rw [hf25 28 (by decide) (by decide) (by decide), hv24]
          have e32b : bz25 32 = ((chn ar a P * ct ar b ^ (2 * P) : Nat) : Int) := by rw [hf25 32 (by decide) (by decide) (by decide), hf24 32 (fun j => by omega) (by decide) (by decide) (by decide) (by decide), e32]
          have e8b : bz25 8 = bz 8 := by rw [hf25 8 (by decide) (by decide) (by decide), hf24 8 (fun j => by omega) (by decide) (by decide) (by decide) (by decide), e8]
          refine ze_aload_n dX8_compare_108 rfl ?_
          refine ze_getf dX8_compare_109 fl_X8_86 (ms_o hM25) rfl ?_
          refine ze_aload_n dX8_compare_112 rfl ?_
          refine ze_getf dX8_compare_113 fl_X8_89 (ms_o hM25) rfl ?_
          refine ze_aload_n dX8_compare_116 rfl ?_
          refine ze_getf dX8_compare_117 fl_X8_92 (ms_o hM25) rfl ?_
          refine ze_callV (As := [.ref (m + 28), .ref (m + 30)]) (rest := []) dX8_compare_120 (E7_times hM25 (o1 := 26) (o2 := 28) (o3 := 30) (K1 := 46) (K2 := 46) (by decide) (by decide) (by decide) (by decide) (by decide) (by rw [e28b]; exact fit_46 hcb (by omega)) (by rw [hv25]; exact pw_fit ta (by omega)) (by decide)) mo7_times ml_X8_136 in_7_times se_7_times (ms_bx hM25 (by decide)).choose_spec rfl rfl rfl rfl rfl ⟨Nat.le_refl _, Nat.le_refl _⟩ rfl (Nat.le_of_ble_eq_true rfl) ?_
          rintro _ w32 ⟨rfl, hM32⟩
          change ze_V G l (ze_rm 8 0 0) M8_compare _ 123 [(0, .ref m), (1, ze_i ((a : Nat))), (2, ze_i ((b : Nat)))] [] w32 0 0
          refine ze_aload_n dX8_compare_123 rfl ?_
          refine ze_getf dX8_compare_124 fl_X8_95 (ms_o hM32) rfl ?_
          refine ze_aload_n dX8_compare_127 rfl ?_
          refine ze_getf dX8_compare_128 fl_X8_86 (ms_o hM32) rfl ?_
          refine ze_callV (As := [.ref (m + 26)]) (rest := []) dX8_compare_131 (E7_compare hM32 (o1 := 32) (o2 := 26) (by decide) (by decide)) mo7_compare ml_X8_178 in_7_compare se_7_compare (ms_bx hM32 (by decide)).choose_spec rfl rfl rfl rfl rfl ⟨Nat.le_refl _, Nat.le_refl _⟩ rfl (Nat.le_of_ble_eq_true rfl) ?_
          rintro _ w' ⟨rc, rfl, hrc, rfl⟩
          rw [va_up_ne _ _ (by decide), e32b, va_up_self, e28b, hv25, ← Int.natCast_mul] at hrc
          change ze_V G l (ze_rm 8 0 0) M8_compare _ 134 [(0, .ref m), (1, ze_i ((a : Nat))), (2, ze_i ((b : Nat)))] [ze_i (rc)] w' 0 0
          rw [← hQ]
          exact ze_ireturn rfl dX8_compare_134 ⟨_, rfl, _, hM32, by rw [va_up_ne _ _ (by decide), e8b], Or.inr ⟨⟨⟨q1, q2⟩, hra, hrb⟩, hrc⟩⟩ rfl rfl
        · refine ze_bipush dX8_compare_32 (by decide) ?_
          rw [← hQ]
          exact ze_ireturn rfl dX8_compare_34 ⟨_, rfl, _, hM, rfl, Or.inl ⟨fun h => q4 (rfs_un hrb h.2.2), rfl⟩⟩ rfl rfl
theorem pt_step {a : Int} {j : Nat} : a / 10 ^ (18 * j) / 1000000000 / 1000000000 = a / 10 ^ (18 * (j + 1)) := by
  have hp : (0 : Int) < 10 ^ (18 * j) := Int.pow_pos (by decide)
  have e : (10 : Int) ^ (18 * 1) = 1000000000 * 1000000000 := by decide
  rw [Int.ediv_ediv_of_nonneg (by decide), Int.ediv_ediv_of_nonneg (Int.le_of_lt hp), Nat.mul_add, Int.pow_add, e]
theorem C8_part {G : ze_G} {l : Launch} {w0 w : ze_W} {m C P F : Nat} {ar : Nat → Nat → Int} {bz : Nat → Int} (hM : mst G w0 w m C P F ar bz) {k : Int} (r_k : -2147483648 ≤ k ∧ k < 2147483648) (h0 : 0 ≤ bz 8) : ze_C G l 2 0 0 M8_part [.ref m, ze_i k] w (ze_ql (fun r w' => ∃ bz', mst G w0 w' m C P F ar bz' ∧ (∀ o, o ≠ 24 → bz' o = bz o) ∧ ((¬ (0 ≤ k ∧ k ≤ 25) ∧ r = -1) ∨ ((0 ≤ k ∧ k ≤ 25) ∧ r = bz 8 / 10 ^ (18 * k.toNat) % 10 ^ 18)))) := by
  refine ze_enter (by decide +kernel) rfl ?_
  generalize hQ : (ze_Q G (ze_ql (fun r w' => ∃ bz', mst G w0 w' m C P F ar bz' ∧ (∀ o, o ≠ 24 → bz' o = bz o) ∧ ((¬ (0 ≤ k ∧ k ≤ 25) ∧ r = -1) ∨ ((0 ≤ k ∧ k ≤ 25) ∧ r = bz 8 / 10 ^ (18 * k.toNat) % 10 ^ 18)))) 0 0) = Z
  have loop : 0 ≤ k ∧ k ≤ 25 → ∀ (d j : Nat) (rs : Int) (bz1 : Nat → Int) (w1 : ze_W), (j : Int) + d = k + 1 → mst G w0 w1 m C P F ar bz1 → bz1 24 = bz 8 / 10 ^ (18 * j) → (0 < j → rs = bz 8 / 10 ^ (18 * (j - 1)) % 10 ^ 18) → (∀ o, o ≠ 24 → bz1 o = bz o) → ze_V G l (ze_rm 2 0 0) M8_part Z 30 [(0, .ref m), (1, ze_i (k)), (2, ze_l (rs)), (4, ze_i ((j : Nat)))] [] w1 0 0 := by
    intro hk d
    induction d with
    | zero =>
      intro j rs bz1 w1 hj hM1 ht hr hf
      have hr2 := hr (by omega)
      rw [show j - 1 = k.toNat by omega] at hr2
      rw [← hQ]
      refine ze_iload dX8_part_30 rfl ?_
      refine ze_iload_n dX8_part_32 rfl ?_
      refine ze_icmp_gt 76 dX8_part_33 (by decide) (by omega) (by omega) (fun q1 => ?_) (fun q1 => ?_)
      · refine ze_lload_n dX8_part_76 rfl ?_
        exact ze_lreturn rfl dX8_part_77 ⟨_, rfl, bz1, hM1, hf, Or.inr ⟨hk, hr2⟩⟩ rfl rfl
      · omega
    | succ d ih =>
      intro j rs bz1 w1 hj hM1 ht hr hf
      have hp : (0 : Int) < 10 ^ (18 * j) := Int.pow_pos (by decide)
      obtain ⟨x, hx⟩ : ∃ x, x = bz1 24 := ⟨_, rfl⟩
      have hx0 : 0 ≤ x := by rw [hx, ht]; exact Int.ediv_nonneg h0 (Int.le_of_lt hp)
      have hx1 : 0 ≤ x / 1000000000 := Int.ediv_nonneg hx0 (by decide)
      refine ze_iload dX8_part_30 rfl ?_
      refine ze_iload_n dX8_part_32 rfl ?_
      refine ze_icmp_gt 76 dX8_part_33 (by decide) (by omega) (by omega) (fun q1 => ?_) (fun q1 => ?_)
      · omega
      · refine ze_aload_n dX8_part_36 rfl ?_
        refine ze_getf dX8_part_37 fl_X8_83 (ms_o hM1) rfl ?_
        refine ze_ldc (z := 1000000000) dX8_part_40 ct_X8_231 (by decide) ?_
        refine ze_callV (As := [ze_i (1000000000)]) (rest := []) dX8_part_42 (E7_overSmall hM1 (o1 := 24) (by' := 1000000000) (by decide) (by rw [← hx]; exact hx0) (by decide)) mo7_overSmall ml_X8_160 in_7_overSmall se_7_overSmall (ms_bx hM1 (by decide)).choose_spec rfl rfl rfl rfl rfl ⟨Nat.le_refl _, Nat.le_refl _⟩ rfl (Nat.le_of_ble_eq_true rfl) ?_
        rintro _ w3 ⟨lo, rfl, hlo, hM3⟩
        rw [← hx] at hlo hM3
        have e24 : (va_up bz1 24 (x / 1000000000)) 24 = x / 1000000000 := va_up_self _ _ _
        have eo : ∀ o, o ≠ 24 → (va_up bz1 24 (x / 1000000000)) o = bz o := fun o g => by rw [va_up_ne _ _ g]; exact hf o g
        generalize va_up bz1 24 (x / 1000000000) = bz2 at *
        change ze_V G l (ze_rm 2 0 0) M8_part _ 45 [(0, .ref m), (1, ze_i (k)), (2, ze_l (rs)), (4, ze_i ((j : Nat)))] [ze_i (lo)] w3 0 0
        refine ze_istore (lv' := [(0, .ref m), (1, ze_i (k)), (2, ze_l (rs)), (4, ze_i ((j : Nat))), (5, ze_i (lo))]) dX8_part_45 rfl rfl ?_
        refine ze_aload_n dX8_part_47 rfl ?_
        refine ze_getf dX8_part_48 fl_X8_83 (ms_o hM3) rfl ?_
        refine ze_ldc (z := 1000000000) dX8_part_51 ct_X8_231 (by decide) ?_
        refine ze_callV (As := [ze_i (1000000000)]) (rest := []) dX8_part_53 (E7_overSmall hM3 (o1 := 24) (by' := 1000000000) (by decide) (by rw [e24]; exact hx1) (by decide)) mo7_overSmall ml_X8_160 in_7_overSmall se_7_overSmall (ms_bx hM3 (by decide)).choose_spec rfl rfl rfl rfl rfl ⟨Nat.le_refl _, Nat.le_refl _⟩ rfl (Nat.le_of_ble_eq_true rfl) ?_
        rintro _ w4 ⟨hi, rfl, hhi, hM4⟩
        rw [e24] at hhi hM4
        have hl2 : 0 ≤ lo ∧ lo < 1000000000 := by omega
        have hh2 : 0 ≤ hi ∧ hi < 1000000000 := by omega
        change ze_V G l (ze_rm 2 0 0) M8_part _ 56 [(0, .ref m), (1, ze_i (k)), (2, ze_l (rs)), (4, ze_i ((j : Nat))), (5, ze_i (lo))] [ze_i (hi)] w4 0 0
        refine ze_istore (lv' := [(0, .ref m), (1, ze_i (k)), (2, ze_l (rs)), (4, ze_i ((j : Nat))), (5, ze_i (lo)), (6, ze_i (hi))]) dX8_part_56 rfl rfl ?_
        refine ze_iload dX8_part_58 rfl ?_
        refine ze_i2l dX8_part_60 (by omega) ?_
        refine ze_ldc2 (z := 1000000000) dX8_part_61 ct_X8_232 (by decide) ?_
        refine ze_lmul dX8_part_64 ?_
        refine ze_iload dX8_part_65 rfl ?_
        refine ze_i2l dX8_part_67 (by omega) ?_
        refine ze_ladd dX8_part_68 ?_
        refine ze_lstore_n (lv' := [(0, .ref m), (1, ze_i (k)), (2, ze_l ((hi * 1000000000) + lo)), (4, ze_i ((j : Nat))), (5, ze_i (lo)), (6, ze_i (hi))]) dX8_part_69 rfl rfl ?_
        refine ze_iinc (b := ((j + 1 : Nat))) (lv' := [(0, .ref m), (1, ze_i (k)), (2, ze_l ((hi * 1000000000) + lo)), (4, ze_i (((j + 1 : Nat)))), (5, ze_i (lo)), (6, ze_i (hi))]) dX8_part_70 rfl rfl (by omega) rfl ?_
        refine ze_goto 30 dX8_part_73 (by decide) ?_
        refine ze_lv (lv' := [(0, .ref m), (1, ze_i (k)), (2, ze_l ((hi * 1000000000) + lo)), (4, ze_i (((j + 1 : Nat))))]) [0, 1, 2, 3] rfl ?_
        refine ih (j + 1) _ _ _ (by omega) hM4 ?_ (fun _ => ?_) (fun o g => by rw [va_up_ne _ _ g]; exact eo o g)
        · rw [va_up_self, hx, ht]
          exact pt_step
        · rw [Nat.add_sub_cancel, ← ht, ← hx]
          have e18 : (10 : Int) ^ 18 = 1000000000000000000 := by decide
          rw [e18]
          omega
  change ze_V G l (ze_rm 2 0 0) M8_part Z 0 [(0, .ref m), (1, ze_i (k))] [] w 0 0
  refine ze_iload_n dX8_part_0 rfl ?_
  refine ze_if_lt 10 dX8_part_1 (by decide) (by omega) (fun q1 => ?_) (fun q1 => ?_)
  · refine ze_ldc2 (z := -1) dX8_part_10 ct_X8_229 (by decide) ?_
    rw [← hQ]
    exact ze_lreturn rfl dX8_part_13 ⟨_, rfl, _, hM, fun o _ => rfl, Or.inl ⟨by omega, rfl⟩⟩ rfl rfl
  · refine ze_iload_n dX8_part_4 rfl ?_
    refine ze_bipush dX8_part_5 (by decide) ?_
    refine ze_icmp_le 14 dX8_part_7 (by decide) (by omega) (by omega) (fun q2 => ?_) (fun q2 => ?_)
    · refine ze_aload_n dX8_part_14 rfl ?_
      refine ze_getf dX8_part_15 fl_X8_83 (ms_o hM) rfl ?_
      refine ze_aload_n dX8_part_18 rfl ?_
      refine ze_getf dX8_part_19 fl_X8_36 (ms_o hM) rfl ?_
      refine ze_callV (As := [.ref (m + 8)]) (rest := []) dX8_part_22 (E7_copy hM (o1 := 24) (o2 := 8) (by decide) (by decide) (by decide) (bgz_cap (ms_b hM (o := 8) (by decide)))) mo7_copy ml_X8_143 in_7_copy se_7_copy (ms_bx hM (by decide)).choose_spec rfl rfl rfl rfl rfl ⟨Nat.le_refl _, Nat.le_refl _⟩ rfl (Nat.le_of_ble_eq_true rfl) ?_
      rintro _ w3 ⟨rfl, hM3⟩
      change ze_V G l (ze_rm 2 0 0) M8_part _ 25 [(0, .ref m), (1, ze_i (k))] [] w3 0 0
      refine ze_lconst (z := 0) dX8_part_25 (by decide) ?_
      refine ze_lstore_n (lv' := [(0, .ref m), (1, ze_i (k)), (2, ze_l (0))]) dX8_part_26 rfl rfl ?_
      refine ze_iconst dX8_part_27 ?_
      refine ze_ti (b := ((0 : Nat) : Nat)) rfl ?_
      refine ze_istore (lv' := [(0, .ref m), (1, ze_i (k)), (2, ze_l (0)), (4, ze_i (((0 : Nat) : Nat)))]) dX8_part_28 rfl rfl ?_
      exact loop (by omega) (k + 1).toNat 0 _ _ _ (by omega) hM3 (by rw [va_up_self, Nat.mul_zero, Int.pow_zero, Int.ediv_one]) (fun h => absurd h (Nat.lt_irrefl _)) (fun o h => va_up_ne _ _ h)
    · refine ze_ldc2 (z := -1) dX8_part_10 ct_X8_229 (by decide) ?_
      rw [← hQ]
      exact ze_lreturn rfl dX8_part_13 ⟨_, rfl, _, hM, fun o _ => rfl, Or.inl ⟨by omega, rfl⟩⟩ rfl rfl
