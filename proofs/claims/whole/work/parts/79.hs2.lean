/-! HiddenSteps: chances -/
theorem C6_sum {G : ze_G} {l : Launch} {w : ze_W} {X lo C P F V : Nat} {ar : Nat → Nat → Int} {cf : Nat → Option Nat} {pc : Nat → Nat} {RK : Option Nat} {c : Int} (hH : hpc G w X lo C P F ar V cf pc RK) (hG : mgd C P F ar) (hlo : X + 80 ≤ lo) (r_c : -2147483648 ≤ c ∧ c < 2147483648) : ze_C G l 5 0 0 M6_sum [.ref X, ze_i c] w (ze_qi (fun r w' => ∃ V', hpc G w' X lo C P F ar V' cf pc RK ∧ kfr w w' X lo ∧ ((¬ (0 ≤ c ∧ c < (C : Int)) ∧ r = -1 ∧ V' = V) ∨ ((0 ≤ c ∧ c < (C : Int)) ∧ rfs ar P c.toNat r ∧ r ≠ 0 ∧ V' = V) ∨ ((0 ≤ c ∧ c < (C : Int)) ∧ rfs ar P c.toNat 0 ∧ V' = chn ar c.toNat P ∧ isd (chn ar c.toNat P) r)))) := by
  refine ze_enter (by decide +kernel) rfl ?_
  change ze_V G l (ze_rm 5 0 0) M6_sum _ 0 [(0, .ref X), (1, ze_i (c))] [] w 0 0
  refine ze_aload_n dX6_sum_0 rfl ?_
  refine ze_iload_n dX6_sum_1 rfl ?_
  refine ze_callV (As := [ze_i (c)]) (rest := []) dX6_sum_2 (C6_chainNumbered (c := c) hH hG (by omega)) mo6_chainNumbered ml_X6_73 in_6_chainNumbered se_6_chainNumbered (hp_o hH) rfl rfl rfl rfl rfl ⟨Nat.le_refl _, Nat.le_refl _⟩ rfl (Nat.le_of_ble_eq_true rfl) ?_
  rintro _ w' ⟨ro, rfl, hro, rfl⟩
  by_cases qka : 0 ≤ c ∧ c < (C : Int)
  · rw [if_pos qka] at hro
    subst hro
    obtain ⟨ka, hka⟩ : ∃ n, n = (c).toNat := ⟨_, rfl⟩
    rw [← hka]
    change ze_V G l (ze_rm 5 0 0) M6_sum _ 5 [(0, .ref X), (1, ze_i (c))] [.ref (pc ka)] w' 0 0
    have lka : ka < C := by omega
    have ika : ((ka : Nat) : Int) = c := by omega
    refine ze_astore_n (lv' := [(0, .ref X), (1, ze_i (c)), (2, .ref (pc ka))]) dX6_sum_5 rfl rfl ?_
    refine ze_aload_n dX6_sum_6 rfl ?_
    refine ze_ifnonnull 12 dX6_sum_7 (by decide) ?_
    refine ze_aload_n dX6_sum_12 rfl ?_
    refine ze_aload_n dX6_sum_13 rfl ?_
    refine ze_callV (As := [.ref (pc ka)]) (rest := []) dX6_sum_14 (C6_rowRefusal (c := ka) hH hG lka) mo6_rowRefusal ml_X6_131 in_6_rowRefusal se_6_rowRefusal (hp_o hH) rfl rfl rfl rfl rfl ⟨Nat.le_refl _, Nat.le_refl _⟩ rfl (Nat.le_of_ble_eq_true rfl) ?_
    rintro _ w' ⟨rr, rfl, hrr, rfl⟩
    change ze_V G l (ze_rm 5 0 0) M6_sum _ 17 [(0, .ref X), (1, ze_i (c)), (2, .ref (pc ka))] [ze_i (rr)] w' 0 0
    refine ze_istore_n (lv' := [(0, .ref X), (1, ze_i (c)), (2, .ref (pc ka)), (3, ze_i (rr))]) dX6_sum_17 rfl rfl ?_
    refine ze_iload_n dX6_sum_18 rfl ?_
    refine ze_if_eq 24 dX6_sum_19 (by decide) (rfs_rng hrr) (fun q1 => ?_) (fun q1 => ?_)
    · obtain ⟨hR, hP0⟩ := rfs_ok hG lka hrr q1
      have hq := (hp_cs hH lka).2.2
      have hr0 : rfs ar P ka 0 := by rw [q1] at hrr; exact hrr
      refine ze_aload_n dX6_sum_24 rfl ?_
      refine ze_getf dX6_sum_25 fl_X6_38 (hp_o hH) rfl ?_
      refine ze_aload_n dX6_sum_28 rfl ?_
      refine ze_getf dX6_sum_29 fl_X6_31 (hp_o hH) rfl ?_
      refine ze_aload_n dX6_sum_32 rfl ?_
      refine ze_aload_n dX6_sum_33 rfl ?_
      refine ze_getf dX6_sum_34 fl_X6_22 (hp_o hH) rfl ?_
      refine ze_callV (As := [.ref (X + 4), .ref (pc ka), .ref (X + 2)]) (rest := []) dX6_sum_37 (C3_putChance (hp_sw hH) (hp_wh hH) (by decide) (by omega) (hp_ch hH lka) (hp_row hH) (by omega) (by omega) hR hP0) mo3_putChance ml_X6_135 in_3_putChance se_3_putChance (swp_o (hp_sw hH)).choose_spec rfl rfl rfl rfl rfl ⟨Nat.le_refl _, Nat.le_refl _⟩ rfl (Nat.le_of_ble_eq_true rfl) ?_
      rintro _ w2 ⟨rfl, s2, f2, v2⟩
      obtain ⟨p1, p2⟩ := hp_sw4 hH hlo s2 f2 v2
      change ze_V G l (ze_rm 5 0 0) M6_sum _ 40 [(0, .ref X), (1, ze_i (c)), (2, .ref (pc ka)), (3, ze_i (rr))] [] w2 0 0
      refine ze_aload_n dX6_sum_40 rfl ?_
      refine ze_getf dX6_sum_41 fl_X6_31 (hp_o p1) rfl ?_
      refine ze_callV (As := []) (rest := []) dX6_sum_44 (C5_digits (hp_wh p1)) mo5_digits ml_X6_139 in_5_digits se_5_digits (whz_o (hp_wh p1)).choose_spec rfl rfl rfl rfl rfl ⟨Nat.le_refl _, Nat.le_refl _⟩ rfl (Nat.le_of_ble_eq_true rfl) ?_
      rintro _ w' ⟨rd, rfl, hrd, rfl⟩
      change ze_V G l (ze_rm 5 0 0) M6_sum _ 47 [(0, .ref X), (1, ze_i (c)), (2, .ref (pc ka)), (3, ze_i (rr))] [ze_i (rd)] w' 0 0
      exact ze_ireturn rfl dX6_sum_47 ⟨_, rfl, _, p1, p2, Or.inr (Or.inr ⟨qka, hr0, rfl, hrd⟩)⟩ rfl rfl
    · refine ze_iload_n dX6_sum_22 rfl ?_
      exact ze_ireturn rfl dX6_sum_23 ⟨_, rfl, V, hH, kf_r, Or.inr (Or.inl ⟨qka, hrr, q1, rfl⟩)⟩ rfl rfl
  · rw [if_neg qka] at hro
    subst hro
    change ze_V G l (ze_rm 5 0 0) M6_sum _ 5 [(0, .ref X), (1, ze_i (c))] [.null] w' 0 0
    refine ze_astore_nN (lv' := [(0, .ref X), (1, ze_i (c)), (2, .null)]) dX6_sum_5 rfl rfl ?_
    refine ze_aload_nN dX6_sum_6 rfl ?_
    refine ze_ifnonnullN dX6_sum_7 ?_
    refine ze_iconst dX6_sum_10 ?_
    exact ze_ireturn rfl dX6_sum_11 ⟨_, rfl, V, hH, kf_r, Or.inl ⟨qka, rfl, rfl⟩⟩ rfl rfl
theorem C6_odds {G : ze_G} {l : Launch} {w : ze_W} {X lo C P F V : Nat} {ar : Nat → Nat → Int} {cf : Nat → Option Nat} {pc : Nat → Nat} {RK : Option Nat} {c i s h : Int} (hH : hpc G w X lo C P F ar V cf pc RK) (hG : mgd C P F ar) (hlo : X + 80 ≤ lo) (r_c : -2147483648 ≤ c ∧ c < 2147483648) (r_i : -2147483648 ≤ i ∧ i < 2147483648) (r_s : -2147483648 ≤ s ∧ s < 2147483648) (r_h : -2147483648 ≤ h ∧ h < 2147483648) : ze_C G l 5 0 0 M6_odds [.ref X, ze_i c, ze_i i, ze_i s, ze_i h] w (ze_qi (fun r w' => ∃ V', hpc G w' X lo C P F ar V' cf pc RK ∧ kfr w w' X lo ∧ ((¬ ((0 ≤ c ∧ c < (C : Int)) ∧ (0 ≤ i ∧ i < (P : Int)) ∧ (0 ≤ s ∧ s < ar 1 c.toNat) ∧ (0 ≤ h ∧ h ≤ 2)) ∧ r = -1 ∧ V' = V) ∨ (((0 ≤ c ∧ c < (C : Int)) ∧ (0 ≤ i ∧ i < (P : Int)) ∧ (0 ≤ s ∧ s < ar 1 c.toNat) ∧ (0 ≤ h ∧ h ≤ 2)) ∧ rfs ar P c.toNat r ∧ r ≠ 0 ∧ V' = V) ∨ (((0 ≤ c ∧ c < (C : Int)) ∧ (0 ≤ i ∧ i < (P : Int)) ∧ (0 ≤ s ∧ s < ar 1 c.toNat) ∧ (0 ≤ h ∧ h ≤ 2)) ∧ rfs ar P c.toNat 0 ∧ V' = odv ar c.toNat P i.toNat s.toNat h ∧ isd (odv ar c.toNat P i.toNat s.toNat h) r)))) := by
  have hP := hG.1.2.1
  refine ze_enter (by decide +kernel) rfl ?_
  change ze_V G l (ze_rm 5 0 0) M6_odds _ 0 [(0, .ref X), (1, ze_i (c)), (2, ze_i (i)), (3, ze_i (s)), (4, ze_i (h))] [] w 0 0
  refine ze_aload_n dX6_odds_0 rfl ?_
  refine ze_iload_n dX6_odds_1 rfl ?_
  refine ze_callV (As := [ze_i (c)]) (rest := []) dX6_odds_2 (C6_chainNumbered (c := c) hH hG (by omega)) mo6_chainNumbered ml_X6_73 in_6_chainNumbered se_6_chainNumbered (hp_o hH) rfl rfl rfl rfl rfl ⟨Nat.le_refl _, Nat.le_refl _⟩ rfl (Nat.le_of_ble_eq_true rfl) ?_
  rintro _ w' ⟨ro, rfl, hro, rfl⟩
  by_cases qka : 0 ≤ c ∧ c < (C : Int)
  · rw [if_pos qka] at hro
    subst hro
    obtain ⟨ka, hka⟩ : ∃ n, n = (c).toNat := ⟨_, rfl⟩
    rw [← hka]
    change ze_V G l (ze_rm 5 0 0) M6_odds _ 5 [(0, .ref X), (1, ze_i (c)), (2, ze_i (i)), (3, ze_i (s)), (4, ze_i (h))] [.ref (pc ka)] w' 0 0
    have lka : ka < C := by omega
    have ika : ((ka : Nat) : Int) = c := by omega
    obtain ⟨en, n1, n8⟩ := mch_n (hp_ch hH lka).1
    refine ze_astore (lv' := [(0, .ref X), (1, ze_i (c)), (2, ze_i (i)), (3, ze_i (s)), (4, ze_i (h)), (5, .ref (pc ka))]) dX6_odds_5 rfl rfl ?_
    refine ze_aload dX6_odds_7 rfl ?_
    refine ze_ifnull dX6_odds_9 ?_
    refine ze_aload_n dX6_odds_12 rfl ?_
    refine ze_getf dX6_odds_13 fl_X6_22 (hp_o hH) rfl ?_
    refine ze_iload_n dX6_odds_16 rfl ?_
    refine ze_callV (As := [ze_i (i)]) (rest := []) dX6_odds_17 (C2_hasPlace (i := i) (hp_row hH) (by omega)) mo2_hasPlace ml_X6_124 in_2_hasPlace se_2_hasPlace (hp_row hH).2.1 rfl rfl rfl rfl rfl ⟨Nat.le_refl _, Nat.le_refl _⟩ rfl (Nat.le_of_ble_eq_true rfl) ?_
    rintro _ w' ⟨r1, rfl, rfl, rfl⟩
    change ze_V G l (ze_rm 5 0 0) M6_odds _ 20 [(0, .ref X), (1, ze_i (c)), (2, ze_i (i)), (3, ze_i (s)), (4, ze_i (h)), (5, .ref (pc ka))] [ze_i (bi (0 ≤ i ∧ i < (P : Int)))] w' 0 0
    refine ze_if_eq 42 dX6_odds_20 (by decide) (bi_rng _) (fun q2 => ?_) (fun q2 => ?_)
    · rw [bi_z] at q2
      refine ze_iconst dX6_odds_42 ?_
      exact ze_ireturn rfl dX6_odds_43 ⟨_, rfl, V, hH, kf_r, Or.inl ⟨by omega, rfl, rfl⟩⟩ rfl rfl
    · rw [bi_n] at q2
      refine ze_aload dX6_odds_23 rfl ?_
      refine ze_iload_n dX6_odds_25 rfl ?_
      refine ze_callV (As := [ze_i (s)]) (rest := []) dX6_odds_26 (C0_hasState (hp_ch hH lka) (by omega)) mo0_hasState ml_X6_77 in_0_hasState se_0_hasState (hp_ch hH lka).2.1 rfl rfl rfl rfl rfl ⟨Nat.le_refl _, Nat.le_refl _⟩ rfl (Nat.le_of_ble_eq_true rfl) ?_
      rintro _ w' ⟨r3, rfl, rfl, rfl⟩
      change ze_V G l (ze_rm 5 0 0) M6_odds _ 29 [(0, .ref X), (1, ze_i (c)), (2, ze_i (i)), (3, ze_i (s)), (4, ze_i (h)), (5, .ref (pc ka))] [ze_i (bi (0 ≤ s ∧ s < ((cn ar ka : Nat) : Int)))] w' 0 0
      refine ze_if_eq 42 dX6_odds_29 (by decide) (bi_rng _) (fun q4 => ?_) (fun q4 => ?_)
      · rw [bi_z] at q4
        refine ze_iconst dX6_odds_42 ?_
        exact ze_ireturn rfl dX6_odds_43 ⟨_, rfl, V, hH, kf_r, Or.inl ⟨by omega, rfl, rfl⟩⟩ rfl rfl
      · rw [bi_n] at q4
        refine ze_iload dX6_odds_32 rfl ?_
        refine ze_iconst dX6_odds_34 ?_
        refine ze_iconst dX6_odds_35 ?_
        refine ze_callS (As := [ze_i (h), ze_i (0), ze_i (2)]) (rest := []) dX6_odds_36 (C6_isWithin (v := h) (a := 0) (b := 2) (by omega) (by omega) (by omega)) mo6_isWithin ml_X6_66 st_6_isWithin rfl rfl rfl ⟨Nat.le_refl _, Nat.le_refl _⟩ rfl (Nat.le_of_ble_eq_true rfl) ?_
        rintro _ w' ⟨r5, rfl, rfl, rfl⟩
        change ze_V G l (ze_rm 5 0 0) M6_odds _ 39 [(0, .ref X), (1, ze_i (c)), (2, ze_i (i)), (3, ze_i (s)), (4, ze_i (h)), (5, .ref (pc ka))] [ze_i (bi (0 ≤ h ∧ h ≤ 2))] w' 0 0
        refine ze_if_ne 44 dX6_odds_39 (by decide) (bi_rng _) (fun q6 => ?_) (fun q6 => ?_)
        · rw [bi_n] at q6
          refine ze_aload_n dX6_odds_44 rfl ?_
          refine ze_aload dX6_odds_45 rfl ?_
          refine ze_callV (As := [.ref (pc ka)]) (rest := []) dX6_odds_47 (C6_rowRefusal (c := ka) hH hG lka) mo6_rowRefusal ml_X6_131 in_6_rowRefusal se_6_rowRefusal (hp_o hH) rfl rfl rfl rfl rfl ⟨Nat.le_refl _, Nat.le_refl _⟩ rfl (Nat.le_of_ble_eq_true rfl) ?_
          rintro _ w' ⟨rr, rfl, hrr, rfl⟩
          change ze_V G l (ze_rm 5 0 0) M6_odds _ 50 [(0, .ref X), (1, ze_i (c)), (2, ze_i (i)), (3, ze_i (s)), (4, ze_i (h)), (5, .ref (pc ka))] [ze_i (rr)] w' 0 0
          refine ze_istore (lv' := [(0, .ref X), (1, ze_i (c)), (2, ze_i (i)), (3, ze_i (s)), (4, ze_i (h)), (5, .ref (pc ka)), (6, ze_i (rr))]) dX6_odds_50 rfl rfl ?_
          refine ze_iload dX6_odds_52 rfl ?_
          refine ze_if_eq 60 dX6_odds_54 (by decide) (rfs_rng hrr) (fun q7 => ?_) (fun q7 => ?_)
          · obtain ⟨hR, hP0⟩ := rfs_ok hG lka hrr q7
            have hq := (hp_cs hH lka).2.2
            have hr0 : rfs ar P ka 0 := by rw [q7] at hrr; exact hrr
            refine ze_iload dX6_odds_60 rfl ?_
            refine ze_if_ne 87 dX6_odds_62 (by decide) (by omega) (fun q8 => ?_) (fun q8 => ?_)
            · refine ze_iload dX6_odds_87 rfl ?_
              refine ze_iconst dX6_odds_89 ?_
              refine ze_icmp_ne 115 dX6_odds_90 (by decide) (by omega) (by omega) (fun q9 => ?_) (fun q9 => ?_)
              · refine ze_aload_n dX6_odds_115 rfl ?_
                refine ze_getf dX6_odds_116 fl_X6_38 (hp_o hH) rfl ?_
                refine ze_aload_n dX6_odds_119 rfl ?_
                refine ze_getf dX6_odds_120 fl_X6_31 (hp_o hH) rfl ?_
                refine ze_aload dX6_odds_123 rfl ?_
                refine ze_aload_n dX6_odds_125 rfl ?_
                refine ze_getf dX6_odds_126 fl_X6_22 (hp_o hH) rfl ?_
                refine ze_iload_n dX6_odds_129 rfl ?_
                refine ze_iload_n dX6_odds_130 rfl ?_
                obtain ⟨im, rfl⟩ := Int.eq_ofNat_of_zero_le (show 0 ≤ i from (by omega))
                change ze_V G l (ze_rm 5 0 0) M6_odds _ 131 [(0, .ref X), (1, ze_i (c)), (2, ze_i ((im : Nat))), (3, ze_i (s)), (4, ze_i (h)), (5, .ref (pc ka)), (6, ze_i (rr))] [ze_i (s), ze_i ((im : Nat)), .ref (X + 2), .ref (pc ka), .ref (X + 4), .ref (X + 6)] w' 0 0
                obtain ⟨sm_, rfl⟩ := Int.eq_ofNat_of_zero_le (show 0 ≤ s from (by omega))
                change ze_V G l (ze_rm 5 0 0) M6_odds _ 131 [(0, .ref X), (1, ze_i (c)), (2, ze_i ((im : Nat))), (3, ze_i ((sm_ : Nat))), (4, ze_i (h)), (5, .ref (pc ka)), (6, ze_i (rr))] [ze_i ((sm_ : Nat)), ze_i ((im : Nat)), .ref (X + 2), .ref (pc ka), .ref (X + 4), .ref (X + 6)] w' 0 0
                refine ze_callV (As := [.ref (X + 4), .ref (pc ka), .ref (X + 2), ze_i ((im : Nat)), ze_i ((sm_ : Nat))]) (rest := []) dX6_odds_131 (C3_putBoth (i := im) (s := sm_) (hp_sw hH) (hp_wh hH) (by decide) (by omega) (hp_ch hH lka) (hp_row hH) (by omega) (by omega) hR (by omega) (by omega)) mo3_putBoth ml_X6_149 in_3_putBoth se_3_putBoth (swp_o (hp_sw hH)).choose_spec rfl rfl rfl rfl rfl ⟨Nat.le_refl _, Nat.le_refl _⟩ rfl (Nat.le_of_ble_eq_true rfl) ?_
                rintro _ w2 ⟨rfl, s2, f2, v2⟩
                obtain ⟨p1, p2⟩ := hp_sw4 hH hlo s2 f2 v2
                change ze_V G l (ze_rm 5 0 0) M6_odds _ 134 [(0, .ref X), (1, ze_i (c)), (2, ze_i ((im : Nat))), (3, ze_i ((sm_ : Nat))), (4, ze_i (h)), (5, .ref (pc ka)), (6, ze_i (rr))] [] w2 0 0
                refine ze_aload_n dX6_odds_134 rfl ?_
                refine ze_getf dX6_odds_135 fl_X6_31 (hp_o p1) rfl ?_
                refine ze_callV (As := []) (rest := []) dX6_odds_138 (C5_digits (hp_wh p1)) mo5_digits ml_X6_139 in_5_digits se_5_digits (whz_o (hp_wh p1)).choose_spec rfl rfl rfl rfl rfl ⟨Nat.le_refl _, Nat.le_refl _⟩ rfl (Nat.le_of_ble_eq_true rfl) ?_
                rintro _ w' ⟨rd, rfl, hrd, rfl⟩
                change ze_V G l (ze_rm 5 0 0) M6_odds _ 141 [(0, .ref X), (1, ze_i (c)), (2, ze_i ((im : Nat))), (3, ze_i ((sm_ : Nat))), (4, ze_i (h)), (5, .ref (pc ka)), (6, ze_i (rr))] [ze_i (rd)] w' 0 0
                exact ze_ireturn rfl dX6_odds_141 ⟨_, rfl, _, p1, p2, Or.inr (Or.inr ⟨by omega, hr0, by rw [Int.toNat_natCast, Int.toNat_natCast]; unfold odv; rw [if_neg (by omega), if_neg (by omega)], by rw [Int.toNat_natCast, Int.toNat_natCast]; unfold odv; rw [if_neg (by omega), if_neg (by omega)]; exact hrd⟩)⟩ rfl rfl
              · refine ze_aload_n dX6_odds_93 rfl ?_
                refine ze_getf dX6_odds_94 fl_X6_38 (hp_o hH) rfl ?_
                refine ze_aload_n dX6_odds_97 rfl ?_
                refine ze_getf dX6_odds_98 fl_X6_31 (hp_o hH) rfl ?_
                refine ze_aload dX6_odds_101 rfl ?_
                refine ze_aload_n dX6_odds_103 rfl ?_
                refine ze_getf dX6_odds_104 fl_X6_22 (hp_o hH) rfl ?_
                refine ze_iload_n dX6_odds_107 rfl ?_
                refine ze_iload_n dX6_odds_108 rfl ?_
                obtain ⟨im, rfl⟩ := Int.eq_ofNat_of_zero_le (show 0 ≤ i from (by omega))
                change ze_V G l (ze_rm 5 0 0) M6_odds _ 109 [(0, .ref X), (1, ze_i (c)), (2, ze_i ((im : Nat))), (3, ze_i (s)), (4, ze_i (h)), (5, .ref (pc ka)), (6, ze_i (rr))] [ze_i (s), ze_i ((im : Nat)), .ref (X + 2), .ref (pc ka), .ref (X + 4), .ref (X + 6)] w' 0 0
                obtain ⟨sm_, rfl⟩ := Int.eq_ofNat_of_zero_le (show 0 ≤ s from (by omega))
                change ze_V G l (ze_rm 5 0 0) M6_odds _ 109 [(0, .ref X), (1, ze_i (c)), (2, ze_i ((im : Nat))), (3, ze_i ((sm_ : Nat))), (4, ze_i (h)), (5, .ref (pc ka)), (6, ze_i (rr))] [ze_i ((sm_ : Nat)), ze_i ((im : Nat)), .ref (X + 2), .ref (pc ka), .ref (X + 4), .ref (X + 6)] w' 0 0
                refine ze_callV (As := [.ref (X + 4), .ref (pc ka), .ref (X + 2), ze_i ((im : Nat)), ze_i ((sm_ : Nat))]) (rest := []) dX6_odds_109 (C3_putBehind (i := im) (s := sm_) (hp_sw hH) (hp_wh hH) (by decide) (by omega) (hp_ch hH lka) (hp_row hH) (by omega) (by omega) hR (by omega) (by omega)) mo3_putBehind ml_X6_146 in_3_putBehind se_3_putBehind (swp_o (hp_sw hH)).choose_spec rfl rfl rfl rfl rfl ⟨Nat.le_refl _, Nat.le_refl _⟩ rfl (Nat.le_of_ble_eq_true rfl) ?_
                rintro _ w2 ⟨rfl, s2, f2, v2⟩
                obtain ⟨p1, p2⟩ := hp_sw4 hH hlo s2 f2 v2
                change ze_V G l (ze_rm 5 0 0) M6_odds _ 112 [(0, .ref X), (1, ze_i (c)), (2, ze_i ((im : Nat))), (3, ze_i ((sm_ : Nat))), (4, ze_i (h)), (5, .ref (pc ka)), (6, ze_i (rr))] [] w2 0 0
                refine ze_goto 134 dX6_odds_112 (by decide) ?_
                refine ze_aload_n dX6_odds_134 rfl ?_
                refine ze_getf dX6_odds_135 fl_X6_31 (hp_o p1) rfl ?_
                refine ze_callV (As := []) (rest := []) dX6_odds_138 (C5_digits (hp_wh p1)) mo5_digits ml_X6_139 in_5_digits se_5_digits (whz_o (hp_wh p1)).choose_spec rfl rfl rfl rfl rfl ⟨Nat.le_refl _, Nat.le_refl _⟩ rfl (Nat.le_of_ble_eq_true rfl) ?_
                rintro _ w' ⟨rd, rfl, hrd, rfl⟩
                change ze_V G l (ze_rm 5 0 0) M6_odds _ 141 [(0, .ref X), (1, ze_i (c)), (2, ze_i ((im : Nat))), (3, ze_i ((sm_ : Nat))), (4, ze_i (h)), (5, .ref (pc ka)), (6, ze_i (rr))] [ze_i (rd)] w' 0 0
                exact ze_ireturn rfl dX6_odds_141 ⟨_, rfl, _, p1, p2, Or.inr (Or.inr ⟨by omega, hr0, by rw [Int.toNat_natCast, Int.toNat_natCast]; unfold odv; rw [if_neg (by omega), if_pos (by omega)], by rw [Int.toNat_natCast, Int.toNat_natCast]; unfold odv; rw [if_neg (by omega), if_pos (by omega)]; exact hrd⟩)⟩ rfl rfl
            · refine ze_aload_n dX6_odds_65 rfl ?_
              refine ze_getf dX6_odds_66 fl_X6_38 (hp_o hH) rfl ?_
              refine ze_aload_n dX6_odds_69 rfl ?_
              refine ze_getf dX6_odds_70 fl_X6_31 (hp_o hH) rfl ?_
              refine ze_aload dX6_odds_73 rfl ?_
              refine ze_aload_n dX6_odds_75 rfl ?_
              refine ze_getf dX6_odds_76 fl_X6_22 (hp_o hH) rfl ?_
              refine ze_iload_n dX6_odds_79 rfl ?_
              refine ze_iload_n dX6_odds_80 rfl ?_
              obtain ⟨im, rfl⟩ := Int.eq_ofNat_of_zero_le (show 0 ≤ i from (by omega))
              change ze_V G l (ze_rm 5 0 0) M6_odds _ 81 [(0, .ref X), (1, ze_i (c)), (2, ze_i ((im : Nat))), (3, ze_i (s)), (4, ze_i (h)), (5, .ref (pc ka)), (6, ze_i (rr))] [ze_i (s), ze_i ((im : Nat)), .ref (X + 2), .ref (pc ka), .ref (X + 4), .ref (X + 6)] w' 0 0
              obtain ⟨sm_, rfl⟩ := Int.eq_ofNat_of_zero_le (show 0 ≤ s from (by omega))
              change ze_V G l (ze_rm 5 0 0) M6_odds _ 81 [(0, .ref X), (1, ze_i (c)), (2, ze_i ((im : Nat))), (3, ze_i ((sm_ : Nat))), (4, ze_i (h)), (5, .ref (pc ka)), (6, ze_i (rr))] [ze_i ((sm_ : Nat)), ze_i ((im : Nat)), .ref (X + 2), .ref (pc ka), .ref (X + 4), .ref (X + 6)] w' 0 0
              refine ze_callV (As := [.ref (X + 4), .ref (pc ka), .ref (X + 2), ze_i ((im : Nat)), ze_i ((sm_ : Nat))]) (rest := []) dX6_odds_81 (C3_putAhead (i := im) (s := sm_) (hp_sw hH) (hp_wh hH) (by decide) (by omega) (hp_ch hH lka) (hp_row hH) (by omega) (by omega) hR (by omega) (by omega)) mo3_putAhead ml_X6_142 in_3_putAhead se_3_putAhead (swp_o (hp_sw hH)).choose_spec rfl rfl rfl rfl rfl ⟨Nat.le_refl _, Nat.le_refl _⟩ rfl (Nat.le_of_ble_eq_true rfl) ?_
              rintro _ w2 ⟨rfl, s2, f2, v2⟩
              obtain ⟨p1, p2⟩ := hp_sw4 hH hlo s2 f2 v2
              change ze_V G l (ze_rm 5 0 0) M6_odds _ 84 [(0, .ref X), (1, ze_i (c)), (2, ze_i ((im : Nat))), (3, ze_i ((sm_ : Nat))), (4, ze_i (h)), (5, .ref (pc ka)), (6, ze_i (rr))] [] w2 0 0
              refine ze_goto 134 dX6_odds_84 (by decide) ?_
              refine ze_aload_n dX6_odds_134 rfl ?_
              refine ze_getf dX6_odds_135 fl_X6_31 (hp_o p1) rfl ?_
              refine ze_callV (As := []) (rest := []) dX6_odds_138 (C5_digits (hp_wh p1)) mo5_digits ml_X6_139 in_5_digits se_5_digits (whz_o (hp_wh p1)).choose_spec rfl rfl rfl rfl rfl ⟨Nat.le_refl _, Nat.le_refl _⟩ rfl (Nat.le_of_ble_eq_true rfl) ?_
              rintro _ w' ⟨rd, rfl, hrd, rfl⟩
              change ze_V G l (ze_rm 5 0 0) M6_odds _ 141 [(0, .ref X), (1, ze_i (c)), (2, ze_i ((im : Nat))), (3, ze_i ((sm_ : Nat))), (4, ze_i (h)), (5, .ref (pc ka)), (6, ze_i (rr))] [ze_i (rd)] w' 0 0
              exact ze_ireturn rfl dX6_odds_141 ⟨_, rfl, _, p1, p2, Or.inr (Or.inr ⟨by omega, hr0, by rw [Int.toNat_natCast, Int.toNat_natCast]; unfold odv; rw [if_pos (by omega)], by rw [Int.toNat_natCast, Int.toNat_natCast]; unfold odv; rw [if_pos (by omega)]; exact hrd⟩)⟩ rfl rfl
          · refine ze_iload dX6_odds_57 rfl ?_
            exact ze_ireturn rfl dX6_odds_59 ⟨_, rfl, V, hH, kf_r, Or.inr (Or.inl ⟨by omega, hrr, q7, rfl⟩)⟩ rfl rfl
        · rw [bi_z] at q6
          refine ze_iconst dX6_odds_42 ?_
          exact ze_ireturn rfl dX6_odds_43 ⟨_, rfl, V, hH, kf_r, Or.inl ⟨by omega, rfl, rfl⟩⟩ rfl rfl
  · rw [if_neg qka] at hro
    subst hro
    change ze_V G l (ze_rm 5 0 0) M6_odds _ 5 [(0, .ref X), (1, ze_i (c)), (2, ze_i (i)), (3, ze_i (s)), (4, ze_i (h))] [.null] w' 0 0
    refine ze_astoreN (lv' := [(0, .ref X), (1, ze_i (c)), (2, ze_i (i)), (3, ze_i (s)), (4, ze_i (h)), (5, .null)]) dX6_odds_5 rfl rfl ?_
    refine ze_aloadN dX6_odds_7 rfl ?_
    refine ze_ifnullN 42 dX6_odds_9 (by decide) ?_
    refine ze_iconst dX6_odds_42 ?_
    exact ze_ireturn rfl dX6_odds_43 ⟨_, rfl, V, hH, kf_r, Or.inl ⟨by omega, rfl, rfl⟩⟩ rfl rfl
theorem C6_moment {G : ze_G} {l : Launch} {w : ze_W} {X lo C P F V : Nat} {ar : Nat → Nat → Int} {cf : Nat → Option Nat} {pc : Nat → Nat} {RK : Option Nat} {c i : Int} (hH : hpc G w X lo C P F ar V cf pc RK) (hG : mgd C P F ar) (hlo : X + 80 ≤ lo) (r_c : -2147483648 ≤ c ∧ c < 2147483648) (r_i : -2147483648 ≤ i ∧ i < 2147483648) : ze_C G l 5 0 0 M6_moment [.ref X, ze_i c, ze_i i] w (ze_qi (fun r w' => hpc G w' X lo C P F ar V cf pc RK ∧ kfr w w' X lo ∧ ((¬ ((0 ≤ c ∧ c < (C : Int)) ∧ (0 ≤ i ∧ i < (P : Int))) ∧ r = -1) ∨ (((0 ≤ c ∧ c < (C : Int)) ∧ (0 ≤ i ∧ i < (P : Int))) ∧ rfs ar P c.toNat r ∧ r ≠ 0) ∨ (((0 ≤ c ∧ c < (C : Int)) ∧ (0 ≤ i ∧ i < (P : Int))) ∧ rfs ar P c.toNat 0 ∧ r = mov ar c.toNat P i.toNat)))) := by
  have hP := hG.1.2.1
  refine ze_enter (by decide +kernel) rfl ?_
  change ze_V G l (ze_rm 5 0 0) M6_moment _ 0 [(0, .ref X), (1, ze_i (c)), (2, ze_i (i))] [] w 0 0
  refine ze_aload_n dX6_moment_0 rfl ?_
  refine ze_iload_n dX6_moment_1 rfl ?_
  refine ze_callV (As := [ze_i (c)]) (rest := []) dX6_moment_2 (C6_chainNumbered (c := c) hH hG (by omega)) mo6_chainNumbered ml_X6_73 in_6_chainNumbered se_6_chainNumbered (hp_o hH) rfl rfl rfl rfl rfl ⟨Nat.le_refl _, Nat.le_refl _⟩ rfl (Nat.le_of_ble_eq_true rfl) ?_
  rintro _ w' ⟨ro, rfl, hro, rfl⟩
  by_cases qka : 0 ≤ c ∧ c < (C : Int)
  · rw [if_pos qka] at hro
    subst hro
    obtain ⟨ka, hka⟩ : ∃ n, n = (c).toNat := ⟨_, rfl⟩
    rw [← hka]
    change ze_V G l (ze_rm 5 0 0) M6_moment _ 5 [(0, .ref X), (1, ze_i (c)), (2, ze_i (i))] [.ref (pc ka)] w' 0 0
    have lka : ka < C := by omega
    have ika : ((ka : Nat) : Int) = c := by omega
    obtain ⟨en, n1, n8⟩ := mch_n (hp_ch hH lka).1
    refine ze_astore_n (lv' := [(0, .ref X), (1, ze_i (c)), (2, ze_i (i)), (3, .ref (pc ka))]) dX6_moment_5 rfl rfl ?_
    refine ze_aload_n dX6_moment_6 rfl ?_
    refine ze_ifnull dX6_moment_7 ?_
    refine ze_aload_n dX6_moment_10 rfl ?_
    refine ze_getf dX6_moment_11 fl_X6_22 (hp_o hH) rfl ?_
    refine ze_iload_n dX6_moment_14 rfl ?_
    refine ze_callV (As := [ze_i (i)]) (rest := []) dX6_moment_15 (C2_hasPlace (i := i) (hp_row hH) (by omega)) mo2_hasPlace ml_X6_124 in_2_hasPlace se_2_hasPlace (hp_row hH).2.1 rfl rfl rfl rfl rfl ⟨Nat.le_refl _, Nat.le_refl _⟩ rfl (Nat.le_of_ble_eq_true rfl) ?_
    rintro _ w' ⟨r1, rfl, rfl, rfl⟩
    change ze_V G l (ze_rm 5 0 0) M6_moment _ 18 [(0, .ref X), (1, ze_i (c)), (2, ze_i (i)), (3, .ref (pc ka))] [ze_i (bi (0 ≤ i ∧ i < (P : Int)))] w' 0 0
    refine ze_if_ne 23 dX6_moment_18 (by decide) (bi_rng _) (fun q2 => ?_) (fun q2 => ?_)
    · rw [bi_n] at q2
      refine ze_aload_n dX6_moment_23 rfl ?_
      refine ze_aload_n dX6_moment_24 rfl ?_
      refine ze_callV (As := [.ref (pc ka)]) (rest := []) dX6_moment_25 (C6_rowRefusal (c := ka) hH hG lka) mo6_rowRefusal ml_X6_131 in_6_rowRefusal se_6_rowRefusal (hp_o hH) rfl rfl rfl rfl rfl ⟨Nat.le_refl _, Nat.le_refl _⟩ rfl (Nat.le_of_ble_eq_true rfl) ?_
      rintro _ w' ⟨rr, rfl, hrr, rfl⟩
      change ze_V G l (ze_rm 5 0 0) M6_moment _ 28 [(0, .ref X), (1, ze_i (c)), (2, ze_i (i)), (3, .ref (pc ka))] [ze_i (rr)] w' 0 0
      refine ze_istore (lv' := [(0, .ref X), (1, ze_i (c)), (2, ze_i (i)), (3, .ref (pc ka)), (4, ze_i (rr))]) dX6_moment_28 rfl rfl ?_
      refine ze_iload dX6_moment_30 rfl ?_
      refine ze_if_eq 38 dX6_moment_32 (by decide) (rfs_rng hrr) (fun q3 => ?_) (fun q3 => ?_)
      · obtain ⟨hR, hP0⟩ := rfs_ok hG lka hrr q3
        have hq := (hp_cs hH lka).2.2
        have hr0 : rfs ar P ka 0 := by rw [q3] at hrr; exact hrr
        refine ze_aload_n dX6_moment_38 rfl ?_
        refine ze_getf dX6_moment_39 fl_X6_38 (hp_o hH) rfl ?_
        refine ze_aload_n dX6_moment_42 rfl ?_
        refine ze_aload_n dX6_moment_43 rfl ?_
        refine ze_getf dX6_moment_44 fl_X6_22 (hp_o hH) rfl ?_
        refine ze_iload_n dX6_moment_47 rfl ?_
        obtain ⟨im, rfl⟩ := Int.eq_ofNat_of_zero_le (show 0 ≤ i from (by omega))
        change ze_V G l (ze_rm 5 0 0) M6_moment _ 48 [(0, .ref X), (1, ze_i (c)), (2, ze_i ((im : Nat))), (3, .ref (pc ka)), (4, ze_i (rr))] [ze_i ((im : Nat)), .ref (X + 2), .ref (pc ka), .ref (X + 6)] w' 0 0
        refine ze_callV (As := [.ref (pc ka), .ref (X + 2), ze_i ((im : Nat))]) (rest := []) dX6_moment_48 (C3_likeliestState (i := im) (hp_sw hH) (hp_ch hH lka) (hp_row hH) (by omega) (by omega) hR (by omega)) mo3_likeliestState ml_X6_152 in_3_likeliestState se_3_likeliestState (swp_o (hp_sw hH)).choose_spec rfl rfl rfl rfl rfl ⟨Nat.le_refl _, Nat.le_refl _⟩ rfl (Nat.le_of_ble_eq_true rfl) ?_
        rintro _ w2 ⟨rl, rfl, hrl, s2, z2, f2⟩
        obtain ⟨p1, p2⟩ := hp_sw0 hH hlo s2 z2 f2
        change ze_V G l (ze_rm 5 0 0) M6_moment _ 51 [(0, .ref X), (1, ze_i (c)), (2, ze_i ((im : Nat))), (3, .ref (pc ka)), (4, ze_i (rr))] [ze_i (rl)] w2 0 0
        have hmv : mov ar ka P im = if rl < 0 then -5 else rl := by
          rw [hrl]
          unfold mov bst
          split
          · rfl
          · rw [if_neg (by omega)]
        have hrb := bst_rng (f := fun s => fk ar ka im s * bk ar ka P (P - 1 - im) s) n8
        rw [← hrl] at hrb
        refine ze_istore (lv' := [(0, .ref X), (1, ze_i (c)), (2, ze_i ((im : Nat))), (3, .ref (pc ka)), (4, ze_i (rr)), (5, ze_i (rl))]) dX6_moment_51 rfl rfl ?_
        refine ze_iload dX6_moment_53 rfl ?_
        refine ze_if_ge 63 dX6_moment_55 (by decide) (by omega) (fun q4 => ?_) (fun q4 => ?_)
        · refine ze_iload dX6_moment_63 rfl ?_
          exact ze_ireturn rfl dX6_moment_65 ⟨_, rfl, p1, p2, Or.inr (Or.inr ⟨by omega, hr0, by rw [Int.toNat_natCast, hmv]; rw [if_neg (by omega)]⟩)⟩ rfl rfl
        · refine ze_bipush dX6_moment_58 (by decide) ?_
          refine ze_goto 65 dX6_moment_60 (by decide) ?_
          exact ze_ireturn rfl dX6_moment_65 ⟨_, rfl, p1, p2, Or.inr (Or.inr ⟨by omega, hr0, by rw [Int.toNat_natCast, hmv]; rw [if_pos (by omega)]⟩)⟩ rfl rfl
      · refine ze_iload dX6_moment_35 rfl ?_
        exact ze_ireturn rfl dX6_moment_37 ⟨_, rfl, hH, kf_r, Or.inr (Or.inl ⟨by omega, hrr, q3⟩)⟩ rfl rfl
    · rw [bi_z] at q2
      refine ze_iconst dX6_moment_21 ?_
      exact ze_ireturn rfl dX6_moment_22 ⟨_, rfl, hH, kf_r, Or.inl ⟨by omega, rfl⟩⟩ rfl rfl
  · rw [if_neg qka] at hro
    subst hro
    change ze_V G l (ze_rm 5 0 0) M6_moment _ 5 [(0, .ref X), (1, ze_i (c)), (2, ze_i (i))] [.null] w' 0 0
    refine ze_astore_nN (lv' := [(0, .ref X), (1, ze_i (c)), (2, ze_i (i)), (3, .null)]) dX6_moment_5 rfl rfl ?_
    refine ze_aload_nN dX6_moment_6 rfl ?_
    refine ze_ifnullN 21 dX6_moment_7 (by decide) ?_
    refine ze_iconst dX6_moment_21 ?_
    exact ze_ireturn rfl dX6_moment_22 ⟨_, rfl, hH, kf_r, Or.inl ⟨by omega, rfl⟩⟩ rfl rfl
theorem cr_lt {a T P i : Nat} (ha : a ≤ 1000000 ^ P) (hT : T ≤ 1000) (hP : P ≤ 60) (hi : i < P) : a * (T * T) ^ i < 1000000000 ^ (84 - 1) := by
  refine Nat.lt_of_le_of_lt (Nat.mul_le_mul ha (Nat.pow_le_pow_left (Nat.mul_le_mul hT hT) i)) ?_
  rw [show 1000 * 1000 = 1000000 from rfl, ← Nat.pow_add]
  exact Nat.lt_of_le_of_lt (Nat.pow_le_pow_right (by decide) (show P + i ≤ 120 by omega)) (by decide +kernel)
theorem kf_t {w w' w'' : ze_W} {X lo : Nat} (h1 : kfr w w' X lo) (h2 : kfr w' w'' X lo) : kfr w w'' X lo := ⟨Nat.le_trans h1.1 h2.1, fun u hu => (h2.2 u hu).trans (h1.2 u hu)⟩
theorem C6_putCrossChanceL {G : ze_G} {l : Launch} {w : ze_W} {X lo C P F V : Nat} {ar : Nat → Nat → Int} {cf : Nat → Option Nat} {pc : Nat → Nat} {RK : Option Nat} {c T : Nat} (hH : hpc G w X lo C P F ar V cf pc RK) (hG : mgd C P F ar) (hlo : X + 80 ≤ lo) (hc : c < C) (hR : rok ar c P) (hP0 : 0 < P) (hT : T ≤ 1000) : ze_C G l 5 0 0 M6_putCrossChance [.ref X, .ref (X + 63), .ref (pc c), ze_i (T : Nat)] w (ze_qv (fun w' => hpc G w' X lo C P F ar V cf pc RK ∧ kfr w w' X lo ∧ sfr w w' (X + 6) (X + 63) ∧ whz G w' (X + 63) 84 (chn ar c P * T ^ (2 * P)))) := by
  have hP := hG.1.2.1
  have hq := (hp_cs hH hc).2.2
  have hb := chn_le hR hP0
  have hTT : T * T ≤ 1000000 := Nat.le_trans (Nat.mul_le_mul hT hT) (by decide)
  refine ze_enter (by decide +kernel) rfl ?_
  generalize hQ : (ze_Q G (ze_qv (fun w' => hpc G w' X lo C P F ar V cf pc RK ∧ kfr w w' X lo ∧ sfr w w' (X + 6) (X + 63) ∧ whz G w' (X + 63) 84 (chn ar c P * T ^ (2 * P)))) 0 0) = Z
  have loop : ∀ (d i : Nat) (w1 : ze_W), i + d = P → hpc G w1 X lo C P F ar V cf pc RK → kfr w w1 X lo → sfr w w1 (X + 6) (X + 63) → whz G w1 (X + 63) 84 (chn ar c P * (T * T) ^ i) → ze_V G l (ze_rm 5 0 0) M6_putCrossChance Z 16 [(0, .ref X), (1, .ref (X + 63)), (2, .ref (pc c)), (3, ze_i ((T : Nat))), (4, ze_i ((i : Nat)))] [] w1 0 0 := by
    intro d
    induction d with
    | zero =>
      intro i w1 hi hH1 k1 f1 v1
      rw [← hQ]
      refine ze_iload dX6_putCrossChance_16 rfl ?_
      refine ze_aload_n dX6_putCrossChance_18 rfl ?_
      refine ze_getf dX6_putCrossChance_19 fl_X6_22 (hp_o hH1) rfl ?_
      refine ze_callV (As := []) (rest := [ze_i ((i : Nat))]) dX6_putCrossChance_22 (C2_length (hp_row hH1)) mo2_length ml_X6_117 in_2_length se_2_length (hp_row hH1).2.1 rfl rfl rfl rfl rfl ⟨Nat.le_refl _, Nat.le_refl _⟩ rfl (Nat.le_of_ble_eq_true rfl) ?_
      rintro _ w' ⟨r1, rfl, rfl, rfl⟩
      change ze_V G l (ze_rm 5 0 0) M6_putCrossChance _ 25 [(0, .ref X), (1, .ref (X + 63)), (2, .ref (pc c)), (3, ze_i ((T : Nat))), (4, ze_i ((i : Nat)))] [ze_i ((P : Nat)), ze_i ((i : Nat))] w' 0 0
      refine ze_icmp_ge 44 dX6_putCrossChance_25 (by decide) (by omega) (by omega) (fun q2 => ?_) (fun q2 => ?_)
      · exact ze_return rfl dX6_putCrossChance_44 ⟨rfl, hH1, k1, f1, by rw [Nat.pow_mul, Nat.pow_two, show P = i by omega]; rw [show P = i by omega] at v1; exact v1⟩ rfl rfl
      · omega
    | succ d ih =>
      intro i w1 hi hH1 k1 f1 v1
      refine ze_iload dX6_putCrossChance_16 rfl ?_
      refine ze_aload_n dX6_putCrossChance_18 rfl ?_
      refine ze_getf dX6_putCrossChance_19 fl_X6_22 (hp_o hH1) rfl ?_
      refine ze_callV (As := []) (rest := [ze_i ((i : Nat))]) dX6_putCrossChance_22 (C2_length (hp_row hH1)) mo2_length ml_X6_117 in_2_length se_2_length (hp_row hH1).2.1 rfl rfl rfl rfl rfl ⟨Nat.le_refl _, Nat.le_refl _⟩ rfl (Nat.le_of_ble_eq_true rfl) ?_
      rintro _ w' ⟨r1, rfl, rfl, rfl⟩
      change ze_V G l (ze_rm 5 0 0) M6_putCrossChance _ 25 [(0, .ref X), (1, .ref (X + 63)), (2, .ref (pc c)), (3, ze_i ((T : Nat))), (4, ze_i ((i : Nat)))] [ze_i ((P : Nat)), ze_i ((i : Nat))] w' 0 0
      refine ze_icmp_ge 44 dX6_putCrossChance_25 (by decide) (by omega) (by omega) (fun q2 => ?_) (fun q2 => ?_)
      · omega
      · refine ze_aload_n dX6_putCrossChance_28 rfl ?_
        refine ze_aload_n dX6_putCrossChance_29 rfl ?_
        refine ze_iload_n dX6_putCrossChance_30 rfl ?_
        refine ze_i2l dX6_putCrossChance_31 (by omega) ?_
        refine ze_iload_n dX6_putCrossChance_32 rfl ?_
        refine ze_i2l dX6_putCrossChance_33 (by omega) ?_
        refine ze_lmul dX6_putCrossChance_34 ?_
        refine ze_tl (b := ((T * T : Nat))) (Int.natCast_mul _ _).symm ?_
        refine ze_callV (As := [.ref (X + 63), ze_l (((T * T : Nat)))]) (rest := []) dX6_putCrossChance_35 (C5_setScaledA (F := T * T) v1 (cr_lt hb hT hP (by omega)) hTT) mo5_setScaled ml_X6_213 in_5_setScaled se_5_setScaled (whz_o (hp_lf hH1).choose_spec).choose_spec rfl rfl rfl rfl rfl ⟨Nat.le_refl _, Nat.le_refl _⟩ rfl (Nat.le_of_ble_eq_true rfl) ?_
        rintro _ w3 ⟨rfl, f3, v3⟩
        rw [Nat.mul_assoc, ← Nat.pow_succ] at v3
        obtain ⟨p1, p2⟩ := hp_swl hH1 hlo (swp_sm (hp_sw hH1) (fun u a1 a2 => f3.2 u (by omega) (by omega))) ⟨f3.1, fun u _ b c => f3.2 u b c⟩ v3
        change ze_V G l (ze_rm 5 0 0) M6_putCrossChance _ 38 [(0, .ref X), (1, .ref (X + 63)), (2, .ref (pc c)), (3, ze_i ((T : Nat))), (4, ze_i ((i : Nat)))] [] w3 0 0
        refine ze_iinc (b := ((i + 1 : Nat))) (lv' := [(0, .ref X), (1, .ref (X + 63)), (2, .ref (pc c)), (3, ze_i ((T : Nat))), (4, ze_i (((i + 1 : Nat))))]) dX6_putCrossChance_38 rfl rfl (by omega) rfl ?_
        refine ze_goto 16 dX6_putCrossChance_41 (by decide) ?_
        exact ih (i + 1) w3 (by omega) p1 (kf_t k1 p2) ⟨f3.1.trans f1.1, fun u a b c => (f3.2 u b c).trans (f1.2 u a b c)⟩ v3
  change ze_V G l (ze_rm 5 0 0) M6_putCrossChance Z 0 [(0, .ref X), (1, .ref (X + 63)), (2, .ref (pc c)), (3, ze_i ((T : Nat)))] [] w 0 0
  obtain ⟨vt, hvt⟩ := hp_lf hH
  refine ze_aload_n dX6_putCrossChance_0 rfl ?_
  refine ze_getf dX6_putCrossChance_1 fl_X6_38 (hp_o hH) rfl ?_
  refine ze_aload_n dX6_putCrossChance_4 rfl ?_
  refine ze_aload_n dX6_putCrossChance_5 rfl ?_
  refine ze_aload_n dX6_putCrossChance_6 rfl ?_
  refine ze_getf dX6_putCrossChance_7 fl_X6_22 (hp_o hH) rfl ?_
  refine ze_callV (As := [.ref (X + 63), .ref (pc c), .ref (X + 2)]) (rest := []) dX6_putCrossChance_10 (C3_putChance (hp_sw hH) hvt (by decide) (by omega) (hp_ch hH hc) (hp_row hH) (by omega) (by omega) hR hP0) mo3_putChance ml_X6_135 in_3_putChance se_3_putChance (swp_o (hp_sw hH)).choose_spec rfl rfl rfl rfl rfl ⟨Nat.le_refl _, Nat.le_refl _⟩ rfl (Nat.le_of_ble_eq_true rfl) ?_
  rintro _ w2 ⟨rfl, s2, f2, v2⟩
  obtain ⟨p1, p2⟩ := hp_swl hH hlo s2 f2 v2
  change ze_V G l (ze_rm 5 0 0) M6_putCrossChance _ 13 [(0, .ref X), (1, .ref (X + 63)), (2, .ref (pc c)), (3, ze_i ((T : Nat)))] [] w2 0 0
  refine ze_iconst dX6_putCrossChance_13 ?_
  refine ze_ti (b := ((0 : Nat) : Nat)) rfl ?_
  refine ze_istore (lv' := [(0, .ref X), (1, .ref (X + 63)), (2, .ref (pc c)), (3, ze_i ((T : Nat))), (4, ze_i (((0 : Nat) : Nat)))]) dX6_putCrossChance_14 rfl rfl ?_
  exact loop P 0 w2 (by omega) p1 p2 f2 (by rw [Nat.pow_zero, Nat.mul_one]; exact v2)
theorem C6_putCrossChanceR {G : ze_G} {l : Launch} {w : ze_W} {X lo C P F V : Nat} {ar : Nat → Nat → Int} {cf : Nat → Option Nat} {pc : Nat → Nat} {RK : Option Nat} {c T : Nat} (hH : hpc G w X lo C P F ar V cf pc RK) (hG : mgd C P F ar) (hlo : X + 80 ≤ lo) (hc : c < C) (hR : rok ar c P) (hP0 : 0 < P) (hT : T ≤ 1000) : ze_C G l 5 0 0 M6_putCrossChance [.ref X, .ref (X + 65), .ref (pc c), ze_i (T : Nat)] w (ze_qv (fun w' => hpc G w' X lo C P F ar V cf pc RK ∧ kfr w w' X lo ∧ sfr w w' (X + 6) (X + 65) ∧ whz G w' (X + 65) 84 (chn ar c P * T ^ (2 * P)))) := by
  have hP := hG.1.2.1
  have hq := (hp_cs hH hc).2.2
  have hb := chn_le hR hP0
  have hTT : T * T ≤ 1000000 := Nat.le_trans (Nat.mul_le_mul hT hT) (by decide)
  refine ze_enter (by decide +kernel) rfl ?_
  generalize hQ : (ze_Q G (ze_qv (fun w' => hpc G w' X lo C P F ar V cf pc RK ∧ kfr w w' X lo ∧ sfr w w' (X + 6) (X + 65) ∧ whz G w' (X + 65) 84 (chn ar c P * T ^ (2 * P)))) 0 0) = Z
  have loop : ∀ (d i : Nat) (w1 : ze_W), i + d = P → hpc G w1 X lo C P F ar V cf pc RK → kfr w w1 X lo → sfr w w1 (X + 6) (X + 65) → whz G w1 (X + 65) 84 (chn ar c P * (T * T) ^ i) → ze_V G l (ze_rm 5 0 0) M6_putCrossChance Z 16 [(0, .ref X), (1, .ref (X + 65)), (2, .ref (pc c)), (3, ze_i ((T : Nat))), (4, ze_i ((i : Nat)))] [] w1 0 0 := by
    intro d
    induction d with
    | zero =>
      intro i w1 hi hH1 k1 f1 v1
      rw [← hQ]
      refine ze_iload dX6_putCrossChance_16 rfl ?_
      refine ze_aload_n dX6_putCrossChance_18 rfl ?_
      refine ze_getf dX6_putCrossChance_19 fl_X6_22 (hp_o hH1) rfl ?_
      refine ze_callV (As := []) (rest := [ze_i ((i : Nat))]) dX6_putCrossChance_22 (C2_length (hp_row hH1)) mo2_length ml_X6_117 in_2_length se_2_length (hp_row hH1).2.1 rfl rfl rfl rfl rfl ⟨Nat.le_refl _, Nat.le_refl _⟩ rfl (Nat.le_of_ble_eq_true rfl) ?_
      rintro _ w' ⟨r1, rfl, rfl, rfl⟩
      change ze_V G l (ze_rm 5 0 0) M6_putCrossChance _ 25 [(0, .ref X), (1, .ref (X + 65)), (2, .ref (pc c)), (3, ze_i ((T : Nat))), (4, ze_i ((i : Nat)))] [ze_i ((P : Nat)), ze_i ((i : Nat))] w' 0 0
      refine ze_icmp_ge 44 dX6_putCrossChance_25 (by decide) (by omega) (by omega) (fun q2 => ?_) (fun q2 => ?_)
      · exact ze_return rfl dX6_putCrossChance_44 ⟨rfl, hH1, k1, f1, by rw [Nat.pow_mul, Nat.pow_two, show P = i by omega]; rw [show P = i by omega] at v1; exact v1⟩ rfl rfl
      · omega
    | succ d ih =>
      intro i w1 hi hH1 k1 f1 v1
      refine ze_iload dX6_putCrossChance_16 rfl ?_
      refine ze_aload_n dX6_putCrossChance_18 rfl ?_
      refine ze_getf dX6_putCrossChance_19 fl_X6_22 (hp_o hH1) rfl ?_
      refine ze_callV (As := []) (rest := [ze_i ((i : Nat))]) dX6_putCrossChance_22 (C2_length (hp_row hH1)) mo2_length ml_X6_117 in_2_length se_2_length (hp_row hH1).2.1 rfl rfl rfl rfl rfl ⟨Nat.le_refl _, Nat.le_refl _⟩ rfl (Nat.le_of_ble_eq_true rfl) ?_
      rintro _ w' ⟨r1, rfl, rfl, rfl⟩
      change ze_V G l (ze_rm 5 0 0) M6_putCrossChance _ 25 [(0, .ref X), (1, .ref (X + 65)), (2, .ref (pc c)), (3, ze_i ((T : Nat))), (4, ze_i ((i : Nat)))] [ze_i ((P : Nat)), ze_i ((i : Nat))] w' 0 0
      refine ze_icmp_ge 44 dX6_putCrossChance_25 (by decide) (by omega) (by omega) (fun q2 => ?_) (fun q2 => ?_)
      · omega
      · refine ze_aload_n dX6_putCrossChance_28 rfl ?_
        refine ze_aload_n dX6_putCrossChance_29 rfl ?_
        refine ze_iload_n dX6_putCrossChance_30 rfl ?_
        refine ze_i2l dX6_putCrossChance_31 (by omega) ?_
        refine ze_iload_n dX6_putCrossChance_32 rfl ?_
        refine ze_i2l dX6_putCrossChance_33 (by omega) ?_
        refine ze_lmul dX6_putCrossChance_34 ?_
        refine ze_tl (b := ((T * T : Nat))) (Int.natCast_mul _ _).symm ?_
        refine ze_callV (As := [.ref (X + 65), ze_l (((T * T : Nat)))]) (rest := []) dX6_putCrossChance_35 (C5_setScaledA (F := T * T) v1 (cr_lt hb hT hP (by omega)) hTT) mo5_setScaled ml_X6_213 in_5_setScaled se_5_setScaled (whz_o (hp_rt hH1).choose_spec).choose_spec rfl rfl rfl rfl rfl ⟨Nat.le_refl _, Nat.le_refl _⟩ rfl (Nat.le_of_ble_eq_true rfl) ?_
        rintro _ w3 ⟨rfl, f3, v3⟩
        rw [Nat.mul_assoc, ← Nat.pow_succ] at v3
        obtain ⟨p1, p2⟩ := hp_swr hH1 hlo (swp_sm (hp_sw hH1) (fun u a1 a2 => f3.2 u (by omega) (by omega))) ⟨f3.1, fun u _ b c => f3.2 u b c⟩ v3
        change ze_V G l (ze_rm 5 0 0) M6_putCrossChance _ 38 [(0, .ref X), (1, .ref (X + 65)), (2, .ref (pc c)), (3, ze_i ((T : Nat))), (4, ze_i ((i : Nat)))] [] w3 0 0
        refine ze_iinc (b := ((i + 1 : Nat))) (lv' := [(0, .ref X), (1, .ref (X + 65)), (2, .ref (pc c)), (3, ze_i ((T : Nat))), (4, ze_i (((i + 1 : Nat))))]) dX6_putCrossChance_38 rfl rfl (by omega) rfl ?_
        refine ze_goto 16 dX6_putCrossChance_41 (by decide) ?_
        exact ih (i + 1) w3 (by omega) p1 (kf_t k1 p2) ⟨f3.1.trans f1.1, fun u a b c => (f3.2 u b c).trans (f1.2 u a b c)⟩ v3
  change ze_V G l (ze_rm 5 0 0) M6_putCrossChance Z 0 [(0, .ref X), (1, .ref (X + 65)), (2, .ref (pc c)), (3, ze_i ((T : Nat)))] [] w 0 0
  obtain ⟨vt, hvt⟩ := hp_rt hH
  refine ze_aload_n dX6_putCrossChance_0 rfl ?_
  refine ze_getf dX6_putCrossChance_1 fl_X6_38 (hp_o hH) rfl ?_
  refine ze_aload_n dX6_putCrossChance_4 rfl ?_
  refine ze_aload_n dX6_putCrossChance_5 rfl ?_
  refine ze_aload_n dX6_putCrossChance_6 rfl ?_
  refine ze_getf dX6_putCrossChance_7 fl_X6_22 (hp_o hH) rfl ?_
  refine ze_callV (As := [.ref (X + 65), .ref (pc c), .ref (X + 2)]) (rest := []) dX6_putCrossChance_10 (C3_putChance (hp_sw hH) hvt (by decide) (by omega) (hp_ch hH hc) (hp_row hH) (by omega) (by omega) hR hP0) mo3_putChance ml_X6_135 in_3_putChance se_3_putChance (swp_o (hp_sw hH)).choose_spec rfl rfl rfl rfl rfl ⟨Nat.le_refl _, Nat.le_refl _⟩ rfl (Nat.le_of_ble_eq_true rfl) ?_
  rintro _ w2 ⟨rfl, s2, f2, v2⟩
  obtain ⟨p1, p2⟩ := hp_swr hH hlo s2 f2 v2
  change ze_V G l (ze_rm 5 0 0) M6_putCrossChance _ 13 [(0, .ref X), (1, .ref (X + 65)), (2, .ref (pc c)), (3, ze_i ((T : Nat)))] [] w2 0 0
  refine ze_iconst dX6_putCrossChance_13 ?_
  refine ze_ti (b := ((0 : Nat) : Nat)) rfl ?_
  refine ze_istore (lv' := [(0, .ref X), (1, .ref (X + 65)), (2, .ref (pc c)), (3, ze_i ((T : Nat))), (4, ze_i (((0 : Nat) : Nat)))]) dX6_putCrossChance_14 rfl rfl ?_
  exact loop P 0 w2 (by omega) p1 p2 f2 (by rw [Nat.pow_zero, Nat.mul_one]; exact v2)
theorem C6_compare {G : ze_G} {l : Launch} {w : ze_W} {X lo C P F V : Nat} {ar : Nat → Nat → Int} {cf : Nat → Option Nat} {pc : Nat → Nat} {RK : Option Nat} {a b : Int} (hH : hpc G w X lo C P F ar V cf pc RK) (hG : mgd C P F ar) (hlo : X + 80 ≤ lo) (r_a : -2147483648 ≤ a ∧ a < 2147483648) (r_b : -2147483648 ≤ b ∧ b < 2147483648) : ze_C G l 6 0 0 M6_compare [.ref X, ze_i a, ze_i b] w (ze_qi (fun r w' => hpc G w' X lo C P F ar V cf pc RK ∧ kfr w w' X lo ∧ ((¬ (((0 ≤ a ∧ a < (C : Int)) ∧ (0 ≤ b ∧ b < (C : Int))) ∧ rfs ar P a.toNat 0 ∧ rfs ar P b.toNat 0) ∧ r = -2) ∨ ((((0 ≤ a ∧ a < (C : Int)) ∧ (0 ≤ b ∧ b < (C : Int))) ∧ rfs ar P a.toNat 0 ∧ rfs ar P b.toNat 0) ∧ r = cmp3 ((chn ar a.toNat P * ct ar b.toNat ^ (2 * P) : Nat) : Int) ((chn ar b.toNat P * ct ar a.toNat ^ (2 * P) : Nat) : Int))))) := by
  refine ze_enter (by decide +kernel) rfl ?_
  change ze_V G l (ze_rm 6 0 0) M6_compare _ 0 [(0, .ref X), (1, ze_i (a)), (2, ze_i (b))] [] w 0 0
  refine ze_aload_n dX6_compare_0 rfl ?_
  refine ze_iload_n dX6_compare_1 rfl ?_
  refine ze_callV (As := [ze_i (a)]) (rest := []) dX6_compare_2 (C6_chainNumbered (c := a) hH hG (by omega)) mo6_chainNumbered ml_X6_73 in_6_chainNumbered se_6_chainNumbered (hp_o hH) rfl rfl rfl rfl rfl ⟨Nat.le_refl _, Nat.le_refl _⟩ rfl (Nat.le_of_ble_eq_true rfl) ?_
  rintro _ w' ⟨ro, rfl, hro, rfl⟩
  by_cases qka : 0 ≤ a ∧ a < (C : Int)
  · rw [if_pos qka] at hro
    subst hro
    obtain ⟨ka, hka⟩ : ∃ n, n = (a).toNat := ⟨_, rfl⟩
    rw [← hka]
    change ze_V G l (ze_rm 6 0 0) M6_compare _ 5 [(0, .ref X), (1, ze_i (a)), (2, ze_i (b))] [.ref (pc ka)] w' 0 0
    have lka : ka < C := by omega
    have ika : ((ka : Nat) : Int) = a := by omega
    refine ze_astore_n (lv' := [(0, .ref X), (1, ze_i (a)), (2, ze_i (b)), (3, .ref (pc ka))]) dX6_compare_5 rfl rfl ?_
    refine ze_aload_n dX6_compare_6 rfl ?_
    refine ze_iload_n dX6_compare_7 rfl ?_
    refine ze_callV (As := [ze_i (b)]) (rest := []) dX6_compare_8 (C6_chainNumbered (c := b) hH hG (by omega)) mo6_chainNumbered ml_X6_73 in_6_chainNumbered se_6_chainNumbered (hp_o hH) rfl rfl rfl rfl rfl ⟨Nat.le_refl _, Nat.le_refl _⟩ rfl (Nat.le_of_ble_eq_true rfl) ?_
    rintro _ w' ⟨ro, rfl, hro, rfl⟩
    by_cases qkb : 0 ≤ b ∧ b < (C : Int)
    · rw [if_pos qkb] at hro
      subst hro
      obtain ⟨kb, hkb⟩ : ∃ n, n = (b).toNat := ⟨_, rfl⟩
      rw [← hkb]
      change ze_V G l (ze_rm 6 0 0) M6_compare _ 11 [(0, .ref X), (1, ze_i (a)), (2, ze_i (b)), (3, .ref (pc ka))] [.ref (pc kb)] w' 0 0
      have lkb : kb < C := by omega
      have ikb : ((kb : Nat) : Int) = b := by omega
      refine ze_astore (lv' := [(0, .ref X), (1, ze_i (a)), (2, ze_i (b)), (3, .ref (pc ka)), (4, .ref (pc kb))]) dX6_compare_11 rfl rfl ?_
      refine ze_aload_n dX6_compare_13 rfl ?_
      refine ze_ifnull dX6_compare_14 ?_
      refine ze_aload dX6_compare_17 rfl ?_
      refine ze_ifnull dX6_compare_19 ?_
      refine ze_aload_n dX6_compare_22 rfl ?_
      refine ze_aload_n dX6_compare_23 rfl ?_
      refine ze_callV (As := [.ref (pc ka)]) (rest := []) dX6_compare_24 (C6_rowRefusal (c := ka) hH hG lka) mo6_rowRefusal ml_X6_131 in_6_rowRefusal se_6_rowRefusal (hp_o hH) rfl rfl rfl rfl rfl ⟨Nat.le_refl _, Nat.le_refl _⟩ rfl (Nat.le_of_ble_eq_true rfl) ?_
      rintro _ w' ⟨ra, rfl, hra, rfl⟩
      change ze_V G l (ze_rm 6 0 0) M6_compare _ 27 [(0, .ref X), (1, ze_i (a)), (2, ze_i (b)), (3, .ref (pc ka)), (4, .ref (pc kb))] [ze_i (ra)] w' 0 0
      refine ze_if_ne 39 dX6_compare_27 (by decide) (rfs_rng hra) (fun q1 => ?_) (fun q1 => ?_)
      · refine ze_bipush dX6_compare_39 (by decide) ?_
        exact ze_ireturn rfl dX6_compare_41 ⟨_, rfl, hH, kf_r, Or.inl ⟨fun h => q1 (rfs_un hra h.2.1), rfl⟩⟩ rfl rfl
      · refine ze_aload_n dX6_compare_30 rfl ?_
        refine ze_aload dX6_compare_31 rfl ?_
        refine ze_callV (As := [.ref (pc kb)]) (rest := []) dX6_compare_33 (C6_rowRefusal (c := kb) hH hG lkb) mo6_rowRefusal ml_X6_131 in_6_rowRefusal se_6_rowRefusal (hp_o hH) rfl rfl rfl rfl rfl ⟨Nat.le_refl _, Nat.le_refl _⟩ rfl (Nat.le_of_ble_eq_true rfl) ?_
        rintro _ w' ⟨rb, rfl, hrb, rfl⟩
        change ze_V G l (ze_rm 6 0 0) M6_compare _ 36 [(0, .ref X), (1, ze_i (a)), (2, ze_i (b)), (3, .ref (pc ka)), (4, .ref (pc kb))] [ze_i (rb)] w' 0 0
        refine ze_if_eq 42 dX6_compare_36 (by decide) (rfs_rng hrb) (fun q2 => ?_) (fun q2 => ?_)
        · refine ze_aload_n dX6_compare_42 rfl ?_
          refine ze_aload_n dX6_compare_43 rfl ?_
          refine ze_getf dX6_compare_44 fl_X6_42 (hp_o hH) rfl ?_
          refine ze_aload_n dX6_compare_47 rfl ?_
          refine ze_aload dX6_compare_48 rfl ?_
          refine ze_getf dX6_compare_50 fl_X6_108 (hp_ch hH lkb).2.1 rfl ?_
          obtain ⟨hRa, hP0⟩ := rfs_ok hG lka hra q1
          obtain ⟨hRb, -⟩ := rfs_ok hG lkb hrb q2
          have hta := (mch_t hRa.1).2.2
          have htb := (mch_t hRb.1).2.2
          have hqa := (hp_cs hH lka).2.2
          have hqb := (hp_cs hH lkb).2.2
          refine ze_callV (As := [.ref (X + 63), .ref (pc ka), ze_i ((ct ar kb : Nat))]) (rest := []) dX6_compare_53 (C6_putCrossChanceL (c := ka) (T := ct ar kb) hH hG hlo lka hRa hP0 htb) mo6_putCrossChance ml_X6_170 in_6_putCrossChance se_6_putCrossChance (hp_o hH) rfl rfl rfl rfl rfl ⟨Nat.le_refl _, Nat.le_refl _⟩ rfl (Nat.le_of_ble_eq_true rfl) ?_
          rintro _ w2 ⟨rfl, p1, p2, p3, p4⟩
          change ze_V G l (ze_rm 6 0 0) M6_compare _ 56 [(0, .ref X), (1, ze_i (a)), (2, ze_i (b)), (3, .ref (pc ka)), (4, .ref (pc kb))] [] w2 0 0
          refine ze_aload_n dX6_compare_56 rfl ?_
          refine ze_aload_n dX6_compare_57 rfl ?_
          refine ze_getf dX6_compare_58 fl_X6_45 (hp_o p1) rfl ?_
          refine ze_aload dX6_compare_61 rfl ?_
          refine ze_aload_n dX6_compare_63 rfl ?_
          refine ze_getf dX6_compare_64 fl_X6_108 (hp_ch p1 lka).2.1 rfl ?_
          refine ze_callV (As := [.ref (X + 65), .ref (pc kb), ze_i ((ct ar ka : Nat))]) (rest := []) dX6_compare_67 (C6_putCrossChanceR (c := kb) (T := ct ar ka) p1 hG hlo lkb hRb hP0 hta) mo6_putCrossChance ml_X6_170 in_6_putCrossChance se_6_putCrossChance (hp_o p1) rfl rfl rfl rfl rfl ⟨Nat.le_refl _, Nat.le_refl _⟩ rfl (Nat.le_of_ble_eq_true rfl) ?_
          rintro _ w3 ⟨rfl, s1, s2, s3, s4⟩
          change ze_V G l (ze_rm 6 0 0) M6_compare _ 70 [(0, .ref X), (1, ze_i (a)), (2, ze_i (b)), (3, .ref (pc ka)), (4, .ref (pc kb))] [] w3 0 0
          have p5 := whz_sm p4 (s3.2 (X + 63) (by omega) (by omega) (by omega)) (s3.2 (X + 63 + 1) (by omega) (by omega) (by omega))
          refine ze_aload_n dX6_compare_70 rfl ?_
          refine ze_getf dX6_compare_71 fl_X6_42 (hp_o s1) rfl ?_
          refine ze_aload_n dX6_compare_74 rfl ?_
          refine ze_getf dX6_compare_75 fl_X6_45 (hp_o s1) rfl ?_
          refine ze_callV (As := [.ref (X + 65)]) (rest := []) dX6_compare_78 (C5_orderTo p5 s4) mo5_orderTo ml_X6_174 in_5_orderTo se_5_orderTo (whz_o (hp_lf s1).choose_spec).choose_spec rfl rfl rfl rfl rfl ⟨Nat.le_refl _, Nat.le_refl _⟩ rfl (Nat.le_of_ble_eq_true rfl) ?_
          rintro _ w' ⟨rc, rfl, hrc, rfl⟩
          change ze_V G l (ze_rm 6 0 0) M6_compare _ 81 [(0, .ref X), (1, ze_i (a)), (2, ze_i (b)), (3, .ref (pc ka)), (4, .ref (pc kb))] [ze_i (rc)] w' 0 0
          exact ze_ireturn rfl dX6_compare_81 ⟨_, rfl, s1, kf_t p2 s2, Or.inr ⟨⟨⟨qka, qkb⟩, by rw [q1] at hra; exact hra, by rw [q2] at hrb; exact hrb⟩, hrc⟩⟩ rfl rfl
        · refine ze_bipush dX6_compare_39 (by decide) ?_
          exact ze_ireturn rfl dX6_compare_41 ⟨_, rfl, hH, kf_r, Or.inl ⟨fun h => q2 (rfs_un hrb h.2.2), rfl⟩⟩ rfl rfl
    · rw [if_neg qkb] at hro
      subst hro
      change ze_V G l (ze_rm 6 0 0) M6_compare _ 11 [(0, .ref X), (1, ze_i (a)), (2, ze_i (b)), (3, .ref (pc ka))] [.null] w' 0 0
      refine ze_astoreN (lv' := [(0, .ref X), (1, ze_i (a)), (2, ze_i (b)), (3, .ref (pc ka)), (4, .null)]) dX6_compare_11 rfl rfl ?_
      refine ze_aload_n dX6_compare_13 rfl ?_
      refine ze_ifnull dX6_compare_14 ?_
      refine ze_aloadN dX6_compare_17 rfl ?_
      refine ze_ifnullN 39 dX6_compare_19 (by decide) ?_
      refine ze_bipush dX6_compare_39 (by decide) ?_
      exact ze_ireturn rfl dX6_compare_41 ⟨_, rfl, hH, kf_r, Or.inl ⟨fun h => qkb h.1.2, rfl⟩⟩ rfl rfl
  · rw [if_neg qka] at hro
    subst hro
    change ze_V G l (ze_rm 6 0 0) M6_compare _ 5 [(0, .ref X), (1, ze_i (a)), (2, ze_i (b))] [.null] w' 0 0
    refine ze_astore_nN (lv' := [(0, .ref X), (1, ze_i (a)), (2, ze_i (b)), (3, .null)]) dX6_compare_5 rfl rfl ?_
    refine ze_aload_n dX6_compare_6 rfl ?_
    refine ze_iload_n dX6_compare_7 rfl ?_
    refine ze_callV (As := [ze_i (b)]) (rest := []) dX6_compare_8 (C6_chainNumbered (c := b) hH hG (by omega)) mo6_chainNumbered ml_X6_73 in_6_chainNumbered se_6_chainNumbered (hp_o hH) rfl rfl rfl rfl rfl ⟨Nat.le_refl _, Nat.le_refl _⟩ rfl (Nat.le_of_ble_eq_true rfl) ?_
    rintro _ w' ⟨ro, rfl, hro, rfl⟩
    by_cases qkb : 0 ≤ b ∧ b < (C : Int)
    · rw [if_pos qkb] at hro
      subst hro
      obtain ⟨kb, hkb⟩ : ∃ n, n = (b).toNat := ⟨_, rfl⟩
      rw [← hkb]
      change ze_V G l (ze_rm 6 0 0) M6_compare _ 11 [(0, .ref X), (1, ze_i (a)), (2, ze_i (b)), (3, .null)] [.ref (pc kb)] w' 0 0
      have lkb : kb < C := by omega
      have ikb : ((kb : Nat) : Int) = b := by omega
      refine ze_astore (lv' := [(0, .ref X), (1, ze_i (a)), (2, ze_i (b)), (3, .null), (4, .ref (pc kb))]) dX6_compare_11 rfl rfl ?_
      refine ze_aload_nN dX6_compare_13 rfl ?_
      refine ze_ifnullN 39 dX6_compare_14 (by decide) ?_
      refine ze_bipush dX6_compare_39 (by decide) ?_
      exact ze_ireturn rfl dX6_compare_41 ⟨_, rfl, hH, kf_r, Or.inl ⟨fun h => qka h.1.1, rfl⟩⟩ rfl rfl
    · rw [if_neg qkb] at hro
      subst hro
      change ze_V G l (ze_rm 6 0 0) M6_compare _ 11 [(0, .ref X), (1, ze_i (a)), (2, ze_i (b)), (3, .null)] [.null] w' 0 0
      refine ze_astoreN (lv' := [(0, .ref X), (1, ze_i (a)), (2, ze_i (b)), (3, .null), (4, .null)]) dX6_compare_11 rfl rfl ?_
      refine ze_aload_nN dX6_compare_13 rfl ?_
      refine ze_ifnullN 39 dX6_compare_14 (by decide) ?_
      refine ze_bipush dX6_compare_39 (by decide) ?_
      exact ze_ireturn rfl dX6_compare_41 ⟨_, rfl, hH, kf_r, Or.inl ⟨fun h => qka h.1.1, rfl⟩⟩ rfl rfl
