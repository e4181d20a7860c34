/-! Chain: soundness; SignRow: writers, fits -/
theorem C0_isTotal {G : ze_G} {l : Launch} {w : ze_W} {ar : Nat → Nat → Int} {c p : Nat} {A LA fm n : Nat} {wf : Nat → Int} {g : Nat → Nat} (h : chr G w ar c p) (hA : w.2 A = some (ze_ia G LA wf)) (hL : fm + n ≤ LA ∧ LA ≤ 64) (hg1 : ∀ i, i < n → wf (fm + i) = (g i : Nat) ∧ g i ≤ 1000) : ze_C G l 0 0 0 M0_isTotal [.ref p, .ref A, ze_i (fm : Nat), ze_i (n : Nat)] w (ze_qi (fun r w' => tf r (sm n g = ct ar c) ∧ w' = w)) := by
  obtain ⟨hK, hp, bf, gf, sf, hb, hg, hs, eb, eg, es⟩ := id h
  obtain ⟨en, n1, n8⟩ := mch_n hK
  obtain ⟨ek, k1, k6⟩ := mch_k hK
  obtain ⟨et, t1, t1000⟩ := mch_t hK
  have hnn := ix_64 n8 n8
  have hnk := ix_64 n8 (show ck ar c ≤ 8 by omega)
  refine ze_enter (by decide +kernel) rfl ?_
  generalize hQ : (ze_Q G (ze_qi (fun r w' => tf r (sm n g = ct ar c) ∧ w' = w)) 0 0) = Z
  have hS : ∀ i, i ≤ n → sm i g ≤ i * 1000 := fun i hi => sm_le (fun q hq => (hg1 q (by omega)).2)
  have loop : ∀ (d i : Nat), i + d = n → ze_V G l (ze_rm 0 0 0) M0_isTotal Z 6 [(0, .ref p), (1, .ref A), (2, ze_i ((fm : Nat))), (3, ze_i ((n : Nat))), (4, ze_i ((sm i g : Nat))), (5, ze_i (((fm + i : Nat))))] [] w 0 0 := by
    intro d
    induction d with
    | zero =>
      intro i hi
      have hin : i = n := by omega
      have hSi := hS i (by omega)
      rw [← hQ]
      refine ze_iload dX0_isTotal_6 rfl ?_
      refine ze_iload_n dX0_isTotal_8 rfl ?_
      refine ze_iload_n dX0_isTotal_9 rfl ?_
      refine ze_iadd dX0_isTotal_10 ?_
      refine ze_icmp_ge 36 dX0_isTotal_11 (by decide) (by omega) (by omega) (fun q1 => ?_) (fun q1 => ?_)
      · refine ze_iload dX0_isTotal_36 rfl ?_
        refine ze_aload_n dX0_isTotal_38 rfl ?_
        refine ze_getf dX0_isTotal_39 fl_X0_27 hp rfl ?_
        refine ze_icmp_ne 49 dX0_isTotal_42 (by decide) (by omega) (by omega) (fun q2 => ?_) (fun q2 => ?_)
        · refine ze_iconst dX0_isTotal_49 ?_
          exact ze_zreturn rfl dX0_isTotal_50 (by decide) ⟨_, rfl, Or.inr ⟨rfl, by rw [← hin]; omega⟩, rfl⟩ rfl rfl
        · refine ze_iconst dX0_isTotal_45 ?_
          refine ze_goto 50 dX0_isTotal_46 (by decide) ?_
          exact ze_zreturn rfl dX0_isTotal_50 (by decide) ⟨_, rfl, Or.inl ⟨rfl, by rw [← hin]; omega⟩, rfl⟩ rfl rfl
      · omega
    | succ d ih =>
      intro i hi
      obtain ⟨eg1, eg2⟩ := hg1 i (by omega)
      have hSi := hS (i + 1) (by omega)
      rw [sm_s] at hSi
      refine ze_iload dX0_isTotal_6 rfl ?_
      refine ze_iload_n dX0_isTotal_8 rfl ?_
      refine ze_iload_n dX0_isTotal_9 rfl ?_
      refine ze_iadd dX0_isTotal_10 ?_
      refine ze_icmp_ge 36 dX0_isTotal_11 (by decide) (by omega) (by omega) (fun q1 => ?_) (fun q1 => ?_)
      · omega
      · refine ze_iload dX0_isTotal_14 rfl ?_
        refine ze_aload_n dX0_isTotal_16 rfl ?_
        refine ze_alen dX0_isTotal_17 hA rfl ?_
        refine ze_icmp_ge 36 dX0_isTotal_18 (by decide) (by omega) (by omega) (fun q2 => ?_) (fun q2 => ?_)
        · omega
        · refine ze_iload dX0_isTotal_21 rfl ?_
          refine ze_aload_n dX0_isTotal_23 rfl ?_
          refine ze_iload dX0_isTotal_24 rfl ?_
          refine ze_iald (j := fm + i) dX0_isTotal_26 hA (by omega) (by omega) (by omega) ?_
          rw [eg1]
          refine ze_iadd dX0_isTotal_27 ?_
          refine ze_ti (b := (sm (i + 1) g : Nat)) (by rw [sm_s]; omega) ?_
          refine ze_istore (lv' := [(0, .ref p), (1, .ref A), (2, ze_i ((fm : Nat))), (3, ze_i ((n : Nat))), (4, ze_i ((sm (i + 1) g : Nat))), (5, ze_i (((fm + i : Nat))))]) dX0_isTotal_28 rfl rfl ?_
          refine ze_iinc (b := ((fm + (i + 1) : Nat))) (lv' := [(0, .ref p), (1, .ref A), (2, ze_i ((fm : Nat))), (3, ze_i ((n : Nat))), (4, ze_i ((sm (i + 1) g : Nat))), (5, ze_i (((fm + (i + 1) : Nat))))]) dX0_isTotal_30 rfl rfl (by omega) rfl ?_
          refine ze_goto 6 dX0_isTotal_33 (by decide) ?_
          exact ih (i + 1) (by omega)
  change ze_V G l (ze_rm 0 0 0) M0_isTotal Z 0 [(0, .ref p), (1, .ref A), (2, ze_i ((fm : Nat))), (3, ze_i ((n : Nat)))] [] w 0 0
  refine ze_iconst dX0_isTotal_0 ?_
  refine ze_ti (b := (sm 0 g : Nat)) rfl ?_
  refine ze_istore (lv' := [(0, .ref p), (1, .ref A), (2, ze_i ((fm : Nat))), (3, ze_i ((n : Nat))), (4, ze_i ((sm 0 g : Nat)))]) dX0_isTotal_1 rfl rfl ?_
  refine ze_iload_n dX0_isTotal_3 rfl ?_
  refine ze_ti (b := ((fm + 0 : Nat))) rfl ?_
  refine ze_istore (lv' := [(0, .ref p), (1, .ref A), (2, ze_i ((fm : Nat))), (3, ze_i ((n : Nat))), (4, ze_i ((sm 0 g : Nat))), (5, ze_i (((fm + 0 : Nat))))]) dX0_isTotal_4 rfl rfl ?_
  exact loop n 0 (by omega)
theorem C0_isSound {G : ze_G} {l : Launch} {w : ze_W} {ar : Nat → Nat → Int} {c p : Nat} (h : chr G w ar c p) : ze_C G l 1 0 0 M0_isSound [.ref p] w (ze_qi (fun r w' => tf r (snd ar c) ∧ w' = w)) := by
  obtain ⟨hK, hp, bf, gf, sf, hb, hg, hs, eb, eg, es⟩ := id h
  obtain ⟨en, n1, n8⟩ := mch_n hK
  obtain ⟨ek, k1, k6⟩ := mch_k hK
  obtain ⟨et, t1, t1000⟩ := mch_t hK
  have hnn := ix_64 n8 n8
  have hnk := ix_64 n8 (show ck ar c ≤ 8 by omega)
  refine ze_enter (by decide +kernel) rfl ?_
  generalize hQ : (ze_Q G (ze_qi (fun r w' => tf r (snd ar c) ∧ w' = w)) 0 0) = Z
  have loop : sm (cn ar c) (cb ar c) = ct ar c → ∀ (d s : Nat), s + d = cn ar c → (∀ q, q < s → sm (cn ar c) (cg ar c q) = ct ar c ∧ sm (ck ar c) (cw ar c q) = ct ar c) → ze_V G l (ze_rm 1 0 0) M0_isSound Z 20 [(0, .ref p), (1, ze_i ((s : Nat)))] [] w 0 0 := by
    intro hbt d
    induction d with
    | zero =>
      intro s hsd he
      rw [← hQ]
      refine ze_iload_n dX0_isSound_20 rfl ?_
      refine ze_aload_n dX0_isSound_21 rfl ?_
      refine ze_getf dX0_isSound_22 fl_X0_18 hp rfl ?_
      refine ze_icmp_ge 78 dX0_isSound_25 (by decide) (by omega) (by omega) (fun q1 => ?_) (fun q1 => ?_)
      · refine ze_iconst dX0_isSound_78 ?_
        exact ze_zreturn rfl dX0_isSound_79 (by decide) ⟨_, rfl, Or.inl ⟨rfl, hbt, fun q hq => he q (by omega)⟩, rfl⟩ rfl rfl
      · omega
    | succ d ih =>
      intro s hsd he
      have hsn : s < cn ar c := by omega
      have hi1 : s * cn ar c + cn ar c ≤ cn ar c * cn ar c := by
        have : (s + 1) * cn ar c ≤ cn ar c * cn ar c := Nat.mul_le_mul_right _ hsn
        rw [Nat.add_mul, Nat.one_mul] at this
        exact this
      have hi2 : s * ck ar c + ck ar c ≤ cn ar c * ck ar c := by
        have : (s + 1) * ck ar c ≤ cn ar c * ck ar c := Nat.mul_le_mul_right _ hsn
        rw [Nat.add_mul, Nat.one_mul] at this
        exact this
      refine ze_iload_n dX0_isSound_20 rfl ?_
      refine ze_aload_n dX0_isSound_21 rfl ?_
      refine ze_getf dX0_isSound_22 fl_X0_18 hp rfl ?_
      refine ze_icmp_ge 78 dX0_isSound_25 (by decide) (by omega) (by omega) (fun q1 => ?_) (fun q1 => ?_)
      · omega
      · refine ze_aload_n dX0_isSound_28 rfl ?_
        refine ze_aload_n dX0_isSound_29 rfl ?_
        refine ze_getf dX0_isSound_30 fl_X0_34 hp rfl ?_
        refine ze_iload_n dX0_isSound_33 rfl ?_
        refine ze_aload_n dX0_isSound_34 rfl ?_
        refine ze_getf dX0_isSound_35 fl_X0_18 hp rfl ?_
        refine ze_imul dX0_isSound_38 ?_
        refine ze_ti (b := ((s * cn ar c : Nat))) (Int.natCast_mul _ _).symm ?_
        refine ze_aload_n dX0_isSound_39 rfl ?_
        refine ze_getf dX0_isSound_40 fl_X0_18 hp rfl ?_
        refine ze_callV (As := [.ref (p + 2), ze_i (((s * cn ar c : Nat))), ze_i ((cn ar c : Nat))]) (rest := []) dX0_isSound_43 (C0_isTotal (fm := s * cn ar c) (n := cn ar c) (g := cg ar c s) h hg ⟨hi1, hnn⟩ (fun i hi => ⟨eg s i hsn hi, (mch_g hK (by omega) (by omega)).2⟩)) mo0_isTotal ml_X0_61 in_0_isTotal se_0_isTotal hp rfl rfl rfl rfl rfl ⟨Nat.le_refl _, Nat.le_refl _⟩ rfl (Nat.le_of_ble_eq_true rfl) ?_
        rintro _ w' ⟨ra, rfl, hra, rfl⟩
        change ze_V G l (ze_rm 1 0 0) M0_isSound _ 46 [(0, .ref p), (1, ze_i ((s : Nat)))] [ze_i (ra)] w' 0 0
        refine ze_if_eq 70 dX0_isSound_46 (by decide) (tf_rng hra) (fun q2 => ?_) (fun q2 => ?_)
        · refine ze_iconst dX0_isSound_70 ?_
          rw [← hQ]
          exact ze_zreturn rfl dX0_isSound_71 (by decide) ⟨_, rfl, Or.inr ⟨rfl, fun h0 => tf_z hra q2 (h0.2 s hsn).1⟩, rfl⟩ rfl rfl
        · refine ze_aload_n dX0_isSound_49 rfl ?_
          refine ze_aload_n dX0_isSound_50 rfl ?_
          refine ze_getf dX0_isSound_51 fl_X0_37 hp rfl ?_
          refine ze_iload_n dX0_isSound_54 rfl ?_
          refine ze_aload_n dX0_isSound_55 rfl ?_
          refine ze_getf dX0_isSound_56 fl_X0_24 hp rfl ?_
          refine ze_imul dX0_isSound_59 ?_
          refine ze_ti (b := ((s * ck ar c : Nat))) (Int.natCast_mul _ _).symm ?_
          refine ze_aload_n dX0_isSound_60 rfl ?_
          refine ze_getf dX0_isSound_61 fl_X0_24 hp rfl ?_
          refine ze_callV (As := [.ref (p + 3), ze_i (((s * ck ar c : Nat))), ze_i ((ck ar c : Nat))]) (rest := []) dX0_isSound_64 (C0_isTotal (fm := s * ck ar c) (n := ck ar c) (g := cw ar c s) h hs ⟨hi2, hnk⟩ (fun i hi => ⟨es s i hsn hi, (mch_w hK (by omega) (by omega)).2⟩)) mo0_isTotal ml_X0_61 in_0_isTotal se_0_isTotal hp rfl rfl rfl rfl rfl ⟨Nat.le_refl _, Nat.le_refl _⟩ rfl (Nat.le_of_ble_eq_true rfl) ?_
          rintro _ w' ⟨rb, rfl, hrb, rfl⟩
          change ze_V G l (ze_rm 1 0 0) M0_isSound _ 67 [(0, .ref p), (1, ze_i ((s : Nat)))] [ze_i (rb)] w' 0 0
          refine ze_if_ne 72 dX0_isSound_67 (by decide) (tf_rng hrb) (fun q3 => ?_) (fun q3 => ?_)
          · refine ze_iinc (b := ((s + 1 : Nat))) (lv' := [(0, .ref p), (1, ze_i (((s + 1 : Nat))))]) dX0_isSound_72 rfl rfl (by omega) rfl ?_
            refine ze_goto 20 dX0_isSound_75 (by decide) ?_
            exact ih (s + 1) (by omega) (fun q hq => by
              by_cases e : q = s
              · rw [e]; exact ⟨tf_n hra q2, tf_n hrb q3⟩
              · exact he q (by omega))
          · refine ze_iconst dX0_isSound_70 ?_
            rw [← hQ]
            exact ze_zreturn rfl dX0_isSound_71 (by decide) ⟨_, rfl, Or.inr ⟨rfl, fun h0 => tf_z hrb q3 (h0.2 s hsn).2⟩, rfl⟩ rfl rfl
  change ze_V G l (ze_rm 1 0 0) M0_isSound Z 0 [(0, .ref p)] [] w 0 0
  refine ze_aload_n dX0_isSound_0 rfl ?_
  refine ze_aload_n dX0_isSound_1 rfl ?_
  refine ze_getf dX0_isSound_2 fl_X0_30 hp rfl ?_
  refine ze_iconst dX0_isSound_5 ?_
  refine ze_ti (b := ((0 : Nat) : Nat)) rfl ?_
  refine ze_aload_n dX0_isSound_6 rfl ?_
  refine ze_getf dX0_isSound_7 fl_X0_18 hp rfl ?_
  refine ze_callV (As := [.ref (p + 1), ze_i (((0 : Nat) : Nat)), ze_i ((cn ar c : Nat))]) (rest := []) dX0_isSound_10 (C0_isTotal (fm := 0) (n := cn ar c) (g := cb ar c) h hb ⟨by omega, by omega⟩ (fun i hi => ⟨by rw [Nat.zero_add]; exact eb i hi, (mch_b hK (by omega)).2⟩)) mo0_isTotal ml_X0_61 in_0_isTotal se_0_isTotal hp rfl rfl rfl rfl rfl ⟨Nat.le_refl _, Nat.le_refl _⟩ rfl (Nat.le_of_ble_eq_true rfl) ?_
  rintro _ w' ⟨ra, rfl, hra, rfl⟩
  change ze_V G l (ze_rm 1 0 0) M0_isSound _ 13 [(0, .ref p)] [ze_i (ra)] w' 0 0
  refine ze_if_ne 18 dX0_isSound_13 (by decide) (tf_rng hra) (fun q1 => ?_) (fun q1 => ?_)
  · refine ze_iconst dX0_isSound_18 ?_
    refine ze_ti (b := ((0 : Nat) : Nat)) rfl ?_
    refine ze_istore_n (lv' := [(0, .ref p), (1, ze_i (((0 : Nat) : Nat)))]) dX0_isSound_19 rfl rfl ?_
    exact loop (tf_n hra q1) (cn ar c) 0 (by omega) (fun q hq => absurd hq (Nat.not_lt_zero _))
  · refine ze_iconst dX0_isSound_16 ?_
    rw [← hQ]
    exact ze_zreturn rfl dX0_isSound_17 (by decide) ⟨_, rfl, Or.inr ⟨rfl, fun h0 => tf_z hra q1 h0.1⟩, rfl⟩ rfl rfl
theorem C2_fits {G : ze_G} {l : Launch} {w : ze_W} {ar : Nat → Nat → Int} {P p : Nat} {c q : Nat} (h : srw G w ar P p) (hq : chr G w ar c q) (hr7 : ∀ i, i < P → -1 ≤ ar 7 i ∧ ar 7 i < 6) : ze_C G l 1 0 0 M2_fits [.ref p, .ref q] w (ze_qi (fun r w' => tf r (∀ i, i < P → ar 7 i < ar 2 c) ∧ w' = w)) := by
  obtain ⟨hP, hp, rf, hr, er⟩ := id h
  obtain ⟨ek, k1, k6⟩ := mch_k hq.1
  refine ze_enter (by decide +kernel) rfl ?_
  generalize hQ : (ze_Q G (ze_qi (fun r w' => tf r (∀ i, i < P → ar 7 i < ar 2 c) ∧ w' = w)) 0 0) = Z
  have loop : ∀ (d i : Nat), i + d = P → (∀ j, j < i → ar 7 j < ar 2 c) → ze_V G l (ze_rm 1 0 0) M2_fits Z 2 [(0, .ref p), (1, .ref q), (2, ze_i ((i : Nat)))] [] w 0 0 := by
    intro d
    induction d with
    | zero =>
      intro i hi he
      rw [← hQ]
      refine ze_iload_n dX2_fits_2 rfl ?_
      refine ze_aload_n dX2_fits_3 rfl ?_
      refine ze_getf dX2_fits_4 fl_X2_15 hp rfl ?_
      refine ze_icmp_ge 41 dX2_fits_7 (by decide) (by omega) (by omega) (fun q1 => ?_) (fun q1 => ?_)
      · refine ze_iconst dX2_fits_41 ?_
        exact ze_zreturn rfl dX2_fits_42 (by decide) ⟨_, rfl, Or.inl ⟨rfl, fun j hj => he j (by omega)⟩, rfl⟩ rfl rfl
      · omega
    | succ d ih =>
      intro i hi he
      have hri := hr7 i (by omega)
      have eri := er i (by omega)
      refine ze_iload_n dX2_fits_2 rfl ?_
      refine ze_aload_n dX2_fits_3 rfl ?_
      refine ze_getf dX2_fits_4 fl_X2_15 hp rfl ?_
      refine ze_icmp_ge 41 dX2_fits_7 (by decide) (by omega) (by omega) (fun q1 => ?_) (fun q1 => ?_)
      · omega
      · refine ze_aload_n dX2_fits_10 rfl ?_
        refine ze_getf dX2_fits_11 fl_X2_9 hp rfl ?_
        refine ze_iload_n dX2_fits_14 rfl ?_
        refine ze_iald (j := i) dX2_fits_15 hr (by omega) (by omega) (by omega) ?_
        rw [eri]
        refine ze_iconst dX2_fits_16 ?_
        refine ze_icmp_eq 35 dX2_fits_17 (by decide) (by omega) (by omega) (fun q2 => ?_) (fun q2 => ?_)
        · refine ze_iinc (b := ((i + 1 : Nat))) (lv' := [(0, .ref p), (1, .ref q), (2, ze_i (((i + 1 : Nat))))]) dX2_fits_35 rfl rfl (by omega) rfl ?_
          refine ze_goto 2 dX2_fits_38 (by decide) ?_
          exact ih (i + 1) (by omega) (fun j hj => by
            by_cases e : j = i
            · rw [e]; omega
            · exact he j (by omega))
        · refine ze_aload_n dX2_fits_20 rfl ?_
          refine ze_aload_n dX2_fits_21 rfl ?_
          refine ze_getf dX2_fits_22 fl_X2_9 hp rfl ?_
          refine ze_iload_n dX2_fits_25 rfl ?_
          refine ze_iald (j := i) dX2_fits_26 hr (by omega) (by omega) (by omega) ?_
          rw [eri]
          refine ze_callV (As := [ze_i (ar 7 i)]) (rest := []) dX2_fits_27 (C0_hasSign hq (by omega)) mo0_hasSign ml_X2_27 in_0_hasSign se_0_hasSign hq.2.1 rfl rfl rfl rfl rfl ⟨Nat.le_refl _, Nat.le_refl _⟩ rfl (Nat.le_of_ble_eq_true rfl) ?_
          rintro _ w' ⟨r3, rfl, rfl, rfl⟩
          change ze_V G l (ze_rm 1 0 0) M2_fits _ 30 [(0, .ref p), (1, .ref q), (2, ze_i ((i : Nat)))] [ze_i (bi (0 ≤ ar 7 i ∧ ar 7 i < ((ck ar c : Nat) : Int)))] w' 0 0
          refine ze_if_ne 35 dX2_fits_30 (by decide) (bi_rng _) (fun q4 => ?_) (fun q4 => ?_)
          · rw [bi_n] at q4
            refine ze_iinc (b := ((i + 1 : Nat))) (lv' := [(0, .ref p), (1, .ref q), (2, ze_i (((i + 1 : Nat))))]) dX2_fits_35 rfl rfl (by omega) rfl ?_
            refine ze_goto 2 dX2_fits_38 (by decide) ?_
            exact ih (i + 1) (by omega) (fun j hj => by
              by_cases e : j = i
              · rw [e]; omega
              · exact he j (by omega))
          · rw [bi_z] at q4
            refine ze_iconst dX2_fits_33 ?_
            rw [← hQ]
            exact ze_zreturn rfl dX2_fits_34 (by decide) ⟨_, rfl, Or.inr ⟨rfl, fun h0 => by have := h0 i (by omega); omega⟩, rfl⟩ rfl rfl
  change ze_V G l (ze_rm 1 0 0) M2_fits Z 0 [(0, .ref p), (1, .ref q)] [] w 0 0
  refine ze_iconst dX2_fits_0 ?_
  refine ze_ti (b := ((0 : Nat) : Nat)) rfl ?_
  refine ze_istore_n (lv' := [(0, .ref p), (1, .ref q), (2, ze_i (((0 : Nat) : Nat)))]) dX2_fits_1 rfl rfl ?_
  exact loop P 0 (by omega) (fun j hj => absurd hj (Nat.not_lt_zero _))
