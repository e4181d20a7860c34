/-! Whole: scaled -/
theorem C5_setScaled {G : ze_G} {l : Launch} {w : ze_W} {a b L Lb v0 v F : Nat} (ha : whz G w a L v0) (hb : whz G w b Lb v) (hab : a ≠ b) (hv : v < 1000000000 ^ (L - 1)) (hF : F ≤ 1000000) : ze_C G l 2 0 0 M5_setScaled [.ref a, .ref b, ze_l (F : Nat)] w (ze_qv (fun w' => bfr w w' a ∧ whz G w' a L (v * F))) := by
  obtain ⟨f, n0, ha, -, -⟩ := ha
  obtain ⟨fb, nb, hb, zb, eb, kb⟩ := ev_many hb hv
  have x1 := wh_x ha hb
  have x2 := wh_x hb ha
  obtain ⟨ga, gb, gn, gL, gf⟩ := id ha
  obtain ⟨ba0, bb0, bn, bL, bf⟩ := id hb
  refine ze_enter (by decide +kernel) rfl ?_
  generalize hQ : (ze_Q G (ze_qv (fun w' => bfr w w' a ∧ whz G w' a L (v * F))) 0 0) = Z
  have loop : ∀ (d j cy : Nat) (r : Nat → Nat) (w1 : ze_W), j + d = nb → cy ≤ F → bfr w w1 a → w1.2 a = some (ze_ob 5 [.ref (a + 1), ze_i (n0 : Nat)]) → w1.2 (a + 1) = some (ze_ia G L (fun j => (r j : Nat))) → (∀ j, r j < 1000000000) → nv 1000000000 r j + cy * 1000000000 ^ j = nv 1000000000 fb j * F → ze_V G l (ze_rm 2 0 0) M5_setScaled Z 22 [(0, .ref a), (1, .ref b), (2, ze_l ((F : Nat))), (4, ze_i ((nb : Nat))), (5, ze_l ((cy : Nat))), (7, ze_i ((j : Nat)))] [] w1 0 0 := by
    intro d
    induction d with
    | zero =>
      intro j cy r w1 hj hcy fr ca cb rf hs
      have hjn : j = nb := by omega
      rw [hjn] at hs
      rw [← hQ]
      have hb1 := wh_fr fr ha hb hab
      obtain ⟨ba, bb, -, -, -⟩ := id hb1
      refine ze_iload dX5_setScaled_22 rfl ?_
      refine ze_iload dX5_setScaled_24 rfl ?_
      refine ze_icmp_ge 72 dX5_setScaled_26 (by decide) (by omega) (by omega) (fun q1 => ?_) (fun q1 => ?_)
      · refine ze_aload_n dX5_setScaled_72 rfl ?_
        refine ze_getf dX5_setScaled_73 fl_X5_15 ca rfl ?_
        refine ze_iload dX5_setScaled_76 rfl ?_
        refine ze_lload dX5_setScaled_78 rfl ?_
        refine ze_l2i dX5_setScaled_80 ?_
        refine ze_iastW (j := nb) (f' := fun q => ((va_up r nb cy q : Nat) : Int)) dX5_setScaled_81 cb rfl (by omega) (by omega) (ze_vu _ _ _) (fun w1 z1 c1 o1 => ?_)
        have h1_0 := (o1 a (by omega)).trans ca
        have h1_2 := (o1 b (by omega)).trans ba
        have h1_3 := (o1 (b + 1) (by omega)).trans bb
        refine ze_aload_n dX5_setScaled_82 rfl ?_
        refine ze_iload dX5_setScaled_83 rfl ?_
        refine ze_iconst dX5_setScaled_85 ?_
        refine ze_iadd dX5_setScaled_86 ?_
        refine ze_ti (b := ((nb + 1 : Nat))) (by omega) ?_
        refine ze_callV (As := [ze_i (((nb + 1 : Nat)))]) (rest := []) dX5_setScaled_87 (C5_trimFrom (n := nb + 1) (f := va_up r nb cy) ⟨h1_0, c1, gn, gL, up_lt rf (by omega)⟩ (by omega)) mo5_trimFrom ml_X5_25 in_5_trimFrom se_5_trimFrom h1_0 rfl rfl rfl rfl rfl ⟨Nat.le_refl _, Nat.le_refl _⟩ rfl (Nat.le_of_ble_eq_true rfl) ?_
        rintro _ w2 ⟨rfl, n', hn', hz, h0, fr2, hw2⟩
        change ze_V G l (ze_rm 2 0 0) M5_setScaled _ 90 [(0, .ref a), (1, .ref b), (2, ze_l ((F : Nat))), (4, ze_i ((nb : Nat))), (5, ze_l ((cy : Nat))), (7, ze_i ((j : Nat)))] [] w2 0 0
        refine ze_return rfl dX5_setScaled_90 ⟨rfl, ⟨fr2.1.trans (z1.trans fr.1), fun x p q => (fr2.2 x p q).trans ((o1 x q).trans (fr.2 x p q))⟩, ?_⟩ rfl rfl
        have h5 := whz_tr hn' hz h0 hw2
        rw [nv_s, nv_up (Nat.le_refl _), va_up_self, hs, ← eb] at h5
        exact h5
      · omega
    | succ d ih =>
      intro j cy r w1 hj hcy fr ca cb rf hs
      have hb1 := wh_fr fr ha hb hab
      obtain ⟨ba, bb, -, -, -⟩ := id hb1
      obtain ⟨X, hX⟩ : ∃ X, X = fb j := ⟨_, rfl⟩
      have hXb : X < 1000000000 := by rw [hX]; exact bf j
      obtain ⟨D, hD⟩ : ∃ D, D = X * F := ⟨_, rfl⟩
      have hDb : D ≤ 999999999 * F := by rw [hD]; exact Nat.mul_le_mul_right _ (by omega)
      have hra : (0 : Int) ≤ ((D + cy : Nat) : Int) ∧ ((D + cy : Nat) : Int) < 9223372036854775808 := by omega
      refine ze_iload dX5_setScaled_22 rfl ?_
      refine ze_iload dX5_setScaled_24 rfl ?_
      refine ze_icmp_ge 72 dX5_setScaled_26 (by decide) (by omega) (by omega) (fun q1 => ?_) (fun q1 => ?_)
      · omega
      · refine ze_aload_n dX5_setScaled_29 rfl ?_
        refine ze_getf dX5_setScaled_30 fl_X5_15 ba rfl ?_
        refine ze_iload dX5_setScaled_33 rfl ?_
        refine ze_iald (j := j) dX5_setScaled_35 bb (by omega) (by omega) (by omega) ?_
        rw [← hX]
        refine ze_i2l dX5_setScaled_36 (by omega) ?_
        refine ze_lload_n dX5_setScaled_37 rfl ?_
        refine ze_lmul dX5_setScaled_38 ?_
        refine ze_tl (b := (D : Nat)) (by rw [hD]; push_cast; rfl) ?_
        refine ze_lload dX5_setScaled_39 rfl ?_
        refine ze_ladd dX5_setScaled_41 ?_
        refine ze_tl (b := ((D + cy : Nat))) (by omega) ?_
        refine ze_lstore (lv' := [(0, .ref a), (1, .ref b), (2, ze_l ((F : Nat))), (4, ze_i ((nb : Nat))), (5, ze_l ((cy : Nat))), (7, ze_i ((j : Nat))), (8, ze_l (((D + cy : Nat))))]) dX5_setScaled_42 rfl rfl ?_
        refine ze_aload_n dX5_setScaled_44 rfl ?_
        refine ze_getf dX5_setScaled_45 fl_X5_15 ca rfl ?_
        refine ze_iload dX5_setScaled_48 rfl ?_
        refine ze_lload dX5_setScaled_50 rfl ?_
        refine ze_ldc2 (z := 1000000000) dX5_setScaled_52 ct_X5_38 (by decide) ?_
        refine ze_lrem dX5_setScaled_55 hra (by decide) ?_
        refine ze_tl (b := (((D + cy) % 1000000000 : Nat))) (by omega) ?_
        refine ze_l2i dX5_setScaled_56 ?_
        refine ze_iastW (j := j) (f' := fun q => ((va_up r j ((D + cy) % 1000000000) q : Nat) : Int)) dX5_setScaled_57 cb rfl (by omega) (by omega) (ze_vu _ _ _) (fun w1 z1 c1 o1 => ?_)
        have h1_0 := (o1 a (by omega)).trans ca
        have h1_2 := (o1 b (by omega)).trans ba
        have h1_3 := (o1 (b + 1) (by omega)).trans bb
        refine ze_lload dX5_setScaled_58 rfl ?_
        refine ze_ldc2 (z := 1000000000) dX5_setScaled_60 ct_X5_38 (by decide) ?_
        refine ze_ldiv dX5_setScaled_63 hra (by decide) ?_
        refine ze_tl (b := (((D + cy) / 1000000000 : Nat))) (by omega) ?_
        refine ze_lstore (lv' := [(0, .ref a), (1, .ref b), (2, ze_l ((F : Nat))), (4, ze_i ((nb : Nat))), (5, ze_l ((((D + cy) / 1000000000 : Nat)))), (7, ze_i ((j : Nat))), (8, ze_l (((D + cy : Nat))))]) dX5_setScaled_64 rfl rfl ?_
        refine ze_iinc (b := ((j + 1 : Nat))) (lv' := [(0, .ref a), (1, .ref b), (2, ze_l ((F : Nat))), (4, ze_i ((nb : Nat))), (5, ze_l ((((D + cy) / 1000000000 : Nat)))), (7, ze_i (((j + 1 : Nat)))), (8, ze_l (((D + cy : Nat))))]) dX5_setScaled_66 rfl rfl (by omega) rfl ?_
        refine ze_goto 22 dX5_setScaled_69 (by decide) ?_
        refine ze_lv (lv' := [(0, .ref a), (1, .ref b), (2, ze_l ((F : Nat))), (4, ze_i ((nb : Nat))), (5, ze_l ((((D + cy) / 1000000000 : Nat)))), (7, ze_i (((j + 1 : Nat))))]) [0, 1, 2, 3, 4, 5] rfl ?_
        refine ih (j + 1) ((D + cy) / 1000000000) (va_up r j ((D + cy) % 1000000000)) _ (by omega) (by omega) ⟨z1.trans fr.1, fun x p q => (o1 x q).trans (fr.2 x p q)⟩ h1_0 c1 (up_lt rf (Nat.mod_lt _ (by decide))) ?_
        rw [nv_s, nv_s, nv_up (Nat.le_refl _), va_up_self, ← hX, Nat.add_mul, ← hs, Nat.pow_succ, Nat.mul_right_comm X, ← hD]
        have e3 : (D + cy) % 1000000000 * 1000000000 ^ j + (D + cy) / 1000000000 * (1000000000 ^ j * 1000000000) = (D + cy) * 1000000000 ^ j := by
          rw [Nat.mul_comm (1000000000 ^ j) 1000000000, ← Nat.mul_assoc, ← Nat.add_mul]
          congr 1
          omega
        rw [Nat.add_mul] at e3
        omega
  change ze_V G l (ze_rm 2 0 0) M5_setScaled Z 0 [(0, .ref a), (1, .ref b), (2, ze_l ((F : Nat)))] [] w 0 0
  refine ze_aload_n dX5_setScaled_0 rfl ?_
  refine ze_getf dX5_setScaled_1 fl_X5_21 ba0 rfl ?_
  refine ze_aload_n dX5_setScaled_4 rfl ?_
  refine ze_getf dX5_setScaled_5 fl_X5_15 ga rfl ?_
  refine ze_alen dX5_setScaled_8 gb rfl ?_
  refine ze_iconst dX5_setScaled_9 ?_
  refine ze_isub dX5_setScaled_10 ?_
  refine ze_mmin dX5_setScaled_11 ml_X5_29 st_Lib_Math_min_name n_J9 cd_Lib_Math_min_name rfl rfl ⟨Nat.le_refl _, Nat.le_refl _⟩ (by omega) (by omega) ?_
  refine ze_ti (b := (nb : Nat)) (by omega) ?_
  refine ze_istore (lv' := [(0, .ref a), (1, .ref b), (2, ze_l ((F : Nat))), (4, ze_i ((nb : Nat)))]) dX5_setScaled_14 rfl rfl ?_
  refine ze_lconst (z := 0) dX5_setScaled_16 (by decide) ?_
  refine ze_tl (b := ((0 : Nat) : Nat)) rfl ?_
  refine ze_lstore (lv' := [(0, .ref a), (1, .ref b), (2, ze_l ((F : Nat))), (4, ze_i ((nb : Nat))), (5, ze_l (((0 : Nat) : Nat)))]) dX5_setScaled_17 rfl rfl ?_
  refine ze_iconst dX5_setScaled_19 ?_
  refine ze_ti (b := ((0 : Nat) : Nat)) rfl ?_
  refine ze_istore (lv' := [(0, .ref a), (1, .ref b), (2, ze_l ((F : Nat))), (4, ze_i ((nb : Nat))), (5, ze_l (((0 : Nat) : Nat))), (7, ze_i (((0 : Nat) : Nat)))]) dX5_setScaled_20 rfl rfl ?_
  exact loop nb 0 0 f w (by omega) (Nat.zero_le _) (bfr.rf _ _) ga gb gf (by show 0 + 0 * _ = 0 * _; omega)
theorem C5_setScaledA {G : ze_G} {l : Launch} {w : ze_W} {a L v F : Nat} (ha : whz G w a L v) (hv : v < 1000000000 ^ (L - 1)) (hF : F ≤ 1000000) : ze_C G l 2 0 0 M5_setScaled [.ref a, .ref a, ze_l (F : Nat)] w (ze_qv (fun w' => bfr w w' a ∧ whz G w' a L (v * F))) := by
  obtain ⟨f, nb, ha, zb, eb, kb⟩ := ev_many ha hv
  obtain ⟨ga, gb, gn, gL, gf⟩ := id ha
  refine ze_enter (by decide +kernel) rfl ?_
  generalize hQ : (ze_Q G (ze_qv (fun w' => bfr w w' a ∧ whz G w' a L (v * F))) 0 0) = Z
  have loop : ∀ (d j cy : Nat) (r : Nat → Nat) (w1 : ze_W), j + d = nb → cy ≤ F → bfr w w1 a → w1.2 a = some (ze_ob 5 [.ref (a + 1), ze_i (nb : Nat)]) → w1.2 (a + 1) = some (ze_ia G L (fun j => (r j : Nat))) → (∀ j, r j < 1000000000) → (∀ q, j ≤ q → r q = f q) → nv 1000000000 r j + cy * 1000000000 ^ j = nv 1000000000 f j * F → ze_V G l (ze_rm 2 0 0) M5_setScaled Z 22 [(0, .ref a), (1, .ref a), (2, ze_l ((F : Nat))), (4, ze_i ((nb : Nat))), (5, ze_l ((cy : Nat))), (7, ze_i ((j : Nat)))] [] w1 0 0 := by
    intro d
    induction d with
    | zero =>
      intro j cy r w1 hj hcy fr ca cb rf he hs
      have hjn : j = nb := by omega
      rw [hjn] at hs
      rw [← hQ]
      refine ze_iload dX5_setScaled_22 rfl ?_
      refine ze_iload dX5_setScaled_24 rfl ?_
      refine ze_icmp_ge 72 dX5_setScaled_26 (by decide) (by omega) (by omega) (fun q1 => ?_) (fun q1 => ?_)
      · refine ze_aload_n dX5_setScaled_72 rfl ?_
        refine ze_getf dX5_setScaled_73 fl_X5_15 ca rfl ?_
        refine ze_iload dX5_setScaled_76 rfl ?_
        refine ze_lload dX5_setScaled_78 rfl ?_
        refine ze_l2i dX5_setScaled_80 ?_
        refine ze_iastW (j := nb) (f' := fun q => ((va_up r nb cy q : Nat) : Int)) dX5_setScaled_81 cb rfl (by omega) (by omega) (ze_vu _ _ _) (fun w1 z1 c1 o1 => ?_)
        have h1_0 := (o1 a (by omega)).trans ca
        refine ze_aload_n dX5_setScaled_82 rfl ?_
        refine ze_iload dX5_setScaled_83 rfl ?_
        refine ze_iconst dX5_setScaled_85 ?_
        refine ze_iadd dX5_setScaled_86 ?_
        refine ze_ti (b := ((nb + 1 : Nat))) (by omega) ?_
        refine ze_callV (As := [ze_i (((nb + 1 : Nat)))]) (rest := []) dX5_setScaled_87 (C5_trimFrom (n := nb + 1) (f := va_up r nb cy) ⟨h1_0, c1, gn, gL, up_lt rf (by omega)⟩ (by omega)) mo5_trimFrom ml_X5_25 in_5_trimFrom se_5_trimFrom h1_0 rfl rfl rfl rfl rfl ⟨Nat.le_refl _, Nat.le_refl _⟩ rfl (Nat.le_of_ble_eq_true rfl) ?_
        rintro _ w2 ⟨rfl, n', hn', hz, h0, fr2, hw2⟩
        change ze_V G l (ze_rm 2 0 0) M5_setScaled _ 90 [(0, .ref a), (1, .ref a), (2, ze_l ((F : Nat))), (4, ze_i ((nb : Nat))), (5, ze_l ((cy : Nat))), (7, ze_i ((j : Nat)))] [] w2 0 0
        refine ze_return rfl dX5_setScaled_90 ⟨rfl, ⟨fr2.1.trans (z1.trans fr.1), fun x p q => (fr2.2 x p q).trans ((o1 x q).trans (fr.2 x p q))⟩, ?_⟩ rfl rfl
        have h5 := whz_tr hn' hz h0 hw2
        rw [nv_s, nv_up (Nat.le_refl _), va_up_self, hs, ← eb] at h5
        exact h5
      · omega
    | succ d ih =>
      intro j cy r w1 hj hcy fr ca cb rf he hs
      obtain ⟨X, hX⟩ : ∃ X, X = f j := ⟨_, rfl⟩
      have hXb : X < 1000000000 := by rw [hX]; exact gf j
      have hXr : r j = X := by rw [he j (Nat.le_refl _), hX]
      obtain ⟨D, hD⟩ : ∃ D, D = X * F := ⟨_, rfl⟩
      have hDb : D ≤ 999999999 * F := by rw [hD]; exact Nat.mul_le_mul_right _ (by omega)
      have hra : (0 : Int) ≤ ((D + cy : Nat) : Int) ∧ ((D + cy : Nat) : Int) < 9223372036854775808 := by omega
      refine ze_iload dX5_setScaled_22 rfl ?_
      refine ze_iload dX5_setScaled_24 rfl ?_
      refine ze_icmp_ge 72 dX5_setScaled_26 (by decide) (by omega) (by omega) (fun q1 => ?_) (fun q1 => ?_)
      · omega
      · refine ze_aload_n dX5_setScaled_29 rfl ?_
        refine ze_getf dX5_setScaled_30 fl_X5_15 ca rfl ?_
        refine ze_iload dX5_setScaled_33 rfl ?_
        refine ze_iald (j := j) dX5_setScaled_35 cb (by omega) (by omega) (by omega) ?_
        rw [hXr]
        refine ze_i2l dX5_setScaled_36 (by omega) ?_
        refine ze_lload_n dX5_setScaled_37 rfl ?_
        refine ze_lmul dX5_setScaled_38 ?_
        refine ze_tl (b := (D : Nat)) (by rw [hD]; push_cast; rfl) ?_
        refine ze_lload dX5_setScaled_39 rfl ?_
        refine ze_ladd dX5_setScaled_41 ?_
        refine ze_tl (b := ((D + cy : Nat))) (by omega) ?_
        refine ze_lstore (lv' := [(0, .ref a), (1, .ref a), (2, ze_l ((F : Nat))), (4, ze_i ((nb : Nat))), (5, ze_l ((cy : Nat))), (7, ze_i ((j : Nat))), (8, ze_l (((D + cy : Nat))))]) dX5_setScaled_42 rfl rfl ?_
        refine ze_aload_n dX5_setScaled_44 rfl ?_
        refine ze_getf dX5_setScaled_45 fl_X5_15 ca rfl ?_
        refine ze_iload dX5_setScaled_48 rfl ?_
        refine ze_lload dX5_setScaled_50 rfl ?_
        refine ze_ldc2 (z := 1000000000) dX5_setScaled_52 ct_X5_38 (by decide) ?_
        refine ze_lrem dX5_setScaled_55 hra (by decide) ?_
        refine ze_tl (b := (((D + cy) % 1000000000 : Nat))) (by omega) ?_
        refine ze_l2i dX5_setScaled_56 ?_
        refine ze_iastW (j := j) (f' := fun q => ((va_up r j ((D + cy) % 1000000000) q : Nat) : Int)) dX5_setScaled_57 cb rfl (by omega) (by omega) (ze_vu _ _ _) (fun w1 z1 c1 o1 => ?_)
        have h1_0 := (o1 a (by omega)).trans ca
        refine ze_lload dX5_setScaled_58 rfl ?_
        refine ze_ldc2 (z := 1000000000) dX5_setScaled_60 ct_X5_38 (by decide) ?_
        refine ze_ldiv dX5_setScaled_63 hra (by decide) ?_
        refine ze_tl (b := (((D + cy) / 1000000000 : Nat))) (by omega) ?_
        refine ze_lstore (lv' := [(0, .ref a), (1, .ref a), (2, ze_l ((F : Nat))), (4, ze_i ((nb : Nat))), (5, ze_l ((((D + cy) / 1000000000 : Nat)))), (7, ze_i ((j : Nat))), (8, ze_l (((D + cy : Nat))))]) dX5_setScaled_64 rfl rfl ?_
        refine ze_iinc (b := ((j + 1 : Nat))) (lv' := [(0, .ref a), (1, .ref a), (2, ze_l ((F : Nat))), (4, ze_i ((nb : Nat))), (5, ze_l ((((D + cy) / 1000000000 : Nat)))), (7, ze_i (((j + 1 : Nat)))), (8, ze_l (((D + cy : Nat))))]) dX5_setScaled_66 rfl rfl (by omega) rfl ?_
        refine ze_goto 22 dX5_setScaled_69 (by decide) ?_
        refine ze_lv (lv' := [(0, .ref a), (1, .ref a), (2, ze_l ((F : Nat))), (4, ze_i ((nb : Nat))), (5, ze_l ((((D + cy) / 1000000000 : Nat)))), (7, ze_i (((j + 1 : Nat))))]) [0, 1, 2, 3, 4, 5] rfl ?_
        refine ih (j + 1) ((D + cy) / 1000000000) (va_up r j ((D + cy) % 1000000000)) _ (by omega) (by omega) ⟨z1.trans fr.1, fun x p q => (o1 x q).trans (fr.2 x p q)⟩ h1_0 c1 (up_lt rf (Nat.mod_lt _ (by decide))) (fun q hq => by rw [va_up_ne _ _ (by omega)]; exact he q (by omega)) ?_
        rw [nv_s, nv_s, nv_up (Nat.le_refl _), va_up_self, ← hX, Nat.add_mul, ← hs, Nat.pow_succ, Nat.mul_right_comm X, ← hD]
        have e3 : (D + cy) % 1000000000 * 1000000000 ^ j + (D + cy) / 1000000000 * (1000000000 ^ j * 1000000000) = (D + cy) * 1000000000 ^ j := by
          rw [Nat.mul_comm (1000000000 ^ j) 1000000000, ← Nat.mul_assoc, ← Nat.add_mul]
          congr 1
          omega
        rw [Nat.add_mul] at e3
        omega
  change ze_V G l (ze_rm 2 0 0) M5_setScaled Z 0 [(0, .ref a), (1, .ref a), (2, ze_l ((F : Nat)))] [] w 0 0
  refine ze_aload_n dX5_setScaled_0 rfl ?_
  refine ze_getf dX5_setScaled_1 fl_X5_21 ga rfl ?_
  refine ze_aload_n dX5_setScaled_4 rfl ?_
  refine ze_getf dX5_setScaled_5 fl_X5_15 ga rfl ?_
  refine ze_alen dX5_setScaled_8 gb rfl ?_
  refine ze_iconst dX5_setScaled_9 ?_
  refine ze_isub dX5_setScaled_10 ?_
  refine ze_mmin dX5_setScaled_11 ml_X5_29 st_Lib_Math_min_name n_J9 cd_Lib_Math_min_name rfl rfl ⟨Nat.le_refl _, Nat.le_refl _⟩ (by omega) (by omega) ?_
  refine ze_ti (b := (nb : Nat)) (by omega) ?_
  refine ze_istore (lv' := [(0, .ref a), (1, .ref a), (2, ze_l ((F : Nat))), (4, ze_i ((nb : Nat)))]) dX5_setScaled_14 rfl rfl ?_
  refine ze_lconst (z := 0) dX5_setScaled_16 (by decide) ?_
  refine ze_tl (b := ((0 : Nat) : Nat)) rfl ?_
  refine ze_lstore (lv' := [(0, .ref a), (1, .ref a), (2, ze_l ((F : Nat))), (4, ze_i ((nb : Nat))), (5, ze_l (((0 : Nat) : Nat)))]) dX5_setScaled_17 rfl rfl ?_
  refine ze_iconst dX5_setScaled_19 ?_
  refine ze_ti (b := ((0 : Nat) : Nat)) rfl ?_
  refine ze_istore (lv' := [(0, .ref a), (1, .ref a), (2, ze_l ((F : Nat))), (4, ze_i ((nb : Nat))), (5, ze_l (((0 : Nat) : Nat))), (7, ze_i (((0 : Nat) : Nat)))]) dX5_setScaled_20 rfl rfl ?_
  exact loop nb 0 0 f w (by omega) (Nat.zero_le _) (bfr.rf _ _) ga gb gf (fun _ _ => rfl) (by show 0 + 0 * _ = 0 * _; omega)
