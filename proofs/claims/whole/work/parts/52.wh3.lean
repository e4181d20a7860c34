/-! Whole: products -/
theorem C5_setProduct {G : ze_G} {l : Launch} {w : ze_W} {c a b Lc La Lb v0 x y K1 K2 : Nat} (hc : whz G w c Lc v0) (ha : whz G w a La x) (hb : whz G w b Lb y) (hca : c ≠ a) (hcb : c ≠ b) (hx : x < 1000000000 ^ K1) (hy : y < 1000000000 ^ K2) (hK : K1 + K2 ≤ Lc) : ze_C G l 2 0 0 M5_setProduct [.ref c, .ref a, .ref b] w (ze_qv (fun w' => bfr w w' c ∧ whz G w' c Lc (x * y))) := by
  obtain ⟨fc, nc, hc, -, -⟩ := hc
  obtain ⟨fa, na, ha, za, ea, ka⟩ := ev_many ha hx
  obtain ⟨fb, nb, hb, zb, eb, kb⟩ := ev_many hb hy
  clear hx hy
  have x1 := wh_x hc ha
  have x2 := wh_x ha hc
  have x3 := wh_x hc hb
  have x4 := wh_x hb hc
  obtain ⟨ca0, cb0, cn0, cL, cf⟩ := id hc
  obtain ⟨aa0, ab0, an, aL, af⟩ := id ha
  obtain ⟨ba0, bb0, bn, bL, bf⟩ := id hb
  obtain ⟨N, hN⟩ : ∃ N, N = na + nb := ⟨_, rfl⟩
  refine ze_enter (by decide +kernel) rfl ?_
  generalize hQ : (ze_Q G (ze_qv (fun w' => bfr w w' c ∧ whz G w' c Lc (x * y))) 0 0) = Z
  have outer : ∀ (d i : Nat) (r : Nat → Nat) (w1 : ze_W), i + d = na → bfr w w1 c → w1.2 c = some (ze_ob 5 [.ref (c + 1), ze_i (nc : Nat)]) → w1.2 (c + 1) = some (ze_ia G Lc (fun j => (r j : Nat))) → (∀ j, r j < 1000000000) → nv 1000000000 r (i + nb) = nv 1000000000 fa i * nv 1000000000 fb nb → (∀ q, i + nb ≤ q → q < N → r q = 0) → ze_V G l (ze_rm 2 0 0) M5_setProduct Z 44 [(0, .ref c), (1, .ref a), (2, .ref b), (3, ze_i ((N : Nat))), (4, ze_i ((i : Nat)))] [] w1 0 0 := by
    intro d
    induction d with
    | zero =>
      intro i r w1 hi fr ca cb rf hv hz0
      have ha1 := wh_fr fr hc ha hca
      have hb1 := wh_fr fr hc hb hcb
      obtain ⟨aa, ab, -, -, -⟩ := id ha1
      obtain ⟨ba, bb, -, -, -⟩ := id hb1
      have hin : i = na := by omega
      rw [hin, ← ea, ← eb, ← hN] at hv
      rw [← hQ]
      refine ze_iload dX5_setProduct_44 rfl ?_
      refine ze_aload_n dX5_setProduct_46 rfl ?_
      refine ze_getf dX5_setProduct_47 fl_X5_21 aa rfl ?_
      refine ze_icmp_ge 144 dX5_setProduct_50 (by decide) (by omega) (by omega) (fun q1 => ?_) (fun q1 => ?_)
      · refine ze_aload_n dX5_setProduct_144 rfl ?_
        refine ze_iload_n dX5_setProduct_145 rfl ?_
        refine ze_callV (As := [ze_i ((N : Nat))]) (rest := []) dX5_setProduct_146 (C5_trimFrom (n := N) (f := r) ⟨ca, cb, cn0, cL, rf⟩ (by omega)) mo5_trimFrom ml_X5_25 in_5_trimFrom se_5_trimFrom ca rfl rfl rfl rfl rfl ⟨Nat.le_refl _, Nat.le_refl _⟩ rfl (Nat.le_of_ble_eq_true rfl) ?_
        rintro _ w2 ⟨rfl, n', hn', hz, h0, fr2, hw2⟩
        change ze_V G l (ze_rm 2 0 0) M5_setProduct _ 149 [(0, .ref c), (1, .ref a), (2, .ref b), (3, ze_i ((N : Nat))), (4, ze_i ((i : Nat)))] [] w2 0 0
        refine ze_return rfl dX5_setProduct_149 ⟨rfl, ⟨fr2.1.trans fr.1, fun x p q => (fr2.2 x p q).trans (fr.2 x p q)⟩, ?_⟩ rfl rfl
        have h5 := whz_tr hn' hz h0 hw2
        rw [hv] at h5
        exact h5
      · omega
    | succ d ih =>
      intro i r w1 hi fr ca cb rf hv hz0
      have ha1 := wh_fr fr hc ha hca
      have hb1 := wh_fr fr hc hb hcb
      obtain ⟨aa, ab, -, -, -⟩ := id ha1
      obtain ⟨ba, bb, -, -, -⟩ := id hb1
      obtain ⟨v, hvv⟩ : ∃ v, v = fa i := ⟨_, rfl⟩
      have hvb : v < 1000000000 := by rw [hvv]; exact af i
      have hv1 : bt fa na i = v := by unfold bt; rw [if_pos (by omega), hvv]
      have inner : ∀ (e j cy : Nat) (r2 : Nat → Nat) (w2 : ze_W), j + e = nb + 1 → cy < 1000000000 → (j = nb + 1 → cy = 0) → bfr w w2 c → w2.2 c = some (ze_ob 5 [.ref (c + 1), ze_i (nc : Nat)]) → w2.2 (c + 1) = some (ze_ia G Lc (fun j => (r2 j : Nat))) → (∀ j, r2 j < 1000000000) → (∀ q, i + j ≤ q → r2 q = r q) → nv 1000000000 r2 (i + j) + cy * 1000000000 ^ (i + j) = nv 1000000000 r (i + j) + v * nv 1000000000 (bt fb nb) j * 1000000000 ^ i → ze_V G l (ze_rm 2 0 0) M5_setProduct Z 59 [(0, .ref c), (1, .ref a), (2, .ref b), (3, ze_i ((N : Nat))), (4, ze_i ((i : Nat))), (5, ze_l ((cy : Nat))), (7, ze_i ((j : Nat)))] [] w2 0 0 := by
        intro e
        induction e with
        | zero =>
          intro j cy r2 w2 hj hcy hc0 fr ca cb rf he hs
          have ha1 := wh_fr fr hc ha hca
          have hb1 := wh_fr fr hc hb hcb
          obtain ⟨aa, ab, -, -, -⟩ := id ha1
          obtain ⟨ba, bb, -, -, -⟩ := id hb1
          have hjn : j = nb + 1 := by omega
          have hcy0 := hc0 hjn
          rw [hjn, hcy0, Nat.zero_mul, Nat.add_zero, nv_bt (by omega)] at hs
          refine ze_iload dX5_setProduct_59 rfl ?_
          refine ze_aload_n dX5_setProduct_61 rfl ?_
          refine ze_getf dX5_setProduct_62 fl_X5_21 ba rfl ?_
          refine ze_icmp_gt 138 dX5_setProduct_65 (by decide) (by omega) (by omega) (fun q1 => ?_) (fun q1 => ?_)
          · refine ze_iinc (b := ((i + 1 : Nat))) (lv' := [(0, .ref c), (1, .ref a), (2, .ref b), (3, ze_i ((N : Nat))), (4, ze_i (((i + 1 : Nat)))), (5, ze_l ((cy : Nat))), (7, ze_i ((j : Nat)))]) dX5_setProduct_138 rfl rfl (by omega) rfl ?_
            refine ze_goto 44 dX5_setProduct_141 (by decide) ?_
            refine ze_lv (lv' := [(0, .ref c), (1, .ref a), (2, .ref b), (3, ze_i ((N : Nat))), (4, ze_i (((i + 1 : Nat))))]) [0, 1, 2, 3, 4] rfl ?_
            refine ih (i + 1) r2 _ (by omega) fr ca cb rf ?_ (fun q h1 h2 => by rw [he q (by omega)]; exact hz0 q (by omega) h2)
            rw [show i + 1 + nb = i + (nb + 1) by omega, hs, nv_s, Nat.add_mul, ← hvv, ← Nat.add_assoc, nv_s, hv, hz0 (i + nb) (Nat.le_refl _) (by omega), Nat.zero_mul, Nat.add_zero, Nat.mul_right_comm]
          · omega
        | succ e ihe =>
          intro j cy r2 w2 hj hcy hc0 fr ca cb rf he hs
          have ha1 := wh_fr fr hc ha hca
          have hb1 := wh_fr fr hc hb hcb
          obtain ⟨aa, ab, -, -, -⟩ := id ha1
          obtain ⟨ba, bb, -, -, -⟩ := id hb1
          obtain ⟨Y, hY⟩ : ∃ Y, Y = bt fb nb j := ⟨_, rfl⟩
          have hYb : Y < 1000000000 := by rw [hY]; exact bt_lt bf _
          obtain ⟨X, hX⟩ : ∃ X, X = r2 (i + j) := ⟨_, rfl⟩
          have hXb : X < 1000000000 := by rw [hX]; exact rf _
          obtain ⟨D, hD⟩ : ∃ D, D = v * Y := ⟨_, rfl⟩
          have hDb : D ≤ 999999999 * 999999999 := by rw [hD]; exact Nat.mul_le_mul (by omega) (by omega)
          have hlast : j = nb → D = 0 ∧ X = 0 := by
            intro h
            refine ⟨?_, ?_⟩
            · rw [hD, hY, h]; unfold bt; rw [if_neg (by omega), Nat.mul_zero]
            · rw [hX, he _ (Nat.le_refl _), h]; exact hz0 _ (Nat.le_refl _) (by omega)
          have hra : (0 : Int) ≤ ((X + D + cy : Nat) : Int) ∧ ((X + D + cy : Nat) : Int) < 9223372036854775808 := by omega
          refine ze_iload dX5_setProduct_59 rfl ?_
          refine ze_aload_n dX5_setProduct_61 rfl ?_
          refine ze_getf dX5_setProduct_62 fl_X5_21 ba rfl ?_
          refine ze_icmp_gt 138 dX5_setProduct_65 (by decide) (by omega) (by omega) (fun q1 => ?_) (fun q1 => ?_)
          · omega
          · refine ze_iload dX5_setProduct_68 rfl ?_
            refine ze_iload dX5_setProduct_70 rfl ?_
            refine ze_iadd dX5_setProduct_72 ?_
            refine ze_iload_n dX5_setProduct_73 rfl ?_
            refine ze_icmp_ge 138 dX5_setProduct_74 (by decide) (by omega) (by omega) (fun q2 => ?_) (fun q2 => ?_)
            · omega
            · refine ze_aload_n dX5_setProduct_77 rfl ?_
              refine ze_getf dX5_setProduct_78 fl_X5_15 ca rfl ?_
              refine ze_iload dX5_setProduct_81 rfl ?_
              refine ze_iload dX5_setProduct_83 rfl ?_
              refine ze_iadd dX5_setProduct_85 ?_
              refine ze_iald (j := i + j) dX5_setProduct_86 cb (by omega) (by omega) (by omega) ?_
              rw [← hX]
              refine ze_i2l dX5_setProduct_87 (by omega) ?_
              refine ze_aload_n dX5_setProduct_88 rfl ?_
              refine ze_iload dX5_setProduct_89 rfl ?_
              refine ze_callV (As := [ze_i ((i : Nat))]) (rest := [ze_l ((X : Nat))]) dX5_setProduct_91 (C5_limbAt (k := i) ha1 (by omega)) mo5_limbAt ml_X5_40 in_5_limbAt se_5_limbAt aa rfl rfl rfl rfl rfl ⟨Nat.le_refl _, Nat.le_refl _⟩ rfl (Nat.le_of_ble_eq_true rfl) ?_
              rintro _ w' ⟨r', rfl, rfl, rfl⟩
              rw [hv1]
              change ze_V G l (ze_rm 2 0 0) M5_setProduct _ 94 [(0, .ref c), (1, .ref a), (2, .ref b), (3, ze_i ((N : Nat))), (4, ze_i ((i : Nat))), (5, ze_l ((cy : Nat))), (7, ze_i ((j : Nat)))] [ze_l ((v : Nat)), ze_l ((X : Nat))] w' 0 0
              refine ze_aload_n dX5_setProduct_94 rfl ?_
              refine ze_iload dX5_setProduct_95 rfl ?_
              refine ze_callV (As := [ze_i ((j : Nat))]) (rest := [ze_l ((v : Nat)), ze_l ((X : Nat))]) dX5_setProduct_97 (C5_limbAt (k := j) hb1 (by omega)) mo5_limbAt ml_X5_40 in_5_limbAt se_5_limbAt ba rfl rfl rfl rfl rfl ⟨Nat.le_refl _, Nat.le_refl _⟩ rfl (Nat.le_of_ble_eq_true rfl) ?_
              rintro _ w' ⟨r', rfl, rfl, rfl⟩
              rw [← hY]
              change ze_V G l (ze_rm 2 0 0) M5_setProduct _ 100 [(0, .ref c), (1, .ref a), (2, .ref b), (3, ze_i ((N : Nat))), (4, ze_i ((i : Nat))), (5, ze_l ((cy : Nat))), (7, ze_i ((j : Nat)))] [ze_l ((Y : Nat)), ze_l ((v : Nat)), ze_l ((X : Nat))] w' 0 0
              refine ze_lmul dX5_setProduct_100 ?_
              refine ze_tl (b := (D : Nat)) (by rw [hD]; push_cast; rfl) ?_
              refine ze_ladd dX5_setProduct_101 ?_
              refine ze_lload dX5_setProduct_102 rfl ?_
              refine ze_ladd dX5_setProduct_104 ?_
              refine ze_tl (b := ((X + D + cy : Nat))) (by omega) ?_
              refine ze_lstore (lv' := [(0, .ref c), (1, .ref a), (2, .ref b), (3, ze_i ((N : Nat))), (4, ze_i ((i : Nat))), (5, ze_l ((cy : Nat))), (7, ze_i ((j : Nat))), (8, ze_l (((X + D + cy : Nat))))]) dX5_setProduct_105 rfl rfl ?_
              refine ze_aload_n dX5_setProduct_107 rfl ?_
              refine ze_getf dX5_setProduct_108 fl_X5_15 ca rfl ?_
              refine ze_iload dX5_setProduct_111 rfl ?_
              refine ze_iload dX5_setProduct_113 rfl ?_
              refine ze_iadd dX5_setProduct_115 ?_
              refine ze_lload dX5_setProduct_116 rfl ?_
              refine ze_ldc2 (z := 1000000000) dX5_setProduct_118 ct_X5_38 (by decide) ?_
              refine ze_lrem dX5_setProduct_121 hra (by decide) ?_
              refine ze_tl (b := (((X + D + cy) % 1000000000 : Nat))) (by omega) ?_
              refine ze_l2i dX5_setProduct_122 ?_
              refine ze_iastW (j := i + j) (f' := fun q => ((va_up r2 (i + j) ((X + D + cy) % 1000000000) q : Nat) : Int)) dX5_setProduct_123 cb (by omega) (by omega) (by omega) (ze_vu _ _ _) (fun w81 z81 c81 o81 => ?_)
              have h81_0 := (o81 c (by omega)).trans ca
              have h81_2 := (o81 a (by omega)).trans aa
              have h81_3 := (o81 (a + 1) (by omega)).trans ab
              have h81_4 := (o81 b (by omega)).trans ba
              have h81_5 := (o81 (b + 1) (by omega)).trans bb
              refine ze_lload dX5_setProduct_124 rfl ?_
              refine ze_ldc2 (z := 1000000000) dX5_setProduct_126 ct_X5_38 (by decide) ?_
              refine ze_ldiv dX5_setProduct_129 hra (by decide) ?_
              refine ze_tl (b := (((X + D + cy) / 1000000000 : Nat))) (by omega) ?_
              refine ze_lstore (lv' := [(0, .ref c), (1, .ref a), (2, .ref b), (3, ze_i ((N : Nat))), (4, ze_i ((i : Nat))), (5, ze_l ((((X + D + cy) / 1000000000 : Nat)))), (7, ze_i ((j : Nat))), (8, ze_l (((X + D + cy : Nat))))]) dX5_setProduct_130 rfl rfl ?_
              refine ze_iinc (b := ((j + 1 : Nat))) (lv' := [(0, .ref c), (1, .ref a), (2, .ref b), (3, ze_i ((N : Nat))), (4, ze_i ((i : Nat))), (5, ze_l ((((X + D + cy) / 1000000000 : Nat)))), (7, ze_i (((j + 1 : Nat)))), (8, ze_l (((X + D + cy : Nat))))]) dX5_setProduct_132 rfl rfl (by omega) rfl ?_
              refine ze_goto 59 dX5_setProduct_135 (by decide) ?_
              refine ze_lv (lv' := [(0, .ref c), (1, .ref a), (2, .ref b), (3, ze_i ((N : Nat))), (4, ze_i ((i : Nat))), (5, ze_l ((((X + D + cy) / 1000000000 : Nat)))), (7, ze_i (((j + 1 : Nat))))]) [0, 1, 2, 3, 4, 5, 6] rfl ?_
              refine ihe (j + 1) ((X + D + cy) / 1000000000) (va_up r2 (i + j) ((X + D + cy) % 1000000000)) _ (by omega) (by omega) (fun h => ?_) ⟨z81.trans fr.1, fun x p q => (o81 x q).trans (fr.2 x p q)⟩ h81_0 c81 (up_lt rf (Nat.mod_lt _ (by decide))) (fun q hq => by rw [va_up_ne _ _ (by omega)]; exact he q (by omega)) ?_
              · obtain ⟨g1, g2⟩ := hlast (by omega)
                rw [show X + D + cy = cy by omega]
                exact Nat.div_eq_of_lt hcy
              · rw [show i + (j + 1) = (i + j) + 1 by omega, nv_s, nv_s, nv_s, nv_up (Nat.le_refl _), va_up_self, ← he (i + j) (Nat.le_refl _), ← hX, ← hY, Nat.pow_succ]
                have e4 : v * (nv 1000000000 (bt fb nb) j + Y * 1000000000 ^ j) * 1000000000 ^ i = v * nv 1000000000 (bt fb nb) j * 1000000000 ^ i + D * 1000000000 ^ (i + j) := by
                  rw [Nat.mul_add, Nat.add_mul, ← Nat.mul_assoc v Y, ← hD, Nat.mul_assoc D, ← Nat.pow_add, Nat.add_comm j i]
                rw [e4]
                generalize 1000000000 ^ (i + j) = P at *
                have e3 : (X + D + cy) % 1000000000 * P + (X + D + cy) / 1000000000 * (P * 1000000000) = (X + D + cy) * P := by
                  rw [Nat.mul_comm P 1000000000, ← Nat.mul_assoc, ← Nat.add_mul]
                  congr 1
                  omega
                rw [Nat.add_mul, Nat.add_mul] at e3
                omega
      refine ze_iload dX5_setProduct_44 rfl ?_
      refine ze_aload_n dX5_setProduct_46 rfl ?_
      refine ze_getf dX5_setProduct_47 fl_X5_21 aa rfl ?_
      refine ze_icmp_ge 144 dX5_setProduct_50 (by decide) (by omega) (by omega) (fun q1 => ?_) (fun q1 => ?_)
      · omega
      · refine ze_lconst (z := 0) dX5_setProduct_53 (by decide) ?_
        refine ze_tl (b := ((0 : Nat) : Nat)) rfl ?_
        refine ze_lstore (lv' := [(0, .ref c), (1, .ref a), (2, .ref b), (3, ze_i ((N : Nat))), (4, ze_i ((i : Nat))), (5, ze_l (((0 : Nat) : Nat)))]) dX5_setProduct_54 rfl rfl ?_
        refine ze_iconst dX5_setProduct_56 ?_
        refine ze_ti (b := ((0 : Nat) : Nat)) rfl ?_
        refine ze_istore (lv' := [(0, .ref c), (1, .ref a), (2, .ref b), (3, ze_i ((N : Nat))), (4, ze_i ((i : Nat))), (5, ze_l (((0 : Nat) : Nat))), (7, ze_i (((0 : Nat) : Nat)))]) dX5_setProduct_57 rfl rfl ?_
        exact inner (nb + 1) 0 0 r w1 (by omega) (by decide) (fun h => by omega) fr ca cb rf (fun _ _ => rfl) (by show _ + 0 * _ = _ + v * 0 * _; rw [Nat.zero_mul, Nat.mul_zero, Nat.zero_mul])
  have zero : ∀ (d i : Nat) (r : Nat → Nat) (w1 : ze_W), i + d = N → bfr w w1 c → w1.2 c = some (ze_ob 5 [.ref (c + 1), ze_i (nc : Nat)]) → w1.2 (c + 1) = some (ze_ia G Lc (fun j => (r j : Nat))) → (∀ j, r j < 1000000000) → (∀ j, j < i → r j = 0) → ze_V G l (ze_rm 2 0 0) M5_setProduct Z 21 [(0, .ref c), (1, .ref a), (2, .ref b), (3, ze_i ((N : Nat))), (4, ze_i ((i : Nat)))] [] w1 0 0 := by
    intro d
    induction d with
    | zero =>
      intro i r w1 hi fr ca cb rf hz
      refine ze_iload dX5_setProduct_21 rfl ?_
      refine ze_iload_n dX5_setProduct_23 rfl ?_
      refine ze_icmp_ge 41 dX5_setProduct_24 (by decide) (by omega) (by omega) (fun q1 => ?_) (fun q1 => ?_)
      · refine ze_iconst dX5_setProduct_41 ?_
        refine ze_ti (b := ((0 : Nat) : Nat)) rfl ?_
        refine ze_istore (lv' := [(0, .ref c), (1, .ref a), (2, .ref b), (3, ze_i ((N : Nat))), (4, ze_i (((0 : Nat) : Nat)))]) dX5_setProduct_42 rfl rfl ?_
        refine outer na 0 r w1 (by omega) fr ca cb rf ?_ (fun q h1 h2 => hz q (by omega))
        show nv 1000000000 r (0 + nb) = 0 * _
        rw [Nat.zero_mul, Nat.zero_add]
        have := nv_ext (B := 1000000000) (f := r) (n := 0) nb (fun j _ h2 => hz j (by omega))
        rw [Nat.zero_add] at this
        exact this
      · omega
    | succ d ih =>
      intro i r w1 hi fr ca cb rf hz
      refine ze_iload dX5_setProduct_21 rfl ?_
      refine ze_iload_n dX5_setProduct_23 rfl ?_
      refine ze_icmp_ge 41 dX5_setProduct_24 (by decide) (by omega) (by omega) (fun q1 => ?_) (fun q1 => ?_)
      · omega
      · refine ze_aload_n dX5_setProduct_27 rfl ?_
        refine ze_getf dX5_setProduct_28 fl_X5_15 ca rfl ?_
        refine ze_iload dX5_setProduct_31 rfl ?_
        refine ze_iconst dX5_setProduct_33 ?_
        refine ze_iastW (j := i) (f' := fun q => ((va_up r i 0 q : Nat) : Int)) dX5_setProduct_34 cb (by omega) (by omega) (by omega) (ze_vu _ _ _) (fun w81 z81 c81 o81 => ?_)
        have h81_0 := (o81 c (by omega)).trans ca
        refine ze_iinc (b := ((i + 1 : Nat))) (lv' := [(0, .ref c), (1, .ref a), (2, .ref b), (3, ze_i ((N : Nat))), (4, ze_i (((i + 1 : Nat))))]) dX5_setProduct_35 rfl rfl (by omega) rfl ?_
        refine ze_goto 21 dX5_setProduct_38 (by decide) ?_
        exact ih (i + 1) (va_up r i 0) _ (by omega) ⟨z81.trans fr.1, fun x p q => (o81 x q).trans (fr.2 x p q)⟩ h81_0 c81 (up_lt rf (by decide)) (fun j hj => by by_cases h : j = i; (rw [h, va_up_self]); rw [va_up_ne _ _ h]; exact hz j (by omega))
  change ze_V G l (ze_rm 2 0 0) M5_setProduct Z 0 [(0, .ref c), (1, .ref a), (2, .ref b)] [] w 0 0
  refine ze_aload_n dX5_setProduct_0 rfl ?_
  refine ze_getf dX5_setProduct_1 fl_X5_21 aa0 rfl ?_
  refine ze_aload_n dX5_setProduct_4 rfl ?_
  refine ze_getf dX5_setProduct_5 fl_X5_21 ba0 rfl ?_
  refine ze_iadd dX5_setProduct_8 ?_
  refine ze_aload_n dX5_setProduct_9 rfl ?_
  refine ze_getf dX5_setProduct_10 fl_X5_15 ca0 rfl ?_
  refine ze_alen dX5_setProduct_13 cb0 rfl ?_
  refine ze_mmin dX5_setProduct_14 ml_X5_29 st_Lib_Math_min_name n_J9 cd_Lib_Math_min_name rfl rfl ⟨Nat.le_refl _, Nat.le_refl _⟩ (by omega) (by omega) ?_
  refine ze_ti (b := (N : Nat)) (by omega) ?_
  refine ze_istore_n (lv' := [(0, .ref c), (1, .ref a), (2, .ref b), (3, ze_i ((N : Nat)))]) dX5_setProduct_17 rfl rfl ?_
  refine ze_iconst dX5_setProduct_18 ?_
  refine ze_ti (b := ((0 : Nat) : Nat)) rfl ?_
  refine ze_istore (lv' := [(0, .ref c), (1, .ref a), (2, .ref b), (3, ze_i ((N : Nat))), (4, ze_i (((0 : Nat) : Nat)))]) dX5_setProduct_19 rfl rfl ?_
  exact zero N 0 fc w (by omega) (bfr.rf _ _) ca0 cb0 cf (fun j hj => absurd hj (Nat.not_lt_zero _))
