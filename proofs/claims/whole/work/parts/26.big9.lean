/-! Big: over -/
theorem td_sg {A B : Nat} {sa sb : Int} (ha : (sa = 1 ∨ sa = -1) ∨ A = 0) (hb : sb = 1 ∨ sb = -1) : (sa * (A : Nat)).tdiv (sb * (B : Nat)) = sa * sb * (A / B : Nat) ∧ (sa * (A : Nat)).tmod (sb * (B : Nat)) = sa * (A % B : Nat) := by
  rw [Int.ofNat_tdiv, Int.ofNat_tmod]
  rcases ha with (rfl | rfl) | rfl <;> rcases hb with rfl | rfl <;> simp [Int.neg_tdiv, Int.tdiv_neg, Int.neg_tmod, Int.tmod_neg]
theorem bgz_cp {G : ze_G} {w : ze_W} {d Ld na : Nat} {fa fd : Nat → Nat} {sa : Int} (h : bg G w d Ld (fun q => if q < na then fa q else fd q) na sa) (za : bnz fa na) (ga : sgn na sa) : bgz G w d Ld (sa * (nv 4294967296 fa na : Nat)) := by
  refine ⟨_, na, sa, h, ?_, ?_, ga⟩
  · rcases za with h | h
    · left; exact h
    · by_cases h0 : na = 0
      · left; exact h0
      · right
        show (if na - 1 < na then fa (na - 1) else fd (na - 1)) ≠ 0
        rw [if_pos (by omega)]
        exact h
  · congr 2
    exact nv_congr (fun j hj => (if_pos hj).symm)
theorem bgz_fr {G : ze_G} {w w' : ze_W} {a b L La : Nat} {fa : Nat → Nat} {na : Nat} {sa z : Int} (hr : bfr w w' a) (ha : bg G w a La fa na sa) (h : bgz G w b L z) (hne : a ≠ b) : bgz G w' b L z := by
  obtain ⟨f, n, sg, h1, h2⟩ := h
  exact ⟨f, n, sg, bg_fr hr ha h1 hne, h2⟩
theorem bgz_nat {G : ze_G} {w : ze_W} {d Ld v : Nat} (h : bgz G w d Ld (v : Nat)) : ∃ (f : Nat → Nat) (n : Nat) (sg : Int), bg G w d Ld f n sg ∧ bnz f n ∧ v = nv 4294967296 f n := by
  obtain ⟨f, n, sg, h1, h2, h3, h4⟩ := h
  refine ⟨f, n, sg, h1, h2, ?_⟩
  rcases h4 with ⟨g1, g2⟩ | ⟨g1, g2 | g2⟩
  · rw [g2, g1, Int.zero_mul] at h3
    rw [g1]
    show v = 0
    omega
  · rw [g2, Int.one_mul] at h3
    omega
  · rw [g2] at h3
    have := bnz_pos h2 g1
    omega
theorem C7_over {G : ze_G} {l : Launch} {w : ze_W} {c Lc : Nat} {fc : Nat → Nat} {nc : Nat} {sc : Int} {a b La Lb : Nat} {x y : Int} {d Ld : Nat} {fd : Nat → Nat} {nd : Nat} {sd : Int} {K : Nat} (hc : bg G w c Lc fc nc sc) (ha : bgz G w a La x) (hb : bgz G w b Lb y) (hd : bg G w d Ld fd nd sd) (hca : c ≠ a) (hcb : c ≠ b) (hcd : c ≠ d) (hda : d ≠ a) (hdb : d ≠ b) (hy0 : y ≠ 0) (hx : x.natAbs < 4294967296 ^ K) (hLc : K ≤ Lc) (hLd : K + 2 ≤ Ld) : ze_C G l 4 0 0 M7_over [.ref c, .ref a, .ref b, .ref d] w (ze_qv (fun w' => bfr2 w w' c d ∧ bgz G w' c Lc (x.tdiv y) ∧ bgz G w' d Ld (x.tmod y))) := by
  obtain ⟨fa, na, sa, ha, za, hx2, ga, ka, -⟩ := bgz_o ha hx
  obtain ⟨fb, nb, sb, hb, zb, hy2, gb⟩ := hb
  have x1 := bg_x hc ha
  have x2 := bg_x ha hc
  have x3 := bg_x hc hb
  have x4 := bg_x hb hc
  have x5 := bg_x hd ha
  have x6 := bg_x ha hd
  have x7 := bg_x hd hb
  have x8 := bg_x hb hd
  have x9 := bg_x hc hd
  have x10 := bg_x hd hc
  have aL := ha.2.2.2.1
  have bL := hb.2.2.2.1
  have cL := hc.2.2.2.1
  have dL := hd.2.2.2.1
  have an := ha.2.2.1
  have bn := hb.2.2.1
  have af := ha.2.2.2.2
  have bf := hb.2.2.2.2
  have cf := hc.2.2.2.2
  have df := hd.2.2.2.2
  obtain ⟨A, hA⟩ : ∃ A, A = nv 4294967296 fa na := ⟨_, rfl⟩
  obtain ⟨Bv, hBv⟩ : ∃ Bv, Bv = nv 4294967296 fb nb := ⟨_, rfl⟩
  have hnb0 : 0 < nb ∧ (sb = 1 ∨ sb = -1) := by
    rcases gb with ⟨g1, g2⟩ | g
    · rw [g2, Int.zero_mul] at hy2
      exact absurd hy2 hy0
    · exact g
  have hB0 : 0 < Bv := by rw [hBv]; exact bnz_pos zb hnb0.1
  have hsA : (sa = 1 ∨ sa = -1) ∨ A = 0 := by
    rcases ga with ⟨g1, g2⟩ | ⟨g1, g2⟩
    · right; rw [hA, g1]; rfl
    · left; exact g2
  have hsg := td_sg (A := A) (B := Bv) hsA hnb0.2
  have ex : x = sa * (A : Nat) := by rw [hx2, hA]
  have ey : y = sb * (Bv : Nat) := by rw [hy2, hBv]
  rw [← ex, ← ey] at hsg
  rw [hsg.1, hsg.2]
  clear hsg ex ey hx2 hy2 hx hy0
  refine ze_enter (by decide +kernel) rfl ?_
  generalize hQ : (ze_Q G (ze_qv (fun w' => bfr2 w w' c d ∧ bgz G w' c Lc (sa * sb * (A / Bv : Nat)) ∧ bgz G w' d Ld (sa * (A % Bv : Nat)))) 0 0) = Z
  have t137 : ∀ (rc : Nat → Nat) (n : Nat) (s2 : Int) (w1 : ze_W), (sa = 1 ∨ sa = -1) → bfr2 w w1 c d → bg G w1 c Lc rc n s2 → nv 4294967296 rc n = A / Bv → bgz G w1 d Ld (A % Bv : Nat) → ze_V G l (ze_rm 4 0 0) M7_over Z 137 [(0, .ref c), (1, .ref a), (2, .ref b), (3, .ref d), (4, ze_i (sa)), (5, ze_i (sb))] [] w1 0 0 := by
    intro rc n s2 w1 hsa fr hc1 hv hd1
    obtain ⟨ca, cb, cn1, -, cf1⟩ := id hc1
    obtain ⟨fd1, nd1, sd1, hd1, zd1, hvd⟩ := bgz_nat hd1
    obtain ⟨da, db, dn1, -, df1⟩ := id hd1
    have hab : sa * sb = 1 ∨ sa * sb = -1 := by
      rcases hsa with h | h <;> rcases hnb0.2 with h2 | h2 <;> rw [h, h2] <;> decide
    rw [← hQ]
    refine ze_aload_n dX7_over_137 rfl ?_
    refine ze_iload dX7_over_138 rfl ?_
    refine ze_iload dX7_over_140 rfl ?_
    refine ze_imul dX7_over_142 ?_
    refine ze_putfW (fs' := [.ref (c + 1), ze_i ((n : Nat)), ze_i (sa * sb)]) dX7_over_143 fl_X7_17 (Or.inl rfl) ca rfl rfl (Nat.le_of_ble_eq_true rfl) rfl (fun w1 z1 c1 o1 => ?_)
    have h1_1 := (o1 (c + 1) (by omega)).trans cb
    have h1_2 := (o1 d (by omega)).trans da
    have h1_3 := (o1 (d + 1) (by omega)).trans db
    refine ze_aload_n dX7_over_146 rfl ?_
    refine ze_callV (As := []) (rest := []) dX7_over_147 (C7_trim (f := rc) (n := n) (L := Lc) (sg := sa * sb) ⟨c1, h1_1, cn1, cL, cf1⟩) mo7_trim ml_X7_26 in_7_trim se_7_trim c1 rfl rfl rfl rfl rfl ⟨Nat.le_refl _, Nat.le_refl _⟩ rfl (Nat.le_of_ble_eq_true rfl) ?_
    rintro _ w' ⟨rfl, n', hn', hnz, hz, fr2, hb2⟩
    have da2 := (fr2.2 d (by omega) (by omega)).trans h1_2
    have db2 := (fr2.2 (d + 1) (by omega) (by omega)).trans h1_3
    obtain ⟨ca2, cb2, -, -, -⟩ := id hb2
    change ze_V G l (ze_rm 4 0 0) M7_over _ 150 [(0, .ref c), (1, .ref a), (2, .ref b), (3, .ref d), (4, ze_i (sa)), (5, ze_i (sb))] [] w' 0 0
    have fin := bgz_tr (Or.inl hab) hn' hnz hz hb2
    rw [hv] at fin
    refine ze_aload_n dX7_over_150 rfl ?_
    refine ze_aload_n dX7_over_151 rfl ?_
    refine ze_getf dX7_over_152 fl_X7_13 da2 rfl ?_
    refine ze_if_ne 162 dX7_over_155 (by decide) (by omega) (fun q1 => ?_) (fun q1 => ?_)
    · refine ze_iload dX7_over_162 rfl ?_
      refine ze_putfW (fs' := [.ref (d + 1), ze_i ((nd1 : Nat)), ze_i (sa)]) dX7_over_164 fl_X7_17 (Or.inl rfl) da2 rfl rfl (Nat.le_of_ble_eq_true rfl) rfl (fun w2 z2 c2 o2 => ?_)
      have h2_1 := (o2 (d + 1) (by omega)).trans db2
      have h2_2 := (o2 c (by omega)).trans ca2
      have h2_3 := (o2 (c + 1) (by omega)).trans cb2
      refine ze_return rfl dX7_over_167 ⟨rfl, ⟨z2.trans (fr2.1.trans (z1.trans fr.1)), fun x p1 p2 p3 p4 => (o2 x p3).trans ((fr2.2 x p1 p2).trans ((o1 x p1).trans (fr.2 x p1 p2 p3 p4)))⟩, ?_, ?_⟩ rfl rfl
      · obtain ⟨f3, n3, s3, ⟨g1, g2, g3⟩, g4⟩ := fin
        exact ⟨f3, n3, s3, ⟨(o2 c (by omega)).trans g1, (o2 (c + 1) (by omega)).trans g2, g3⟩, g4⟩
      · refine ⟨fd1, nd1, sa, ⟨c2, h2_1, dn1, dL, df1⟩, zd1, ?_, ?_⟩
        · rw [← hvd]
        · right; exact ⟨by omega, hsa⟩
    · refine ze_iconst dX7_over_158 ?_
      refine ze_goto 164 dX7_over_159 (by decide) ?_
      refine ze_putfW (fs' := [.ref (d + 1), ze_i ((nd1 : Nat)), ze_i (0)]) dX7_over_164 fl_X7_17 (Or.inl rfl) da2 rfl rfl (Nat.le_of_ble_eq_true rfl) rfl (fun w2 z2 c2 o2 => ?_)
      have h2_1 := (o2 (d + 1) (by omega)).trans db2
      have h2_2 := (o2 c (by omega)).trans ca2
      have h2_3 := (o2 (c + 1) (by omega)).trans cb2
      refine ze_return rfl dX7_over_167 ⟨rfl, ⟨z2.trans (fr2.1.trans (z1.trans fr.1)), fun x p1 p2 p3 p4 => (o2 x p3).trans ((fr2.2 x p1 p2).trans ((o1 x p1).trans (fr.2 x p1 p2 p3 p4)))⟩, ?_, ?_⟩ rfl rfl
      · obtain ⟨f3, n3, s3, ⟨g1, g2, g3⟩, g4⟩ := fin
        exact ⟨f3, n3, s3, ⟨(o2 c (by omega)).trans g1, (o2 (c + 1) (by omega)).trans g2, g3⟩, g4⟩
      · refine ⟨fd1, nd1, 0, ⟨c2, h2_1, dn1, dL, df1⟩, zd1, ?_, ?_⟩
        · rw [← hvd]; rw [show A % Bv = 0 by rw [hvd, show nd1 = 0 by omega]; rfl]; show sa * 0 = 0 * 0; rw [Int.mul_zero]; rfl
        · left; exact ⟨by omega, rfl⟩
  have loop : ∀ (by1 : Nat), 0 < by1 → by1 < 4294967296 → Bv = by1 → (sa = 1 ∨ sa = -1) → ∀ (k R : Nat) (r : Nat → Nat) (w1 : ze_W), k ≤ na → R < by1 → bfr w w1 c → w1.2 c = some (ze_ob 7 [.ref (c + 1), ze_i (na : Nat), ze_i sa]) → w1.2 (c + 1) = some (ze_ia G Lc (fun j => (r j : Nat))) → (∀ j, r j < 4294967296) → (∀ j, j < k → r j = fa j) → nv 4294967296 (fun j => r (k + j)) (na - k) * by1 + R = nv 4294967296 (fun j => fa (k + j)) (na - k) → ze_V G l (ze_rm 4 0 0) M7_over Z 62 [(0, .ref c), (1, .ref a), (2, .ref b), (3, .ref d), (4, ze_i (sa)), (5, ze_i (sb)), (6, ze_i ((by1 : Nat))), (7, ze_l ((R : Nat))), (9, ze_i ((k : Nat) - 1))] [] w1 0 0 := by
    intro by1 hy1 hyb hBy hsa k
    induction k with
    | zero =>
      intro R r w1 hk hR fr ca cb rf he hv
      have hd1 := bg_fr fr hc hd hcd
      obtain ⟨da, db, -, -, -⟩ := id hd1
      refine ze_iload dX7_over_62 rfl ?_
      refine ze_if_lt 121 dX7_over_64 (by decide) (by omega) (fun q1 => ?_) (fun q1 => ?_)
      · refine ze_aload_n dX7_over_121 rfl ?_
        refine ze_lload dX7_over_122 rfl ?_
        refine ze_callV (As := [ze_l ((R : Nat))]) (rest := []) dX7_over_124 (C7_of (v := (R : Nat)) hd1 (by omega) (by omega)) mo7_of ml_X7_81 in_7_of se_7_of da rfl rfl rfl rfl rfl ⟨Nat.le_refl _, Nat.le_refl _⟩ rfl (Nat.le_of_ble_eq_true rfl) ?_
        rintro _ w2 ⟨rfl, fr2, hd2⟩
        change ze_V G l (ze_rm 4 0 0) M7_over _ 127 [(0, .ref c), (1, .ref a), (2, .ref b), (3, .ref d), (4, ze_i (sa)), (5, ze_i (sb)), (6, ze_i ((by1 : Nat))), (7, ze_l ((R : Nat))), (9, ze_i (((0 : Nat)) - 1))] [] w2 0 0
        refine ze_goto 137 dX7_over_127 (by decide) ?_
        refine ze_lv (lv' := [(0, .ref c), (1, .ref a), (2, .ref b), (3, .ref d), (4, ze_i (sa)), (5, ze_i (sb))]) [0, 1, 2, 3, 4, 5] rfl ?_
        have e1 : nv 4294967296 (fun j => r (0 + j)) (na - 0) = nv 4294967296 r na := nv_congr (fun j _ => by rw [Nat.zero_add])
        have e2 : nv 4294967296 (fun j => fa (0 + j)) (na - 0) = A := by rw [hA]; exact nv_congr (fun j _ => by rw [Nat.zero_add])
        rw [e1, e2] at hv
        have e3 : nv 4294967296 r na = A / Bv := by
          rw [← hv, hBy, Nat.add_comm, Nat.add_mul_div_right _ _ (by omega), Nat.div_eq_of_lt hR, Nat.zero_add]
        have e4 : R = A % Bv := by
          rw [← hv, hBy, Nat.add_comm, Nat.add_mul_mod_self_right, Nat.mod_eq_of_lt hR]
        rw [e4] at hd2
        exact t137 r na sa _ hsa ⟨fr2.1.trans fr.1, fun x p1 p2 p3 p4 => (fr2.2 x p3 p4).trans (fr.2 x p1 p2)⟩ ⟨(fr2.2 c (by omega) (by omega)).trans ca, (fr2.2 (c + 1) (by omega) (by omega)).trans cb, by omega, cL, rf⟩ e3 hd2
      · omega
    | succ k ih =>
      intro R r w1 hk hR fr ca cb rf he hv
      have hc1 : bg G w1 c Lc r na sa := ⟨ca, cb, by omega, cL, rf⟩
      obtain ⟨X, hX⟩ : ∃ X, X = fa k := ⟨_, rfl⟩
      have hX1 : bt r na k = X := by unfold bt; rw [if_pos (by omega), he k (by omega), hX]
      have hXb : X < 4294967296 := by rw [hX]; exact af k
      obtain ⟨vv, hvv⟩ : ∃ vv, vv = R * 4294967296 + X := ⟨_, rfl⟩
      have hra : vv < 18446744073709551616 := by omega
      obtain ⟨dq, dr, hdm, hdl, hml, hdq, hdr⟩ : ∃ dq dr, (∀ _ : Unit, by1 * dq + dr = vv) ∧ dq < 4294967296 ∧ dr < by1 ∧ (∀ _ : Unit, dq = vv / by1) ∧ (∀ _ : Unit, dr = vv % by1) := by
        refine ⟨vv / by1, vv % by1, fun _ => Nat.div_add_mod _ _, ?_, Nat.mod_lt _ hy1, fun _ => rfl, fun _ => rfl⟩
        apply Nat.div_lt_of_lt_mul
        have : (R + 1) * 4294967296 ≤ by1 * 4294967296 := Nat.mul_le_mul_right _ hR
        omega
      rw [show ((k + 1 : Nat) : Int) - 1 = (k : Nat) by omega]
      change ze_V G l (ze_rm 4 0 0) M7_over Z 62 [(0, .ref c), (1, .ref a), (2, .ref b), (3, .ref d), (4, ze_i (sa)), (5, ze_i (sb)), (6, ze_i ((by1 : Nat))), (7, ze_l ((R : Nat))), (9, ze_i ((k : Nat)))] [] w1 0 0
      refine ze_iload dX7_over_62 rfl ?_
      refine ze_if_lt 121 dX7_over_64 (by decide) (by omega) (fun q1 => ?_) (fun q1 => ?_)
      · omega
      · refine ze_lload dX7_over_67 rfl ?_
        refine ze_bipush dX7_over_69 (by decide) ?_
        refine ze_lshl (z := (R : Nat) * 4294967296) dX7_over_71 ze_s32 ?_
        refine ze_aload_n dX7_over_72 rfl ?_
        refine ze_iload dX7_over_73 rfl ?_
        refine ze_callV (As := [ze_i ((k : Nat))]) (rest := [ze_l ((R : Nat) * 4294967296)]) dX7_over_75 (C7_at hc1 (k := k) (by omega)) mo7_at ml_X7_50 in_7_at se_7_at ca rfl rfl rfl rfl rfl ⟨Nat.le_refl _, Nat.le_refl _⟩ rfl (Nat.le_of_ble_eq_true rfl) ?_
        rintro _ w' ⟨r', rfl, rfl, rfl⟩
        rw [hX1]
        change ze_V G l (ze_rm 4 0 0) M7_over _ 78 [(0, .ref c), (1, .ref a), (2, .ref b), (3, .ref d), (4, ze_i (sa)), (5, ze_i (sb)), (6, ze_i ((by1 : Nat))), (7, ze_l ((R : Nat))), (9, ze_i ((k : Nat)))] [ze_l ((X : Nat)), ze_l ((R : Nat) * 4294967296)] w' 0 0
        refine ze_lor (z := (R : Nat) * 4294967296 + (X : Nat)) dX7_over_78 (ze_o32 (by omega) (by omega)) ?_
        refine ze_tl (b := (vv : Nat)) (by omega) ?_
        refine ze_lstore (lv' := [(0, .ref c), (1, .ref a), (2, .ref b), (3, .ref d), (4, ze_i (sa)), (5, ze_i (sb)), (6, ze_i ((by1 : Nat))), (7, ze_l ((R : Nat))), (9, ze_i ((k : Nat))), (10, ze_l ((vv : Nat)))]) dX7_over_79 rfl rfl ?_
        refine ze_aload_n dX7_over_81 rfl ?_
        refine ze_getf dX7_over_82 fl_X7_7 ca rfl ?_
        refine ze_iload dX7_over_85 rfl ?_
        refine ze_lload dX7_over_87 rfl ?_
        refine ze_iload dX7_over_89 rfl ?_
        refine ze_msk dX7_over_91 dX7_over_92 dX7_over_95 ct_X7_29 (by omega) ?_
        refine ze_callS (As := [ze_l ((vv : Nat)), ze_l ((by1 : Nat))]) (rest := [ze_i ((k : Nat)), .ref (c + 1)]) dX7_over_96 (CJ_divu (x := (vv : Nat)) (y := (by1 : Nat)) (by omega) (by omega)) moJ13_divideUnsigned ml_X7_72 st_J13_divideUnsigned rfl rfl rfl ⟨Nat.le_refl _, Nat.le_refl _⟩ rfl (Nat.le_of_ble_eq_true rfl) ?_
        rintro _ w' ⟨r', rfl, rfl, rfl⟩
        change ze_V G l (ze_rm 4 0 0) M7_over _ 99 [(0, .ref c), (1, .ref a), (2, .ref b), (3, .ref d), (4, ze_i (sa)), (5, ze_i (sb)), (6, ze_i ((by1 : Nat))), (7, ze_l ((R : Nat))), (9, ze_i ((k : Nat))), (10, ze_l ((vv : Nat)))] [ze_l (((vv : Nat)) / ((by1 : Nat))), ze_i ((k : Nat)), .ref (c + 1)] w' 0 0
        refine ze_tl (b := (dq : Nat)) (by rw [hdq ()]; exact (Int.natCast_ediv _ _).symm) ?_
        refine ze_l2i dX7_over_99 ?_
        refine ze_iastW (j := k) (f' := fun j => ((va_up r k dq j : Nat) : Int)) dX7_over_100 cb (by omega) (by omega) (by omega) (ze_vu _ _ _) (fun w1 z1 c1 o1 => ?_)
        have h1_0 := (o1 c (by omega)).trans ca
        refine ze_lload dX7_over_101 rfl ?_
        refine ze_iload dX7_over_103 rfl ?_
        refine ze_msk dX7_over_105 dX7_over_106 dX7_over_109 ct_X7_29 (by omega) ?_
        refine ze_callS (As := [ze_l ((vv : Nat)), ze_l ((by1 : Nat))]) (rest := []) dX7_over_110 (CJ_remu (x := (vv : Nat)) (y := (by1 : Nat)) (by omega) (by omega)) moJ13_remainderUnsigned ml_X7_78 st_J13_remainderUnsigned rfl rfl rfl ⟨Nat.le_refl _, Nat.le_refl _⟩ rfl (Nat.le_of_ble_eq_true rfl) ?_
        rintro _ w' ⟨r', rfl, rfl, rfl⟩
        change ze_V G l (ze_rm 4 0 0) M7_over _ 113 [(0, .ref c), (1, .ref a), (2, .ref b), (3, .ref d), (4, ze_i (sa)), (5, ze_i (sb)), (6, ze_i ((by1 : Nat))), (7, ze_l ((R : Nat))), (9, ze_i ((k : Nat))), (10, ze_l ((vv : Nat)))] [ze_l (((vv : Nat)) % ((by1 : Nat)))] w' 0 0
        refine ze_tl (b := (dr : Nat)) (by rw [hdr ()]; exact (Int.natCast_emod _ _).symm) ?_
        refine ze_lstore (lv' := [(0, .ref c), (1, .ref a), (2, .ref b), (3, .ref d), (4, ze_i (sa)), (5, ze_i (sb)), (6, ze_i ((by1 : Nat))), (7, ze_l ((dr : Nat))), (9, ze_i ((k : Nat))), (10, ze_l ((vv : Nat)))]) dX7_over_113 rfl rfl ?_
        refine ze_iinc (b := (k : Nat) - 1) (lv' := [(0, .ref c), (1, .ref a), (2, .ref b), (3, .ref d), (4, ze_i (sa)), (5, ze_i (sb)), (6, ze_i ((by1 : Nat))), (7, ze_l ((dr : Nat))), (9, ze_i ((k : Nat) - 1)), (10, ze_l ((vv : Nat)))]) dX7_over_115 rfl rfl (by omega) rfl ?_
        refine ze_goto 62 dX7_over_118 (by decide) ?_
        refine ze_lv (lv' := [(0, .ref c), (1, .ref a), (2, .ref b), (3, .ref d), (4, ze_i (sa)), (5, ze_i (sb)), (6, ze_i ((by1 : Nat))), (7, ze_l ((dr : Nat))), (9, ze_i ((k : Nat) - 1))]) [0, 1, 2, 3, 4, 5, 6, 7, 8] rfl ?_
        refine ih dr (va_up r k dq) _ (by omega) hml ⟨z1.trans fr.1, fun x p q => (o1 x q).trans (fr.2 x p q)⟩ h1_0 c1 (up_lt rf hdl) (fun j hj => by rw [va_up_ne _ _ (by omega)]; exact he j (by omega)) ?_
        rw [show na - k = (na - (k + 1)) + 1 by omega, nv_cons, nv_cons, va_up_self, ← hv, ← hX]
        have e1 : nv 4294967296 (fun j => va_up r k dq (k + 1 + j)) (na - (k + 1)) = nv 4294967296 (fun j => r (k + 1 + j)) (na - (k + 1)) := nv_congr (fun j _ => va_up_ne _ _ (by omega))
        rw [e1]
        generalize nv 4294967296 (fun j => r (k + 1 + j)) (na - (k + 1)) = V at *
        have e2 : (dq + 4294967296 * V) * by1 = by1 * dq + 4294967296 * (V * by1) := by
          rw [Nat.add_mul, Nat.mul_comm by1, Nat.mul_assoc]
        rw [e2]
        have := hdm ()
        omega
  obtain ⟨aa, ab, -, -, -⟩ := id ha
  obtain ⟨ba, bb, -, -, -⟩ := id hb
  obtain ⟨ca, cb, -, -, -⟩ := id hc
  obtain ⟨da, db, -, -, -⟩ := id hd
  change ze_V G l (ze_rm 4 0 0) M7_over Z 0 [(0, .ref c), (1, .ref a), (2, .ref b), (3, .ref d)] [] w 0 0
  refine ze_aload_n dX7_over_0 rfl ?_
  refine ze_aload_n dX7_over_1 rfl ?_
  refine ze_callV (As := [.ref b]) (rest := []) dX7_over_2 (C7_compareSize ha hb za zb) mo7_compareSize ml_X7_41 in_7_compareSize se_7_compareSize aa rfl rfl rfl rfl rfl ⟨Nat.le_refl _, Nat.le_refl _⟩ rfl (Nat.le_of_ble_eq_true rfl) ?_
  rintro _ w' ⟨r', rfl, rfl, rfl⟩
  rw [← hA, ← hBv]
  change ze_V G l (ze_rm 4 0 0) M7_over _ 5 [(0, .ref c), (1, .ref a), (2, .ref b), (3, .ref d)] [ze_i (cmp3 ((A : Nat)) ((Bv : Nat)))] w' 0 0
  refine ze_if_ge 18 dX7_over_5 (by decide) (cmp3_rng _ _) (fun q1 => ?_) (fun q1 => ?_)
  · have q2 : Bv ≤ A := by
      rcases Nat.lt_or_ge A Bv with h | h
      · exfalso
        rw [cmp3_lt (by omega)] at q1
        omega
      · exact h
    have hsa : sa = 1 ∨ sa = -1 := by
      rcases hsA with h | h
      · exact h
      · omega
    clear q1
    refine ze_aload_n dX7_over_18 rfl ?_
    refine ze_getf dX7_over_19 fl_X7_17 aa rfl ?_
    refine ze_istore (lv' := [(0, .ref c), (1, .ref a), (2, .ref b), (3, .ref d), (4, ze_i (sa))]) dX7_over_22 rfl rfl ?_
    refine ze_aload_n dX7_over_24 rfl ?_
    refine ze_getf dX7_over_25 fl_X7_17 ba rfl ?_
    refine ze_istore (lv' := [(0, .ref c), (1, .ref a), (2, .ref b), (3, .ref d), (4, ze_i (sa)), (5, ze_i (sb))]) dX7_over_28 rfl rfl ?_
    refine ze_aload_n dX7_over_30 rfl ?_
    refine ze_getf dX7_over_31 fl_X7_13 ba rfl ?_
    refine ze_iconst dX7_over_34 ?_
    refine ze_icmp_ne 130 dX7_over_35 (by decide) (by omega) (by omega) (fun q1 => ?_) (fun q1 => ?_)
    · refine ze_aload_n dX7_over_130 rfl ?_
      refine ze_aload_n dX7_over_131 rfl ?_
      refine ze_aload_n dX7_over_132 rfl ?_
      refine ze_aload_n dX7_over_133 rfl ?_
      refine ze_callV (As := [.ref a, .ref b, .ref d]) (rest := []) dX7_over_134 (C7_longOver hc ha hb hd hca hcb hcd hda hdb za zb (by omega) (by rw [← hA, ← hBv]; exact q2) (by omega) (by omega)) mo7_longOver ml_X7_85 in_7_longOver se_7_longOver ca rfl rfl rfl rfl rfl ⟨Nat.le_refl _, Nat.le_refl _⟩ rfl (Nat.le_of_ble_eq_true rfl) ?_
      rintro _ w1 ⟨rfl, fr, ⟨rc, hc1, hv⟩, hd1⟩
      rw [← hA, ← hBv] at hv hd1
      change ze_V G l (ze_rm 4 0 0) M7_over _ 137 [(0, .ref c), (1, .ref a), (2, .ref b), (3, .ref d), (4, ze_i (sa)), (5, ze_i (sb))] [] w1 0 0
      exact t137 rc _ sc _ hsa fr hc1 hv hd1
    · have hnb1 : nb = 1 := by omega
      have hBy : Bv = fb 0 := by
        rw [hBv, hnb1]
        show 0 + fb 0 * 4294967296 ^ 0 = fb 0
        rw [Nat.pow_zero, Nat.mul_one, Nat.zero_add]
      have hf0 := bf 0
      refine ze_aload_n dX7_over_38 rfl ?_
      refine ze_getf dX7_over_39 fl_X7_7 ba rfl ?_
      refine ze_iconst dX7_over_42 ?_
      refine ze_iald (j := 0) dX7_over_43 bb (by omega) (by omega) (by omega) ?_
      refine ze_istore (lv' := [(0, .ref c), (1, .ref a), (2, .ref b), (3, .ref d), (4, ze_i (sa)), (5, ze_i (sb)), (6, ze_i ((fb 0 : Nat)))]) dX7_over_44 rfl rfl ?_
      refine ze_aload_n dX7_over_46 rfl ?_
      refine ze_aload_n dX7_over_47 rfl ?_
      refine ze_callV (As := [.ref a]) (rest := []) dX7_over_48 (C7_copy (a := c) (b := a) hc ha hca (by omega)) mo7_copy ml_X7_54 in_7_copy se_7_copy ca rfl rfl rfl rfl rfl ⟨Nat.le_refl _, Nat.le_refl _⟩ rfl (Nat.le_of_ble_eq_true rfl) ?_
      rintro _ w1 ⟨rfl, fr1, hc1⟩
      obtain ⟨ca1, cb1, -, -, cf1⟩ := id hc1
      change ze_V G l (ze_rm 4 0 0) M7_over _ 51 [(0, .ref c), (1, .ref a), (2, .ref b), (3, .ref d), (4, ze_i (sa)), (5, ze_i (sb)), (6, ze_i ((fb 0 : Nat)))] [] w1 0 0
      refine ze_lconst (z := 0) dX7_over_51 (by decide) ?_
      refine ze_tl (b := ((0 : Nat) : Nat)) rfl ?_
      refine ze_lstore (lv' := [(0, .ref c), (1, .ref a), (2, .ref b), (3, .ref d), (4, ze_i (sa)), (5, ze_i (sb)), (6, ze_i ((fb 0 : Nat))), (7, ze_l (((0 : Nat) : Nat)))]) dX7_over_52 rfl rfl ?_
      refine ze_aload_n dX7_over_54 rfl ?_
      refine ze_getf dX7_over_55 fl_X7_13 ca1 rfl ?_
      refine ze_iconst dX7_over_58 ?_
      refine ze_isub dX7_over_59 ?_
      refine ze_istore (lv' := [(0, .ref c), (1, .ref a), (2, .ref b), (3, .ref d), (4, ze_i (sa)), (5, ze_i (sb)), (6, ze_i ((fb 0 : Nat))), (7, ze_l (((0 : Nat) : Nat))), (9, ze_i ((na : Nat) - 1))]) dX7_over_60 rfl rfl ?_
      exact loop (fb 0) (by omega) hf0 hBy hsa na 0 _ _ (Nat.le_refl _) (by omega) fr1 ca1 cb1 cf1 (fun j hj => if_pos hj) (by rw [Nat.sub_self]; show 0 * _ + 0 = 0; omega)
  · have q2 : A < Bv := by
      rcases Nat.lt_or_ge A Bv with h | h
      · exact h
      · exfalso
        unfold cmp3 at q1
        split at q1
        · omega
        · split at q1 <;> omega
    refine ze_aload_n dX7_over_8 rfl ?_
    refine ze_aload_n dX7_over_9 rfl ?_
    refine ze_callV (As := [.ref a]) (rest := []) dX7_over_10 (C7_copy (a := d) (b := a) hd ha hda (by omega)) mo7_copy ml_X7_54 in_7_copy se_7_copy da rfl rfl rfl rfl rfl ⟨Nat.le_refl _, Nat.le_refl _⟩ rfl (Nat.le_of_ble_eq_true rfl) ?_
    rintro _ w1 ⟨rfl, fr1, hd1⟩
    have hc1 := bg_fr fr1 hd hc (by omega)
    obtain ⟨ca1, cb1, -, -, -⟩ := id hc1
    change ze_V G l (ze_rm 4 0 0) M7_over _ 13 [(0, .ref c), (1, .ref a), (2, .ref b), (3, .ref d)] [] w1 0 0
    refine ze_aload_n dX7_over_13 rfl ?_
    refine ze_callV (As := []) (rest := []) dX7_over_14 (C7_clear hc1) mo7_clear ml_X7_69 in_7_clear se_7_clear ca1 rfl rfl rfl rfl rfl ⟨Nat.le_refl _, Nat.le_refl _⟩ rfl (Nat.le_of_ble_eq_true rfl) ?_
    rintro _ w2 ⟨rfl, fr2, hc2⟩
    change ze_V G l (ze_rm 4 0 0) M7_over _ 17 [(0, .ref c), (1, .ref a), (2, .ref b), (3, .ref d)] [] w2 0 0
    rw [← hQ]
    refine ze_return rfl dX7_over_17 ⟨rfl, ⟨fr2.1.trans fr1.1, fun x p1 p2 p3 p4 => (fr2.2 x p1 p2).trans (fr1.2 x p3 p4)⟩, ?_, ?_⟩ rfl rfl
    · rw [Nat.div_eq_of_lt q2]
      exact ⟨fc, 0, 0, hc2, Or.inl rfl, by rw [show ((0 : Nat) : Int) = 0 from rfl, Int.mul_zero, Int.zero_mul], Or.inl ⟨rfl, rfl⟩⟩
    · rw [Nat.mod_eq_of_lt q2, hA]
      exact bgz_fr fr2 hc1 (bgz_cp hd1 za ga) hcd
