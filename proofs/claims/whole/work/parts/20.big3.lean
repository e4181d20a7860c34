/-! Big: compares, sums, differences -/
theorem nv_lt_many {f g : Nat → Nat} {n m : Nat} (hf : ∀ j, f j < 4294967296) (hg : bnz g m) (h : n < m) : nv 4294967296 f n < nv 4294967296 g m := by
  have h1 := nv_lt (B := 4294967296) (f := f) (n := n) (fun j _ => hf j)
  rcases hg with h0 | h0
  · omega
  · obtain ⟨k, rfl⟩ : ∃ k, m = k + 1 := ⟨m - 1, by omega⟩
    have h2 := nv_ge (B := 4294967296) (f := g) (n := k) (by simpa using h0)
    have h3 : 4294967296 ^ n ≤ 4294967296 ^ k := Nat.pow_le_pow_right (by decide) (by omega)
    omega
theorem cmp3_lt {a b : Int} (h : a < b) : cmp3 a b = -1 := by unfold cmp3; rw [if_pos h]
theorem cmp3_gt {a b : Int} (h : b < a) : cmp3 a b = 1 := by unfold cmp3; rw [if_neg (by omega), if_neg (by omega)]
theorem cmp3_eq {a b : Int} (h : a = b) : cmp3 a b = 0 := by unfold cmp3; rw [if_neg (by omega), if_pos h]

theorem C7_compareSize {G : ze_G} {l : Launch} {w : ze_W} {a La : Nat} {fa : Nat → Nat} {na : Nat} {sa : Int} {b Lb : Nat} {fb : Nat → Nat} {nb : Nat} {sb : Int} (ha : bg G w a La fa na sa) (hb : bg G w b Lb fb nb sb) (za : bnz fa na) (zb : bnz fb nb) : ze_C G l 2 0 0 M7_compareSize [.ref a, .ref b] w (ze_qi (fun r w' => r = cmp3 (nv 4294967296 fa na : Nat) (nv 4294967296 fb nb : Nat) ∧ w' = w)) := by
  obtain ⟨aa, ab, an, aL, af⟩ := ha
  obtain ⟨ba, bb, bn, bL, bf⟩ := hb
  refine ze_enter (by decide +kernel) rfl ?_
  generalize hQ : (ze_Q G (ze_qi (fun r w' => r = cmp3 (nv 4294967296 fa na : Nat) (nv 4294967296 fb nb : Nat) ∧ w' = w)) 0 0) = Z
  have loop : na = nb → ∀ k : Nat, k ≤ na → (∀ j, k ≤ j → j < na → fa j = fb j) → ze_V G l (ze_rm 2 0 0) M7_compareSize Z 35 [(0, .ref a), (1, .ref b), (2, ze_i ((k : Nat) - 1))] [] w 0 0 := by
    intro hnn k
    induction k with
    | zero =>
      intro hk he
      rw [← hQ]
      refine ze_iload_n dX7_compareSize_35 rfl ?_
      refine ze_if_lt 60 dX7_compareSize_36 (by decide) (by omega) (fun q => ?_) (fun q => ?_)
      · refine ze_iload_n dX7_compareSize_60 rfl ?_
        refine ze_if_ge 68 dX7_compareSize_61 (by decide) (by omega) (fun q => ?_) (fun q => ?_)
        · omega
        · refine ze_iconst dX7_compareSize_64 ?_
          refine ze_goto 83 dX7_compareSize_65 (by decide) ?_
          exact ze_ireturn rfl dX7_compareSize_83 ⟨_, rfl, (cmp3_eq (by rw [← hnn]; exact congrArg _ (nv_congr (fun j hj => he j (Nat.zero_le _) hj)))).symm, rfl⟩ rfl rfl
      · omega
    | succ k ih =>
      intro hk he
      have h1 := af k
      have h2 := bf k
      refine ze_iload_n dX7_compareSize_35 rfl ?_
      refine ze_if_lt 60 dX7_compareSize_36 (by decide) (by omega) (fun q => ?_) (fun q => ?_)
      · omega
      · refine ze_aload_n dX7_compareSize_39 rfl ?_
        refine ze_getf dX7_compareSize_40 fl_X7_7 aa rfl ?_
        refine ze_iload_n dX7_compareSize_43 rfl ?_
        refine ze_iald (j := k) dX7_compareSize_44 ab (by omega) (by omega) (by omega) ?_
        refine ze_aload_n dX7_compareSize_45 rfl ?_
        refine ze_getf dX7_compareSize_46 fl_X7_7 ba rfl ?_
        refine ze_iload_n dX7_compareSize_49 rfl ?_
        refine ze_iald (j := k) dX7_compareSize_50 bb (by omega) (by omega) (by omega) ?_
        refine ze_icmpu_ne 60 dX7_compareSize_51 (by decide) (by omega)  (fun q2 => ?_) (fun q2 => ?_)
        · rw [← hQ]
          refine ze_iload_n dX7_compareSize_60 rfl ?_
          refine ze_if_ge 68 dX7_compareSize_61 (by decide) (by omega) (fun q => ?_) (fun q => ?_)
          · refine ze_aload_n dX7_compareSize_68 rfl ?_
            refine ze_getf dX7_compareSize_69 fl_X7_7 aa rfl ?_
            refine ze_iload_n dX7_compareSize_72 rfl ?_
            refine ze_iald (j := k) dX7_compareSize_73 ab (by omega) (by omega) (by omega) ?_
            refine ze_aload_n dX7_compareSize_74 rfl ?_
            refine ze_getf dX7_compareSize_75 fl_X7_7 ba rfl ?_
            refine ze_iload_n dX7_compareSize_78 rfl ?_
            refine ze_iald (j := k) dX7_compareSize_79 bb (by omega) (by omega) (by omega) ?_
            refine ze_callS (As := [ze_i ((fa k : Nat)), ze_i ((fb k : Nat))]) (rest := []) dX7_compareSize_80 (CJ_cmpu (by omega) (by omega)) moJ6_compareUnsigned ml_X7_37 st_J6_compareUnsigned rfl rfl rfl ⟨Nat.le_refl _, Nat.le_refl _⟩ rfl (Nat.le_of_ble_eq_true rfl) ?_
            rintro _ w' ⟨r, rfl, rfl, rfl⟩
            change ze_V G l (ze_rm 2 0 0) M7_compareSize _ 83 [(0, .ref a), (1, .ref b), (2, ze_i ((((k + 1 : Nat)) : Nat) - 1))] [ze_i (cmp3 (fa k : Nat) (fb k : Nat))] w' 0 0
            refine ze_ireturn rfl dX7_compareSize_83 ⟨_, rfl, ?_, rfl⟩ rfl rfl
            rcases Nat.lt_or_ge (fa k) (fb k) with h | h
            · have h3 := nv_lt_of (B := 4294967296) (n := na) af (by omega) (fun j p q => he j (by omega) q) h
              rw [cmp3_lt (by omega), cmp3_lt (by rw [← hnn]; omega)]
            · have h3 := nv_lt_of (B := 4294967296) (n := na) bf (by omega) (fun j p q => (he j (by omega) q).symm) (show fb k < fa k by omega)
              rw [cmp3_gt (by omega), cmp3_gt (by rw [← hnn]; omega)]
          · omega
        · refine ze_iinc (b := (k : Nat) - 1) (lv' := [(0, .ref a), (1, .ref b), (2, ze_i ((k : Nat) - 1))]) dX7_compareSize_54 rfl rfl (by omega) rfl ?_
          refine ze_goto 35 dX7_compareSize_57 (by decide) ?_
          exact ih (by omega) (fun j p q => by rcases Nat.lt_or_ge k j with h | h; (exact he j h q); (have hjk : j = k := by omega); rw [hjk]; omega)
  change ze_V G l (ze_rm 2 0 0) M7_compareSize Z 0 [(0, .ref a), (1, .ref b)] [] w 0 0
  refine ze_aload_n dX7_compareSize_0 rfl ?_
  refine ze_getf dX7_compareSize_1 fl_X7_13 aa rfl ?_
  refine ze_aload_n dX7_compareSize_4 rfl ?_
  refine ze_getf dX7_compareSize_5 fl_X7_13 ba rfl ?_
  refine ze_icmp_eq 28 dX7_compareSize_8 (by decide) (by omega) (by omega) (fun q1 => ?_) (fun q1 => ?_)
  · refine ze_aload_n dX7_compareSize_28 rfl ?_
    refine ze_getf dX7_compareSize_29 fl_X7_13 aa rfl ?_
    refine ze_iconst dX7_compareSize_32 ?_
    refine ze_isub dX7_compareSize_33 ?_
    refine ze_istore_n (lv' := [(0, .ref a), (1, .ref b), (2, ze_i ((na : Nat) - 1))]) dX7_compareSize_34 rfl rfl ?_
    exact loop (by omega) na (Nat.le_refl _) (fun j p q => by omega)
  · rw [← hQ]
    refine ze_aload_n dX7_compareSize_11 rfl ?_
    refine ze_getf dX7_compareSize_12 fl_X7_13 aa rfl ?_
    refine ze_aload_n dX7_compareSize_15 rfl ?_
    refine ze_getf dX7_compareSize_16 fl_X7_13 ba rfl ?_
    refine ze_icmp_ge 26 dX7_compareSize_19 (by decide) (by omega) (by omega) (fun q2 => ?_) (fun q2 => ?_)
    · refine ze_iconst dX7_compareSize_26 ?_
      exact ze_ireturn rfl dX7_compareSize_27 ⟨_, rfl, (cmp3_gt (by have := nv_lt_many bf za (show nb < na by omega); omega)).symm, rfl⟩ rfl rfl
    · refine ze_iconst dX7_compareSize_22 ?_
      refine ze_goto 27 dX7_compareSize_23 (by decide) ?_
      exact ze_ireturn rfl dX7_compareSize_27 ⟨_, rfl, (cmp3_lt (by have := nv_lt_many af zb (show na < nb by omega); omega)).symm, rfl⟩ rfl rfl
def sgn (n : Nat) (s : Int) : Prop := (n = 0 ∧ s = 0) ∨ (0 < n ∧ (s = 1 ∨ s = -1))
theorem bnz_pos {f : Nat → Nat} {n : Nat} (h : bnz f n) (hn : 0 < n) : 0 < nv 4294967296 f n := by
  rcases h with h | h
  · omega
  · obtain ⟨k, rfl⟩ : ∃ k, n = k + 1 := ⟨n - 1, by omega⟩
    exact nv_pos (by decide) (by simpa using h)
theorem C7_compare {G : ze_G} {l : Launch} {w : ze_W} {a b La Lb : Nat} {x y : Int} (ha : bgz G w a La x) (hb : bgz G w b Lb y) : ze_C G l 3 0 0 M7_compare [.ref a, .ref b] w (ze_qi (fun r w' => r = cmp3 x y ∧ w' = w)) := by
  obtain ⟨fa, na, sa, ha, za, hx, ga⟩ := ha
  obtain ⟨fb, nb, sb, hb, zb, hy, gb⟩ := hb
  have pa : 0 < na → 0 < nv 4294967296 fa na := bnz_pos za
  have pb : 0 < nb → 0 < nv 4294967296 fb nb := bnz_pos zb
  have n0a : na = 0 → nv 4294967296 fa na = 0 := fun h => by rw [h]; rfl
  have n0b : nb = 0 → nv 4294967296 fb nb = 0 := fun h => by rw [h]; rfl
  obtain ⟨aa, ab, an, aL, af⟩ := id ha
  obtain ⟨ba, bb, bn, bL, bf⟩ := id hb
  refine ze_enter (by decide +kernel) rfl ?_
  change ze_V G l (ze_rm 3 0 0) M7_compare _ 0 [(0, .ref a), (1, .ref b)] [] w 0 0
  refine ze_aload_n dX7_compare_0 rfl ?_
  refine ze_getf dX7_compare_1 fl_X7_17 aa rfl ?_
  refine ze_aload_n dX7_compare_4 rfl ?_
  refine ze_getf dX7_compare_5 fl_X7_17 ba rfl ?_
  refine ze_icmp_eq 28 dX7_compare_8 (by decide) (by omega) (by omega) (fun q1 => ?_) (fun q1 => ?_)
  · refine ze_aload_n dX7_compare_28 rfl ?_
    refine ze_getf dX7_compare_29 fl_X7_17 aa rfl ?_
    refine ze_aload_n dX7_compare_32 rfl ?_
    refine ze_aload_n dX7_compare_33 rfl ?_
    refine ze_callV (As := [.ref b]) (rest := [ze_i (sa)]) dX7_compare_34 (C7_compareSize ha hb za zb) mo7_compareSize ml_X7_41 in_7_compareSize se_7_compareSize aa rfl rfl rfl rfl rfl ⟨Nat.le_refl _, Nat.le_refl _⟩ rfl (Nat.le_of_ble_eq_true rfl) ?_
    rintro _ w' ⟨r, rfl, rfl, rfl⟩
    change ze_V G l (ze_rm 3 0 0) M7_compare _ 37 [(0, .ref a), (1, .ref b)] [ze_i (cmp3 (nv 4294967296 fa na : Nat) (nv 4294967296 fb nb : Nat)), ze_i (sa)] w' 0 0
    refine ze_imul dX7_compare_37 ?_
    refine ze_ireturn rfl dX7_compare_38 ⟨_, rfl, ?_, rfl⟩ rfl rfl
    rw [hx, hy, ← q1]
    generalize (nv 4294967296 fa na) = A at *
    generalize (nv 4294967296 fb nb) = B at *
    rcases ga with ⟨g1, g2⟩ | ⟨g1, g2 | g2⟩
    · subst g2
      rw [Int.zero_mul, Int.zero_mul, Int.zero_mul, cmp3_eq rfl]
    · subst g2
      rw [Int.one_mul, Int.one_mul, Int.one_mul]
    · subst g2
      rcases Nat.lt_trichotomy A B with h | h | h
      · rw [cmp3_lt (by omega), cmp3_gt (by omega)]; rfl
      · rw [cmp3_eq (by omega), cmp3_eq (by omega)]; rfl
      · rw [cmp3_gt (by omega), cmp3_lt (by omega)]; rfl
  · refine ze_aload_n dX7_compare_11 rfl ?_
    refine ze_getf dX7_compare_12 fl_X7_17 aa rfl ?_
    refine ze_aload_n dX7_compare_15 rfl ?_
    refine ze_getf dX7_compare_16 fl_X7_17 ba rfl ?_
    refine ze_icmp_ge 26 dX7_compare_19 (by decide) (by omega) (by omega) (fun q2 => ?_) (fun q2 => ?_)
    · refine ze_iconst dX7_compare_26 ?_
      refine ze_ireturn rfl dX7_compare_27 ⟨_, rfl, (cmp3_gt ?_).symm, rfl⟩ rfl rfl
      rw [hx, hy]
      rcases ga with ⟨g1, g2⟩ | ⟨g1, g2 | g2⟩ <;> rcases gb with ⟨g3, g4⟩ | ⟨g3, g4 | g4⟩ <;> (try have pa := pa g1) <;> (try have pb := pb g3) <;> (try have n0a := n0a g1) <;> (try have n0b := n0b g3) <;> subst g2 <;> subst g4 <;> omega
    · refine ze_iconst dX7_compare_22 ?_
      refine ze_goto 27 dX7_compare_23 (by decide) ?_
      refine ze_ireturn rfl dX7_compare_27 ⟨_, rfl, (cmp3_lt ?_).symm, rfl⟩ rfl rfl
      rw [hx, hy]
      rcases ga with ⟨g1, g2⟩ | ⟨g1, g2 | g2⟩ <;> rcases gb with ⟨g3, g4⟩ | ⟨g3, g4 | g4⟩ <;> (try have pa := pa g1) <;> (try have pb := pb g3) <;> (try have n0a := n0a g1) <;> (try have n0b := n0b g3) <;> subst g2 <;> subst g4 <;> omega
theorem C7_addSizes {G : ze_G} {l : Launch} {w : ze_W} {c Lc : Nat} {fc : Nat → Nat} {nc : Nat} {sc : Int} {a La : Nat} {fa : Nat → Nat} {na : Nat} {sa : Int} {b Lb : Nat} {fb : Nat → Nat} {nb : Nat} {sb : Int} (hc : bg G w c Lc fc nc sc) (ha : bg G w a La fa na sa) (hb : bg G w b Lb fb nb sb) (hca : c ≠ a) (hcb : c ≠ b) (hL : max na nb + 1 ≤ Lc) : ze_C G l 1 0 0 M7_addSizes [.ref c, .ref a, .ref b] w (ze_qv (fun w' => ∃ r, bfr w w' c ∧ bg G w' c Lc r (max na nb + 1) sc ∧ nv 4294967296 r (max na nb + 1) = nv 4294967296 fa na + nv 4294967296 fb nb)) := by
  have x1 := bg_x hc ha
  have x2 := bg_x ha hc
  have x3 := bg_x hc hb
  have x4 := bg_x hb hc
  have aL := ha.2.2.2.1
  have bL := hb.2.2.2.1
  have cL := hc.2.2.2.1
  have an := ha.2.2.1
  have bn := hb.2.2.1
  refine ze_enter (by decide +kernel) rfl ?_
  generalize hQ : (ze_Q G (ze_qv (fun w' => ∃ r, bfr w w' c ∧ bg G w' c Lc r (max na nb + 1) sc ∧ nv 4294967296 r (max na nb + 1) = nv 4294967296 fa na + nv 4294967296 fb nb)) 0 0) = Z
  obtain ⟨N, hN⟩ : ∃ N, N = max na nb := ⟨_, rfl⟩
  have loop : ∀ (d k cy : Nat) (r : Nat → Nat) (w1 : ze_W), k + d = N → cy ≤ 1 → bfr w w1 c → bg G w1 c Lc r nc sc → nv 4294967296 r k + cy * 4294967296 ^ k = nv 4294967296 (bt fa na) k + nv 4294967296 (bt fb nb) k → ze_V G l (ze_rm 1 0 0) M7_addSizes Z 18 [(0, .ref c), (1, .ref a), (2, .ref b), (3, ze_i ((N : Nat))), (4, ze_l ((cy : Nat))), (6, ze_i ((k : Nat)))] [] w1 0 0 := by
    intro d
    induction d with
    | zero =>
      intro k cy r w1 hk hcy fr hc1 hv
      obtain ⟨ca, cb, cn, -, cf⟩ := id hc1
      have e1 := nv_bt (B := 4294967296) (f := fa) (n := na) (m := k) (by omega)
      have e2 := nv_bt (B := 4294967296) (f := fb) (n := nb) (m := k) (by omega)
      rw [← hQ]
      refine ze_iload dX7_addSizes_18 rfl ?_
      refine ze_iload_n dX7_addSizes_20 rfl ?_
      refine ze_icmp_ge 65 dX7_addSizes_21 (by decide) (by omega) (by omega) (fun q => ?_) (fun q => ?_)
      · refine ze_aload_n dX7_addSizes_65 rfl ?_
        refine ze_getf dX7_addSizes_66 fl_X7_7 ca rfl ?_
        refine ze_iload_n dX7_addSizes_69 rfl ?_
        refine ze_lload dX7_addSizes_70 rfl ?_
        refine ze_l2i dX7_addSizes_72 ?_
        refine ze_iastM (j := N) (y := ((cy : Nat))) (f' := fun j => ((va_up r N cy j : Nat) : Int)) dX7_addSizes_73 cb (by omega) (by omega) (by omega) rfl (ze_vu _ _ _) (fun w1 z1 c1 o1 => ?_)
        have h1_0 := (o1 c (by omega)).trans ca
        refine ze_aload_n dX7_addSizes_74 rfl ?_
        refine ze_iload_n dX7_addSizes_75 rfl ?_
        refine ze_iconst dX7_addSizes_76 ?_
        refine ze_iadd dX7_addSizes_77 ?_
        refine ze_ti (b := ((N + 1 : Nat))) (by omega) ?_
        refine ze_putfW (fs' := [.ref (c + 1), ze_i (((N + 1 : Nat))), ze_i (sc)]) dX7_addSizes_78 fl_X7_13 (Or.inl rfl) h1_0 rfl rfl (Nat.le_of_ble_eq_true rfl) rfl (fun w2 z2 c2 o2 => ?_)
        have h2_1 := (o2 (c + 1) (by omega)).trans c1
        refine ze_return rfl dX7_addSizes_81 ⟨rfl, va_up r N cy, ⟨z2.trans (z1.trans fr.1), fun x p q => (o2 x p).trans ((o1 x q).trans (fr.2 x p q))⟩, ⟨by rw [← hN]; exact c2, h2_1, by omega, cL, up_lt cf (by omega)⟩, ?_⟩ rfl rfl
        rw [← hN, nv_s, nv_up (Nat.le_refl _), va_up_self]
        have hkN : k = N := by omega
        rw [hkN] at hv e1 e2
        rw [hv, e1, e2]
      · omega
    | succ d ih =>
      intro k cy r w1 hk hcy fr hc1 hv
      obtain ⟨ca, cb, cn, -, cf⟩ := id hc1
      have ha1 := bg_fr fr hc ha hca
      have hb1 := bg_fr fr hc hb hcb
      obtain ⟨aa, ab, -, -, af⟩ := id ha1
      obtain ⟨ba, bb, -, -, bf⟩ := id hb1
      have ux := bt_lt (n := na) af k
      have uy := bt_lt (n := nb) bf k
      obtain ⟨X, hX⟩ : ∃ X, X = bt fa na k := ⟨_, rfl⟩
      obtain ⟨Y, hY⟩ : ∃ Y, Y = bt fb nb k := ⟨_, rfl⟩
      refine ze_iload dX7_addSizes_18 rfl ?_
      refine ze_iload_n dX7_addSizes_20 rfl ?_
      refine ze_icmp_ge 65 dX7_addSizes_21 (by decide) (by omega) (by omega) (fun q => ?_) (fun q => ?_)
      · omega
      · refine ze_lload dX7_addSizes_24 rfl ?_
        refine ze_aload_n dX7_addSizes_26 rfl ?_
        refine ze_iload dX7_addSizes_27 rfl ?_
        refine ze_callV (As := [ze_i ((k : Nat))]) (rest := [ze_l ((cy : Nat))]) dX7_addSizes_29 (C7_at ha1 (k := k) (by omega)) mo7_at ml_X7_50 in_7_at se_7_at aa rfl rfl rfl rfl rfl ⟨Nat.le_refl _, Nat.le_refl _⟩ rfl (Nat.le_of_ble_eq_true rfl) ?_
        rintro _ w' ⟨r', rfl, rfl, rfl⟩
        rw [← hX]
        change ze_V G l (ze_rm 1 0 0) M7_addSizes _ 32 [(0, .ref c), (1, .ref a), (2, .ref b), (3, ze_i ((N : Nat))), (4, ze_l ((cy : Nat))), (6, ze_i ((k : Nat)))] [ze_l ((X : Nat)), ze_l ((cy : Nat))] w' 0 0
        refine ze_aload_n dX7_addSizes_32 rfl ?_
        refine ze_iload dX7_addSizes_33 rfl ?_
        refine ze_callV (As := [ze_i ((k : Nat))]) (rest := [ze_l ((X : Nat)), ze_l ((cy : Nat))]) dX7_addSizes_35 (C7_at hb1 (k := k) (by omega)) mo7_at ml_X7_50 in_7_at se_7_at ba rfl rfl rfl rfl rfl ⟨Nat.le_refl _, Nat.le_refl _⟩ rfl (Nat.le_of_ble_eq_true rfl) ?_
        rintro _ w'' ⟨r', rfl, rfl, rfl⟩
        rw [← hY]
        change ze_V G l (ze_rm 1 0 0) M7_addSizes _ 38 [(0, .ref c), (1, .ref a), (2, .ref b), (3, ze_i ((N : Nat))), (4, ze_l ((cy : Nat))), (6, ze_i ((k : Nat)))] [ze_l ((Y : Nat)), ze_l ((X : Nat)), ze_l ((cy : Nat))] w'' 0 0
        refine ze_ladd dX7_addSizes_38 ?_
        refine ze_ladd dX7_addSizes_39 ?_
        refine ze_tl (b := ((cy + X + Y : Nat))) (by omega) ?_
        refine ze_lstore (lv' := [(0, .ref c), (1, .ref a), (2, .ref b), (3, ze_i ((N : Nat))), (4, ze_l (((cy + X + Y : Nat)))), (6, ze_i ((k : Nat)))]) dX7_addSizes_40 rfl rfl ?_
        refine ze_aload_n dX7_addSizes_42 rfl ?_
        refine ze_getf dX7_addSizes_43 fl_X7_7 ca rfl ?_
        refine ze_iload dX7_addSizes_46 rfl ?_
        refine ze_lload dX7_addSizes_48 rfl ?_
        refine ze_l2i dX7_addSizes_50 ?_
        refine ze_iastM (j := k) (y := (((cy + X + Y) % 4294967296 : Nat))) (f' := fun j => ((va_up r k ((cy + X + Y) % 4294967296) j : Nat) : Int)) dX7_addSizes_51 cb (by omega) (by omega) (by omega) (ze_mod (by omega)) (ze_vu _ _ _) (fun w1 z1 c1 o1 => ?_)
        have h1_0 := (o1 c (by omega)).trans ca
        have h1_2 := (o1 a (by omega)).trans aa
        have h1_3 := (o1 (a + 1) (by omega)).trans ab
        have h1_4 := (o1 b (by omega)).trans ba
        have h1_5 := (o1 (b + 1) (by omega)).trans bb
        refine ze_lload dX7_addSizes_52 rfl ?_
        refine ze_bipush dX7_addSizes_54 (by decide) ?_
        refine ze_lushr (z := (((cy + X + Y) / 4294967296 : Nat))) dX7_addSizes_56 (ze_u32 (by omega) (by omega)) ?_
        refine ze_lstore (lv' := [(0, .ref c), (1, .ref a), (2, .ref b), (3, ze_i ((N : Nat))), (4, ze_l ((((cy + X + Y) / 4294967296 : Nat)))), (6, ze_i ((k : Nat)))]) dX7_addSizes_57 rfl rfl ?_
        refine ze_iinc (b := ((k + 1 : Nat))) (lv' := [(0, .ref c), (1, .ref a), (2, .ref b), (3, ze_i ((N : Nat))), (4, ze_l ((((cy + X + Y) / 4294967296 : Nat)))), (6, ze_i (((k + 1 : Nat))))]) dX7_addSizes_59 rfl rfl (by omega) rfl ?_
        refine ze_goto 18 dX7_addSizes_62 (by decide) ?_
        refine ih (k + 1) ((cy + X + Y) / 4294967296) (va_up r k ((cy + X + Y) % 4294967296)) _ (by omega) (by omega) ⟨z1.trans fr.1, fun x p q => (o1 x q).trans (fr.2 x p q)⟩ ⟨h1_0, c1, cn, cL, up_lt cf (Nat.mod_lt _ (by decide))⟩ ?_
        rw [nv_s, nv_s, nv_s, nv_up (Nat.le_refl _), va_up_self, ← hX, ← hY, Nat.pow_succ]
        have hm := Nat.div_add_mod (cy + X + Y) 4294967296
        generalize 4294967296 ^ k = P at *
        have e3 : (cy + X + Y) % 4294967296 * P + (cy + X + Y) / 4294967296 * (P * 4294967296) = (cy + X + Y) * P := by
          rw [Nat.mul_comm P 4294967296, ← Nat.mul_assoc, ← Nat.add_mul]
          congr 1
          omega
        rw [Nat.add_mul, Nat.add_mul] at e3
        omega
  obtain ⟨ca, cb, cn, -, cf⟩ := id hc
  obtain ⟨aa, ab, -, -, af⟩ := id ha
  obtain ⟨ba, bb, -, -, bf⟩ := id hb
  change ze_V G l (ze_rm 1 0 0) M7_addSizes Z 0 [(0, .ref c), (1, .ref a), (2, .ref b)] [] w 0 0
  refine ze_aload_n dX7_addSizes_0 rfl ?_
  refine ze_getf dX7_addSizes_1 fl_X7_13 aa rfl ?_
  refine ze_aload_n dX7_addSizes_4 rfl ?_
  refine ze_getf dX7_addSizes_5 fl_X7_13 ba rfl ?_
  refine ze_mmax dX7_addSizes_8 ml_X7_45 st_Lib_Math_max_name n_J9 cd_Lib_Math_max_name rfl rfl ⟨Nat.le_refl _, Nat.le_refl _⟩ (by omega) (by omega) ?_
  refine ze_ti (b := (N : Nat)) (by omega) ?_
  refine ze_istore_n (lv' := [(0, .ref c), (1, .ref a), (2, .ref b), (3, ze_i ((N : Nat)))]) dX7_addSizes_11 rfl rfl ?_
  refine ze_lconst (z := 0) dX7_addSizes_12 (by decide) ?_
  refine ze_tl (b := ((0 : Nat) : Nat)) rfl ?_
  refine ze_lstore (lv' := [(0, .ref c), (1, .ref a), (2, .ref b), (3, ze_i ((N : Nat))), (4, ze_l (((0 : Nat) : Nat)))]) dX7_addSizes_13 rfl rfl ?_
  refine ze_iconst dX7_addSizes_15 ?_
  refine ze_ti (b := ((0 : Nat) : Nat)) rfl ?_
  refine ze_istore (lv' := [(0, .ref c), (1, .ref a), (2, .ref b), (3, ze_i ((N : Nat))), (4, ze_l (((0 : Nat) : Nat))), (6, ze_i (((0 : Nat) : Nat)))]) dX7_addSizes_16 rfl rfl ?_
  exact loop N 0 0 fc w (by omega) (by omega) (bfr.rf _ _) hc rfl
