/-! Big: products, division by a small number, bits -/
theorem bgz_o {G : ze_G} {w : ze_W} {a L K : Nat} {x : Int} (h : bgz G w a L x) (hx : x.natAbs < 4294967296 ^ K) : ∃ (f : Nat → Nat) (n : Nat) (sg : Int), bg G w a L f n sg ∧ bnz f n ∧ x = sg * (nv 4294967296 f n : Nat) ∧ sgn n sg ∧ n ≤ K ∧ x.natAbs = nv 4294967296 f n := by
  obtain ⟨f, n, sg, h1, h2, h3, h4⟩ := h
  have e : x.natAbs = nv 4294967296 f n := by
    rcases h4 with ⟨g1, g2⟩ | ⟨g1, g2 | g2⟩ <;> rw [h3, g2]
    · rw [g1]; rfl
    · rw [Int.one_mul]; rfl
    · rw [Int.neg_mul, Int.one_mul, Int.natAbs_neg]; rfl
  exact ⟨f, n, sg, h1, h2, h3, h4, nv_many (B := 4294967296) (by decide) h2 (by rw [← e]; exact hx), e⟩
theorem bgz_tr {G : ze_G} {w : ze_W} {c Lc : Nat} {r : Nat → Nat} {n n' : Nat} {s : Int} (hs : (s = 1 ∨ s = -1) ∨ (s = 0 ∧ nv 4294967296 r n = 0)) (hn : n' ≤ n) (hz : bnz r n') (h0 : ∀ j, n' ≤ j → j < n → r j = 0) (hb : bg G w c Lc r n' (if n' = 0 then 0 else s)) : bgz G w c Lc (s * (nv 4294967296 r n : Nat)) := by
  rcases hs with hs | ⟨hs, hv⟩
  · exact bgz_trim hs hn hz h0 hb
  · obtain ⟨d, hd⟩ := Nat.exists_eq_add_of_le hn
    have e3 : nv 4294967296 r n = nv 4294967296 r n' := by
      rw [hd]
      exact nv_ext d (fun j h1 h2 => h0 j h1 (by omega))
    have hn0 : n' = 0 := by
      rcases Nat.eq_zero_or_pos n' with h | h
      · exact h
      · have := bnz_pos hz h
        omega
    subst hn0
    refine ⟨r, 0, _, hb, hz, ?_, ?_⟩
    · rw [hs, hv]; rfl
    · left; exact ⟨rfl, by rw [if_pos rfl]⟩
theorem nv_cons {B : Nat} {f : Nat → Nat} (k m : Nat) : nv B (fun j => f (k + j)) (m + 1) = f k + B * nv B (fun j => f (k + 1 + j)) m := by
  have h := nv_split (B := B) (f := fun j => f (k + j)) 1 m
  rw [Nat.add_comm 1 m] at h
  rw [h]
  show 0 + f (k + 0) * B ^ 0 + B ^ 1 * _ = _
  rw [Nat.pow_zero, Nat.mul_one, Nat.zero_add, Nat.pow_one]
  congr 2
  exact nv_congr (fun j _ => by rw [Nat.add_assoc])
theorem C7_times {G : ze_G} {l : Launch} {w : ze_W} {c Lc : Nat} {fc : Nat → Nat} {nc : Nat} {sc : Int} {a b La Lb : Nat} {x y : Int} {K1 K2 : Nat} (hc : bg G w c Lc fc nc sc) (ha : bgz G w a La x) (hb : bgz G w b Lb y) (hca : c ≠ a) (hcb : c ≠ b) (hx : x.natAbs < 4294967296 ^ K1) (hy : y.natAbs < 4294967296 ^ K2) (hL : K1 + K2 ≤ Lc) : ze_C G l 1 0 0 M7_times [.ref c, .ref a, .ref b] w (ze_qv (fun w' => bfr w w' c ∧ bgz G w' c Lc (x * y))) := by
  obtain ⟨fa, na, sa, ha, za, hx2, ga, ka, -⟩ := bgz_o ha hx
  obtain ⟨fb, nb, sb, hb, zb, hy2, gb, kb, -⟩ := bgz_o hb hy
  have x1 := bg_x hc ha
  have x2 := bg_x ha hc
  have x3 := bg_x hc hb
  have x4 := bg_x hb hc
  have aL := ha.2.2.2.1
  have bL := hb.2.2.2.1
  have cL := hc.2.2.2.1
  have an := ha.2.2.1
  have bn := hb.2.2.1
  have af := ha.2.2.2.2
  have bf := hb.2.2.2.2
  obtain ⟨N, hN⟩ : ∃ N, N = na + nb := ⟨_, rfl⟩
  refine ze_enter (by decide +kernel) rfl ?_
  generalize hQ : (ze_Q G (ze_qv (fun w' => bfr w w' c ∧ bgz G w' c Lc (x * y))) 0 0) = Z
  have outer : ∀ (d i : Nat) (r : Nat → Nat) (w1 : ze_W), i + d = na → bfr w w1 c → w1.2 c = some (ze_ob 7 [.ref (c + 1), ze_i (N : Nat), ze_i sc]) → w1.2 (c + 1) = some (ze_ia G Lc (fun j => (r j : Nat))) → (∀ j, r j < 4294967296) → nv 4294967296 r (i + nb) = nv 4294967296 fa i * nv 4294967296 fb nb → ze_V G l (ze_rm 1 0 0) M7_times Z 38 [(0, .ref c), (1, .ref a), (2, .ref b), (3, ze_i ((i : Nat)))] [] w1 0 0 := by
    intro d
    induction d with
    | zero =>
      intro i r w1 hi fr ca cb rf hv
      have ha1 := bg_fr fr hc ha hca
      have hb1 := bg_fr fr hc hb hcb
      obtain ⟨aa, ab, -, -, -⟩ := id ha1
      obtain ⟨ba, bb, -, -, -⟩ := id hb1
      rw [← hQ]
      refine ze_iload_n dX7_times_38 rfl ?_
      refine ze_aload_n dX7_times_39 rfl ?_
      refine ze_getf dX7_times_40 fl_X7_13 aa rfl ?_
      refine ze_icmp_ge 142 dX7_times_43 (by decide) (by omega) (by omega) (fun q => ?_) (fun q => ?_)
      · refine ze_aload_n dX7_times_142 rfl ?_
        refine ze_aload_n dX7_times_143 rfl ?_
        refine ze_getf dX7_times_144 fl_X7_17 aa rfl ?_
        refine ze_aload_n dX7_times_147 rfl ?_
        refine ze_getf dX7_times_148 fl_X7_17 ba rfl ?_
        refine ze_imul dX7_times_151 ?_
        refine ze_putfW (fs' := [.ref (c + 1), ze_i ((N : Nat)), ze_i (sa * sb)]) dX7_times_152 fl_X7_17 (Or.inl rfl) ca rfl rfl (Nat.le_of_ble_eq_true rfl) rfl (fun w1 z1 c1 o1 => ?_)
        have h1_1 := (o1 (c + 1) (by omega)).trans cb
        have h1_2 := (o1 a (by omega)).trans aa
        have h1_3 := (o1 (a + 1) (by omega)).trans ab
        have h1_4 := (o1 b (by omega)).trans ba
        have h1_5 := (o1 (b + 1) (by omega)).trans bb
        refine ze_aload_n dX7_times_155 rfl ?_
        refine ze_callV (As := []) (rest := []) dX7_times_156 (C7_trim (f := r) (n := N) (L := Lc) (sg := sa * sb) ⟨c1, h1_1, by omega, cL, rf⟩) mo7_trim ml_X7_26 in_7_trim se_7_trim c1 rfl rfl rfl rfl rfl ⟨Nat.le_refl _, Nat.le_refl _⟩ rfl (Nat.le_of_ble_eq_true rfl) ?_
        rintro _ w' ⟨rfl, n', hn', hnz, hz, fr2, hb2⟩
        change ze_V G l (ze_rm 1 0 0) M7_times _ 159 [(0, .ref c), (1, .ref a), (2, .ref b), (3, ze_i ((i : Nat)))] [] w' 0 0
        refine ze_return rfl dX7_times_159 ⟨rfl, ⟨fr2.1.trans (z1.trans fr.1), fun x p q => (fr2.2 x p q).trans ((o1 x p).trans (fr.2 x p q))⟩, ?_⟩ rfl rfl
        have hiN : i = na := by omega
        rw [hiN, ← hN] at hv
        have e1 : x * y = sa * sb * (nv 4294967296 r N : Nat) := by
          rw [hv, hx2, hy2]
          push_cast
          rw [Int.mul_assoc, Int.mul_assoc, Int.mul_left_comm (nv 4294967296 fa na : Int) sb]
        rw [e1]
        refine bgz_tr ?_ hn' hnz hz hb2
        rcases ga with ⟨g1, g2⟩ | ⟨g1, g2 | g2⟩
        · right
          refine ⟨by rw [g2, Int.zero_mul], ?_⟩
          rw [hv, g1]
          show 0 * _ = 0
          rw [Nat.zero_mul]
        all_goals
          rcases gb with ⟨g3, g4⟩ | ⟨g3, g4 | g4⟩
          · right
            refine ⟨by rw [g4, Int.mul_zero], ?_⟩
            rw [hv, g3]
            show _ * 0 = 0
            rw [Nat.mul_zero]
          all_goals
            left
            rw [g2, g4]
            decide
      · omega
    | succ d ih =>
      intro i r w1 hi fr ca cb rf hv
      have ha1 := bg_fr fr hc ha hca
      have hb1 := bg_fr fr hc hb hcb
      obtain ⟨aa, ab, -, -, -⟩ := id ha1
      obtain ⟨ba, bb, -, -, -⟩ := id hb1
      have hv1 : bt fa na i = fa i := by unfold bt; rw [if_pos (by omega)]
      obtain ⟨v, hvv⟩ : ∃ v, v = fa i := ⟨_, rfl⟩
      have hvb : v < 4294967296 := by rw [hvv]; exact af i
      have inner : ∀ (e j cy : Nat) (r2 : Nat → Nat) (w2 : ze_W), j + e = nb → cy < 4294967296 → bfr w w2 c → w2.2 c = some (ze_ob 7 [.ref (c + 1), ze_i (N : Nat), ze_i sc]) → w2.2 (c + 1) = some (ze_ia G Lc (fun j => (r2 j : Nat))) → (∀ j, r2 j < 4294967296) → (∀ q, i + j ≤ q → r2 q = r q) → nv 4294967296 r2 (i + j) + cy * 4294967296 ^ (i + j) = nv 4294967296 r (i + j) + v * nv 4294967296 fb j * 4294967296 ^ i → ze_V G l (ze_rm 1 0 0) M7_times Z 59 [(0, .ref c), (1, .ref a), (2, .ref b), (3, ze_i ((i : Nat))), (4, ze_l ((cy : Nat))), (6, ze_l ((v : Nat))), (8, ze_i ((j : Nat)))] [] w2 0 0 := by
        intro e
        induction e with
        | zero =>
          intro j cy r2 w2 hj hcy fr ca cb rf he hs
          have ha1 := bg_fr fr hc ha hca
          have hb1 := bg_fr fr hc hb hcb
          obtain ⟨aa, ab, -, -, -⟩ := id ha1
          obtain ⟨ba, bb, -, -, -⟩ := id hb1
          refine ze_iload dX7_times_59 rfl ?_
          refine ze_aload_n dX7_times_61 rfl ?_
          refine ze_getf dX7_times_62 fl_X7_13 ba rfl ?_
          refine ze_icmp_ge 122 dX7_times_65 (by decide) (by omega) (by omega) (fun q => ?_) (fun q => ?_)
          · refine ze_aload_n dX7_times_122 rfl ?_
            refine ze_getf dX7_times_123 fl_X7_7 ca rfl ?_
            refine ze_iload_n dX7_times_126 rfl ?_
            refine ze_aload_n dX7_times_127 rfl ?_
            refine ze_getf dX7_times_128 fl_X7_13 ba rfl ?_
            refine ze_iadd dX7_times_131 ?_
            refine ze_lload dX7_times_132 rfl ?_
            refine ze_l2i dX7_times_134 ?_
            refine ze_iastM (j := i + nb) (y := ((cy : Nat))) (f' := fun j => ((va_up r2 (i + nb) cy j : Nat) : Int)) dX7_times_135 cb (by omega) (by omega) (by omega) rfl (ze_vu _ _ _) (fun w11 z11 c11 o11 => ?_)
            have h11_0 := (o11 c (by omega)).trans ca
            have h11_2 := (o11 a (by omega)).trans aa
            have h11_3 := (o11 (a + 1) (by omega)).trans ab
            have h11_4 := (o11 b (by omega)).trans ba
            have h11_5 := (o11 (b + 1) (by omega)).trans bb
            refine ze_iinc (b := ((i + 1 : Nat))) (lv' := [(0, .ref c), (1, .ref a), (2, .ref b), (3, ze_i (((i + 1 : Nat)))), (4, ze_l ((cy : Nat))), (6, ze_l ((v : Nat))), (8, ze_i ((j : Nat)))]) dX7_times_136 rfl rfl (by omega) rfl ?_
            refine ze_goto 38 dX7_times_139 (by decide) ?_
            refine ze_lv (lv' := [(0, .ref c), (1, .ref a), (2, .ref b), (3, ze_i (((i + 1 : Nat))))]) [0, 1, 2, 3] rfl ?_
            refine ih (i + 1) (va_up r2 (i + nb) cy) _ (by omega) ⟨z11.trans fr.1, fun x p q => (o11 x q).trans (fr.2 x p q)⟩ h11_0 c11 (up_lt rf hcy) ?_
            have hjn : j = nb := by omega
            rw [hjn] at hs
            rw [show i + 1 + nb = (i + nb) + 1 by omega, nv_s, nv_up (Nat.le_refl _), va_up_self, hs, hv, nv_s, Nat.add_mul, ← hvv, Nat.mul_right_comm]
          · omega
        | succ e ihe =>
          intro j cy r2 w2 hj hcy fr ca cb rf he hs
          have ha1 := bg_fr fr hc ha hca
          have hb1 := bg_fr fr hc hb hcb
          obtain ⟨aa, ab, -, -, -⟩ := id ha1
          obtain ⟨ba, bb, -, -, -⟩ := id hb1
          obtain ⟨Y, hY⟩ : ∃ Y, Y = fb j := ⟨_, rfl⟩
          have hY2 : bt fb nb j = Y := by unfold bt; rw [if_pos (by omega), hY]
          have hYb : Y < 4294967296 := by rw [hY]; exact bf j
          obtain ⟨X, hX⟩ : ∃ X, X = r2 (i + j) := ⟨_, rfl⟩
          have hXb : X < 4294967296 := by rw [hX]; exact rf _
          obtain ⟨D, hD⟩ : ∃ D, D = v * Y := ⟨_, rfl⟩
          have hDb : D ≤ 4294967295 * 4294967295 := by rw [hD]; exact Nat.mul_le_mul (by omega) (by omega)
          have hD2 : ((v : Nat) : Int) * (Y : Nat) = (D : Nat) := by rw [hD]; push_cast; rfl
          refine ze_iload dX7_times_59 rfl ?_
          refine ze_aload_n dX7_times_61 rfl ?_
          refine ze_getf dX7_times_62 fl_X7_13 ba rfl ?_
          refine ze_icmp_ge 122 dX7_times_65 (by decide) (by omega) (by omega) (fun q => ?_) (fun q => ?_)
          · omega
          · refine ze_lload dX7_times_68 rfl ?_
            refine ze_lload dX7_times_70 rfl ?_
            refine ze_aload_n dX7_times_72 rfl ?_
            refine ze_iload dX7_times_73 rfl ?_
            refine ze_callV (As := [ze_i ((j : Nat))]) (rest := [ze_l ((v : Nat)), ze_l ((cy : Nat))]) dX7_times_75 (C7_at hb1 (k := j) (by omega)) mo7_at ml_X7_50 in_7_at se_7_at ba rfl rfl rfl rfl rfl ⟨Nat.le_refl _, Nat.le_refl _⟩ rfl (Nat.le_of_ble_eq_true rfl) ?_
            rintro _ w' ⟨r', rfl, rfl, rfl⟩
            rw [hY2]
            change ze_V G l (ze_rm 1 0 0) M7_times _ 78 [(0, .ref c), (1, .ref a), (2, .ref b), (3, ze_i ((i : Nat))), (4, ze_l ((cy : Nat))), (6, ze_l ((v : Nat))), (8, ze_i ((j : Nat)))] [ze_l ((Y : Nat)), ze_l ((v : Nat)), ze_l ((cy : Nat))] w' 0 0
            refine ze_lmul dX7_times_78 ?_
            refine ze_tl (b := (D : Nat)) hD2 ?_
            refine ze_aload_n dX7_times_79 rfl ?_
            refine ze_getf dX7_times_80 fl_X7_7 ca rfl ?_
            refine ze_iload_n dX7_times_83 rfl ?_
            refine ze_iload dX7_times_84 rfl ?_
            refine ze_iadd dX7_times_86 ?_
            refine ze_iald (j := i + j) dX7_times_87 cb (by omega) (by omega) (by omega) ?_
            rw [← hX]
            refine ze_msk dX7_times_88 dX7_times_89 dX7_times_92 ct_X7_29 (by omega) ?_
            refine ze_ladd dX7_times_93 ?_
            refine ze_ladd dX7_times_94 ?_
            refine ze_tl (b := ((cy + D + X : Nat))) (by omega) ?_
            refine ze_lstore (lv' := [(0, .ref c), (1, .ref a), (2, .ref b), (3, ze_i ((i : Nat))), (4, ze_l (((cy + D + X : Nat)))), (6, ze_l ((v : Nat))), (8, ze_i ((j : Nat)))]) dX7_times_95 rfl rfl ?_
            refine ze_aload_n dX7_times_97 rfl ?_
            refine ze_getf dX7_times_98 fl_X7_7 ca rfl ?_
            refine ze_iload_n dX7_times_101 rfl ?_
            refine ze_iload dX7_times_102 rfl ?_
            refine ze_iadd dX7_times_104 ?_
            refine ze_lload dX7_times_105 rfl ?_
            refine ze_l2i dX7_times_107 ?_
            refine ze_iastM (j := i + j) (y := (((cy + D + X) % 4294967296 : Nat))) (f' := fun q => ((va_up r2 (i + j) ((cy + D + X) % 4294967296) q : Nat) : Int)) dX7_times_108 cb (by omega) (by omega) (by omega) (ze_mod (by omega)) (ze_vu _ _ _) (fun w11 z11 c11 o11 => ?_)
            have h11_0 := (o11 c (by omega)).trans ca
            have h11_2 := (o11 a (by omega)).trans aa
            have h11_3 := (o11 (a + 1) (by omega)).trans ab
            have h11_4 := (o11 b (by omega)).trans ba
            have h11_5 := (o11 (b + 1) (by omega)).trans bb
            refine ze_lload dX7_times_109 rfl ?_
            refine ze_bipush dX7_times_111 (by decide) ?_
            refine ze_lushr (z := (((cy + D + X) / 4294967296 : Nat))) dX7_times_113 (ze_u32 (by omega) (by omega)) ?_
            refine ze_lstore (lv' := [(0, .ref c), (1, .ref a), (2, .ref b), (3, ze_i ((i : Nat))), (4, ze_l ((((cy + D + X) / 4294967296 : Nat)))), (6, ze_l ((v : Nat))), (8, ze_i ((j : Nat)))]) dX7_times_114 rfl rfl ?_
            refine ze_iinc (b := ((j + 1 : Nat))) (lv' := [(0, .ref c), (1, .ref a), (2, .ref b), (3, ze_i ((i : Nat))), (4, ze_l ((((cy + D + X) / 4294967296 : Nat)))), (6, ze_l ((v : Nat))), (8, ze_i (((j + 1 : Nat))))]) dX7_times_116 rfl rfl (by omega) rfl ?_
            refine ze_goto 59 dX7_times_119 (by decide) ?_
            refine ihe (j + 1) ((cy + D + X) / 4294967296) (va_up r2 (i + j) ((cy + D + X) % 4294967296)) _ (by omega) (by omega) ⟨z11.trans fr.1, fun x p q => (o11 x q).trans (fr.2 x p q)⟩ h11_0 c11 (up_lt rf (Nat.mod_lt _ (by decide))) (fun q hq => by rw [va_up_ne _ _ (by omega)]; exact he q (by omega)) ?_
            rw [show i + (j + 1) = (i + j) + 1 by omega, nv_s, nv_s, nv_s, nv_up (Nat.le_refl _), va_up_self, ← he (i + j) (Nat.le_refl _), ← hX, ← hY, Nat.pow_succ]
            have hm := Nat.div_add_mod (cy + D + X) 4294967296
            have e4 : v * (nv 4294967296 fb j + Y * 4294967296 ^ j) * 4294967296 ^ i = v * nv 4294967296 fb j * 4294967296 ^ i + D * 4294967296 ^ (i + j) := by
              rw [Nat.mul_add, Nat.add_mul, ← Nat.mul_assoc v Y, ← hD, Nat.mul_assoc D, ← Nat.pow_add, Nat.add_comm j i]
            rw [e4]
            generalize 4294967296 ^ (i + j) = P at *
            have e3 : (cy + D + X) % 4294967296 * P + (cy + D + X) / 4294967296 * (P * 4294967296) = (cy + D + X) * P := by
              rw [Nat.mul_comm P 4294967296, ← Nat.mul_assoc, ← Nat.add_mul]
              congr 1
              omega
            rw [Nat.add_mul, Nat.add_mul] at e3
            omega
      refine ze_iload_n dX7_times_38 rfl ?_
      refine ze_aload_n dX7_times_39 rfl ?_
      refine ze_getf dX7_times_40 fl_X7_13 aa rfl ?_
      refine ze_icmp_ge 142 dX7_times_43 (by decide) (by omega) (by omega) (fun q => ?_) (fun q => ?_)
      · omega
      · refine ze_lconst (z := 0) dX7_times_46 (by decide) ?_
        refine ze_tl (b := ((0 : Nat) : Nat)) rfl ?_
        refine ze_lstore (lv' := [(0, .ref c), (1, .ref a), (2, .ref b), (3, ze_i ((i : Nat))), (4, ze_l (((0 : Nat) : Nat)))]) dX7_times_47 rfl rfl ?_
        refine ze_aload_n dX7_times_49 rfl ?_
        refine ze_iload_n dX7_times_50 rfl ?_
        refine ze_callV (As := [ze_i ((i : Nat))]) (rest := []) dX7_times_51 (C7_at ha1 (k := i) (by omega)) mo7_at ml_X7_50 in_7_at se_7_at aa rfl rfl rfl rfl rfl ⟨Nat.le_refl _, Nat.le_refl _⟩ rfl (Nat.le_of_ble_eq_true rfl) ?_
        rintro _ w' ⟨r', rfl, rfl, rfl⟩
        rw [hv1, ← hvv]
        change ze_V G l (ze_rm 1 0 0) M7_times _ 54 [(0, .ref c), (1, .ref a), (2, .ref b), (3, ze_i ((i : Nat))), (4, ze_l (((0 : Nat) : Nat)))] [ze_l ((v : Nat))] w' 0 0
        refine ze_lstore (lv' := [(0, .ref c), (1, .ref a), (2, .ref b), (3, ze_i ((i : Nat))), (4, ze_l (((0 : Nat) : Nat))), (6, ze_l ((v : Nat)))]) dX7_times_54 rfl rfl ?_
        refine ze_iconst dX7_times_56 ?_
        refine ze_ti (b := ((0 : Nat) : Nat)) rfl ?_
        refine ze_istore (lv' := [(0, .ref c), (1, .ref a), (2, .ref b), (3, ze_i ((i : Nat))), (4, ze_l (((0 : Nat) : Nat))), (6, ze_l ((v : Nat))), (8, ze_i (((0 : Nat) : Nat)))]) dX7_times_57 rfl rfl ?_
        exact inner nb 0 0 r _ (by omega) (by decide) fr ca cb rf (fun _ _ => rfl) (by show _ + 0 * _ = _ + v * 0 * _; simp)
  have zero : ∀ (d k : Nat) (r : Nat → Nat) (w1 : ze_W), k + d = N → bfr w w1 c → w1.2 c = some (ze_ob 7 [.ref (c + 1), ze_i (N : Nat), ze_i sc]) → w1.2 (c + 1) = some (ze_ia G Lc (fun j => (r j : Nat))) → (∀ j, r j < 4294967296) → (∀ j, j < k → r j = 0) → ze_V G l (ze_rm 1 0 0) M7_times Z 15 [(0, .ref c), (1, .ref a), (2, .ref b), (3, ze_i ((k : Nat)))] [] w1 0 0 := by
    intro d
    induction d with
    | zero =>
      intro k r w1 hk fr ca cb rf hz
      refine ze_iload_n dX7_times_15 rfl ?_
      refine ze_aload_n dX7_times_16 rfl ?_
      refine ze_getf dX7_times_17 fl_X7_13 ca rfl ?_
      refine ze_icmp_ge 36 dX7_times_20 (by decide) (by omega) (by omega) (fun q => ?_) (fun q => ?_)
      · refine ze_iconst dX7_times_36 ?_
        refine ze_ti (b := ((0 : Nat) : Nat)) rfl ?_
        refine ze_istore_n (lv' := [(0, .ref c), (1, .ref a), (2, .ref b), (3, ze_i (((0 : Nat) : Nat)))]) dX7_times_37 rfl rfl ?_
        refine outer na 0 r w1 (by omega) fr ca cb rf ?_
        show nv 4294967296 r (0 + nb) = 0 * _
        rw [Nat.zero_mul, Nat.zero_add]
        have := nv_ext (B := 4294967296) (f := r) (n := 0) nb (fun j _ h2 => hz j (by omega))
        rw [Nat.zero_add] at this
        exact this
      · omega
    | succ d ih =>
      intro k r w1 hk fr ca cb rf hz
      refine ze_iload_n dX7_times_15 rfl ?_
      refine ze_aload_n dX7_times_16 rfl ?_
      refine ze_getf dX7_times_17 fl_X7_13 ca rfl ?_
      refine ze_icmp_ge 36 dX7_times_20 (by decide) (by omega) (by omega) (fun q => ?_) (fun q => ?_)
      · omega
      · refine ze_aload_n dX7_times_23 rfl ?_
        refine ze_getf dX7_times_24 fl_X7_7 ca rfl ?_
        refine ze_iload_n dX7_times_27 rfl ?_
        refine ze_iconst dX7_times_28 ?_
        refine ze_iastM (j := k) (y := (((0 : Nat)) : Nat)) (f' := fun j => ((va_up r k 0 j : Nat) : Int)) dX7_times_29 cb (by omega) (by omega) (by omega) rfl (ze_vu _ _ _) (fun w1 z1 c1 o1 => ?_)
        have h1_0 := (o1 c (by omega)).trans ca
        refine ze_iinc (b := ((k + 1 : Nat))) (lv' := [(0, .ref c), (1, .ref a), (2, .ref b), (3, ze_i (((k + 1 : Nat))))]) dX7_times_30 rfl rfl (by omega) rfl ?_
        refine ze_goto 15 dX7_times_33 (by decide) ?_
        exact ih (k + 1) (va_up r k 0) _ (by omega) ⟨z1.trans fr.1, fun x p q => (o1 x q).trans (fr.2 x p q)⟩ h1_0 c1 (up_lt rf (by decide)) (fun j hj => by by_cases h : j = k; (rw [h, va_up_self]); rw [va_up_ne _ _ h]; exact hz j (by omega))
  obtain ⟨ca, cb, cn, -, cf⟩ := id hc
  obtain ⟨aa, ab, -, -, -⟩ := id ha
  obtain ⟨ba, bb, -, -, -⟩ := id hb
  change ze_V G l (ze_rm 1 0 0) M7_times Z 0 [(0, .ref c), (1, .ref a), (2, .ref b)] [] w 0 0
  refine ze_aload_n dX7_times_0 rfl ?_
  refine ze_aload_n dX7_times_1 rfl ?_
  refine ze_getf dX7_times_2 fl_X7_13 aa rfl ?_
  refine ze_aload_n dX7_times_5 rfl ?_
  refine ze_getf dX7_times_6 fl_X7_13 ba rfl ?_
  refine ze_iadd dX7_times_9 ?_
  refine ze_ti (b := (N : Nat)) (by omega) ?_
  refine ze_putfW (fs' := [.ref (c + 1), ze_i ((N : Nat)), ze_i (sc)]) dX7_times_10 fl_X7_13 (Or.inl rfl) ca rfl rfl (Nat.le_of_ble_eq_true rfl) rfl (fun w1 z1 c1 o1 => ?_)
  have h1_1 := (o1 (c + 1) (by omega)).trans cb
  have h1_2 := (o1 a (by omega)).trans aa
  have h1_3 := (o1 (a + 1) (by omega)).trans ab
  have h1_4 := (o1 b (by omega)).trans ba
  have h1_5 := (o1 (b + 1) (by omega)).trans bb
  refine ze_iconst dX7_times_13 ?_
  refine ze_ti (b := ((0 : Nat) : Nat)) rfl ?_
  refine ze_istore_n (lv' := [(0, .ref c), (1, .ref a), (2, .ref b), (3, ze_i (((0 : Nat) : Nat)))]) dX7_times_14 rfl rfl ?_
  exact zero N 0 fc _ (by omega) ⟨z1, fun x p q => o1 x p⟩ c1 h1_1 cf (fun j hj => by omega)
theorem C7_overSmall {G : ze_G} {l : Launch} {w : ze_W} {a La : Nat} {x by' : Int} (ha : bgz G w a La x) (hx : 0 ≤ x) (hb : 0 < by' ∧ by' < 2147483648) : ze_C G l 1 0 0 M7_overSmall [.ref a, ze_i by'] w (ze_qi (fun q w' => q = x % by' ∧ bfr w w' a ∧ bgz G w' a La (x / by'))) := by
  obtain ⟨f, n, sg, ha, za, hx2, ga⟩ := ha
  obtain ⟨aa, ab, an, aL, af⟩ := id ha
  obtain ⟨B, rfl⟩ := Int.eq_ofNat_of_zero_le (show 0 ≤ by' by omega)
  refine ze_enter (by decide +kernel) rfl ?_
  generalize hQ : (ze_Q G (ze_qi (fun q w' => q = x % (B : Int) ∧ bfr w w' a ∧ bgz G w' a La (x / (B : Int)))) 0 0) = Z
  have loop : ∀ (k R : Nat) (r : Nat → Nat) (w1 : ze_W), k ≤ n → R < B → bfr w w1 a → w1.2 a = some (ze_ob 7 [.ref (a + 1), ze_i (n : Nat), ze_i sg]) → w1.2 (a + 1) = some (ze_ia G La (fun j => (r j : Nat))) → (∀ j, r j < 4294967296) → (∀ j, j < k → r j = f j) → nv 4294967296 (fun j => r (k + j)) (n - k) * B + R = nv 4294967296 (fun j => f (k + j)) (n - k) → ze_V G l (ze_rm 1 0 0) M7_overSmall Z 10 [(0, .ref a), (1, ze_i ((B : Nat))), (2, ze_l ((R : Nat))), (4, ze_i ((k : Nat) - 1))] [] w1 0 0 := by
    intro k
    induction k with
    | zero =>
      intro R r w1 hk hR fr ga1 gb1 rf he hv
      rw [← hQ]
      refine ze_iload dX7_overSmall_10 rfl ?_
      refine ze_if_lt 50 dX7_overSmall_12 (by decide) (by omega) (fun q => ?_) (fun q => ?_)
      · refine ze_aload_n dX7_overSmall_50 rfl ?_
        refine ze_callV (As := []) (rest := []) dX7_overSmall_51 (C7_trim (f := r) (n := n) (L := La) (sg := sg) ⟨ga1, gb1, an, aL, rf⟩) mo7_trim ml_X7_26 in_7_trim se_7_trim ga1 rfl rfl rfl rfl rfl ⟨Nat.le_refl _, Nat.le_refl _⟩ rfl (Nat.le_of_ble_eq_true rfl) ?_
        rintro _ w' ⟨rfl, n', hn', hnz, hz, fr2, hb2⟩
        change ze_V G l (ze_rm 1 0 0) M7_overSmall _ 54 [(0, .ref a), (1, ze_i ((B : Nat))), (2, ze_l ((R : Nat))), (4, ze_i ((((0 : Nat)) : Nat) - 1))] [] w' 0 0
        refine ze_lload_n dX7_overSmall_54 rfl ?_
        refine ze_l2i dX7_overSmall_55 ?_
        have e1 : nv 4294967296 (fun j => r (0 + j)) (n - 0) = nv 4294967296 r n := nv_congr (fun j _ => by rw [Nat.zero_add])
        have e2 : nv 4294967296 (fun j => f (0 + j)) (n - 0) = nv 4294967296 f n := nv_congr (fun j _ => by rw [Nat.zero_add])
        rw [e1, e2] at hv
        have e3 : x = (nv 4294967296 f n : Nat) := by
          rcases ga with ⟨g1, g2⟩ | ⟨g1, g2 | g2⟩
          · rw [hx2, g2, g1]; rfl
          · rw [hx2, g2, Int.one_mul]
          · have := bnz_pos za g1
            rw [g2] at hx2
            omega
        have e4 : x / (B : Nat) = (nv 4294967296 r n : Nat) := by
          rw [e3, ← hv]
          push_cast
          rw [Int.add_comm, Int.add_mul_ediv_right _ _ (by omega), Int.ediv_eq_zero_of_lt (by omega) (by omega), Int.zero_add]
        have e5 : ((R : Nat) : Int) = x % (B : Nat) := by
          rw [e3, ← hv]
          push_cast
          rw [Int.add_comm, Int.add_mul_emod_self_right, Int.emod_eq_of_lt (by omega) (by omega)]
        refine ze_ireturn rfl dX7_overSmall_56 ⟨_, rfl, e5, ⟨fr2.1.trans fr.1, fun x p q => (fr2.2 x p q).trans (fr.2 x p q)⟩, ?_⟩ rfl rfl
        rw [e4]
        have hh : bgz G w' a La (sg * (nv 4294967296 r n : Nat)) := by
          refine bgz_tr ?_ hn' hnz hz hb2
          rcases ga with ⟨g1, g2⟩ | ⟨g1, g2⟩
          · right; exact ⟨g2, by rw [g1]; rfl⟩
          · left; exact g2
        rcases ga with ⟨g1, g2⟩ | ⟨g1, g2 | g2⟩
        · rw [g2, Int.zero_mul] at hh
          rw [g1]
          exact hh
        · rw [g2, Int.one_mul] at hh
          exact hh
        · have := bnz_pos za g1
          rw [g2] at hx2
          omega
      · omega
    | succ k ih =>
      intro R r w1 hk hR fr ga1 gb1 rf he hv
      obtain ⟨X, hX⟩ : ∃ X, X = f k := ⟨_, rfl⟩
      have hX1 : bt r n k = X := by unfold bt; rw [if_pos (by omega), he k (by omega), hX]
      have hXb : X < 4294967296 := by rw [hX]; exact af k
      have hra : 0 ≤ ((R * 4294967296 + X : Nat) : Int) ∧ ((R * 4294967296 + X : Nat) : Int) < 9223372036854775808 := by omega
      have hrb : (0 : Int) < (B : Nat) ∧ ((B : Nat) : Int) < 9223372036854775808 := by omega
      have hdm := Nat.div_add_mod (R * 4294967296 + X) B
      have hdl : (R * 4294967296 + X) / B < 4294967296 := by
        apply Nat.div_lt_of_lt_mul
        have : (R + 1) * 4294967296 ≤ B * 4294967296 := Nat.mul_le_mul_right _ hR
        omega
      have hml : (R * 4294967296 + X) % B < B := Nat.mod_lt _ (by omega)
      refine ze_iload dX7_overSmall_10 rfl ?_
      refine ze_if_lt 50 dX7_overSmall_12 (by decide) (by omega) (fun q => ?_) (fun q => ?_)
      · omega
      · refine ze_lload_n dX7_overSmall_15 rfl ?_
        refine ze_bipush dX7_overSmall_16 (by decide) ?_
        refine ze_lshl (z := (R : Nat) * 4294967296) dX7_overSmall_18 ze_s32 ?_
        refine ze_aload_n dX7_overSmall_19 rfl ?_
        refine ze_iload dX7_overSmall_20 rfl ?_
        refine ze_ti (b := (k : Nat)) (by omega) ?_
        refine ze_callV (As := [ze_i ((k : Nat))]) (rest := [ze_l ((R : Nat) * 4294967296)]) dX7_overSmall_22 (C7_at (f := r) (n := n) (L := La) (sg := sg) (k := k) ⟨ga1, gb1, an, aL, rf⟩ (by omega)) mo7_at ml_X7_50 in_7_at se_7_at ga1 rfl rfl rfl rfl rfl ⟨Nat.le_refl _, Nat.le_refl _⟩ rfl (Nat.le_of_ble_eq_true rfl) ?_
        rintro _ w' ⟨r', rfl, rfl, rfl⟩
        rw [hX1]
        change ze_V G l (ze_rm 1 0 0) M7_overSmall _ 25 [(0, .ref a), (1, ze_i ((B : Nat))), (2, ze_l ((R : Nat))), (4, ze_i ((((k + 1 : Nat)) : Nat) - 1))] [ze_l ((X : Nat)), ze_l ((R : Nat) * 4294967296)] w' 0 0
        refine ze_lor (z := (R : Nat) * 4294967296 + (X : Nat)) dX7_overSmall_25 (ze_o32 (by omega) (by omega)) ?_
        refine ze_tl (b := ((R * 4294967296 + X : Nat))) (by omega) ?_
        refine ze_lstore_n (lv' := [(0, .ref a), (1, ze_i ((B : Nat))), (2, ze_l (((R * 4294967296 + X : Nat)))), (4, ze_i ((((k + 1 : Nat)) : Nat) - 1))]) dX7_overSmall_26 rfl rfl ?_
        refine ze_aload_n dX7_overSmall_27 rfl ?_
        refine ze_getf dX7_overSmall_28 fl_X7_7 ga1 rfl ?_
        refine ze_iload dX7_overSmall_31 rfl ?_
        refine ze_lload_n dX7_overSmall_33 rfl ?_
        refine ze_iload_n dX7_overSmall_34 rfl ?_
        refine ze_i2l dX7_overSmall_35 (by omega) ?_
        refine ze_ldiv dX7_overSmall_36 hra hrb ?_
        refine ze_tl (b := (((R * 4294967296 + X) / B : Nat))) (Int.natCast_ediv _ _).symm ?_
        refine ze_l2i dX7_overSmall_37 ?_
        refine ze_iastW (j := k) (f' := fun j => ((va_up r k ((R * 4294967296 + X) / B) j : Nat) : Int)) dX7_overSmall_38 gb1 (by omega) (by omega) (by omega) (ze_vu _ _ _) (fun w1 z1 c1 o1 => ?_)
        have h1_0 := (o1 a (by omega)).trans ga1
        refine ze_lload_n dX7_overSmall_39 rfl ?_
        refine ze_iload_n dX7_overSmall_40 rfl ?_
        refine ze_i2l dX7_overSmall_41 (by omega) ?_
        refine ze_lrem dX7_overSmall_42 hra hrb ?_
        refine ze_tl (b := (((R * 4294967296 + X) % B : Nat))) (Int.natCast_emod _ _).symm ?_
        refine ze_lstore_n (lv' := [(0, .ref a), (1, ze_i ((B : Nat))), (2, ze_l ((((R * 4294967296 + X) % B : Nat)))), (4, ze_i ((((k + 1 : Nat)) : Nat) - 1))]) dX7_overSmall_43 rfl rfl ?_
        refine ze_iinc (b := (k : Nat) - 1) (lv' := [(0, .ref a), (1, ze_i ((B : Nat))), (2, ze_l ((((R * 4294967296 + X) % B : Nat)))), (4, ze_i ((k : Nat) - 1))]) dX7_overSmall_44 rfl rfl (by omega) rfl ?_
        refine ze_goto 10 dX7_overSmall_47 (by decide) ?_
        refine ih ((R * 4294967296 + X) % B) (va_up r k ((R * 4294967296 + X) / B)) _ (by omega) hml ⟨z1.trans fr.1, fun x p q => (o1 x q).trans (fr.2 x p q)⟩ h1_0 c1 (up_lt rf hdl) (fun j hj => by rw [va_up_ne _ _ (by omega)]; exact he j (by omega)) ?_
        rw [show n - k = (n - (k + 1)) + 1 by omega, nv_cons, nv_cons, va_up_self, ← hv, ← hX]
        have e1 : nv 4294967296 (fun j => va_up r k ((R * 4294967296 + X) / B) (k + 1 + j)) (n - (k + 1)) = nv 4294967296 (fun j => r (k + 1 + j)) (n - (k + 1)) := nv_congr (fun j _ => va_up_ne _ _ (by omega))
        rw [e1]
        generalize nv 4294967296 (fun j => r (k + 1 + j)) (n - (k + 1)) = V at *
        have e2 : ((R * 4294967296 + X) / B + 4294967296 * V) * B = B * ((R * 4294967296 + X) / B) + 4294967296 * (V * B) := by
          rw [Nat.add_mul, Nat.mul_comm B, Nat.mul_assoc]
        rw [e2]
        omega
  change ze_V G l (ze_rm 1 0 0) M7_overSmall Z 0 [(0, .ref a), (1, ze_i ((B : Nat)))] [] w 0 0
  refine ze_lconst (z := 0) dX7_overSmall_0 (by decide) ?_
  refine ze_tl (b := ((0 : Nat) : Nat)) rfl ?_
  refine ze_lstore_n (lv' := [(0, .ref a), (1, ze_i ((B : Nat))), (2, ze_l (((0 : Nat) : Nat)))]) dX7_overSmall_1 rfl rfl ?_
  refine ze_aload_n dX7_overSmall_2 rfl ?_
  refine ze_getf dX7_overSmall_3 fl_X7_13 aa rfl ?_
  refine ze_iconst dX7_overSmall_6 ?_
  refine ze_isub dX7_overSmall_7 ?_
  refine ze_istore (lv' := [(0, .ref a), (1, ze_i ((B : Nat))), (2, ze_l (((0 : Nat) : Nat))), (4, ze_i ((n : Nat) - 1))]) dX7_overSmall_8 rfl rfl ?_
  exact loop n 0 f w (Nat.le_refl _) (by omega) (bfr.rf _ _) aa ab af (fun _ _ => rfl) (by rw [Nat.sub_self]; show 0 * B + 0 = 0; omega)
theorem C7_bits {G : ze_G} {l : Launch} {w : ze_W} {a La : Nat} {x : Int} (ha : bgz G w a La x) : ze_C G l 1 0 0 M7_bits [.ref a] w (ze_qi (fun q w' => (q < 2 ↔ x.natAbs < 2) ∧ (0 ≤ q ∧ q < 2147483648) ∧ w' = w)) := by
  obtain ⟨f, n, sg, ha, za, hx2, ga⟩ := ha
  obtain ⟨aa, ab, an, aL, af⟩ := id ha
  have e : x.natAbs = nv 4294967296 f n := by
    rcases ga with ⟨g1, g2⟩ | ⟨g1, g2 | g2⟩ <;> rw [hx2, g2]
    · rw [g1]; rfl
    · rw [Int.one_mul]; rfl
    · rw [Int.neg_mul, Int.one_mul, Int.natAbs_neg]; rfl
  refine ze_enter (by decide +kernel) rfl ?_
  change ze_V G l (ze_rm 1 0 0) M7_bits _ 0 [(0, .ref a)] [] w 0 0
  refine ze_aload_n dX7_bits_0 rfl ?_
  refine ze_getf dX7_bits_1 fl_X7_13 aa rfl ?_
  refine ze_if_ne 11 dX7_bits_4 (by decide) (by omega) (fun q1 => ?_) (fun q1 => ?_)
  · obtain ⟨k, hk⟩ : ∃ k, n = k + 1 := ⟨n - 1, by omega⟩
    have hfk := af k
    have hz : f k ≠ 0 := by rcases za with h | h; (omega); rw [hk] at h; simpa using h
    refine ze_bipush dX7_bits_11 (by decide) ?_
    refine ze_aload_n dX7_bits_13 rfl ?_
    refine ze_getf dX7_bits_14 fl_X7_13 aa rfl ?_
    refine ze_imul dX7_bits_17 ?_
    refine ze_aload_n dX7_bits_18 rfl ?_
    refine ze_getf dX7_bits_19 fl_X7_7 aa rfl ?_
    refine ze_aload_n dX7_bits_22 rfl ?_
    refine ze_getf dX7_bits_23 fl_X7_13 aa rfl ?_
    refine ze_iconst dX7_bits_26 ?_
    refine ze_isub dX7_bits_27 ?_
    refine ze_iald (j := k) dX7_bits_28 ab (by omega) (by omega) (by omega) ?_
    refine ze_callS (As := [ze_i ((f k : Nat))]) (rest := [ze_i (32 * (n : Nat))]) dX7_bits_29 (CJ_nlz hfk) moJ6_numberOfLeadingZeros ml_X7_31 st_J6_numberOfLeadingZeros rfl rfl rfl ⟨Nat.le_refl _, Nat.le_refl _⟩ rfl (Nat.le_of_ble_eq_true rfl) ?_
    rintro _ w' ⟨r', rfl, ⟨z, rfl, hz2⟩, rfl⟩
    change ze_V G l (ze_rm 1 0 0) M7_bits _ 32 [(0, .ref a)] [ze_i ((z : Nat)), ze_i (32 * (n : Nat))] w' 0 0
    refine ze_isub dX7_bits_32 ?_
    refine ze_ireturn rfl dX7_bits_33 ⟨_, rfl, ?_, ?_, rfl⟩ rfl rfl
    · rw [e, hk]
      rcases hz2 with ⟨h1, -⟩ | ⟨h1, h2, h3, h4⟩
      · omega
      · cases k with
        | zero =>
          have e5 : nv 4294967296 f (0 + 1) = f 0 := by show 0 + f 0 * 4294967296 ^ 0 = f 0; simp
          rw [e5]
          rcases Nat.lt_or_ge z 31 with h | h
          · have : 2 ^ 1 ≤ 2 ^ (31 - z) := Nat.pow_le_pow_right (by decide) (by omega)
            omega
          · have hz31 : z = 31 := by omega
            rw [hz31] at h4
            omega
        | succ k =>
          have h5 := nv_ge (B := 4294967296) (f := f) (n := k + 1) hz
          have h6 : 4294967296 ^ 1 ≤ 4294967296 ^ (k + 1) := Nat.pow_le_pow_right (by decide) (by omega)
          omega
    · rcases hz2 with ⟨h1, -⟩ | ⟨h1, h2, h3, h4⟩ <;> omega
  · refine ze_iconst dX7_bits_7 ?_
    refine ze_goto 33 dX7_bits_8 (by decide) ?_
    exact ze_ireturn rfl dX7_bits_33 ⟨_, rfl, by rw [e, show n = 0 by omega]; simp [nv], by omega, rfl⟩ rfl rfl
