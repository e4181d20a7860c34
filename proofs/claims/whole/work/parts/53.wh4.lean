/-! Whole: mixes -/
theorem ia_ra {G : ze_G} {n k t : Nat} {f : Nat → Int} {g : Nat → Option Nat} (h : some (ze_ia G n f) = some (ze_ra G t k g)) : False := by simp at h
theorem ia_la {G : ze_G} {n k : Nat} {f g : Nat → Int} (h : some (ze_ia G n f) = some (ze_la G k g)) : False := by simp at h
theorem mix_s {n j E : Nat} {g : Nat → Nat} {p : Nat → (Nat → Nat) × Nat} : sm n (fun q => g q * nv E (bt (p q).1 (p q).2) (j + 1)) = sm n (fun q => g q * nv E (bt (p q).1 (p q).2) j) + sm n (fun q => bt (p q).1 (p q).2 j * g q) * E ^ j := by
  have e : sm n (fun q => bt (p q).1 (p q).2 j * g q) * E ^ j = sm n (fun q => E ^ j * (bt (p q).1 (p q).2 j * g q)) := by rw [sm_mul, Nat.mul_comm]
  rw [e, ← sm_add]
  apply sm_congr
  intro q _
  rw [nv_s, Nat.mul_add]
  congr 1
  rw [Nat.mul_comm (E ^ j), Nat.mul_comm (bt (p q).1 (p q).2 j) (g q), Nat.mul_assoc]
theorem C5_setMix {G : ze_G} {l : Launch} {w : ze_W} {c Lc v0 T A N NF n Lt : Nat} {ta v g : Nat → Nat} {tf : Nat → Option Nat} (hc : whz G w c Lc v0) (hT : w.2 T = some (ze_ra G 2 N tf)) (hA : w.2 A = some (ze_la G NF (fun j => (g j : Nat)))) (hn8 : n ≤ 8) (hNn : n ≤ N ∧ N < 100000) (hNF : n ≤ NF ∧ NF < 100000) (htf : ∀ i, i < n → tf i = some (ta i)) (ht : ∀ i, i < n → whz G w (ta i) Lt (v i) ∧ v i < 1000000000 ^ (Lc - 1) ∧ c ≠ ta i ∧ g i ≤ 1000000) : ze_C G l 2 0 0 M5_setMix [.ref c, .ref T, .ref A, ze_i (n : Nat)] w (ze_qv (fun w' => bfr w w' c ∧ whz G w' c Lc (sm n (fun i => v i * g i)))) := by
  obtain ⟨fc, nc, hc, -, -⟩ := hc
  obtain ⟨ca0, cb0, cn0, cL, cf⟩ := id hc
  have hTc : T ≠ c := by intro e; rw [e, ca0] at hT; cases hT
  have hTc1 : T ≠ c + 1 := by intro e; rw [e, cb0] at hT; exact ia_ra hT
  have hAc : A ≠ c := by intro e; rw [e, ca0] at hA; cases hA
  have hAc1 : A ≠ c + 1 := by intro e; rw [e, cb0] at hA; exact ia_la hA
  have hex : ∀ i, ∃ p : (Nat → Nat) × Nat, i < n → wh G w (ta i) Lt p.1 p.2 ∧ v i = nv 1000000000 p.1 p.2 ∧ p.2 ≤ Lc - 1 := by
    intro i
    by_cases h : i < n
    · obtain ⟨f, s, h1, h2, h3, h4⟩ := ev_many (ht i h).1 (ht i h).2.1
      exact ⟨(f, s), fun _ => ⟨h1, h3, h4⟩⟩
    · exact ⟨(fun _ => 0, 0), fun h2 => absurd h2 h⟩
  obtain ⟨p, hp⟩ := Classical.axiomOfChoice hex
  have hgb : ∀ i, i < n → g i ≤ 1000000 := fun i hi => (ht i hi).2.2.2
  have hne : ∀ i, i < n → c ≠ ta i := fun i hi => (ht i hi).2.2.1
  refine ze_enter (by decide +kernel) rfl ?_
  generalize hQ : (ze_Q G (ze_qv (fun w' => bfr w w' c ∧ whz G w' c Lc (sm n (fun i => v i * g i)))) 0 0) = Z
  have cols : ∀ lg : Nat, lg ≤ Lc - 1 → (∀ q, q < n → (p q).2 ≤ lg) → ∀ (d j cy : Nat) (r : Nat → Nat) (w1 : ze_W), j + d = lg + 1 → cy ≤ 8000000 → bfr w w1 c → w1.2 c = some (ze_ob 5 [.ref (c + 1), ze_i (nc : Nat)]) → w1.2 (c + 1) = some (ze_ia G Lc (fun j => (r j : Nat))) → (∀ j, r j < 1000000000) → nv 1000000000 r j + cy * 1000000000 ^ j = sm n (fun q => g q * nv 1000000000 (bt (p q).1 (p q).2) j) → ze_V G l (ze_rm 2 0 0) M5_setMix Z 66 [(0, .ref c), (1, .ref T), (2, .ref A), (3, ze_i ((n : Nat))), (4, ze_i ((n : Nat))), (5, ze_i ((lg : Nat))), (6, ze_i (((lg + 1 : Nat)))), (7, ze_l ((cy : Nat))), (9, ze_i ((j : Nat)))] [] w1 0 0 := by
    intro lg hlg hsz d
    induction d with
    | zero =>
      intro j cy r w1 hj hcy fr ca cb rf hs
      have hT1 := (fr.2 T hTc hTc1).trans hT
      have hA1 := (fr.2 A hAc hAc1).trans hA
      have hjn : j = lg + 1 := by omega
      rw [hjn] at hs
      have e1 : sm n (fun q => g q * nv 1000000000 (bt (p q).1 (p q).2) (lg + 1)) = sm n (fun i => v i * g i) := by
        apply sm_congr
        intro q hq
        rw [nv_bt (by have := hsz q hq; omega), ← (hp q hq).2.1, Nat.mul_comm]
      rw [e1] at hs
      have e2 : sm n (fun i => v i * g i) ≤ n * (1000000 * 1000000000 ^ lg) := by
        apply sm_le
        intro q hq
        have h1 : v q < 1000000000 ^ lg := by
          rw [(hp q hq).2.1]
          exact Nat.lt_of_lt_of_le (nv_lt (fun i _ => (hp q hq).1.2.2.2.2 i)) (Nat.pow_le_pow_right (by decide) (hsz q hq))
        rw [Nat.mul_comm]
        exact Nat.mul_le_mul (hgb q hq) (Nat.le_of_lt h1)
      have e3 : n * (1000000 * 1000000000 ^ lg) ≤ 8 * (1000000 * 1000000000 ^ lg) := Nat.mul_le_mul_right _ hn8
      have hP0 : 0 < 1000000000 ^ lg := Nat.pow_pos (by decide)
      have hcy0 : cy = 0 := by
        rcases Nat.eq_zero_or_pos cy with h | h
        · exact h
        · have h2 : 1 * 1000000000 ^ (lg + 1) ≤ cy * 1000000000 ^ (lg + 1) := Nat.mul_le_mul_right _ h
          rw [Nat.pow_succ] at h2 hs
          generalize 1000000000 ^ lg = Q at *
          omega
      rw [hcy0, Nat.zero_mul, Nat.add_zero] at hs
      rw [← hQ]
      refine ze_iload dX5_setMix_66 rfl ?_
      refine ze_iload dX5_setMix_68 rfl ?_
      refine ze_icmp_ge 140 dX5_setMix_70 (by decide) (by omega) (by omega) (fun q1 => ?_) (fun q1 => ?_)
      · refine ze_aload_n dX5_setMix_140 rfl ?_
        refine ze_iload dX5_setMix_141 rfl ?_
        refine ze_callV (As := [ze_i (((lg + 1 : Nat)))]) (rest := []) dX5_setMix_143 (C5_trimFrom (n := lg + 1) (f := r) ⟨ca, cb, cn0, cL, rf⟩ (by omega)) mo5_trimFrom ml_X5_25 in_5_trimFrom se_5_trimFrom ca rfl rfl rfl rfl rfl ⟨Nat.le_refl _, Nat.le_refl _⟩ rfl (Nat.le_of_ble_eq_true rfl) ?_
        rintro _ w2 ⟨rfl, n', hn', hz, h0, fr2, hw2⟩
        change ze_V G l (ze_rm 2 0 0) M5_setMix _ 146 [(0, .ref c), (1, .ref T), (2, .ref A), (3, ze_i ((n : Nat))), (4, ze_i ((n : Nat))), (5, ze_i ((lg : Nat))), (6, ze_i (((lg + 1 : Nat)))), (7, ze_l ((cy : Nat))), (9, ze_i ((j : Nat)))] [] w2 0 0
        refine ze_return rfl dX5_setMix_146 ⟨rfl, ⟨fr2.1.trans fr.1, fun x p q => (fr2.2 x p q).trans (fr.2 x p q)⟩, ?_⟩ rfl rfl
        have h5 := whz_tr hn' hz h0 hw2
        rw [hs] at h5
        exact h5
      · omega
    | succ d ih =>
      intro j cy r w1 hj hcy fr ca cb rf hs
      have hT1 := (fr.2 T hTc hTc1).trans hT
      have hA1 := (fr.2 A hAc hAc1).trans hA
      have inner : ∀ (e i col : Nat), i + e = n → col = cy + sm i (fun q => bt (p q).1 (p q).2 j * g q) → ze_V G l (ze_rm 2 0 0) M5_setMix Z 80 [(0, .ref c), (1, .ref T), (2, .ref A), (3, ze_i ((n : Nat))), (4, ze_i ((n : Nat))), (5, ze_i ((lg : Nat))), (6, ze_i (((lg + 1 : Nat)))), (7, ze_l ((cy : Nat))), (9, ze_i ((j : Nat))), (10, ze_l ((col : Nat))), (12, ze_i ((i : Nat)))] [] w1 0 0 := by
        intro e
        have hS : ∀ i, i ≤ n → sm i (fun q => bt (p q).1 (p q).2 j * g q) ≤ i * (999999999 * 1000000) := fun i hi => sm_le (fun q hq => Nat.mul_le_mul (by have := bt_lt (n := (p q).2) (hp q (by omega)).1.2.2.2.2 j; omega) (hgb q (by omega)))
        induction e with
        | zero =>
          intro i col hi hcol
          have hin : i = n := by omega
          rw [hin] at hcol
          have hSn := hS n (Nat.le_refl _)
          have hcb : col ≤ 8000000000000000 := by
            have : n * (999999999 * 1000000) ≤ 8 * (999999999 * 1000000) := Nat.mul_le_mul_right _ hn8
            omega
          have hra : (0 : Int) ≤ ((col : Nat) : Int) ∧ ((col : Nat) : Int) < 9223372036854775808 := by omega
          refine ze_iload dX5_setMix_80 rfl ?_
          refine ze_iload dX5_setMix_82 rfl ?_
          refine ze_icmp_ge 112 dX5_setMix_84 (by decide) (by omega) (by omega) (fun q1 => ?_) (fun q1 => ?_)
          · refine ze_aload_n dX5_setMix_112 rfl ?_
            refine ze_getf dX5_setMix_113 fl_X5_15 ca rfl ?_
            refine ze_iload dX5_setMix_116 rfl ?_
            refine ze_lload dX5_setMix_118 rfl ?_
            refine ze_ldc2 (z := 1000000000) dX5_setMix_120 ct_X5_38 (by decide) ?_
            refine ze_lrem dX5_setMix_123 hra (by decide) ?_
            refine ze_tl (b := ((col % 1000000000 : Nat))) (by omega) ?_
            refine ze_l2i dX5_setMix_124 ?_
            refine ze_iastW (j := j) (f' := fun q => ((va_up r j (col % 1000000000) q : Nat) : Int)) dX5_setMix_125 cb rfl (by omega) (by omega) (ze_vu _ _ _) (fun w81 z81 c81 o81 => ?_)
            have h81_0 := (o81 c (by omega)).trans ca
            have h81_2 := (o81 T (by omega)).trans hT1
            have h81_3 := (o81 A (by omega)).trans hA1
            refine ze_lload dX5_setMix_126 rfl ?_
            refine ze_ldc2 (z := 1000000000) dX5_setMix_128 ct_X5_38 (by decide) ?_
            refine ze_ldiv dX5_setMix_131 hra (by decide) ?_
            refine ze_tl (b := ((col / 1000000000 : Nat))) (by omega) ?_
            refine ze_lstore (lv' := [(0, .ref c), (1, .ref T), (2, .ref A), (3, ze_i ((n : Nat))), (4, ze_i ((n : Nat))), (5, ze_i ((lg : Nat))), (6, ze_i (((lg + 1 : Nat)))), (7, ze_l (((col / 1000000000 : Nat)))), (9, ze_i ((j : Nat))), (10, ze_l ((col : Nat))), (12, ze_i ((i : Nat)))]) dX5_setMix_132 rfl rfl ?_
            refine ze_iinc (b := ((j + 1 : Nat))) (lv' := [(0, .ref c), (1, .ref T), (2, .ref A), (3, ze_i ((n : Nat))), (4, ze_i ((n : Nat))), (5, ze_i ((lg : Nat))), (6, ze_i (((lg + 1 : Nat)))), (7, ze_l (((col / 1000000000 : Nat)))), (9, ze_i (((j + 1 : Nat)))), (10, ze_l ((col : Nat))), (12, ze_i ((i : Nat)))]) dX5_setMix_134 rfl rfl (by omega) rfl ?_
            refine ze_goto 66 dX5_setMix_137 (by decide) ?_
            refine ze_lv (lv' := [(0, .ref c), (1, .ref T), (2, .ref A), (3, ze_i ((n : Nat))), (4, ze_i ((n : Nat))), (5, ze_i ((lg : Nat))), (6, ze_i (((lg + 1 : Nat)))), (7, ze_l (((col / 1000000000 : Nat)))), (9, ze_i (((j + 1 : Nat))))]) [0, 1, 2, 3, 4, 5, 6, 7, 8] rfl ?_
            refine ih (j + 1) (col / 1000000000) (va_up r j (col % 1000000000)) _ (by omega) (by omega) ⟨z81.trans fr.1, fun x p q => (o81 x q).trans (fr.2 x p q)⟩ h81_0 c81 (up_lt rf (Nat.mod_lt _ (by decide))) ?_
            rw [nv_s, nv_up (Nat.le_refl _), va_up_self, mix_s, ← hs, Nat.pow_succ]
            have e3 : col % 1000000000 * 1000000000 ^ j + col / 1000000000 * (1000000000 ^ j * 1000000000) = col * 1000000000 ^ j := by
              rw [Nat.mul_comm (1000000000 ^ j) 1000000000, ← Nat.mul_assoc, ← Nat.add_mul]
              congr 1
              omega
            have e4 : col * 1000000000 ^ j = cy * 1000000000 ^ j + sm n (fun q => bt (p q).1 (p q).2 j * g q) * 1000000000 ^ j := by rw [hcol, Nat.add_mul]
            omega
          · omega
        | succ e ihe =>
          intro i col hi hcol
          have hin : i < n := by omega
          have hSi := hS i (by omega)
          have h81 : i * (999999999 * 1000000) ≤ 8 * (999999999 * 1000000) := Nat.mul_le_mul_right _ (by omega)
          have hw1 := wh_fr fr hc (hp i hin).1 (hne i hin)
          obtain ⟨X, hX⟩ : ∃ X, X = bt (p i).1 (p i).2 j := ⟨_, rfl⟩
          have hXb : X < 1000000000 := by rw [hX]; exact bt_lt (hp i hin).1.2.2.2.2 _
          obtain ⟨D, hD⟩ : ∃ D, D = X * g i := ⟨_, rfl⟩
          have hDb : D ≤ 999999999 * 1000000 := by rw [hD]; exact Nat.mul_le_mul (by omega) (hgb i hin)
          refine ze_iload dX5_setMix_80 rfl ?_
          refine ze_iload dX5_setMix_82 rfl ?_
          refine ze_icmp_ge 112 dX5_setMix_84 (by decide) (by omega) (by omega) (fun q1 => ?_) (fun q1 => ?_)
          · omega
          · refine ze_lload dX5_setMix_87 rfl ?_
            refine ze_aload_n dX5_setMix_89 rfl ?_
            refine ze_iload dX5_setMix_90 rfl ?_
            refine ze_aald (j := i) (b := (ta i)) dX5_setMix_92 hT1 rfl (by omega) (by omega) (by omega) (htf i hin) ?_
            refine ze_iload dX5_setMix_93 rfl ?_
            refine ze_callV (As := [ze_i ((j : Nat))]) (rest := [ze_l ((col : Nat))]) dX5_setMix_95 (C5_limbAt (k := j) hw1 (by omega)) mo5_limbAt ml_X5_40 in_5_limbAt se_5_limbAt hw1.1 rfl rfl rfl rfl rfl ⟨Nat.le_refl _, Nat.le_refl _⟩ rfl (Nat.le_of_ble_eq_true rfl) ?_
            rintro _ w' ⟨r', rfl, rfl, rfl⟩
            rw [← hX]
            change ze_V G l (ze_rm 2 0 0) M5_setMix _ 98 [(0, .ref c), (1, .ref T), (2, .ref A), (3, ze_i ((n : Nat))), (4, ze_i ((n : Nat))), (5, ze_i ((lg : Nat))), (6, ze_i (((lg + 1 : Nat)))), (7, ze_l ((cy : Nat))), (9, ze_i ((j : Nat))), (10, ze_l ((col : Nat))), (12, ze_i ((i : Nat)))] [ze_l ((X : Nat)), ze_l ((col : Nat))] w' 0 0
            refine ze_aload_n dX5_setMix_98 rfl ?_
            refine ze_iload dX5_setMix_99 rfl ?_
            refine ze_lald (j := i) dX5_setMix_101 hA1 (by omega) (by omega) (by omega) ?_
            refine ze_lmul dX5_setMix_102 ?_
            refine ze_tl (b := (D : Nat)) (by rw [hD]; push_cast; rfl) ?_
            refine ze_ladd dX5_setMix_103 ?_
            refine ze_tl (b := ((col + D : Nat))) (by omega) ?_
            refine ze_lstore (lv' := [(0, .ref c), (1, .ref T), (2, .ref A), (3, ze_i ((n : Nat))), (4, ze_i ((n : Nat))), (5, ze_i ((lg : Nat))), (6, ze_i (((lg + 1 : Nat)))), (7, ze_l ((cy : Nat))), (9, ze_i ((j : Nat))), (10, ze_l (((col + D : Nat)))), (12, ze_i ((i : Nat)))]) dX5_setMix_104 rfl rfl ?_
            refine ze_iinc (b := ((i + 1 : Nat))) (lv' := [(0, .ref c), (1, .ref T), (2, .ref A), (3, ze_i ((n : Nat))), (4, ze_i ((n : Nat))), (5, ze_i ((lg : Nat))), (6, ze_i (((lg + 1 : Nat)))), (7, ze_l ((cy : Nat))), (9, ze_i ((j : Nat))), (10, ze_l (((col + D : Nat)))), (12, ze_i (((i + 1 : Nat))))]) dX5_setMix_106 rfl rfl (by omega) rfl ?_
            refine ze_goto 80 dX5_setMix_109 (by decide) ?_
            exact ihe (i + 1) (col + D) (by omega) (by rw [sm_s, hcol, ← hX, ← hD, Nat.add_assoc])
      refine ze_iload dX5_setMix_66 rfl ?_
      refine ze_iload dX5_setMix_68 rfl ?_
      refine ze_icmp_ge 140 dX5_setMix_70 (by decide) (by omega) (by omega) (fun q1 => ?_) (fun q1 => ?_)
      · omega
      · refine ze_lload dX5_setMix_73 rfl ?_
        refine ze_lstore (lv' := [(0, .ref c), (1, .ref T), (2, .ref A), (3, ze_i ((n : Nat))), (4, ze_i ((n : Nat))), (5, ze_i ((lg : Nat))), (6, ze_i (((lg + 1 : Nat)))), (7, ze_l ((cy : Nat))), (9, ze_i ((j : Nat))), (10, ze_l ((cy : Nat)))]) dX5_setMix_75 rfl rfl ?_
        refine ze_iconst dX5_setMix_77 ?_
        refine ze_ti (b := ((0 : Nat) : Nat)) rfl ?_
        refine ze_istore (lv' := [(0, .ref c), (1, .ref T), (2, .ref A), (3, ze_i ((n : Nat))), (4, ze_i ((n : Nat))), (5, ze_i ((lg : Nat))), (6, ze_i (((lg + 1 : Nat)))), (7, ze_l ((cy : Nat))), (9, ze_i ((j : Nat))), (10, ze_l ((cy : Nat))), (12, ze_i (((0 : Nat) : Nat)))]) dX5_setMix_78 rfl rfl ?_
        exact inner n 0 cy (by omega) (by show cy = cy + 0; omega)
  have long : ∀ (d i lg : Nat), i + d = n → lg ≤ Lc - 1 → (∀ q, q < i → (p q).2 ≤ lg) → ze_V G l (ze_rm 2 0 0) M5_setMix Z 19 [(0, .ref c), (1, .ref T), (2, .ref A), (3, ze_i ((n : Nat))), (4, ze_i ((n : Nat))), (5, ze_i ((lg : Nat))), (6, ze_i ((i : Nat)))] [] w 0 0 := by
    intro d
    induction d with
    | zero =>
      intro i lg hi hlg hsz
      refine ze_iload dX5_setMix_19 rfl ?_
      refine ze_iload dX5_setMix_21 rfl ?_
      refine ze_icmp_ge 46 dX5_setMix_23 (by decide) (by omega) (by omega) (fun q1 => ?_) (fun q1 => ?_)
      · refine ze_iload dX5_setMix_46 rfl ?_
        refine ze_iconst dX5_setMix_48 ?_
        refine ze_iadd dX5_setMix_49 ?_
        refine ze_aload_n dX5_setMix_50 rfl ?_
        refine ze_getf dX5_setMix_51 fl_X5_15 ca0 rfl ?_
        refine ze_alen dX5_setMix_54 cb0 rfl ?_
        refine ze_mmin dX5_setMix_55 ml_X5_29 st_Lib_Math_min_name n_J9 cd_Lib_Math_min_name rfl rfl ⟨Nat.le_refl _, Nat.le_refl _⟩ (by omega) (by omega) ?_
        refine ze_ti (b := ((lg + 1 : Nat))) (by omega) ?_
        refine ze_istore (lv' := [(0, .ref c), (1, .ref T), (2, .ref A), (3, ze_i ((n : Nat))), (4, ze_i ((n : Nat))), (5, ze_i ((lg : Nat))), (6, ze_i (((lg + 1 : Nat))))]) dX5_setMix_58 rfl rfl ?_
        refine ze_lconst (z := 0) dX5_setMix_60 (by decide) ?_
        refine ze_tl (b := ((0 : Nat) : Nat)) rfl ?_
        refine ze_lstore (lv' := [(0, .ref c), (1, .ref T), (2, .ref A), (3, ze_i ((n : Nat))), (4, ze_i ((n : Nat))), (5, ze_i ((lg : Nat))), (6, ze_i (((lg + 1 : Nat)))), (7, ze_l (((0 : Nat) : Nat)))]) dX5_setMix_61 rfl rfl ?_
        refine ze_iconst dX5_setMix_63 ?_
        refine ze_ti (b := ((0 : Nat) : Nat)) rfl ?_
        refine ze_istore (lv' := [(0, .ref c), (1, .ref T), (2, .ref A), (3, ze_i ((n : Nat))), (4, ze_i ((n : Nat))), (5, ze_i ((lg : Nat))), (6, ze_i (((lg + 1 : Nat)))), (7, ze_l (((0 : Nat) : Nat))), (9, ze_i (((0 : Nat) : Nat)))]) dX5_setMix_64 rfl rfl ?_
        exact cols lg hlg (fun q hq => hsz q (by omega)) (lg + 1) 0 0 fc w (by omega) (by decide) (bfr.rf _ _) ca0 cb0 cf (by
          show 0 + 0 * _ = _
          have e : sm n (fun q => g q * nv 1000000000 (bt (p q).1 (p q).2) 0) = 0 := by
            rw [sm_congr (f := fun q => g q * nv 1000000000 (bt (p q).1 (p q).2) 0) (g := fun _ => 0) (fun q _ => by show g q * 0 = 0; rw [Nat.mul_zero]), sm_zero]
          rw [e, Nat.zero_mul])
      · omega
    | succ d ih =>
      intro i lg hi hlg hsz
      have hin : i < n := by omega
      have hpi := (hp i hin).2.2
      have hw1 := (hp i hin).1
      refine ze_iload dX5_setMix_19 rfl ?_
      refine ze_iload dX5_setMix_21 rfl ?_
      refine ze_icmp_ge 46 dX5_setMix_23 (by decide) (by omega) (by omega) (fun q1 => ?_) (fun q1 => ?_)
      · omega
      · refine ze_iload dX5_setMix_26 rfl ?_
        refine ze_aload_n dX5_setMix_28 rfl ?_
        refine ze_iload dX5_setMix_29 rfl ?_
        refine ze_aald (j := i) (b := (ta i)) dX5_setMix_31 hT rfl (by omega) (by omega) (by omega) (htf i hin) ?_
        refine ze_getf dX5_setMix_32 fl_X5_21 hw1.1 rfl ?_
        refine ze_mmax dX5_setMix_35 ml_X5_9 st_Lib_Math_max_name n_J9 cd_Lib_Math_max_name rfl rfl ⟨Nat.le_refl _, Nat.le_refl _⟩ (by omega) (by omega) ?_
        refine ze_ti (b := ((max lg (p i).2 : Nat))) (by omega) ?_
        refine ze_istore (lv' := [(0, .ref c), (1, .ref T), (2, .ref A), (3, ze_i ((n : Nat))), (4, ze_i ((n : Nat))), (5, ze_i (((max lg (p i).2 : Nat)))), (6, ze_i ((i : Nat)))]) dX5_setMix_38 rfl rfl ?_
        refine ze_iinc (b := ((i + 1 : Nat))) (lv' := [(0, .ref c), (1, .ref T), (2, .ref A), (3, ze_i ((n : Nat))), (4, ze_i ((n : Nat))), (5, ze_i (((max lg (p i).2 : Nat)))), (6, ze_i (((i + 1 : Nat))))]) dX5_setMix_40 rfl rfl (by omega) rfl ?_
        refine ze_goto 19 dX5_setMix_43 (by decide) ?_
        exact ih (i + 1) (max lg (p i).2) (by omega) (by omega) (fun q hq => by
          by_cases e : q = i
          · rw [e]; omega
          · have := hsz q (by omega); omega)
  change ze_V G l (ze_rm 2 0 0) M5_setMix Z 0 [(0, .ref c), (1, .ref T), (2, .ref A), (3, ze_i ((n : Nat)))] [] w 0 0
  refine ze_iload_n dX5_setMix_0 rfl ?_
  refine ze_aload_n dX5_setMix_1 rfl ?_
  refine ze_alen dX5_setMix_2 hT rfl ?_
  refine ze_aload_n dX5_setMix_3 rfl ?_
  refine ze_alen dX5_setMix_4 hA rfl ?_
  refine ze_mmin dX5_setMix_5 ml_X5_29 st_Lib_Math_min_name n_J9 cd_Lib_Math_min_name rfl rfl ⟨Nat.le_refl _, Nat.le_refl _⟩ (by omega) (by omega) ?_
  refine ze_mmin dX5_setMix_8 ml_X5_29 st_Lib_Math_min_name n_J9 cd_Lib_Math_min_name rfl rfl ⟨Nat.le_refl _, Nat.le_refl _⟩ (by omega) (by omega) ?_
  refine ze_ti (b := (n : Nat)) (by omega) ?_
  refine ze_istore (lv' := [(0, .ref c), (1, .ref T), (2, .ref A), (3, ze_i ((n : Nat))), (4, ze_i ((n : Nat)))]) dX5_setMix_11 rfl rfl ?_
  refine ze_iconst dX5_setMix_13 ?_
  refine ze_ti (b := ((0 : Nat) : Nat)) rfl ?_
  refine ze_istore (lv' := [(0, .ref c), (1, .ref T), (2, .ref A), (3, ze_i ((n : Nat))), (4, ze_i ((n : Nat))), (5, ze_i (((0 : Nat) : Nat)))]) dX5_setMix_14 rfl rfl ?_
  refine ze_iconst dX5_setMix_16 ?_
  refine ze_ti (b := ((0 : Nat) : Nat)) rfl ?_
  refine ze_istore (lv' := [(0, .ref c), (1, .ref T), (2, .ref A), (3, ze_i ((n : Nat))), (4, ze_i ((n : Nat))), (5, ze_i (((0 : Nat) : Nat))), (6, ze_i (((0 : Nat) : Nat)))]) dX5_setMix_17 rfl rfl ?_
  exact long n 0 0 (by omega) (Nat.zero_le _) (fun q hq => absurd hq (Nat.not_lt_zero _))
