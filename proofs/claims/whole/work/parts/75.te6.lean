/-! Teller: its tables -/
theorem C4_clearTables {G : ze_G} {l : Launch} {w0 w : ze_W} {E N K q FL : Nat} {ia la : Nat → Nat → Int} {m : Nat} (hS : tst G w0 w E N K q FL ia la) (hm : m ≤ 6) : ze_C G l 1 0 0 M4_clearTables [.ref E, ze_i (m : Nat)] w (ze_qv (fun w' => ∃ ia', tst G w0 w' E 0 m q FL ia' la ∧ (∀ j, j ≠ 1 → j ≠ 3 → ia' j = ia j) ∧ (∀ j, j < 256 → ia' 1 j = 0) ∧ ∀ j, j < 16 → ia' 3 j = 0)) := by
  refine ze_enter (by decide +kernel) rfl ?_
  generalize hQ : (ze_Q G (ze_qv (fun w' => ∃ ia', tst G w0 w' E 0 m q FL ia' la ∧ (∀ j, j ≠ 1 → j ≠ 3 → ia' j = ia j) ∧ (∀ j, j < 256 → ia' 1 j = 0) ∧ ∀ j, j < 16 → ia' 3 j = 0)) 0 0) = Z
  have snd_ : ∀ (d i : Nat) (ia1 : Nat → Nat → Int) (w1 : ze_W), i + d = 16 → tst G w0 w1 E 0 m q FL ia1 la → (∀ j, j ≠ 1 → j ≠ 3 → ia1 j = ia j) → (∀ j, j < 256 → ia1 1 j = 0) → (∀ j, j < i → ia1 3 j = 0) → ze_V G l (ze_rm 1 0 0) M4_clearTables Z 41 [(0, .ref E), (1, ze_i ((m : Nat))), (2, ze_i ((i : Nat)))] [] w1 0 0 := by
    intro d
    induction d with
    | zero =>
      intro i ia1 w1 hi hS1 i1 i2 i3
      rw [← hQ]
      refine ze_iload_n dX4_clearTables_41 rfl ?_
      refine ze_aload_n dX4_clearTables_42 rfl ?_
      refine ze_getf dX4_clearTables_43 fl_X4_25 (tt_o hS1) rfl ?_
      refine ze_alen dX4_clearTables_46 (show w1.2 (E + 3) = some (ze_ia G 16 (ia1 3)) from tt_i hS1 3 (by decide)) rfl ?_
      refine ze_icmp_ge 63 dX4_clearTables_47 (by decide) (by omega) (by omega) (fun q1 => ?_) (fun q1 => ?_)
      · exact ze_return rfl dX4_clearTables_63 ⟨rfl, ia1, hS1, i1, i2, fun j hj => i3 j (by omega)⟩ rfl rfl
      · omega
    | succ d ih =>
      intro i ia1 w1 hi hS1 i1 i2 i3
      refine ze_iload_n dX4_clearTables_41 rfl ?_
      refine ze_aload_n dX4_clearTables_42 rfl ?_
      refine ze_getf dX4_clearTables_43 fl_X4_25 (tt_o hS1) rfl ?_
      refine ze_alen dX4_clearTables_46 (show w1.2 (E + 3) = some (ze_ia G 16 (ia1 3)) from tt_i hS1 3 (by decide)) rfl ?_
      refine ze_icmp_ge 63 dX4_clearTables_47 (by decide) (by omega) (by omega) (fun q1 => ?_) (fun q1 => ?_)
      · omega
      · refine ze_aload_n dX4_clearTables_50 rfl ?_
        refine ze_getf dX4_clearTables_51 fl_X4_25 (tt_o hS1) rfl ?_
        refine ze_iload_n dX4_clearTables_54 rfl ?_
        refine ze_iconst dX4_clearTables_55 ?_
        refine ze_iastW (j := i) (f' := va_up (ia1 3) i (0)) dX4_clearTables_56 (show w1.2 (E + 3) = some (ze_ia G 16 (ia1 3)) from tt_i hS1 3 (by decide)) (by omega) (by omega) (by omega) rfl (fun w2 z2 c2 o2 => ?_)
        have hS2 := tt_wi hS1 3 (by decide) z2 c2 o2
        refine ze_iinc (b := ((i + 1 : Nat))) (lv' := [(0, .ref E), (1, ze_i ((m : Nat))), (2, ze_i (((i + 1 : Nat))))]) dX4_clearTables_57 rfl rfl (by omega) rfl ?_
        refine ze_goto 41 dX4_clearTables_60 (by decide) ?_
        exact ih (i + 1) _ _ (by omega) hS2 (fun j g1 g2 => by rw [va_up_ne _ _ g2]; exact i1 j g1 g2) (fun j hj => by rw [va_up_ne _ _ (by decide)]; exact i2 j hj) (fun j hj => by
          rw [va_up_self]
          by_cases h : j = i
          · rw [h, va_up_self]
          · rw [va_up_ne _ _ h]; exact i3 j (by omega))
  have fst_ : ∀ (d i : Nat) (ia1 : Nat → Nat → Int) (w1 : ze_W), i + d = 256 → tst G w0 w1 E 0 m q FL ia1 la → (∀ j, j ≠ 1 → j ≠ 3 → ia1 j = ia j) → (∀ j, j < i → ia1 1 j = 0) → ze_V G l (ze_rm 1 0 0) M4_clearTables Z 17 [(0, .ref E), (1, ze_i ((m : Nat))), (2, ze_i ((i : Nat)))] [] w1 0 0 := by
    intro d
    induction d with
    | zero =>
      intro i ia1 w1 hi hS1 i1 i2
      refine ze_iload_n dX4_clearTables_17 rfl ?_
      refine ze_aload_n dX4_clearTables_18 rfl ?_
      refine ze_getf dX4_clearTables_19 fl_X4_18 (tt_o hS1) rfl ?_
      refine ze_alen dX4_clearTables_22 (show w1.2 (E + 1) = some (ze_ia G 256 (ia1 1)) from tt_i hS1 1 (by decide)) rfl ?_
      refine ze_icmp_ge 39 dX4_clearTables_23 (by decide) (by omega) (by omega) (fun q1 => ?_) (fun q1 => ?_)
      · refine ze_iconst dX4_clearTables_39 ?_
        refine ze_ti (b := ((0 : Nat) : Nat)) rfl ?_
        refine ze_istore_n (lv' := [(0, .ref E), (1, ze_i ((m : Nat))), (2, ze_i (((0 : Nat) : Nat)))]) dX4_clearTables_40 rfl rfl ?_
        exact snd_ 16 0 ia1 w1 (by omega) hS1 i1 (fun j hj => i2 j (by omega)) (fun j hj => absurd hj (Nat.not_lt_zero _))
      · omega
    | succ d ih =>
      intro i ia1 w1 hi hS1 i1 i2
      refine ze_iload_n dX4_clearTables_17 rfl ?_
      refine ze_aload_n dX4_clearTables_18 rfl ?_
      refine ze_getf dX4_clearTables_19 fl_X4_18 (tt_o hS1) rfl ?_
      refine ze_alen dX4_clearTables_22 (show w1.2 (E + 1) = some (ze_ia G 256 (ia1 1)) from tt_i hS1 1 (by decide)) rfl ?_
      refine ze_icmp_ge 39 dX4_clearTables_23 (by decide) (by omega) (by omega) (fun q1 => ?_) (fun q1 => ?_)
      · omega
      · refine ze_aload_n dX4_clearTables_26 rfl ?_
        refine ze_getf dX4_clearTables_27 fl_X4_18 (tt_o hS1) rfl ?_
        refine ze_iload_n dX4_clearTables_30 rfl ?_
        refine ze_iconst dX4_clearTables_31 ?_
        refine ze_iastW (j := i) (f' := va_up (ia1 1) i (0)) dX4_clearTables_32 (show w1.2 (E + 1) = some (ze_ia G 256 (ia1 1)) from tt_i hS1 1 (by decide)) (by omega) (by omega) (by omega) rfl (fun w2 z2 c2 o2 => ?_)
        have hS2 := tt_wi hS1 1 (by decide) z2 c2 o2
        refine ze_iinc (b := ((i + 1 : Nat))) (lv' := [(0, .ref E), (1, ze_i ((m : Nat))), (2, ze_i (((i + 1 : Nat))))]) dX4_clearTables_33 rfl rfl (by omega) rfl ?_
        refine ze_goto 17 dX4_clearTables_36 (by decide) ?_
        exact ih (i + 1) _ _ (by omega) hS2 (fun j g1 g2 => by rw [va_up_ne _ _ g1]; exact i1 j g1 g2) (fun j hj => by
          rw [va_up_self]
          by_cases h : j = i
          · rw [h, va_up_self]
          · rw [va_up_ne _ _ h]; exact i2 j (by omega))
  change ze_V G l (ze_rm 1 0 0) M4_clearTables Z 0 [(0, .ref E), (1, ze_i ((m : Nat)))] [] w 0 0
  refine ze_aload_n dX4_clearTables_0 rfl ?_
  refine ze_iconst dX4_clearTables_1 ?_
  refine ze_putfW (fs' := tfs E 0 K q FL) dX4_clearTables_2 fl_X4_9 (Or.inl rfl) (tt_o hS) rfl rfl (Nat.le_of_ble_eq_true rfl) rfl (fun w1 z1 c1 o1 => ?_)
  have hS1 := tt_wo (N' := 0) (K' := K) (q' := q) (F' := FL) hS z1 c1 o1
  refine ze_aload_n dX4_clearTables_5 rfl ?_
  refine ze_iload_n dX4_clearTables_6 rfl ?_
  refine ze_bipush dX4_clearTables_7 (by decide) ?_
  refine ze_mmin dX4_clearTables_9 ml_X4_81 st_Lib_Math_min_name n_J9 cd_Lib_Math_min_name rfl rfl ⟨Nat.le_refl _, Nat.le_refl _⟩ (by omega) (by omega) ?_
  refine ze_ti (b := (m : Nat)) (by omega) ?_
  refine ze_putfW (fs' := tfs E 0 m q FL) dX4_clearTables_12 fl_X4_15 (Or.inl rfl) (tt_o hS1) rfl rfl (Nat.le_of_ble_eq_true rfl) rfl (fun w2 z2 c2 o2 => ?_)
  have hS2 := tt_wo (N' := 0) (K' := m) (q' := q) (F' := FL) hS1 z2 c2 o2
  refine ze_iconst dX4_clearTables_15 ?_
  refine ze_ti (b := ((0 : Nat) : Nat)) rfl ?_
  refine ze_istore_n (lv' := [(0, .ref E), (1, ze_i ((m : Nat))), (2, ze_i (((0 : Nat) : Nat)))]) dX4_clearTables_16 rfl rfl ?_
  exact fst_ 256 0 ia _ (by omega) hS2 (fun _ _ _ => rfl) (fun j hj => absurd hj (Nat.not_lt_zero _))
theorem C4_addStates {G : ze_G} {l : Launch} {w0 w : ze_W} {E N K q FL : Nat} {ia la : Nat → Nat → Int} {ar : Nat → Nat → Int} {c p : Nat} (hS : tst G w0 w E N K q FL ia la) (hch : chr G w0 ar c p) (hpo : p + 4 ≤ E ∨ E + 12 ≤ p) (hN : N + cn ar c ≤ 16) (hK : K = ck ar c) : ze_C G l 2 0 0 M4_addStates [.ref E, .ref p] w (ze_qv (fun w' => ∃ ia', tst G w0 w' E (N + cn ar c) K q FL ia' la ∧ (∀ s t, s < cn ar c → t < cn ar c → ia' 1 ((N + s) * 16 + (N + t)) = (cg ar c s t : Nat)) ∧ (∀ a b, a < 16 → b < 16 → ¬ (N ≤ a ∧ N ≤ b ∧ a < N + cn ar c ∧ b < N + cn ar c) → ia' 1 (a * 16 + b) = ia 1 (a * 16 + b)) ∧ (∀ s y, s < cn ar c → y < K → ia' 2 ((N + s) * 6 + y) = (cw ar c s y : Nat)) ∧ (∀ j, j < N * 6 → ia' 2 j = ia 2 j) ∧ ∀ j, j ≠ 1 → j ≠ 2 → ia' j = ia j)) := by
  have hC : ∀ {w1 : ze_W} {N1 K1 q1 F1 : Nat} {ia1 la1 : Nat → Nat → Int}, tst G w0 w1 E N1 K1 q1 F1 ia1 la1 → chr G w1 ar c p := fun h => chr_sm hch (fun u h1 h2 => h.1.2 u (by omega))
  obtain ⟨en, n1, n8⟩ := mch_n hch.1
  obtain ⟨ek, k1, k6⟩ := mch_k hch.1
  refine ze_enter (by decide +kernel) rfl ?_
  generalize hQ : (ze_Q G (ze_qv (fun w' => ∃ ia', tst G w0 w' E (N + cn ar c) K q FL ia' la ∧ (∀ s t, s < cn ar c → t < cn ar c → ia' 1 ((N + s) * 16 + (N + t)) = (cg ar c s t : Nat)) ∧ (∀ a b, a < 16 → b < 16 → ¬ (N ≤ a ∧ N ≤ b ∧ a < N + cn ar c ∧ b < N + cn ar c) → ia' 1 (a * 16 + b) = ia 1 (a * 16 + b)) ∧ (∀ s y, s < cn ar c → y < K → ia' 2 ((N + s) * 6 + y) = (cw ar c s y : Nat)) ∧ (∀ j, j < N * 6 → ia' 2 j = ia 2 j) ∧ ∀ j, j ≠ 1 → j ≠ 2 → ia' j = ia j)) 0 0) = Z
  have outer : ∀ (d s : Nat) (ia1 : Nat → Nat → Int) (w1 : ze_W), s + d = cn ar c → tst G w0 w1 E (N + cn ar c) K q FL ia1 la → (∀ u t, u < s → t < cn ar c → ia1 1 ((N + u) * 16 + (N + t)) = (cg ar c u t : Nat)) → (∀ a b, a < 16 → b < 16 → ¬ (N ≤ a ∧ N ≤ b ∧ a < N + cn ar c ∧ b < N + cn ar c) → ia1 1 (a * 16 + b) = ia 1 (a * 16 + b)) → (∀ u y, u < s → y < K → ia1 2 ((N + u) * 6 + y) = (cw ar c u y : Nat)) → (∀ j, j < N * 6 → ia1 2 j = ia 2 j) → (∀ j, j ≠ 1 → j ≠ 2 → ia1 j = ia j) → ze_V G l (ze_rm 2 0 0) M4_addStates Z 22 [(0, .ref E), (1, .ref p), (2, ze_i ((N : Nat))), (3, ze_i ((s : Nat)))] [] w1 0 0 := by
    intro d
    induction d with
    | zero =>
      intro s ia1 w1 hs hS1 i1 i2 i3 i4 i5
      rw [← hQ]
      refine ze_iload_n dX4_addStates_22 rfl ?_
      refine ze_iload_n dX4_addStates_23 rfl ?_
      refine ze_iadd dX4_addStates_24 ?_
      refine ze_aload_n dX4_addStates_25 rfl ?_
      refine ze_getf dX4_addStates_26 fl_X4_9 (tt_o hS1) rfl ?_
      refine ze_icmp_ge 120 dX4_addStates_29 (by decide) (by omega) (by omega) (fun q1 => ?_) (fun q1 => ?_)
      · exact ze_return rfl dX4_addStates_120 ⟨rfl, ia1, hS1, fun u t hu ht => i1 u t (by omega) ht, i2, fun u y hu hy => i3 u y (by omega) hy, i4, i5⟩ rfl rfl
      · omega
    | succ d ih =>
      intro s ia0 w0' hs hS0 i1 i2 i3 i4 i5
      have shw : ∀ (g y : Nat) (ia1 : Nat → Nat → Int) (w1 : ze_W), y + g = K → tst G w0 w1 E (N + cn ar c) K q FL ia1 la → (∀ u t, u < s → t < cn ar c → ia1 1 ((N + u) * 16 + (N + t)) = (cg ar c u t : Nat)) → (∀ a b, a < 16 → b < 16 → ¬ (N ≤ a ∧ N ≤ b ∧ a < N + cn ar c ∧ b < N + cn ar c) → ia1 1 (a * 16 + b) = ia 1 (a * 16 + b)) → (∀ u y, u < s → y < K → ia1 2 ((N + u) * 6 + y) = (cw ar c u y : Nat)) → (∀ j, j < N * 6 → ia1 2 j = ia 2 j) → (∀ j, j ≠ 1 → j ≠ 2 → ia1 j = ia j) → (∀ t, t < cn ar c → ia1 1 ((N + s) * 16 + (N + t)) = (cg ar c s t : Nat)) → (∀ v, v < y → ia1 2 ((N + s) * 6 + v) = (cw ar c s v : Nat)) → ze_V G l (ze_rm 2 0 0) M4_addStates Z 78 [(0, .ref E), (1, .ref p), (2, ze_i ((N : Nat))), (3, ze_i ((s : Nat))), (4, ze_i ((y : Nat)))] [] w1 0 0 := by
        intro g
        induction g with
        | zero =>
          intro y ia1 w1 hy hS1 j1 j2 j3 j4 j5 j6 j7
          refine ze_iload dX4_addStates_78 rfl ?_
          refine ze_aload_n dX4_addStates_80 rfl ?_
          refine ze_getf dX4_addStates_81 fl_X4_15 (tt_o hS1) rfl ?_
          refine ze_icmp_ge 114 dX4_addStates_84 (by decide) (by omega) (by omega) (fun q1 => ?_) (fun q1 => ?_)
          · refine ze_iinc (b := ((s + 1 : Nat))) (lv' := [(0, .ref E), (1, .ref p), (2, ze_i ((N : Nat))), (3, ze_i (((s + 1 : Nat)))), (4, ze_i ((y : Nat)))]) dX4_addStates_114 rfl rfl (by omega) rfl ?_
            refine ze_goto 22 dX4_addStates_117 (by decide) ?_
            refine ze_lv (lv' := [(0, .ref E), (1, .ref p), (2, ze_i ((N : Nat))), (3, ze_i (((s + 1 : Nat))))]) [0, 1, 2, 3] rfl ?_
            refine ih (s + 1) ia1 w1 (by omega) hS1 (fun u t hu ht => ?_) j2 (fun u v hu hv => ?_) j4 j5
            · by_cases h : u = s
              · rw [h]; exact j6 t ht
              · exact j1 u t (by omega) ht
            · by_cases h : u = s
              · rw [h]; exact j7 v (by omega)
              · exact j3 u v (by omega) hv
          · omega
        | succ g ihg =>
          intro y ia1 w1 hy hS1 j1 j2 j3 j4 j5 j6 j7
          have e1 : ((shx ar c s ((y : Nat) : Int)).toNat : Nat) = cw ar c s y := by
            unfold shx cw
            rw [if_neg (by omega), Int.toNat_natCast]
          refine ze_iload dX4_addStates_78 rfl ?_
          refine ze_aload_n dX4_addStates_80 rfl ?_
          refine ze_getf dX4_addStates_81 fl_X4_15 (tt_o hS1) rfl ?_
          refine ze_icmp_ge 114 dX4_addStates_84 (by decide) (by omega) (by omega) (fun q1 => ?_) (fun q1 => ?_)
          · omega
          · refine ze_aload_n dX4_addStates_87 rfl ?_
            refine ze_getf dX4_addStates_88 fl_X4_22 (tt_o hS1) rfl ?_
            refine ze_iload_n dX4_addStates_91 rfl ?_
            refine ze_iload_n dX4_addStates_92 rfl ?_
            refine ze_iadd dX4_addStates_93 ?_
            refine ze_bipush dX4_addStates_94 (by decide) ?_
            refine ze_imul dX4_addStates_96 ?_
            refine ze_iload dX4_addStates_97 rfl ?_
            refine ze_iadd dX4_addStates_99 ?_
            refine ze_aload_n dX4_addStates_100 rfl ?_
            refine ze_iload_n dX4_addStates_101 rfl ?_
            refine ze_iload dX4_addStates_102 rfl ?_
            refine ze_callV (As := [ze_i ((s : Nat)), ze_i ((y : Nat))]) (rest := [ze_i ((((N : Nat) + (s : Nat)) * 6) + (y : Nat)), .ref (E + 2)]) dX4_addStates_104 (C0_showOf (s := s) (x := ((y : Nat) : Int)) (hC hS1) (by omega) (by omega)) mo0_showOf ml_X4_90 in_0_showOf se_0_showOf (hC hS1).2.1 rfl rfl rfl rfl rfl ⟨Nat.le_refl _, Nat.le_refl _⟩ rfl (Nat.le_of_ble_eq_true rfl) ?_
            rintro _ w' ⟨r2, rfl, rfl, rfl⟩
            change ze_V G l (ze_rm 2 0 0) M4_addStates _ 107 [(0, .ref E), (1, .ref p), (2, ze_i ((N : Nat))), (3, ze_i ((s : Nat))), (4, ze_i ((y : Nat)))] [ze_i (((shx ar c s ((y : Nat) : Int)).toNat : Nat)), ze_i ((((N : Nat) + (s : Nat)) * 6) + (y : Nat)), .ref (E + 2)] w' 0 0
            rw [e1]
            refine ze_iastW (j := ((N + s) * 6 + y)) (f' := va_up (ia1 2) ((N + s) * 6 + y) ((cw ar c s y : Nat))) dX4_addStates_107 (show w'.2 (E + 2) = some (ze_ia G 96 (ia1 2)) from tt_i hS1 2 (by decide)) (by omega) (by omega) (by omega) rfl (fun w3 z3 c3 o3 => ?_)
            have hS3 := tt_wi hS1 2 (by decide) z3 c3 o3
            refine ze_iinc (b := ((y + 1 : Nat))) (lv' := [(0, .ref E), (1, .ref p), (2, ze_i ((N : Nat))), (3, ze_i ((s : Nat))), (4, ze_i (((y + 1 : Nat))))]) dX4_addStates_108 rfl rfl (by omega) rfl ?_
            refine ze_goto 78 dX4_addStates_111 (by decide) ?_
            refine ihg (y + 1) _ _ (by omega) hS3 (fun u t hu ht => by rw [va_up_ne _ _ (by decide)]; exact j1 u t hu ht) (fun a b ha hb hn => by rw [va_up_ne _ _ (by decide)]; exact j2 a b ha hb hn) (fun u v hu hv => by rw [va_up_self, va_up_ne _ _ (by omega)]; exact j3 u v hu hv) (fun j hj => by rw [va_up_self, va_up_ne _ _ (by omega)]; exact j4 j hj) (fun j g1 g2 => by rw [va_up_ne _ _ g2]; exact j5 j g1 g2) (fun t ht => by rw [va_up_ne _ _ (by decide)]; exact j6 t ht) (fun v hv => ?_)
            rw [va_up_self]
            by_cases h : v = y
            · rw [h, va_up_self]
            · rw [va_up_ne _ _ (by omega)]; exact j7 v (by omega)
      have gos : ∀ (g t : Nat) (ia1 : Nat → Nat → Int) (w1 : ze_W), t + g = cn ar c → tst G w0 w1 E (N + cn ar c) K q FL ia1 la → (∀ u t, u < s → t < cn ar c → ia1 1 ((N + u) * 16 + (N + t)) = (cg ar c u t : Nat)) → (∀ a b, a < 16 → b < 16 → ¬ (N ≤ a ∧ N ≤ b ∧ a < N + cn ar c ∧ b < N + cn ar c) → ia1 1 (a * 16 + b) = ia 1 (a * 16 + b)) → (∀ u y, u < s → y < K → ia1 2 ((N + u) * 6 + y) = (cw ar c u y : Nat)) → (∀ j, j < N * 6 → ia1 2 j = ia 2 j) → (∀ j, j ≠ 1 → j ≠ 2 → ia1 j = ia j) → (∀ v, v < t → ia1 1 ((N + s) * 16 + (N + v)) = (cg ar c s v : Nat)) → ze_V G l (ze_rm 2 0 0) M4_addStates Z 35 [(0, .ref E), (1, .ref p), (2, ze_i ((N : Nat))), (3, ze_i ((s : Nat))), (4, ze_i ((t : Nat)))] [] w1 0 0 := by
        intro g
        induction g with
        | zero =>
          intro t ia1 w1 ht hS1 j1 j2 j3 j4 j5 j6
          refine ze_iload_n dX4_addStates_35 rfl ?_
          refine ze_iload dX4_addStates_36 rfl ?_
          refine ze_iadd dX4_addStates_38 ?_
          refine ze_aload_n dX4_addStates_39 rfl ?_
          refine ze_getf dX4_addStates_40 fl_X4_9 (tt_o hS1) rfl ?_
          refine ze_icmp_ge 75 dX4_addStates_43 (by decide) (by omega) (by omega) (fun q1 => ?_) (fun q1 => ?_)
          · refine ze_iconst dX4_addStates_75 ?_
            refine ze_ti (b := ((0 : Nat) : Nat)) rfl ?_
            refine ze_istore (lv' := [(0, .ref E), (1, .ref p), (2, ze_i ((N : Nat))), (3, ze_i ((s : Nat))), (4, ze_i (((0 : Nat) : Nat)))]) dX4_addStates_76 rfl rfl ?_
            exact shw K 0 ia1 w1 (by omega) hS1 j1 j2 j3 j4 j5 (fun v hv => j6 v (by omega)) (fun v hv => absurd hv (Nat.not_lt_zero _))
          · omega
        | succ g ihg =>
          intro t ia1 w1 ht hS1 j1 j2 j3 j4 j5 j6
          refine ze_iload_n dX4_addStates_35 rfl ?_
          refine ze_iload dX4_addStates_36 rfl ?_
          refine ze_iadd dX4_addStates_38 ?_
          refine ze_aload_n dX4_addStates_39 rfl ?_
          refine ze_getf dX4_addStates_40 fl_X4_9 (tt_o hS1) rfl ?_
          refine ze_icmp_ge 75 dX4_addStates_43 (by decide) (by omega) (by omega) (fun q1 => ?_) (fun q1 => ?_)
          · omega
          · refine ze_aload_n dX4_addStates_46 rfl ?_
            refine ze_getf dX4_addStates_47 fl_X4_18 (tt_o hS1) rfl ?_
            refine ze_iload_n dX4_addStates_50 rfl ?_
            refine ze_iload_n dX4_addStates_51 rfl ?_
            refine ze_iadd dX4_addStates_52 ?_
            refine ze_bipush dX4_addStates_53 (by decide) ?_
            refine ze_imul dX4_addStates_55 ?_
            refine ze_iload_n dX4_addStates_56 rfl ?_
            refine ze_iadd dX4_addStates_57 ?_
            refine ze_iload dX4_addStates_58 rfl ?_
            refine ze_iadd dX4_addStates_60 ?_
            refine ze_aload_n dX4_addStates_61 rfl ?_
            refine ze_iload_n dX4_addStates_62 rfl ?_
            refine ze_iload dX4_addStates_63 rfl ?_
            refine ze_callV (As := [ze_i ((s : Nat)), ze_i ((t : Nat))]) (rest := [ze_i (((((N : Nat) + (s : Nat)) * 16) + (N : Nat)) + (t : Nat)), .ref (E + 1)]) dX4_addStates_65 (C0_goOf (s := s) (t := t) (hC hS1) (by omega) (by omega)) mo0_goOf ml_X4_87 in_0_goOf se_0_goOf (hC hS1).2.1 rfl rfl rfl rfl rfl ⟨Nat.le_refl _, Nat.le_refl _⟩ rfl (Nat.le_of_ble_eq_true rfl) ?_
            rintro _ w' ⟨r2, rfl, rfl, rfl⟩
            change ze_V G l (ze_rm 2 0 0) M4_addStates _ 68 [(0, .ref E), (1, .ref p), (2, ze_i ((N : Nat))), (3, ze_i ((s : Nat))), (4, ze_i ((t : Nat)))] [ze_i ((cg ar c s t : Nat)), ze_i (((((N : Nat) + (s : Nat)) * 16) + (N : Nat)) + (t : Nat)), .ref (E + 1)] w' 0 0
            refine ze_iastW (j := ((N + s) * 16 + (N + t))) (f' := va_up (ia1 1) ((N + s) * 16 + (N + t)) ((cg ar c s t : Nat))) dX4_addStates_68 (show w'.2 (E + 1) = some (ze_ia G 256 (ia1 1)) from tt_i hS1 1 (by decide)) (by omega) (by omega) (by omega) rfl (fun w3 z3 c3 o3 => ?_)
            have hS3 := tt_wi hS1 1 (by decide) z3 c3 o3
            refine ze_iinc (b := ((t + 1 : Nat))) (lv' := [(0, .ref E), (1, .ref p), (2, ze_i ((N : Nat))), (3, ze_i ((s : Nat))), (4, ze_i (((t + 1 : Nat))))]) dX4_addStates_69 rfl rfl (by omega) rfl ?_
            refine ze_goto 35 dX4_addStates_72 (by decide) ?_
            refine ihg (t + 1) _ _ (by omega) hS3 (fun u v hu hv => by rw [va_up_self, va_up_ne _ _ (by omega)]; exact j1 u v hu hv) (fun a b ha hb hn => by rw [va_up_self, va_up_ne _ _ (fun h => by have := ix_inj hb (show N + t < 16 by omega) h; omega)]; exact j2 a b ha hb hn) (fun u v hu hv => by rw [va_up_ne _ _ (by decide)]; exact j3 u v hu hv) (fun j hj => by rw [va_up_ne _ _ (by decide)]; exact j4 j hj) (fun j g1 g2 => by rw [va_up_ne _ _ g1]; exact j5 j g1 g2) (fun v hv => ?_)
            rw [va_up_self]
            by_cases h : v = t
            · rw [h, va_up_self]
            · rw [va_up_ne _ _ (by omega)]; exact j6 v (by omega)
      refine ze_iload_n dX4_addStates_22 rfl ?_
      refine ze_iload_n dX4_addStates_23 rfl ?_
      refine ze_iadd dX4_addStates_24 ?_
      refine ze_aload_n dX4_addStates_25 rfl ?_
      refine ze_getf dX4_addStates_26 fl_X4_9 (tt_o hS0) rfl ?_
      refine ze_icmp_ge 120 dX4_addStates_29 (by decide) (by omega) (by omega) (fun q1 => ?_) (fun q1 => ?_)
      · omega
      · refine ze_iconst dX4_addStates_32 ?_
        refine ze_ti (b := ((0 : Nat) : Nat)) rfl ?_
        refine ze_istore (lv' := [(0, .ref E), (1, .ref p), (2, ze_i ((N : Nat))), (3, ze_i ((s : Nat))), (4, ze_i (((0 : Nat) : Nat)))]) dX4_addStates_33 rfl rfl ?_
        exact gos (cn ar c) 0 ia0 w0' (by omega) hS0 i1 i2 i3 i4 i5 (fun v hv => absurd hv (Nat.not_lt_zero _))
  change ze_V G l (ze_rm 2 0 0) M4_addStates Z 0 [(0, .ref E), (1, .ref p)] [] w 0 0
  refine ze_aload_n dX4_addStates_0 rfl ?_
  refine ze_getf dX4_addStates_1 fl_X4_9 (tt_o hS) rfl ?_
  refine ze_istore_n (lv' := [(0, .ref E), (1, .ref p), (2, ze_i ((N : Nat)))]) dX4_addStates_4 rfl rfl ?_
  refine ze_aload_n dX4_addStates_5 rfl ?_
  refine ze_iload_n dX4_addStates_6 rfl ?_
  refine ze_aload_n dX4_addStates_7 rfl ?_
  refine ze_getf dX4_addStates_8 fl_X4_70 (hC hS).2.1 rfl ?_
  refine ze_iadd dX4_addStates_11 ?_
  refine ze_bipush dX4_addStates_12 (by decide) ?_
  refine ze_mmin dX4_addStates_14 ml_X4_81 st_Lib_Math_min_name n_J9 cd_Lib_Math_min_name rfl rfl ⟨Nat.le_refl _, Nat.le_refl _⟩ (by omega) (by omega) ?_
  refine ze_ti (b := ((N + cn ar c : Nat))) (by omega) ?_
  refine ze_putfW (fs' := tfs E (N + cn ar c) K q FL) dX4_addStates_17 fl_X4_9 (Or.inl rfl) (tt_o hS) rfl rfl (Nat.le_of_ble_eq_true rfl) rfl (fun w1 z1 c1 o1 => ?_)
  have hS1 := tt_wo (N' := (N + cn ar c)) (K' := K) (q' := q) (F' := FL) hS z1 c1 o1
  refine ze_iconst dX4_addStates_20 ?_
  refine ze_ti (b := ((0 : Nat) : Nat)) rfl ?_
  refine ze_istore_n (lv' := [(0, .ref E), (1, .ref p), (2, ze_i ((N : Nat))), (3, ze_i (((0 : Nat) : Nat)))]) dX4_addStates_21 rfl rfl ?_
  exact outer (cn ar c) 0 ia _ (by omega) hS1 (fun u t hu => absurd hu (Nat.not_lt_zero _)) (fun _ _ _ _ _ => rfl) (fun u y hu => absurd hu (Nat.not_lt_zero _)) (fun _ _ => rfl) (fun _ _ _ => rfl)
/-- the states of two chains side by side -/
def sy2 (ar : Nat → Nat → Int) (a b : Nat) : tm_S := (cn ar a + cn ar b, fun s x => if s < cn ar a then ((cw ar a s x : Nat) : Int) else ((cw ar b (s - cn ar a) x : Nat) : Int), fun s t => if s < cn ar a then (if t < cn ar a then ((cg ar a s t : Nat) : Int) else 0) else (if t < cn ar a then 0 else ((cg ar b (s - cn ar a) (t - cn ar a) : Nat) : Int)), fun s => if s < cn ar a then ((cb ar a s : Nat) : Int) else -((cb ar b (s - cn ar a) : Nat) : Int))
/-- one chain, two of its states -/
def sy1 (ar : Nat → Nat → Int) (c s t : Nat) : tm_S := (cn ar c, fun u x => ((cw ar c u x : Nat) : Int), fun u v => ((cg ar c u v : Nat) : Int), fun k => if s = t then 0 else if k = t then -1 else if k = s then 1 else 0)
theorem C4_loadChains {G : ze_G} {l : Launch} {w0 w : ze_W} {E N K0 q FL : Nat} {ia la : Nat → Nat → Int} {ar : Nat → Nat → Int} {a b pa pb : Nat} (hS : tst G w0 w E N K0 q FL ia la) (ha : chr G w0 ar a pa) (hb : chr G w0 ar b pb) (hao : pa + 4 ≤ E ∨ E + 12 ≤ pa) (hbo : pb + 4 ≤ E ∨ E + 12 ≤ pb) (hk : ck ar a = ck ar b) : ze_C G l 3 0 0 M4_loadChains [.ref E, .ref pa, .ref pb] w (ze_qv (fun w' => ∃ ia' F', tst G w0 w' E (sy2 ar a b).1 (ck ar a) q F' ia' la ∧ tbl (sy2 ar a b) (ck ar a) ia')) := by
  have hA : ∀ {w1 : ze_W} {N1 K1 q1 F1 : Nat} {ia1 la1 : Nat → Nat → Int}, tst G w0 w1 E N1 K1 q1 F1 ia1 la1 → chr G w1 ar a pa := fun h => chr_sm ha (fun u h1 h2 => h.1.2 u (by omega))
  have hB : ∀ {w1 : ze_W} {N1 K1 q1 F1 : Nat} {ia1 la1 : Nat → Nat → Int}, tst G w0 w1 E N1 K1 q1 F1 ia1 la1 → chr G w1 ar b pb := fun h => chr_sm hb (fun u h1 h2 => h.1.2 u (by omega))
  obtain ⟨-, na1, na8⟩ := mch_n ha.1
  obtain ⟨-, nb1, nb8⟩ := mch_n hb.1
  obtain ⟨-, ka1, ka6⟩ := mch_k ha.1
  refine ze_enter (by decide +kernel) rfl ?_
  generalize hQ : (ze_Q G (ze_qv (fun w' => ∃ ia' F', tst G w0 w' E (sy2 ar a b).1 (ck ar a) q F' ia' la ∧ tbl (sy2 ar a b) (ck ar a) ia')) 0 0) = Z
  change ze_V G l (ze_rm 3 0 0) M4_loadChains Z 0 [(0, .ref E), (1, .ref pa), (2, .ref pb)] [] w 0 0
  refine ze_aload_n dX4_loadChains_0 rfl ?_
  refine ze_aload_n dX4_loadChains_1 rfl ?_
  refine ze_getf dX4_loadChains_2 fl_X4_59 (hA hS).2.1 rfl ?_
  refine ze_callV (As := [ze_i ((ck ar a : Nat))]) (rest := []) dX4_loadChains_5 (C4_clearTables (m := ck ar a) hS (by omega)) mo4_clearTables ml_X4_62 in_4_clearTables se_4_clearTables (tt_o hS) rfl rfl rfl rfl rfl ⟨Nat.le_refl _, Nat.le_refl _⟩ rfl (Nat.le_of_ble_eq_true rfl) ?_
  rintro _ w2 ⟨rfl, ia2, hS2, c1, c2, c3⟩
  change ze_V G l (ze_rm 3 0 0) M4_loadChains Z 8 [(0, .ref E), (1, .ref pa), (2, .ref pb)] [] w2 0 0
  refine ze_aload_n dX4_loadChains_8 rfl ?_
  refine ze_aload_n dX4_loadChains_9 rfl ?_
  refine ze_callV (As := [.ref pa]) (rest := []) dX4_loadChains_10 (C4_addStates (c := a) (p := pa) hS2 ha hao (by omega) rfl) mo4_addStates ml_X4_66 in_4_addStates se_4_addStates (tt_o hS2) rfl rfl rfl rfl rfl ⟨Nat.le_refl _, Nat.le_refl _⟩ rfl (Nat.le_of_ble_eq_true rfl) ?_
  rintro _ w3 ⟨rfl, ia3, hS3, a1, a2, a3, a4, a5⟩
  change ze_V G l (ze_rm 3 0 0) M4_loadChains Z 13 [(0, .ref E), (1, .ref pa), (2, .ref pb)] [] w3 0 0
  refine ze_aload_n dX4_loadChains_13 rfl ?_
  refine ze_getf dX4_loadChains_14 fl_X4_9 (tt_o hS3) rfl ?_
  refine ze_istore_n (lv' := [(0, .ref E), (1, .ref pa), (2, .ref pb), (3, ze_i (((0 + cn ar a) : Nat)))]) dX4_loadChains_17 rfl rfl ?_
  refine ze_aload_n dX4_loadChains_18 rfl ?_
  refine ze_aload_n dX4_loadChains_19 rfl ?_
  refine ze_callV (As := [.ref pb]) (rest := []) dX4_loadChains_20 (C4_addStates (c := b) (p := pb) hS3 hb hbo (by omega) hk) mo4_addStates ml_X4_66 in_4_addStates se_4_addStates (tt_o hS3) rfl rfl rfl rfl rfl ⟨Nat.le_refl _, Nat.le_refl _⟩ rfl (Nat.le_of_ble_eq_true rfl) ?_
  rintro _ w4 ⟨rfl, ia4, hS4, b1, b2, b3, b4, b5⟩
  change ze_V G l (ze_rm 3 0 0) M4_loadChains Z 23 [(0, .ref E), (1, .ref pa), (2, .ref pb), (3, ze_i (((0 + cn ar a) : Nat)))] [] w4 0 0
  have two : ∀ (d s : Nat) (ia5 : Nat → Nat → Int) (w5 : ze_W), s + d = cn ar b → tst G w0 w5 E (0 + cn ar a + cn ar b) (ck ar a) q FL ia5 la → (∀ j, j ≠ 3 → ia5 j = ia4 j) → (∀ u, u < cn ar a → ia5 3 u = (cb ar a u : Nat)) → (∀ u, u < s → ia5 3 (cn ar a + u) = -((cb ar b u : Nat) : Int)) → ze_V G l (ze_rm 3 0 0) M4_loadChains Z 63 [(0, .ref E), (1, .ref pa), (2, .ref pb), (3, ze_i (((0 + cn ar a : Nat)))), (4, ze_i ((s : Nat)))] [] w5 0 0 := by
    intro d
    induction d with
    | zero =>
      intro s ia5 w5 hs hS5 i1 i2 i3
      rw [← hQ]
      refine ze_iload dX4_loadChains_63 rfl ?_
      refine ze_aload_n dX4_loadChains_65 rfl ?_
      refine ze_getf dX4_loadChains_66 fl_X4_70 (hB hS5).2.1 rfl ?_
      refine ze_icmp_ge 105 dX4_loadChains_69 (by decide) (by omega) (by omega) (fun q1 => ?_) (fun q1 => ?_)
      · refine ze_return rfl dX4_loadChains_105 ⟨rfl, ia5, FL, (by show tst G w0 w5 E (cn ar a + cn ar b) (ck ar a) q FL ia5 la; rw [show cn ar a + cn ar b = 0 + cn ar a + cn ar b by omega]; exact hS5), fun u t hu ht => ?_, fun u y hu hy => ?_, fun u hu => ?_⟩ rfl rfl
        · have hu : u < cn ar a + cn ar b := hu
          have ht : t < cn ar a + cn ar b := ht
          show ia5 1 (u * 16 + t) = (if u < cn ar a then (if t < cn ar a then ((cg ar a u t : Nat) : Int) else 0) else (if t < cn ar a then 0 else ((cg ar b (u - cn ar a) (t - cn ar a) : Nat) : Int))) ∧ 0 ≤ (if u < cn ar a then (if t < cn ar a then ((cg ar a u t : Nat) : Int) else 0) else (if t < cn ar a then 0 else ((cg ar b (u - cn ar a) (t - cn ar a) : Nat) : Int))) ∧ (if u < cn ar a then (if t < cn ar a then ((cg ar a u t : Nat) : Int) else 0) else (if t < cn ar a then 0 else ((cg ar b (u - cn ar a) (t - cn ar a) : Nat) : Int))) ≤ 1000
          rw [i1 1 (by decide)]
          by_cases e1 : u < cn ar a
          · rw [if_pos e1, b2 u t (by omega) (by omega) (by omega)]
            by_cases e2 : t < cn ar a
            · rw [if_pos e2]
              have := a1 u t e1 e2
              rw [Nat.zero_add, Nat.zero_add] at this
              have h3 := (mch_g ha.1 (show u < 8 by omega) (show t < 8 by omega)).2
              exact ⟨this, by omega, by omega⟩
            · rw [if_neg e2, a2 u t (by omega) (by omega) (by omega), c2 _ (by omega)]
              exact ⟨rfl, by decide, by decide⟩
          · rw [if_neg e1]
            by_cases e2 : t < cn ar a
            · rw [if_pos e2, b2 u t (by omega) (by omega) (by omega), a2 u t (by omega) (by omega) (by omega), c2 _ (by omega)]
              exact ⟨rfl, by decide, by decide⟩
            · rw [if_neg e2]
              have := b1 (u - cn ar a) (t - cn ar a) (by omega) (by omega)
              rw [show 0 + cn ar a + (u - cn ar a) = u by omega, show 0 + cn ar a + (t - cn ar a) = t by omega] at this
              have h3 := (mch_g hb.1 (show u - cn ar a < 8 by omega) (show t - cn ar a < 8 by omega)).2
              exact ⟨this, by omega, by omega⟩
        · have hu : u < cn ar a + cn ar b := hu
          show ia5 2 (u * 6 + y) = (if u < cn ar a then ((cw ar a u y : Nat) : Int) else ((cw ar b (u - cn ar a) y : Nat) : Int)) ∧ 0 ≤ (if u < cn ar a then ((cw ar a u y : Nat) : Int) else ((cw ar b (u - cn ar a) y : Nat) : Int)) ∧ (if u < cn ar a then ((cw ar a u y : Nat) : Int) else ((cw ar b (u - cn ar a) y : Nat) : Int)) ≤ 1000
          rw [i1 2 (by decide)]
          by_cases e1 : u < cn ar a
          · rw [if_pos e1, b4 _ (by omega)]
            have := a3 u y e1 hy
            rw [Nat.zero_add] at this
            have h3 := (mch_w ha.1 (show u < 8 by omega) (show y < 6 by omega)).2
            exact ⟨this, by omega, by omega⟩
          · rw [if_neg e1]
            have := b3 (u - cn ar a) y (by omega) hy
            rw [show 0 + cn ar a + (u - cn ar a) = u by omega] at this
            have h3 := (mch_w hb.1 (show u - cn ar a < 8 by omega) (show y < 6 by omega)).2
            exact ⟨this, by omega, by omega⟩
        · have hu : u < cn ar a + cn ar b := hu
          show ia5 3 u = (if u < cn ar a then ((cb ar a u : Nat) : Int) else -((cb ar b (u - cn ar a) : Nat) : Int)) ∧ -1000 ≤ (if u < cn ar a then ((cb ar a u : Nat) : Int) else -((cb ar b (u - cn ar a) : Nat) : Int)) ∧ (if u < cn ar a then ((cb ar a u : Nat) : Int) else -((cb ar b (u - cn ar a) : Nat) : Int)) ≤ 1000
          by_cases e1 : u < cn ar a
          · rw [if_pos e1]
            have h3 := (mch_b ha.1 (show u < 8 by omega)).2
            exact ⟨i2 u e1, by omega, by omega⟩
          · rw [if_neg e1]
            have := i3 (u - cn ar a) (by omega)
            rw [show cn ar a + (u - cn ar a) = u by omega] at this
            have h3 := (mch_b hb.1 (show u - cn ar a < 8 by omega)).2
            exact ⟨this, by omega, by omega⟩
      · omega
    | succ d ih =>
      intro s ia5 w5 hs hS5 i1 i2 i3
      refine ze_iload dX4_loadChains_63 rfl ?_
      refine ze_aload_n dX4_loadChains_65 rfl ?_
      refine ze_getf dX4_loadChains_66 fl_X4_70 (hB hS5).2.1 rfl ?_
      refine ze_icmp_ge 105 dX4_loadChains_69 (by decide) (by omega) (by omega) (fun q1 => ?_) (fun q1 => ?_)
      · omega
      · refine ze_iload_n dX4_loadChains_72 rfl ?_
        refine ze_iload dX4_loadChains_73 rfl ?_
        refine ze_iadd dX4_loadChains_75 ?_
        refine ze_aload_n dX4_loadChains_76 rfl ?_
        refine ze_getf dX4_loadChains_77 fl_X4_9 (tt_o hS5) rfl ?_
        refine ze_icmp_ge 105 dX4_loadChains_80 (by decide) (by omega) (by omega) (fun q2 => ?_) (fun q2 => ?_)
        · omega
        · refine ze_aload_n dX4_loadChains_83 rfl ?_
          refine ze_getf dX4_loadChains_84 fl_X4_25 (tt_o hS5) rfl ?_
          refine ze_iload_n dX4_loadChains_87 rfl ?_
          refine ze_iload dX4_loadChains_88 rfl ?_
          refine ze_iadd dX4_loadChains_90 ?_
          refine ze_aload_n dX4_loadChains_91 rfl ?_
          refine ze_iload dX4_loadChains_92 rfl ?_
          refine ze_callV (As := [ze_i ((s : Nat))]) (rest := [ze_i (((0 + cn ar a : Nat)) + (s : Nat)), .ref (E + 3)]) dX4_loadChains_94 (C0_beginOf (s := s) (hB hS5) (by omega)) mo0_beginOf ml_X4_73 in_0_beginOf se_0_beginOf (hB hS5).2.1 rfl rfl rfl rfl rfl ⟨Nat.le_refl _, Nat.le_refl _⟩ rfl (Nat.le_of_ble_eq_true rfl) ?_
          rintro _ w' ⟨r3, rfl, rfl, rfl⟩
          change ze_V G l (ze_rm 3 0 0) M4_loadChains _ 97 [(0, .ref E), (1, .ref pa), (2, .ref pb), (3, ze_i (((0 + cn ar a : Nat)))), (4, ze_i ((s : Nat)))] [ze_i ((cb ar b s : Nat)), ze_i (((0 + cn ar a : Nat)) + (s : Nat)), .ref (E + 3)] w' 0 0
          refine ze_ineg dX4_loadChains_97 ?_
          refine ze_iastW (j := (cn ar a + s)) (f' := va_up (ia5 3) (cn ar a + s) (-(cb ar b s : Nat))) dX4_loadChains_98 (show w'.2 (E + 3) = some (ze_ia G 16 (ia5 3)) from tt_i hS5 3 (by decide)) (by omega) (by omega) (by omega) rfl (fun w4 z4 c4 o4 => ?_)
          have hS4 := tt_wi hS5 3 (by decide) z4 c4 o4
          refine ze_iinc (b := ((s + 1 : Nat))) (lv' := [(0, .ref E), (1, .ref pa), (2, .ref pb), (3, ze_i (((0 + cn ar a : Nat)))), (4, ze_i (((s + 1 : Nat))))]) dX4_loadChains_99 rfl rfl (by omega) rfl ?_
          refine ze_goto 63 dX4_loadChains_102 (by decide) ?_
          refine ih (s + 1) _ _ (by omega) hS4 (fun j hj => by rw [va_up_ne _ _ hj]; exact i1 j hj) (fun u hu => by rw [va_up_self, va_up_ne _ _ (by omega)]; exact i2 u hu) (fun u hu => ?_)
          rw [va_up_self]
          by_cases h : u = s
          · rw [h, va_up_self]
          · rw [va_up_ne _ _ (by omega)]; exact i3 u (by omega)
  have one : ∀ (d s : Nat) (ia5 : Nat → Nat → Int) (w5 : ze_W), s + d = cn ar a → tst G w0 w5 E (0 + cn ar a + cn ar b) (ck ar a) q FL ia5 la → (∀ j, j ≠ 3 → ia5 j = ia4 j) → (∀ u, u < s → ia5 3 u = (cb ar a u : Nat)) → ze_V G l (ze_rm 3 0 0) M4_loadChains Z 26 [(0, .ref E), (1, .ref pa), (2, .ref pb), (3, ze_i (((0 + cn ar a : Nat)))), (4, ze_i ((s : Nat)))] [] w5 0 0 := by
    intro d
    induction d with
    | zero =>
      intro s ia5 w5 hs hS5 i1 i2
      refine ze_iload dX4_loadChains_26 rfl ?_
      refine ze_aload_n dX4_loadChains_28 rfl ?_
      refine ze_getf dX4_loadChains_29 fl_X4_70 (hA hS5).2.1 rfl ?_
      refine ze_icmp_ge 60 dX4_loadChains_32 (by decide) (by omega) (by omega) (fun q1 => ?_) (fun q1 => ?_)
      · refine ze_iconst dX4_loadChains_60 ?_
        refine ze_ti (b := ((0 : Nat) : Nat)) rfl ?_
        refine ze_istore (lv' := [(0, .ref E), (1, .ref pa), (2, .ref pb), (3, ze_i (((0 + cn ar a : Nat)))), (4, ze_i (((0 : Nat) : Nat)))]) dX4_loadChains_61 rfl rfl ?_
        exact two (cn ar b) 0 ia5 w5 (by omega) hS5 i1 (fun u hu => i2 u (by omega)) (fun u hu => absurd hu (Nat.not_lt_zero _))
      · omega
    | succ d ih =>
      intro s ia5 w5 hs hS5 i1 i2
      refine ze_iload dX4_loadChains_26 rfl ?_
      refine ze_aload_n dX4_loadChains_28 rfl ?_
      refine ze_getf dX4_loadChains_29 fl_X4_70 (hA hS5).2.1 rfl ?_
      refine ze_icmp_ge 60 dX4_loadChains_32 (by decide) (by omega) (by omega) (fun q1 => ?_) (fun q1 => ?_)
      · omega
      · refine ze_iload dX4_loadChains_35 rfl ?_
        refine ze_iload_n dX4_loadChains_37 rfl ?_
        refine ze_icmp_ge 60 dX4_loadChains_38 (by decide) (by omega) (by omega) (fun q2 => ?_) (fun q2 => ?_)
        · omega
        · refine ze_aload_n dX4_loadChains_41 rfl ?_
          refine ze_getf dX4_loadChains_42 fl_X4_25 (tt_o hS5) rfl ?_
          refine ze_iload dX4_loadChains_45 rfl ?_
          refine ze_aload_n dX4_loadChains_47 rfl ?_
          refine ze_iload dX4_loadChains_48 rfl ?_
          refine ze_callV (As := [ze_i ((s : Nat))]) (rest := [ze_i ((s : Nat)), .ref (E + 3)]) dX4_loadChains_50 (C0_beginOf (s := s) (hA hS5) (by omega)) mo0_beginOf ml_X4_73 in_0_beginOf se_0_beginOf (hA hS5).2.1 rfl rfl rfl rfl rfl ⟨Nat.le_refl _, Nat.le_refl _⟩ rfl (Nat.le_of_ble_eq_true rfl) ?_
          rintro _ w' ⟨r3, rfl, rfl, rfl⟩
          change ze_V G l (ze_rm 3 0 0) M4_loadChains _ 53 [(0, .ref E), (1, .ref pa), (2, .ref pb), (3, ze_i (((0 + cn ar a : Nat)))), (4, ze_i ((s : Nat)))] [ze_i ((cb ar a s : Nat)), ze_i ((s : Nat)), .ref (E + 3)] w' 0 0
          refine ze_iastW (j := s) (f' := va_up (ia5 3) s ((cb ar a s : Nat))) dX4_loadChains_53 (show w'.2 (E + 3) = some (ze_ia G 16 (ia5 3)) from tt_i hS5 3 (by decide)) (by omega) (by omega) (by omega) rfl (fun w4 z4 c4 o4 => ?_)
          have hS4 := tt_wi hS5 3 (by decide) z4 c4 o4
          refine ze_iinc (b := ((s + 1 : Nat))) (lv' := [(0, .ref E), (1, .ref pa), (2, .ref pb), (3, ze_i (((0 + cn ar a : Nat)))), (4, ze_i (((s + 1 : Nat))))]) dX4_loadChains_54 rfl rfl (by omega) rfl ?_
          refine ze_goto 26 dX4_loadChains_57 (by decide) ?_
          refine ih (s + 1) _ _ (by omega) hS4 (fun j hj => by rw [va_up_ne _ _ hj]; exact i1 j hj) (fun u hu => ?_)
          rw [va_up_self]
          by_cases h : u = s
          · rw [h, va_up_self]
          · rw [va_up_ne _ _ (by omega)]; exact i2 u (by omega)
  refine ze_iconst dX4_loadChains_23 ?_
  refine ze_ti (b := ((0 : Nat) : Nat)) rfl ?_
  refine ze_istore (lv' := [(0, .ref E), (1, .ref pa), (2, .ref pb), (3, ze_i (((0 + cn ar a : Nat)))), (4, ze_i (((0 : Nat) : Nat)))]) dX4_loadChains_24 rfl rfl ?_
  exact one (cn ar a) 0 ia4 w4 (by omega) hS4 (fun _ _ => rfl) (fun u hu => absurd hu (Nat.not_lt_zero _))
theorem C4_loadStates {G : ze_G} {l : Launch} {w0 w : ze_W} {E N K0 q FL : Nat} {ia la : Nat → Nat → Int} {ar : Nat → Nat → Int} {c p s t : Nat} (hS : tst G w0 w E N K0 q FL ia la) (hch : chr G w0 ar c p) (hpo : p + 4 ≤ E ∨ E + 12 ≤ p) (hs : s < cn ar c) (ht : t < cn ar c) : ze_C G l 3 0 0 M4_loadStates [.ref E, .ref p, ze_i (s : Nat), ze_i (t : Nat)] w (ze_qv (fun w' => ∃ ia' F', tst G w0 w' E (sy1 ar c s t).1 (ck ar c) q F' ia' la ∧ tbl (sy1 ar c s t) (ck ar c) ia')) := by
  have hC : ∀ {w1 : ze_W} {N1 K1 q1 F1 : Nat} {ia1 la1 : Nat → Nat → Int}, tst G w0 w1 E N1 K1 q1 F1 ia1 la1 → chr G w1 ar c p := fun h => chr_sm hch (fun u h1 h2 => h.1.2 u (by omega))
  obtain ⟨en, n1, n8⟩ := mch_n hch.1
  obtain ⟨ek, k1, k6⟩ := mch_k hch.1
  refine ze_enter (by decide +kernel) rfl ?_
  change ze_V G l (ze_rm 3 0 0) M4_loadStates _ 0 [(0, .ref E), (1, .ref p), (2, ze_i ((s : Nat))), (3, ze_i ((t : Nat)))] [] w 0 0
  refine ze_aload_n dX4_loadStates_0 rfl ?_
  refine ze_aload_n dX4_loadStates_1 rfl ?_
  refine ze_getf dX4_loadStates_2 fl_X4_59 (hC hS).2.1 rfl ?_
  refine ze_callV (As := [ze_i ((ck ar c : Nat))]) (rest := []) dX4_loadStates_5 (C4_clearTables (m := ck ar c) hS (by omega)) mo4_clearTables ml_X4_62 in_4_clearTables se_4_clearTables (tt_o hS) rfl rfl rfl rfl rfl ⟨Nat.le_refl _, Nat.le_refl _⟩ rfl (Nat.le_of_ble_eq_true rfl) ?_
  rintro _ w2 ⟨rfl, ia2, hS2, c1, c2, c3⟩
  change ze_V G l (ze_rm 3 0 0) M4_loadStates _ 8 [(0, .ref E), (1, .ref p), (2, ze_i ((s : Nat))), (3, ze_i ((t : Nat)))] [] w2 0 0
  refine ze_aload_n dX4_loadStates_8 rfl ?_
  refine ze_aload_n dX4_loadStates_9 rfl ?_
  refine ze_callV (As := [.ref p]) (rest := []) dX4_loadStates_10 (C4_addStates (c := c) (p := p) hS2 hch hpo (by omega) rfl) mo4_addStates ml_X4_66 in_4_addStates se_4_addStates (tt_o hS2) rfl rfl rfl rfl rfl ⟨Nat.le_refl _, Nat.le_refl _⟩ rfl (Nat.le_of_ble_eq_true rfl) ?_
  rintro _ w3 ⟨rfl, ia3, hS3, a1, a2, a3, a4, a5⟩
  change ze_V G l (ze_rm 3 0 0) M4_loadStates _ 13 [(0, .ref E), (1, .ref p), (2, ze_i ((s : Nat))), (3, ze_i ((t : Nat)))] [] w3 0 0
  have htb : ∀ ia5 : Nat → Nat → Int, (∀ j, j ≠ 3 → ia5 j = ia3 j) → (∀ k, k < cn ar c → ia5 3 k = if s = t then 0 else if k = t then -1 else if k = s then 1 else 0) → tbl (sy1 ar c s t) (ck ar c) ia5 := by
    intro ia5 i1 i2
    refine ⟨fun u v hu hv => ?_, fun u y hu hy => ?_, fun u hu => ?_⟩
    · have hu : u < cn ar c := hu
      have hv : v < cn ar c := hv
      show ia5 1 (u * 16 + v) = ((cg ar c u v : Nat) : Int) ∧ 0 ≤ ((cg ar c u v : Nat) : Int) ∧ ((cg ar c u v : Nat) : Int) ≤ 1000
      rw [i1 1 (by decide)]
      have := a1 u v hu hv
      rw [Nat.zero_add, Nat.zero_add] at this
      have h3 := (mch_g hch.1 (show u < 8 by omega) (show v < 8 by omega)).2
      exact ⟨this, by omega, by omega⟩
    · have hu : u < cn ar c := hu
      show ia5 2 (u * 6 + y) = ((cw ar c u y : Nat) : Int) ∧ 0 ≤ ((cw ar c u y : Nat) : Int) ∧ ((cw ar c u y : Nat) : Int) ≤ 1000
      rw [i1 2 (by decide)]
      have := a3 u y hu hy
      rw [Nat.zero_add] at this
      have h3 := (mch_w hch.1 (show u < 8 by omega) (show y < 6 by omega)).2
      exact ⟨this, by omega, by omega⟩
    · have hu : u < cn ar c := hu
      refine ⟨i2 u hu, ?_⟩
      show -1000 ≤ (if s = t then (0 : Int) else if u = t then -1 else if u = s then 1 else 0) ∧ (if s = t then (0 : Int) else if u = t then -1 else if u = s then 1 else 0) ≤ 1000
      split
      · omega
      · split
        · omega
        · split <;> omega
  have hst : ∀ {w5 : ze_W} {ia5 : Nat → Nat → Int}, tst G w0 w5 E (0 + cn ar c) (ck ar c) q FL ia5 la → tst G w0 w5 E (sy1 ar c s t).1 (ck ar c) q FL ia5 la := fun h => by
    show tst G w0 _ E (cn ar c) (ck ar c) q FL _ la
    rw [show cn ar c = 0 + cn ar c by omega]
    exact h
  have h30 : ∀ k, k < 16 → ia3 3 k = 0 := fun k hk => by rw [a5 3 (by decide) (by decide)]; exact c3 k hk
  refine ze_iload_n dX4_loadStates_13 rfl ?_
  refine ze_iload_n dX4_loadStates_14 rfl ?_
  refine ze_icmp_eq 48 dX4_loadStates_15 (by decide) (by omega) (by omega) (fun q1 => ?_) (fun q1 => ?_)
  · exact ze_return rfl dX4_loadStates_48 ⟨rfl, ia3, FL, hst hS3, htb ia3 (fun _ _ => rfl) (fun k hk => by rw [if_pos (by omega)]; exact h30 k (by omega))⟩ rfl rfl
  · refine ze_aload_n dX4_loadStates_18 rfl ?_
    refine ze_iload_n dX4_loadStates_19 rfl ?_
    refine ze_callV (As := [ze_i ((s : Nat))]) (rest := []) dX4_loadStates_20 (C0_hasState (s := ((s : Nat) : Int)) (hC hS3) (by omega)) mo0_hasState ml_X4_77 in_0_hasState se_0_hasState (hC hS3).2.1 rfl rfl rfl rfl rfl ⟨Nat.le_refl _, Nat.le_refl _⟩ rfl (Nat.le_of_ble_eq_true rfl) ?_
    rintro _ w' ⟨r2, rfl, rfl, rfl⟩
    change ze_V G l (ze_rm 3 0 0) M4_loadStates _ 23 [(0, .ref E), (1, .ref p), (2, ze_i ((s : Nat))), (3, ze_i ((t : Nat)))] [ze_i (bi (0 ≤ ((s : Nat) : Int) ∧ ((s : Nat) : Int) < ((cn ar c : Nat) : Int)))] w' 0 0
    refine ze_if_eq 48 dX4_loadStates_23 (by decide) (bi_rng _) (fun q3 => ?_) (fun q3 => ?_)
    · rw [bi_z] at q3
      omega
    · refine ze_aload_n dX4_loadStates_26 rfl ?_
      refine ze_iload_n dX4_loadStates_27 rfl ?_
      refine ze_callV (As := [ze_i ((t : Nat))]) (rest := []) dX4_loadStates_28 (C0_hasState (s := ((t : Nat) : Int)) (hC hS3) (by omega)) mo0_hasState ml_X4_77 in_0_hasState se_0_hasState (hC hS3).2.1 rfl rfl rfl rfl rfl ⟨Nat.le_refl _, Nat.le_refl _⟩ rfl (Nat.le_of_ble_eq_true rfl) ?_
      rintro _ w' ⟨r4, rfl, rfl, rfl⟩
      change ze_V G l (ze_rm 3 0 0) M4_loadStates _ 31 [(0, .ref E), (1, .ref p), (2, ze_i ((s : Nat))), (3, ze_i ((t : Nat)))] [ze_i (bi (0 ≤ ((t : Nat) : Int) ∧ ((t : Nat) : Int) < ((cn ar c : Nat) : Int)))] w' 0 0
      refine ze_if_eq 48 dX4_loadStates_31 (by decide) (bi_rng _) (fun q5 => ?_) (fun q5 => ?_)
      · rw [bi_z] at q5
        omega
      · refine ze_aload_n dX4_loadStates_34 rfl ?_
        refine ze_getf dX4_loadStates_35 fl_X4_25 (tt_o hS3) rfl ?_
        refine ze_iload_n dX4_loadStates_38 rfl ?_
        refine ze_iconst dX4_loadStates_39 ?_
        refine ze_iastW (j := s) (f' := va_up (ia3 3) s (1)) dX4_loadStates_40 (show w'.2 (E + 3) = some (ze_ia G 16 (ia3 3)) from tt_i hS3 3 (by decide)) (by omega) (by omega) (by omega) rfl (fun w6 z6 c6 o6 => ?_)
        have hS6 := tt_wi hS3 3 (by decide) z6 c6 o6
        refine ze_aload_n dX4_loadStates_41 rfl ?_
        refine ze_getf dX4_loadStates_42 fl_X4_25 (tt_o hS6) rfl ?_
        refine ze_iload_n dX4_loadStates_45 rfl ?_
        refine ze_iconst dX4_loadStates_46 ?_
        refine ze_iastW (j := t) (f' := va_up ((va_up ia3 3 (va_up (ia3 3) s (1))) 3) t (-1)) dX4_loadStates_47 (show w6.2 (E + 3) = some (ze_ia G 16 ((va_up ia3 3 (va_up (ia3 3) s (1))) 3)) from tt_i hS6 3 (by decide)) (by omega) (by omega) (by omega) rfl (fun w7 z7 c7 o7 => ?_)
        have hS7 := tt_wi hS6 3 (by decide) z7 c7 o7
        refine ze_return rfl dX4_loadStates_48 ⟨rfl, _, FL, hst hS7, htb _ (fun j hj => by rw [va_up_ne _ _ hj, va_up_ne _ _ hj]) (fun k hk => ?_)⟩ rfl rfl
        rw [if_neg (by omega), va_up_self]
        by_cases e1 : k = t
        · rw [if_pos e1, e1, va_up_self]
        · rw [if_neg e1, va_up_ne _ _ e1, va_up_self]
          by_cases e2 : k = s
          · rw [if_pos e2, e2, va_up_self]
          · rw [if_neg e2, va_up_ne _ _ e2]; exact h30 k (by omega)
def tlp (G : ze_G) (w : ze_W) (E : Nat) : Prop := ∃ (N K q F : Nat) (ia la : Nat → Nat → Int), tst G w w E N K q F ia la
theorem C4_init {G : ze_G} {l : Launch} {w : ze_W} {E : Nat} (hb : w.2 E = some (ze_ob 4 [ze_i 0, ze_i 0, .null, .null, .null, ze_i 0, .null, .null, .null, .null, .null, .null, .null, .null, ze_i 0])) (hw : w.1 = E + 1) : ze_C G l 1 11 1232 M4_init [.ref E] w (ze_qv (fun w' => w'.1 = E + 12 ∧ tlp G w' E ∧ ∀ u, u < E → w'.2 u = w.2 u)) := by
  have n1 : ∀ k, 0 < k → E + k ≠ E := fun k hk => by omega
  have n2 : ∀ k, 0 < k → E ≠ E + k := fun k hk => by omega
  have l1 : ∀ j k, j < k → E + j < E + k := fun j k h => by omega
  have k5 : ∀ k, 1 ≤ k ∧ k ≤ 5 → k = 1 ∨ k = 2 ∨ k = 3 ∨ k = 4 ∨ k = 5 := fun k h => by omega
  refine ze_enter (by decide +kernel) rfl ?_
  change ze_V G l (ze_rm 1 11 1232) M4_init _ 0 [(0, .ref E)] [] w 0 0
  refine ze_aload_n dX4_init_0 rfl ?_
  refine ze_objI dX4_init_1 ml_X4_3 in_objectInit cd_objectInit rfl rfl ?_
  refine ze_aload_n dX4_init_4 rfl ?_
  refine ze_iconst dX4_init_5 ?_
  refine ze_putfW (fs' := [ze_i 0, ze_i 0, .null, .null, .null, ze_i 0, .null, .null, .null, .null, .null, .null, .null, .null, ze_i 0]) dX4_init_6 fl_X4_9 (Or.inl rfl) hb rfl rfl (Nat.le_of_ble_eq_true rfl) rfl (fun b1 z1 c1 p1 => ?_)
  have e1 : b1.1 = E + 1 := z1.trans hw
  refine ze_aload_n dX4_init_9 rfl ?_
  refine ze_iconst dX4_init_10 ?_
  refine ze_putfW (fs' := [ze_i 0, ze_i 0, .null, .null, .null, ze_i 0, .null, .null, .null, .null, .null, .null, .null, .null, ze_i 0]) dX4_init_11 fl_X4_15 (Or.inl rfl) c1 rfl rfl (Nat.le_of_ble_eq_true rfl) rfl (fun b2 z2 c2 p2 => ?_)
  have e2 : b2.1 = E + 1 := z2.trans e1
  refine ze_aload_n dX4_init_14 rfl ?_
  refine ze_sipush dX4_init_15 (by decide) ?_
  refine ze_newiW (n := 256) dX4_init_18 rfl (by decide) (by decide) (by decide) (fun a3 y3 r3 o3 => ?_)
  rw [e2] at y3 r3 o3 ⊢
  refine ze_putfW (fs' := [ze_i 0, ze_i 0, .ref (E + 1), .null, .null, ze_i 0, .null, .null, .null, .null, .null, .null, .null, .null, ze_i 0]) dX4_init_20 fl_X4_18 (Or.inr ⟨rfl, rfl⟩) ((o3 E (n2 1 (by decide))).trans c2) rfl rfl (Nat.le_of_ble_eq_true rfl) rfl (fun b3 z3 c3 p3 => ?_)
  have e3 : b3.1 = E + 2 := by rw [z3, y3]
  refine ze_aload_n dX4_init_23 rfl ?_
  refine ze_bipush dX4_init_24 (by decide) ?_
  refine ze_newiW (n := 96) dX4_init_26 rfl (by decide) (by decide) (by decide) (fun a4 y4 r4 o4 => ?_)
  rw [e3] at y4 r4 o4 ⊢
  refine ze_putfW (fs' := [ze_i 0, ze_i 0, .ref (E + 1), .ref (E + 2), .null, ze_i 0, .null, .null, .null, .null, .null, .null, .null, .null, ze_i 0]) dX4_init_28 fl_X4_22 (Or.inr ⟨rfl, rfl⟩) ((o4 E (n2 2 (by decide))).trans c3) rfl rfl (Nat.le_of_ble_eq_true rfl) rfl (fun b4 z4 c4 p4 => ?_)
  have e4 : b4.1 = E + 3 := by rw [z4, y4]
  refine ze_aload_n dX4_init_31 rfl ?_
  refine ze_bipush dX4_init_32 (by decide) ?_
  refine ze_newiW (n := 16) dX4_init_34 rfl (by decide) (by decide) (by decide) (fun a5 y5 r5 o5 => ?_)
  rw [e4] at y5 r5 o5 ⊢
  refine ze_putfW (fs' := [ze_i 0, ze_i 0, .ref (E + 1), .ref (E + 2), .ref (E + 3), ze_i 0, .null, .null, .null, .null, .null, .null, .null, .null, ze_i 0]) dX4_init_36 fl_X4_25 (Or.inr ⟨rfl, rfl⟩) ((o5 E (n2 3 (by decide))).trans c4) rfl rfl (Nat.le_of_ble_eq_true rfl) rfl (fun b5 z5 c5 p5 => ?_)
  have e5 : b5.1 = E + 4 := by rw [z5, y5]
  refine ze_aload_n dX4_init_39 rfl ?_
  refine ze_iconst dX4_init_40 ?_
  refine ze_putfW (fs' := [ze_i 0, ze_i 0, .ref (E + 1), .ref (E + 2), .ref (E + 3), ze_i 0, .null, .null, .null, .null, .null, .null, .null, .null, ze_i 0]) dX4_init_41 fl_X4_28 (Or.inl rfl) c5 rfl rfl (Nat.le_of_ble_eq_true rfl) rfl (fun b6 z6 c6 p6 => ?_)
  have e6 : b6.1 = E + 4 := z6.trans e5
  refine ze_aload_n dX4_init_44 rfl ?_
  refine ze_sipush dX4_init_45 (by decide) ?_
  refine ze_newiW (n := 256) dX4_init_48 rfl (by decide) (by decide) (by decide) (fun a7 y7 r7 o7 => ?_)
  rw [e6] at y7 r7 o7 ⊢
  refine ze_putfW (fs' := [ze_i 0, ze_i 0, .ref (E + 1), .ref (E + 2), .ref (E + 3), ze_i 0, .ref (E + 4), .null, .null, .null, .null, .null, .null, .null, ze_i 0]) dX4_init_50 fl_X4_31 (Or.inr ⟨rfl, rfl⟩) ((o7 E (n2 4 (by decide))).trans c6) rfl rfl (Nat.le_of_ble_eq_true rfl) rfl (fun b7 z7 c7 p7 => ?_)
  have e7 : b7.1 = E + 5 := by rw [z7, y7]
  refine ze_aload_n dX4_init_53 rfl ?_
  refine ze_bipush dX4_init_54 (by decide) ?_
  refine ze_newiW (n := 16) dX4_init_56 rfl (by decide) (by decide) (by decide) (fun a8 y8 r8 o8 => ?_)
  rw [e7] at y8 r8 o8 ⊢
  refine ze_putfW (fs' := [ze_i 0, ze_i 0, .ref (E + 1), .ref (E + 2), .ref (E + 3), ze_i 0, .ref (E + 4), .ref (E + 5), .null, .null, .null, .null, .null, .null, ze_i 0]) dX4_init_58 fl_X4_34 (Or.inr ⟨rfl, rfl⟩) ((o8 E (n2 5 (by decide))).trans c7) rfl rfl (Nat.le_of_ble_eq_true rfl) rfl (fun b8 z8 c8 p8 => ?_)
  have e8 : b8.1 = E + 6 := by rw [z8, y8]
  refine ze_aload_n dX4_init_61 rfl ?_
  refine ze_sipush dX4_init_62 (by decide) ?_
  refine ze_newlW (n := 256) dX4_init_65 rfl (by decide) (by decide) (by decide) (fun a9 y9 r9 o9 => ?_)
  rw [e8] at y9 r9 o9 ⊢
  refine ze_putfW (fs' := [ze_i 0, ze_i 0, .ref (E + 1), .ref (E + 2), .ref (E + 3), ze_i 0, .ref (E + 4), .ref (E + 5), .ref (E + 6), .null, .null, .null, .null, .null, ze_i 0]) dX4_init_67 fl_X4_37 (Or.inr ⟨rfl, rfl⟩) ((o9 E (n2 6 (by decide))).trans c8) rfl rfl (Nat.le_of_ble_eq_true rfl) rfl (fun b9 z9 c9 p9 => ?_)
  have e9 : b9.1 = E + 7 := by rw [z9, y9]
  refine ze_aload_n dX4_init_70 rfl ?_
  refine ze_sipush dX4_init_71 (by decide) ?_
  refine ze_newlW (n := 256) dX4_init_74 rfl (by decide) (by decide) (by decide) (fun a10 y10 r10 o10 => ?_)
  rw [e9] at y10 r10 o10 ⊢
  refine ze_putfW (fs' := [ze_i 0, ze_i 0, .ref (E + 1), .ref (E + 2), .ref (E + 3), ze_i 0, .ref (E + 4), .ref (E + 5), .ref (E + 6), .ref (E + 7), .null, .null, .null, .null, ze_i 0]) dX4_init_76 fl_X4_41 (Or.inr ⟨rfl, rfl⟩) ((o10 E (n2 7 (by decide))).trans c9) rfl rfl (Nat.le_of_ble_eq_true rfl) rfl (fun b10 z10 c10 p10 => ?_)
  have e10 : b10.1 = E + 8 := by rw [z10, y10]
  refine ze_aload_n dX4_init_79 rfl ?_
  refine ze_bipush dX4_init_80 (by decide) ?_
  refine ze_newiW (n := 16) dX4_init_82 rfl (by decide) (by decide) (by decide) (fun a11 y11 r11 o11 => ?_)
  rw [e10] at y11 r11 o11 ⊢
  refine ze_putfW (fs' := [ze_i 0, ze_i 0, .ref (E + 1), .ref (E + 2), .ref (E + 3), ze_i 0, .ref (E + 4), .ref (E + 5), .ref (E + 6), .ref (E + 7), .ref (E + 8), .null, .null, .null, ze_i 0]) dX4_init_84 fl_X4_44 (Or.inr ⟨rfl, rfl⟩) ((o11 E (n2 8 (by decide))).trans c10) rfl rfl (Nat.le_of_ble_eq_true rfl) rfl (fun b11 z11 c11 p11 => ?_)
  have e11 : b11.1 = E + 9 := by rw [z11, y11]
  refine ze_aload_n dX4_init_87 rfl ?_
  refine ze_bipush dX4_init_88 (by decide) ?_
  refine ze_newlW (n := 16) dX4_init_90 rfl (by decide) (by decide) (by decide) (fun a12 y12 r12 o12 => ?_)
  rw [e11] at y12 r12 o12 ⊢
  refine ze_putfW (fs' := [ze_i 0, ze_i 0, .ref (E + 1), .ref (E + 2), .ref (E + 3), ze_i 0, .ref (E + 4), .ref (E + 5), .ref (E + 6), .ref (E + 7), .ref (E + 8), .ref (E + 9), .null, .null, ze_i 0]) dX4_init_92 fl_X4_47 (Or.inr ⟨rfl, rfl⟩) ((o12 E (n2 9 (by decide))).trans c11) rfl rfl (Nat.le_of_ble_eq_true rfl) rfl (fun b12 z12 c12 p12 => ?_)
  have e12 : b12.1 = E + 10 := by rw [z12, y12]
  refine ze_aload_n dX4_init_95 rfl ?_
  refine ze_bipush dX4_init_96 (by decide) ?_
  refine ze_newlW (n := 16) dX4_init_98 rfl (by decide) (by decide) (by decide) (fun a13 y13 r13 o13 => ?_)
  rw [e12] at y13 r13 o13 ⊢
  refine ze_putfW (fs' := [ze_i 0, ze_i 0, .ref (E + 1), .ref (E + 2), .ref (E + 3), ze_i 0, .ref (E + 4), .ref (E + 5), .ref (E + 6), .ref (E + 7), .ref (E + 8), .ref (E + 9), .ref (E + 10), .null, ze_i 0]) dX4_init_100 fl_X4_50 (Or.inr ⟨rfl, rfl⟩) ((o13 E (n2 10 (by decide))).trans c12) rfl rfl (Nat.le_of_ble_eq_true rfl) rfl (fun b13 z13 c13 p13 => ?_)
  have e13 : b13.1 = E + 11 := by rw [z13, y13]
  refine ze_aload_n dX4_init_103 rfl ?_
  refine ze_bipush dX4_init_104 (by decide) ?_
  refine ze_newiW (n := 16) dX4_init_106 rfl (by decide) (by decide) (by decide) (fun a14 y14 r14 o14 => ?_)
  rw [e13] at y14 r14 o14 ⊢
  refine ze_putfW (fs' := [ze_i 0, ze_i 0, .ref (E + 1), .ref (E + 2), .ref (E + 3), ze_i 0, .ref (E + 4), .ref (E + 5), .ref (E + 6), .ref (E + 7), .ref (E + 8), .ref (E + 9), .ref (E + 10), .ref (E + 11), ze_i 0]) dX4_init_108 fl_X4_53 (Or.inr ⟨rfl, rfl⟩) ((o14 E (n2 11 (by decide))).trans c13) rfl rfl (Nat.le_of_ble_eq_true rfl) rfl (fun b14 z14 c14 p14 => ?_)
  have e14 : b14.1 = E + 12 := by rw [z14, y14]
  refine ze_aload_n dX4_init_111 rfl ?_
  refine ze_iconst dX4_init_112 ?_
  refine ze_putfW (fs' := [ze_i 0, ze_i 0, .ref (E + 1), .ref (E + 2), .ref (E + 3), ze_i 0, .ref (E + 4), .ref (E + 5), .ref (E + 6), .ref (E + 7), .ref (E + 8), .ref (E + 9), .ref (E + 10), .ref (E + 11), ze_i 0]) dX4_init_113 fl_X4_56 (Or.inl rfl) c14 rfl rfl (Nat.le_of_ble_eq_true rfl) rfl (fun b15 z15 c15 p15 => ?_)
  have e15 : b15.1 = E + 12 := z15.trans e14
  have t15 : ∀ u, u ≠ E → b15.2 u = b15.2 u := fun _ _ => rfl
  have t14 : ∀ u, u ≠ E → u < E + 12 → b15.2 u = b14.2 u := fun u g1 g2 => (t15 u g1).trans (p15 u g1)
  have t13 : ∀ u, u ≠ E → u < E + 11 → b15.2 u = b13.2 u := fun u g1 g2 => (t14 u g1 (Nat.lt_of_lt_of_le g2 (Nat.add_le_add_left (by decide) E))).trans ((p14 u g1).trans (o14 u (Nat.ne_of_lt g2)))
  have t12 : ∀ u, u ≠ E → u < E + 10 → b15.2 u = b12.2 u := fun u g1 g2 => (t13 u g1 (Nat.lt_of_lt_of_le g2 (Nat.add_le_add_left (by decide) E))).trans ((p13 u g1).trans (o13 u (Nat.ne_of_lt g2)))
  have t11 : ∀ u, u ≠ E → u < E + 9 → b15.2 u = b11.2 u := fun u g1 g2 => (t12 u g1 (Nat.lt_of_lt_of_le g2 (Nat.add_le_add_left (by decide) E))).trans ((p12 u g1).trans (o12 u (Nat.ne_of_lt g2)))
  have t10 : ∀ u, u ≠ E → u < E + 8 → b15.2 u = b10.2 u := fun u g1 g2 => (t11 u g1 (Nat.lt_of_lt_of_le g2 (Nat.add_le_add_left (by decide) E))).trans ((p11 u g1).trans (o11 u (Nat.ne_of_lt g2)))
  have t9 : ∀ u, u ≠ E → u < E + 7 → b15.2 u = b9.2 u := fun u g1 g2 => (t10 u g1 (Nat.lt_of_lt_of_le g2 (Nat.add_le_add_left (by decide) E))).trans ((p10 u g1).trans (o10 u (Nat.ne_of_lt g2)))
  have t8 : ∀ u, u ≠ E → u < E + 6 → b15.2 u = b8.2 u := fun u g1 g2 => (t9 u g1 (Nat.lt_of_lt_of_le g2 (Nat.add_le_add_left (by decide) E))).trans ((p9 u g1).trans (o9 u (Nat.ne_of_lt g2)))
  have t7 : ∀ u, u ≠ E → u < E + 5 → b15.2 u = b7.2 u := fun u g1 g2 => (t8 u g1 (Nat.lt_of_lt_of_le g2 (Nat.add_le_add_left (by decide) E))).trans ((p8 u g1).trans (o8 u (Nat.ne_of_lt g2)))
  have t6 : ∀ u, u ≠ E → u < E + 4 → b15.2 u = b6.2 u := fun u g1 g2 => (t7 u g1 (Nat.lt_of_lt_of_le g2 (Nat.add_le_add_left (by decide) E))).trans ((p7 u g1).trans (o7 u (Nat.ne_of_lt g2)))
  have t5 : ∀ u, u ≠ E → u < E + 4 → b15.2 u = b5.2 u := fun u g1 g2 => (t6 u g1 (Nat.lt_of_lt_of_le g2 (Nat.add_le_add_left (by decide) E))).trans (p6 u g1)
  have t4 : ∀ u, u ≠ E → u < E + 3 → b15.2 u = b4.2 u := fun u g1 g2 => (t5 u g1 (Nat.lt_of_lt_of_le g2 (Nat.add_le_add_left (by decide) E))).trans ((p5 u g1).trans (o5 u (Nat.ne_of_lt g2)))
  have t3 : ∀ u, u ≠ E → u < E + 2 → b15.2 u = b3.2 u := fun u g1 g2 => (t4 u g1 (Nat.lt_of_lt_of_le g2 (Nat.add_le_add_left (by decide) E))).trans ((p4 u g1).trans (o4 u (Nat.ne_of_lt g2)))
  have t2 : ∀ u, u ≠ E → u < E + 1 → b15.2 u = b2.2 u := fun u g1 g2 => (t3 u g1 (Nat.lt_of_lt_of_le g2 (Nat.add_le_add_left (by decide) E))).trans ((p3 u g1).trans (o3 u (Nat.ne_of_lt g2)))
  have t1 : ∀ u, u ≠ E → u < E + 1 → b15.2 u = b1.2 u := fun u g1 g2 => (t2 u g1 (Nat.lt_of_lt_of_le g2 (Nat.add_le_add_left (by decide) E))).trans (p2 u g1)
  have t0 : ∀ u, u ≠ E → u < E + 1 → b15.2 u = w.2 u := fun u g1 g2 => (t1 u g1 (Nat.lt_of_lt_of_le g2 (Nat.add_le_add_left (by decide) E))).trans (p1 u g1)
  have x1 := (t3 (E + 1) (n1 1 (by decide)) (l1 1 2 (by decide))).trans ((p3 (E + 1) (n1 1 (by decide))).trans r3)
  have x2 := (t4 (E + 2) (n1 2 (by decide)) (l1 2 3 (by decide))).trans ((p4 (E + 2) (n1 2 (by decide))).trans r4)
  have x3 := (t5 (E + 3) (n1 3 (by decide)) (l1 3 4 (by decide))).trans ((p5 (E + 3) (n1 3 (by decide))).trans r5)
  have x4 := (t7 (E + 4) (n1 4 (by decide)) (l1 4 5 (by decide))).trans ((p7 (E + 4) (n1 4 (by decide))).trans r7)
  have x5 := (t8 (E + 5) (n1 5 (by decide)) (l1 5 6 (by decide))).trans ((p8 (E + 5) (n1 5 (by decide))).trans r8)
  have x6 := (t9 (E + 6) (n1 6 (by decide)) (l1 6 7 (by decide))).trans ((p9 (E + 6) (n1 6 (by decide))).trans r9)
  have x7 := (t10 (E + 7) (n1 7 (by decide)) (l1 7 8 (by decide))).trans ((p10 (E + 7) (n1 7 (by decide))).trans r10)
  have x8 := (t11 (E + 8) (n1 8 (by decide)) (l1 8 9 (by decide))).trans ((p11 (E + 8) (n1 8 (by decide))).trans r11)
  have x9 := (t12 (E + 9) (n1 9 (by decide)) (l1 9 10 (by decide))).trans ((p12 (E + 9) (n1 9 (by decide))).trans r12)
  have x10 := (t13 (E + 10) (n1 10 (by decide)) (l1 10 11 (by decide))).trans ((p13 (E + 10) (n1 10 (by decide))).trans r13)
  have x11 := (t14 (E + 11) (n1 11 (by decide)) (l1 11 12 (by decide))).trans ((p14 (E + 11) (n1 11 (by decide))).trans r14)
  refine ze_return rfl dX4_init_116 ⟨rfl, e15, ⟨0, 0, 0, 0, fun _ _ => 0, fun _ _ => 0, ⟨rfl, fun _ _ => rfl⟩, c15, fun k hk => ?_, fun k hk => ?_⟩, fun u hu => t0 u (Nat.ne_of_lt hu) (Nat.lt_succ_of_lt hu)⟩ rfl rfl
  · rcases til_ne hk with h | h | h
    · rcases k5 k h with rfl | rfl | rfl | rfl | rfl
      · exact x1
      · exact x2
      · exact x3
      · exact x4
      · exact x5
    · subst h; exact x8
    · subst h; exact x11
  · rcases tll_ne hk with rfl | rfl | rfl | rfl
    · exact x6
    · exact x7
    · exact x9
    · exact x10
