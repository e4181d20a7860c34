/-! the reference: the chances behind and ahead -/
theorem C8_workBehind {G : ze_G} {l : Launch} {w0 w : ze_W} {m C P F : Nat} {ar : Nat → Nat → Int} {bz : Nat → Int} (hM : mst G w0 w m C P F ar bz) {c : Nat} (hc : c < 6) (hR : rok ar c P) : ze_C G l 6 0 0 M8_workBehind [.ref m, ze_i (c : Nat)] w (ze_qv (fun w' => ∃ bz', mst G w0 w' m C P F ar bz' ∧ (∀ i s, i < P → s < cn ar c → bz' (38 + 4 * (i * 8 + s)) = (bk ar c P (P - 1 - i) s : Nat)) ∧ (∀ o, (∀ j, o ≠ 38 + 4 * j) → o ≠ 24 → o ≠ 26 → o ≠ 34 → bz' o = bz o))) := by
  obtain ⟨en, n1, n8⟩ := mch_n hR.1
  have hP := hR.2.2.1
  refine ze_enter (by decide +kernel) rfl ?_
  generalize hQ : (ze_Q G (ze_qv (fun w' => ∃ bz', mst G w0 w' m C P F ar bz' ∧ (∀ i s, i < P → s < cn ar c → bz' (38 + 4 * (i * 8 + s)) = (bk ar c P (P - 1 - i) s : Nat)) ∧ (∀ o, (∀ j, o ≠ 38 + 4 * j) → o ≠ 24 → o ≠ 26 → o ≠ 34 → bz' o = bz o))) 0 0) = Z
  have outer : ∀ (j : Nat) (bz1 : Nat → Int) (w1 : ze_W), j ≤ P → mst G w0 w1 m C P F ar bz1 → (∀ i y, j ≤ i → i < P → y < cn ar c → bz1 (38 + 4 * (i * 8 + y)) = (bk ar c P (P - 1 - i) y : Nat)) → (∀ o, (∀ j, o ≠ 38 + 4 * j) → o ≠ 24 → o ≠ 26 → o ≠ 34 → bz1 o = bz o) → ze_V G l (ze_rm 6 0 0) M8_workBehind Z 7 [(0, .ref m), (1, ze_i ((c : Nat))), (2, ze_i ((j : Nat) - 1))] [] w1 0 0 := by
    intro j
    induction j with
    | zero =>
      intro bz1 w1 hj hM1 hd hf
      rw [← hQ]
      refine ze_iload_n dX8_workBehind_7 rfl ?_
      refine ze_if_lt 143 dX8_workBehind_8 (by decide) (by omega) (fun q1 => ?_) (fun q1 => ?_)
      · exact ze_return rfl dX8_workBehind_143 ⟨rfl, bz1, hM1, fun i s h1 h2 => hd i s (by omega) h1 h2, hf⟩ rfl rfl
      · omega
    | succ j ih =>
      intro bz0 w0' hj hM0 hd0 hf0
      have mid : ∀ (d s : Nat) (bz1 : Nat → Int) (w1 : ze_W), s + d = cn ar c → mst G w0 w1 m C P F ar bz1 → (∀ i y, j + 1 ≤ i → i < P → y < cn ar c → bz1 (38 + 4 * (i * 8 + y)) = (bk ar c P (P - 1 - i) y : Nat)) → (∀ q, q < s → bz1 (38 + 4 * (j * 8 + q)) = (bk ar c P (P - 1 - j) q : Nat)) → (∀ o, (∀ j, o ≠ 38 + 4 * j) → o ≠ 24 → o ≠ 26 → o ≠ 34 → bz1 o = bz o) → ze_V G l (ze_rm 6 0 0) M8_workBehind Z 13 [(0, .ref m), (1, ze_i ((c : Nat))), (2, ze_i ((j : Nat))), (3, ze_i ((s : Nat)))] [] w1 0 0 := by
        intro d
        induction d with
        | zero =>
          intro s bz1 w1 hs hM1 hd hm hf
          refine ze_iload_n dX8_workBehind_13 rfl ?_
          refine ze_aload_n dX8_workBehind_14 rfl ?_
          refine ze_getf dX8_workBehind_15 fl_X8_9 (ms_o hM1) rfl ?_
          refine ze_iload_n dX8_workBehind_18 rfl ?_
          refine ze_iald (j := c) dX8_workBehind_19 (show w1.2 (m + 1) = some (ze_ia G 6 (ar 1)) from ms_i hM1 1 (by decide)) (by omega) (by omega) (by omega) ?_
          rw [en]
          refine ze_icmp_ge 137 dX8_workBehind_20 (by decide) (by omega) (by omega) (fun q1 => ?_) (fun q1 => ?_)
          · refine ze_iinc (b := (j : Nat) - 1) (lv' := [(0, .ref m), (1, ze_i ((c : Nat))), (2, ze_i ((j : Nat) - 1)), (3, ze_i ((s : Nat)))]) dX8_workBehind_137 rfl rfl (by omega) rfl ?_
            refine ze_goto 7 dX8_workBehind_140 (by decide) ?_
            refine ze_lv (lv' := [(0, .ref m), (1, ze_i ((c : Nat))), (2, ze_i ((j : Nat) - 1))]) [0, 1, 2] rfl ?_
            refine ih bz1 w1 (by omega) hM1 (fun i q h1 h2 h3 => ?_) hf
            by_cases h : i = j
            · rw [h]; exact hm q (by omega)
            · exact hd i q (by omega) h2 h3
          · omega
        | succ d ihm =>
          intro s bz1 w1 hs hM1 hd hm hf
          have hs8 : s < 8 := by omega
          have inn : j + 1 < P → ∀ (e t : Nat) (bz2 : Nat → Int) (w2 : ze_W), t + e = cn ar c → mst G w0 w2 m C P F ar bz2 → bz2 (38 + 4 * (j * 8 + s)) = (sm t (fun t => bk ar c P (P - 2 - j) t * (cg ar c s t * ce ar c t (j + 1))) : Nat) → (∀ i y, j + 1 ≤ i → i < P → y < cn ar c → bz2 (38 + 4 * (i * 8 + y)) = (bk ar c P (P - 1 - i) y : Nat)) → (∀ q, q < s → bz2 (38 + 4 * (j * 8 + q)) = (bk ar c P (P - 1 - j) q : Nat)) → (∀ o, (∀ j, o ≠ 38 + 4 * j) → o ≠ 24 → o ≠ 26 → o ≠ 34 → bz2 o = bz o) → ze_V G l (ze_rm 6 0 0) M8_workBehind Z 60 [(0, .ref m), (1, ze_i ((c : Nat))), (2, ze_i ((j : Nat))), (3, ze_i ((s : Nat))), (4, .ref (m + (38 + 4 * (j * 8 + s)))), (5, ze_i ((t : Nat)))] [] w2 0 0 := by
            intro hjP e
            have ebk : bk ar c P (P - 1 - j) s = sm (cn ar c) (fun t => bk ar c P (P - 2 - j) t * (cg ar c s t * ce ar c t (j + 1))) := by
              rw [show P - 1 - j = (P - 2 - j) + 1 by omega]
              show sm (cn ar c) (fun t => bk ar c P (P - 2 - j) t * (cg ar c s t * ce ar c t (P - 1 - (P - 2 - j)))) = _
              rw [show P - 1 - (P - 2 - j) = j + 1 by omega]
            have hbk := bk_le hR (P - 1 - j) s (by omega) (by omega)
            induction e with
            | zero =>
              intro t bz2 w2 ht hM2 hv hd2 hm2 hf2
              have htn : t = cn ar c := by omega
              refine ze_iload dX8_workBehind_60 rfl ?_
              refine ze_aload_n dX8_workBehind_62 rfl ?_
              refine ze_getf dX8_workBehind_63 fl_X8_9 (ms_o hM2) rfl ?_
              refine ze_iload_n dX8_workBehind_66 rfl ?_
              refine ze_iald (j := c) dX8_workBehind_67 (show w2.2 (m + 1) = some (ze_ia G 6 (ar 1)) from ms_i hM2 1 (by decide)) (by omega) (by omega) (by omega) ?_
              rw [en]
              refine ze_icmp_ge 131 dX8_workBehind_68 (by decide) (by omega) (by omega) (fun q1 => ?_) (fun q1 => ?_)
              · refine ze_iinc (b := ((s + 1 : Nat))) (lv' := [(0, .ref m), (1, ze_i ((c : Nat))), (2, ze_i ((j : Nat))), (3, ze_i (((s + 1 : Nat)))), (4, .ref (m + (38 + 4 * (j * 8 + s)))), (5, ze_i ((t : Nat)))]) dX8_workBehind_131 rfl rfl (by omega) rfl ?_
                refine ze_goto 13 dX8_workBehind_134 (by decide) ?_
                refine ze_lv (lv' := [(0, .ref m), (1, ze_i ((c : Nat))), (2, ze_i ((j : Nat))), (3, ze_i (((s + 1 : Nat))))]) [0, 1, 2, 3] rfl ?_
                refine ihm (s + 1) bz2 w2 (by omega) hM2 hd2 (fun q hq => ?_) hf2
                by_cases h : q = s
                · rw [h]; rw [hv, ebk, htn]
                · exact hm2 q (by omega)
              · omega
            | succ e ihe =>
              intro t bz2 w2 ht hM2 hv hd2 hm2 hf2
              have ht8 : t < 8 := by omega
              obtain ⟨eg, eg2⟩ := mch_g hR.1 hs8 ht8
              obtain ⟨ee, ee2⟩ := rok_e hR ht8 hjP
              have hct := (mch_t hR.1).2.2
              obtain ⟨D, hD⟩ : ∃ D, D = cg ar c s t * ce ar c t (j + 1) := ⟨_, rfl⟩
              have hDb : D ≤ 1000 * 1000 := by rw [hD]; exact Nat.mul_le_mul eg2 (by omega)
              have hb2 := hd2 (j + 1) t (Nat.le_refl _) hjP (by omega)
              rw [show P - 1 - (j + 1) = P - 2 - j by omega] at hb2
              have hb3 := bk_le hR (P - 2 - j) t (by omega) (by omega)
              have hs1 : sm (t + 1) (fun t => bk ar c P (P - 2 - j) t * (cg ar c s t * ce ar c t (j + 1))) ≤ 1000000 ^ (P - 1 - j) := Nat.le_trans (sm_mono (m := cn ar c) (by omega)) (by rw [← ebk]; exact hbk)
              have hs0 : sm t (fun t => bk ar c P (P - 2 - j) t * (cg ar c s t * ce ar c t (j + 1))) ≤ 1000000 ^ (P - 1 - j) := Nat.le_trans (sm_mono (by omega)) hs1
              have hval : bz2 (38 + 4 * (j * 8 + s)) + bz2 (38 + 4 * ((j + 1) * 8 + t)) * ((D : Nat) : Int) = (sm (t + 1) (fun t => bk ar c P (P - 2 - j) t * (cg ar c s t * ce ar c t (j + 1))) : Nat) := by
                rw [hv, hb2, sm_s, ← hD]
                push_cast
                rfl
              refine ze_iload dX8_workBehind_60 rfl ?_
              refine ze_aload_n dX8_workBehind_62 rfl ?_
              refine ze_getf dX8_workBehind_63 fl_X8_9 (ms_o hM2) rfl ?_
              refine ze_iload_n dX8_workBehind_66 rfl ?_
              refine ze_iald (j := c) dX8_workBehind_67 (show w2.2 (m + 1) = some (ze_ia G 6 (ar 1)) from ms_i hM2 1 (by decide)) (by omega) (by omega) (by omega) ?_
              rw [en]
              refine ze_icmp_ge 131 dX8_workBehind_68 (by decide) (by omega) (by omega) (fun q1 => ?_) (fun q1 => ?_)
              · omega
              · refine ze_iload_n dX8_workBehind_71 rfl ?_
                refine ze_aload_n dX8_workBehind_72 rfl ?_
                refine ze_getf dX8_workBehind_73 fl_X8_126 (ms_o hM2) rfl ?_
                refine ze_iconst dX8_workBehind_76 ?_
                refine ze_isub dX8_workBehind_77 ?_
                refine ze_icmp_ge 131 dX8_workBehind_78 (by decide) (by omega) (by omega) (fun q2 => ?_) (fun q2 => ?_)
                · omega
                · refine ze_aload_n dX8_workBehind_81 rfl ?_
                  refine ze_aload dX8_workBehind_82 rfl ?_
                  refine ze_aload_n dX8_workBehind_84 rfl ?_
                  refine ze_getf dX8_workBehind_85 fl_X8_44 (ms_o hM2) rfl ?_
                  refine ze_iload_n dX8_workBehind_88 rfl ?_
                  refine ze_iconst dX8_workBehind_89 ?_
                  refine ze_iadd dX8_workBehind_90 ?_
                  refine ze_bipush dX8_workBehind_91 (by decide) ?_
                  refine ze_imul dX8_workBehind_93 ?_
                  refine ze_iload dX8_workBehind_94 rfl ?_
                  refine ze_iadd dX8_workBehind_96 ?_
                  refine ze_aald (j := (j + 1) * 8 + t) (b := (m + (38 + 4 * ((j + 1) * 8 + t)))) dX8_workBehind_97 (show w2.2 (m + 11) = some (ze_ra G 4 480 (fun j => some (m + mro 11 j))) from ms_r hM2 11 (by decide)) rfl (by omega) (by omega) (by omega) rfl ?_
                  refine ze_aload_n dX8_workBehind_98 rfl ?_
                  refine ze_iload_n dX8_workBehind_99 rfl ?_
                  refine ze_iload_n dX8_workBehind_100 rfl ?_
                  refine ze_iload dX8_workBehind_101 rfl ?_
                  refine ze_callV (As := [ze_i ((c : Nat)), ze_i ((s : Nat)), ze_i ((t : Nat))]) (rest := [.ref (m + (38 + 4 * ((j + 1) * 8 + t))), .ref (m + (38 + 4 * (j * 8 + s))), .ref m]) dX8_workBehind_103 (C8_goOf hM2 (c := c) (s := s) (t := t) hc hs8 ht8) mo8_goOf ml_X8_116 in_8_goOf se_8_goOf (ms_o hM2) rfl rfl rfl rfl rfl ⟨Nat.le_refl _, Nat.le_refl _⟩ rfl (Nat.le_of_ble_eq_true rfl) ?_
                  rintro _ w' ⟨r3, rfl, rfl, rfl⟩
                  change ze_V G l (ze_rm 6 0 0) M8_workBehind _ 106 [(0, .ref m), (1, ze_i ((c : Nat))), (2, ze_i ((j : Nat))), (3, ze_i ((s : Nat))), (4, .ref (m + (38 + 4 * (j * 8 + s)))), (5, ze_i ((t : Nat)))] [ze_i (ar 5 ((c * 8 + s) * 8 + t)), .ref (m + (38 + 4 * ((j + 1) * 8 + t))), .ref (m + (38 + 4 * (j * 8 + s))), .ref m] w' 0 0
                  rw [eg]
                  refine ze_aload_n dX8_workBehind_106 rfl ?_
                  refine ze_iload_n dX8_workBehind_107 rfl ?_
                  refine ze_iload dX8_workBehind_108 rfl ?_
                  refine ze_aload_n dX8_workBehind_110 rfl ?_
                  refine ze_getf dX8_workBehind_111 fl_X8_28 (ms_o hM2) rfl ?_
                  refine ze_iload_n dX8_workBehind_114 rfl ?_
                  refine ze_iconst dX8_workBehind_115 ?_
                  refine ze_iadd dX8_workBehind_116 ?_
                  refine ze_iald (j := j + 1) dX8_workBehind_117 (show w'.2 (m + 7) = some (ze_ia G 60 (ar 7)) from ms_i hM2 7 (by decide)) (by omega) (by omega) (by omega) ?_
                  refine ze_callV (As := [ze_i ((c : Nat)), ze_i ((t : Nat)), ze_i (ar 7 (j + 1))]) (rest := [ze_i ((cg ar c s t : Nat)), .ref (m + (38 + 4 * ((j + 1) * 8 + t))), .ref (m + (38 + 4 * (j * 8 + s))), .ref m]) dX8_workBehind_118 (C8_showOf hM2 (c := c) (s := t) (x := ar 7 (j + 1)) hc ht8 (rok_r hR hjP)) mo8_showOf ml_X8_120 in_8_showOf se_8_showOf (ms_o hM2) rfl rfl rfl rfl rfl ⟨Nat.le_refl _, Nat.le_refl _⟩ rfl (Nat.le_of_ble_eq_true rfl) ?_
                  rintro _ w' ⟨r4, rfl, rfl, rfl⟩
                  change ze_V G l (ze_rm 6 0 0) M8_workBehind _ 121 [(0, .ref m), (1, ze_i ((c : Nat))), (2, ze_i ((j : Nat))), (3, ze_i ((s : Nat))), (4, .ref (m + (38 + 4 * (j * 8 + s)))), (5, ze_i ((t : Nat)))] [ze_i (shx ar c t (ar 7 (j + 1))), ze_i ((cg ar c s t : Nat)), .ref (m + (38 + 4 * ((j + 1) * 8 + t))), .ref (m + (38 + 4 * (j * 8 + s))), .ref m] w' 0 0
                  rw [ee]
                  refine ze_imul dX8_workBehind_121 ?_
                  refine ze_ti (b := (D : Nat)) (by rw [hD]; push_cast; rfl) ?_
                  refine ze_callV (As := [.ref (m + (38 + 4 * (j * 8 + s))), .ref (m + (38 + 4 * ((j + 1) * 8 + t))), ze_i ((D : Nat))]) (rest := []) dX8_workBehind_122 (C8_addTimes hM2 (o1 := 38 + 4 * (j * 8 + s)) (o2 := 38 + 4 * ((j + 1) * 8 + t)) (v := ((D : Nat) : Int)) (mc_11 (by omega)) (mc_11 (by omega)) (by omega) (by omega) (by omega) (by rw [hv]; exact fit_le (fit_46 hs0 (by omega)) (by decide)) (by rw [hb2]; exact fit_le (fit_46 hb3 (by omega)) (by decide)) (by rw [hval, mv_48 (by omega) (by omega) (by omega)]; exact fit_le (fit_46 hs1 (by omega)) (by decide))) mo8_addTimes ml_X8_150 in_8_addTimes se_8_addTimes (ms_o hM2) rfl rfl rfl rfl rfl ⟨Nat.le_refl _, Nat.le_refl _⟩ rfl (Nat.le_of_ble_eq_true rfl) ?_
                  rintro _ w3 ⟨rfl, bz3, hM3, hz3, hf3⟩
                  change ze_V G l (ze_rm 6 0 0) M8_workBehind _ 125 [(0, .ref m), (1, ze_i ((c : Nat))), (2, ze_i ((j : Nat))), (3, ze_i ((s : Nat))), (4, .ref (m + (38 + 4 * (j * 8 + s)))), (5, ze_i ((t : Nat)))] [] w3 0 0
                  refine ze_iinc (b := ((t + 1 : Nat))) (lv' := [(0, .ref m), (1, ze_i ((c : Nat))), (2, ze_i ((j : Nat))), (3, ze_i ((s : Nat))), (4, .ref (m + (38 + 4 * (j * 8 + s)))), (5, ze_i (((t + 1 : Nat))))]) dX8_workBehind_125 rfl rfl (by omega) rfl ?_
                  refine ze_goto 60 dX8_workBehind_128 (by decide) ?_
                  refine ihe (t + 1) bz3 w3 (by omega) hM3 (by rw [hz3, hval]) (fun i q h1 h2 h3 => ?_) (fun q hq => ?_) (fun o g1 g2 g3 g4 => ?_)
                  · rw [hf3 _ (by omega) (by omega) (by omega) (by omega)]; exact hd2 i q h1 h2 h3
                  · rw [hf3 _ (by omega) (by omega) (by omega) (by omega)]; exact hm2 q hq
                  · rw [hf3 o (g1 _) g2 g3 g4]; exact hf2 o g1 g2 g3 g4
          refine ze_iload_n dX8_workBehind_13 rfl ?_
          refine ze_aload_n dX8_workBehind_14 rfl ?_
          refine ze_getf dX8_workBehind_15 fl_X8_9 (ms_o hM1) rfl ?_
          refine ze_iload_n dX8_workBehind_18 rfl ?_
          refine ze_iald (j := c) dX8_workBehind_19 (show w1.2 (m + 1) = some (ze_ia G 6 (ar 1)) from ms_i hM1 1 (by decide)) (by omega) (by omega) (by omega) ?_
          rw [en]
          refine ze_icmp_ge 137 dX8_workBehind_20 (by decide) (by omega) (by omega) (fun q1 => ?_) (fun q1 => ?_)
          · omega
          · refine ze_aload_n dX8_workBehind_23 rfl ?_
            refine ze_getf dX8_workBehind_24 fl_X8_44 (ms_o hM1) rfl ?_
            refine ze_iload_n dX8_workBehind_27 rfl ?_
            refine ze_bipush dX8_workBehind_28 (by decide) ?_
            refine ze_imul dX8_workBehind_30 ?_
            refine ze_iload_n dX8_workBehind_31 rfl ?_
            refine ze_iadd dX8_workBehind_32 ?_
            refine ze_aald (j := j * 8 + s) (b := (m + (38 + 4 * (j * 8 + s)))) dX8_workBehind_33 (show w1.2 (m + 11) = some (ze_ra G 4 480 (fun j => some (m + mro 11 j))) from ms_r hM1 11 (by decide)) rfl (by omega) (by omega) (by omega) rfl ?_
            refine ze_astore (lv' := [(0, .ref m), (1, ze_i ((c : Nat))), (2, ze_i ((j : Nat))), (3, ze_i ((s : Nat))), (4, .ref (m + (38 + 4 * (j * 8 + s))))]) dX8_workBehind_34 rfl rfl ?_
            refine ze_aload dX8_workBehind_36 rfl ?_
            refine ze_callV (As := []) (rest := []) dX8_workBehind_38 (E7_clear hM1 (o1 := 38 + 4 * (j * 8 + s)) (mc_11 (by omega))) mo7_clear ml_X8_147 in_7_clear se_7_clear (ms_bx hM1 (mc_11 (by omega))).choose_spec rfl rfl rfl rfl rfl ⟨Nat.le_refl _, Nat.le_refl _⟩ rfl (Nat.le_of_ble_eq_true rfl) ?_
            rintro _ w2 ⟨rfl, hM2⟩
            change ze_V G l (ze_rm 6 0 0) M8_workBehind _ 41 [(0, .ref m), (1, ze_i ((c : Nat))), (2, ze_i ((j : Nat))), (3, ze_i ((s : Nat))), (4, .ref (m + (38 + 4 * (j * 8 + s))))] [] w2 0 0
            refine ze_iload_n dX8_workBehind_41 rfl ?_
            refine ze_aload_n dX8_workBehind_42 rfl ?_
            refine ze_getf dX8_workBehind_43 fl_X8_126 (ms_o hM2) rfl ?_
            refine ze_iconst dX8_workBehind_46 ?_
            refine ze_isub dX8_workBehind_47 ?_
            refine ze_icmp_ne 57 dX8_workBehind_48 (by decide) (by omega) (by omega) (fun q3 => ?_) (fun q3 => ?_)
            · have hjP : j + 1 < P := by omega
              refine ze_iconst dX8_workBehind_57 ?_
              refine ze_ti (b := ((0 : Nat) : Nat)) rfl ?_
              refine ze_istore (lv' := [(0, .ref m), (1, ze_i ((c : Nat))), (2, ze_i ((j : Nat))), (3, ze_i ((s : Nat))), (4, .ref (m + (38 + 4 * (j * 8 + s)))), (5, ze_i (((0 : Nat) : Nat)))]) dX8_workBehind_58 rfl rfl ?_
              exact inn hjP (cn ar c) 0 _ _ (by omega) hM2 (by rw [va_up_self]; rfl) (fun i q h1 h2 h3 => by rw [va_up_ne _ _ (by omega)]; exact hd i q h1 h2 h3) (fun q hq => by rw [va_up_ne _ _ (by omega)]; exact hm q hq) (fun o g1 g2 g3 g4 => by rw [va_up_ne _ _ (g1 _)]; exact hf o g1 g2 g3 g4)
            · have hjP : j = P - 1 := by omega
              refine ze_aload dX8_workBehind_51 rfl ?_
              refine ze_lconst (z := 1) dX8_workBehind_53 (by decide) ?_
              refine ze_callV (As := [ze_l (1)]) (rest := []) dX8_workBehind_54 (E7_of hM2 (o1 := 38 + 4 * (j * 8 + s)) (v := 1) (mc_11 (by omega)) (by omega)) mo7_of ml_X8_132 in_7_of se_7_of (ms_bx hM2 (mc_11 (by omega))).choose_spec rfl rfl rfl rfl rfl ⟨Nat.le_refl _, Nat.le_refl _⟩ rfl (Nat.le_of_ble_eq_true rfl) ?_
              rintro _ w4 ⟨rfl, hM4⟩
              change ze_V G l (ze_rm 6 0 0) M8_workBehind _ 57 [(0, .ref m), (1, ze_i ((c : Nat))), (2, ze_i ((j : Nat))), (3, ze_i ((s : Nat))), (4, .ref (m + (38 + 4 * (j * 8 + s))))] [] w4 0 0
              refine ze_iconst dX8_workBehind_57 ?_
              refine ze_istore (lv' := [(0, .ref m), (1, ze_i ((c : Nat))), (2, ze_i ((j : Nat))), (3, ze_i ((s : Nat))), (4, .ref (m + (38 + 4 * (j * 8 + s)))), (5, ze_i (0))]) dX8_workBehind_58 rfl rfl ?_
              refine ze_iload dX8_workBehind_60 rfl ?_
              refine ze_aload_n dX8_workBehind_62 rfl ?_
              refine ze_getf dX8_workBehind_63 fl_X8_9 (ms_o hM4) rfl ?_
              refine ze_iload_n dX8_workBehind_66 rfl ?_
              refine ze_iald (j := c) dX8_workBehind_67 (show w4.2 (m + 1) = some (ze_ia G 6 (ar 1)) from ms_i hM4 1 (by decide)) (by omega) (by omega) (by omega) ?_
              rw [en]
              refine ze_icmp_ge 131 dX8_workBehind_68 (by decide) (by omega) (by omega) (fun q5 => ?_) (fun q5 => ?_)
              · omega
              · refine ze_iload_n dX8_workBehind_71 rfl ?_
                refine ze_aload_n dX8_workBehind_72 rfl ?_
                refine ze_getf dX8_workBehind_73 fl_X8_126 (ms_o hM4) rfl ?_
                refine ze_iconst dX8_workBehind_76 ?_
                refine ze_isub dX8_workBehind_77 ?_
                refine ze_icmp_ge 131 dX8_workBehind_78 (by decide) (by omega) (by omega) (fun q6 => ?_) (fun q6 => ?_)
                · have hd2 : (∀ i y, j + 1 ≤ i → i < P → y < cn ar c → (va_up (va_up bz1 (38 + 4 * (j * 8 + s)) 0) (38 + 4 * (j * 8 + s)) 1) (38 + 4 * (i * 8 + y)) = (bk ar c P (P - 1 - i) y : Nat)) := fun i q h1 h2 h3 => by omega
                  have hm2 : (∀ q, q < s → (va_up (va_up bz1 (38 + 4 * (j * 8 + s)) 0) (38 + 4 * (j * 8 + s)) 1) (38 + 4 * (j * 8 + q)) = (bk ar c P (P - 1 - j) q : Nat)) := fun q hq => by rw [va_up_ne _ _ (by omega), va_up_ne _ _ (by omega)]; exact hm q hq
                  have hf2 : (∀ o, (∀ j, o ≠ 38 + 4 * j) → o ≠ 24 → o ≠ 26 → o ≠ 34 → (va_up (va_up bz1 (38 + 4 * (j * 8 + s)) 0) (38 + 4 * (j * 8 + s)) 1) o = bz o) := fun o g1 g2 g3 g4 => by rw [va_up_ne _ _ (g1 _), va_up_ne _ _ (g1 _)]; exact hf o g1 g2 g3 g4
                  refine ze_iinc (b := ((s + 1 : Nat))) (lv' := [(0, .ref m), (1, ze_i ((c : Nat))), (2, ze_i ((j : Nat))), (3, ze_i (((s + 1 : Nat)))), (4, .ref (m + (38 + 4 * (j * 8 + s)))), (5, ze_i (0))]) dX8_workBehind_131 rfl rfl (by omega) rfl ?_
                  refine ze_goto 13 dX8_workBehind_134 (by decide) ?_
                  refine ze_lv (lv' := [(0, .ref m), (1, ze_i ((c : Nat))), (2, ze_i ((j : Nat))), (3, ze_i (((s + 1 : Nat))))]) [0, 1, 2, 3] rfl ?_
                  refine ihm (s + 1) _ _ (by omega) hM4 hd2 (fun q hq => ?_) hf2
                  by_cases h : q = s
                  · rw [h]; rw [va_up_self, hjP, show P - 1 - (P - 1) = 0 by omega]; rfl
                  · exact hm2 q (by omega)
                · omega
      rw [show ((j + 1 : Nat) : Int) - 1 = (j : Nat) by omega]
      change ze_V G l (ze_rm 6 0 0) M8_workBehind Z 7 [(0, .ref m), (1, ze_i ((c : Nat))), (2, ze_i ((j : Nat)))] [] w0' 0 0
      refine ze_iload_n dX8_workBehind_7 rfl ?_
      refine ze_if_lt 143 dX8_workBehind_8 (by decide) (by omega) (fun q1 => ?_) (fun q1 => ?_)
      · omega
      · refine ze_iconst dX8_workBehind_11 ?_
        refine ze_ti (b := ((0 : Nat) : Nat)) rfl ?_
        refine ze_istore_n (lv' := [(0, .ref m), (1, ze_i ((c : Nat))), (2, ze_i ((j : Nat))), (3, ze_i (((0 : Nat) : Nat)))]) dX8_workBehind_12 rfl rfl ?_
        exact mid (cn ar c) 0 bz0 _ (by omega) hM0 (fun i q h1 h2 h3 => hd0 i q h1 h2 h3) (fun q hq => by omega) hf0
  change ze_V G l (ze_rm 6 0 0) M8_workBehind Z 0 [(0, .ref m), (1, ze_i ((c : Nat)))] [] w 0 0
  refine ze_aload_n dX8_workBehind_0 rfl ?_
  refine ze_getf dX8_workBehind_1 fl_X8_126 (ms_o hM) rfl ?_
  refine ze_iconst dX8_workBehind_4 ?_
  refine ze_isub dX8_workBehind_5 ?_
  refine ze_istore_n (lv' := [(0, .ref m), (1, ze_i ((c : Nat))), (2, ze_i ((P : Nat) - 1))]) dX8_workBehind_6 rfl rfl ?_
  exact outer P bz w (Nat.le_refl _) hM (fun i s h1 h2 => by omega) (fun o _ _ _ _ => rfl)
theorem C8_workAhead {G : ze_G} {l : Launch} {w0 w : ze_W} {m C P F : Nat} {ar : Nat → Nat → Int} {bz : Nat → Int} (hM : mst G w0 w m C P F ar bz) {c : Nat} (hc : c < 6) (hR : rok ar c P) : ze_C G l 6 0 0 M8_workAhead [.ref m, ze_i (c : Nat)] w (ze_qv (fun w' => ∃ bz', mst G w0 w' m C P F ar bz' ∧ (∀ i s, i < P → s < cn ar c → bz' (36 + 4 * (i * 8 + s)) = (fk ar c i s : Nat)) ∧ (∀ o, (∀ j, o ≠ 36 + 4 * j) → o ≠ 24 → o ≠ 26 → o ≠ 34 → bz' o = bz o))) := by
  obtain ⟨en, n1, n8⟩ := mch_n hR.1
  have hP := hR.2.2.1
  refine ze_enter (by decide +kernel) rfl ?_
  generalize hQ : (ze_Q G (ze_qv (fun w' => ∃ bz', mst G w0 w' m C P F ar bz' ∧ (∀ i s, i < P → s < cn ar c → bz' (36 + 4 * (i * 8 + s)) = (fk ar c i s : Nat)) ∧ (∀ o, (∀ j, o ≠ 36 + 4 * j) → o ≠ 24 → o ≠ 26 → o ≠ 34 → bz' o = bz o))) 0 0) = Z
  have outer : ∀ (d j : Nat) (bz1 : Nat → Int) (w1 : ze_W), j + d = P → mst G w0 w1 m C P F ar bz1 → (∀ i y, i < j → y < cn ar c → bz1 (36 + 4 * (i * 8 + y)) = (fk ar c i y : Nat)) → (∀ o, (∀ j, o ≠ 36 + 4 * j) → o ≠ 24 → o ≠ 26 → o ≠ 34 → bz1 o = bz o) → ze_V G l (ze_rm 6 0 0) M8_workAhead Z 2 [(0, .ref m), (1, ze_i ((c : Nat))), (2, ze_i ((j : Nat)))] [] w1 0 0 := by
    intro d
    induction d with
    | zero =>
      intro j bz1 w1 hj hM1 hd hf
      rw [← hQ]
      refine ze_iload_n dX8_workAhead_2 rfl ?_
      refine ze_aload_n dX8_workAhead_3 rfl ?_
      refine ze_getf dX8_workAhead_4 fl_X8_126 (ms_o hM1) rfl ?_
      refine ze_icmp_ge 152 dX8_workAhead_7 (by decide) (by omega) (by omega) (fun q1 => ?_) (fun q1 => ?_)
      · exact ze_return rfl dX8_workAhead_152 ⟨rfl, bz1, hM1, fun i s h1 h2 => hd i s (by omega) h2, hf⟩ rfl rfl
      · omega
    | succ d0 ih =>
      intro j bz0 w0' hj hM0 hd0 hf0
      have hjP : j < P := by omega
      have mid : ∀ (d s : Nat) (bz1 : Nat → Int) (w1 : ze_W), s + d = cn ar c → mst G w0 w1 m C P F ar bz1 → (∀ i y, i < j → y < cn ar c → bz1 (36 + 4 * (i * 8 + y)) = (fk ar c i y : Nat)) → (∀ q, q < s → bz1 (36 + 4 * (j * 8 + q)) = (fk ar c j q : Nat)) → (∀ o, (∀ j, o ≠ 36 + 4 * j) → o ≠ 24 → o ≠ 26 → o ≠ 34 → bz1 o = bz o) → ze_V G l (ze_rm 6 0 0) M8_workAhead Z 12 [(0, .ref m), (1, ze_i ((c : Nat))), (2, ze_i ((j : Nat))), (3, ze_i ((s : Nat)))] [] w1 0 0 := by
        intro d
        induction d with
        | zero =>
          intro s bz1 w1 hs hM1 hd hm hf
          refine ze_iload_n dX8_workAhead_12 rfl ?_
          refine ze_aload_n dX8_workAhead_13 rfl ?_
          refine ze_getf dX8_workAhead_14 fl_X8_9 (ms_o hM1) rfl ?_
          refine ze_iload_n dX8_workAhead_17 rfl ?_
          refine ze_iald (j := c) dX8_workAhead_18 (show w1.2 (m + 1) = some (ze_ia G 6 (ar 1)) from ms_i hM1 1 (by decide)) (by omega) (by omega) (by omega) ?_
          rw [en]
          refine ze_icmp_ge 146 dX8_workAhead_19 (by decide) (by omega) (by omega) (fun q1 => ?_) (fun q1 => ?_)
          · refine ze_iinc (b := ((j + 1 : Nat))) (lv' := [(0, .ref m), (1, ze_i ((c : Nat))), (2, ze_i (((j + 1 : Nat)))), (3, ze_i ((s : Nat)))]) dX8_workAhead_146 rfl rfl (by omega) rfl ?_
            refine ze_goto 2 dX8_workAhead_149 (by decide) ?_
            refine ze_lv (lv' := [(0, .ref m), (1, ze_i ((c : Nat))), (2, ze_i (((j + 1 : Nat))))]) [0, 1, 2] rfl ?_
            refine ih (j + 1) bz1 w1 (by omega) hM1 (fun i q h1 h3 => ?_) hf
            by_cases h : i = j
            · rw [h]; exact hm q (by omega)
            · exact hd i q (by omega) h3
          · omega
        | succ d ihm =>
          intro s bz1 w1 hs hM1 hd hm hf
          have hs8 : s < 8 := by omega
          obtain ⟨ee, ee2⟩ := rok_e hR hs8 hjP
          have hct := (mch_t hR.1).2.2
          have inn : 0 < j → ∀ (e t : Nat) (bz2 : Nat → Int) (w2 : ze_W), t + e = cn ar c → mst G w0 w2 m C P F ar bz2 → bz2 (36 + 4 * (j * 8 + s)) = (sm t (fun t => fk ar c (j - 1) t * (cg ar c t s * ce ar c s j)) : Nat) → (∀ i y, i < j → y < cn ar c → bz2 (36 + 4 * (i * 8 + y)) = (fk ar c i y : Nat)) → (∀ q, q < s → bz2 (36 + 4 * (j * 8 + q)) = (fk ar c j q : Nat)) → (∀ o, (∀ j, o ≠ 36 + 4 * j) → o ≠ 24 → o ≠ 26 → o ≠ 34 → bz2 o = bz o) → ze_V G l (ze_rm 6 0 0) M8_workAhead Z 78 [(0, .ref m), (1, ze_i ((c : Nat))), (2, ze_i ((j : Nat))), (3, ze_i ((s : Nat))), (4, .ref (m + (36 + 4 * (j * 8 + s)))), (5, ze_i ((t : Nat)))] [] w2 0 0 := by
            intro hj0 e
            have efk : fk ar c j s = sm (cn ar c) (fun t => fk ar c (j - 1) t * (cg ar c t s * ce ar c s j)) := by
              obtain ⟨k, rfl⟩ : ∃ k, j = k + 1 := ⟨j - 1, by omega⟩
              rfl
            have hfk := fk_le hR hjP (show s < cn ar c by omega)
            induction e with
            | zero =>
              intro t bz2 w2 ht hM2 hv hd2 hm2 hf2
              have htn : t = cn ar c := by omega
              refine ze_iload dX8_workAhead_78 rfl ?_
              refine ze_aload_n dX8_workAhead_80 rfl ?_
              refine ze_getf dX8_workAhead_81 fl_X8_9 (ms_o hM2) rfl ?_
              refine ze_iload_n dX8_workAhead_84 rfl ?_
              refine ze_iald (j := c) dX8_workAhead_85 (show w2.2 (m + 1) = some (ze_ia G 6 (ar 1)) from ms_i hM2 1 (by decide)) (by omega) (by omega) (by omega) ?_
              rw [en]
              refine ze_icmp_ge 140 dX8_workAhead_86 (by decide) (by omega) (by omega) (fun q1 => ?_) (fun q1 => ?_)
              · refine ze_iinc (b := ((s + 1 : Nat))) (lv' := [(0, .ref m), (1, ze_i ((c : Nat))), (2, ze_i ((j : Nat))), (3, ze_i (((s + 1 : Nat)))), (4, .ref (m + (36 + 4 * (j * 8 + s)))), (5, ze_i ((t : Nat)))]) dX8_workAhead_140 rfl rfl (by omega) rfl ?_
                refine ze_goto 12 dX8_workAhead_143 (by decide) ?_
                refine ze_lv (lv' := [(0, .ref m), (1, ze_i ((c : Nat))), (2, ze_i ((j : Nat))), (3, ze_i (((s + 1 : Nat))))]) [0, 1, 2, 3] rfl ?_
                refine ihm (s + 1) bz2 w2 (by omega) hM2 hd2 (fun q hq => ?_) hf2
                by_cases h : q = s
                · rw [h]; rw [hv, efk, htn]
                · exact hm2 q (by omega)
              · omega
            | succ e ihe =>
              intro t bz2 w2 ht hM2 hv hd2 hm2 hf2
              have ht8 : t < 8 := by omega
              obtain ⟨eg, eg2⟩ := mch_g hR.1 ht8 hs8
              obtain ⟨D, hD⟩ : ∃ D, D = cg ar c t s * ce ar c s j := ⟨_, rfl⟩
              have hDb : D ≤ 1000 * 1000 := by rw [hD]; exact Nat.mul_le_mul eg2 (by omega)
              have hb2 := hd2 (j - 1) t (by omega) (by omega)
              have hb3 := fk_le hR (show j - 1 < P by omega) (show t < cn ar c by omega)
              have hs1 : sm (t + 1) (fun t => fk ar c (j - 1) t * (cg ar c t s * ce ar c s j)) ≤ 1000000 ^ (j + 1) := Nat.le_trans (sm_mono (m := cn ar c) (by omega)) (by rw [← efk]; exact hfk)
              have hs0 : sm t (fun t => fk ar c (j - 1) t * (cg ar c t s * ce ar c s j)) ≤ 1000000 ^ (j + 1) := Nat.le_trans (sm_mono (by omega)) hs1
              have hval : bz2 (36 + 4 * (j * 8 + s)) + bz2 (36 + 4 * ((j - 1) * 8 + t)) * ((D : Nat) : Int) = (sm (t + 1) (fun t => fk ar c (j - 1) t * (cg ar c t s * ce ar c s j)) : Nat) := by
                rw [hv, hb2, sm_s, ← hD]
                push_cast
                rfl
              refine ze_iload dX8_workAhead_78 rfl ?_
              refine ze_aload_n dX8_workAhead_80 rfl ?_
              refine ze_getf dX8_workAhead_81 fl_X8_9 (ms_o hM2) rfl ?_
              refine ze_iload_n dX8_workAhead_84 rfl ?_
              refine ze_iald (j := c) dX8_workAhead_85 (show w2.2 (m + 1) = some (ze_ia G 6 (ar 1)) from ms_i hM2 1 (by decide)) (by omega) (by omega) (by omega) ?_
              rw [en]
              refine ze_icmp_ge 140 dX8_workAhead_86 (by decide) (by omega) (by omega) (fun q1 => ?_) (fun q1 => ?_)
              · omega
              · refine ze_iload_n dX8_workAhead_89 rfl ?_
                refine ze_if_le 140 dX8_workAhead_90 (by decide) (by omega) (fun q2 => ?_) (fun q2 => ?_)
                · omega
                · refine ze_aload_n dX8_workAhead_93 rfl ?_
                  refine ze_aload dX8_workAhead_94 rfl ?_
                  refine ze_aload_n dX8_workAhead_96 rfl ?_
                  refine ze_getf dX8_workAhead_97 fl_X8_40 (ms_o hM2) rfl ?_
                  refine ze_iload_n dX8_workAhead_100 rfl ?_
                  refine ze_iconst dX8_workAhead_101 ?_
                  refine ze_isub dX8_workAhead_102 ?_
                  refine ze_bipush dX8_workAhead_103 (by decide) ?_
                  refine ze_imul dX8_workAhead_105 ?_
                  refine ze_iload dX8_workAhead_106 rfl ?_
                  refine ze_iadd dX8_workAhead_108 ?_
                  refine ze_aald (j := (j - 1) * 8 + t) (b := (m + (36 + 4 * ((j - 1) * 8 + t)))) dX8_workAhead_109 (show w2.2 (m + 10) = some (ze_ra G 4 480 (fun j => some (m + mro 10 j))) from ms_r hM2 10 (by decide)) rfl (by omega) (by omega) (by omega) rfl ?_
                  refine ze_aload_n dX8_workAhead_110 rfl ?_
                  refine ze_iload_n dX8_workAhead_111 rfl ?_
                  refine ze_iload dX8_workAhead_112 rfl ?_
                  refine ze_iload_n dX8_workAhead_114 rfl ?_
                  refine ze_callV (As := [ze_i ((c : Nat)), ze_i ((t : Nat)), ze_i ((s : Nat))]) (rest := [.ref (m + (36 + 4 * ((j - 1) * 8 + t))), .ref (m + (36 + 4 * (j * 8 + s))), .ref m]) dX8_workAhead_115 (C8_goOf hM2 (c := c) (s := t) (t := s) hc ht8 hs8) mo8_goOf ml_X8_116 in_8_goOf se_8_goOf (ms_o hM2) rfl rfl rfl rfl rfl ⟨Nat.le_refl _, Nat.le_refl _⟩ rfl (Nat.le_of_ble_eq_true rfl) ?_
                  rintro _ w' ⟨r3, rfl, rfl, rfl⟩
                  change ze_V G l (ze_rm 6 0 0) M8_workAhead _ 118 [(0, .ref m), (1, ze_i ((c : Nat))), (2, ze_i ((j : Nat))), (3, ze_i ((s : Nat))), (4, .ref (m + (36 + 4 * (j * 8 + s)))), (5, ze_i ((t : Nat)))] [ze_i (ar 5 ((c * 8 + t) * 8 + s)), .ref (m + (36 + 4 * ((j - 1) * 8 + t))), .ref (m + (36 + 4 * (j * 8 + s))), .ref m] w' 0 0
                  rw [eg]
                  refine ze_aload_n dX8_workAhead_118 rfl ?_
                  refine ze_iload_n dX8_workAhead_119 rfl ?_
                  refine ze_iload_n dX8_workAhead_120 rfl ?_
                  refine ze_aload_n dX8_workAhead_121 rfl ?_
                  refine ze_getf dX8_workAhead_122 fl_X8_28 (ms_o hM2) rfl ?_
                  refine ze_iload_n dX8_workAhead_125 rfl ?_
                  refine ze_iald (j := j) dX8_workAhead_126 (show w'.2 (m + 7) = some (ze_ia G 60 (ar 7)) from ms_i hM2 7 (by decide)) (by omega) (by omega) (by omega) ?_
                  refine ze_callV (As := [ze_i ((c : Nat)), ze_i ((s : Nat)), ze_i (ar 7 j)]) (rest := [ze_i ((cg ar c t s : Nat)), .ref (m + (36 + 4 * ((j - 1) * 8 + t))), .ref (m + (36 + 4 * (j * 8 + s))), .ref m]) dX8_workAhead_127 (C8_showOf hM2 (c := c) (s := s) (x := ar 7 j) hc hs8 (rok_r hR hjP)) mo8_showOf ml_X8_120 in_8_showOf se_8_showOf (ms_o hM2) rfl rfl rfl rfl rfl ⟨Nat.le_refl _, Nat.le_refl _⟩ rfl (Nat.le_of_ble_eq_true rfl) ?_
                  rintro _ w' ⟨r4, rfl, rfl, rfl⟩
                  change ze_V G l (ze_rm 6 0 0) M8_workAhead _ 130 [(0, .ref m), (1, ze_i ((c : Nat))), (2, ze_i ((j : Nat))), (3, ze_i ((s : Nat))), (4, .ref (m + (36 + 4 * (j * 8 + s)))), (5, ze_i ((t : Nat)))] [ze_i (shx ar c s (ar 7 j)), ze_i ((cg ar c t s : Nat)), .ref (m + (36 + 4 * ((j - 1) * 8 + t))), .ref (m + (36 + 4 * (j * 8 + s))), .ref m] w' 0 0
                  rw [ee]
                  refine ze_imul dX8_workAhead_130 ?_
                  refine ze_ti (b := (D : Nat)) (by rw [hD]; push_cast; rfl) ?_
                  refine ze_callV (As := [.ref (m + (36 + 4 * (j * 8 + s))), .ref (m + (36 + 4 * ((j - 1) * 8 + t))), ze_i ((D : Nat))]) (rest := []) dX8_workAhead_131 (C8_addTimes hM2 (o1 := 36 + 4 * (j * 8 + s)) (o2 := 36 + 4 * ((j - 1) * 8 + t)) (v := ((D : Nat) : Int)) (mc_10 (by omega)) (mc_10 (by omega)) (by omega) (by omega) (by omega) (by rw [hv]; exact fit_le (fit_46 hs0 (by omega)) (by decide)) (by rw [hb2]; exact fit_le (fit_46 hb3 (by omega)) (by decide)) (by rw [hval, mv_48 (by omega) (by omega) (by omega)]; exact fit_le (fit_46 hs1 (by omega)) (by decide))) mo8_addTimes ml_X8_150 in_8_addTimes se_8_addTimes (ms_o hM2) rfl rfl rfl rfl rfl ⟨Nat.le_refl _, Nat.le_refl _⟩ rfl (Nat.le_of_ble_eq_true rfl) ?_
                  rintro _ w3 ⟨rfl, bz3, hM3, hz3, hf3⟩
                  change ze_V G l (ze_rm 6 0 0) M8_workAhead _ 134 [(0, .ref m), (1, ze_i ((c : Nat))), (2, ze_i ((j : Nat))), (3, ze_i ((s : Nat))), (4, .ref (m + (36 + 4 * (j * 8 + s)))), (5, ze_i ((t : Nat)))] [] w3 0 0
                  refine ze_iinc (b := ((t + 1 : Nat))) (lv' := [(0, .ref m), (1, ze_i ((c : Nat))), (2, ze_i ((j : Nat))), (3, ze_i ((s : Nat))), (4, .ref (m + (36 + 4 * (j * 8 + s)))), (5, ze_i (((t + 1 : Nat))))]) dX8_workAhead_134 rfl rfl (by omega) rfl ?_
                  refine ze_goto 78 dX8_workAhead_137 (by decide) ?_
                  refine ihe (t + 1) bz3 w3 (by omega) hM3 (by rw [hz3, hval]) (fun i q h1 h3 => ?_) (fun q hq => ?_) (fun o g1 g2 g3 g4 => ?_)
                  · rw [hf3 _ (by omega) (by omega) (by omega) (by omega)]; exact hd2 i q h1 h3
                  · rw [hf3 _ (by omega) (by omega) (by omega) (by omega)]; exact hm2 q hq
                  · rw [hf3 o (g1 _) g2 g3 g4]; exact hf2 o g1 g2 g3 g4
          refine ze_iload_n dX8_workAhead_12 rfl ?_
          refine ze_aload_n dX8_workAhead_13 rfl ?_
          refine ze_getf dX8_workAhead_14 fl_X8_9 (ms_o hM1) rfl ?_
          refine ze_iload_n dX8_workAhead_17 rfl ?_
          refine ze_iald (j := c) dX8_workAhead_18 (show w1.2 (m + 1) = some (ze_ia G 6 (ar 1)) from ms_i hM1 1 (by decide)) (by omega) (by omega) (by omega) ?_
          rw [en]
          refine ze_icmp_ge 146 dX8_workAhead_19 (by decide) (by omega) (by omega) (fun q1 => ?_) (fun q1 => ?_)
          · omega
          · refine ze_aload_n dX8_workAhead_22 rfl ?_
            refine ze_getf dX8_workAhead_23 fl_X8_40 (ms_o hM1) rfl ?_
            refine ze_iload_n dX8_workAhead_26 rfl ?_
            refine ze_bipush dX8_workAhead_27 (by decide) ?_
            refine ze_imul dX8_workAhead_29 ?_
            refine ze_iload_n dX8_workAhead_30 rfl ?_
            refine ze_iadd dX8_workAhead_31 ?_
            refine ze_aald (j := j * 8 + s) (b := (m + (36 + 4 * (j * 8 + s)))) dX8_workAhead_32 (show w1.2 (m + 10) = some (ze_ra G 4 480 (fun j => some (m + mro 10 j))) from ms_r hM1 10 (by decide)) rfl (by omega) (by omega) (by omega) rfl ?_
            refine ze_astore (lv' := [(0, .ref m), (1, ze_i ((c : Nat))), (2, ze_i ((j : Nat))), (3, ze_i ((s : Nat))), (4, .ref (m + (36 + 4 * (j * 8 + s))))]) dX8_workAhead_33 rfl rfl ?_
            refine ze_aload dX8_workAhead_35 rfl ?_
            refine ze_callV (As := []) (rest := []) dX8_workAhead_37 (E7_clear hM1 (o1 := 36 + 4 * (j * 8 + s)) (mc_10 (by omega))) mo7_clear ml_X8_147 in_7_clear se_7_clear (ms_bx hM1 (mc_10 (by omega))).choose_spec rfl rfl rfl rfl rfl ⟨Nat.le_refl _, Nat.le_refl _⟩ rfl (Nat.le_of_ble_eq_true rfl) ?_
            rintro _ w2 ⟨rfl, hM2⟩
            change ze_V G l (ze_rm 6 0 0) M8_workAhead _ 40 [(0, .ref m), (1, ze_i ((c : Nat))), (2, ze_i ((j : Nat))), (3, ze_i ((s : Nat))), (4, .ref (m + (36 + 4 * (j * 8 + s))))] [] w2 0 0
            refine ze_iload_n dX8_workAhead_40 rfl ?_
            refine ze_if_ne 75 dX8_workAhead_41 (by decide) (by omega) (fun q3 => ?_) (fun q3 => ?_)
            · refine ze_iconst dX8_workAhead_75 ?_
              refine ze_ti (b := ((0 : Nat) : Nat)) rfl ?_
              refine ze_istore (lv' := [(0, .ref m), (1, ze_i ((c : Nat))), (2, ze_i ((j : Nat))), (3, ze_i ((s : Nat))), (4, .ref (m + (36 + 4 * (j * 8 + s)))), (5, ze_i (((0 : Nat) : Nat)))]) dX8_workAhead_76 rfl rfl ?_
              exact inn (by omega) (cn ar c) 0 _ _ (by omega) hM2 (by rw [va_up_self]; rfl) (fun i q h1 h3 => by rw [va_up_ne _ _ (by omega)]; exact hd i q h1 h3) (fun q hq => by rw [va_up_ne _ _ (by omega)]; exact hm q hq) (fun o g1 g2 g3 g4 => by rw [va_up_ne _ _ (g1 _)]; exact hf o g1 g2 g3 g4)
            · have hj0 : j = 0 := by omega
              obtain ⟨eb, eb2⟩ := mch_b hR.1 hs8
              obtain ⟨D, hD⟩ : ∃ D, D = cb ar c s * ce ar c s 0 := ⟨_, rfl⟩
              rw [hj0] at ee ee2
              have hDb : D ≤ 1000 * 1000 := by rw [hD]; exact Nat.mul_le_mul eb2 (by omega)
              refine ze_aload dX8_workAhead_44 rfl ?_
              refine ze_aload_n dX8_workAhead_46 rfl ?_
              refine ze_getf dX8_workAhead_47 fl_X8_19 (ms_o hM2) rfl ?_
              refine ze_iload_n dX8_workAhead_50 rfl ?_
              refine ze_bipush dX8_workAhead_51 (by decide) ?_
              refine ze_imul dX8_workAhead_53 ?_
              refine ze_iload_n dX8_workAhead_54 rfl ?_
              refine ze_iadd dX8_workAhead_55 ?_
              refine ze_iald (j := c * 8 + s) dX8_workAhead_56 (show w2.2 (m + 4) = some (ze_ia G 48 (ar 4)) from ms_i hM2 4 (by decide)) (by omega) (by omega) (by omega) ?_
              rw [eb]
              refine ze_i2l dX8_workAhead_57 (by omega) ?_
              refine ze_aload_n dX8_workAhead_58 rfl ?_
              refine ze_iload_n dX8_workAhead_59 rfl ?_
              refine ze_iload_n dX8_workAhead_60 rfl ?_
              refine ze_aload_n dX8_workAhead_61 rfl ?_
              refine ze_getf dX8_workAhead_62 fl_X8_28 (ms_o hM2) rfl ?_
              refine ze_iconst dX8_workAhead_65 ?_
              refine ze_iald (j := 0) dX8_workAhead_66 (show w2.2 (m + 7) = some (ze_ia G 60 (ar 7)) from ms_i hM2 7 (by decide)) (by omega) (by omega) (by omega) ?_
              refine ze_callV (As := [ze_i ((c : Nat)), ze_i ((s : Nat)), ze_i (ar 7 0)]) (rest := [ze_l ((cb ar c s : Nat)), .ref (m + (36 + 4 * (j * 8 + s)))]) dX8_workAhead_67 (C8_showOf hM2 (c := c) (s := s) (x := ar 7 0) hc hs8 (rok_r hR (by omega))) mo8_showOf ml_X8_120 in_8_showOf se_8_showOf (ms_o hM2) rfl rfl rfl rfl rfl ⟨Nat.le_refl _, Nat.le_refl _⟩ rfl (Nat.le_of_ble_eq_true rfl) ?_
              rintro _ w' ⟨r4, rfl, rfl, rfl⟩
              change ze_V G l (ze_rm 6 0 0) M8_workAhead _ 70 [(0, .ref m), (1, ze_i ((c : Nat))), (2, ze_i ((j : Nat))), (3, ze_i ((s : Nat))), (4, .ref (m + (36 + 4 * (j * 8 + s))))] [ze_i (shx ar c s (ar 7 0)), ze_l ((cb ar c s : Nat)), .ref (m + (36 + 4 * (j * 8 + s)))] w' 0 0
              rw [ee]
              refine ze_i2l dX8_workAhead_70 (by omega) ?_
              refine ze_lmul dX8_workAhead_71 ?_
              refine ze_tl (b := (D : Nat)) (by rw [hD]; push_cast; rfl) ?_
              refine ze_callV (As := [ze_l ((D : Nat))]) (rest := []) dX8_workAhead_72 (E7_of hM2 (o1 := 36 + 4 * (j * 8 + s)) (v := ((D : Nat) : Int)) (mc_10 (by omega)) (by omega)) mo7_of ml_X8_132 in_7_of se_7_of (ms_bx hM2 (mc_10 (by omega))).choose_spec rfl rfl rfl rfl rfl ⟨Nat.le_refl _, Nat.le_refl _⟩ rfl (Nat.le_of_ble_eq_true rfl) ?_
              rintro _ w5 ⟨rfl, hM5⟩
              change ze_V G l (ze_rm 6 0 0) M8_workAhead _ 75 [(0, .ref m), (1, ze_i ((c : Nat))), (2, ze_i ((j : Nat))), (3, ze_i ((s : Nat))), (4, .ref (m + (36 + 4 * (j * 8 + s))))] [] w5 0 0
              refine ze_iconst dX8_workAhead_75 ?_
              refine ze_istore (lv' := [(0, .ref m), (1, ze_i ((c : Nat))), (2, ze_i ((j : Nat))), (3, ze_i ((s : Nat))), (4, .ref (m + (36 + 4 * (j * 8 + s)))), (5, ze_i (0))]) dX8_workAhead_76 rfl rfl ?_
              refine ze_iload dX8_workAhead_78 rfl ?_
              refine ze_aload_n dX8_workAhead_80 rfl ?_
              refine ze_getf dX8_workAhead_81 fl_X8_9 (ms_o hM5) rfl ?_
              refine ze_iload_n dX8_workAhead_84 rfl ?_
              refine ze_iald (j := c) dX8_workAhead_85 (show w5.2 (m + 1) = some (ze_ia G 6 (ar 1)) from ms_i hM5 1 (by decide)) (by omega) (by omega) (by omega) ?_
              rw [en]
              refine ze_icmp_ge 140 dX8_workAhead_86 (by decide) (by omega) (by omega) (fun q6 => ?_) (fun q6 => ?_)
              · omega
              · refine ze_iload_n dX8_workAhead_89 rfl ?_
                refine ze_if_le 140 dX8_workAhead_90 (by decide) (by omega) (fun q7 => ?_) (fun q7 => ?_)
                · have hd2 : (∀ i y, i < j → y < cn ar c → (va_up (va_up bz1 (36 + 4 * (j * 8 + s)) 0) (36 + 4 * (j * 8 + s)) ((D : Nat) : Int)) (36 + 4 * (i * 8 + y)) = (fk ar c i y : Nat)) := fun i q h1 h3 => by omega
                  have hm2 : (∀ q, q < s → (va_up (va_up bz1 (36 + 4 * (j * 8 + s)) 0) (36 + 4 * (j * 8 + s)) ((D : Nat) : Int)) (36 + 4 * (j * 8 + q)) = (fk ar c j q : Nat)) := fun q hq => by rw [va_up_ne _ _ (by omega), va_up_ne _ _ (by omega)]; exact hm q hq
                  have hf2 : (∀ o, (∀ j, o ≠ 36 + 4 * j) → o ≠ 24 → o ≠ 26 → o ≠ 34 → (va_up (va_up bz1 (36 + 4 * (j * 8 + s)) 0) (36 + 4 * (j * 8 + s)) ((D : Nat) : Int)) o = bz o) := fun o g1 g2 g3 g4 => by rw [va_up_ne _ _ (g1 _), va_up_ne _ _ (g1 _)]; exact hf o g1 g2 g3 g4
                  refine ze_iinc (b := ((s + 1 : Nat))) (lv' := [(0, .ref m), (1, ze_i ((c : Nat))), (2, ze_i ((j : Nat))), (3, ze_i (((s + 1 : Nat)))), (4, .ref (m + (36 + 4 * (j * 8 + s)))), (5, ze_i (0))]) dX8_workAhead_140 rfl rfl (by omega) rfl ?_
                  refine ze_goto 12 dX8_workAhead_143 (by decide) ?_
                  refine ze_lv (lv' := [(0, .ref m), (1, ze_i ((c : Nat))), (2, ze_i ((j : Nat))), (3, ze_i (((s + 1 : Nat))))]) [0, 1, 2, 3] rfl ?_
                  refine ihm (s + 1) _ _ (by omega) hM5 hd2 (fun q hq => ?_) hf2
                  by_cases h : q = s
                  · rw [h]; rw [va_up_self, hj0, hD]; rfl
                  · exact hm2 q (by omega)
                · omega
      refine ze_iload_n dX8_workAhead_2 rfl ?_
      refine ze_aload_n dX8_workAhead_3 rfl ?_
      refine ze_getf dX8_workAhead_4 fl_X8_126 (ms_o hM0) rfl ?_
      refine ze_icmp_ge 152 dX8_workAhead_7 (by decide) (by omega) (by omega) (fun q1 => ?_) (fun q1 => ?_)
      · omega
      · refine ze_iconst dX8_workAhead_10 ?_
        refine ze_ti (b := ((0 : Nat) : Nat)) rfl ?_
        refine ze_istore_n (lv' := [(0, .ref m), (1, ze_i ((c : Nat))), (2, ze_i ((j : Nat))), (3, ze_i (((0 : Nat) : Nat)))]) dX8_workAhead_11 rfl rfl ?_
        exact mid (cn ar c) 0 bz0 _ (by omega) hM0 hd0 (fun q hq => by omega) hf0
  change ze_V G l (ze_rm 6 0 0) M8_workAhead Z 0 [(0, .ref m), (1, ze_i ((c : Nat)))] [] w 0 0
  refine ze_iconst dX8_workAhead_0 ?_
  refine ze_ti (b := ((0 : Nat) : Nat)) rfl ?_
  refine ze_istore_n (lv' := [(0, .ref m), (1, ze_i ((c : Nat))), (2, ze_i (((0 : Nat) : Nat)))]) dX8_workAhead_1 rfl rfl ?_
  exact outer P 0 bz w (by omega) hM (fun i s h1 h2 => by omega) (fun o _ _ _ _ => rfl)
