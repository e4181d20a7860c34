/-! Ranking: a merge -/
theorem C1_mergeLists {G : ze_G} {l : Launch} {w0 w : ze_W} {R a b : Nat} {cv : Nat → Nat → Nat} {hr wt lk : Nat → Nat} {v : Nat → Nat → Nat} {step s n K B : Nat} {cnt wf : Nat → Nat} {val : Nat → Nat → Nat} (hS : rst G w0 w R a b cv hr wt lk v) (hstep : step < 60) (hs : s < 8) (hn : 1 ≤ n ∧ n ≤ 8) (hK : K ≤ 20) (hcnt : ∀ t, t < n → cv a t = cnt t ∧ cnt t ≤ 20) (hval : ∀ t q, t < n → q < cnt t → v a (t * 20 + q) = val t q ∧ val t q ≤ 1000000 ^ B) (hB : B ≤ 60) (hwt : ∀ t, t < n → wt t = wf t ∧ wf t ≤ 1000000) : ze_C G l 4 0 0 M1_mergeLists [.ref R, ze_i (step : Nat), ze_i (s : Nat), ze_i (n : Nat), ze_i (K : Nat)] w (ze_qv (fun w' => ∃ cv' hr' lk' v', rst G w0 w' R a b cv' hr' wt lk' v' ∧ (cv' a = cv a ∧ (∀ j, j ≠ s → cv' b j = cv b j) ∧ cv' b s = lnn n cnt val wf K) ∧ (v' a = v a ∧ (∀ j, j < s * 20 ∨ s * 20 + 20 ≤ j → v' b j = v b j) ∧ ∀ r, r < lnn n cnt val wf K → v' b (s * 20 + r) = (pk n cnt val wf r).2) ∧ (∀ j, j < step * 160 + s * 20 ∨ step * 160 + s * 20 + 20 ≤ j → lk' j = lk j) ∧ ∀ r, r < lnn n cnt val wf K → lk' (step * 160 + s * 20 + r) = (pk n cnt val wf r).1 * 20 + tkn n cnt val wf r (pk n cnt val wf r).1)) := by
  have hab := rs_p hS
  have hX : ∀ (tk : Nat → Nat) (v1 : Nat → Nat → Nat) (t : Nat), t < n → v1 a = v a → (if tk t < cv a t then v1 a (t * 20 + tk t) * wt t else 0) = hd cnt val wf tk t := by
    intro tk v1 t ht h1
    unfold hd
    rw [h1, (hcnt t ht).1, (hwt t ht).1]
    by_cases k : tk t < cnt t
    · rw [if_pos k, if_pos k, (hval t _ ht k).1]
    · rw [if_neg k, if_neg k]
  have hHb : ∀ (tk : Nat → Nat) (t : Nat), t < n → hd cnt val wf tk t ≤ 1000000 ^ (B + 1) := by
    intro tk t ht
    unfold hd
    split
    · rename_i k
      rw [Nat.pow_succ]
      exact Nat.mul_le_mul (hval t _ ht k).2 (hwt t ht).2
    · exact Nat.zero_le _
  refine ze_enter (by decide +kernel) rfl ?_
  generalize hQ : (ze_Q G (ze_qv (fun w' => ∃ cv' hr' lk' v', rst G w0 w' R a b cv' hr' wt lk' v' ∧ (cv' a = cv a ∧ (∀ j, j ≠ s → cv' b j = cv b j) ∧ cv' b s = lnn n cnt val wf K) ∧ (v' a = v a ∧ (∀ j, j < s * 20 ∨ s * 20 + 20 ≤ j → v' b j = v b j) ∧ ∀ r, r < lnn n cnt val wf K → v' b (s * 20 + r) = (pk n cnt val wf r).2) ∧ (∀ j, j < step * 160 + s * 20 ∨ step * 160 + s * 20 + 20 ≤ j → lk' j = lk j) ∧ ∀ r, r < lnn n cnt val wf K → lk' (step * 160 + s * 20 + r) = (pk n cnt val wf r).1 * 20 + tkn n cnt val wf r (pk n cnt val wf r).1)) 0 0) = Z
  have fin : ∀ (r : Nat) (hr1 lk1 : Nat → Nat) (v1 : Nat → Nat → Nat) (w1 : ze_W), r ≤ 20 → lnn n cnt val wf K = r → rst G w0 w1 R a b cv hr1 wt lk1 v1 → (∀ u, u < n → hr1 u = tkn n cnt val wf r u) → (∀ u, u < n → v1 2 u = hd cnt val wf (tkn n cnt val wf r) u) → lnn n cnt val wf r = r → (v1 a = v a ∧ (∀ j, j < s * 20 ∨ s * 20 + 20 ≤ j → v1 b j = v b j) ∧ ∀ q, q < r → v1 b (s * 20 + q) = (pk n cnt val wf q).2) → (∀ j, j < step * 160 + s * 20 ∨ step * 160 + s * 20 + 20 ≤ j → lk1 j = lk j) → (∀ q, q < r → lk1 (step * 160 + s * 20 + q) = (pk n cnt val wf q).1 * 20 + tkn n cnt val wf q (pk n cnt val wf q).1) → ze_V G l (ze_rm 4 0 0) M1_mergeLists Z 151 [(0, .ref R), (1, ze_i ((step : Nat))), (2, ze_i ((s : Nat))), (3, ze_i ((n : Nat))), (4, ze_i ((K : Nat))), (5, ze_i (((step * 160 : Nat)))), (6, ze_i ((r : Nat)))] [] w1 0 0 := by
    intro r hr1 lk1 v1 w1 hr20 hlK hS1 i1 i2 i3 i4 i5 i6
    rw [← hQ]
    refine ze_aload_n dX1_mergeLists_151 rfl ?_
    refine ze_getf dX1_mergeLists_152 fl_X1_26 (rs_o hS1) rfl ?_
    refine ze_iload_n dX1_mergeLists_155 rfl ?_
    refine ze_iload dX1_mergeLists_156 rfl ?_
    refine ze_iastW (j := s) (f' := fun jj => (((va_up (cv b) s r) jj : Nat) : Int)) dX1_mergeLists_158 (rs_c hS1 (k := b) (by omega)) (by omega) (by omega) (by omega) (up_nc (cv b) s r) (fun w1 z1 c1 o1 => ?_)
    have hS1 := rs_wc (k := b) hS1 (by omega) z1 c1 o1
    refine ze_return rfl dX1_mergeLists_159 ⟨rfl, _, _, _, _, hS1, ⟨?_, fun j hj => ?_, ?_⟩, ⟨i4.1, i4.2.1, fun q hq => i4.2.2 q (by omega)⟩, i5, fun q hq => i6 q (by omega)⟩ rfl rfl
    · rw [va_up_ne _ _ (by omega)]
    · rw [va_up_self, va_up_ne _ _ hj]
    · rw [va_up_self, va_up_self, hlK]
  have loop : ∀ (d r : Nat) (hr1 lk1 : Nat → Nat) (v1 : Nat → Nat → Nat) (w1 : ze_W), r + d = K → rst G w0 w1 R a b cv hr1 wt lk1 v1 → (∀ u, u < n → hr1 u = tkn n cnt val wf r u) → (∀ u, u < n → v1 2 u = hd cnt val wf (tkn n cnt val wf r) u) → lnn n cnt val wf r = r → (v1 a = v a ∧ (∀ j, j < s * 20 ∨ s * 20 + 20 ≤ j → v1 b j = v b j) ∧ ∀ q, q < r → v1 b (s * 20 + q) = (pk n cnt val wf q).2) → (∀ j, j < step * 160 + s * 20 ∨ step * 160 + s * 20 + 20 ≤ j → lk1 j = lk j) → (∀ q, q < r → lk1 (step * 160 + s * 20 + q) = (pk n cnt val wf q).1 * 20 + tkn n cnt val wf q (pk n cnt val wf q).1) → ze_V G l (ze_rm 4 0 0) M1_mergeLists Z 41 [(0, .ref R), (1, ze_i ((step : Nat))), (2, ze_i ((s : Nat))), (3, ze_i ((n : Nat))), (4, ze_i ((K : Nat))), (5, ze_i (((step * 160 : Nat)))), (6, ze_i ((r : Nat)))] [] w1 0 0 := by
    intro d
    induction d with
    | zero =>
      intro r hr1 lk1 v1 w1 hrd hS1 i1 i2 i3 i4 i5 i6
      refine ze_iload dX1_mergeLists_41 rfl ?_
      refine ze_iload dX1_mergeLists_43 rfl ?_
      refine ze_icmp_ge 151 dX1_mergeLists_45 (by decide) (by omega) (by omega) (fun q1 => ?_) (fun q1 => ?_)
      · exact fin r hr1 lk1 v1 w1 (by omega) (by rw [show K = r by omega]; exact i3) hS1 i1 i2 i3 i4 i5 i6
      · omega
    | succ d ih =>
      intro r hr1 lk1 v1 w1 hrd hS1 i1 i2 i3 i4 i5 i6
      have hmx : mx (v1 2) n = pk n cnt val wf r := mx_congr i2
      refine ze_iload dX1_mergeLists_41 rfl ?_
      refine ze_iload dX1_mergeLists_43 rfl ?_
      refine ze_icmp_ge 151 dX1_mergeLists_45 (by decide) (by omega) (by omega) (fun q1 => ?_) (fun q1 => ?_)
      · omega
      · refine ze_aload_n dX1_mergeLists_48 rfl ?_
        refine ze_iload_n dX1_mergeLists_49 rfl ?_
        refine ze_callV (As := [ze_i ((n : Nat))]) (rest := []) dX1_mergeLists_50 (C1_greatestHead (n := n) hS1 hn.2) mo1_greatestHead ml_X1_90 in_1_greatestHead se_1_greatestHead (rs_o hS1) rfl rfl rfl rfl rfl ⟨Nat.le_refl _, Nat.le_refl _⟩ rfl (Nat.le_of_ble_eq_true rfl) ?_
        rintro _ w' ⟨r1, rfl, hr1e, rfl⟩
        change ze_V G l (ze_rm 4 0 0) M1_mergeLists _ 53 [(0, .ref R), (1, ze_i ((step : Nat))), (2, ze_i ((s : Nat))), (3, ze_i ((n : Nat))), (4, ze_i ((K : Nat))), (5, ze_i (((step * 160 : Nat)))), (6, ze_i ((r : Nat)))] [ze_i (r1)] w' 0 0
        rw [hmx] at hr1e
        by_cases hz : (pk n cnt val wf r).2 = 0
        · refine ze_ti (b := -1) (by rw [hr1e]; unfold bst; rw [if_pos hz]) ?_
          refine ze_istore (lv' := [(0, .ref R), (1, ze_i ((step : Nat))), (2, ze_i ((s : Nat))), (3, ze_i ((n : Nat))), (4, ze_i ((K : Nat))), (5, ze_i (((step * 160 : Nat)))), (6, ze_i ((r : Nat))), (7, ze_i (-1))]) dX1_mergeLists_53 rfl rfl ?_
          refine ze_iload dX1_mergeLists_55 rfl ?_
          refine ze_if_ge 63 dX1_mergeLists_57 (by decide) (by omega) (fun q2 => ?_) (fun q2 => ?_)
          · omega
          · refine ze_goto 151 dX1_mergeLists_60 (by decide) ?_
            refine ze_lv (lv' := [(0, .ref R), (1, ze_i ((step : Nat))), (2, ze_i ((s : Nat))), (3, ze_i ((n : Nat))), (4, ze_i ((K : Nat))), (5, ze_i (((step * 160 : Nat)))), (6, ze_i ((r : Nat)))]) [0, 1, 2, 3, 4, 5, 6] rfl ?_
            exact fin r hr1 lk1 v1 _ (by omega) (by rw [show K = r + (d + 1) by omega]; exact lnn_stop i3 hz (d + 1)) hS1 i1 i2 i3 i4 i5 i6
        · obtain ⟨y, hy⟩ : ∃ y, y = (pk n cnt val wf r).1 := ⟨_, rfl⟩
          have hyn : y < n := by rw [hy]; exact mx_lt2 hz
          have hyv : v1 2 y = (pk n cnt val wf r).2 := by rw [i2 y hyn, hy]; exact mx_val hz
          have hyt : hr1 y = tkn n cnt val wf r y := i1 y hyn
          have htl := tkn_le (n := n) (cnt := cnt) (val := val) (wt := wf) r y
          have hpb : (pk n cnt val wf r).2 ≤ 1000000 ^ (B + 1) := mx_le (fun t ht => hHb _ t ht)
          have htk : tkn n cnt val wf (r + 1) = va_up (tkn n cnt val wf r) y (tkn n cnt val wf r y + 1) := by
            funext u
            rw [hy]
            show (if (pk n cnt val wf r).2 = 0 then _ else _) = _
            rw [if_neg hz]
            rfl
          refine ze_ti (b := (y : Nat)) (by rw [hr1e]; unfold bst; rw [if_neg hz, hy]) ?_
          refine ze_istore (lv' := [(0, .ref R), (1, ze_i ((step : Nat))), (2, ze_i ((s : Nat))), (3, ze_i ((n : Nat))), (4, ze_i ((K : Nat))), (5, ze_i (((step * 160 : Nat)))), (6, ze_i ((r : Nat))), (7, ze_i ((y : Nat)))]) dX1_mergeLists_53 rfl rfl ?_
          refine ze_iload dX1_mergeLists_55 rfl ?_
          refine ze_if_ge 63 dX1_mergeLists_57 (by decide) (by omega) (fun q3 => ?_) (fun q3 => ?_)
          · refine ze_iload_n dX1_mergeLists_63 rfl ?_
            refine ze_iload dX1_mergeLists_64 rfl ?_
            refine ze_callS (As := [ze_i ((s : Nat)), ze_i ((r : Nat))]) (rest := []) dX1_mergeLists_66 (C1_entry (s := s) (r := r)) mo1_entry ml_X1_54 st_1_entry rfl rfl rfl ⟨Nat.le_refl _, Nat.le_refl _⟩ rfl (Nat.le_of_ble_eq_true rfl) ?_
            rintro _ w' ⟨r4, rfl, rfl, rfl⟩
            change ze_V G l (ze_rm 4 0 0) M1_mergeLists _ 69 [(0, .ref R), (1, ze_i ((step : Nat))), (2, ze_i ((s : Nat))), (3, ze_i ((n : Nat))), (4, ze_i ((K : Nat))), (5, ze_i (((step * 160 : Nat)))), (6, ze_i ((r : Nat))), (7, ze_i ((y : Nat)))] [ze_i (((s * 20 + r : Nat)))] w' 0 0
            refine ze_istore (lv' := [(0, .ref R), (1, ze_i ((step : Nat))), (2, ze_i ((s : Nat))), (3, ze_i ((n : Nat))), (4, ze_i ((K : Nat))), (5, ze_i (((step * 160 : Nat)))), (6, ze_i ((r : Nat))), (7, ze_i ((y : Nat))), (8, ze_i (((s * 20 + r : Nat))))]) dX1_mergeLists_69 rfl rfl ?_
            refine ze_aload_n dX1_mergeLists_71 rfl ?_
            refine ze_getf dX1_mergeLists_72 fl_X1_23 (rs_o hS1) rfl ?_
            refine ze_iload dX1_mergeLists_75 rfl ?_
            refine ze_aald (j := (s * 20 + r)) (b := (R + 2 + 322 * b + 2 * (s * 20 + r))) dX1_mergeLists_77 (rs_r hS1 (k := b) (by omega)) rfl (by omega) (by omega) (by omega) rfl ?_
            refine ze_aload_n dX1_mergeLists_78 rfl ?_
            refine ze_getf dX1_mergeLists_79 fl_X1_29 (rs_o hS1) rfl ?_
            refine ze_iload dX1_mergeLists_82 rfl ?_
            refine ze_aald (j := y) (b := (R + 2 + 322 * 2 + 2 * y)) dX1_mergeLists_84 (rs_2 hS1) rfl (by omega) (by omega) (by omega) rfl ?_
            refine ze_callV (As := [.ref (R + 2 + 322 * 2 + 2 * y)]) (rest := []) dX1_mergeLists_85 (C5_setTo (rs_w hS1 (k := b) (i := s * 20 + r) (Or.inl ⟨by omega, by omega⟩)) (rs_w hS1 (k := 2) (i := y) (Or.inr ⟨rfl, by omega⟩)) (by omega) (by rw [hyv]; exact p_le (w_lt hpb (by omega)) (by decide))) mo5_setTo ml_X1_93 in_5_setTo se_5_setTo (whz_o (rs_w hS1 (k := b) (i := (s * 20 + r)) (Or.inl ⟨by omega, by omega⟩))).choose_spec rfl rfl rfl rfl rfl ⟨Nat.le_refl _, Nat.le_refl _⟩ rfl (Nat.le_of_ble_eq_true rfl) ?_
            rintro _ w5 ⟨rfl, fr5, hz5⟩
            have hS5 := rs_wb hS1 (k := b) (i := s * 20 + r) (Or.inl ⟨by omega, by omega⟩) fr5 hz5
            change ze_V G l (ze_rm 4 0 0) M1_mergeLists _ 88 [(0, .ref R), (1, ze_i ((step : Nat))), (2, ze_i ((s : Nat))), (3, ze_i ((n : Nat))), (4, ze_i ((K : Nat))), (5, ze_i (((step * 160 : Nat)))), (6, ze_i ((r : Nat))), (7, ze_i ((y : Nat))), (8, ze_i (((s * 20 + r : Nat))))] [] w5 0 0
            refine ze_iload dX1_mergeLists_88 rfl ?_
            refine ze_if_lt 128 dX1_mergeLists_90 (by decide) (by omega) (fun q6 => ?_) (fun q6 => ?_)
            · omega
            · refine ze_iload dX1_mergeLists_93 rfl ?_
              refine ze_iload dX1_mergeLists_95 rfl ?_
              refine ze_iadd dX1_mergeLists_97 ?_
              refine ze_aload_n dX1_mergeLists_98 rfl ?_
              refine ze_getf dX1_mergeLists_99 fl_X1_39 (rs_o hS5) rfl ?_
              refine ze_alen dX1_mergeLists_102 (rs_k hS5) rfl ?_
              refine ze_icmp_ge 128 dX1_mergeLists_103 (by decide) (by omega) (by omega) (fun q7 => ?_) (fun q7 => ?_)
              · omega
              · refine ze_aload_n dX1_mergeLists_106 rfl ?_
                refine ze_getf dX1_mergeLists_107 fl_X1_39 (rs_o hS5) rfl ?_
                refine ze_iload dX1_mergeLists_110 rfl ?_
                refine ze_iload dX1_mergeLists_112 rfl ?_
                refine ze_iadd dX1_mergeLists_114 ?_
                refine ze_iload dX1_mergeLists_115 rfl ?_
                refine ze_aload_n dX1_mergeLists_117 rfl ?_
                refine ze_getf dX1_mergeLists_118 fl_X1_32 (rs_o hS5) rfl ?_
                refine ze_iload dX1_mergeLists_121 rfl ?_
                refine ze_iald (j := y) dX1_mergeLists_123 (rs_h hS5) (by omega) (by omega) (by omega) ?_
                refine ze_callS (As := [ze_i ((y : Nat)), ze_i ((hr1 y : Nat))]) (rest := [ze_i (((step * 160 : Nat)) + ((s * 20 + r : Nat))), .ref (R + 664)]) dX1_mergeLists_124 (C1_entry (s := y) (r := hr1 y)) mo1_entry ml_X1_54 st_1_entry rfl rfl rfl ⟨Nat.le_refl _, Nat.le_refl _⟩ rfl (Nat.le_of_ble_eq_true rfl) ?_
                rintro _ w' ⟨r8, rfl, rfl, rfl⟩
                change ze_V G l (ze_rm 4 0 0) M1_mergeLists _ 127 [(0, .ref R), (1, ze_i ((step : Nat))), (2, ze_i ((s : Nat))), (3, ze_i ((n : Nat))), (4, ze_i ((K : Nat))), (5, ze_i (((step * 160 : Nat)))), (6, ze_i ((r : Nat))), (7, ze_i ((y : Nat))), (8, ze_i (((s * 20 + r : Nat))))] [ze_i (((y * 20 + hr1 y : Nat))), ze_i (((step * 160 : Nat)) + ((s * 20 + r : Nat))), .ref (R + 664)] w' 0 0
                refine ze_iastW (j := step * 160 + (s * 20 + r)) (f' := fun jj => (((va_up lk1 (step * 160 + (s * 20 + r)) (y * 20 + hr1 y)) jj : Nat) : Int)) dX1_mergeLists_127 (rs_k hS5) (by omega) (by omega) (by omega) (up_nc lk1 (step * 160 + (s * 20 + r)) (y * 20 + hr1 y)) (fun w9 z9 c9 o9 => ?_)
                have hS9 := rs_wk hS5 z9 c9 o9
                refine ze_aload_n dX1_mergeLists_128 rfl ?_
                refine ze_getf dX1_mergeLists_129 fl_X1_32 (rs_o hS9) rfl ?_
                refine ze_iload dX1_mergeLists_132 rfl ?_
                refine ze_dup2 dX1_mergeLists_134 rfl rfl ?_
                refine ze_iald (j := y) dX1_mergeLists_135 (rs_h hS9) (by omega) (by omega) (by omega) ?_
                refine ze_iconst dX1_mergeLists_136 ?_
                refine ze_iadd dX1_mergeLists_137 ?_
                refine ze_ti (b := ((hr1 y + 1 : Nat))) (by omega) ?_
                refine ze_iastW (j := y) (f' := fun jj => (((va_up hr1 y (hr1 y + 1)) jj : Nat) : Int)) dX1_mergeLists_138 (rs_h hS9) (by omega) (by omega) (by omega) (up_nc hr1 y (hr1 y + 1)) (fun w10 z10 c10 o10 => ?_)
                have hS10 := rs_wh hS9 z10 c10 o10
                refine ze_aload_n dX1_mergeLists_139 rfl ?_
                refine ze_iload dX1_mergeLists_140 rfl ?_
                have hv2 : va_up v1 b (va_up (v1 b) (s * 20 + r) (v1 2 y)) a = v a := by rw [va_up_ne _ _ (by omega)]; exact i4.1
                have hh : ∀ u, u < n → va_up hr1 y (hr1 y + 1) u = tkn n cnt val wf (r + 1) u := by
                  intro u hu
                  rw [htk]
                  by_cases e : u = y
                  · rw [e, va_up_self, va_up_self, hyt]
                  · rw [va_up_ne _ _ e, va_up_ne _ _ e]; exact i1 u hu
                refine ze_callV (As := [ze_i ((y : Nat))]) (rest := []) dX1_mergeLists_142 (C1_weighHead (t := y) hS10 (by omega) (by rw [(hwt y (by omega)).1]; exact (hwt y (by omega)).2) (by rw [(hcnt y (by omega)).1]; exact (hcnt y (by omega)).2) (by rw [va_up_self]; omega) (fun k => by rw [hv2]; rw [(hcnt y hyn).1] at k; rw [(hval y _ hyn k).1]; exact w_lt (hval y _ hyn k).2 (by omega))) mo1_weighHead ml_X1_87 in_1_weighHead se_1_weighHead (rs_o hS10) rfl rfl rfl rfl rfl ⟨Nat.le_refl _, Nat.le_refl _⟩ rfl (Nat.le_of_ble_eq_true rfl) ?_
                rintro _ w11 ⟨rfl, hS11⟩
                change ze_V G l (ze_rm 4 0 0) M1_mergeLists _ 145 [(0, .ref R), (1, ze_i ((step : Nat))), (2, ze_i ((s : Nat))), (3, ze_i ((n : Nat))), (4, ze_i ((K : Nat))), (5, ze_i (((step * 160 : Nat)))), (6, ze_i ((r : Nat))), (7, ze_i ((y : Nat))), (8, ze_i (((s * 20 + r : Nat))))] [] w11 0 0
                rw [hX _ _ y hyn hv2] at hS11
                refine ze_iinc (b := ((r + 1 : Nat))) (lv' := [(0, .ref R), (1, ze_i ((step : Nat))), (2, ze_i ((s : Nat))), (3, ze_i ((n : Nat))), (4, ze_i ((K : Nat))), (5, ze_i (((step * 160 : Nat)))), (6, ze_i (((r + 1 : Nat)))), (7, ze_i ((y : Nat))), (8, ze_i (((s * 20 + r : Nat))))]) dX1_mergeLists_145 rfl rfl (by omega) rfl ?_
                refine ze_goto 41 dX1_mergeLists_148 (by decide) ?_
                refine ze_lv (lv' := [(0, .ref R), (1, ze_i ((step : Nat))), (2, ze_i ((s : Nat))), (3, ze_i ((n : Nat))), (4, ze_i ((K : Nat))), (5, ze_i (((step * 160 : Nat)))), (6, ze_i (((r + 1 : Nat))))]) [0, 1, 2, 3, 4, 5, 6] rfl ?_
                refine ih (r + 1) _ _ _ _ (by omega) hS11 hh (fun u hu => ?_) (lnn_go i3 hz) ⟨?_, fun j hj => ?_, fun q hq => ?_⟩ (fun j hj => ?_) (fun q hq => ?_)
                · rw [va_up_self, va_up_ne _ _ (show 2 ≠ b by omega)]
                  by_cases e : u = y
                  · rw [e, va_up_self]
                    unfold hd
                    rw [hh y hyn]
                  · rw [va_up_ne _ _ e, i2 u hu]
                    unfold hd
                    rw [htk, va_up_ne _ _ e]
                · rw [va_up_ne _ _ (show a ≠ 2 by omega)]; exact hv2
                · rw [va_up_ne _ _ (show b ≠ 2 by omega), va_up_self, va_up_ne _ _ (by omega)]; exact i4.2.1 j hj
                · rw [va_up_ne _ _ (show b ≠ 2 by omega), va_up_self]
                  by_cases e : q = r
                  · rw [e, va_up_self]; exact hyv
                  · rw [va_up_ne _ _ (by omega)]; exact i4.2.2 q (by omega)
                · rw [va_up_ne _ _ (by omega)]; exact i5 j hj
                · by_cases e : q = r
                  · rw [e, Nat.add_assoc, va_up_self, hyt, hy]
                  · rw [va_up_ne _ _ (by omega)]; exact i6 q (by omega)
          · omega
  have fst : ∀ (d t : Nat) (hr1 : Nat → Nat) (v1 : Nat → Nat → Nat) (w1 : ze_W), t + d = n → rst G w0 w1 R a b cv hr1 wt lk v1 → (∀ u, u < t → hr1 u = 0) → (∀ u, u < t → v1 2 u = hd cnt val wf (tkn n cnt val wf 0) u) → (∀ k, k ≠ 2 → v1 k = v k) → ze_V G l (ze_rm 4 0 0) M1_mergeLists Z 3 [(0, .ref R), (1, ze_i ((step : Nat))), (2, ze_i ((s : Nat))), (3, ze_i ((n : Nat))), (4, ze_i ((K : Nat))), (5, ze_i ((t : Nat)))] [] w1 0 0 := by
    intro d
    induction d with
    | zero =>
      intro t hr1 v1 w1 htd hS1 j1 j2 j3
      refine ze_iload dX1_mergeLists_3 rfl ?_
      refine ze_iload_n dX1_mergeLists_5 rfl ?_
      refine ze_icmp_ge 29 dX1_mergeLists_6 (by decide) (by omega) (by omega) (fun q1 => ?_) (fun q1 => ?_)
      · refine ze_iload_n dX1_mergeLists_29 rfl ?_
        refine ze_bipush dX1_mergeLists_30 (by decide) ?_
        refine ze_imul dX1_mergeLists_32 ?_
        refine ze_bipush dX1_mergeLists_33 (by decide) ?_
        refine ze_imul dX1_mergeLists_35 ?_
        refine ze_ti (b := ((step * 160 : Nat))) (by omega) ?_
        refine ze_istore (lv' := [(0, .ref R), (1, ze_i ((step : Nat))), (2, ze_i ((s : Nat))), (3, ze_i ((n : Nat))), (4, ze_i ((K : Nat))), (5, ze_i (((step * 160 : Nat))))]) dX1_mergeLists_36 rfl rfl ?_
        refine ze_iconst dX1_mergeLists_38 ?_
        refine ze_ti (b := ((0 : Nat) : Nat)) rfl ?_
        refine ze_istore (lv' := [(0, .ref R), (1, ze_i ((step : Nat))), (2, ze_i ((s : Nat))), (3, ze_i ((n : Nat))), (4, ze_i ((K : Nat))), (5, ze_i (((step * 160 : Nat)))), (6, ze_i (((0 : Nat) : Nat)))]) dX1_mergeLists_39 rfl rfl ?_
        exact loop K 0 hr1 lk v1 w1 (by omega) hS1 (fun u hu => j1 u (by omega)) (fun u hu => j2 u (by omega)) rfl ⟨j3 a (by omega), fun j _ => by rw [j3 b (by omega)], fun q hq => absurd hq (Nat.not_lt_zero _)⟩ (fun j _ => rfl) (fun q hq => absurd hq (Nat.not_lt_zero _))
      · omega
    | succ d ih =>
      intro t hr1 v1 w1 htd hS1 j1 j2 j3
      have htn : t < n := by omega
      refine ze_iload dX1_mergeLists_3 rfl ?_
      refine ze_iload_n dX1_mergeLists_5 rfl ?_
      refine ze_icmp_ge 29 dX1_mergeLists_6 (by decide) (by omega) (by omega) (fun q1 => ?_) (fun q1 => ?_)
      · omega
      · refine ze_aload_n dX1_mergeLists_9 rfl ?_
        refine ze_getf dX1_mergeLists_10 fl_X1_32 (rs_o hS1) rfl ?_
        refine ze_iload dX1_mergeLists_13 rfl ?_
        refine ze_iconst dX1_mergeLists_15 ?_
        refine ze_ti (b := ((0 : Nat) : Nat)) rfl ?_
        refine ze_iastW (j := t) (f' := fun jj => (((va_up hr1 t 0) jj : Nat) : Int)) dX1_mergeLists_16 (rs_h hS1) (by omega) (by omega) (by omega) (up_nc hr1 t 0) (fun w2 z2 c2 o2 => ?_)
        have hS2 := rs_wh hS1 z2 c2 o2
        refine ze_aload_n dX1_mergeLists_17 rfl ?_
        refine ze_iload dX1_mergeLists_18 rfl ?_
        refine ze_callV (As := [ze_i ((t : Nat))]) (rest := []) dX1_mergeLists_20 (C1_weighHead (t := t) hS2 (by omega) (by rw [(hwt t (by omega)).1]; exact (hwt t (by omega)).2) (by rw [(hcnt t (by omega)).1]; exact (hcnt t (by omega)).2) (by rw [va_up_self]; omega) (fun k => by rw [j3 a (by omega)]; rw [(hcnt t htn).1] at k; rw [(hval t _ htn k).1]; exact w_lt (hval t _ htn k).2 (by omega))) mo1_weighHead ml_X1_87 in_1_weighHead se_1_weighHead (rs_o hS2) rfl rfl rfl rfl rfl ⟨Nat.le_refl _, Nat.le_refl _⟩ rfl (Nat.le_of_ble_eq_true rfl) ?_
        rintro _ w3 ⟨rfl, hS3⟩
        change ze_V G l (ze_rm 4 0 0) M1_mergeLists _ 23 [(0, .ref R), (1, ze_i ((step : Nat))), (2, ze_i ((s : Nat))), (3, ze_i ((n : Nat))), (4, ze_i ((K : Nat))), (5, ze_i ((t : Nat)))] [] w3 0 0
        rw [hX _ _ t htn (j3 a (by omega))] at hS3
        refine ze_iinc (b := ((t + 1 : Nat))) (lv' := [(0, .ref R), (1, ze_i ((step : Nat))), (2, ze_i ((s : Nat))), (3, ze_i ((n : Nat))), (4, ze_i ((K : Nat))), (5, ze_i (((t + 1 : Nat))))]) dX1_mergeLists_23 rfl rfl (by omega) rfl ?_
        refine ze_goto 3 dX1_mergeLists_26 (by decide) ?_
        refine ih (t + 1) _ _ _ (by omega) hS3 (fun u hu => ?_) (fun u hu => ?_) (fun k hk => by rw [va_up_ne _ _ hk]; exact j3 k hk)
        · by_cases e : u = t
          · rw [e, va_up_self]
          · rw [va_up_ne _ _ e]; exact j1 u (by omega)
        · rw [va_up_self]
          by_cases e : u = t
          · rw [e, va_up_self]
            unfold hd
            rw [va_up_self]
            rfl
          · rw [va_up_ne _ _ e]; exact j2 u (by omega)
  change ze_V G l (ze_rm 4 0 0) M1_mergeLists Z 0 [(0, .ref R), (1, ze_i ((step : Nat))), (2, ze_i ((s : Nat))), (3, ze_i ((n : Nat))), (4, ze_i ((K : Nat)))] [] w 0 0
  refine ze_iconst dX1_mergeLists_0 ?_
  refine ze_ti (b := ((0 : Nat) : Nat)) rfl ?_
  refine ze_istore (lv' := [(0, .ref R), (1, ze_i ((step : Nat))), (2, ze_i ((s : Nat))), (3, ze_i ((n : Nat))), (4, ze_i ((K : Nat))), (5, ze_i (((0 : Nat) : Nat)))]) dX1_mergeLists_1 rfl rfl ?_
  exact fst n 0 hr v w (by omega) hS (fun u hu => absurd hu (Nat.not_lt_zero _)) (fun u hu => absurd hu (Nat.not_lt_zero _)) (fun _ _ => rfl)
