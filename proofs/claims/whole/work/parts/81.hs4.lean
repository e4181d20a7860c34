/-! HiddenSteps: best -/
theorem rs_sm {G : ze_G} {w0 w w' : ze_W} {R a b : Nat} {cv : Nat → Nat → Nat} {hr wt lk : Nat → Nat} {v : Nat → Nat → Nat} (h : rst G w0 w R a b cv hr wt lk v) (fr : ∀ u, R ≤ u → u < R + 665 → w'.2 u = w.2 u) : rst G w' w' R a b cv hr wt lk v := by
  obtain ⟨-, h3, h4, h5, h6, h7, h8, h9, h10, h11⟩ := h
  refine ⟨⟨rfl, fun _ _ => rfl⟩, h3, (fr R (by omega) (by omega)).trans h4, fun k hk => (fr _ (by omega) (by omega)).trans (h5 k hk), (fr _ (by omega) (by omega)).trans h6, fun k hk => (fr _ (by omega) (by omega)).trans (h7 k hk), (fr _ (by omega) (by omega)).trans h8, (fr _ (by omega) (by omega)).trans h9, (fr _ (by omega) (by omega)).trans h10, fun k i hk => ?_⟩
  have hk2 := hk
  unfold rwk at hk2
  exact whz_sm (h11 k i hk) (fr _ (by omega) (by omega)) (fr _ (by omega) (by omega))
theorem fpk_le {ar : Nat → Nat → Int} {c P K r : Nat} (hR : rok ar c P) (hP : 0 < P) : (fpk ar c P K r).2 ≤ 1000000 ^ P := by
  have hn := mch_n hR.1
  have ht := (mch_t hR.1).2.2
  unfold fpk pk
  refine mx_le (fun t h2 => ?_)
  unfold hd
  split
  · rename_i h3
    have e6 : (1000000 : Nat) ^ P = 1000000 ^ (P - 1) * 1000000 := by
      rw [← Nat.pow_succ]
      congr 1
      omega
    rw [e6]
    refine Nat.mul_le_mul (cl_le hR (P - 1) t _ (by omega) (by omega) h3) ?_
    · have h4 := (mch_b hR.1 (show t < 8 by omega)).2
      have h5 := (rok_e hR (show t < 8 by omega) hP).2
      exact Nat.le_trans (Nat.mul_le_mul h4 (Nat.le_trans h5 ht)) (by decide)
  · exact Nat.zero_le _
theorem hp_rkg {G : ze_G} {w : ze_W} {X lo C P F V : Nat} {ar : Nat → Nat → Int} {cf : Nat → Option Nat} {pc : Nat → Nat} {R : Nat} {w' : ze_W} (hH : hpc G w X lo C P F ar V cf pc (some R)) (hlo : X + 80 ≤ lo) (hr : rkp G w' R) (z1 : w'.1 = w.1) (fr : ∀ u, u < R ∨ R + 665 ≤ u → w'.2 u = w.2 u) : hpc G w' X lo C P F ar V cf pc (some R) ∧ kfr w w' X lo := by
  obtain ⟨hX, h1, hrow, hwh, hsw, ⟨hlf, hrt⟩, htl, hfd, hcs, hor, hrk⟩ := id hH
  have hsz : w.1 ≤ w'.1 := Nat.le_of_eq z1.symm
  have hrl := (hrk R rfl).2.1
  exact ⟨⟨(fr X (by omega)).trans hX, (fr (X + 1) (by omega)).trans h1, srw_sm hrow (fun u a1 a2 => fr u (by omega)), whz_sm hwh (fr _ (by omega)) (fr _ (by omega)), swp_sm hsw (fun u a1 a2 => fr u (by omega)), ⟨hlf.elim (fun v q => ⟨v, whz_sm q (fr _ (by omega)) (fr _ (by omega))⟩), hrt.elim (fun v q => ⟨v, whz_sm q (fr _ (by omega)) (fr _ (by omega))⟩)⟩, tlp_sm htl (fun u a1 a2 => fr u (by omega)), hfd.elim (fun ff q => ⟨ff, (fr _ (by omega)).trans q.1, q.2⟩), fun c hc => ⟨(hcs c hc).1, chr_sm (hcs c hc).2.1 (fun u a1 a2 => fr u (by have := (hrk R rfl).2.2.2 c hc; omega)), (hcs c hc).2.2.1, Nat.le_trans (hcs c hc).2.2.2 hsz⟩, hor, fun R2 hR2 => by cases hR2; exact ⟨hr, (hrk R rfl).2.1, Nat.le_trans (hrk R rfl).2.2.1 hsz, (hrk R rfl).2.2.2⟩⟩, hsz, fun u hu => fr u (by omega)⟩
theorem B6_tail {G : ze_G} {l : Launch} {w0 w : ze_W} {X lo C P F V : Nat} {ar : Nat → Nat → Int} {cf : Nat → Option Nat} {pc : Nat → Nat} {R : Nat} {k ka mc ms : Nat} (hH : hpc G w X lo C P F ar V cf pc (some R)) (hG : mgd C P F ar) (hlo : X + 80 ≤ lo) (hk0 : kfr w0 w X lo) (lka : ka < C) (hR : rok ar ka P) (hP0 : 0 < P) (hk : k < 20) : ze_V G l (ze_rm 6 mc ms) M6_best (ze_Q G (ze_qi (fun r w' => ∃ V' F' ar' R', hpc G w' X lo C P F' ar' V' cf pc (some R') ∧ kfr w0 w' X lo ∧ (∀ q, q ≠ 17 → ar' q = ar q) ∧ (((∃ q, q ≤ k ∧ (bpk ar ka P q).2 = 0) ∧ r = 0 ∧ V' = V ∧ F' = F ∧ ar' = ar) ∨ ((∀ q, q ≤ k → (bpk ar ka P q).2 ≠ 0) ∧ V' = (bpk ar ka P k).2 ∧ isd (bpk ar ka P k).2 r ∧ F' = P ∧ ∀ i, i < P → ar' 17 i = ((btr ar ka P k i).1 : Nat))))) mc ms) 55 [(0, .ref X), (2, ze_i ((k : Nat))), (3, .ref (pc ka))] [] w mc ms := by
  have hP := hG.1.2.1
  have n8 := (mch_n (hp_ch hH lka).1).2.2
  obtain ⟨hrk0, hrl, hrs, hrd⟩ := hp_rk hH rfl
  obtain ⟨a, b, cv, hr, wt, lk, v, hS⟩ := hrk0
  have hd0 := hrd ka lka
  have hq := (hp_cs hH lka).2.2
  obtain ⟨ff, hf1, hf2⟩ := hp_fd hH
  have hK : 1 ≤ k + 1 ∧ k + 1 ≤ 20 := by omega
  refine ze_aload_n dX6_best_55 rfl ?_
  refine ze_getf dX6_best_56 fl_X6_55 (hp_o hH) rfl ?_
  refine ze_aload_n dX6_best_59 rfl ?_
  refine ze_aload_n dX6_best_60 rfl ?_
  refine ze_getf dX6_best_61 fl_X6_22 (hp_o hH) rfl ?_
  refine ze_iload_n dX6_best_64 rfl ?_
  refine ze_iconst dX6_best_65 ?_
  refine ze_iadd dX6_best_66 ?_
  refine ze_ti (b := ((k + 1 : Nat))) (by omega) ?_
  refine ze_callV (As := [.ref (pc ka), .ref (X + 2), ze_i (((k + 1 : Nat)))]) (rest := []) dX6_best_67 (C1_rankRows (K := k + 1) hS (hp_ch hH lka) (hp_row hH) (by omega) (by omega) hR hP0 hK) mo1_rankRows ml_X6_159 in_1_rankRows se_1_rankRows (rs_o hS) rfl rfl rfl rfl rfl ⟨Nat.le_refl _, Nat.le_refl _⟩ rfl (Nat.le_of_ble_eq_true rfl) ?_
  rintro _ w2 ⟨r2, rfl, hr2, a2, b2, cv2, hh2, wt2, lk2, v2, hS2, hkd⟩
  obtain ⟨p1, p2⟩ := hp_rkg hH hlo ⟨_, _, _, _, _, _, _, rs_rf hS2⟩ hS2.1.1 hS2.1.2
  have hf3 : w2.2 (X + 79) = some (ze_ia G 60 ff) := (hS2.1.2 (X + 79) (by omega)).trans hf1
  have hfl := lnn_le (n := cn ar ka) (cnt := fun t => (cl ar ka P (k + 1) (P - 1) t).1) (val := fun t => (cl ar ka P (k + 1) (P - 1) t).2) (wt := fun t => cb ar ka t * ce ar ka t 0) (k + 1)
  have hfl : fln ar ka P (k + 1) ≤ k + 1 := hfl
  change ze_V G l (ze_rm 6 mc ms) M6_best _ 70 [(0, .ref X), (2, ze_i ((k : Nat))), (3, .ref (pc ka))] [ze_i (r2)] w2 mc ms
  refine ze_istore (lv' := [(0, .ref X), (2, ze_i ((k : Nat))), (3, .ref (pc ka)), (5, ze_i (r2))]) dX6_best_70 rfl rfl ?_
  refine ze_iload dX6_best_72 rfl ?_
  refine ze_iload_n dX6_best_74 rfl ?_
  refine ze_icmp_gt 80 dX6_best_75 (by decide) (by omega) (by omega) (fun q1 => ?_) (fun q1 => ?_)
  · refine ze_aload_n dX6_best_80 rfl ?_
    refine ze_aload_n dX6_best_81 rfl ?_
    refine ze_getf dX6_best_82 fl_X6_22 (hp_o p1) rfl ?_
    refine ze_callV (As := []) (rest := [.ref X]) dX6_best_85 (C2_length (hp_row p1)) mo2_length ml_X6_117 in_2_length se_2_length (hp_row p1).2.1 rfl rfl rfl rfl rfl ⟨Nat.le_refl _, Nat.le_refl _⟩ rfl (Nat.le_of_ble_eq_true rfl) ?_
    rintro _ w2 ⟨r8, rfl, rfl, rfl⟩
    change ze_V G l (ze_rm 6 mc ms) M6_best _ 88 [(0, .ref X), (2, ze_i ((k : Nat))), (3, .ref (pc ka)), (5, ze_i (r2))] [ze_i ((P : Nat)), .ref X] w2 mc ms
    refine ze_putfW (fs' := hfs X C P (some R)) dX6_best_88 fl_X6_63 (Or.inl rfl) (hp_o p1) rfl rfl (Nat.le_of_ble_eq_true rfl) rfl (fun w3 z3 c3 o3 => ?_)
    have rs3 := rs_sm hS2 (fun u g1 g2 => o3 u (by omega))
    have hkf : k < fln ar ka P (k + 1) := by omega
    refine ze_aload_n dX6_best_91 rfl ?_
    refine ze_getf dX6_best_92 fl_X6_55 c3 rfl ?_
    refine ze_iload_n dX6_best_95 rfl ?_
    refine ze_aload_n dX6_best_96 rfl ?_
    refine ze_getf dX6_best_97 fl_X6_59 c3 rfl ?_
    refine ze_aload_n dX6_best_100 rfl ?_
    refine ze_getf dX6_best_101 fl_X6_63 c3 rfl ?_
    refine ze_callV (As := [ze_i ((k : Nat)), .ref (X + 79), ze_i ((P : Nat))]) (rest := []) dX6_best_104 (C1_traceStates (K := k + 1) (k := k) rs3 ((o3 (X + 79) (by omega)).trans hf3) (by omega) hK ⟨hP0, hP⟩ n8 hkd hkf) mo1_traceStates ml_X6_162 in_1_traceStates se_1_traceStates (rs_o rs3) rfl rfl rfl rfl rfl ⟨Nat.le_refl _, Nat.le_refl _⟩ rfl (Nat.le_of_ble_eq_true rfl) ?_
    rintro _ w4 ⟨rfl, z4, o4, ff4, c4, e4⟩
    have rs4 := rs_sm rs3 (fun u g1 g2 => o4 u (by omega))
    have v4 := whz_sm (hp_wh p1) ((o4 _ (by omega)).trans (o3 _ (by omega))) ((o4 _ (by omega)).trans (o3 _ (by omega)))
    have c4x := (o4 X (by omega)).trans c3
    change ze_V G l (ze_rm 6 mc ms) M6_best _ 107 [(0, .ref X), (2, ze_i ((k : Nat))), (3, .ref (pc ka)), (5, ze_i (r2))] [] w4 mc ms
    refine ze_aload_n dX6_best_107 rfl ?_
    refine ze_getf dX6_best_108 fl_X6_55 c4x rfl ?_
    refine ze_aload_n dX6_best_111 rfl ?_
    refine ze_getf dX6_best_112 fl_X6_31 c4x rfl ?_
    refine ze_iload_n dX6_best_115 rfl ?_
    obtain ⟨hk1, hk2, -, -⟩ := hkd
    have evk : v2 a2 k = (bpk ar ka P k).2 := by
      rw [hk2 k hkf, (ref_fpk (ar := ar) (c := ka) (K := k + 1) (by omega) hP0 (show k < k + 1 by omega)).1]
    have hvb : v2 a2 k < 1000000000 ^ 42 := by
      rw [hk2 k hkf]
      exact p_le (w_lt (fpk_le hR hP0) (by omega)) (by decide)
    refine ze_callV (As := [.ref (X + 4), ze_i ((k : Nat))]) (rest := []) dX6_best_116 (C1_putValue (k := k) rs4 v4 (by omega) (by rw [hk1]; exact hkf) (by rw [hk1]; omega) hvb) mo1_putValue ml_X6_166 in_1_putValue se_1_putValue (rs_o rs4) rfl rfl rfl rfl rfl ⟨Nat.le_refl _, Nat.le_refl _⟩ rfl (Nat.le_of_ble_eq_true rfl) ?_
    rintro _ w5 ⟨rfl, f5, v5⟩
    rw [evk] at v5
    have fr : ∀ u, (u ≠ X ∧ u ≠ X + 79 ∧ u ≠ X + 4 ∧ u ≠ X + 5) → w5.2 u = w2.2 u := fun u hu => (f5.2 u (by omega) (by omega)).trans ((o4 u (by omega)).trans (o3 u (by omega)))
    have c5x := (f5.2 X (by omega) (by omega)).trans c4x
    change ze_V G l (ze_rm 6 mc ms) M6_best _ 119 [(0, .ref X), (2, ze_i ((k : Nat))), (3, .ref (pc ka)), (5, ze_i (r2))] [] w5 mc ms
    refine ze_aload_n dX6_best_119 rfl ?_
    refine ze_getf dX6_best_120 fl_X6_31 c5x rfl ?_
    refine ze_callV (As := []) (rest := []) dX6_best_123 (C5_digits v5) mo5_digits ml_X6_139 in_5_digits se_5_digits (whz_o v5).choose_spec rfl rfl rfl rfl rfl ⟨Nat.le_refl _, Nat.le_refl _⟩ rfl (Nat.le_of_ble_eq_true rfl) ?_
    rintro _ w5 ⟨rd, rfl, hrd, rfl⟩
    change ze_V G l (ze_rm 6 mc ms) M6_best _ 126 [(0, .ref X), (2, ze_i ((k : Nat))), (3, .ref (pc ka)), (5, ze_i (r2))] [ze_i (rd)] w5 mc ms
    refine ze_ireturn rfl dX6_best_126 ⟨_, rfl, (bpk ar ka P k).2, P, va_up ar 17 ff4, R, ?_, kf_t hk0 (kf_t p2 ⟨Nat.le_of_eq (f5.1.trans (z4.trans z3)).symm, fun u hu => fr u (by omega)⟩), fun q hq => va_up_ne _ _ hq, Or.inr ⟨fun q hq h0 => ?_, rfl, hrd, rfl, fun i hi => by rw [va_up_self]; exact e4 i hi⟩⟩ (Nat.ble_eq_true_of_le (Nat.le_refl _)) (Nat.ble_eq_true_of_le (Nat.le_refl _))
    · obtain ⟨hX, h1, hrow, hwh, hsw, ⟨hlf, hrt⟩, htl, hfd, hcs, hor, hrk⟩ := id p1
      have hsz : w2.1 ≤ w5.1 := Nat.le_of_eq (f5.1.trans (z4.trans z3)).symm
      exact ⟨((f5.2 X (by omega) (by omega)).trans (o4 X (by omega))).trans c3, (fr (X + 1) (by omega)).trans h1, srw_ar (srw_sm hrow (fun u a1 a2 => fr u (by omega))) (fun i _ => by rw [va_up_ne _ _ (by decide)]), v5, swp_sm hsw (fun u a1 a2 => fr u (by omega)), ⟨hlf.elim (fun v q => ⟨v, whz_sm q (fr _ (by omega)) (fr _ (by omega))⟩), hrt.elim (fun v q => ⟨v, whz_sm q (fr _ (by omega)) (fr _ (by omega))⟩)⟩, tlp_sm htl (fun u a1 a2 => fr u (by omega)), ⟨ff4, (f5.2 _ (by omega) (by omega)).trans c4, fun i hi => by rw [va_up_self]⟩, fun c hc => ⟨(hcs c hc).1, chr_ar (chr_sm (hcs c hc).2.1 (fun u a1 a2 => fr u (by have := (hcs c hc).2.2; omega))) (by rw [va_up_ne _ _ (by decide)]) (by rw [va_up_ne _ _ (by decide)]) (by rw [va_up_ne _ _ (by decide)]) (fun s _ => by rw [va_up_ne _ _ (by decide)]) (fun s t _ _ => by rw [va_up_ne _ _ (by decide)]) (fun s x _ _ => by rw [va_up_ne _ _ (by decide)]), (hcs c hc).2.2.1, Nat.le_trans (hcs c hc).2.2.2 hsz⟩, hor, fun R hR => ⟨rkp_sm (hrk R hR).1 (fun u a1 a2 => fr u (by have := (hrk R hR).2.1; omega)), (hrk R hR).2.1, Nat.le_trans (hrk R hR).2.2.1 hsz, (hrk R hR).2.2.2⟩⟩
    · have hk9 := hkf
      unfold fln at hk9
      rw [lnn_iff] at hk9
      refine hk9.2 q hq ?_
      rw [(ref_fpk (ar := ar) (c := ka) (K := k + 1) (by omega) hP0 (show q < k + 1 by omega)).1] at h0
      exact h0
  · refine ze_iconst dX6_best_78 ?_
    refine ze_ireturn rfl dX6_best_79 ⟨_, rfl, V, F, ar, R, p1, kf_t hk0 p2, fun _ _ => rfl, Or.inl ⟨?_, rfl, rfl, rfl, rfl⟩⟩ (Nat.ble_eq_true_of_le (Nat.le_refl _)) (Nat.ble_eq_true_of_le (Nat.le_refl _))
    refine Classical.byContradiction (fun hn => ?_)
    have : k < fln ar ka P (k + 1) := by
      unfold fln
      rw [lnn_iff]
      refine ⟨by omega, fun q hq h0 => hn ⟨q, hq, ?_⟩⟩
      rw [(ref_fpk (ar := ar) (c := ka) (K := k + 1) (by omega) hP0 (show q < k + 1 by omega)).1]
      exact h0
    omega
theorem C6_bestN {G : ze_G} {l : Launch} {w : ze_W} {X lo C P F V : Nat} {ar : Nat → Nat → Int} {cf : Nat → Option Nat} {pc : Nat → Nat} {RK : Option Nat} {c k : Int} (hH : hpc G w X lo C P F ar V cf pc RK) (hG : mgd C P F ar) (hlo : X + 80 ≤ lo) (r_c : -2147483648 ≤ c ∧ c < 2147483648) (r_k : -2147483648 ≤ k ∧ k < 2147483648) (hno : ¬ (((0 ≤ c ∧ c < (C : Int)) ∧ (0 ≤ k ∧ k < 20)) ∧ rfs ar P c.toNat 0)) : ze_C G l 6 0 0 M6_best [.ref X, ze_i c, ze_i k] w (ze_qi (fun r w' => w' = w ∧ ((¬ ((0 ≤ c ∧ c < (C : Int)) ∧ (0 ≤ k ∧ k < 20)) ∧ r = -1) ∨ (((0 ≤ c ∧ c < (C : Int)) ∧ (0 ≤ k ∧ k < 20)) ∧ rfs ar P c.toNat r ∧ r ≠ 0)))) := by
  refine ze_enter (by decide +kernel) rfl ?_
  change ze_V G l (ze_rm 6 0 0) M6_best _ 0 [(0, .ref X), (1, ze_i (c)), (2, ze_i (k))] [] w 0 0
  refine ze_aload_n dX6_best_0 rfl ?_
  refine ze_iload_n dX6_best_1 rfl ?_
  refine ze_callV (As := [ze_i (c)]) (rest := []) dX6_best_2 (C6_chainNumbered (c := c) hH hG (by omega)) mo6_chainNumbered ml_X6_73 in_6_chainNumbered se_6_chainNumbered (hp_o hH) rfl rfl rfl rfl rfl ⟨Nat.zero_le _, Nat.zero_le _⟩ rfl (Nat.le_of_ble_eq_true rfl) ?_
  rintro _ w ⟨ro, rfl, hro, rfl⟩
  by_cases qka : 0 ≤ c ∧ c < (C : Int)
  · rw [if_pos qka] at hro
    subst hro
    obtain ⟨ka, hka⟩ : ∃ n, n = c.toNat := ⟨_, rfl⟩
    rw [← hka]
    change ze_V G l (ze_rm 6 0 0) M6_best _ 5 [(0, .ref X), (1, ze_i (c)), (2, ze_i (k))] [.ref (pc ka)] w 0 0
    have lka : ka < C := by omega
    refine ze_astore_n (lv' := [(0, .ref X), (1, ze_i (c)), (2, ze_i (k)), (3, .ref (pc ka))]) dX6_best_5 rfl rfl ?_
    refine ze_aload_n dX6_best_6 rfl ?_
    refine ze_ifnull dX6_best_7 ?_
    refine ze_iload_n dX6_best_10 rfl ?_
    refine ze_iconst dX6_best_11 ?_
    refine ze_bipush dX6_best_12 (by decide) ?_
    refine ze_callS (As := [ze_i (k), ze_i (0), ze_i (19)]) (rest := []) dX6_best_14 (C6_isWithin (v := k) (a := 0) (b := 19) (by omega) (by omega) (by omega)) mo6_isWithin ml_X6_66 st_6_isWithin rfl rfl rfl ⟨Nat.zero_le _, Nat.zero_le _⟩ rfl (Nat.le_of_ble_eq_true rfl) ?_
    rintro _ w ⟨r1, rfl, rfl, rfl⟩
    change ze_V G l (ze_rm 6 0 0) M6_best _ 17 [(0, .ref X), (1, ze_i (c)), (2, ze_i (k)), (3, .ref (pc ka))] [ze_i (bi (0 ≤ k ∧ k ≤ 19))] w 0 0
    refine ze_if_ne 22 dX6_best_17 (by decide) (bi_rng _) (fun q2 => ?_) (fun q2 => ?_)
    · rw [bi_n] at q2
      refine ze_aload_n dX6_best_22 rfl ?_
      refine ze_aload_n dX6_best_23 rfl ?_
      refine ze_callV (As := [.ref (pc ka)]) (rest := []) dX6_best_24 (C6_rowRefusal (c := ka) hH hG lka) mo6_rowRefusal ml_X6_131 in_6_rowRefusal se_6_rowRefusal (hp_o hH) rfl rfl rfl rfl rfl ⟨Nat.zero_le _, Nat.zero_le _⟩ rfl (Nat.le_of_ble_eq_true rfl) ?_
      rintro _ w ⟨rr, rfl, hrr, rfl⟩
      change ze_V G l (ze_rm 6 0 0) M6_best _ 27 [(0, .ref X), (1, ze_i (c)), (2, ze_i (k)), (3, .ref (pc ka))] [ze_i (rr)] w 0 0
      refine ze_istore (lv' := [(0, .ref X), (1, ze_i (c)), (2, ze_i (k)), (3, .ref (pc ka)), (4, ze_i (rr))]) dX6_best_27 rfl rfl ?_
      refine ze_iload dX6_best_29 rfl ?_
      refine ze_if_eq 37 dX6_best_31 (by decide) (rfs_rng hrr) (fun q3 => ?_) (fun q3 => ?_)
      · exact absurd ⟨by omega, by rw [← hka]; rw [q3] at hrr; exact hrr⟩ hno
      · refine ze_iload dX6_best_34 rfl ?_
        exact ze_ireturn rfl dX6_best_36 ⟨_, rfl, rfl, Or.inr ⟨by omega, hrr, q3⟩⟩ rfl rfl
    · rw [bi_z] at q2
      refine ze_iconst dX6_best_20 ?_
      exact ze_ireturn rfl dX6_best_21 ⟨_, rfl, rfl, Or.inl ⟨by omega, rfl⟩⟩ rfl rfl
  · rw [if_neg qka] at hro
    subst hro
    change ze_V G l (ze_rm 6 0 0) M6_best _ 5 [(0, .ref X), (1, ze_i (c)), (2, ze_i (k))] [.null] w 0 0
    refine ze_astore_nN (lv' := [(0, .ref X), (1, ze_i (c)), (2, ze_i (k)), (3, .null)]) dX6_best_5 rfl rfl ?_
    refine ze_aload_nN dX6_best_6 rfl ?_
    refine ze_ifnullN 20 dX6_best_7 (by decide) ?_
    refine ze_iconst dX6_best_20 ?_
    exact ze_ireturn rfl dX6_best_21 ⟨_, rfl, rfl, Or.inl ⟨by omega, rfl⟩⟩ rfl rfl
theorem C6_best1 {G : ze_G} {l : Launch} {w : ze_W} {X lo C P F V : Nat} {ar : Nat → Nat → Int} {cf : Nat → Option Nat} {pc : Nat → Nat} {R : Nat} {c k : Int} (hH : hpc G w X lo C P F ar V cf pc (some R)) (hG : mgd C P F ar) (hlo : X + 80 ≤ lo) (r_c : -2147483648 ≤ c ∧ c < 2147483648) (r_k : -2147483648 ≤ k ∧ k < 2147483648) (hv : ((0 ≤ c ∧ c < (C : Int)) ∧ (0 ≤ k ∧ k < 20))) (h0 : rfs ar P c.toNat 0) : ze_C G l 6 0 0 M6_best [.ref X, ze_i c, ze_i k] w (ze_qi (fun r w' => ∃ V' F' ar' R', hpc G w' X lo C P F' ar' V' cf pc (some R') ∧ kfr w w' X lo ∧ (∀ q, q ≠ 17 → ar' q = ar q) ∧ (((∃ q, q ≤ k.toNat ∧ (bpk ar c.toNat P q).2 = 0) ∧ r = 0 ∧ V' = V ∧ F' = F ∧ ar' = ar) ∨ ((∀ q, q ≤ k.toNat → (bpk ar c.toNat P q).2 ≠ 0) ∧ V' = (bpk ar c.toNat P k.toNat).2 ∧ isd (bpk ar c.toNat P k.toNat).2 r ∧ F' = P ∧ ∀ i, i < P → ar' 17 i = ((btr ar c.toNat P k.toNat i).1 : Nat))))) := by
  refine ze_enter (by decide +kernel) rfl ?_
  change ze_V G l (ze_rm 6 0 0) M6_best _ 0 [(0, .ref X), (1, ze_i (c)), (2, ze_i (k))] [] w 0 0
  refine ze_aload_n dX6_best_0 rfl ?_
  refine ze_iload_n dX6_best_1 rfl ?_
  refine ze_callV (As := [ze_i (c)]) (rest := []) dX6_best_2 (C6_chainNumbered (c := c) hH hG (by omega)) mo6_chainNumbered ml_X6_73 in_6_chainNumbered se_6_chainNumbered (hp_o hH) rfl rfl rfl rfl rfl ⟨Nat.zero_le _, Nat.zero_le _⟩ rfl (Nat.le_of_ble_eq_true rfl) ?_
  rintro _ w ⟨ro, rfl, hro, rfl⟩
  by_cases qka : 0 ≤ c ∧ c < (C : Int)
  · rw [if_pos qka] at hro
    subst hro
    obtain ⟨ka, hka⟩ : ∃ n, n = c.toNat := ⟨_, rfl⟩
    rw [← hka]
    change ze_V G l (ze_rm 6 0 0) M6_best _ 5 [(0, .ref X), (1, ze_i (c)), (2, ze_i (k))] [.ref (pc ka)] w 0 0
    have lka : ka < C := by omega
    rw [← hka] at h0
    obtain ⟨hR, hP0⟩ := rfs_ok hG lka h0 rfl
    obtain ⟨kn, hkn⟩ := Int.eq_ofNat_of_zero_le hv.2.1
    subst hkn
    rw [Int.toNat_natCast]
    change ze_V G l (ze_rm 6 0 0) M6_best _ 5 [(0, .ref X), (1, ze_i (c)), (2, ze_i ((kn : Nat)))] [.ref (pc ka)] w 0 0
    refine ze_astore_n (lv' := [(0, .ref X), (1, ze_i (c)), (2, ze_i ((kn : Nat))), (3, .ref (pc ka))]) dX6_best_5 rfl rfl ?_
    refine ze_aload_n dX6_best_6 rfl ?_
    refine ze_ifnull dX6_best_7 ?_
    refine ze_iload_n dX6_best_10 rfl ?_
    refine ze_iconst dX6_best_11 ?_
    refine ze_bipush dX6_best_12 (by decide) ?_
    refine ze_callS (As := [ze_i ((kn : Nat)), ze_i (0), ze_i (19)]) (rest := []) dX6_best_14 (C6_isWithin (v := ((kn : Nat) : Int)) (a := 0) (b := 19) (by omega) (by omega) (by omega)) mo6_isWithin ml_X6_66 st_6_isWithin rfl rfl rfl ⟨Nat.zero_le _, Nat.zero_le _⟩ rfl (Nat.le_of_ble_eq_true rfl) ?_
    rintro _ w ⟨r1, rfl, rfl, rfl⟩
    change ze_V G l (ze_rm 6 0 0) M6_best _ 17 [(0, .ref X), (1, ze_i (c)), (2, ze_i ((kn : Nat))), (3, .ref (pc ka))] [ze_i (bi (0 ≤ ((kn : Nat) : Int) ∧ ((kn : Nat) : Int) ≤ 19))] w 0 0
    refine ze_if_ne 22 dX6_best_17 (by decide) (bi_rng _) (fun q2 => ?_) (fun q2 => ?_)
    · rw [bi_n] at q2
      refine ze_aload_n dX6_best_22 rfl ?_
      refine ze_aload_n dX6_best_23 rfl ?_
      refine ze_callV (As := [.ref (pc ka)]) (rest := []) dX6_best_24 (C6_rowRefusal (c := ka) hH hG lka) mo6_rowRefusal ml_X6_131 in_6_rowRefusal se_6_rowRefusal (hp_o hH) rfl rfl rfl rfl rfl ⟨Nat.zero_le _, Nat.zero_le _⟩ rfl (Nat.le_of_ble_eq_true rfl) ?_
      rintro _ w ⟨rr, rfl, hrr, rfl⟩
      change ze_V G l (ze_rm 6 0 0) M6_best _ 27 [(0, .ref X), (1, ze_i (c)), (2, ze_i ((kn : Nat))), (3, .ref (pc ka))] [ze_i (rr)] w 0 0
      refine ze_istore (lv' := [(0, .ref X), (1, ze_i (c)), (2, ze_i ((kn : Nat))), (3, .ref (pc ka)), (4, ze_i (rr))]) dX6_best_27 rfl rfl ?_
      refine ze_iload dX6_best_29 rfl ?_
      refine ze_if_eq 37 dX6_best_31 (by decide) (rfs_rng hrr) (fun q3 => ?_) (fun q3 => ?_)
      · refine ze_aload_n dX6_best_37 rfl ?_
        refine ze_getf dX6_best_38 fl_X6_55 (hp_o hH) rfl ?_
        refine ze_ifnonnull 55 dX6_best_41 (by decide) ?_
        refine ze_lv (lv' := [(0, .ref X), (2, ze_i ((kn : Nat))), (3, .ref (pc ka))]) [0, 2, 3] rfl ?_
        exact B6_tail hH hG hlo kf_r lka hR hP0 (by omega)
      · exact absurd (rfs_un hrr h0) q3
    · rw [bi_z] at q2
      omega
  · rw [if_neg qka] at hro
    subst hro
    change ze_V G l (ze_rm 6 0 0) M6_best _ 5 [(0, .ref X), (1, ze_i (c)), (2, ze_i (k))] [.null] w 0 0
    exact absurd hv.1 qka
theorem C6_best0 {G : ze_G} {l : Launch} {w : ze_W} {X lo C P F V : Nat} {ar : Nat → Nat → Int} {cf : Nat → Option Nat} {pc : Nat → Nat}  {c k : Int} (hH : hpc G w X lo C P F ar V cf pc none) (hG : mgd C P F ar) (hlo : X + 80 ≤ lo) (r_c : -2147483648 ≤ c ∧ c < 2147483648) (r_k : -2147483648 ≤ k ∧ k < 2147483648) (hv : ((0 ≤ c ∧ c < (C : Int)) ∧ (0 ≤ k ∧ k < 20))) (h0 : rfs ar P c.toNat 0) (hlw : lo ≤ w.1) : ze_C G l 6 665 24400 M6_best [.ref X, ze_i c, ze_i k] w (ze_qi (fun r w' => ∃ V' F' ar' R', hpc G w' X lo C P F' ar' V' cf pc (some R') ∧ kfr w w' X lo ∧ (∀ q, q ≠ 17 → ar' q = ar q) ∧ (((∃ q, q ≤ k.toNat ∧ (bpk ar c.toNat P q).2 = 0) ∧ r = 0 ∧ V' = V ∧ F' = F ∧ ar' = ar) ∨ ((∀ q, q ≤ k.toNat → (bpk ar c.toNat P q).2 ≠ 0) ∧ V' = (bpk ar c.toNat P k.toNat).2 ∧ isd (bpk ar c.toNat P k.toNat).2 r ∧ F' = P ∧ ∀ i, i < P → ar' 17 i = ((btr ar c.toNat P k.toNat i).1 : Nat))))) := by
  refine ze_enter (by decide +kernel) rfl ?_
  change ze_V G l (ze_rm 6 665 24400) M6_best _ 0 [(0, .ref X), (1, ze_i (c)), (2, ze_i (k))] [] w 0 0
  refine ze_aload_n dX6_best_0 rfl ?_
  refine ze_iload_n dX6_best_1 rfl ?_
  refine ze_callV (As := [ze_i (c)]) (rest := []) dX6_best_2 (C6_chainNumbered (c := c) hH hG (by omega)) mo6_chainNumbered ml_X6_73 in_6_chainNumbered se_6_chainNumbered (hp_o hH) rfl rfl rfl rfl rfl ⟨Nat.zero_le _, Nat.zero_le _⟩ rfl (Nat.le_of_ble_eq_true rfl) ?_
  rintro _ w ⟨ro, rfl, hro, rfl⟩
  by_cases qka : 0 ≤ c ∧ c < (C : Int)
  · rw [if_pos qka] at hro
    subst hro
    obtain ⟨ka, hka⟩ : ∃ n, n = c.toNat := ⟨_, rfl⟩
    rw [← hka]
    change ze_V G l (ze_rm 6 665 24400) M6_best _ 5 [(0, .ref X), (1, ze_i (c)), (2, ze_i (k))] [.ref (pc ka)] w 0 0
    have lka : ka < C := by omega
    rw [← hka] at h0
    obtain ⟨hR, hP0⟩ := rfs_ok hG lka h0 rfl
    obtain ⟨kn, hkn⟩ := Int.eq_ofNat_of_zero_le hv.2.1
    subst hkn
    rw [Int.toNat_natCast]
    change ze_V G l (ze_rm 6 665 24400) M6_best _ 5 [(0, .ref X), (1, ze_i (c)), (2, ze_i ((kn : Nat)))] [.ref (pc ka)] w 0 0
    refine ze_astore_n (lv' := [(0, .ref X), (1, ze_i (c)), (2, ze_i ((kn : Nat))), (3, .ref (pc ka))]) dX6_best_5 rfl rfl ?_
    refine ze_aload_n dX6_best_6 rfl ?_
    refine ze_ifnull dX6_best_7 ?_
    refine ze_iload_n dX6_best_10 rfl ?_
    refine ze_iconst dX6_best_11 ?_
    refine ze_bipush dX6_best_12 (by decide) ?_
    refine ze_callS (As := [ze_i ((kn : Nat)), ze_i (0), ze_i (19)]) (rest := []) dX6_best_14 (C6_isWithin (v := ((kn : Nat) : Int)) (a := 0) (b := 19) (by omega) (by omega) (by omega)) mo6_isWithin ml_X6_66 st_6_isWithin rfl rfl rfl ⟨Nat.zero_le _, Nat.zero_le _⟩ rfl (Nat.le_of_ble_eq_true rfl) ?_
    rintro _ w ⟨r1, rfl, rfl, rfl⟩
    change ze_V G l (ze_rm 6 665 24400) M6_best _ 17 [(0, .ref X), (1, ze_i (c)), (2, ze_i ((kn : Nat))), (3, .ref (pc ka))] [ze_i (bi (0 ≤ ((kn : Nat) : Int) ∧ ((kn : Nat) : Int) ≤ 19))] w 0 0
    refine ze_if_ne 22 dX6_best_17 (by decide) (bi_rng _) (fun q2 => ?_) (fun q2 => ?_)
    · rw [bi_n] at q2
      refine ze_aload_n dX6_best_22 rfl ?_
      refine ze_aload_n dX6_best_23 rfl ?_
      refine ze_callV (As := [.ref (pc ka)]) (rest := []) dX6_best_24 (C6_rowRefusal (c := ka) hH hG lka) mo6_rowRefusal ml_X6_131 in_6_rowRefusal se_6_rowRefusal (hp_o hH) rfl rfl rfl rfl rfl ⟨Nat.zero_le _, Nat.zero_le _⟩ rfl (Nat.le_of_ble_eq_true rfl) ?_
      rintro _ w ⟨rr, rfl, hrr, rfl⟩
      change ze_V G l (ze_rm 6 665 24400) M6_best _ 27 [(0, .ref X), (1, ze_i (c)), (2, ze_i ((kn : Nat))), (3, .ref (pc ka))] [ze_i (rr)] w 0 0
      refine ze_istore (lv' := [(0, .ref X), (1, ze_i (c)), (2, ze_i ((kn : Nat))), (3, .ref (pc ka)), (4, ze_i (rr))]) dX6_best_27 rfl rfl ?_
      refine ze_iload dX6_best_29 rfl ?_
      refine ze_if_eq 37 dX6_best_31 (by decide) (rfs_rng hrr) (fun q3 => ?_) (fun q3 => ?_)
      · refine ze_aload_n dX6_best_37 rfl ?_
        refine ze_getf dX6_best_38 fl_X6_55 (hp_o hH) rfl ?_
        refine ze_ifnonnullN dX6_best_41 ?_
        refine ze_aload_n dX6_best_44 rfl ?_
        refine ze_nX1 dX6_best_45 cl_X6_156 (by decide) (by decide) (fun w2 z2 c2 o2 => ?_)
        obtain ⟨R, hRw⟩ : ∃ R, R = w.1 := ⟨_, rfl⟩
        rw [← hRw] at z2 c2 o2 hlw ⊢
        refine ze_dup dX6_best_48 rfl ?_
        refine ze_callI (As := []) (rest := [.ref R, .ref X]) dX6_best_49 (C1_init c2 z2) mo1_init rfl rfl ml_X6_158 in_1_init rfl rfl rfl (by decide) rfl (Nat.le_of_ble_eq_true rfl) ?_
        rintro _ w3 ⟨rfl, z3, k3, o3⟩
        have e3 : ∀ u, u < R → w3.2 u = w.2 u := fun u hu => (o3 u hu).trans (o2 u (by omega))
        have cX := (e3 X (by omega)).trans (hp_o hH)
        refine ze_putfW (fs' := hfs X C F (some R)) dX6_best_52 fl_X6_55 (Or.inl rfl) cX rfl rfl (Nat.le_of_ble_eq_true rfl) rfl (fun w4 z4 c4 o4 => ?_)
        have fr : ∀ u, (u ≠ X ∧ u < R) → w4.2 u = w.2 u := fun u hu => (o4 u (by omega)).trans (e3 u (by omega))
        have hk4 : kfr w w4 X lo := ⟨by rw [z4, z3]; omega, fun u hu => fr u (by omega)⟩
        have hH4 : hpc G w4 X lo C P F ar V cf pc (some R) := by
          obtain ⟨hX, h1, hrow, hwh, hsw, ⟨hlf, hrt⟩, htl, hfd, hcs, hor, hrk⟩ := id hH
          have hsz : w.1 ≤ w4.1 := hk4.1
          exact ⟨c4, (fr (X + 1) (by omega)).trans h1, srw_sm hrow (fun u a1 a2 => fr u (by omega)), whz_sm hwh (fr _ (by omega)) (fr _ (by omega)), swp_sm hsw (fun u a1 a2 => fr u (by omega)), ⟨hlf.elim (fun v q => ⟨v, whz_sm q (fr _ (by omega)) (fr _ (by omega))⟩), hrt.elim (fun v q => ⟨v, whz_sm q (fr _ (by omega)) (fr _ (by omega))⟩)⟩, tlp_sm htl (fun u a1 a2 => fr u (by omega)), hfd.elim (fun ff q => ⟨ff, (fr _ (by omega)).trans q.1, q.2⟩), fun c hc => ⟨(hcs c hc).1, chr_sm (hcs c hc).2.1 (fun u a1 a2 => fr u (by have := (hcs c hc).2.2; omega)), (hcs c hc).2.2.1, Nat.le_trans (hcs c hc).2.2.2 hsz⟩, hor, fun R2 hR2 => by cases hR2; exact ⟨rkp_sm k3 (fun u a1 a2 => o4 u (by omega)), by omega, by rw [z4, z3]; omega, fun c hc => Or.inl (by have := (hcs c hc).2.2; omega)⟩⟩
        change ze_V G l (ze_rm 6 665 24400) M6_best _ 55 [(0, .ref X), (1, ze_i (c)), (2, ze_i ((kn : Nat))), (3, .ref (pc ka)), (4, ze_i (rr))] [] w4 665 24400
        refine ze_lv (lv' := [(0, .ref X), (2, ze_i ((kn : Nat))), (3, .ref (pc ka))]) [0, 2, 3] rfl ?_
        exact B6_tail hH4 hG hlo hk4 lka hR hP0 (by omega)
      · exact absurd (rfs_un hrr h0) q3
    · rw [bi_z] at q2
      omega
  · rw [if_neg qka] at hro
    subst hro
    change ze_V G l (ze_rm 6 665 24400) M6_best _ 5 [(0, .ref X), (1, ze_i (c)), (2, ze_i (k))] [.null] w 0 0
    exact absurd hv.1 qka
