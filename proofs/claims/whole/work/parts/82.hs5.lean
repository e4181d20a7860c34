/-! HiddenSteps: chains come and go; its constructor -/
theorem C6_remove {G : ze_G} {l : Launch} {w : ze_W} {X lo C P F V : Nat} {ar : Nat → Nat → Int} {cf : Nat → Option Nat} {pc : Nat → Nat} {RK : Option Nat} (hH : hpc G w X lo C P F ar V cf pc RK) (hG : mgd C P F ar) (hlo : X + 80 ≤ lo) : ze_C G l 0 0 0 M6_remove [.ref X] w (ze_qi (fun r w' => ∃ C' cf', hpc G w' X lo C' P F ar V cf' pc RK ∧ kfr w w' X lo ∧ ((C = 0 ∧ r = -1 ∧ C' = 0) ∨ (0 < C ∧ r = (C - 1 : Nat) ∧ C' = C - 1)))) := by
  have hC := hG.1.1
  refine ze_enter (by decide +kernel) rfl ?_
  change ze_V G l (ze_rm 0 0 0) M6_remove _ 0 [(0, .ref X)] [] w 0 0
  refine ze_aload_n dX6_remove_0 rfl ?_
  refine ze_getf dX6_remove_1 fl_X6_15 (hp_o hH) rfl ?_
  refine ze_iconst dX6_remove_4 ?_
  refine ze_icmp_ge 10 dX6_remove_5 (by decide) (by omega) (by omega) (fun q1 => ?_) (fun q1 => ?_)
  · refine ze_aload_n dX6_remove_10 rfl ?_
    refine ze_dup dX6_remove_11 rfl ?_
    refine ze_getf dX6_remove_12 fl_X6_15 (hp_o hH) rfl ?_
    refine ze_iconst dX6_remove_15 ?_
    refine ze_isub dX6_remove_16 ?_
    refine ze_ti (b := ((C - 1 : Nat))) (by omega) ?_
    refine ze_putfW (fs' := hfs X (C - 1) F RK) dX6_remove_17 fl_X6_15 (Or.inl rfl) (hp_o hH) rfl rfl (Nat.le_of_ble_eq_true rfl) rfl (fun w2 z2 c2 o2 => ?_)
    refine ze_aload_n dX6_remove_20 rfl ?_
    refine ze_getf dX6_remove_21 fl_X6_11 c2 rfl ?_
    refine ze_aload_n dX6_remove_24 rfl ?_
    refine ze_getf dX6_remove_25 fl_X6_15 c2 rfl ?_
    refine ze_null dX6_remove_28 ?_
    refine ze_aastN (j := C - 1) (f' := va_up cf (C - 1) none) dX6_remove_29 ((o2 (X + 1) (by omega)).trans (hp_r hH)) rfl rfl (by omega) (by omega) rfl ?_
    obtain ⟨w3, hw3⟩ : ∃ w3, w3 = ze_up w2 (X + 1) (ze_ra G 3 6 (va_up cf (C - 1) none)) := ⟨_, rfl⟩
    rw [← hw3]
    have z3 : w3.1 = w2.1 := by rw [hw3]; exact ze_up_1 _ _ _
    have c3 : w3.2 (X + 1) = some (ze_ra G 3 6 (va_up cf (C - 1) none)) := by rw [hw3]; exact ze_up_s _ _ _
    have o3 : ∀ u, u ≠ X + 1 → w3.2 u = w2.2 u := fun u hu => by rw [hw3]; exact ze_up_n _ _ hu
    have c3x := (o3 X (by omega)).trans c2
    refine ze_aload_n dX6_remove_30 rfl ?_
    refine ze_getf dX6_remove_31 fl_X6_15 c3x rfl ?_
    have fr : ∀ u, (u ≠ X ∧ u ≠ X + 1) → w3.2 u = w.2 u := fun u hu => (o3 u (by omega)).trans (o2 u (by omega))
    have hsz : w.1 ≤ w3.1 := Nat.le_of_eq (z3.trans z2).symm
    obtain ⟨hX, h1, hrow, hwh, hsw, ⟨hlf, hrt⟩, htl, hfd, hcs, hor, hrk⟩ := id hH
    exact ze_ireturn rfl dX6_remove_34 ⟨_, rfl, C - 1, va_up cf (C - 1) none, ⟨c3x, c3, srw_sm hrow (fun u a1 a2 => fr u (by omega)), whz_sm hwh (fr _ (by omega)) (fr _ (by omega)), swp_sm hsw (fun u a1 a2 => fr u (by omega)), ⟨hlf.elim (fun v q => ⟨v, whz_sm q (fr _ (by omega)) (fr _ (by omega))⟩), hrt.elim (fun v q => ⟨v, whz_sm q (fr _ (by omega)) (fr _ (by omega))⟩)⟩, tlp_sm htl (fun u a1 a2 => fr u (by omega)), hfd.elim (fun ff q => ⟨ff, (fr _ (by omega)).trans q.1, q.2⟩), fun c hc => ⟨by rw [va_up_ne _ _ (by omega)]; exact (hcs c (by omega)).1, chr_sm (hcs c (by omega)).2.1 (fun u a1 a2 => fr u (by have := (hcs c (by omega)).2.2; omega)), (hcs c (by omega)).2.2.1, Nat.le_trans (hcs c (by omega)).2.2.2 hsz⟩, fun c d hcd hd => hor c d hcd (by omega), fun R hR => ⟨rkp_sm (hrk R hR).1 (fun u a1 a2 => fr u (by have := (hrk R hR).2.1; omega)), (hrk R hR).2.1, Nat.le_trans (hrk R hR).2.2.1 hsz, fun c hc => (hrk R hR).2.2.2 c (by omega)⟩⟩, ⟨hsz, fun u hu => fr u (by omega)⟩, Or.inr ⟨by omega, rfl, rfl⟩⟩ rfl rfl
  · refine ze_iconst dX6_remove_8 ?_
    exact ze_ireturn rfl dX6_remove_9 ⟨_, rfl, C, cf, hH, kf_r, Or.inl ⟨by omega, rfl, by omega⟩⟩ rfl rfl
theorem C6_chain {G : ze_G} {l : Launch} {w : ze_W} {X lo C P F V : Nat} {ar : Nat → Nat → Int} {cf : Nat → Option Nat} {pc : Nat → Nat} {RK : Option Nat} {n k t : Int} (hH : hpc G w X lo C P F ar V cf pc RK) (hG : mgd C P F ar) (hlo : X + 80 ≤ lo) (hlw : lo ≤ w.1) (r_n : -2147483648 ≤ n ∧ n < 2147483648) (r_k : -2147483648 ≤ k ∧ k < 2147483648) (r_t : -2147483648 ≤ t ∧ t < 2147483648) : ze_C G l 2 4 126 M6_chain [.ref X, ze_i n, ze_i k, ze_i t] w (ze_qi (fun r w' => (¬ ((1 ≤ n ∧ n ≤ 8) ∧ (1 ≤ k ∧ k ≤ 6) ∧ (1 ≤ t ∧ t ≤ 1000)) ∧ r = -1 ∧ w' = w) ∨ (((1 ≤ n ∧ n ≤ 8) ∧ (1 ≤ k ∧ k ≤ 6) ∧ (1 ≤ t ∧ t ≤ 1000)) ∧ C = 6 ∧ r = -6 ∧ w' = w) ∨ (((1 ≤ n ∧ n ≤ 8) ∧ (1 ≤ k ∧ k ≤ 6) ∧ (1 ≤ t ∧ t ≤ 1000)) ∧ C < 6 ∧ r = (C : Nat) ∧ kfr w w' X lo ∧ ∃ cf' pc', ∀ ar', chi ar ar' C n k t (C * 8 + 8) (C * 64 + 64) (C * 48 + 48) → hpc G w' X lo (C + 1) P F ar' V cf' pc' RK))) := by
  have hC := hG.1.1
  refine ze_enter (by decide +kernel) rfl ?_
  change ze_V G l (ze_rm 2 4 126) M6_chain _ 0 [(0, .ref X), (1, ze_i (n)), (2, ze_i (k)), (3, ze_i (t))] [] w 0 0
  refine ze_iload_n dX6_chain_0 rfl ?_
  refine ze_iconst dX6_chain_1 ?_
  refine ze_bipush dX6_chain_2 (by decide) ?_
  refine ze_callS (As := [ze_i (n), ze_i (1), ze_i (8)]) (rest := []) dX6_chain_4 (C6_isWithin (v := n) (a := 1) (b := 8) (by omega) (by omega) (by omega)) mo6_isWithin ml_X6_66 st_6_isWithin rfl rfl rfl ⟨Nat.zero_le _, Nat.zero_le _⟩ rfl (Nat.le_of_ble_eq_true rfl) ?_
  rintro _ w ⟨r1, rfl, rfl, rfl⟩
  change ze_V G l (ze_rm 2 4 126) M6_chain _ 7 [(0, .ref X), (1, ze_i (n)), (2, ze_i (k)), (3, ze_i (t))] [ze_i (bi (1 ≤ n ∧ n ≤ 8))] w 0 0
  refine ze_if_eq 31 dX6_chain_7 (by decide) (bi_rng _) (fun q2 => ?_) (fun q2 => ?_)
  · rw [bi_z] at q2
    refine ze_iconst dX6_chain_31 ?_
    exact ze_ireturn rfl dX6_chain_32 ⟨_, rfl, Or.inl ⟨by omega, rfl, rfl⟩⟩ rfl rfl
  · rw [bi_n] at q2
    refine ze_iload_n dX6_chain_10 rfl ?_
    refine ze_iconst dX6_chain_11 ?_
    refine ze_bipush dX6_chain_12 (by decide) ?_
    refine ze_callS (As := [ze_i (k), ze_i (1), ze_i (6)]) (rest := []) dX6_chain_14 (C6_isWithin (v := k) (a := 1) (b := 6) (by omega) (by omega) (by omega)) mo6_isWithin ml_X6_66 st_6_isWithin rfl rfl rfl ⟨Nat.zero_le _, Nat.zero_le _⟩ rfl (Nat.le_of_ble_eq_true rfl) ?_
    rintro _ w ⟨r3, rfl, rfl, rfl⟩
    change ze_V G l (ze_rm 2 4 126) M6_chain _ 17 [(0, .ref X), (1, ze_i (n)), (2, ze_i (k)), (3, ze_i (t))] [ze_i (bi (1 ≤ k ∧ k ≤ 6))] w 0 0
    refine ze_if_eq 31 dX6_chain_17 (by decide) (bi_rng _) (fun q4 => ?_) (fun q4 => ?_)
    · rw [bi_z] at q4
      refine ze_iconst dX6_chain_31 ?_
      exact ze_ireturn rfl dX6_chain_32 ⟨_, rfl, Or.inl ⟨by omega, rfl, rfl⟩⟩ rfl rfl
    · rw [bi_n] at q4
      refine ze_iload_n dX6_chain_20 rfl ?_
      refine ze_iconst dX6_chain_21 ?_
      refine ze_sipush dX6_chain_22 (by decide) ?_
      refine ze_callS (As := [ze_i (t), ze_i (1), ze_i (1000)]) (rest := []) dX6_chain_25 (C6_isWithin (v := t) (a := 1) (b := 1000) (by omega) (by omega) (by omega)) mo6_isWithin ml_X6_66 st_6_isWithin rfl rfl rfl ⟨Nat.zero_le _, Nat.zero_le _⟩ rfl (Nat.le_of_ble_eq_true rfl) ?_
      rintro _ w ⟨r5, rfl, rfl, rfl⟩
      change ze_V G l (ze_rm 2 4 126) M6_chain _ 28 [(0, .ref X), (1, ze_i (n)), (2, ze_i (k)), (3, ze_i (t))] [ze_i (bi (1 ≤ t ∧ t ≤ 1000))] w 0 0
      refine ze_if_ne 33 dX6_chain_28 (by decide) (bi_rng _) (fun q6 => ?_) (fun q6 => ?_)
      · rw [bi_n] at q6
        refine ze_aload_n dX6_chain_33 rfl ?_
        refine ze_getf dX6_chain_34 fl_X6_15 (hp_o hH) rfl ?_
        refine ze_bipush dX6_chain_37 (by decide) ?_
        refine ze_icmp_lt 45 dX6_chain_39 (by decide) (by omega) (by omega) (fun q7 => ?_) (fun q7 => ?_)
        · obtain ⟨nn, rfl⟩ := Int.eq_ofNat_of_zero_le (show 0 ≤ n from (by omega))
          change ze_V G l (ze_rm 2 4 126) M6_chain _ 45 [(0, .ref X), (1, ze_i ((nn : Nat))), (2, ze_i (k)), (3, ze_i (t))] [] w 0 0
          obtain ⟨kk, rfl⟩ := Int.eq_ofNat_of_zero_le (show 0 ≤ k from (by omega))
          change ze_V G l (ze_rm 2 4 126) M6_chain _ 45 [(0, .ref X), (1, ze_i ((nn : Nat))), (2, ze_i ((kk : Nat))), (3, ze_i (t))] [] w 0 0
          obtain ⟨tt, rfl⟩ := Int.eq_ofNat_of_zero_le (show 0 ≤ t from (by omega))
          change ze_V G l (ze_rm 2 4 126) M6_chain _ 45 [(0, .ref X), (1, ze_i ((nn : Nat))), (2, ze_i ((kk : Nat))), (3, ze_i ((tt : Nat)))] [] w 0 0
          refine ze_aload_n dX6_chain_45 rfl ?_
          refine ze_getf dX6_chain_46 fl_X6_11 (hp_o hH) rfl ?_
          refine ze_aload_n dX6_chain_49 rfl ?_
          refine ze_getf dX6_chain_50 fl_X6_15 (hp_o hH) rfl ?_
          refine ze_nX0 dX6_chain_53 cl_X6_9 (by decide) (by decide) (fun w2 z2 c2 o2 => ?_)
          obtain ⟨p, hp⟩ : ∃ p, p = w.1 := ⟨_, rfl⟩
          rw [← hp] at z2 c2 o2 hlw ⊢
          refine ze_dup dX6_chain_56 rfl ?_
          refine ze_iload_n dX6_chain_57 rfl ?_
          refine ze_iload_n dX6_chain_58 rfl ?_
          refine ze_iload_n dX6_chain_59 rfl ?_
          refine ze_callI (As := [ze_i ((nn : Nat)), ze_i ((kk : Nat)), ze_i ((tt : Nat))]) (rest := [.ref p, ze_i ((C : Nat)), .ref (X + 1)]) dX6_chain_60 (C0_init (n := nn) (k := kk) (t := tt) c2 z2 (by omega) (by omega) (by omega)) mo0_init rfl rfl ml_X6_70 in_0_init rfl rfl rfl (by decide) rfl (Nat.le_of_ble_eq_true rfl) ?_
          rintro _ w3 ⟨rfl, z3, c3, c31, c32, c33, o3⟩
          have e3 : ∀ u, u < p → w3.2 u = w.2 u := fun u hu => (o3 u (by omega)).trans (o2 u (by omega))
          refine ze_aastW (j := C) (f' := va_up cf C (some p)) (r := (RX0, TX0, 6)) (ci := 0) dX6_chain_63 ((e3 (X + 1) (by omega)).trans (hp_r hH)) rfl rfl c3 rfl (by omega) (by omega) rfl (fun w4 z4 c4 o4 => ?_)
          have cX4 := (o4 X (by omega)).trans ((e3 X (by omega)).trans (hp_o hH))
          refine ze_aload_n dX6_chain_64 rfl ?_
          refine ze_dup dX6_chain_65 rfl ?_
          refine ze_getf dX6_chain_66 fl_X6_15 cX4 rfl ?_
          refine ze_iconst dX6_chain_69 ?_
          refine ze_iadd dX6_chain_70 ?_
          refine ze_ti (b := ((C + 1 : Nat))) (by omega) ?_
          refine ze_putfW (fs' := hfs X (C + 1) F RK) dX6_chain_71 fl_X6_15 (Or.inl rfl) cX4 rfl rfl (Nat.le_of_ble_eq_true rfl) rfl (fun w5 z5 c5 o5 => ?_)
          refine ze_aload_n dX6_chain_74 rfl ?_
          refine ze_getf dX6_chain_75 fl_X6_15 c5 rfl ?_
          refine ze_iconst dX6_chain_78 ?_
          refine ze_isub dX6_chain_79 ?_
          refine ze_ti (b := (C : Nat)) (by omega) ?_
          have fr : ∀ u, (u ≠ X ∧ u ≠ X + 1 ∧ u < p) → w5.2 u = w.2 u := fun u hu => (o5 u (by omega)).trans ((o4 u (by omega)).trans (e3 u (by omega)))
          have f3 : ∀ u, p ≤ u → w5.2 u = w3.2 u := fun u hu => (o5 u (by omega)).trans (o4 u (by omega))
          have hz5 : w5.1 = p + 4 := z5.trans (z4.trans z3)
          have hsz : w.1 ≤ w5.1 := by rw [hz5]; omega
          refine ze_ireturn rfl dX6_chain_80 ⟨_, rfl, Or.inr (Or.inr ⟨by omega, by omega, rfl, ⟨hsz, fun u hu => fr u (by omega)⟩, va_up cf C (some p), va_up pc C p, fun ar' hch => ?_⟩)⟩ rfl rfl
          obtain ⟨a1, a2, a3, a4, a5, a6, a7⟩ := hch
          obtain ⟨hX, h1, hrow, hwh, hsw, ⟨hlf, hrt⟩, htl, hfd, hcs, hor, hrk⟩ := id hH
          have en : cn ar' C = nn := by unfold cn; rw [a1, va_up_self, Int.toNat_natCast]
          have ek : ck ar' C = kk := by unfold ck; rw [a2, va_up_self, Int.toNat_natCast]
          have et : ct ar' C = tt := by unfold ct; rw [a3, va_up_self, Int.toNat_natCast]
          have b4 : ∀ s, s < 8 → ar' 4 (C * 8 + s) = 0 := fun s hs => by rw [a4, if_pos (by omega)]
          have b5 : ∀ s v, s < 8 → v < 8 → ar' 5 ((C * 8 + s) * 8 + v) = 0 := fun s v hs hv => by rw [a5, if_pos (by omega)]
          have b6 : ∀ s v, s < 8 → v < 6 → ar' 6 ((C * 8 + s) * 6 + v) = 0 := fun s v hs hv => by rw [a6, if_pos (by omega)]
          have hold : ∀ c, c < C → ∀ q, chr G w ar c q → chr G w ar' c q := fun c hc q h => chr_ar h (by rw [a1, va_up_ne _ _ (by omega)]) (by rw [a2, va_up_ne _ _ (by omega)]) (by rw [a3, va_up_ne _ _ (by omega)]) (fun s hs => by rw [a4, if_neg (by omega)]) (fun s v hs hv => by rw [a5, if_neg (by omega)]) (fun s v hs hv => by rw [a6, if_neg (by omega)])
          have hnew : chr G w5 ar' C p := by
            refine ⟨⟨by rw [a1, va_up_self]; omega, by rw [a2, va_up_self]; omega, by rw [a3, va_up_self]; omega, fun s hs => by rw [b4 s hs, a3, va_up_self]; omega, fun s v hs hv => by rw [b5 s v hs hv, a3, va_up_self]; omega, fun s v hs hv => by rw [b6 s v hs hv, a3, va_up_self]; omega⟩, by rw [en, ek, et]; exact (f3 _ (by omega)).trans c3, fun _ => 0, fun _ => 0, fun _ => 0, by rw [en]; exact (f3 _ (by omega)).trans c31, by rw [en]; exact (f3 _ (by omega)).trans c32, by rw [en, ek]; exact (f3 _ (by omega)).trans c33, fun s hs => ?_, fun s v hs hv => ?_, fun s v hs hv => ?_⟩
            · unfold cb; rw [b4 s (by omega)]; rfl
            · unfold cg; rw [b5 s v (by omega) (by omega)]; rfl
            · unfold cw; rw [b6 s v (by omega) (by omega)]; rfl
          refine ⟨c5, (o5 (X + 1) (by omega)).trans c4, srw_ar (srw_sm hrow (fun u a1 a2 => fr u (by omega))) (fun i _ => by rw [a7 7 (by decide)]), whz_sm hwh (fr _ (by omega)) (fr _ (by omega)), swp_sm hsw (fun u a1 a2 => fr u (by omega)), ⟨hlf.elim (fun v q => ⟨v, whz_sm q (fr _ (by omega)) (fr _ (by omega))⟩), hrt.elim (fun v q => ⟨v, whz_sm q (fr _ (by omega)) (fr _ (by omega))⟩)⟩, tlp_sm htl (fun u a1 a2 => fr u (by omega)), hfd.elim (fun ff q => ⟨ff, (fr _ (by omega)).trans q.1, fun i hi => (q.2 i hi).trans (by rw [a7 17 (by decide)])⟩), fun c hc => ?_, fun c d hcd hd => ?_, fun R hR => ⟨rkp_sm (hrk R hR).1 (fun u g1 g2 => fr u (by have := (hrk R hR).2; omega)), (hrk R hR).2.1, Nat.le_trans (hrk R hR).2.2.1 hsz, fun c hc => ?_⟩⟩
          · by_cases e : c = C
            · rw [e, va_up_self, va_up_self]
              exact ⟨rfl, hnew, hlw, by omega⟩
            · rw [va_up_ne _ _ e, va_up_ne _ _ e]
              have q := hcs c (by omega)
              exact ⟨q.1, chr_sm (hold c (by omega) _ q.2.1) (fun u g1 g2 => fr u (by have := q.2.2; omega)), q.2.2.1, Nat.le_trans q.2.2.2 hsz⟩
          · by_cases e : d = C
            · rw [e, va_up_self, va_up_ne _ _ (by omega)]
              have q := hcs c (by omega)
              omega
            · rw [va_up_ne _ _ e, va_up_ne _ _ (by omega)]
              exact hor c d hcd (by omega)
          · by_cases e : c = C
            · rw [e, va_up_self]
              have q := (hrk R hR).2.2.1
              exact Or.inr (by omega)
            · rw [va_up_ne _ _ e]
              exact (hrk R hR).2.2.2 c (by omega)
        · refine ze_bipush dX6_chain_42 (by decide) ?_
          exact ze_ireturn rfl dX6_chain_44 ⟨_, rfl, Or.inr (Or.inl ⟨by omega, by omega, rfl, rfl⟩)⟩ rfl rfl
      · rw [bi_z] at q6
        refine ze_iconst dX6_chain_31 ?_
        exact ze_ireturn rfl dX6_chain_32 ⟨_, rfl, Or.inl ⟨by omega, rfl, rfl⟩⟩ rfl rfl
theorem C6_init {G : ze_G} {l : Launch} {w : ze_W} {X : Nat} (hb : w.2 X = some (ze_ob 6 [.null, ze_i 0, .null, .null, .null, .null, .null, .null, .null, .null, ze_i 0])) (hw : w.1 = X + 1) : ze_C G l 4 79 2773 M6_init [.ref X] w (ze_qv (fun w' => w'.1 = X + 80 ∧ (∀ u, u < X → w'.2 u = w.2 u) ∧ ∀ lo, hpc G w' X lo 0 0 0 (fun _ _ => 0) 0 (fun _ => none) (fun _ => 0) none)) := by
  have l1 : ∀ j k, j < k → X + j < X + k := fun j k h => by omega
  have n1 : ∀ k, 0 < k → X + k ≠ X := fun k hk => by omega
  have n2 : ∀ k, 0 < k → X ≠ X + k := fun k hk => by omega
  have n3 : ∀ j u, 0 < j → X + j ≤ u → u ≠ X := fun j u h1 h2 => by omega
  have l3 : ∀ j k m u, j + k ≤ m → u < X + j + k → u < X + m := fun j k m u h1 h2 => by omega
  refine ze_enter (by decide +kernel) rfl ?_
  change ze_V G l (ze_rm 4 79 2773) M6_init _ 0 [(0, .ref X)] [] w 0 0
  refine ze_aload_n dX6_init_0 rfl ?_
  refine ze_objI dX6_init_1 ml_X6_3 in_objectInit cd_objectInit rfl rfl ?_
  refine ze_aload_n dX6_init_4 rfl ?_
  refine ze_bipush dX6_init_5 (by decide) ?_
  refine ze_newqW (t := 3) (n := 6) dX6_init_7 cl_X6_9 rfl (Or.inr (Or.inl rfl)) rfl (by decide) (by decide) (by decide) (fun a1 y1 r1 o1 => ?_)
  rw [hw] at y1 r1 o1 ⊢
  refine ze_putfW (fs' := [.ref (X + 1), ze_i 0, .null, .null, .null, .null, .null, .null, .null, .null, ze_i 0]) dX6_init_10 fl_X6_11 (Or.inr ⟨rfl, rfl⟩) ((o1 X (n2 1 (by decide))).trans hb) rfl rfl (Nat.le_of_ble_eq_true rfl) rfl (fun b1 z1 c1 p1 => ?_)
  have e1 : b1.1 = X + 2 := by rw [z1, y1]
  have t1 : ∀ u, u ≠ X → u < X + 1 → b1.2 u = w.2 u := fun u g1 g2 => (p1 u g1).trans (o1 u (Nat.ne_of_lt g2))
  refine ze_aload_n dX6_init_13 rfl ?_
  refine ze_iconst dX6_init_14 ?_
  refine ze_putfW (fs' := [.ref (X + 1), ze_i 0, .null, .null, .null, .null, .null, .null, .null, .null, ze_i 0]) dX6_init_15 fl_X6_15 (Or.inl rfl) c1 rfl rfl (Nat.le_of_ble_eq_true rfl) rfl (fun b2 z2 c2 p2 => ?_)
  have e2 : b2.1 = X + 2 := z2.trans e1
  have t2 : ∀ u, u ≠ X → u < X + 2 → b2.2 u = b1.2 u := fun u g1 g2 => p2 u g1
  refine ze_aload_n dX6_init_18 rfl ?_
  refine ze_nX2 dX6_init_19 cl_X6_19 (by decide) (by decide) (fun m3 y3 r3 o3 => ?_)
  rw [e2] at y3 r3 o3 ⊢
  refine ze_dup dX6_init_22 rfl ?_
  refine ze_callI (As := []) (rest := [.ref (X + 2), .ref X]) dX6_init_23 (C2_init r3 y3) mo2_init rfl rfl ml_X6_21 in_2_init rfl rfl rfl (by decide) rfl (Nat.le_of_ble_eq_true rfl) ?_
  rintro _ a3 ⟨rfl, x3, h3, q3⟩
  refine ze_putfW (fs' := [.ref (X + 1), ze_i 0, .ref (X + 2), .null, .null, .null, .null, .null, .null, .null, ze_i 0]) dX6_init_26 fl_X6_22 (Or.inr ⟨rfl, rfl⟩) (((q3 X (Nat.ne_of_lt (show X < X + 2 from l1 0 2 (by decide))) (Nat.ne_of_lt (Nat.lt_succ_of_lt (show X < X + 2 from l1 0 2 (by decide)))))).trans ((o3 X (n2 2 (by decide))).trans c2)) rfl rfl (Nat.le_of_ble_eq_true rfl) rfl (fun b3 z3 c3 p3 => ?_)
  have e3 : b3.1 = X + 4 := z3.trans x3
  have t3 : ∀ u, u ≠ X → u < X + 2 → b3.2 u = b2.2 u := fun u g1 g2 => (p3 u g1).trans (((q3 u (Nat.ne_of_lt g2) (Nat.ne_of_lt (Nat.lt_succ_of_lt g2)))).trans (o3 u (Nat.ne_of_lt g2)))
  refine ze_aload_n dX6_init_29 rfl ?_
  refine ze_nX5 dX6_init_30 cl_X6_26 (by decide) (by decide) (fun m4 y4 r4 o4 => ?_)
  rw [e3] at y4 r4 o4 ⊢
  refine ze_dup dX6_init_33 rfl ?_
  refine ze_bipush dX6_init_34 (by decide) ?_
  refine ze_ti (b := ((42 : Nat) : Nat)) rfl ?_
  refine ze_callI (As := [ze_i ((42 : Nat) : Nat)]) (rest := [.ref (X + 4), .ref X]) dX6_init_36 (C5_init (n := 42) r4 y4 (by decide)) mo5_init rfl rfl ml_X6_28 in_5_init rfl rfl rfl (by decide) rfl (Nat.le_of_ble_eq_true rfl) ?_
  rintro _ a4 ⟨rfl, x4, h4, q4⟩
  refine ze_putfW (fs' := [.ref (X + 1), ze_i 0, .ref (X + 2), .ref (X + 4), .null, .null, .null, .null, .null, .null, ze_i 0]) dX6_init_39 fl_X6_31 (Or.inr ⟨rfl, rfl⟩) (((q4 X (Nat.ne_of_lt (show X < X + 4 from l1 0 4 (by decide))) (Nat.ne_of_lt (Nat.lt_succ_of_lt (show X < X + 4 from l1 0 4 (by decide)))))).trans ((o4 X (n2 4 (by decide))).trans c3)) rfl rfl (Nat.le_of_ble_eq_true rfl) rfl (fun b4 z4 c4 p4 => ?_)
  have e4 : b4.1 = X + 6 := z4.trans x4
  have t4 : ∀ u, u ≠ X → u < X + 4 → b4.2 u = b3.2 u := fun u g1 g2 => (p4 u g1).trans (((q4 u (Nat.ne_of_lt g2) (Nat.ne_of_lt (Nat.lt_succ_of_lt g2)))).trans (o4 u (Nat.ne_of_lt g2)))
  refine ze_aload_n dX6_init_42 rfl ?_
  refine ze_nX3 dX6_init_43 cl_X6_35 (by decide) (by decide) (fun m5 y5 r5 o5 => ?_)
  rw [e4] at y5 r5 o5 ⊢
  refine ze_dup dX6_init_46 rfl ?_
  refine ze_callI (As := []) (rest := [.ref (X + 6), .ref X]) dX6_init_47 (C3_init r5 y5) mo3_init rfl rfl ml_X6_37 in_3_init rfl rfl rfl (by decide) rfl (Nat.le_of_ble_eq_true rfl) ?_
  rintro _ a5 ⟨rfl, x5, h5, q5⟩
  refine ze_putfW (fs' := [.ref (X + 1), ze_i 0, .ref (X + 2), .ref (X + 4), .ref (X + 6), .null, .null, .null, .null, .null, ze_i 0]) dX6_init_50 fl_X6_38 (Or.inr ⟨rfl, rfl⟩) (((q5 X (show X < X + 6 from l1 0 6 (by decide)))).trans ((o5 X (n2 6 (by decide))).trans c4)) rfl rfl (Nat.le_of_ble_eq_true rfl) rfl (fun b5 z5 c5 p5 => ?_)
  have e5 : b5.1 = X + 63 := z5.trans x5
  have t5 : ∀ u, u ≠ X → u < X + 6 → b5.2 u = b4.2 u := fun u g1 g2 => (p5 u g1).trans (((q5 u g2)).trans (o5 u (Nat.ne_of_lt g2)))
  refine ze_aload_n dX6_init_53 rfl ?_
  refine ze_nX5 dX6_init_54 cl_X6_26 (by decide) (by decide) (fun m6 y6 r6 o6 => ?_)
  rw [e5] at y6 r6 o6 ⊢
  refine ze_dup dX6_init_57 rfl ?_
  refine ze_bipush dX6_init_58 (by decide) ?_
  refine ze_ti (b := ((84 : Nat) : Nat)) rfl ?_
  refine ze_callI (As := [ze_i ((84 : Nat) : Nat)]) (rest := [.ref (X + 63), .ref X]) dX6_init_60 (C5_init (n := 84) r6 y6 (by decide)) mo5_init rfl rfl ml_X6_28 in_5_init rfl rfl rfl (by decide) rfl (Nat.le_of_ble_eq_true rfl) ?_
  rintro _ a6 ⟨rfl, x6, h6, q6⟩
  refine ze_putfW (fs' := [.ref (X + 1), ze_i 0, .ref (X + 2), .ref (X + 4), .ref (X + 6), .ref (X + 63), .null, .null, .null, .null, ze_i 0]) dX6_init_63 fl_X6_42 (Or.inr ⟨rfl, rfl⟩) (((q6 X (Nat.ne_of_lt (show X < X + 63 from l1 0 63 (by decide))) (Nat.ne_of_lt (Nat.lt_succ_of_lt (show X < X + 63 from l1 0 63 (by decide)))))).trans ((o6 X (n2 63 (by decide))).trans c5)) rfl rfl (Nat.le_of_ble_eq_true rfl) rfl (fun b6 z6 c6 p6 => ?_)
  have e6 : b6.1 = X + 65 := z6.trans x6
  have t6 : ∀ u, u ≠ X → u < X + 63 → b6.2 u = b5.2 u := fun u g1 g2 => (p6 u g1).trans (((q6 u (Nat.ne_of_lt g2) (Nat.ne_of_lt (Nat.lt_succ_of_lt g2)))).trans (o6 u (Nat.ne_of_lt g2)))
  refine ze_aload_n dX6_init_66 rfl ?_
  refine ze_nX5 dX6_init_67 cl_X6_26 (by decide) (by decide) (fun m7 y7 r7 o7 => ?_)
  rw [e6] at y7 r7 o7 ⊢
  refine ze_dup dX6_init_70 rfl ?_
  refine ze_bipush dX6_init_71 (by decide) ?_
  refine ze_ti (b := ((84 : Nat) : Nat)) rfl ?_
  refine ze_callI (As := [ze_i ((84 : Nat) : Nat)]) (rest := [.ref (X + 65), .ref X]) dX6_init_73 (C5_init (n := 84) r7 y7 (by decide)) mo5_init rfl rfl ml_X6_28 in_5_init rfl rfl rfl (by decide) rfl (Nat.le_of_ble_eq_true rfl) ?_
  rintro _ a7 ⟨rfl, x7, h7, q7⟩
  refine ze_putfW (fs' := [.ref (X + 1), ze_i 0, .ref (X + 2), .ref (X + 4), .ref (X + 6), .ref (X + 63), .ref (X + 65), .null, .null, .null, ze_i 0]) dX6_init_76 fl_X6_45 (Or.inr ⟨rfl, rfl⟩) (((q7 X (Nat.ne_of_lt (show X < X + 65 from l1 0 65 (by decide))) (Nat.ne_of_lt (Nat.lt_succ_of_lt (show X < X + 65 from l1 0 65 (by decide)))))).trans ((o7 X (n2 65 (by decide))).trans c6)) rfl rfl (Nat.le_of_ble_eq_true rfl) rfl (fun b7 z7 c7 p7 => ?_)
  have e7 : b7.1 = X + 67 := z7.trans x7
  have t7 : ∀ u, u ≠ X → u < X + 65 → b7.2 u = b6.2 u := fun u g1 g2 => (p7 u g1).trans (((q7 u (Nat.ne_of_lt g2) (Nat.ne_of_lt (Nat.lt_succ_of_lt g2)))).trans (o7 u (Nat.ne_of_lt g2)))
  refine ze_aload_n dX6_init_79 rfl ?_
  refine ze_nX4 dX6_init_80 cl_X6_48 (by decide) (by decide) (fun m8 y8 r8 o8 => ?_)
  rw [e7] at y8 r8 o8 ⊢
  refine ze_dup dX6_init_83 rfl ?_
  refine ze_callI (As := []) (rest := [.ref (X + 67), .ref X]) dX6_init_84 (C4_init r8 y8) mo4_init rfl rfl ml_X6_50 in_4_init rfl rfl rfl (by decide) rfl (Nat.le_of_ble_eq_true rfl) ?_
  rintro _ a8 ⟨rfl, x8, h8, q8⟩
  refine ze_putfW (fs' := [.ref (X + 1), ze_i 0, .ref (X + 2), .ref (X + 4), .ref (X + 6), .ref (X + 63), .ref (X + 65), .ref (X + 67), .null, .null, ze_i 0]) dX6_init_87 fl_X6_51 (Or.inr ⟨rfl, rfl⟩) (((q8 X (show X < X + 67 from l1 0 67 (by decide)))).trans ((o8 X (n2 67 (by decide))).trans c7)) rfl rfl (Nat.le_of_ble_eq_true rfl) rfl (fun b8 z8 c8 p8 => ?_)
  have e8 : b8.1 = X + 79 := z8.trans x8
  have t8 : ∀ u, u ≠ X → u < X + 67 → b8.2 u = b7.2 u := fun u g1 g2 => (p8 u g1).trans (((q8 u g2)).trans (o8 u (Nat.ne_of_lt g2)))
  refine ze_aload_n dX6_init_90 rfl ?_
  refine ze_null dX6_init_91 ?_
  refine ze_putfW (fs' := [.ref (X + 1), ze_i 0, .ref (X + 2), .ref (X + 4), .ref (X + 6), .ref (X + 63), .ref (X + 65), .ref (X + 67), .null, .null, ze_i 0]) dX6_init_92 fl_X6_55 (Or.inl rfl) c8 rfl rfl (Nat.le_of_ble_eq_true rfl) rfl (fun b9 z9 c9 p9 => ?_)
  have e9 : b9.1 = X + 79 := z9.trans e8
  have t9 : ∀ u, u ≠ X → u < X + 79 → b9.2 u = b8.2 u := fun u g1 g2 => p9 u g1
  refine ze_aload_n dX6_init_95 rfl ?_
  refine ze_bipush dX6_init_96 (by decide) ?_
  refine ze_newiW (n := 60) dX6_init_98 rfl (by decide) (by decide) (by decide) (fun a10 y10 r10 o10 => ?_)
  rw [e9] at y10 r10 o10 ⊢
  refine ze_putfW (fs' := [.ref (X + 1), ze_i 0, .ref (X + 2), .ref (X + 4), .ref (X + 6), .ref (X + 63), .ref (X + 65), .ref (X + 67), .null, .ref (X + 79), ze_i 0]) dX6_init_100 fl_X6_59 (Or.inr ⟨rfl, rfl⟩) ((o10 X (n2 79 (by decide))).trans c9) rfl rfl (Nat.le_of_ble_eq_true rfl) rfl (fun b10 z10 c10 p10 => ?_)
  have e10 : b10.1 = X + 80 := by rw [z10, y10]
  have t10 : ∀ u, u ≠ X → u < X + 79 → b10.2 u = b9.2 u := fun u g1 g2 => (p10 u g1).trans (o10 u (Nat.ne_of_lt g2))
  refine ze_aload_n dX6_init_103 rfl ?_
  refine ze_iconst dX6_init_104 ?_
  refine ze_putfW (fs' := [.ref (X + 1), ze_i 0, .ref (X + 2), .ref (X + 4), .ref (X + 6), .ref (X + 63), .ref (X + 65), .ref (X + 67), .null, .ref (X + 79), ze_i 0]) dX6_init_105 fl_X6_63 (Or.inl rfl) c10 rfl rfl (Nat.le_of_ble_eq_true rfl) rfl (fun b11 z11 c11 p11 => ?_)
  have e11 : b11.1 = X + 80 := z11.trans e10
  have s10 : ∀ u, u ≠ X → b11.2 u = b10.2 u := p11
  have s9 : ∀ u, u ≠ X → u < X + 79 → b11.2 u = b9.2 u := fun u g1 g2 => (s10 u g1).trans (t10 u g1 g2)
  have s8 : ∀ u, u ≠ X → u < X + 79 → b11.2 u = b8.2 u := fun u g1 g2 => (s9 u g1 (Nat.lt_of_lt_of_le g2 (Nat.add_le_add_left (by decide) X))).trans (t9 u g1 g2)
  have s7 : ∀ u, u ≠ X → u < X + 67 → b11.2 u = b7.2 u := fun u g1 g2 => (s8 u g1 (Nat.lt_of_lt_of_le g2 (Nat.add_le_add_left (by decide) X))).trans (t8 u g1 g2)
  have s6 : ∀ u, u ≠ X → u < X + 65 → b11.2 u = b6.2 u := fun u g1 g2 => (s7 u g1 (Nat.lt_of_lt_of_le g2 (Nat.add_le_add_left (by decide) X))).trans (t7 u g1 g2)
  have s5 : ∀ u, u ≠ X → u < X + 63 → b11.2 u = b5.2 u := fun u g1 g2 => (s6 u g1 (Nat.lt_of_lt_of_le g2 (Nat.add_le_add_left (by decide) X))).trans (t6 u g1 g2)
  have s4 : ∀ u, u ≠ X → u < X + 6 → b11.2 u = b4.2 u := fun u g1 g2 => (s5 u g1 (Nat.lt_of_lt_of_le g2 (Nat.add_le_add_left (by decide) X))).trans (t5 u g1 g2)
  have s3 : ∀ u, u ≠ X → u < X + 4 → b11.2 u = b3.2 u := fun u g1 g2 => (s4 u g1 (Nat.lt_of_lt_of_le g2 (Nat.add_le_add_left (by decide) X))).trans (t4 u g1 g2)
  have s2 : ∀ u, u ≠ X → u < X + 2 → b11.2 u = b2.2 u := fun u g1 g2 => (s3 u g1 (Nat.lt_of_lt_of_le g2 (Nat.add_le_add_left (by decide) X))).trans (t3 u g1 g2)
  have s1 : ∀ u, u ≠ X → u < X + 2 → b11.2 u = b1.2 u := fun u g1 g2 => (s2 u g1 (Nat.lt_of_lt_of_le g2 (Nat.add_le_add_left (by decide) X))).trans (t2 u g1 g2)
  have s0 : ∀ u, u ≠ X → u < X + 1 → b11.2 u = w.2 u := fun u g1 g2 => (s1 u g1 (Nat.lt_of_lt_of_le g2 (Nat.add_le_add_left (by decide) X))).trans (t1 u g1 g2)
  refine ze_cs (cu' := 79) (su' := 2773) rfl rfl ?_
  refine ze_return rfl dX6_init_108 ⟨rfl, e11, fun u hu => s0 u (Nat.ne_of_lt hu) (Nat.lt_succ_of_lt hu), fun lo => ⟨c11, ?_, ?_, ?_, ?_, ⟨⟨0, ?_⟩, ⟨0, ?_⟩⟩, ?_, ⟨fun _ => 0, ?_, fun i hi => absurd hi (Nat.not_lt_zero _)⟩, fun c hc => absurd hc (Nat.not_lt_zero _), fun c d _ hd => absurd hd (Nat.not_lt_zero _), fun R hR => nomatch hR⟩⟩ rfl rfl
  · exact (s1 _ (n1 1 (by decide)) (l1 1 2 (by decide))).trans ((p1 _ (n1 1 (by decide))).trans r1)
  · exact srw_sm (h3 _) (fun u g1 g2 => (s3 u (n3 2 u (by decide) g1) (l3 2 2 4 u (by decide) g2)).trans (p3 u (n3 2 u (by decide) g1)))
  · exact whz_sm h4 ((s4 _ (n1 4 (by decide)) (l1 4 6 (by decide))).trans (p4 _ (n1 4 (by decide)))) ((s4 _ (n1 5 (by decide)) (l1 5 6 (by decide))).trans (p4 _ (n1 5 (by decide))))
  · exact swp_sm h5 (fun u g1 g2 => (s5 u (n3 6 u (by decide) g1) (l3 6 57 63 u (by decide) g2)).trans (p5 u (n3 6 u (by decide) g1)))
  · exact whz_sm h6 ((s6 _ (n1 63 (by decide)) (l1 63 65 (by decide))).trans (p6 _ (n1 63 (by decide)))) ((s6 _ (n1 64 (by decide)) (l1 64 65 (by decide))).trans (p6 _ (n1 64 (by decide))))
  · exact whz_sm h7 ((s7 _ (n1 65 (by decide)) (l1 65 67 (by decide))).trans (p7 _ (n1 65 (by decide)))) ((s7 _ (n1 66 (by decide)) (l1 66 67 (by decide))).trans (p7 _ (n1 66 (by decide))))
  · exact tlp_sm h8 (fun u g1 g2 => (s8 u (n3 67 u (by decide) g1) (l3 67 12 79 u (by decide) g2)).trans (p8 u (n3 67 u (by decide) g1)))
  · exact (p11 _ (n1 79 (by decide))).trans ((p10 _ (n1 79 (by decide))).trans r10)
