/-! Sweep: what the bench calls -/
def swp (G : ze_G) (w : ze_W) (S : Nat) : Prop := ∃ (x y z : Nat) (g : Nat → Nat) (v : Nat → Nat → Nat), sst G w w S x y z g v
/-- nothing but the sweep at S and the Whole at T has changed -/
def sfr (w w' : ze_W) (S T : Nat) : Prop := w'.1 = w.1 ∧ ∀ u, (u < S ∨ S + 57 ≤ u) → u ≠ T → u ≠ T + 1 → w'.2 u = w.2 u
theorem ss_out {G : ze_G} {w0 w w' : ze_W} {S T x y z : Nat} {g : Nat → Nat} {v : Nat → Nat → Nat} (h : sst G w0 w S x y z g v) (fr : bfr w w' T) (hT : T + 2 ≤ S ∨ S + 57 ≤ T) : swp G w' S ∧ sfr w0 w' S T := by
  obtain ⟨⟨h1, h2⟩, h3, h4, h5, h6, h7⟩ := h
  obtain ⟨z1, o1⟩ := fr
  refine ⟨⟨x, y, z, g, v, ⟨rfl, fun _ _ => rfl⟩, h3, (o1 S (by omega) (by omega)).trans h4, fun k hk => (o1 _ (by omega) (by omega)).trans (h5 k hk), (o1 _ (by omega) (by omega)).trans h6, fun k i hk => ?_⟩, z1.trans h1, fun u hu hu1 hu2 => (o1 u hu1 hu2).trans (h2 u hu)⟩
  have hk2 := hk
  unfold sok at hk2
  exact whz_sm (h7 k i hk) (o1 _ (by omega) (by omega)) (o1 _ (by omega) (by omega))
theorem e_lt {n a : Nat} (h : n ≤ 1000000 ^ a) : n < 1000000000 ^ (2 * a / 3 + 1) := by
  refine Nat.lt_of_le_of_lt h ?_
  rw [show (1000000 : Nat) = 10 ^ 6 from rfl, show (1000000000 : Nat) = 10 ^ 9 from rfl, ← Nat.pow_mul, ← Nat.pow_mul]
  exact Nat.pow_lt_pow_right (by decide) (by omega)
theorem p_le {n L : Nat} (h : n < 1000000000 ^ 41) (hL : 41 ≤ L) : n < 1000000000 ^ L := Nat.lt_of_lt_of_le h (Nat.pow_le_pow_right (by decide) hL)
theorem C3_putChance {G : ze_G} {l : Launch} {w : ze_W} {S T L v0 : Nat} {ar : Nat → Nat → Int} {c p P q : Nat} (hW : swp G w S) (hT : whz G w T L v0) (hL : 42 ≤ L) (hTo : T + 2 ≤ S ∨ S + 57 ≤ T) (hch : chr G w ar c p) (hrw : srw G w ar P q) (hpo : p + 4 ≤ S ∨ S + 57 ≤ p) (hqo : q + 2 ≤ S ∨ S + 57 ≤ q) (hR : rok ar c P) (hP0 : 0 < P) : ze_C G l 4 0 0 M3_putChance [.ref S, .ref T, .ref p, .ref q] w (ze_qv (fun w' => swp G w' S ∧ sfr w w' S T ∧ whz G w' T L (chn ar c P))) := by
  have hC : ∀ {w1 : ze_W} {x1 y1 z1 : Nat} {g1 : Nat → Nat} {v1 : Nat → Nat → Nat}, sst G w w1 S x1 y1 z1 g1 v1 → chr G w1 ar c p := fun h => chr_sm hch (fun u h1 h2 => h.1.2 u (by omega))
  have hRw : ∀ {w1 : ze_W} {x1 y1 z1 : Nat} {g1 : Nat → Nat} {v1 : Nat → Nat → Nat}, sst G w w1 S x1 y1 z1 g1 v1 → srw G w1 ar P q := fun h => srw_sm hrw (fun u h1 h2 => h.1.2 u (by omega))
  obtain ⟨en, n1, n8⟩ := mch_n hR.1
  have hP := hR.2.2.1
  obtain ⟨x, y, z, g, v, hS⟩ := hW
  have hpm := ss_p hS
  have hTw : ∀ {w1 : ze_W} {x1 y1 z1 : Nat} {g1 : Nat → Nat} {v1 : Nat → Nat → Nat}, sst G w w1 S x1 y1 z1 g1 v1 → whz G w1 T L v0 := fun h => whz_sm hT (h.1.2 _ (by omega)) (h.1.2 _ (by omega))
  refine ze_enter (by decide +kernel) rfl ?_
  change ze_V G l (ze_rm 4 0 0) M3_putChance _ 0 [(0, .ref S), (1, .ref T), (2, .ref p), (3, .ref q)] [] w 0 0
  refine ze_aload_n dX3_putChance_0 rfl ?_
  refine ze_aload_n dX3_putChance_1 rfl ?_
  refine ze_aload_n dX3_putChance_2 rfl ?_
  refine ze_aload_n dX3_putChance_3 rfl ?_
  refine ze_callV (As := []) (rest := [.ref q, .ref p, .ref S]) dX3_putChance_4 (C2_length (hRw hS)) mo2_length ml_X3_73 in_2_length se_2_length (hRw hS).2.1 rfl rfl rfl rfl rfl ⟨Nat.le_refl _, Nat.le_refl _⟩ rfl (Nat.le_of_ble_eq_true rfl) ?_
  rintro _ w ⟨r1, rfl, rfl, rfl⟩
  change ze_V G l (ze_rm 4 0 0) M3_putChance _ 7 [(0, .ref S), (1, .ref T), (2, .ref p), (3, .ref q)] [ze_i ((P : Nat)), .ref q, .ref p, .ref S] w 0 0
  refine ze_iconst dX3_putChance_7 ?_
  refine ze_isub dX3_putChance_8 ?_
  refine ze_ti (b := ((P - 1 : Nat))) (by omega) ?_
  change ze_V G l (ze_rm 4 0 0) M3_putChance _ 9 [(0, .ref S), (1, .ref T), (2, .ref p), (3, .ref q)] [ze_i (((P - 1 : Nat))), .ref q, .ref p, .ref S] w 0 0
  refine ze_callV (As := [.ref p, .ref q, ze_i (((P - 1 : Nat)))]) (rest := []) dX3_putChance_9 (C3_sweepAhead (i := (P - 1)) hS hch hrw hpo hqo hR (by omega)) mo3_sweepAhead ml_X3_77 in_3_sweepAhead se_3_sweepAhead (ss_o hS) rfl rfl rfl rfl rfl ⟨Nat.le_refl _, Nat.le_refl _⟩ rfl (Nat.le_of_ble_eq_true rfl) ?_
  rintro _ w2 ⟨rfl, x2, z2, g2, v2, hS2, va2, vb2, vc2⟩
  change ze_V G l (ze_rm 4 0 0) M3_putChance _ 12 [(0, .ref S), (1, .ref T), (2, .ref p), (3, .ref q)] [] w2 0 0
  have hpm2 := ss_p hS2
  generalize hQ : (ze_Q G (ze_qv (fun w' => swp G w' S ∧ sfr w w' S T ∧ whz G w' T L (chn ar c P))) 0 0) = Z
  have loop : ∀ (d s : Nat) (g3 : Nat → Nat) (w3 : ze_W), s + d = 8 → sst G w w3 S x2 y z2 g3 v2 → (∀ u, u < s → g3 u = 1) → ze_V G l (ze_rm 4 0 0) M3_putChance Z 15 [(0, .ref S), (1, .ref T), (2, .ref p), (3, .ref q), (4, ze_i ((s : Nat)))] [] w3 0 0 := by
    intro d
    induction d with
    | zero =>
      intro s g3 w3 hs hS3 hg
      rw [← hQ]
      refine ze_iload dX3_putChance_15 rfl ?_
      refine ze_aload_n dX3_putChance_17 rfl ?_
      refine ze_getf dX3_putChance_18 fl_X3_25 (ss_o hS3) rfl ?_
      refine ze_alen dX3_putChance_21 (ss_f hS3) rfl ?_
      refine ze_icmp_ge 39 dX3_putChance_22 (by decide) (by omega) (by omega) (fun q1 => ?_) (fun q1 => ?_)
      · refine ze_aload_n dX3_putChance_39 rfl ?_
        refine ze_aload_n dX3_putChance_40 rfl ?_
        refine ze_getf dX3_putChance_41 fl_X3_13 (ss_o hS3) rfl ?_
        refine ze_aload_n dX3_putChance_44 rfl ?_
        refine ze_getf dX3_putChance_45 fl_X3_25 (ss_o hS3) rfl ?_
        refine ze_aload_n dX3_putChance_48 rfl ?_
        refine ze_getf dX3_putChance_49 fl_X3_41 (hC hS3).2.1 rfl ?_
        have hmx : sm (cn ar c) (fun u => v2 x2 u * g3 u) = chn ar c P := by
          rw [← fb_end hP0]
          apply sm_congr
          intro u hu
          show v2 x2 u * g3 u = _
          rw [va2 u hu, hg u (by omega), Nat.mul_one]
        refine ze_callV (As := [.ref (S + 1 + 17 * x2), .ref (S + 52), ze_i ((cn ar c : Nat))]) (rest := []) dX3_putChance_52 (C5_setMix (Lc := L) (N := 8) (NF := 8) (Lt := 42) (ta := fun i => S + 2 + 17 * x2 + 2 * i) (v := fun u => v2 x2 u) (g := g3) (hTw hS3) (ss_r hS3 (k := x2) (by omega)) (ss_f hS3) n8 ⟨n8, by omega⟩ ⟨n8, by omega⟩ (fun u hu => rfl) (fun u hu => ⟨ss_w hS3 (k := x2) (i := u) (Or.inl ⟨by omega, by omega⟩), by rw [va2 u hu]; exact p_le (w_lt (fk_le hR (by omega) hu) (by omega)) (by omega), by omega, by rw [hg u (by omega)]; decide⟩)) mo5_setMix ml_X3_69 in_5_setMix se_5_setMix (whz_o (hTw hS3)).choose_spec rfl rfl rfl rfl rfl ⟨Nat.le_refl _, Nat.le_refl _⟩ rfl (Nat.le_of_ble_eq_true rfl) ?_
        rintro _ w5 ⟨rfl, fr5, hz5⟩
        obtain ⟨k1, k2⟩ := ss_out hS3 fr5 hTo
        exact ze_return rfl dX3_putChance_55 ⟨rfl, k1, k2, by rw [← hmx]; exact hz5⟩ rfl rfl
      · omega
    | succ d ih =>
      intro s g3 w3 hs hS3 hg
      refine ze_iload dX3_putChance_15 rfl ?_
      refine ze_aload_n dX3_putChance_17 rfl ?_
      refine ze_getf dX3_putChance_18 fl_X3_25 (ss_o hS3) rfl ?_
      refine ze_alen dX3_putChance_21 (ss_f hS3) rfl ?_
      refine ze_icmp_ge 39 dX3_putChance_22 (by decide) (by omega) (by omega) (fun q1 => ?_) (fun q1 => ?_)
      · omega
      · refine ze_aload_n dX3_putChance_25 rfl ?_
        refine ze_getf dX3_putChance_26 fl_X3_25 (ss_o hS3) rfl ?_
        refine ze_iload dX3_putChance_29 rfl ?_
        refine ze_lconst (z := 1) dX3_putChance_31 (by decide) ?_
        refine ze_tl (b := ((1 : Nat) : Nat)) rfl ?_
        refine ze_lastW (j := s) (f' := fun jj => (((va_up g3 s 1) jj : Nat) : Int)) dX3_putChance_32 (ss_f hS3) (by omega) (by omega) (by omega) (up_nc g3 s 1) (fun w2 z2 c2 o2 => ?_)
        have hS2 := ss_wf hS3 z2 c2 o2
        refine ze_iinc (b := ((s + 1 : Nat))) (lv' := [(0, .ref S), (1, .ref T), (2, .ref p), (3, .ref q), (4, ze_i (((s + 1 : Nat))))]) dX3_putChance_33 rfl rfl (by omega) rfl ?_
        refine ze_goto 15 dX3_putChance_36 (by decide) ?_
        exact ih (s + 1) _ _ (by omega) hS2 (fun u hu => by
          by_cases e : u = s
          · rw [e, va_up_self]
          · rw [va_up_ne _ _ e]; exact hg u (by omega))
  refine ze_iconst dX3_putChance_12 ?_
  refine ze_ti (b := ((0 : Nat) : Nat)) rfl ?_
  refine ze_istore (lv' := [(0, .ref S), (1, .ref T), (2, .ref p), (3, .ref q), (4, ze_i (((0 : Nat) : Nat)))]) dX3_putChance_13 rfl rfl ?_
  exact loop 8 0 g2 w2 (by omega) hS2 (fun u hu => absurd hu (Nat.not_lt_zero _))
theorem C3_putAhead {G : ze_G} {l : Launch} {w : ze_W} {S T L v0 : Nat} {ar : Nat → Nat → Int} {c p P q : Nat} {i s : Nat} (hW : swp G w S) (hT : whz G w T L v0) (hL : 42 ≤ L) (hTo : T + 2 ≤ S ∨ S + 57 ≤ T) (hch : chr G w ar c p) (hrw : srw G w ar P q) (hpo : p + 4 ≤ S ∨ S + 57 ≤ p) (hqo : q + 2 ≤ S ∨ S + 57 ≤ q) (hR : rok ar c P) (hi : i < P) (hs : s < cn ar c) : ze_C G l 4 0 0 M3_putAhead [.ref S, .ref T, .ref p, .ref q, ze_i (i : Nat), ze_i (s : Nat)] w (ze_qv (fun w' => swp G w' S ∧ sfr w w' S T ∧ whz G w' T L (fk ar c i s))) := by
  have hC : ∀ {w1 : ze_W} {x1 y1 z1 : Nat} {g1 : Nat → Nat} {v1 : Nat → Nat → Nat}, sst G w w1 S x1 y1 z1 g1 v1 → chr G w1 ar c p := fun h => chr_sm hch (fun u h1 h2 => h.1.2 u (by omega))
  have hRw : ∀ {w1 : ze_W} {x1 y1 z1 : Nat} {g1 : Nat → Nat} {v1 : Nat → Nat → Nat}, sst G w w1 S x1 y1 z1 g1 v1 → srw G w1 ar P q := fun h => srw_sm hrw (fun u h1 h2 => h.1.2 u (by omega))
  obtain ⟨en, n1, n8⟩ := mch_n hR.1
  have hP := hR.2.2.1
  obtain ⟨x, y, z, g, v, hS⟩ := hW
  have hpm := ss_p hS
  have hTw : ∀ {w1 : ze_W} {x1 y1 z1 : Nat} {g1 : Nat → Nat} {v1 : Nat → Nat → Nat}, sst G w w1 S x1 y1 z1 g1 v1 → whz G w1 T L v0 := fun h => whz_sm hT (h.1.2 _ (by omega)) (h.1.2 _ (by omega))
  refine ze_enter (by decide +kernel) rfl ?_
  change ze_V G l (ze_rm 4 0 0) M3_putAhead _ 0 [(0, .ref S), (1, .ref T), (2, .ref p), (3, .ref q), (4, ze_i ((i : Nat))), (5, ze_i ((s : Nat)))] [] w 0 0
  refine ze_aload_n dX3_putAhead_0 rfl ?_
  refine ze_aload_n dX3_putAhead_1 rfl ?_
  refine ze_aload_n dX3_putAhead_2 rfl ?_
  refine ze_iload dX3_putAhead_3 rfl ?_
  refine ze_callV (As := [.ref p, .ref q, ze_i ((i : Nat))]) (rest := []) dX3_putAhead_5 (C3_sweepAhead (i := i) hS hch hrw hpo hqo hR hi) mo3_sweepAhead ml_X3_77 in_3_sweepAhead se_3_sweepAhead (ss_o hS) rfl rfl rfl rfl rfl ⟨Nat.le_refl _, Nat.le_refl _⟩ rfl (Nat.le_of_ble_eq_true rfl) ?_
  rintro _ w2 ⟨rfl, x2, z2, g2, v2, hS2, va2, vb2, vc2⟩
  change ze_V G l (ze_rm 4 0 0) M3_putAhead _ 8 [(0, .ref S), (1, .ref T), (2, .ref p), (3, .ref q), (4, ze_i ((i : Nat))), (5, ze_i ((s : Nat)))] [] w2 0 0
  have hpm2 := ss_p hS2
  refine ze_iload dX3_putAhead_8 rfl ?_
  refine ze_if_lt 34 dX3_putAhead_10 (by decide) (by omega) (fun q1 => ?_) (fun q1 => ?_)
  · omega
  · refine ze_iload dX3_putAhead_13 rfl ?_
    refine ze_aload_n dX3_putAhead_15 rfl ?_
    refine ze_getf dX3_putAhead_16 fl_X3_13 (ss_o hS2) rfl ?_
    refine ze_alen dX3_putAhead_19 (ss_r hS2 (k := x2) (by omega)) rfl ?_
    refine ze_icmp_ge 34 dX3_putAhead_20 (by decide) (by omega) (by omega) (fun q2 => ?_) (fun q2 => ?_)
    · omega
    · refine ze_aload_n dX3_putAhead_23 rfl ?_
      refine ze_aload_n dX3_putAhead_24 rfl ?_
      refine ze_getf dX3_putAhead_25 fl_X3_13 (ss_o hS2) rfl ?_
      refine ze_iload dX3_putAhead_28 rfl ?_
      refine ze_aald (j := s) (b := (S + 2 + 17 * x2 + 2 * s)) dX3_putAhead_30 (ss_r hS2 (k := x2) (by omega)) rfl (by omega) (by omega) (by omega) rfl ?_
      refine ze_callV (As := [.ref (S + 2 + 17 * x2 + 2 * s)]) (rest := []) dX3_putAhead_31 (C5_setTo (hTw hS2) (ss_w hS2 (k := x2) (i := s) (Or.inl ⟨by omega, by omega⟩)) (by omega) (by rw [va2 s hs]; exact p_le (w_lt (fk_le hR hi hs) (by omega)) (by omega))) mo5_setTo ml_X3_81 in_5_setTo se_5_setTo (whz_o (hTw hS2)).choose_spec rfl rfl rfl rfl rfl ⟨Nat.le_refl _, Nat.le_refl _⟩ rfl (Nat.le_of_ble_eq_true rfl) ?_
      rintro _ w5 ⟨rfl, fr5, hz5⟩
      obtain ⟨k1, k2⟩ := ss_out hS2 fr5 hTo
      exact ze_return rfl dX3_putAhead_34 ⟨rfl, k1, k2, by rw [← va2 s hs]; exact hz5⟩ rfl rfl
theorem C3_putBehind {G : ze_G} {l : Launch} {w : ze_W} {S T L v0 : Nat} {ar : Nat → Nat → Int} {c p P q : Nat} {i s : Nat} (hW : swp G w S) (hT : whz G w T L v0) (hL : 42 ≤ L) (hTo : T + 2 ≤ S ∨ S + 57 ≤ T) (hch : chr G w ar c p) (hrw : srw G w ar P q) (hpo : p + 4 ≤ S ∨ S + 57 ≤ p) (hqo : q + 2 ≤ S ∨ S + 57 ≤ q) (hR : rok ar c P) (hi : i < P) (hs : s < cn ar c) : ze_C G l 4 0 0 M3_putBehind [.ref S, .ref T, .ref p, .ref q, ze_i (i : Nat), ze_i (s : Nat)] w (ze_qv (fun w' => swp G w' S ∧ sfr w w' S T ∧ whz G w' T L (bk ar c P (P - 1 - i) s))) := by
  have hC : ∀ {w1 : ze_W} {x1 y1 z1 : Nat} {g1 : Nat → Nat} {v1 : Nat → Nat → Nat}, sst G w w1 S x1 y1 z1 g1 v1 → chr G w1 ar c p := fun h => chr_sm hch (fun u h1 h2 => h.1.2 u (by omega))
  have hRw : ∀ {w1 : ze_W} {x1 y1 z1 : Nat} {g1 : Nat → Nat} {v1 : Nat → Nat → Nat}, sst G w w1 S x1 y1 z1 g1 v1 → srw G w1 ar P q := fun h => srw_sm hrw (fun u h1 h2 => h.1.2 u (by omega))
  obtain ⟨en, n1, n8⟩ := mch_n hR.1
  have hP := hR.2.2.1
  obtain ⟨x, y, z, g, v, hS⟩ := hW
  have hpm := ss_p hS
  have hTw : ∀ {w1 : ze_W} {x1 y1 z1 : Nat} {g1 : Nat → Nat} {v1 : Nat → Nat → Nat}, sst G w w1 S x1 y1 z1 g1 v1 → whz G w1 T L v0 := fun h => whz_sm hT (h.1.2 _ (by omega)) (h.1.2 _ (by omega))
  refine ze_enter (by decide +kernel) rfl ?_
  change ze_V G l (ze_rm 4 0 0) M3_putBehind _ 0 [(0, .ref S), (1, .ref T), (2, .ref p), (3, .ref q), (4, ze_i ((i : Nat))), (5, ze_i ((s : Nat)))] [] w 0 0
  refine ze_aload_n dX3_putBehind_0 rfl ?_
  refine ze_aload_n dX3_putBehind_1 rfl ?_
  refine ze_aload_n dX3_putBehind_2 rfl ?_
  refine ze_iload dX3_putBehind_3 rfl ?_
  refine ze_callV (As := [.ref p, .ref q, ze_i ((i : Nat))]) (rest := []) dX3_putBehind_5 (C3_sweepBehind (i := i) hS hch hrw hpo hqo hR hi) mo3_sweepBehind ml_X3_85 in_3_sweepBehind se_3_sweepBehind (ss_o hS) rfl rfl rfl rfl rfl ⟨Nat.le_refl _, Nat.le_refl _⟩ rfl (Nat.le_of_ble_eq_true rfl) ?_
  rintro _ w2 ⟨rfl, y2, z2, g2, v2, hS2, va2, vb2, vc2⟩
  change ze_V G l (ze_rm 4 0 0) M3_putBehind _ 8 [(0, .ref S), (1, .ref T), (2, .ref p), (3, .ref q), (4, ze_i ((i : Nat))), (5, ze_i ((s : Nat)))] [] w2 0 0
  have hpm2 := ss_p hS2
  refine ze_iload dX3_putBehind_8 rfl ?_
  refine ze_if_lt 34 dX3_putBehind_10 (by decide) (by omega) (fun q1 => ?_) (fun q1 => ?_)
  · omega
  · refine ze_iload dX3_putBehind_13 rfl ?_
    refine ze_aload_n dX3_putBehind_15 rfl ?_
    refine ze_getf dX3_putBehind_16 fl_X3_19 (ss_o hS2) rfl ?_
    refine ze_alen dX3_putBehind_19 (ss_r hS2 (k := y2) (by omega)) rfl ?_
    refine ze_icmp_ge 34 dX3_putBehind_20 (by decide) (by omega) (by omega) (fun q2 => ?_) (fun q2 => ?_)
    · omega
    · refine ze_aload_n dX3_putBehind_23 rfl ?_
      refine ze_aload_n dX3_putBehind_24 rfl ?_
      refine ze_getf dX3_putBehind_25 fl_X3_19 (ss_o hS2) rfl ?_
      refine ze_iload dX3_putBehind_28 rfl ?_
      refine ze_aald (j := s) (b := (S + 2 + 17 * y2 + 2 * s)) dX3_putBehind_30 (ss_r hS2 (k := y2) (by omega)) rfl (by omega) (by omega) (by omega) rfl ?_
      refine ze_callV (As := [.ref (S + 2 + 17 * y2 + 2 * s)]) (rest := []) dX3_putBehind_31 (C5_setTo (hTw hS2) (ss_w hS2 (k := y2) (i := s) (Or.inl ⟨by omega, by omega⟩)) (by omega) (by rw [va2 s hs]; exact p_le (w_lt (bk_le hR (P - 1 - i) s (by omega) hs) (by omega)) (by omega))) mo5_setTo ml_X3_81 in_5_setTo se_5_setTo (whz_o (hTw hS2)).choose_spec rfl rfl rfl rfl rfl ⟨Nat.le_refl _, Nat.le_refl _⟩ rfl (Nat.le_of_ble_eq_true rfl) ?_
      rintro _ w5 ⟨rfl, fr5, hz5⟩
      obtain ⟨k1, k2⟩ := ss_out hS2 fr5 hTo
      exact ze_return rfl dX3_putBehind_34 ⟨rfl, k1, k2, by rw [← va2 s hs]; exact hz5⟩ rfl rfl
theorem C3_putBoth {G : ze_G} {l : Launch} {w : ze_W} {S T L v0 : Nat} {ar : Nat → Nat → Int} {c p P q : Nat} {i s : Nat} (hW : swp G w S) (hT : whz G w T L v0) (hL : 42 ≤ L) (hTo : T + 2 ≤ S ∨ S + 57 ≤ T) (hch : chr G w ar c p) (hrw : srw G w ar P q) (hpo : p + 4 ≤ S ∨ S + 57 ≤ p) (hqo : q + 2 ≤ S ∨ S + 57 ≤ q) (hR : rok ar c P) (hi : i < P) (hs : s < cn ar c) : ze_C G l 4 0 0 M3_putBoth [.ref S, .ref T, .ref p, .ref q, ze_i (i : Nat), ze_i (s : Nat)] w (ze_qv (fun w' => swp G w' S ∧ sfr w w' S T ∧ whz G w' T L (fk ar c i s * bk ar c P (P - 1 - i) s))) := by
  have hC : ∀ {w1 : ze_W} {x1 y1 z1 : Nat} {g1 : Nat → Nat} {v1 : Nat → Nat → Nat}, sst G w w1 S x1 y1 z1 g1 v1 → chr G w1 ar c p := fun h => chr_sm hch (fun u h1 h2 => h.1.2 u (by omega))
  have hRw : ∀ {w1 : ze_W} {x1 y1 z1 : Nat} {g1 : Nat → Nat} {v1 : Nat → Nat → Nat}, sst G w w1 S x1 y1 z1 g1 v1 → srw G w1 ar P q := fun h => srw_sm hrw (fun u h1 h2 => h.1.2 u (by omega))
  obtain ⟨en, n1, n8⟩ := mch_n hR.1
  have hP := hR.2.2.1
  obtain ⟨x, y, z, g, v, hS⟩ := hW
  have hpm := ss_p hS
  have hTw : ∀ {w1 : ze_W} {x1 y1 z1 : Nat} {g1 : Nat → Nat} {v1 : Nat → Nat → Nat}, sst G w w1 S x1 y1 z1 g1 v1 → whz G w1 T L v0 := fun h => whz_sm hT (h.1.2 _ (by omega)) (h.1.2 _ (by omega))
  refine ze_enter (by decide +kernel) rfl ?_
  change ze_V G l (ze_rm 4 0 0) M3_putBoth _ 0 [(0, .ref S), (1, .ref T), (2, .ref p), (3, .ref q), (4, ze_i ((i : Nat))), (5, ze_i ((s : Nat)))] [] w 0 0
  refine ze_aload_n dX3_putBoth_0 rfl ?_
  refine ze_aload_n dX3_putBoth_1 rfl ?_
  refine ze_aload_n dX3_putBoth_2 rfl ?_
  refine ze_iload dX3_putBoth_3 rfl ?_
  refine ze_callV (As := [.ref p, .ref q, ze_i ((i : Nat))]) (rest := []) dX3_putBoth_5 (C3_sweepAhead (i := i) hS hch hrw hpo hqo hR hi) mo3_sweepAhead ml_X3_77 in_3_sweepAhead se_3_sweepAhead (ss_o hS) rfl rfl rfl rfl rfl ⟨Nat.le_refl _, Nat.le_refl _⟩ rfl (Nat.le_of_ble_eq_true rfl) ?_
  rintro _ w2 ⟨rfl, x2, z2, g2, v2, hS2, va2, vb2, vc2⟩
  change ze_V G l (ze_rm 4 0 0) M3_putBoth _ 8 [(0, .ref S), (1, .ref T), (2, .ref p), (3, .ref q), (4, ze_i ((i : Nat))), (5, ze_i ((s : Nat)))] [] w2 0 0
  have hpm2 := ss_p hS2
  refine ze_aload_n dX3_putBoth_8 rfl ?_
  refine ze_aload_n dX3_putBoth_9 rfl ?_
  refine ze_aload_n dX3_putBoth_10 rfl ?_
  refine ze_iload dX3_putBoth_11 rfl ?_
  refine ze_callV (As := [.ref p, .ref q, ze_i ((i : Nat))]) (rest := []) dX3_putBoth_13 (C3_sweepBehind (i := i) hS2 hch hrw hpo hqo hR hi) mo3_sweepBehind ml_X3_85 in_3_sweepBehind se_3_sweepBehind (ss_o hS2) rfl rfl rfl rfl rfl ⟨Nat.le_refl _, Nat.le_refl _⟩ rfl (Nat.le_of_ble_eq_true rfl) ?_
  rintro _ w3 ⟨rfl, y3, z3, g3, v3, hS3, va3, vb3, vc3⟩
  change ze_V G l (ze_rm 4 0 0) M3_putBoth _ 16 [(0, .ref S), (1, .ref T), (2, .ref p), (3, .ref q), (4, ze_i ((i : Nat))), (5, ze_i ((s : Nat)))] [] w3 0 0
  have hpm3 := ss_p hS3
  have hax : v3 x2 s = fk ar c i s := by rw [vb3]; exact va2 s hs
  refine ze_iload dX3_putBoth_16 rfl ?_
  refine ze_if_lt 59 dX3_putBoth_18 (by decide) (by omega) (fun q1 => ?_) (fun q1 => ?_)
  · omega
  · refine ze_iload dX3_putBoth_21 rfl ?_
    refine ze_aload_n dX3_putBoth_23 rfl ?_
    refine ze_getf dX3_putBoth_24 fl_X3_13 (ss_o hS3) rfl ?_
    refine ze_alen dX3_putBoth_27 (ss_r hS3 (k := x2) (by omega)) rfl ?_
    refine ze_icmp_ge 59 dX3_putBoth_28 (by decide) (by omega) (by omega) (fun q2 => ?_) (fun q2 => ?_)
    · omega
    · refine ze_iload dX3_putBoth_31 rfl ?_
      refine ze_aload_n dX3_putBoth_33 rfl ?_
      refine ze_getf dX3_putBoth_34 fl_X3_19 (ss_o hS3) rfl ?_
      refine ze_alen dX3_putBoth_37 (ss_r hS3 (k := y3) (by omega)) rfl ?_
      refine ze_icmp_ge 59 dX3_putBoth_38 (by decide) (by omega) (by omega) (fun q3 => ?_) (fun q3 => ?_)
      · omega
      · refine ze_aload_n dX3_putBoth_41 rfl ?_
        refine ze_aload_n dX3_putBoth_42 rfl ?_
        refine ze_getf dX3_putBoth_43 fl_X3_13 (ss_o hS3) rfl ?_
        refine ze_iload dX3_putBoth_46 rfl ?_
        refine ze_aald (j := s) (b := (S + 2 + 17 * x2 + 2 * s)) dX3_putBoth_48 (ss_r hS3 (k := x2) (by omega)) rfl (by omega) (by omega) (by omega) rfl ?_
        refine ze_aload_n dX3_putBoth_49 rfl ?_
        refine ze_getf dX3_putBoth_50 fl_X3_19 (ss_o hS3) rfl ?_
        refine ze_iload dX3_putBoth_53 rfl ?_
        refine ze_aald (j := s) (b := (S + 2 + 17 * y3 + 2 * s)) dX3_putBoth_55 (ss_r hS3 (k := y3) (by omega)) rfl (by omega) (by omega) (by omega) rfl ?_
        refine ze_callV (As := [.ref (S + 2 + 17 * x2 + 2 * s), .ref (S + 2 + 17 * y3 + 2 * s)]) (rest := []) dX3_putBoth_56 (C5_setProduct (K1 := 2 * (i + 1) / 3 + 1) (K2 := 2 * (P - 1 - i) / 3 + 1) (hTw hS3) (ss_w hS3 (k := x2) (i := s) (Or.inl ⟨by omega, by omega⟩)) (ss_w hS3 (k := y3) (i := s) (Or.inl ⟨by omega, by omega⟩)) (by omega) (by omega) (by rw [hax]; exact e_lt (fk_le hR hi hs)) (by rw [va3 s hs]; exact e_lt (bk_le hR (P - 1 - i) s (by omega) hs)) (by omega)) mo5_setProduct ml_X3_88 in_5_setProduct se_5_setProduct (whz_o (hTw hS3)).choose_spec rfl rfl rfl rfl rfl ⟨Nat.le_refl _, Nat.le_refl _⟩ rfl (Nat.le_of_ble_eq_true rfl) ?_
        rintro _ w5 ⟨rfl, fr5, hz5⟩
        obtain ⟨k1, k2⟩ := ss_out hS3 fr5 hTo
        exact ze_return rfl dX3_putBoth_59 ⟨rfl, k1, k2, by rw [← hax, ← va3 s hs]; exact hz5⟩ rfl rfl
theorem mx_fb {ar : Nat → Nat → Int} {c P i s : Nat} (hR : rok ar c P) (hi : i < P) (hs : s < cn ar c) : fk ar c i s * bk ar c P (P - 1 - i) s ≤ 1000000 ^ P := by
  refine Nat.le_trans (Nat.mul_le_mul (fk_le hR hi hs) (bk_le hR (P - 1 - i) s (by omega) hs)) ?_
  rw [← Nat.pow_add]
  exact Nat.pow_le_pow_right (by decide) (by omega)
theorem C3_likeliestState {G : ze_G} {l : Launch} {w : ze_W} {S : Nat} {ar : Nat → Nat → Int} {c p P q : Nat} {i : Nat} (hW : swp G w S) (hch : chr G w ar c p) (hrw : srw G w ar P q) (hpo : p + 4 ≤ S ∨ S + 57 ≤ p) (hqo : q + 2 ≤ S ∨ S + 57 ≤ q) (hR : rok ar c P) (hi : i < P) : ze_C G l 4 0 0 M3_likeliestState [.ref S, .ref p, .ref q, ze_i (i : Nat)] w (ze_qi (fun r w' => (r = bst (mx (fun s => fk ar c i s * bk ar c P (P - 1 - i) s) (cn ar c))) ∧ swp G w' S ∧ w'.1 = w.1 ∧ ∀ u, (u < S ∨ S + 57 ≤ u) → w'.2 u = w.2 u)) := by
  have hC : ∀ {w1 : ze_W} {x1 y1 z1 : Nat} {g1 : Nat → Nat} {v1 : Nat → Nat → Nat}, sst G w w1 S x1 y1 z1 g1 v1 → chr G w1 ar c p := fun h => chr_sm hch (fun u h1 h2 => h.1.2 u (by omega))
  have hRw : ∀ {w1 : ze_W} {x1 y1 z1 : Nat} {g1 : Nat → Nat} {v1 : Nat → Nat → Nat}, sst G w w1 S x1 y1 z1 g1 v1 → srw G w1 ar P q := fun h => srw_sm hrw (fun u h1 h2 => h.1.2 u (by omega))
  obtain ⟨en, n1, n8⟩ := mch_n hR.1
  have hP := hR.2.2.1
  obtain ⟨x, y, z, g, v, hS⟩ := hW
  have hpm := ss_p hS
  refine ze_enter (by decide +kernel) rfl ?_
  generalize hQ : (ze_Q G (ze_qi (fun r w' => (r = bst (mx (fun s => fk ar c i s * bk ar c P (P - 1 - i) s) (cn ar c))) ∧ swp G w' S ∧ w'.1 = w.1 ∧ ∀ u, (u < S ∨ S + 57 ≤ u) → w'.2 u = w.2 u)) 0 0) = Z
  change ze_V G l (ze_rm 4 0 0) M3_likeliestState Z 0 [(0, .ref S), (1, .ref p), (2, .ref q), (3, ze_i ((i : Nat)))] [] w 0 0
  refine ze_aload_n dX3_likeliestState_0 rfl ?_
  refine ze_getf dX3_likeliestState_1 fl_X3_41 (hC hS).2.1 rfl ?_
  refine ze_aload_n dX3_likeliestState_4 rfl ?_
  refine ze_getf dX3_likeliestState_5 fl_X3_13 (ss_o hS) rfl ?_
  refine ze_alen dX3_likeliestState_8 (ss_r hS (k := x) (by omega)) rfl ?_
  refine ze_mmin dX3_likeliestState_9 ml_X3_47 st_Lib_Math_min_name n_J9 cd_Lib_Math_min_name rfl rfl ⟨Nat.le_refl _, Nat.le_refl _⟩ (by omega) (by omega) ?_
  refine ze_ti (b := (cn ar c : Nat)) (by omega) ?_
  refine ze_istore (lv' := [(0, .ref S), (1, .ref p), (2, .ref q), (3, ze_i ((i : Nat))), (4, ze_i ((cn ar c : Nat)))]) dX3_likeliestState_12 rfl rfl ?_
  refine ze_iconst dX3_likeliestState_14 ?_
  refine ze_istore (lv' := [(0, .ref S), (1, .ref p), (2, .ref q), (3, ze_i ((i : Nat))), (4, ze_i ((cn ar c : Nat))), (5, ze_i (-1))]) dX3_likeliestState_15 rfl rfl ?_
  refine ze_aload_n dX3_likeliestState_17 rfl ?_
  refine ze_getf dX3_likeliestState_18 fl_X3_38 (ss_o hS) rfl ?_
  refine ze_iconst dX3_likeliestState_21 ?_
  refine ze_ti (b := ((0 : Nat) : Nat)) rfl ?_
  refine ze_callV (As := [ze_i (((0 : Nat) : Nat))]) (rest := []) dX3_likeliestState_22 (C5_setSmall (v := 0) (ss_w hS (k := 3) (i := 1) (Or.inr ⟨rfl, by omega⟩)) (by decide)) mo5_setSmall ml_X3_62 in_5_setSmall se_5_setSmall (whz_o (ss_w hS (k := 3) (i := 1) (Or.inr ⟨rfl, by omega⟩))).choose_spec rfl rfl rfl rfl rfl ⟨Nat.le_refl _, Nat.le_refl _⟩ rfl (Nat.le_of_ble_eq_true rfl) ?_
  rintro _ w1 ⟨rfl, fr1, hz1⟩
  have hS1 := ss_wb hS (k := 3) (i := 1) (Or.inr ⟨rfl, by omega⟩) fr1 hz1
  change ze_V G l (ze_rm 4 0 0) M3_likeliestState _ 25 [(0, .ref S), (1, .ref p), (2, .ref q), (3, ze_i ((i : Nat))), (4, ze_i ((cn ar c : Nat))), (5, ze_i (-1))] [] w1 0 0
  refine ze_aload_n dX3_likeliestState_25 rfl ?_
  refine ze_aload_n dX3_likeliestState_26 rfl ?_
  refine ze_aload_n dX3_likeliestState_27 rfl ?_
  refine ze_iload_n dX3_likeliestState_28 rfl ?_
  refine ze_callV (As := [.ref p, .ref q, ze_i ((i : Nat))]) (rest := []) dX3_likeliestState_29 (C3_sweepAhead (i := i) hS1 hch hrw hpo hqo hR hi) mo3_sweepAhead ml_X3_77 in_3_sweepAhead se_3_sweepAhead (ss_o hS1) rfl rfl rfl rfl rfl ⟨Nat.le_refl _, Nat.le_refl _⟩ rfl (Nat.le_of_ble_eq_true rfl) ?_
  rintro _ w2 ⟨rfl, x2, z2, g2, v2, hS2, va2, vb2, vc2⟩
  change ze_V G l (ze_rm 4 0 0) M3_likeliestState _ 32 [(0, .ref S), (1, .ref p), (2, .ref q), (3, ze_i ((i : Nat))), (4, ze_i ((cn ar c : Nat))), (5, ze_i (-1))] [] w2 0 0
  have hpm2 := ss_p hS2
  refine ze_aload_n dX3_likeliestState_32 rfl ?_
  refine ze_aload_n dX3_likeliestState_33 rfl ?_
  refine ze_aload_n dX3_likeliestState_34 rfl ?_
  refine ze_iload_n dX3_likeliestState_35 rfl ?_
  refine ze_callV (As := [.ref p, .ref q, ze_i ((i : Nat))]) (rest := []) dX3_likeliestState_36 (C3_sweepBehind (i := i) hS2 hch hrw hpo hqo hR hi) mo3_sweepBehind ml_X3_85 in_3_sweepBehind se_3_sweepBehind (ss_o hS2) rfl rfl rfl rfl rfl ⟨Nat.le_refl _, Nat.le_refl _⟩ rfl (Nat.le_of_ble_eq_true rfl) ?_
  rintro _ w3 ⟨rfl, y3, z3, g3, v3, hS3, va3, vb3, vc3⟩
  change ze_V G l (ze_rm 4 0 0) M3_likeliestState _ 39 [(0, .ref S), (1, .ref p), (2, .ref q), (3, ze_i ((i : Nat))), (4, ze_i ((cn ar c : Nat))), (5, ze_i (-1))] [] w3 0 0
  have hpm3 := ss_p hS3
  have hg0 : v3 3 1 = 0 := by rw [vc3, vc2, va_up_self, va_up_self]
  obtain ⟨F, hF⟩ : ∃ F, F = (fun s => fk ar c i s * bk ar c P (P - 1 - i) s) := ⟨_, rfl⟩
  have hax : ∀ s, s < cn ar c → v3 x2 s = fk ar c i s := fun s hs => by rw [vb3]; exact va2 s hs
  have loop : ∀ (d s : Nat) (v4 : Nat → Nat → Nat) (w4 : ze_W), s + d = cn ar c → sst G w w4 S x2 y3 z3 g3 v4 → v4 3 1 = (mx F s).2 → (∀ k, k ≠ 3 → v4 k = v3 k) → ze_V G l (ze_rm 4 0 0) M3_likeliestState Z 42 [(0, .ref S), (1, .ref p), (2, .ref q), (3, ze_i ((i : Nat))), (4, ze_i ((cn ar c : Nat))), (5, ze_i (bst (mx F s))), (6, ze_i ((s : Nat)))] [] w4 0 0 := by
    intro d
    induction d with
    | zero =>
      intro s v4 w4 hs hS4 hg hk
      have hsn : s = cn ar c := by omega
      rw [← hQ]
      refine ze_iload dX3_likeliestState_42 rfl ?_
      refine ze_iload dX3_likeliestState_44 rfl ?_
      refine ze_icmp_ge 105 dX3_likeliestState_46 (by decide) (by omega) (by omega) (fun q1 => ?_) (fun q1 => ?_)
      · refine ze_iload dX3_likeliestState_105 rfl ?_
        exact ze_ireturn rfl dX3_likeliestState_107 ⟨_, rfl, by rw [hsn, hF], ⟨_, _, _, _, _, ss_rf hS4⟩, hS4.1⟩ rfl rfl
      · omega
    | succ d ih =>
      intro s v4 w4 hs hS4 hg hk
      have hsn : s < cn ar c := by omega
      have e1 : v4 x2 s = fk ar c i s := by rw [hk x2 (by omega)]; exact hax s hsn
      have e2 : v4 y3 s = bk ar c P (P - 1 - i) s := by rw [hk y3 (by omega)]; exact va3 s hsn
      have e3 : F s = fk ar c i s * bk ar c P (P - 1 - i) s := by rw [hF]
      have hb := mx_fb hR hi hsn
      refine ze_iload dX3_likeliestState_42 rfl ?_
      refine ze_iload dX3_likeliestState_44 rfl ?_
      refine ze_icmp_ge 105 dX3_likeliestState_46 (by decide) (by omega) (by omega) (fun q1 => ?_) (fun q1 => ?_)
      · omega
      · refine ze_aload_n dX3_likeliestState_49 rfl ?_
        refine ze_getf dX3_likeliestState_50 fl_X3_34 (ss_o hS4) rfl ?_
        refine ze_aload_n dX3_likeliestState_53 rfl ?_
        refine ze_getf dX3_likeliestState_54 fl_X3_13 (ss_o hS4) rfl ?_
        refine ze_iload dX3_likeliestState_57 rfl ?_
        refine ze_aald (j := s) (b := (S + 2 + 17 * x2 + 2 * s)) dX3_likeliestState_59 (ss_r hS4 (k := x2) (by omega)) rfl (by omega) (by omega) (by omega) rfl ?_
        refine ze_aload_n dX3_likeliestState_60 rfl ?_
        refine ze_getf dX3_likeliestState_61 fl_X3_19 (ss_o hS4) rfl ?_
        refine ze_iload dX3_likeliestState_64 rfl ?_
        refine ze_aald (j := s) (b := (S + 2 + 17 * y3 + 2 * s)) dX3_likeliestState_66 (ss_r hS4 (k := y3) (by omega)) rfl (by omega) (by omega) (by omega) rfl ?_
        refine ze_callV (As := [.ref (S + 2 + 17 * x2 + 2 * s), .ref (S + 2 + 17 * y3 + 2 * s)]) (rest := []) dX3_likeliestState_67 (C5_setProduct (K1 := 2 * (i + 1) / 3 + 1) (K2 := 2 * (P - 1 - i) / 3 + 1) (ss_w hS4 (k := 3) (i := 0) (Or.inr ⟨rfl, by omega⟩)) (ss_w hS4 (k := x2) (i := s) (Or.inl ⟨by omega, by omega⟩)) (ss_w hS4 (k := y3) (i := s) (Or.inl ⟨by omega, by omega⟩)) (by omega) (by omega) (by rw [e1]; exact e_lt (fk_le hR hi hsn)) (by rw [e2]; exact e_lt (bk_le hR (P - 1 - i) s (by omega) hsn)) (by omega)) mo5_setProduct ml_X3_88 in_5_setProduct se_5_setProduct (whz_o (ss_w hS4 (k := 3) (i := 0) (Or.inr ⟨rfl, by omega⟩))).choose_spec rfl rfl rfl rfl rfl ⟨Nat.le_refl _, Nat.le_refl _⟩ rfl (Nat.le_of_ble_eq_true rfl) ?_
        rintro _ w2 ⟨rfl, fr2, hz2⟩
        have hS2 := ss_wb hS4 (k := 3) (i := 0) (Or.inr ⟨rfl, by omega⟩) fr2 hz2
        change ze_V G l (ze_rm 4 0 0) M3_likeliestState _ 70 [(0, .ref S), (1, .ref p), (2, .ref q), (3, ze_i ((i : Nat))), (4, ze_i ((cn ar c : Nat))), (5, ze_i (bst (mx F s))), (6, ze_i ((s : Nat)))] [] w2 0 0
        have q1 := ss_w hS2 (k := 3) (i := 0) (Or.inr ⟨rfl, by omega⟩)
        have q2 := ss_w hS2 (k := 3) (i := 1) (Or.inr ⟨rfl, by omega⟩)
        rw [va_up_self, va_up_self, e1, e2, ← e3] at q1
        rw [va_up_self, va_up_ne _ _ (by decide), hg] at q2
        refine ze_aload_n dX3_likeliestState_70 rfl ?_
        refine ze_getf dX3_likeliestState_71 fl_X3_34 (ss_o hS2) rfl ?_
        refine ze_aload_n dX3_likeliestState_74 rfl ?_
        refine ze_getf dX3_likeliestState_75 fl_X3_38 (ss_o hS2) rfl ?_
        refine ze_callV (As := [.ref (S + 55)]) (rest := []) dX3_likeliestState_78 (C5_orderTo q1 q2) mo5_orderTo ml_X3_92 in_5_orderTo se_5_orderTo (whz_o (ss_w hS2 (k := 3) (i := 0) (Or.inr ⟨rfl, by omega⟩))).choose_spec rfl rfl rfl rfl rfl ⟨Nat.le_refl _, Nat.le_refl _⟩ rfl (Nat.le_of_ble_eq_true rfl) ?_
        rintro _ w' ⟨r, rfl, hr, rfl⟩
        change ze_V G l (ze_rm 4 0 0) M3_likeliestState _ 81 [(0, .ref S), (1, .ref p), (2, .ref q), (3, ze_i ((i : Nat))), (4, ze_i ((cn ar c : Nat))), (5, ze_i (bst (mx F s))), (6, ze_i ((s : Nat)))] [ze_i (r)] w' 0 0
        unfold cmp3 at hr
        refine ze_if_le 99 dX3_likeliestState_81 (by decide) (by rw [hr]; split; decide; split <;> decide) (fun q3 => ?_) (fun q3 => ?_)
        · have hle : ¬ (mx F s).2 < F s := by
            intro k0
            rw [if_neg (by omega), if_neg (by omega)] at hr
            omega
          refine ze_iinc (b := ((s + 1 : Nat))) (lv' := [(0, .ref S), (1, .ref p), (2, .ref q), (3, ze_i ((i : Nat))), (4, ze_i ((cn ar c : Nat))), (5, ze_i (bst (mx F s))), (6, ze_i (((s + 1 : Nat))))]) dX3_likeliestState_99 rfl rfl (by omega) rfl ?_
          refine ze_goto 42 dX3_likeliestState_102 (by decide) ?_
          have es : mx F (s + 1) = (if (mx F s).2 < F s then (s, F s) else mx F s) := rfl
          rw [if_neg (by omega)] at es
          have eb : bst (mx F s) = bst (mx F (s + 1)) := by rw [es]
          rw [eb]
          exact ih (s + 1) _ _ (by omega) hS2 (by rw [va_up_self, va_up_ne _ _ (by decide), hg, es]) (fun k hk2 => by rw [va_up_ne _ _ hk2]; exact hk k hk2)
        · have hlt : (mx F s).2 < F s := by
            by_cases k1 : ((F s : Nat) : Int) < (((mx F s).2 : Nat) : Int)
            · rw [if_pos k1] at hr; omega
            · by_cases k2 : ((F s : Nat) : Int) = (((mx F s).2 : Nat) : Int)
              · rw [if_neg k1, if_pos k2] at hr; omega
              · omega
          refine ze_aload_n dX3_likeliestState_84 rfl ?_
          refine ze_getf dX3_likeliestState_85 fl_X3_38 (ss_o hS2) rfl ?_
          refine ze_aload_n dX3_likeliestState_88 rfl ?_
          refine ze_getf dX3_likeliestState_89 fl_X3_34 (ss_o hS2) rfl ?_
          refine ze_callV (As := [.ref (S + 53)]) (rest := []) dX3_likeliestState_92 (C5_setTo q2 q1 (by omega) (by rw [e3]; exact p_le (w_lt hb (by omega)) (by decide))) mo5_setTo ml_X3_81 in_5_setTo se_5_setTo (whz_o (ss_w hS2 (k := 3) (i := 1) (Or.inr ⟨rfl, by omega⟩))).choose_spec rfl rfl rfl rfl rfl ⟨Nat.le_refl _, Nat.le_refl _⟩ rfl (Nat.le_of_ble_eq_true rfl) ?_
          rintro _ w4 ⟨rfl, fr4, hz4⟩
          have hS4 := ss_wb hS2 (k := 3) (i := 1) (Or.inr ⟨rfl, by omega⟩) fr4 hz4
          change ze_V G l (ze_rm 4 0 0) M3_likeliestState _ 95 [(0, .ref S), (1, .ref p), (2, .ref q), (3, ze_i ((i : Nat))), (4, ze_i ((cn ar c : Nat))), (5, ze_i (bst (mx F s))), (6, ze_i ((s : Nat)))] [] w4 0 0
          refine ze_iload dX3_likeliestState_95 rfl ?_
          refine ze_istore (lv' := [(0, .ref S), (1, .ref p), (2, .ref q), (3, ze_i ((i : Nat))), (4, ze_i ((cn ar c : Nat))), (5, ze_i ((s : Nat))), (6, ze_i ((s : Nat)))]) dX3_likeliestState_97 rfl rfl ?_
          refine ze_iinc (b := ((s + 1 : Nat))) (lv' := [(0, .ref S), (1, .ref p), (2, .ref q), (3, ze_i ((i : Nat))), (4, ze_i ((cn ar c : Nat))), (5, ze_i ((s : Nat))), (6, ze_i (((s + 1 : Nat))))]) dX3_likeliestState_99 rfl rfl (by omega) rfl ?_
          refine ze_goto 42 dX3_likeliestState_102 (by decide) ?_
          have es : mx F (s + 1) = (if (mx F s).2 < F s then (s, F s) else mx F s) := rfl
          rw [if_pos (by omega)] at es
          have eb : bst (mx F (s + 1)) = (s : Nat) := by rw [es]; unfold bst; rw [if_neg (show ¬ F s = 0 by omega)]
          rw [← eb]
          exact ih (s + 1) _ _ (by omega) hS4 (by rw [va_up_self, va_up_self, es]) (fun k hk2 => by rw [va_up_ne _ _ hk2, va_up_ne _ _ hk2]; exact hk k hk2)
  refine ze_iconst dX3_likeliestState_39 ?_
  refine ze_ti (b := ((0 : Nat) : Nat)) rfl ?_
  refine ze_istore (lv' := [(0, .ref S), (1, .ref p), (2, .ref q), (3, ze_i ((i : Nat))), (4, ze_i ((cn ar c : Nat))), (5, ze_i (-1)), (6, ze_i (((0 : Nat) : Nat)))]) dX3_likeliestState_40 rfl rfl ?_
  exact loop (cn ar c) 0 v3 w3 (by omega) hS3 hg0 (fun _ _ => rfl)
theorem C3_init {G : ze_G} {l : Launch} {w : ze_W} {S : Nat} (hb : w.2 S = some (ze_ob 3 [.null, .null, .null, .null, .null, .null])) (hw : w.1 = S + 1) : ze_C G l 3 56 1176 M3_init [.ref S] w (ze_qv (fun w' => w'.1 = S + 57 ∧ swp G w' S ∧ ∀ u, u < S → w'.2 u = w.2 u)) := by
  refine ze_enter (by decide +kernel) rfl ?_
  change ze_V G l (ze_rm 3 56 1176) M3_init _ 0 [(0, .ref S)] [] w 0 0
  refine ze_aload_n dX3_init_0 rfl ?_
  refine ze_objI dX3_init_1 ml_X3_3 in_objectInit cd_objectInit rfl rfl ?_
  refine ze_aload_n dX3_init_4 rfl ?_
  refine ze_bipush dX3_init_5 (by decide) ?_
  refine ze_ti (b := ((8 : Nat) : Nat)) rfl ?_
  refine ze_callSN (As := [ze_i ((8 : Nat) : Nat)]) (rest := [.ref S]) (host := RX6) dX3_init_7 (C6_makeWholes (n := 8) (by decide)) mo6_makeWholes (fun U hK => hK.2.1.1) st_6_makeWholes rfl rfl rfl (by decide) rfl (Nat.le_of_ble_eq_true rfl) ?_
  rintro _ a1 ⟨_, rfl, rfl, y1, r1, h1, o1⟩
  rw [hw] at y1 r1 h1 o1 ⊢
  refine ze_putfW (fs' := [.ref (S + 1), .null, .null, .null, .null, .null]) dX3_init_10 fl_X3_13 (Or.inl rfl) ((o1 S (by omega)).trans hb) rfl rfl (Nat.le_of_ble_eq_true rfl) rfl (fun b1 z1 c1 p1 => ?_)
  have e1 : b1.1 = S + 18 := by rw [z1, y1]
  refine ze_aload_n dX3_init_13 rfl ?_
  refine ze_bipush dX3_init_14 (by decide) ?_
  refine ze_ti (b := ((8 : Nat) : Nat)) rfl ?_
  refine ze_callSN (As := [ze_i ((8 : Nat) : Nat)]) (rest := [.ref S]) (host := RX6) dX3_init_16 (C6_makeWholes (n := 8) (by decide)) mo6_makeWholes (fun U hK => hK.2.1.1) st_6_makeWholes rfl rfl rfl (by decide) rfl (Nat.le_of_ble_eq_true rfl) ?_
  rintro _ a2 ⟨_, rfl, rfl, y2, r2, h2, o2⟩
  rw [e1] at y2 r2 h2 o2 ⊢
  refine ze_putfW (fs' := [.ref (S + 1), .ref (S + 18), .null, .null, .null, .null]) dX3_init_19 fl_X3_19 (Or.inl rfl) ((o2 S (by omega)).trans c1) rfl rfl (Nat.le_of_ble_eq_true rfl) rfl (fun b2 z2 c2 p2 => ?_)
  have e2 : b2.1 = S + 35 := by rw [z2, y2]
  refine ze_aload_n dX3_init_22 rfl ?_
  refine ze_bipush dX3_init_23 (by decide) ?_
  refine ze_ti (b := ((8 : Nat) : Nat)) rfl ?_
  refine ze_callSN (As := [ze_i ((8 : Nat) : Nat)]) (rest := [.ref S]) (host := RX6) dX3_init_25 (C6_makeWholes (n := 8) (by decide)) mo6_makeWholes (fun U hK => hK.2.1.1) st_6_makeWholes rfl rfl rfl (by decide) rfl (Nat.le_of_ble_eq_true rfl) ?_
  rintro _ a3 ⟨_, rfl, rfl, y3, r3, h3, o3⟩
  rw [e2] at y3 r3 h3 o3 ⊢
  refine ze_putfW (fs' := [.ref (S + 1), .ref (S + 18), .ref (S + 35), .null, .null, .null]) dX3_init_28 fl_X3_22 (Or.inl rfl) ((o3 S (by omega)).trans c2) rfl rfl (Nat.le_of_ble_eq_true rfl) rfl (fun b3 z3 c3 p3 => ?_)
  have e3 : b3.1 = S + 52 := by rw [z3, y3]
  refine ze_aload_n dX3_init_31 rfl ?_
  refine ze_bipush dX3_init_32 (by decide) ?_
  refine ze_newlW (n := 8) dX3_init_34 rfl (by decide) (by decide) (by decide) (fun a4 y4 r4 o4 => ?_)
  rw [e3] at y4 r4 o4 ⊢
  refine ze_putfW (fs' := [.ref (S + 1), .ref (S + 18), .ref (S + 35), .ref (S + 52), .null, .null]) dX3_init_36 fl_X3_25 (Or.inr ⟨rfl, rfl⟩) ((o4 S (by omega)).trans c3) rfl rfl (Nat.le_of_ble_eq_true rfl) rfl (fun b4 z4 c4 p4 => ?_)
  have e4 : b4.1 = S + 53 := by rw [z4, y4]
  refine ze_aload_n dX3_init_39 rfl ?_
  refine ze_nX5 dX3_init_40 cl_X3_29 (by decide) (by decide) (fun n5 y5 r5 o5 => ?_)
  rw [e4] at y5 r5 o5 ⊢
  refine ze_dup dX3_init_43 rfl ?_
  refine ze_bipush dX3_init_44 (by decide) ?_
  refine ze_ti (b := ((42 : Nat) : Nat)) rfl ?_
  refine ze_callI (As := [ze_i ((42 : Nat) : Nat)]) (rest := [.ref (S + 53), .ref S]) dX3_init_46 (C5_init (n := 42) r5 y5 (by decide)) mo5_init rfl rfl ml_X3_31 in_5_init rfl rfl rfl (by decide) rfl (Nat.le_of_ble_eq_true rfl) ?_
  rintro _ a5 ⟨rfl, x5, h5, q5⟩
  refine ze_putfW (fs' := [.ref (S + 1), .ref (S + 18), .ref (S + 35), .ref (S + 52), .ref (S + 53), .null]) dX3_init_49 fl_X3_34 (Or.inr ⟨rfl, rfl⟩) ((q5 S (by omega) (by omega)).trans ((o5 S (by omega)).trans c4)) rfl rfl (Nat.le_of_ble_eq_true rfl) rfl (fun b5 z5 c5 p5 => ?_)
  have e5 : b5.1 = S + 55 := by rw [z5, x5]
  refine ze_aload_n dX3_init_52 rfl ?_
  refine ze_nX5 dX3_init_53 cl_X3_29 (by decide) (by decide) (fun n6 y6 r6 o6 => ?_)
  rw [e5] at y6 r6 o6 ⊢
  refine ze_dup dX3_init_56 rfl ?_
  refine ze_bipush dX3_init_57 (by decide) ?_
  refine ze_ti (b := ((42 : Nat) : Nat)) rfl ?_
  refine ze_callI (As := [ze_i ((42 : Nat) : Nat)]) (rest := [.ref (S + 55), .ref S]) dX3_init_59 (C5_init (n := 42) r6 y6 (by decide)) mo5_init rfl rfl ml_X3_31 in_5_init rfl rfl rfl (by decide) rfl (Nat.le_of_ble_eq_true rfl) ?_
  rintro _ a6 ⟨rfl, x6, h6, q6⟩
  refine ze_putfW (fs' := [.ref (S + 1), .ref (S + 18), .ref (S + 35), .ref (S + 52), .ref (S + 53), .ref (S + 55)]) dX3_init_62 fl_X3_38 (Or.inr ⟨rfl, rfl⟩) ((q6 S (by omega) (by omega)).trans ((o6 S (by omega)).trans c5)) rfl rfl (Nat.le_of_ble_eq_true rfl) rfl (fun b6 z6 c6 p6 => ?_)
  have e6 : b6.1 = S + 57 := by rw [z6, x6]
  have t6 : ∀ u, u ≠ S → u < S + 55 → b6.2 u = b5.2 u := fun u h1 h2 => (p6 u h1).trans ((q6 u (by omega) (by omega)).trans (o6 u (by omega)))
  have t5 : ∀ u, u ≠ S → u < S + 53 → b6.2 u = b4.2 u := fun u h1 h2 => (t6 u h1 (by omega)).trans ((p5 u h1).trans ((q5 u (by omega) (by omega)).trans (o5 u (by omega))))
  have t4 : ∀ u, u ≠ S → u < S + 52 → b6.2 u = b3.2 u := fun u h1 h2 => (t5 u h1 (by omega)).trans ((p4 u h1).trans (o4 u (by omega)))
  have t3 : ∀ u, u ≠ S → u < S + 35 → b6.2 u = b2.2 u := fun u h1 h2 => (t4 u h1 (by omega)).trans ((p3 u h1).trans (o3 u (by omega)))
  have t2 : ∀ u, u ≠ S → u < S + 18 → b6.2 u = b1.2 u := fun u h1 h2 => (t3 u h1 (by omega)).trans ((p2 u h1).trans (o2 u (by omega)))
  have k1 : ∀ u, S < u → u < S + 18 → b6.2 u = a1.2 u := fun u h1 h2 => (t2 u (by omega) h2).trans (p1 u (by omega))
  have k2 : ∀ u, S < u → u < S + 35 → b6.2 u = a2.2 u := fun u h1 h2 => (t3 u (by omega) h2).trans (p2 u (by omega))
  have k3 : ∀ u, S < u → u < S + 52 → b6.2 u = a3.2 u := fun u h1 h2 => (t4 u (by omega) h2).trans (p3 u (by omega))
  refine ze_return rfl dX3_init_65 ⟨rfl, e6, ⟨0, 1, 2, fun _ => 0, fun _ _ => 0, ⟨rfl, fun _ _ => rfl⟩, by unfold spm; decide, c6, fun k hk => ?_, ?_, fun k i hk => ?_⟩, fun u hu => (t2 u (by omega) (by omega)).trans ((p1 u (by omega)).trans (o1 u (by omega)))⟩ rfl rfl
  · rcases (show k = 0 ∨ k = 1 ∨ k = 2 by omega) with rfl | rfl | rfl
    · exact (k1 _ (by omega) (by omega)).trans r1
    · exact (k2 _ (by omega) (by omega)).trans r2
    · exact (k3 _ (by omega) (by omega)).trans r3
  · exact (t5 _ (by omega) (by omega)).trans ((p4 _ (by omega)).trans r4)
  · rcases hk with ⟨g1, g2⟩ | ⟨g1, g2⟩
    · rcases (show k = 0 ∨ k = 1 ∨ k = 2 by omega) with rfl | rfl | rfl
      · exact whz_sm (h1 i g2) (k1 _ (by omega) (by omega)) (k1 _ (by omega) (by omega))
      · exact whz_sm (h2 i g2) (k2 _ (by omega) (by omega)) (k2 _ (by omega) (by omega))
      · exact whz_sm (h3 i g2) (k3 _ (by omega) (by omega)) (k3 _ (by omega) (by omega))
    · subst g1
      rcases (show i = 0 ∨ i = 1 by omega) with rfl | rfl
      · exact whz_sm h5 ((t6 _ (by omega) (by omega)).trans (p5 _ (by omega))) ((t6 _ (by omega) (by omega)).trans (p5 _ (by omega)))
      · exact whz_sm h6 (p6 _ (by omega)) (p6 _ (by omega))
