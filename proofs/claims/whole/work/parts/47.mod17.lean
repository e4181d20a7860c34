/-! the reference: apart -/
/-- the first word that tells -/
def frst (ar : Nat → Nat → Int) (a b : Nat) (st : Nat → Nat) (K : Nat) (z : List Nat) : Prop := alw K z ∧ tell ar a b st z ∧ (∀ z', alw K z' → wcd z' < wcd z → ¬ tell ar a b st z') ∧ z.length + 1 ≤ cn ar a + cn ar b
theorem getD_app {u v : List Nat} {j : Nat} : (u ++ v).getD (u.length + j) 0 = v.getD j 0 := by
  induction u with
  | nil => rw [List.length_nil, Nat.zero_add]; rfl
  | cons x u ih =>
    rw [List.length_cons, show u.length + 1 + j = (u.length + j) + 1 by omega]
    exact ih
theorem C8_apart {G : ze_G} {l : Launch} {w0 w : ze_W} {m C P F : Nat} {ar : Nat → Nat → Int} {bz : Nat → Int} (hM : mst G w0 w m C P F ar bz) {a b : Int} (r_a : -2147483648 ≤ a ∧ a < 2147483648) (r_b : -2147483648 ≤ b ∧ b < 2147483648) (hG : mgd C P F ar) : ze_C G l 9 0 0 M8_apart [.ref m, ze_i a, ze_i b] w (ze_qi (fun r w' => ∃ ar' bz' P', mst G w0 w' m C P' F ar' bz' ∧ bz' 8 = bz 8 ∧ (∀ k, k ≠ 7 → k ≠ 20 → k ≠ 21 → k ≠ 22 → ar' k = ar k) ∧ ((rf2 ar C a b r ∧ r ≠ 0 ∧ P' = P ∧ ar' 7 = ar 7) ∨ (rf2 ar C a b 0 ∧ (∀ z, alw (ck ar a.toNat) z → ¬ tell ar a.toNat b.toNat (stv ar a.toNat b.toNat) z) ∧ r = 0 ∧ P' = 0) ∨ (rf2 ar C a b 0 ∧ ∃ z, frst ar a.toNat b.toNat (stv ar a.toNat b.toNat) (ck ar a.toNat) z ∧ r = (z.length : Nat) ∧ P' = z.length ∧ ∀ j, j < z.length → ar' 7 (z.length - 1 - j) = (z.getD j 0 : Nat))))) := by
  have hG1 := hG.1
  refine ze_enter (by decide +kernel) rfl ?_
  generalize hQ : (ze_Q G (ze_qi (fun r w' => ∃ ar' bz' P', mst G w0 w' m C P' F ar' bz' ∧ bz' 8 = bz 8 ∧ (∀ k, k ≠ 7 → k ≠ 20 → k ≠ 21 → k ≠ 22 → ar' k = ar k) ∧ ((rf2 ar C a b r ∧ r ≠ 0 ∧ P' = P ∧ ar' 7 = ar 7) ∨ (rf2 ar C a b 0 ∧ (∀ z, alw (ck ar a.toNat) z → ¬ tell ar a.toNat b.toNat (stv ar a.toNat b.toNat) z) ∧ r = 0 ∧ P' = 0) ∨ (rf2 ar C a b 0 ∧ ∃ z, frst ar a.toNat b.toNat (stv ar a.toNat b.toNat) (ck ar a.toNat) z ∧ r = (z.length : Nat) ∧ P' = z.length ∧ ∀ j, j < z.length → ar' 7 (z.length - 1 - j) = (z.getD j 0 : Nat))))) 0 0) = Z
  change ze_V G l (ze_rm 9 0 0) M8_apart _ 0 [(0, .ref m), (1, ze_i (a)), (2, ze_i (b))] [] w 0 0
  refine ze_aload_n dX8_apart_0 rfl ?_
  refine ze_iload_n dX8_apart_1 rfl ?_
  refine ze_iload_n dX8_apart_2 rfl ?_
  refine ze_callV (As := [ze_i (a), ze_i (b)]) (rest := []) dX8_apart_3 (C8_refusalOfTwo hM r_a r_b hG) mo8_refusalOfTwo ml_X8_223 in_8_refusalOfTwo se_8_refusalOfTwo (ms_o hM) rfl rfl rfl rfl rfl ⟨Nat.le_refl _, Nat.le_refl _⟩ rfl (Nat.le_of_ble_eq_true rfl) ?_
  rintro _ w' ⟨rr, rfl, hrr, rfl⟩
  change ze_V G l (ze_rm 9 0 0) M8_apart _ 6 [(0, .ref m), (1, ze_i (a)), (2, ze_i (b))] [ze_i (rr)] w' 0 0
  refine ze_istore_n (lv' := [(0, .ref m), (1, ze_i (a)), (2, ze_i (b)), (3, ze_i (rr))]) dX8_apart_6 rfl rfl ?_
  refine ze_iload_n dX8_apart_7 rfl ?_
  refine ze_if_eq 13 dX8_apart_8 (by decide) (rf2_rng hrr) (fun q1 => ?_) (fun q1 => ?_)
  · obtain ⟨hab, ⟨sa, sb⟩, hk2, hk3⟩ := rf2_0 hrr q1
    have hr0 : rf2 ar C a b 0 := by rw [q1] at hrr; exact hrr
    obtain ⟨a, rfl⟩ := Int.eq_ofNat_of_zero_le hab.1.1
    obtain ⟨b, rfl⟩ := Int.eq_ofNat_of_zero_le hab.2.1
    rw [Int.toNat_natCast] at sa sb
    rw [Int.toNat_natCast, Int.toNat_natCast] at hk3
    have ha := hG.2.1 a (by omega)
    have hb := hG.2.1 b (by omega)
    have na := mch_n ha
    have nb := mch_n hb
    have htt : ct ar a = ct ar b := by unfold ct; rw [hk3]
    change ze_V G l (ze_rm 9 0 0) M8_apart _ 13 [(0, .ref m), (1, ze_i ((a : Nat))), (2, ze_i ((b : Nat))), (3, ze_i (rr))] [] w' 0 0
    refine ze_aload_n dX8_apart_13 rfl ?_
    refine ze_iload_n dX8_apart_14 rfl ?_
    refine ze_iload_n dX8_apart_15 rfl ?_
    refine ze_callV (As := [ze_i ((a : Nat)), ze_i ((b : Nat))]) (rest := []) dX8_apart_16 (C8_partsOf hM (a := a) (b := b) (by omega) (by omega) ha hb sa sb htt) mo8_partsOf ml_X8_226 in_8_partsOf se_8_partsOf (ms_o hM) rfl rfl rfl rfl rfl ⟨Nat.le_refl _, Nat.le_refl _⟩ rfl (Nat.le_of_ble_eq_true rfl) ?_
    rintro _ w2 ⟨rt, rfl, ar2, bz2, hM2, hf2, hk2b, hres⟩
    have e8 : bz2 8 = bz 8 := hf2 8 (by decide) (by decide) (by decide) (by decide) (by decide) (by decide) (by decide)
    change ze_V G l (ze_rm 9 0 0) M8_apart _ 19 [(0, .ref m), (1, ze_i ((a : Nat))), (2, ze_i ((b : Nat))), (3, ze_i (rr))] [ze_i (rt)] w2 0 0
    rcases hres with ⟨hrt, hno⟩ | ⟨q, z, hrt, hfn⟩
    · rw [hrt]
      change ze_V G l (ze_rm 9 0 0) M8_apart _ 19 [(0, .ref m), (1, ze_i ((a : Nat))), (2, ze_i ((b : Nat))), (3, ze_i (rr))] [ze_i (-1)] w2 0 0
      refine ze_istore (lv' := [(0, .ref m), (1, ze_i ((a : Nat))), (2, ze_i ((b : Nat))), (3, ze_i (rr)), (4, ze_i (-1))]) dX8_apart_19 rfl rfl ?_
      refine ze_iconst dX8_apart_21 ?_
      refine ze_istore (lv' := [(0, .ref m), (1, ze_i ((a : Nat))), (2, ze_i ((b : Nat))), (3, ze_i (rr)), (4, ze_i (-1)), (5, ze_i (0))]) dX8_apart_22 rfl rfl ?_
      refine ze_iload dX8_apart_24 rfl ?_
      refine ze_istore (lv' := [(0, .ref m), (1, ze_i ((a : Nat))), (2, ze_i ((b : Nat))), (3, ze_i (rr)), (4, ze_i (-1)), (5, ze_i (0)), (6, ze_i (-1))]) dX8_apart_26 rfl rfl ?_
      refine ze_iload dX8_apart_28 rfl ?_
      refine ze_if_le 48 dX8_apart_30 (by decide) (by omega) (fun q3 => ?_) (fun q3 => ?_)
      · refine ze_aload_n dX8_apart_48 rfl ?_
        refine ze_iload dX8_apart_49 rfl ?_
        refine ze_ti (b := ((0 : Nat) : Nat)) rfl ?_
        refine ze_putfW (fs' := mfs m C 0 F) dX8_apart_51 fl_X8_126 (Or.inl rfl) (ms_o hM2) rfl rfl (Nat.le_of_ble_eq_true rfl) rfl (fun w1 z1 c1 o1 => ?_)
        have hM1 := ms_wo (C' := C) (P' := 0) (F' := F) hM2 z1 c1 o1
        refine ze_iload dX8_apart_54 rfl ?_
        refine ze_istore (lv' := [(0, .ref m), (1, ze_i ((a : Nat))), (2, ze_i ((b : Nat))), (3, ze_i (rr)), (4, ze_i (-1)), (5, ze_i (0)), (6, ze_i (-1))]) dX8_apart_56 rfl rfl ?_
        refine ze_iload dX8_apart_58 rfl ?_
        refine ze_if_le 92 dX8_apart_60 (by decide) (by omega) (fun q4 => ?_) (fun q4 => ?_)
        · refine ze_aload_n dX8_apart_92 rfl ?_
          refine ze_getf dX8_apart_93 fl_X8_126 (ms_o hM1) rfl ?_
          rw [← hQ]
          exact ze_ireturn rfl dX8_apart_96 ⟨_, rfl, ar2, bz2, 0, hM1, e8, fun k k1 k2 k3 k4 => hk2b k k2 k3 k4, Or.inr (Or.inl ⟨hr0, hno, rfl, rfl⟩)⟩ rfl rfl
        · omega
      · omega
    · obtain ⟨wd, fs, ss, hw0, hwq, hq0, hq16, hlk, hal, htl, hmin, hlen⟩ := hfn
      have hrt2 : rt = ((q : Nat) : Int) := hrt
      rw [hrt2]
      have hl60 : z.length ≤ 15 := by omega
      have hwl : ∀ i, i ≤ q → 0 < i → (wd i).length = (wd (fs i)).length + 1 := fun i hi h0 => by rw [(hlk i h0 hi).2.2.1, List.length_cons]
      change ze_V G l (ze_rm 9 0 0) M8_apart _ 19 [(0, .ref m), (1, ze_i ((a : Nat))), (2, ze_i ((b : Nat))), (3, ze_i (rr))] [ze_i ((q : Nat))] w2 0 0
      have wr : ∀ (i : Nat) (ar3 : Nat → Nat → Int) (w3 : ze_W), i ≤ q → mst G w0 w3 m C z.length F ar3 bz2 → (∀ k, k ≠ 7 → ar3 k = ar2 k) → (∃ u, z = u ++ wd i) → (∀ j, j + (wd i).length < z.length → ar3 7 (z.length - 1 - j) = (z.getD j 0 : Nat)) → ze_V G l (ze_rm 9 0 0) M8_apart Z 58 [(0, .ref m), (1, ze_i ((a : Nat))), (2, ze_i ((b : Nat))), (3, ze_i (rr)), (4, ze_i ((q : Nat))), (5, ze_i (((wd i).length : Nat))), (6, ze_i ((i : Nat)))] [] w3 0 0 := by
        intro i
        induction i using Nat.strongRecOn with
        | _ i ih =>
          intro ar3 w3 hiq hM3 hk3' hu hd
          obtain ⟨u, hu⟩ := hu
          have hul : u.length + (wd i).length = z.length := by rw [hu, List.length_append]
          rcases Nat.eq_zero_or_pos i with h0 | h0
          · have hn0 : (wd i).length = 0 := by rw [h0, hw0]; rfl
            refine ze_iload dX8_apart_58 rfl ?_
            refine ze_if_le 92 dX8_apart_60 (by decide) (by omega) (fun q5 => ?_) (fun q5 => ?_)
            · refine ze_aload_n dX8_apart_92 rfl ?_
              refine ze_getf dX8_apart_93 fl_X8_126 (ms_o hM3) rfl ?_
              rw [← hQ]
              refine ze_ireturn rfl dX8_apart_96 ⟨_, rfl, ar3, bz2, z.length, hM3, e8, fun k k1 k2 k3 k4 => by rw [hk3' k k1]; exact hk2b k k2 k3 k4, Or.inr (Or.inr ⟨hr0, z, ⟨hal, htl, hmin, hlen⟩, rfl, rfl, fun j hj => hd j (by omega)⟩)⟩ rfl rfl
            · omega
          · obtain ⟨g1, g2, g3, g4, g5⟩ := hlk i h0 hiq
            have hli := hwl i hiq h0
            obtain ⟨L, hL⟩ : ∃ L, L = (wd (fs i)).length := ⟨_, rfl⟩
            rw [← hL] at hli
            have hsi : ss i < 1000 := by have := mch_k ha; omega
            rw [hli]
            have e21 : ar3 21 i = (fs i : Nat) := by rw [hk3' 21 (by decide)]; exact g4
            have e22 : ar3 22 i = (ss i : Nat) := by rw [hk3' 22 (by decide)]; exact g5
            change ze_V G l (ze_rm 9 0 0) M8_apart _ 58 [(0, .ref m), (1, ze_i ((a : Nat))), (2, ze_i ((b : Nat))), (3, ze_i (rr)), (4, ze_i ((q : Nat))), (5, ze_i (((L + 1 : Nat)))), (6, ze_i ((i : Nat)))] [] w3 0 0
            refine ze_iload dX8_apart_58 rfl ?_
            refine ze_if_le 92 dX8_apart_60 (by decide) (by omega) (fun q5 => ?_) (fun q5 => ?_)
            · omega
            · refine ze_iinc (b := (L : Nat)) (lv' := [(0, .ref m), (1, ze_i ((a : Nat))), (2, ze_i ((b : Nat))), (3, ze_i (rr)), (4, ze_i ((q : Nat))), (5, ze_i ((L : Nat))), (6, ze_i ((i : Nat)))]) dX8_apart_63 rfl rfl (by omega) rfl ?_
              refine ze_aload_n dX8_apart_66 rfl ?_
              refine ze_getf dX8_apart_67 fl_X8_28 (ms_o hM3) rfl ?_
              refine ze_iload dX8_apart_70 rfl ?_
              refine ze_aload_n dX8_apart_72 rfl ?_
              refine ze_getf dX8_apart_73 fl_X8_77 (ms_o hM3) rfl ?_
              refine ze_iload dX8_apart_76 rfl ?_
              refine ze_iald (j := i) dX8_apart_78 (show w3.2 (m + 22) = some (ze_ia G 18 (ar3 22)) from ms_i hM3 22 (by decide)) (by omega) (by omega) (by omega) ?_
              rw [e22]
              refine ze_iastW (j := L) (f' := va_up (ar3 7) L (((ss i : Nat) : Int))) dX8_apart_79 (show w3.2 (m + 7) = some (ze_ia G 60 (ar3 7)) from ms_i hM3 7 (by decide)) (by omega) (by omega) (by omega) rfl (fun w61 z61 c61 o61 => ?_)
              have hM61 := ms_wi hM3 7 (by decide) z61 c61 o61
              refine ze_aload_n dX8_apart_80 rfl ?_
              refine ze_getf dX8_apart_81 fl_X8_74 (ms_o hM61) rfl ?_
              refine ze_iload dX8_apart_84 rfl ?_
              have e21b : (va_up ar3 7 (va_up (ar3 7) L (((ss i : Nat) : Int)))) 21 i = (fs i : Nat) := by rw [va_up_ne _ _ (by decide)]; exact e21
              refine ze_iald (j := i) dX8_apart_86 (show w61.2 (m + 21) = some (ze_ia G 18 ((va_up ar3 7 (va_up (ar3 7) L (((ss i : Nat) : Int)))) 21)) from ms_i hM61 21 (by decide)) (by omega) (by omega) (by omega) ?_
              rw [e21b]
              refine ze_istore (lv' := [(0, .ref m), (1, ze_i ((a : Nat))), (2, ze_i ((b : Nat))), (3, ze_i (rr)), (4, ze_i ((q : Nat))), (5, ze_i ((L : Nat))), (6, ze_i ((fs i : Nat)))]) dX8_apart_87 rfl rfl ?_
              refine ze_goto 58 dX8_apart_89 (by decide) ?_
              rw [hL]
              refine ih (fs i) g1 _ _ (by omega) hM61 (fun k hk => by rw [va_up_ne _ _ hk]; exact hk3' k hk) ⟨u ++ [ss i], by rw [hu, g3, List.append_assoc]; rfl⟩ (fun j hj => ?_)
              rw [va_up_self]
              by_cases e : j = u.length
              · have hjL : z.length - 1 - j = (wd (fs i)).length := by omega
                rw [hjL, ← hL, va_up_self, e]
                have h1 : z.getD (u.length + 0) 0 = (wd i).getD 0 0 := by rw [hu]; exact getD_app
                rw [Nat.add_zero] at h1
                rw [h1, g3]
                rfl
              · rw [va_up_ne _ _ (by omega)]
                exact hd j (by omega)
      have cnt : ∀ (i c0 : Nat), i ≤ q → c0 + (wd i).length = z.length → ze_V G l (ze_rm 9 0 0) M8_apart Z 28 [(0, .ref m), (1, ze_i ((a : Nat))), (2, ze_i ((b : Nat))), (3, ze_i (rr)), (4, ze_i ((q : Nat))), (5, ze_i ((c0 : Nat))), (6, ze_i ((i : Nat)))] [] w2 0 0 := by
        intro i
        induction i using Nat.strongRecOn with
        | _ i ih =>
          intro c0 hiq hc
          rcases Nat.eq_zero_or_pos i with h0 | h0
          · have hn0 : (wd i).length = 0 := by rw [h0, hw0]; rfl
            refine ze_iload dX8_apart_28 rfl ?_
            refine ze_if_le 48 dX8_apart_30 (by decide) (by omega) (fun q5 => ?_) (fun q5 => ?_)
            · refine ze_aload_n dX8_apart_48 rfl ?_
              refine ze_iload dX8_apart_49 rfl ?_
              refine ze_ti (b := (z.length : Nat)) (by omega) ?_
              refine ze_putfW (fs' := mfs m C z.length F) dX8_apart_51 fl_X8_126 (Or.inl rfl) (ms_o hM2) rfl rfl (Nat.le_of_ble_eq_true rfl) rfl (fun w71 z71 c71 o71 => ?_)
              have hM71 := ms_wo (C' := C) (P' := z.length) (F' := F) hM2 z71 c71 o71
              have e5 : ((c0 : Nat) : Int) = ((wd q).length : Nat) := by rw [hwq]; omega
              rw [e5]
              change ze_V G l (ze_rm 9 0 0) M8_apart _ 54 [(0, .ref m), (1, ze_i ((a : Nat))), (2, ze_i ((b : Nat))), (3, ze_i (rr)), (4, ze_i ((q : Nat))), (5, ze_i (((wd q).length : Nat))), (6, ze_i ((i : Nat)))] [] w71 0 0
              refine ze_iload dX8_apart_54 rfl ?_
              refine ze_istore (lv' := [(0, .ref m), (1, ze_i ((a : Nat))), (2, ze_i ((b : Nat))), (3, ze_i (rr)), (4, ze_i ((q : Nat))), (5, ze_i (((wd q).length : Nat))), (6, ze_i ((q : Nat)))]) dX8_apart_56 rfl rfl ?_
              exact wr q ar2 _ (Nat.le_refl _) hM71 (fun k hk => rfl) ⟨[], by rw [hwq]; rfl⟩ (fun j hj => by rw [hwq] at hj; omega)
            · omega
          · obtain ⟨g1, g2, g3, g4, g5⟩ := hlk i h0 hiq
            have hli := hwl i hiq h0
            refine ze_iload dX8_apart_28 rfl ?_
            refine ze_if_le 48 dX8_apart_30 (by decide) (by omega) (fun q5 => ?_) (fun q5 => ?_)
            · omega
            · refine ze_iinc (b := ((c0 + 1 : Nat))) (lv' := [(0, .ref m), (1, ze_i ((a : Nat))), (2, ze_i ((b : Nat))), (3, ze_i (rr)), (4, ze_i ((q : Nat))), (5, ze_i (((c0 + 1 : Nat)))), (6, ze_i ((i : Nat)))]) dX8_apart_33 rfl rfl (by omega) rfl ?_
              refine ze_aload_n dX8_apart_36 rfl ?_
              refine ze_getf dX8_apart_37 fl_X8_74 (ms_o hM2) rfl ?_
              refine ze_iload dX8_apart_40 rfl ?_
              refine ze_iald (j := i) dX8_apart_42 (show w2.2 (m + 21) = some (ze_ia G 18 (ar2 21)) from ms_i hM2 21 (by decide)) (by omega) (by omega) (by omega) ?_
              rw [g4]
              refine ze_istore (lv' := [(0, .ref m), (1, ze_i ((a : Nat))), (2, ze_i ((b : Nat))), (3, ze_i (rr)), (4, ze_i ((q : Nat))), (5, ze_i (((c0 + 1 : Nat)))), (6, ze_i ((fs i : Nat)))]) dX8_apart_43 rfl rfl ?_
              refine ze_goto 28 dX8_apart_45 (by decide) ?_
              exact ih (fs i) g1 (c0 + 1) (by omega) (by omega)
      refine ze_istore (lv' := [(0, .ref m), (1, ze_i ((a : Nat))), (2, ze_i ((b : Nat))), (3, ze_i (rr)), (4, ze_i ((q : Nat)))]) dX8_apart_19 rfl rfl ?_
      refine ze_iconst dX8_apart_21 ?_
      refine ze_ti (b := ((0 : Nat) : Nat)) rfl ?_
      refine ze_istore (lv' := [(0, .ref m), (1, ze_i ((a : Nat))), (2, ze_i ((b : Nat))), (3, ze_i (rr)), (4, ze_i ((q : Nat))), (5, ze_i (((0 : Nat) : Nat)))]) dX8_apart_22 rfl rfl ?_
      refine ze_iload dX8_apart_24 rfl ?_
      refine ze_istore (lv' := [(0, .ref m), (1, ze_i ((a : Nat))), (2, ze_i ((b : Nat))), (3, ze_i (rr)), (4, ze_i ((q : Nat))), (5, ze_i (((0 : Nat) : Nat))), (6, ze_i ((q : Nat)))]) dX8_apart_26 rfl rfl ?_
      exact cnt q 0 (Nat.le_refl _) (by rw [hwq]; omega)
  · refine ze_iload_n dX8_apart_11 rfl ?_
    rw [← hQ]
    exact ze_ireturn rfl dX8_apart_12 ⟨_, rfl, ar, bz, P, hM, rfl, fun _ _ _ _ _ => rfl, Or.inl ⟨hrr, q1, rfl, rfl⟩⟩ rfl rfl
