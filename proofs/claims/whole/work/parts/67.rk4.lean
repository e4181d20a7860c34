/-! Ranking: what the bench asks for, and its constructor -/
theorem C1_putValue {G : ze_G} {l : Launch} {w0 w : ze_W} {R a b : Nat} {cv : Nat → Nat → Nat} {hr wt lk : Nat → Nat} {v : Nat → Nat → Nat} {T L v0 k : Nat} (hS : rst G w0 w R a b cv hr wt lk v) (hT : whz G w T L v0) (hTo : T + 2 ≤ R ∨ R + 665 ≤ T) (hk : k < cv a 0) (hc : cv a 0 ≤ 20) (hv : v a k < 1000000000 ^ L) : ze_C G l 2 0 0 M1_putValue [.ref R, .ref T, ze_i (k : Nat)] w (ze_qv (fun w' => bfr w w' T ∧ whz G w' T L (v a k))) := by
  have hab := rs_p hS
  refine ze_enter (by decide +kernel) rfl ?_
  change ze_V G l (ze_rm 2 0 0) M1_putValue _ 0 [(0, .ref R), (1, .ref T), (2, ze_i ((k : Nat)))] [] w 0 0
  refine ze_iload_n dX1_putValue_0 rfl ?_
  refine ze_if_lt 28 dX1_putValue_1 (by decide) (by omega) (fun q1 => ?_) (fun q1 => ?_)
  · omega
  · refine ze_iload_n dX1_putValue_4 rfl ?_
    refine ze_aload_n dX1_putValue_5 rfl ?_
    refine ze_getf dX1_putValue_6 fl_X1_19 (rs_o hS) rfl ?_
    refine ze_iconst dX1_putValue_9 ?_
    refine ze_iald (j := 0) dX1_putValue_10 (rs_c hS (k := a) (by omega)) (by omega) (by omega) (by omega) ?_
    refine ze_icmp_ge 28 dX1_putValue_11 (by decide) (by omega) (by omega) (fun q2 => ?_) (fun q2 => ?_)
    · omega
    · refine ze_aload_n dX1_putValue_14 rfl ?_
      refine ze_aload_n dX1_putValue_15 rfl ?_
      refine ze_getf dX1_putValue_16 fl_X1_13 (rs_o hS) rfl ?_
      refine ze_iconst dX1_putValue_19 ?_
      refine ze_iload_n dX1_putValue_20 rfl ?_
      change ze_V G l (ze_rm 2 0 0) M1_putValue _ 21 [(0, .ref R), (1, .ref T), (2, ze_i ((k : Nat)))] [ze_i ((k : Nat)), ze_i (((0 : Nat) : Nat)), .ref (R + 1 + 322 * a), .ref T] w 0 0
      refine ze_callS (As := [ze_i (((0 : Nat) : Nat)), ze_i ((k : Nat))]) (rest := [.ref (R + 1 + 322 * a), .ref T]) dX1_putValue_21 (C1_entry (s := 0) (r := k)) mo1_entry ml_X1_54 st_1_entry rfl rfl rfl ⟨Nat.le_refl _, Nat.le_refl _⟩ rfl (Nat.le_of_ble_eq_true rfl) ?_
      rintro _ w' ⟨r3, rfl, rfl, rfl⟩
      change ze_V G l (ze_rm 2 0 0) M1_putValue _ 24 [(0, .ref R), (1, .ref T), (2, ze_i ((k : Nat)))] [ze_i (((0 * 20 + k : Nat))), .ref (R + 1 + 322 * a), .ref T] w' 0 0
      refine ze_ti (b := (k : Nat)) (by omega) ?_
      refine ze_aald (j := k) (b := (R + 2 + 322 * a + 2 * k)) dX1_putValue_24 (rs_r hS (k := a) (by omega)) rfl (by omega) (by omega) (by omega) rfl ?_
      refine ze_callV (As := [.ref (R + 2 + 322 * a + 2 * k)]) (rest := []) dX1_putValue_25 (C5_setTo hT (rs_w hS (k := a) (i := k) (Or.inl ⟨by omega, by omega⟩)) (by omega) hv) mo5_setTo ml_X1_93 in_5_setTo se_5_setTo (whz_o hT).choose_spec rfl rfl rfl rfl rfl ⟨Nat.le_refl _, Nat.le_refl _⟩ rfl (Nat.le_of_ble_eq_true rfl) ?_
      rintro _ w1 ⟨rfl, h1, h2⟩
      exact ze_return rfl dX1_putValue_28 ⟨rfl, h1, h2⟩ rfl rfl
/-- the entry from which the trace goes on -/
def trc (ar : Nat → Nat → Int) (c P k : Nat) : Nat → Nat
  | 0 => k
  | i + 1 => lnk (btr ar c P k i)
theorem fln_ok {ar : Nat → Nat → Int} {c P K k : Nat} (hK : 1 ≤ K ∧ K ≤ 20) (hP : 0 < P) (hk : k < fln ar c P K) : k < K ∧ (bpk ar c P k).2 ≠ 0 := by
  unfold fln at hk
  rw [lnn_iff] at hk
  refine ⟨hk.1, ?_⟩
  rw [(ref_fpk (ar := ar) (c := c) (show 0 < K ∧ K ≤ 20 by omega) hP hk.1).1]
  exact hk.2 k (Nat.le_refl _)
theorem trc_ok {ar : Nat → Nat → Int} {c P K k : Nat} {cv v lk : Nat → Nat} (hK : 1 ≤ K ∧ K ≤ 20) (hP : 0 < P) (h : rkd ar c P K cv v lk) (hk : k < fln ar c P K) (hn : cn ar c ≤ 8) (i : Nat) (hi : i < P) : trc ar c P k i < 160 ∧ lk (i * 160 + trc ar c P k i) = lnk (btr ar c P k i) ∧ lnk (btr ar c P k i) / 20 = (btr ar c P k i).1 ∧ lnk (btr ar c P k i) < 160 := by
  obtain ⟨g1, g2⟩ := fln_ok hK hP hk
  have hb := btr_ok (ar := ar) (c := c) (P := P) (k := k) hP g2
  have hb2 := btr_K (ar := ar) (c := c) (P := P) (k := k)
  have q1 := hb i hi
  have q2 := hb2 i
  have q3 : lnk (btr ar c P k i) / 20 = (btr ar c P k i).1 ∧ lnk (btr ar c P k i) < 160 := by
    unfold lnk
    omega
  cases i with
  | zero =>
    refine ⟨show k < 160 by omega, ?_, q3⟩
    rw [btr_c0 (K := K) ⟨g1, hK.2⟩ hP, Nat.zero_mul, Nat.zero_add]
    exact h.2.2.1 k hk
  | succ i =>
    have q4 := hb i (by omega)
    have q5 := hb2 i
    obtain ⟨k1, k2⟩ := btr_cs (ar := ar) (c := c) (P := P) (k := k) (K := K) ⟨g1, hK.2⟩ hi g2
    refine ⟨show lnk (btr ar c P k i) < 160 by unfold lnk; omega, ?_, q3⟩
    have k3 := h.2.2.2 (P - 2 - i) (btr ar c P k i).1 (btr ar c P k i).2 (by omega) q4.1 (by rw [show P - 2 - i + 1 = P - 1 - i by omega]; exact k2)
    rw [k1]
    rw [← k3]
    show lk ((i + 1) * 160 + lnk (btr ar c P k i)) = _
    unfold lnk
    rw [show P - 1 - (P - 2 - i) = i + 1 by omega, Nat.add_assoc]
theorem C1_traceStates {G : ze_G} {l : Launch} {w0 w : ze_W} {R a b : Nat} {cv : Nat → Nat → Nat} {hr wt lk : Nat → Nat} {v : Nat → Nat → Nat} {ar : Nat → Nat → Int} {c P K k f : Nat} {ff : Nat → Int} (hS : rst G w0 w R a b cv hr wt lk v) (hf : w.2 f = some (ze_ia G 60 ff)) (hfo : f < R ∨ R + 665 ≤ f) (hK : 1 ≤ K ∧ K ≤ 20) (hP : 0 < P ∧ P ≤ 60) (hn : cn ar c ≤ 8) (h : rkd ar c P K (cv a) (v a) lk) (hk : k < fln ar c P K) : ze_C G l 0 0 0 M1_traceStates [.ref R, ze_i (k : Nat), .ref f, ze_i (P : Nat)] w (ze_qv (fun w' => w'.1 = w.1 ∧ (∀ x, x ≠ f → w'.2 x = w.2 x) ∧ ∃ ff', w'.2 f = some (ze_ia G 60 ff') ∧ ∀ i, i < P → ff' i = ((btr ar c P k i).1 : Nat))) := by
  have hab := rs_p hS
  have hg := fln_ok hK hP.1 hk
  refine ze_enter (by decide +kernel) rfl ?_
  generalize hQ : (ze_Q G (ze_qv (fun w' => w'.1 = w.1 ∧ (∀ x, x ≠ f → w'.2 x = w.2 x) ∧ ∃ ff', w'.2 f = some (ze_ia G 60 ff') ∧ ∀ i, i < P → ff' i = ((btr ar c P k i).1 : Nat))) 0 0) = Z
  have loop : ∀ (d i : Nat) (ff1 : Nat → Int) (w1 : ze_W), i + d = P → w1.1 = w.1 → (∀ x, x ≠ f → w1.2 x = w.2 x) → w1.2 f = some (ze_ia G 60 ff1) → (∀ j, j < i → ff1 j = ((btr ar c P k j).1 : Nat)) → (i = P ∨ trc ar c P k i < 160) → ze_V G l (ze_rm 0 0 0) M1_traceStates Z 6 [(0, .ref R), (1, ze_i ((k : Nat))), (2, .ref f), (3, ze_i ((P : Nat))), (4, ze_i ((trc ar c P k i : Nat))), (5, ze_i ((i : Nat)))] [] w1 0 0 := by
    intro d
    induction d with
    | zero =>
      intro i ff1 w1 hid i1 i2 hf1 i3 i4
      rw [← hQ]
      refine ze_iload dX1_traceStates_6 rfl ?_
      refine ze_iload_n dX1_traceStates_8 rfl ?_
      refine ze_icmp_ge 72 dX1_traceStates_9 (by decide) (by omega) (by omega) (fun q1 => ?_) (fun q1 => ?_)
      · exact ze_return rfl dX1_traceStates_72 ⟨rfl, i1, i2, ff1, hf1, fun j hj => i3 j (by omega)⟩ rfl rfl
      · omega
    | succ d ih =>
      intro i ff1 w1 hid i1 i2 hf1 i3 i4
      obtain ⟨t1, t2, t3, t4⟩ := trc_ok hK hP.1 h hk hn i (by omega)
      refine ze_iload dX1_traceStates_6 rfl ?_
      refine ze_iload_n dX1_traceStates_8 rfl ?_
      refine ze_icmp_ge 72 dX1_traceStates_9 (by decide) (by omega) (by omega) (fun q1 => ?_) (fun q1 => ?_)
      · omega
      · refine ze_iload dX1_traceStates_12 rfl ?_
        refine ze_aload_n dX1_traceStates_14 rfl ?_
        refine ze_alen dX1_traceStates_15 hf1 rfl ?_
        refine ze_icmp_ge 72 dX1_traceStates_16 (by decide) (by omega) (by omega) (fun q2 => ?_) (fun q2 => ?_)
        · omega
        · refine ze_iload dX1_traceStates_19 rfl ?_
          refine ze_bipush dX1_traceStates_21 (by decide) ?_
          refine ze_imul dX1_traceStates_23 ?_
          refine ze_bipush dX1_traceStates_24 (by decide) ?_
          refine ze_imul dX1_traceStates_26 ?_
          refine ze_iload dX1_traceStates_27 rfl ?_
          refine ze_iadd dX1_traceStates_29 ?_
          refine ze_ti (b := ((i * 160 + trc ar c P k i : Nat))) (by omega) ?_
          refine ze_istore (lv' := [(0, .ref R), (1, ze_i ((k : Nat))), (2, .ref f), (3, ze_i ((P : Nat))), (4, ze_i ((trc ar c P k i : Nat))), (5, ze_i ((i : Nat))), (6, ze_i (((i * 160 + trc ar c P k i : Nat))))]) dX1_traceStates_30 rfl rfl ?_
          refine ze_iload dX1_traceStates_32 rfl ?_
          refine ze_if_lt 47 dX1_traceStates_34 (by decide) (by omega) (fun q3 => ?_) (fun q3 => ?_)
          · omega
          · refine ze_iload dX1_traceStates_37 rfl ?_
            refine ze_aload_n dX1_traceStates_39 rfl ?_
            refine ze_getf dX1_traceStates_40 fl_X1_39 ((i2 R (by omega)).trans (rs_o hS)) rfl ?_
            refine ze_alen dX1_traceStates_43 ((i2 (R + 664) (by omega)).trans (rs_k hS)) rfl ?_
            refine ze_icmp_lt 48 dX1_traceStates_44 (by decide) (by omega) (by omega) (fun q4 => ?_) (fun q4 => ?_)
            · refine ze_aload_n dX1_traceStates_48 rfl ?_
              refine ze_getf dX1_traceStates_49 fl_X1_39 ((i2 R (by omega)).trans (rs_o hS)) rfl ?_
              refine ze_iload dX1_traceStates_52 rfl ?_
              refine ze_iald (j := (i * 160 + trc ar c P k i)) dX1_traceStates_54 ((i2 (R + 664) (by omega)).trans (rs_k hS)) (by omega) (by omega) (by omega) ?_
              rw [t2]
              refine ze_istore (lv' := [(0, .ref R), (1, ze_i ((k : Nat))), (2, .ref f), (3, ze_i ((P : Nat))), (4, ze_i ((lnk (btr ar c P k i) : Nat))), (5, ze_i ((i : Nat))), (6, ze_i (((i * 160 + trc ar c P k i : Nat))))]) dX1_traceStates_55 rfl rfl ?_
              refine ze_aload_n dX1_traceStates_57 rfl ?_
              refine ze_iload dX1_traceStates_58 rfl ?_
              refine ze_iload dX1_traceStates_60 rfl ?_
              refine ze_bipush dX1_traceStates_62 (by decide) ?_
              refine ze_idiv dX1_traceStates_64 (by omega) (by omega) ?_
              refine ze_ti (b := ((btr ar c P k i).1 : Nat)) (by rw [← t3]; omega) ?_
              refine ze_iastW (j := i) (f' := va_up ff1 i ((btr ar c P k i).1 : Nat)) dX1_traceStates_65 hf1 (by omega) (by omega) (by omega) rfl (fun w2 z2 c2 o2 => ?_)
              refine ze_iinc (b := ((i + 1 : Nat))) (lv' := [(0, .ref R), (1, ze_i ((k : Nat))), (2, .ref f), (3, ze_i ((P : Nat))), (4, ze_i ((lnk (btr ar c P k i) : Nat))), (5, ze_i (((i + 1 : Nat)))), (6, ze_i (((i * 160 + trc ar c P k i : Nat))))]) dX1_traceStates_66 rfl rfl (by omega) rfl ?_
              refine ze_goto 6 dX1_traceStates_69 (by decide) ?_
              refine ze_lv (lv' := [(0, .ref R), (1, ze_i ((k : Nat))), (2, .ref f), (3, ze_i ((P : Nat))), (4, ze_i ((lnk (btr ar c P k i) : Nat))), (5, ze_i (((i + 1 : Nat))))]) [0, 1, 2, 3, 4, 5] rfl ?_
              refine ih (i + 1) _ w2 (by omega) (z2.trans i1) (fun x hx => (o2 x hx).trans (i2 x hx)) c2 (fun j hj => ?_) (Or.inr t4)
              by_cases e : j = i
              · rw [e, va_up_self]
              · rw [va_up_ne _ _ e]; exact i3 j (by omega)
            · omega
  change ze_V G l (ze_rm 0 0 0) M1_traceStates Z 0 [(0, .ref R), (1, ze_i ((k : Nat))), (2, .ref f), (3, ze_i ((P : Nat)))] [] w 0 0
  refine ze_iload_n dX1_traceStates_0 rfl ?_
  refine ze_ti (b := (trc ar c P k 0 : Nat)) rfl ?_
  refine ze_istore (lv' := [(0, .ref R), (1, ze_i ((k : Nat))), (2, .ref f), (3, ze_i ((P : Nat))), (4, ze_i ((trc ar c P k 0 : Nat)))]) dX1_traceStates_1 rfl rfl ?_
  refine ze_iconst dX1_traceStates_3 ?_
  refine ze_ti (b := ((0 : Nat) : Nat)) rfl ?_
  refine ze_istore (lv' := [(0, .ref R), (1, ze_i ((k : Nat))), (2, .ref f), (3, ze_i ((P : Nat))), (4, ze_i ((trc ar c P k 0 : Nat))), (5, ze_i (((0 : Nat) : Nat)))]) dX1_traceStates_4 rfl rfl ?_
  exact loop P 0 ff w (by omega) rfl (fun _ _ => rfl) hf (fun j hj => absurd hj (Nat.not_lt_zero _)) (Or.inr (show k < 160 by omega))
def rkp (G : ze_G) (w : ze_W) (R : Nat) : Prop := ∃ (a b : Nat) (cv : Nat → Nat → Nat) (hr wt lk : Nat → Nat) (v : Nat → Nat → Nat), rst G w w R a b cv hr wt lk v
theorem C1_init {G : ze_G} {l : Launch} {w : ze_W} {R : Nat} (hb : w.2 R = some (ze_ob 1 [.null, .null, .null, .null, .null, .null, .null, .null])) (hw : w.1 = R + 1) : ze_C G l 3 664 24392 M1_init [.ref R] w (ze_qv (fun w' => w'.1 = R + 665 ∧ rkp G w' R ∧ ∀ u, u < R → w'.2 u = w.2 u)) := by
  refine ze_enter (by decide +kernel) rfl ?_
  change ze_V G l (ze_rm 3 664 24392) M1_init _ 0 [(0, .ref R)] [] w 0 0
  refine ze_aload_n dX1_init_0 rfl ?_
  refine ze_objI dX1_init_1 ml_X1_3 in_objectInit cd_objectInit rfl rfl ?_
  refine ze_aload_n dX1_init_4 rfl ?_
  refine ze_sipush dX1_init_5 (by decide) ?_
  refine ze_ti (b := ((160 : Nat) : Nat)) rfl ?_
  refine ze_callSN (As := [ze_i ((160 : Nat) : Nat)]) (rest := [.ref R]) (host := RX6) dX1_init_8 (C6_makeWholes (n := 160) (by decide)) mo6_makeWholes (fun U hK => hK.2.1.2.1) st_6_makeWholes rfl rfl rfl (by decide) rfl (Nat.le_of_ble_eq_true rfl) ?_
  rintro _ a1 ⟨_, rfl, rfl, y1, r1, h1, o1⟩
  rw [hw] at y1 r1 h1 o1 ⊢
  refine ze_putfW (fs' := [.ref (R + 1), .null, .null, .null, .null, .null, .null, .null]) dX1_init_11 fl_X1_13 (Or.inl rfl) ((o1 R (by omega)).trans hb) rfl rfl (Nat.le_of_ble_eq_true rfl) rfl (fun b1 z1 c1 p1 => ?_)
  have e1 : b1.1 = R + 322 := by rw [z1, y1]
  refine ze_aload_n dX1_init_14 rfl ?_
  refine ze_bipush dX1_init_15 (by decide) ?_
  refine ze_newiW (n := 8) dX1_init_17 rfl (by decide) (by decide) (by decide) (fun a2 y2 r2 o2 => ?_)
  rw [e1] at y2 r2 o2 ⊢
  refine ze_putfW (fs' := [.ref (R + 1), .ref (R + 322), .null, .null, .null, .null, .null, .null]) dX1_init_19 fl_X1_19 (Or.inl rfl) ((o2 R (by omega)).trans c1) rfl rfl (Nat.le_of_ble_eq_true rfl) rfl (fun b2 z2 c2 p2 => ?_)
  have e2 : b2.1 = R + 323 := by rw [z2, y2]
  refine ze_aload_n dX1_init_22 rfl ?_
  refine ze_sipush dX1_init_23 (by decide) ?_
  refine ze_ti (b := ((160 : Nat) : Nat)) rfl ?_
  refine ze_callSN (As := [ze_i ((160 : Nat) : Nat)]) (rest := [.ref R]) (host := RX6) dX1_init_26 (C6_makeWholes (n := 160) (by decide)) mo6_makeWholes (fun U hK => hK.2.1.2.1) st_6_makeWholes rfl rfl rfl (by decide) rfl (Nat.le_of_ble_eq_true rfl) ?_
  rintro _ a3 ⟨_, rfl, rfl, y3, r3, h3, o3⟩
  rw [e2] at y3 r3 h3 o3 ⊢
  refine ze_putfW (fs' := [.ref (R + 1), .ref (R + 322), .ref (R + 323), .null, .null, .null, .null, .null]) dX1_init_29 fl_X1_23 (Or.inl rfl) ((o3 R (by omega)).trans c2) rfl rfl (Nat.le_of_ble_eq_true rfl) rfl (fun b3 z3 c3 p3 => ?_)
  have e3 : b3.1 = R + 644 := by rw [z3, y3]
  refine ze_aload_n dX1_init_32 rfl ?_
  refine ze_bipush dX1_init_33 (by decide) ?_
  refine ze_newiW (n := 8) dX1_init_35 rfl (by decide) (by decide) (by decide) (fun a4 y4 r4 o4 => ?_)
  rw [e3] at y4 r4 o4 ⊢
  refine ze_putfW (fs' := [.ref (R + 1), .ref (R + 322), .ref (R + 323), .ref (R + 644), .null, .null, .null, .null]) dX1_init_37 fl_X1_26 (Or.inl rfl) ((o4 R (by omega)).trans c3) rfl rfl (Nat.le_of_ble_eq_true rfl) rfl (fun b4 z4 c4 p4 => ?_)
  have e4 : b4.1 = R + 645 := by rw [z4, y4]
  refine ze_aload_n dX1_init_40 rfl ?_
  refine ze_bipush dX1_init_41 (by decide) ?_
  refine ze_ti (b := ((8 : Nat) : Nat)) rfl ?_
  refine ze_callSN (As := [ze_i ((8 : Nat) : Nat)]) (rest := [.ref R]) (host := RX6) dX1_init_43 (C6_makeWholes (n := 8) (by decide)) mo6_makeWholes (fun U hK => hK.2.1.2.1) st_6_makeWholes rfl rfl rfl (by decide) rfl (Nat.le_of_ble_eq_true rfl) ?_
  rintro _ a5 ⟨_, rfl, rfl, y5, r5, h5, o5⟩
  rw [e4] at y5 r5 h5 o5 ⊢
  refine ze_putfW (fs' := [.ref (R + 1), .ref (R + 322), .ref (R + 323), .ref (R + 644), .ref (R + 645), .null, .null, .null]) dX1_init_46 fl_X1_29 (Or.inr ⟨rfl, rfl⟩) ((o5 R (by omega)).trans c4) rfl rfl (Nat.le_of_ble_eq_true rfl) rfl (fun b5 z5 c5 p5 => ?_)
  have e5 : b5.1 = R + 662 := by rw [z5, y5]
  refine ze_aload_n dX1_init_49 rfl ?_
  refine ze_bipush dX1_init_50 (by decide) ?_
  refine ze_newiW (n := 8) dX1_init_52 rfl (by decide) (by decide) (by decide) (fun a6 y6 r6 o6 => ?_)
  rw [e5] at y6 r6 o6 ⊢
  refine ze_putfW (fs' := [.ref (R + 1), .ref (R + 322), .ref (R + 323), .ref (R + 644), .ref (R + 645), .ref (R + 662), .null, .null]) dX1_init_54 fl_X1_32 (Or.inr ⟨rfl, rfl⟩) ((o6 R (by omega)).trans c5) rfl rfl (Nat.le_of_ble_eq_true rfl) rfl (fun b6 z6 c6 p6 => ?_)
  have e6 : b6.1 = R + 663 := by rw [z6, y6]
  refine ze_aload_n dX1_init_57 rfl ?_
  refine ze_bipush dX1_init_58 (by decide) ?_
  refine ze_newlW (n := 8) dX1_init_60 rfl (by decide) (by decide) (by decide) (fun a7 y7 r7 o7 => ?_)
  rw [e6] at y7 r7 o7 ⊢
  refine ze_putfW (fs' := [.ref (R + 1), .ref (R + 322), .ref (R + 323), .ref (R + 644), .ref (R + 645), .ref (R + 662), .ref (R + 663), .null]) dX1_init_62 fl_X1_35 (Or.inr ⟨rfl, rfl⟩) ((o7 R (by omega)).trans c6) rfl rfl (Nat.le_of_ble_eq_true rfl) rfl (fun b7 z7 c7 p7 => ?_)
  have e7 : b7.1 = R + 664 := by rw [z7, y7]
  refine ze_aload_n dX1_init_65 rfl ?_
  refine ze_sipush dX1_init_66 (by decide) ?_
  refine ze_newiW (n := 9600) dX1_init_69 rfl (by decide) (by decide) (by decide) (fun a8 y8 r8 o8 => ?_)
  rw [e7] at y8 r8 o8 ⊢
  refine ze_putfW (fs' := [.ref (R + 1), .ref (R + 322), .ref (R + 323), .ref (R + 644), .ref (R + 645), .ref (R + 662), .ref (R + 663), .ref (R + 664)]) dX1_init_71 fl_X1_39 (Or.inr ⟨rfl, rfl⟩) ((o8 R (by omega)).trans c7) rfl rfl (Nat.le_of_ble_eq_true rfl) rfl (fun b8 z8 c8 p8 => ?_)
  have e8 : b8.1 = R + 665 := by rw [z8, y8]
  have t8 : ∀ u, u ≠ R → b8.2 u = a8.2 u := p8
  have t7 : ∀ u, u ≠ R → u < R + 664 → b8.2 u = a7.2 u := fun u g1 g2 => (t8 u g1).trans ((o8 u (by omega)).trans (p7 u g1))
  have t6 : ∀ u, u ≠ R → u < R + 663 → b8.2 u = a6.2 u := fun u g1 g2 => (t7 u g1 (by omega)).trans ((o7 u (by omega)).trans (p6 u g1))
  have t5 : ∀ u, u ≠ R → u < R + 662 → b8.2 u = a5.2 u := fun u g1 g2 => (t6 u g1 (by omega)).trans ((o6 u (by omega)).trans (p5 u g1))
  have t4 : ∀ u, u ≠ R → u < R + 645 → b8.2 u = a4.2 u := fun u g1 g2 => (t5 u g1 (by omega)).trans ((o5 u (by omega)).trans (p4 u g1))
  have t3 : ∀ u, u ≠ R → u < R + 644 → b8.2 u = a3.2 u := fun u g1 g2 => (t4 u g1 (by omega)).trans ((o4 u (by omega)).trans (p3 u g1))
  have t2 : ∀ u, u ≠ R → u < R + 323 → b8.2 u = a2.2 u := fun u g1 g2 => (t3 u g1 (by omega)).trans ((o3 u (by omega)).trans (p2 u g1))
  have t1 : ∀ u, u ≠ R → u < R + 322 → b8.2 u = a1.2 u := fun u g1 g2 => (t2 u g1 (by omega)).trans ((o2 u (by omega)).trans (p1 u g1))
  refine ze_return rfl dX1_init_74 ⟨rfl, e8, ⟨0, 1, fun _ _ => 0, fun _ => 0, fun _ => 0, fun _ => 0, fun _ _ => 0, ⟨rfl, fun _ _ => rfl⟩, rfl, c8, fun k hk => ?_, (t5 _ (by omega) (by omega)).trans r5, fun k hk => ?_, (t6 _ (by omega) (by omega)).trans r6, (t7 _ (by omega) (by omega)).trans r7, (t8 _ (by omega)).trans r8, fun k i hk => ?_⟩, fun u hu => (t1 u (by omega) (by omega)).trans (o1 u (by omega))⟩ rfl rfl
  · rcases (show k = 0 ∨ k = 1 by omega) with rfl | rfl
    · exact (t1 _ (by omega) (by omega)).trans r1
    · exact (t3 _ (by omega) (by omega)).trans r3
  · rcases (show k = 0 ∨ k = 1 by omega) with rfl | rfl
    · exact (t2 _ (by omega) (by omega)).trans r2
    · exact (t4 _ (by omega) (by omega)).trans r4
  · rcases hk with ⟨g1, g2⟩ | ⟨g1, g2⟩
    · rcases (show k = 0 ∨ k = 1 by omega) with rfl | rfl
      · exact whz_sm (h1 i g2) (t1 _ (by omega) (by omega)) (t1 _ (by omega) (by omega))
      · exact whz_sm (h3 i g2) (t3 _ (by omega) (by omega)) (t3 _ (by omega) (by omega))
    · subst g1
      exact whz_sm (h5 i g2) (t5 _ (by omega) (by omega)) (t5 _ (by omega) (by omega))
