/-! Chain's writers -/
/-- nothing but the chain at p has changed -/
def cfr (w w' : ze_W) (p : Nat) : Prop := w'.1 = w.1 ∧ ∀ x, x < p ∨ p + 3 < x → w'.2 x = w.2 x
theorem ix_inj {s t q u k : Nat} (hu : u < k) (ht : t < k) (h : q * k + u = s * k + t) : q = s ∧ u = t := by
  have e1 : (q * k + u) / k = q := by rw [Nat.mul_comm, Nat.mul_add_div (by omega), Nat.div_eq_of_lt hu, Nat.add_zero]
  have e2 : (s * k + t) / k = s := by rw [Nat.mul_comm, Nat.mul_add_div (by omega), Nat.div_eq_of_lt ht, Nat.add_zero]
  have e3 : q = s := by rw [← e1, ← e2, h]
  rw [e3] at h
  exact ⟨e3, by omega⟩
theorem C0_replace {G : ze_G} {l : Launch} {w : ze_W} {A LA i : Nat} {wf : Nat → Int} {v : Int} (hA : w.2 A = some (ze_ia G LA wf)) (hi : i < LA) (hL : LA ≤ 64) : ze_C G l 0 0 0 M0_replace [.ref A, ze_i (i : Nat), ze_i v] w (ze_qi (fun r w' => r = wf i ∧ w'.1 = w.1 ∧ w'.2 A = some (ze_ia G LA (va_up wf i v)) ∧ ∀ x, x ≠ A → w'.2 x = w.2 x)) := by
  refine ze_enter (by decide +kernel) rfl ?_
  change ze_V G l (ze_rm 0 0 0) M0_replace _ 0 [(0, .ref A), (1, ze_i ((i : Nat))), (2, ze_i (v))] [] w 0 0
  refine ze_iload_n dX0_replace_0 rfl ?_
  refine ze_if_lt 10 dX0_replace_1 (by decide) (by omega) (fun q1 => ?_) (fun q1 => ?_)
  · omega
  · refine ze_iload_n dX0_replace_4 rfl ?_
    refine ze_aload_n dX0_replace_5 rfl ?_
    refine ze_alen dX0_replace_6 hA rfl ?_
    refine ze_icmp_lt 12 dX0_replace_7 (by decide) (by omega) (by omega) (fun q2 => ?_) (fun q2 => ?_)
    · refine ze_aload_n dX0_replace_12 rfl ?_
      refine ze_iload_n dX0_replace_13 rfl ?_
      refine ze_iald (j := i) dX0_replace_14 hA (by omega) (by omega) (by omega) ?_
      refine ze_istore_n (lv' := [(0, .ref A), (1, ze_i ((i : Nat))), (2, ze_i (v)), (3, ze_i (wf i))]) dX0_replace_15 rfl rfl ?_
      refine ze_aload_n dX0_replace_16 rfl ?_
      refine ze_iload_n dX0_replace_17 rfl ?_
      refine ze_iload_n dX0_replace_18 rfl ?_
      refine ze_iastW (j := i) (f' := va_up wf i v) dX0_replace_19 hA (by omega) (by omega) (by omega) rfl (fun w1 z1 c1 o1 => ?_)
      refine ze_iload_n dX0_replace_20 rfl ?_
      exact ze_ireturn rfl dX0_replace_21 ⟨_, rfl, rfl, z1, c1, o1⟩ rfl rfl
    · omega
theorem C0_putBegin {G : ze_G} {l : Launch} {w : ze_W} {ar : Nat → Nat → Int} {c p : Nat} {s v : Nat} (h : chr G w ar c p) (hsn : s < cn ar c) (hv : v ≤ ct ar c) : ze_C G l 1 0 0 M0_putBegin [.ref p, ze_i (s : Nat), ze_i (v : Nat)] w (ze_qi (fun r w' => r = ar 4 (c * 8 + s) ∧ cfr w w' p ∧ chr G w' (va_up ar 4 (va_up (ar 4) (c * 8 + s) ((v : Nat) : Int))) c p)) := by
  obtain ⟨hK, hp, bf, gf, sf, hb, hg, hs, eb, eg, es⟩ := id h
  obtain ⟨en, n1, n8⟩ := mch_n hK
  obtain ⟨ek, k1, k6⟩ := mch_k hK
  have hnn := ix_64 n8 n8
  have hnk := ix_64 n8 (show ck ar c ≤ 8 by omega)
  obtain ⟨et, t1, t1000⟩ := mch_t hK
  refine ze_enter (by decide +kernel) rfl ?_
  change ze_V G l (ze_rm 1 0 0) M0_putBegin _ 0 [(0, .ref p), (1, ze_i ((s : Nat))), (2, ze_i ((v : Nat)))] [] w 0 0
  refine ze_aload_n dX0_putBegin_0 rfl ?_
  refine ze_iload_n dX0_putBegin_1 rfl ?_
  refine ze_callV (As := [ze_i ((s : Nat))]) (rest := []) dX0_putBegin_2 (C0_hasState h (by omega)) mo0_hasState ml_X0_40 in_0_hasState se_0_hasState hp rfl rfl rfl rfl rfl ⟨Nat.le_refl _, Nat.le_refl _⟩ rfl (Nat.le_of_ble_eq_true rfl) ?_
  rintro _ w' ⟨r1, rfl, rfl, rfl⟩
  change ze_V G l (ze_rm 1 0 0) M0_putBegin _ 5 [(0, .ref p), (1, ze_i ((s : Nat))), (2, ze_i ((v : Nat)))] [ze_i (bi (0 ≤ ((s : Nat) : Int) ∧ ((s : Nat) : Int) < ((cn ar c : Nat) : Int)))] w' 0 0
  refine ze_if_eq 20 dX0_putBegin_5 (by decide) (bi_rng _) (fun q2 => ?_) (fun q2 => ?_)
  · rw [bi_z] at q2
    omega
  · refine ze_aload_n dX0_putBegin_8 rfl ?_
    refine ze_getf dX0_putBegin_9 fl_X0_30 hp rfl ?_
    refine ze_iload_n dX0_putBegin_12 rfl ?_
    refine ze_iload_n dX0_putBegin_13 rfl ?_
    refine ze_callS (As := [.ref (p + 1), ze_i ((s : Nat)), ze_i ((v : Nat))]) (rest := []) dX0_putBegin_14 (C0_replace (i := s) (v := ((v : Nat) : Int)) hb hsn (by omega)) mo0_replace ml_X0_57 st_0_replace rfl rfl rfl ⟨Nat.le_refl _, Nat.le_refl _⟩ rfl (Nat.le_of_ble_eq_true rfl) ?_
    rintro _ w2 ⟨r9, rfl, rfl, z2, c2, o2⟩
    change ze_V G l (ze_rm 1 0 0) M0_putBegin _ 17 [(0, .ref p), (1, ze_i ((s : Nat))), (2, ze_i ((v : Nat)))] [ze_i (bf s)] w2 0 0
    refine ze_goto 21 dX0_putBegin_17 (by decide) ?_
    have hK2 : mch (va_up ar 4 (va_up (ar 4) (c * 8 + s) ((v : Nat) : Int))) c := by
      refine ⟨hK.1, hK.2.1, hK.2.2.1, fun q hq => ?_, hK.2.2.2.2.1, hK.2.2.2.2.2⟩
      rw [va_up_self, va_up_ne (k := 4) (j := 3) _ _ (by decide)]
      by_cases e : q = s
      · rw [e, va_up_self]; omega
      · rw [va_up_ne _ _ (by omega)]; exact hK.2.2.2.1 q hq
    refine ze_ireturn rfl dX0_putBegin_21 ⟨_, rfl, by rw [eb s hsn]; exact (mch_b hK (by omega)).1.symm, ⟨z2, fun x hx => o2 x (by omega)⟩, hK2, (o2 p (by omega)).trans hp, va_up bf s ((v : Nat) : Int), gf, sf, c2, (o2 _ (by omega)).trans hg, (o2 _ (by omega)).trans hs, fun q hq => ?_, eg, es⟩ rfl rfl
    unfold cb
    rw [va_up_self]
    by_cases e : q = s
    · rw [e, va_up_self, va_up_self]; rfl
    · rw [va_up_ne _ _ e, va_up_ne _ _ (by omega)]; exact eb q hq
theorem C0_putGo {G : ze_G} {l : Launch} {w : ze_W} {ar : Nat → Nat → Int} {c p : Nat} {s t v : Nat} (h : chr G w ar c p) (hsn : s < cn ar c) (htn : t < cn ar c) (hv : v ≤ ct ar c) : ze_C G l 1 0 0 M0_putGo [.ref p, ze_i (s : Nat), ze_i (t : Nat), ze_i (v : Nat)] w (ze_qi (fun r w' => r = ar 5 ((c * 8 + s) * 8 + t) ∧ cfr w w' p ∧ chr G w' (va_up ar 5 (va_up (ar 5) ((c * 8 + s) * 8 + t) ((v : Nat) : Int))) c p)) := by
  obtain ⟨hK, hp, bf, gf, sf, hb, hg, hs, eb, eg, es⟩ := id h
  obtain ⟨en, n1, n8⟩ := mch_n hK
  obtain ⟨ek, k1, k6⟩ := mch_k hK
  have hnn := ix_64 n8 n8
  have hnk := ix_64 n8 (show ck ar c ≤ 8 by omega)
  obtain ⟨et, t1, t1000⟩ := mch_t hK
  have hix := ix_lt hsn htn
  refine ze_enter (by decide +kernel) rfl ?_
  change ze_V G l (ze_rm 1 0 0) M0_putGo _ 0 [(0, .ref p), (1, ze_i ((s : Nat))), (2, ze_i ((t : Nat))), (3, ze_i ((v : Nat)))] [] w 0 0
  refine ze_aload_n dX0_putGo_0 rfl ?_
  refine ze_iload_n dX0_putGo_1 rfl ?_
  refine ze_callV (As := [ze_i ((s : Nat))]) (rest := []) dX0_putGo_2 (C0_hasState h (by omega)) mo0_hasState ml_X0_40 in_0_hasState se_0_hasState hp rfl rfl rfl rfl rfl ⟨Nat.le_refl _, Nat.le_refl _⟩ rfl (Nat.le_of_ble_eq_true rfl) ?_
  rintro _ w' ⟨r1, rfl, rfl, rfl⟩
  change ze_V G l (ze_rm 1 0 0) M0_putGo _ 5 [(0, .ref p), (1, ze_i ((s : Nat))), (2, ze_i ((t : Nat))), (3, ze_i ((v : Nat)))] [ze_i (bi (0 ≤ ((s : Nat) : Int) ∧ ((s : Nat) : Int) < ((cn ar c : Nat) : Int)))] w' 0 0
  refine ze_if_eq 35 dX0_putGo_5 (by decide) (bi_rng _) (fun q2 => ?_) (fun q2 => ?_)
  · rw [bi_z] at q2
    omega
  · refine ze_aload_n dX0_putGo_8 rfl ?_
    refine ze_iload_n dX0_putGo_9 rfl ?_
    refine ze_callV (As := [ze_i ((t : Nat))]) (rest := []) dX0_putGo_10 (C0_hasState h (by omega)) mo0_hasState ml_X0_40 in_0_hasState se_0_hasState hp rfl rfl rfl rfl rfl ⟨Nat.le_refl _, Nat.le_refl _⟩ rfl (Nat.le_of_ble_eq_true rfl) ?_
    rintro _ w' ⟨r3, rfl, rfl, rfl⟩
    change ze_V G l (ze_rm 1 0 0) M0_putGo _ 13 [(0, .ref p), (1, ze_i ((s : Nat))), (2, ze_i ((t : Nat))), (3, ze_i ((v : Nat)))] [ze_i (bi (0 ≤ ((t : Nat) : Int) ∧ ((t : Nat) : Int) < ((cn ar c : Nat) : Int)))] w' 0 0
    refine ze_if_eq 35 dX0_putGo_13 (by decide) (bi_rng _) (fun q4 => ?_) (fun q4 => ?_)
    · rw [bi_z] at q4
      omega
    · refine ze_aload_n dX0_putGo_16 rfl ?_
      refine ze_getf dX0_putGo_17 fl_X0_34 hp rfl ?_
      refine ze_iload_n dX0_putGo_20 rfl ?_
      refine ze_aload_n dX0_putGo_21 rfl ?_
      refine ze_getf dX0_putGo_22 fl_X0_18 hp rfl ?_
      refine ze_imul dX0_putGo_25 ?_
      refine ze_iload_n dX0_putGo_26 rfl ?_
      refine ze_iadd dX0_putGo_27 ?_
      refine ze_ti (b := ((s * cn ar c + t : Nat))) ix_eq ?_
      refine ze_iload_n dX0_putGo_28 rfl ?_
      refine ze_callS (As := [.ref (p + 2), ze_i (((s * cn ar c + t : Nat))), ze_i ((v : Nat))]) (rest := []) dX0_putGo_29 (C0_replace (i := s * cn ar c + t) (v := ((v : Nat) : Int)) hg hix (by omega)) mo0_replace ml_X0_57 st_0_replace rfl rfl rfl ⟨Nat.le_refl _, Nat.le_refl _⟩ rfl (Nat.le_of_ble_eq_true rfl) ?_
      rintro _ w2 ⟨r9, rfl, rfl, z2, c2, o2⟩
      change ze_V G l (ze_rm 1 0 0) M0_putGo _ 32 [(0, .ref p), (1, ze_i ((s : Nat))), (2, ze_i ((t : Nat))), (3, ze_i ((v : Nat)))] [ze_i (gf (s * cn ar c + t))] w2 0 0
      refine ze_goto 36 dX0_putGo_32 (by decide) ?_
      have hK2 : mch (va_up ar 5 (va_up (ar 5) ((c * 8 + s) * 8 + t) ((v : Nat) : Int))) c := by
        refine ⟨hK.1, hK.2.1, hK.2.2.1, hK.2.2.2.1, fun q u hq hu => ?_, hK.2.2.2.2.2⟩
        rw [va_up_self, va_up_ne (k := 5) (j := 3) _ _ (by decide)]
        by_cases e : q = s ∧ u = t
        · rw [e.1, e.2, va_up_self]; omega
        · rw [va_up_ne _ _ (by omega)]; exact hK.2.2.2.2.1 q u hq hu
      refine ze_ireturn rfl dX0_putGo_36 ⟨_, rfl, by rw [eg s t hsn htn]; exact (mch_g hK (by omega) (by omega)).1.symm, ⟨z2, fun x hx => o2 x (by omega)⟩, hK2, (o2 p (by omega)).trans hp, bf, va_up gf (s * cn ar c + t) ((v : Nat) : Int), sf, (o2 _ (by omega)).trans hb, c2, (o2 _ (by omega)).trans hs, eb, fun q u hq hu => ?_, es⟩ rfl rfl
      have hq : q < cn ar c := hq
      have hu : u < cn ar c := hu
      show va_up gf (s * cn ar c + t) ((v : Nat) : Int) (q * cn ar c + u) = _
      unfold cg
      rw [va_up_self]
      by_cases e : q = s ∧ u = t
      · rw [e.1, e.2, va_up_self, va_up_self]; rfl
      · rw [va_up_ne _ _ (fun h9 => e (ix_inj hu htn h9)), va_up_ne _ _ (by omega)]; exact eg q u hq hu
theorem C0_putShow {G : ze_G} {l : Launch} {w : ze_W} {ar : Nat → Nat → Int} {c p : Nat} {s t v : Nat} (h : chr G w ar c p) (hsn : s < cn ar c) (htn : t < ck ar c) (hv : v ≤ ct ar c) : ze_C G l 1 0 0 M0_putShow [.ref p, ze_i (s : Nat), ze_i (t : Nat), ze_i (v : Nat)] w (ze_qi (fun r w' => r = ar 6 ((c * 8 + s) * 6 + t) ∧ cfr w w' p ∧ chr G w' (va_up ar 6 (va_up (ar 6) ((c * 8 + s) * 6 + t) ((v : Nat) : Int))) c p)) := by
  obtain ⟨hK, hp, bf, gf, sf, hb, hg, hs, eb, eg, es⟩ := id h
  obtain ⟨en, n1, n8⟩ := mch_n hK
  obtain ⟨ek, k1, k6⟩ := mch_k hK
  have hnn := ix_64 n8 n8
  have hnk := ix_64 n8 (show ck ar c ≤ 8 by omega)
  obtain ⟨et, t1, t1000⟩ := mch_t hK
  have hix := ix_lt hsn htn
  refine ze_enter (by decide +kernel) rfl ?_
  change ze_V G l (ze_rm 1 0 0) M0_putShow _ 0 [(0, .ref p), (1, ze_i ((s : Nat))), (2, ze_i ((t : Nat))), (3, ze_i ((v : Nat)))] [] w 0 0
  refine ze_aload_n dX0_putShow_0 rfl ?_
  refine ze_iload_n dX0_putShow_1 rfl ?_
  refine ze_callV (As := [ze_i ((s : Nat))]) (rest := []) dX0_putShow_2 (C0_hasState h (by omega)) mo0_hasState ml_X0_40 in_0_hasState se_0_hasState hp rfl rfl rfl rfl rfl ⟨Nat.le_refl _, Nat.le_refl _⟩ rfl (Nat.le_of_ble_eq_true rfl) ?_
  rintro _ w' ⟨r1, rfl, rfl, rfl⟩
  change ze_V G l (ze_rm 1 0 0) M0_putShow _ 5 [(0, .ref p), (1, ze_i ((s : Nat))), (2, ze_i ((t : Nat))), (3, ze_i ((v : Nat)))] [ze_i (bi (0 ≤ ((s : Nat) : Int) ∧ ((s : Nat) : Int) < ((cn ar c : Nat) : Int)))] w' 0 0
  refine ze_if_eq 35 dX0_putShow_5 (by decide) (bi_rng _) (fun q2 => ?_) (fun q2 => ?_)
  · rw [bi_z] at q2
    omega
  · refine ze_aload_n dX0_putShow_8 rfl ?_
    refine ze_iload_n dX0_putShow_9 rfl ?_
    refine ze_callV (As := [ze_i ((t : Nat))]) (rest := []) dX0_putShow_10 (C0_hasSign h (by omega)) mo0_hasSign ml_X0_44 in_0_hasSign se_0_hasSign hp rfl rfl rfl rfl rfl ⟨Nat.le_refl _, Nat.le_refl _⟩ rfl (Nat.le_of_ble_eq_true rfl) ?_
    rintro _ w' ⟨r3, rfl, rfl, rfl⟩
    change ze_V G l (ze_rm 1 0 0) M0_putShow _ 13 [(0, .ref p), (1, ze_i ((s : Nat))), (2, ze_i ((t : Nat))), (3, ze_i ((v : Nat)))] [ze_i (bi (0 ≤ ((t : Nat) : Int) ∧ ((t : Nat) : Int) < ((ck ar c : Nat) : Int)))] w' 0 0
    refine ze_if_eq 35 dX0_putShow_13 (by decide) (bi_rng _) (fun q4 => ?_) (fun q4 => ?_)
    · rw [bi_z] at q4
      omega
    · refine ze_aload_n dX0_putShow_16 rfl ?_
      refine ze_getf dX0_putShow_17 fl_X0_37 hp rfl ?_
      refine ze_iload_n dX0_putShow_20 rfl ?_
      refine ze_aload_n dX0_putShow_21 rfl ?_
      refine ze_getf dX0_putShow_22 fl_X0_24 hp rfl ?_
      refine ze_imul dX0_putShow_25 ?_
      refine ze_iload_n dX0_putShow_26 rfl ?_
      refine ze_iadd dX0_putShow_27 ?_
      refine ze_ti (b := ((s * ck ar c + t : Nat))) ix_eq ?_
      refine ze_iload_n dX0_putShow_28 rfl ?_
      refine ze_callS (As := [.ref (p + 3), ze_i (((s * ck ar c + t : Nat))), ze_i ((v : Nat))]) (rest := []) dX0_putShow_29 (C0_replace (i := s * ck ar c + t) (v := ((v : Nat) : Int)) hs hix (by omega)) mo0_replace ml_X0_57 st_0_replace rfl rfl rfl ⟨Nat.le_refl _, Nat.le_refl _⟩ rfl (Nat.le_of_ble_eq_true rfl) ?_
      rintro _ w2 ⟨r9, rfl, rfl, z2, c2, o2⟩
      change ze_V G l (ze_rm 1 0 0) M0_putShow _ 32 [(0, .ref p), (1, ze_i ((s : Nat))), (2, ze_i ((t : Nat))), (3, ze_i ((v : Nat)))] [ze_i (sf (s * ck ar c + t))] w2 0 0
      refine ze_goto 36 dX0_putShow_32 (by decide) ?_
      have hK2 : mch (va_up ar 6 (va_up (ar 6) ((c * 8 + s) * 6 + t) ((v : Nat) : Int))) c := by
        refine ⟨hK.1, hK.2.1, hK.2.2.1, hK.2.2.2.1, hK.2.2.2.2.1, fun q u hq hu => ?_⟩
        rw [va_up_self, va_up_ne (k := 6) (j := 3) _ _ (by decide)]
        by_cases e : q = s ∧ u = t
        · rw [e.1, e.2, va_up_self]; omega
        · rw [va_up_ne _ _ (by omega)]; exact hK.2.2.2.2.2 q u hq hu
      refine ze_ireturn rfl dX0_putShow_36 ⟨_, rfl, by rw [es s t hsn htn]; exact (mch_w hK (by omega) (by omega)).1.symm, ⟨z2, fun x hx => o2 x (by omega)⟩, hK2, (o2 p (by omega)).trans hp, bf, gf, va_up sf (s * ck ar c + t) ((v : Nat) : Int), (o2 _ (by omega)).trans hb, (o2 _ (by omega)).trans hg, c2, eb, eg, fun q u hq hu => ?_⟩ rfl rfl
      have hq : q < cn ar c := hq
      have hu : u < ck ar c := hu
      show va_up sf (s * ck ar c + t) ((v : Nat) : Int) (q * ck ar c + u) = _
      unfold cw
      rw [va_up_self]
      by_cases e : q = s ∧ u = t
      · rw [e.1, e.2, va_up_self, va_up_self]; rfl
      · rw [va_up_ne _ _ (fun h9 => e (ix_inj hu htn h9)), va_up_ne _ _ (by omega)]; exact es q u hq hu
