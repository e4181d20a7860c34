/-! SignRow's writers -/
theorem C2_append {G : ze_G} {l : Launch} {w : ze_W} {ar : Nat → Nat → Int} {P p : Nat} {x : Int} (h : srw G w ar P p) (hP : P < 60) : ze_C G l 1 0 0 M2_append [.ref p, ze_i x] w (ze_qv (fun w' => bfr w w' p ∧ srw G w' (va_up ar 7 (va_up (ar 7) P x)) (P + 1) p)) := by
  obtain ⟨-, hp, rf, hr, er⟩ := id h
  refine ze_enter (by decide +kernel) rfl ?_
  change ze_V G l (ze_rm 1 0 0) M2_append _ 0 [(0, .ref p), (1, ze_i (x))] [] w 0 0
  refine ze_aload_n dX2_append_0 rfl ?_
  refine ze_callV (As := []) (rest := []) dX2_append_1 (C2_isFull h) mo2_isFull ml_X2_23 in_2_isFull se_2_isFull hp rfl rfl rfl rfl rfl ⟨Nat.le_refl _, Nat.le_refl _⟩ rfl (Nat.le_of_ble_eq_true rfl) ?_
  rintro _ w' ⟨r1, rfl, rfl, rfl⟩
  change ze_V G l (ze_rm 1 0 0) M2_append _ 4 [(0, .ref p), (1, ze_i (x))] [ze_i (bi (60 ≤ P))] w' 0 0
  refine ze_if_ne 27 dX2_append_4 (by decide) (bi_rng _) (fun q1 => ?_) (fun q1 => ?_)
  · rw [bi_n] at q1
    omega
  · refine ze_aload_n dX2_append_7 rfl ?_
    refine ze_getf dX2_append_8 fl_X2_9 hp rfl ?_
    refine ze_aload_n dX2_append_11 rfl ?_
    refine ze_getf dX2_append_12 fl_X2_15 hp rfl ?_
    refine ze_iload_n dX2_append_15 rfl ?_
    refine ze_iastW (j := P) (f' := va_up rf P x) dX2_append_16 hr (by omega) (by omega) (by omega) rfl (fun w1 z1 c1 o1 => ?_)
    have h1_0 := (o1 p (by omega)).trans hp
    refine ze_aload_n dX2_append_17 rfl ?_
    refine ze_dup dX2_append_18 rfl ?_
    refine ze_getf dX2_append_19 fl_X2_15 h1_0 rfl ?_
    refine ze_iconst dX2_append_22 ?_
    refine ze_iadd dX2_append_23 ?_
    refine ze_ti (b := ((P + 1 : Nat))) (by omega) ?_
    refine ze_putfW (fs' := [.ref (p + 1), ze_i (((P + 1 : Nat)))]) dX2_append_24 fl_X2_15 (Or.inl rfl) h1_0 rfl rfl (Nat.le_of_ble_eq_true rfl) rfl (fun w2 z2 c2 o2 => ?_)
    have h2_1 := (o2 (p + 1) (by omega)).trans c1
    refine ze_return rfl dX2_append_27 ⟨rfl, ⟨z2.trans z1, fun y g1 g2 => (o2 y g1).trans (o1 y g2)⟩, by omega, c2, va_up rf P x, h2_1, fun i hi => ?_⟩ rfl rfl
    rw [va_up_self]
    by_cases e : i = P
    · rw [e, va_up_self, va_up_self]
    · rw [va_up_ne _ _ e, va_up_ne _ _ e]
      exact er i (by omega)
theorem C2_shorten {G : ze_G} {l : Launch} {w : ze_W} {ar : Nat → Nat → Int} {P p : Nat} {n : Nat} (h : srw G w ar P p) (hn : n ≤ P) : ze_C G l 0 0 0 M2_shorten [.ref p, ze_i (n : Nat)] w (ze_qv (fun w' => bfr w w' p ∧ srw G w' ar n p)) := by
  obtain ⟨hP, hp, rf, hr, er⟩ := id h
  refine ze_enter (by decide +kernel) rfl ?_
  change ze_V G l (ze_rm 0 0 0) M2_shorten _ 0 [(0, .ref p), (1, ze_i ((n : Nat)))] [] w 0 0
  refine ze_iload_n dX2_shorten_0 rfl ?_
  refine ze_if_lt 17 dX2_shorten_1 (by decide) (by omega) (fun q1 => ?_) (fun q1 => ?_)
  · omega
  · refine ze_iload_n dX2_shorten_4 rfl ?_
    refine ze_aload_n dX2_shorten_5 rfl ?_
    refine ze_getf dX2_shorten_6 fl_X2_15 hp rfl ?_
    refine ze_icmp_ge 17 dX2_shorten_9 (by decide) (by omega) (by omega) (fun q2 => ?_) (fun q2 => ?_)
    · have hnP : n = P := by omega
      rw [hnP]
      exact ze_return rfl dX2_shorten_17 ⟨rfl, bfr.rf _ _, h⟩ rfl rfl
    · refine ze_aload_n dX2_shorten_12 rfl ?_
      refine ze_iload_n dX2_shorten_13 rfl ?_
      refine ze_putfW (fs' := [.ref (p + 1), ze_i ((n : Nat))]) dX2_shorten_14 fl_X2_15 (Or.inl rfl) hp rfl rfl (Nat.le_of_ble_eq_true rfl) rfl (fun w1 z1 c1 o1 => ?_)
      have h1_1 := (o1 (p + 1) (by omega)).trans hr
      exact ze_return rfl dX2_shorten_17 ⟨rfl, ⟨z1, fun y g1 g2 => o1 y g1⟩, by omega, c1, rf, h1_1, fun i hi => er i (by omega)⟩ rfl rfl
