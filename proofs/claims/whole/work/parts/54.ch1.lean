/-! Chain and SignRow: pictures by the reference's rows, readers -/
/-- the chain c of the reference as the class has it, at p -/
def chr (G : ze_G) (w : ze_W) (ar : Nat → Nat → Int) (c p : Nat) : Prop := mch ar c ∧ w.2 p = some (ze_ob 0 [ze_i (cn ar c : Nat), ze_i (ck ar c : Nat), ze_i (ct ar c : Nat), .ref (p + 1), .ref (p + 2), .ref (p + 3)]) ∧ ∃ bf gf sf : Nat → Int, w.2 (p + 1) = some (ze_ia G (cn ar c) bf) ∧ w.2 (p + 2) = some (ze_ia G (cn ar c * cn ar c) gf) ∧ w.2 (p + 3) = some (ze_ia G (cn ar c * ck ar c) sf) ∧ (∀ s, s < cn ar c → bf s = (cb ar c s : Nat)) ∧ (∀ s t, s < cn ar c → t < cn ar c → gf (s * cn ar c + t) = (cg ar c s t : Nat)) ∧ ∀ s x, s < cn ar c → x < ck ar c → sf (s * ck ar c + x) = (cw ar c s x : Nat)
/-- the row of signs, at p -/
def srw (G : ze_G) (w : ze_W) (ar : Nat → Nat → Int) (P p : Nat) : Prop := P ≤ 60 ∧ w.2 p = some (ze_ob 2 [.ref (p + 1), ze_i (P : Nat)]) ∧ ∃ rf : Nat → Int, w.2 (p + 1) = some (ze_ia G 60 rf) ∧ ∀ i, i < P → rf i = ar 7 i
theorem ix_lt {s t n k : Nat} (hs : s < n) (ht : t < k) : s * k + t < n * k := by
  have : (s + 1) * k ≤ n * k := Nat.mul_le_mul_right _ hs
  rw [Nat.add_mul, Nat.one_mul] at this
  omega
theorem ix_64 {n k : Nat} (hn : n ≤ 8) (hk : k ≤ 8) : n * k ≤ 64 := Nat.mul_le_mul hn hk
theorem ix_eq {s t k : Nat} : ((s : Nat) : Int) * ((k : Nat) : Int) + ((t : Nat) : Int) = ((s * k + t : Nat) : Int) := by rw [Int.natCast_add, Int.natCast_mul]
theorem C0_hasState {G : ze_G} {l : Launch} {w : ze_W} {ar : Nat → Nat → Int} {c p : Nat} {s : Int} (h : chr G w ar c p) (r_s : -2147483648 ≤ s ∧ s < 2147483648) : ze_C G l 0 0 0 M0_hasState [.ref p, ze_i s] w (ze_qi (fun r w' => r = bi (0 ≤ s ∧ s < ((cn ar c : Nat) : Int)) ∧ w' = w)) := by
  obtain ⟨hK, hp, bf, gf, sf, hb, hg, hs, eb, eg, es⟩ := id h
  obtain ⟨en, n1, n8⟩ := mch_n hK
  obtain ⟨ek, k1, k6⟩ := mch_k hK
  obtain ⟨et, t1, t1000⟩ := mch_t hK
  have hnn := ix_64 n8 n8
  have hnk := ix_64 n8 (show ck ar c ≤ 8 by omega)
  refine ze_enter (by decide +kernel) rfl ?_
  change ze_V G l (ze_rm 0 0 0) M0_hasState _ 0 [(0, .ref p), (1, ze_i (s))] [] w 0 0
  refine ze_iload_n dX0_hasState_0 rfl ?_
  refine ze_if_lt 16 dX0_hasState_1 (by decide) (by omega) (fun q1 => ?_) (fun q1 => ?_)
  · refine ze_iconst dX0_hasState_16 ?_
    exact ze_zreturn rfl dX0_hasState_17 (by decide) ⟨_, rfl, bi_f (by omega), rfl⟩ rfl rfl
  · refine ze_iload_n dX0_hasState_4 rfl ?_
    refine ze_aload_n dX0_hasState_5 rfl ?_
    refine ze_getf dX0_hasState_6 fl_X0_18 hp rfl ?_
    refine ze_icmp_ge 16 dX0_hasState_9 (by decide) (by omega) (by omega) (fun q2 => ?_) (fun q2 => ?_)
    · refine ze_iconst dX0_hasState_16 ?_
      exact ze_zreturn rfl dX0_hasState_17 (by decide) ⟨_, rfl, bi_f (by omega), rfl⟩ rfl rfl
    · refine ze_iconst dX0_hasState_12 ?_
      refine ze_goto 17 dX0_hasState_13 (by decide) ?_
      exact ze_zreturn rfl dX0_hasState_17 (by decide) ⟨_, rfl, bi_t (by omega), rfl⟩ rfl rfl
theorem C0_hasSign {G : ze_G} {l : Launch} {w : ze_W} {ar : Nat → Nat → Int} {c p : Nat} {s : Int} (h : chr G w ar c p) (r_s : -2147483648 ≤ s ∧ s < 2147483648) : ze_C G l 0 0 0 M0_hasSign [.ref p, ze_i s] w (ze_qi (fun r w' => r = bi (0 ≤ s ∧ s < ((ck ar c : Nat) : Int)) ∧ w' = w)) := by
  obtain ⟨hK, hp, bf, gf, sf, hb, hg, hs, eb, eg, es⟩ := id h
  obtain ⟨en, n1, n8⟩ := mch_n hK
  obtain ⟨ek, k1, k6⟩ := mch_k hK
  obtain ⟨et, t1, t1000⟩ := mch_t hK
  have hnn := ix_64 n8 n8
  have hnk := ix_64 n8 (show ck ar c ≤ 8 by omega)
  refine ze_enter (by decide +kernel) rfl ?_
  change ze_V G l (ze_rm 0 0 0) M0_hasSign _ 0 [(0, .ref p), (1, ze_i (s))] [] w 0 0
  refine ze_iload_n dX0_hasSign_0 rfl ?_
  refine ze_if_lt 16 dX0_hasSign_1 (by decide) (by omega) (fun q1 => ?_) (fun q1 => ?_)
  · refine ze_iconst dX0_hasSign_16 ?_
    exact ze_zreturn rfl dX0_hasSign_17 (by decide) ⟨_, rfl, bi_f (by omega), rfl⟩ rfl rfl
  · refine ze_iload_n dX0_hasSign_4 rfl ?_
    refine ze_aload_n dX0_hasSign_5 rfl ?_
    refine ze_getf dX0_hasSign_6 fl_X0_24 hp rfl ?_
    refine ze_icmp_ge 16 dX0_hasSign_9 (by decide) (by omega) (by omega) (fun q2 => ?_) (fun q2 => ?_)
    · refine ze_iconst dX0_hasSign_16 ?_
      exact ze_zreturn rfl dX0_hasSign_17 (by decide) ⟨_, rfl, bi_f (by omega), rfl⟩ rfl rfl
    · refine ze_iconst dX0_hasSign_12 ?_
      refine ze_goto 17 dX0_hasSign_13 (by decide) ?_
      exact ze_zreturn rfl dX0_hasSign_17 (by decide) ⟨_, rfl, bi_t (by omega), rfl⟩ rfl rfl
theorem C0_hasWeight {G : ze_G} {l : Launch} {w : ze_W} {ar : Nat → Nat → Int} {c p : Nat} {s : Int} (h : chr G w ar c p) (r_s : -2147483648 ≤ s ∧ s < 2147483648) : ze_C G l 0 0 0 M0_hasWeight [.ref p, ze_i s] w (ze_qi (fun r w' => r = bi (0 ≤ s ∧ s ≤ ((ct ar c : Nat) : Int)) ∧ w' = w)) := by
  obtain ⟨hK, hp, bf, gf, sf, hb, hg, hs, eb, eg, es⟩ := id h
  obtain ⟨en, n1, n8⟩ := mch_n hK
  obtain ⟨ek, k1, k6⟩ := mch_k hK
  obtain ⟨et, t1, t1000⟩ := mch_t hK
  have hnn := ix_64 n8 n8
  have hnk := ix_64 n8 (show ck ar c ≤ 8 by omega)
  refine ze_enter (by decide +kernel) rfl ?_
  change ze_V G l (ze_rm 0 0 0) M0_hasWeight _ 0 [(0, .ref p), (1, ze_i (s))] [] w 0 0
  refine ze_iload_n dX0_hasWeight_0 rfl ?_
  refine ze_if_lt 16 dX0_hasWeight_1 (by decide) (by omega) (fun q1 => ?_) (fun q1 => ?_)
  · refine ze_iconst dX0_hasWeight_16 ?_
    exact ze_zreturn rfl dX0_hasWeight_17 (by decide) ⟨_, rfl, bi_f (by omega), rfl⟩ rfl rfl
  · refine ze_iload_n dX0_hasWeight_4 rfl ?_
    refine ze_aload_n dX0_hasWeight_5 rfl ?_
    refine ze_getf dX0_hasWeight_6 fl_X0_27 hp rfl ?_
    refine ze_icmp_gt 16 dX0_hasWeight_9 (by decide) (by omega) (by omega) (fun q2 => ?_) (fun q2 => ?_)
    · refine ze_iconst dX0_hasWeight_16 ?_
      exact ze_zreturn rfl dX0_hasWeight_17 (by decide) ⟨_, rfl, bi_f (by omega), rfl⟩ rfl rfl
    · refine ze_iconst dX0_hasWeight_12 ?_
      refine ze_goto 17 dX0_hasWeight_13 (by decide) ?_
      exact ze_zreturn rfl dX0_hasWeight_17 (by decide) ⟨_, rfl, bi_t (by omega), rfl⟩ rfl rfl
theorem C0_beginOf {G : ze_G} {l : Launch} {w : ze_W} {ar : Nat → Nat → Int} {c p : Nat} {s : Nat} (h : chr G w ar c p) (hsn : s < cn ar c) : ze_C G l 1 0 0 M0_beginOf [.ref p, ze_i (s : Nat)] w (ze_qi (fun r w' => r = (cb ar c s : Nat) ∧ w' = w)) := by
  obtain ⟨hK, hp, bf, gf, sf, hb, hg, hs, eb, eg, es⟩ := id h
  obtain ⟨en, n1, n8⟩ := mch_n hK
  obtain ⟨ek, k1, k6⟩ := mch_k hK
  obtain ⟨et, t1, t1000⟩ := mch_t hK
  have hnn := ix_64 n8 n8
  have hnk := ix_64 n8 (show ck ar c ≤ 8 by omega)
  refine ze_enter (by decide +kernel) rfl ?_
  change ze_V G l (ze_rm 1 0 0) M0_beginOf _ 0 [(0, .ref p), (1, ze_i ((s : Nat)))] [] w 0 0
  refine ze_aload_n dX0_beginOf_0 rfl ?_
  refine ze_iload_n dX0_beginOf_1 rfl ?_
  refine ze_callV (As := [ze_i ((s : Nat))]) (rest := []) dX0_beginOf_2 (C0_hasState h (by omega)) mo0_hasState ml_X0_40 in_0_hasState se_0_hasState hp rfl rfl rfl rfl rfl ⟨Nat.le_refl _, Nat.le_refl _⟩ rfl (Nat.le_of_ble_eq_true rfl) ?_
  rintro _ w' ⟨r1, rfl, rfl, rfl⟩
  change ze_V G l (ze_rm 1 0 0) M0_beginOf _ 5 [(0, .ref p), (1, ze_i ((s : Nat)))] [ze_i (bi (0 ≤ ((s : Nat) : Int) ∧ ((s : Nat) : Int) < ((cn ar c : Nat) : Int)))] w' 0 0
  refine ze_if_eq 17 dX0_beginOf_5 (by decide) (bi_rng _) (fun q2 => ?_) (fun q2 => ?_)
  · rw [bi_z] at q2
    omega
  · refine ze_aload_n dX0_beginOf_8 rfl ?_
    refine ze_getf dX0_beginOf_9 fl_X0_30 hp rfl ?_
    refine ze_iload_n dX0_beginOf_12 rfl ?_
    refine ze_iald (j := s) dX0_beginOf_13 hb (by omega) (by omega) (by omega) ?_
    refine ze_goto 18 dX0_beginOf_14 (by decide) ?_
    exact ze_ireturn rfl dX0_beginOf_18 ⟨_, rfl, eb s hsn, rfl⟩ rfl rfl
theorem C0_goOf {G : ze_G} {l : Launch} {w : ze_W} {ar : Nat → Nat → Int} {c p : Nat} {s t : Nat} (h : chr G w ar c p) (hsn : s < cn ar c) (htn : t < cn ar c) : ze_C G l 1 0 0 M0_goOf [.ref p, ze_i (s : Nat), ze_i (t : Nat)] w (ze_qi (fun r w' => r = (cg ar c s t : Nat) ∧ w' = w)) := by
  obtain ⟨hK, hp, bf, gf, sf, hb, hg, hs, eb, eg, es⟩ := id h
  obtain ⟨en, n1, n8⟩ := mch_n hK
  obtain ⟨ek, k1, k6⟩ := mch_k hK
  obtain ⟨et, t1, t1000⟩ := mch_t hK
  have hnn := ix_64 n8 n8
  have hnk := ix_64 n8 (show ck ar c ≤ 8 by omega)
  have hix := ix_lt hsn htn
  refine ze_enter (by decide +kernel) rfl ?_
  change ze_V G l (ze_rm 1 0 0) M0_goOf _ 0 [(0, .ref p), (1, ze_i ((s : Nat))), (2, ze_i ((t : Nat)))] [] w 0 0
  refine ze_aload_n dX0_goOf_0 rfl ?_
  refine ze_iload_n dX0_goOf_1 rfl ?_
  refine ze_callV (As := [ze_i ((s : Nat))]) (rest := []) dX0_goOf_2 (C0_hasState h (by omega)) mo0_hasState ml_X0_40 in_0_hasState se_0_hasState hp rfl rfl rfl rfl rfl ⟨Nat.le_refl _, Nat.le_refl _⟩ rfl (Nat.le_of_ble_eq_true rfl) ?_
  rintro _ w' ⟨r1, rfl, rfl, rfl⟩
  change ze_V G l (ze_rm 1 0 0) M0_goOf _ 5 [(0, .ref p), (1, ze_i ((s : Nat))), (2, ze_i ((t : Nat)))] [ze_i (bi (0 ≤ ((s : Nat) : Int) ∧ ((s : Nat) : Int) < ((cn ar c : Nat) : Int)))] w' 0 0
  refine ze_if_eq 32 dX0_goOf_5 (by decide) (bi_rng _) (fun q2 => ?_) (fun q2 => ?_)
  · rw [bi_z] at q2
    omega
  · refine ze_aload_n dX0_goOf_8 rfl ?_
    refine ze_iload_n dX0_goOf_9 rfl ?_
    refine ze_callV (As := [ze_i ((t : Nat))]) (rest := []) dX0_goOf_10 (C0_hasState h (by omega)) mo0_hasState ml_X0_40 in_0_hasState se_0_hasState hp rfl rfl rfl rfl rfl ⟨Nat.le_refl _, Nat.le_refl _⟩ rfl (Nat.le_of_ble_eq_true rfl) ?_
    rintro _ w' ⟨r3, rfl, rfl, rfl⟩
    change ze_V G l (ze_rm 1 0 0) M0_goOf _ 13 [(0, .ref p), (1, ze_i ((s : Nat))), (2, ze_i ((t : Nat)))] [ze_i (bi (0 ≤ ((t : Nat) : Int) ∧ ((t : Nat) : Int) < ((cn ar c : Nat) : Int)))] w' 0 0
    refine ze_if_eq 32 dX0_goOf_13 (by decide) (bi_rng _) (fun q4 => ?_) (fun q4 => ?_)
    · rw [bi_z] at q4
      omega
    · refine ze_aload_n dX0_goOf_16 rfl ?_
      refine ze_getf dX0_goOf_17 fl_X0_34 hp rfl ?_
      refine ze_iload_n dX0_goOf_20 rfl ?_
      refine ze_aload_n dX0_goOf_21 rfl ?_
      refine ze_getf dX0_goOf_22 fl_X0_18 hp rfl ?_
      refine ze_imul dX0_goOf_25 ?_
      refine ze_iload_n dX0_goOf_26 rfl ?_
      refine ze_iadd dX0_goOf_27 ?_
      refine ze_iald (j := (s * cn ar c + t)) dX0_goOf_28 hg ix_eq hix (by omega) ?_
      refine ze_goto 33 dX0_goOf_29 (by decide) ?_
      exact ze_ireturn rfl dX0_goOf_33 ⟨_, rfl, eg s t hsn htn, rfl⟩ rfl rfl
theorem C0_showOf {G : ze_G} {l : Launch} {w : ze_W} {ar : Nat → Nat → Int} {c p : Nat} {s : Nat} {x : Int} (h : chr G w ar c p) (hsn : s < cn ar c) (hx : -1 ≤ x ∧ x < ar 2 c) : ze_C G l 1 0 0 M0_showOf [.ref p, ze_i (s : Nat), ze_i x] w (ze_qi (fun r w' => r = ((shx ar c s x).toNat : Nat) ∧ w' = w)) := by
  obtain ⟨hK, hp, bf, gf, sf, hb, hg, hs, eb, eg, es⟩ := id h
  obtain ⟨en, n1, n8⟩ := mch_n hK
  obtain ⟨ek, k1, k6⟩ := mch_k hK
  obtain ⟨et, t1, t1000⟩ := mch_t hK
  have hnn := ix_64 n8 n8
  have hnk := ix_64 n8 (show ck ar c ≤ 8 by omega)
  refine ze_enter (by decide +kernel) rfl ?_
  change ze_V G l (ze_rm 1 0 0) M0_showOf _ 0 [(0, .ref p), (1, ze_i ((s : Nat))), (2, ze_i (x))] [] w 0 0
  refine ze_iload_n dX0_showOf_0 rfl ?_
  refine ze_iconst dX0_showOf_1 ?_
  refine ze_icmp_ne 10 dX0_showOf_2 (by decide) (by omega) (by omega) (fun q1 => ?_) (fun q1 => ?_)
  · obtain ⟨y, rfl⟩ := Int.eq_ofNat_of_zero_le (show 0 ≤ x by omega)
    have hix := ix_lt hsn (show y < ck ar c by omega)
    change ze_V G l (ze_rm 1 0 0) M0_showOf _ 10 [(0, .ref p), (1, ze_i ((s : Nat))), (2, ze_i ((y : Nat)))] [] w 0 0
    refine ze_aload_n dX0_showOf_10 rfl ?_
    refine ze_iload_n dX0_showOf_11 rfl ?_
    refine ze_callV (As := [ze_i ((s : Nat))]) (rest := []) dX0_showOf_12 (C0_hasState h (by omega)) mo0_hasState ml_X0_40 in_0_hasState se_0_hasState hp rfl rfl rfl rfl rfl ⟨Nat.le_refl _, Nat.le_refl _⟩ rfl (Nat.le_of_ble_eq_true rfl) ?_
    rintro _ w' ⟨r2, rfl, rfl, rfl⟩
    change ze_V G l (ze_rm 1 0 0) M0_showOf _ 15 [(0, .ref p), (1, ze_i ((s : Nat))), (2, ze_i ((y : Nat)))] [ze_i (bi (0 ≤ ((s : Nat) : Int) ∧ ((s : Nat) : Int) < ((cn ar c : Nat) : Int)))] w' 0 0
    refine ze_if_eq 42 dX0_showOf_15 (by decide) (bi_rng _) (fun q3 => ?_) (fun q3 => ?_)
    · rw [bi_z] at q3
      omega
    · refine ze_aload_n dX0_showOf_18 rfl ?_
      refine ze_iload_n dX0_showOf_19 rfl ?_
      refine ze_callV (As := [ze_i ((y : Nat))]) (rest := []) dX0_showOf_20 (C0_hasSign h (by omega)) mo0_hasSign ml_X0_44 in_0_hasSign se_0_hasSign hp rfl rfl rfl rfl rfl ⟨Nat.le_refl _, Nat.le_refl _⟩ rfl (Nat.le_of_ble_eq_true rfl) ?_
      rintro _ w' ⟨r4, rfl, rfl, rfl⟩
      change ze_V G l (ze_rm 1 0 0) M0_showOf _ 23 [(0, .ref p), (1, ze_i ((s : Nat))), (2, ze_i ((y : Nat)))] [ze_i (bi (0 ≤ ((y : Nat) : Int) ∧ ((y : Nat) : Int) < ((ck ar c : Nat) : Int)))] w' 0 0
      refine ze_if_eq 42 dX0_showOf_23 (by decide) (bi_rng _) (fun q5 => ?_) (fun q5 => ?_)
      · rw [bi_z] at q5
        omega
      · refine ze_aload_n dX0_showOf_26 rfl ?_
        refine ze_getf dX0_showOf_27 fl_X0_37 hp rfl ?_
        refine ze_iload_n dX0_showOf_30 rfl ?_
        refine ze_aload_n dX0_showOf_31 rfl ?_
        refine ze_getf dX0_showOf_32 fl_X0_24 hp rfl ?_
        refine ze_imul dX0_showOf_35 ?_
        refine ze_iload_n dX0_showOf_36 rfl ?_
        refine ze_iadd dX0_showOf_37 ?_
        refine ze_iald (j := (s * ck ar c + y)) dX0_showOf_38 hs ix_eq hix (by omega) ?_
        refine ze_goto 43 dX0_showOf_39 (by decide) ?_
        exact ze_ireturn rfl dX0_showOf_43 ⟨_, rfl, by rw [es s y hsn (by omega)]; unfold shx; rw [if_neg (by omega), Int.toNat_natCast]; unfold cw; rfl, rfl⟩ rfl rfl
  · refine ze_aload_n dX0_showOf_5 rfl ?_
    refine ze_getf dX0_showOf_6 fl_X0_27 hp rfl ?_
    exact ze_ireturn rfl dX0_showOf_9 ⟨_, rfl, by unfold shx; rw [if_pos (by omega)]; unfold ct; rfl, rfl⟩ rfl rfl
theorem C0_stepWeight {G : ze_G} {l : Launch} {w : ze_W} {ar : Nat → Nat → Int} {c p : Nat} {s t : Nat} {x : Int} (h : chr G w ar c p) (hsn : s < cn ar c) (htn : t < cn ar c) (hx : -1 ≤ x ∧ x < ar 2 c) : ze_C G l 2 0 0 M0_stepWeight [.ref p, ze_i (s : Nat), ze_i (t : Nat), ze_i x] w (ze_ql (fun r w' => r = ((cg ar c s t * (shx ar c t x).toNat : Nat) : Int) ∧ w' = w)) := by
  obtain ⟨hK, hp, bf, gf, sf, hb, hg, hs, eb, eg, es⟩ := id h
  obtain ⟨en, n1, n8⟩ := mch_n hK
  obtain ⟨ek, k1, k6⟩ := mch_k hK
  obtain ⟨et, t1, t1000⟩ := mch_t hK
  have hnn := ix_64 n8 n8
  have hnk := ix_64 n8 (show ck ar c ≤ 8 by omega)
  have hgb := (mch_g hK (show s < 8 by omega) (show t < 8 by omega)).2
  have hsb := (shx_nn hK (show t < 8 by omega) (show -1 ≤ x ∧ x < 6 by omega)).2
  refine ze_enter (by decide +kernel) rfl ?_
  change ze_V G l (ze_rm 2 0 0) M0_stepWeight _ 0 [(0, .ref p), (1, ze_i ((s : Nat))), (2, ze_i ((t : Nat))), (3, ze_i (x))] [] w 0 0
  refine ze_aload_n dX0_stepWeight_0 rfl ?_
  refine ze_iload_n dX0_stepWeight_1 rfl ?_
  refine ze_iload_n dX0_stepWeight_2 rfl ?_
  refine ze_callV (As := [ze_i ((s : Nat)), ze_i ((t : Nat))]) (rest := []) dX0_stepWeight_3 (C0_goOf h hsn htn) mo0_goOf ml_X0_47 in_0_goOf se_0_goOf hp rfl rfl rfl rfl rfl ⟨Nat.le_refl _, Nat.le_refl _⟩ rfl (Nat.le_of_ble_eq_true rfl) ?_
  rintro _ w' ⟨r1, rfl, rfl, rfl⟩
  change ze_V G l (ze_rm 2 0 0) M0_stepWeight _ 6 [(0, .ref p), (1, ze_i ((s : Nat))), (2, ze_i ((t : Nat))), (3, ze_i (x))] [ze_i ((cg ar c s t : Nat))] w' 0 0
  refine ze_i2l dX0_stepWeight_6 (by omega) ?_
  refine ze_aload_n dX0_stepWeight_7 rfl ?_
  refine ze_iload_n dX0_stepWeight_8 rfl ?_
  refine ze_iload_n dX0_stepWeight_9 rfl ?_
  refine ze_callV (As := [ze_i ((t : Nat)), ze_i (x)]) (rest := [ze_l ((cg ar c s t : Nat))]) dX0_stepWeight_10 (C0_showOf h htn hx) mo0_showOf ml_X0_50 in_0_showOf se_0_showOf hp rfl rfl rfl rfl rfl ⟨Nat.le_refl _, Nat.le_refl _⟩ rfl (Nat.le_of_ble_eq_true rfl) ?_
  rintro _ w' ⟨r2, rfl, rfl, rfl⟩
  change ze_V G l (ze_rm 2 0 0) M0_stepWeight _ 13 [(0, .ref p), (1, ze_i ((s : Nat))), (2, ze_i ((t : Nat))), (3, ze_i (x))] [ze_i (((shx ar c t x).toNat : Nat)), ze_l ((cg ar c s t : Nat))] w' 0 0
  refine ze_i2l dX0_stepWeight_13 (by omega) ?_
  refine ze_lmul dX0_stepWeight_14 ?_
  exact ze_lreturn rfl dX0_stepWeight_15 ⟨_, rfl, (Int.natCast_mul _ _).symm, rfl⟩ rfl rfl
theorem C0_startWeight {G : ze_G} {l : Launch} {w : ze_W} {ar : Nat → Nat → Int} {c p : Nat} {s : Nat} {x : Int} (h : chr G w ar c p) (hsn : s < cn ar c) (hx : -1 ≤ x ∧ x < ar 2 c) : ze_C G l 2 0 0 M0_startWeight [.ref p, ze_i (s : Nat), ze_i x] w (ze_qi (fun r w' => r = ((cb ar c s * (shx ar c s x).toNat : Nat) : Int) ∧ w' = w)) := by
  obtain ⟨hK, hp, bf, gf, sf, hb, hg, hs, eb, eg, es⟩ := id h
  obtain ⟨en, n1, n8⟩ := mch_n hK
  obtain ⟨ek, k1, k6⟩ := mch_k hK
  obtain ⟨et, t1, t1000⟩ := mch_t hK
  have hnn := ix_64 n8 n8
  have hnk := ix_64 n8 (show ck ar c ≤ 8 by omega)
  refine ze_enter (by decide +kernel) rfl ?_
  change ze_V G l (ze_rm 2 0 0) M0_startWeight _ 0 [(0, .ref p), (1, ze_i ((s : Nat))), (2, ze_i (x))] [] w 0 0
  refine ze_aload_n dX0_startWeight_0 rfl ?_
  refine ze_iload_n dX0_startWeight_1 rfl ?_
  refine ze_callV (As := [ze_i ((s : Nat))]) (rest := []) dX0_startWeight_2 (C0_beginOf h hsn) mo0_beginOf ml_X0_53 in_0_beginOf se_0_beginOf hp rfl rfl rfl rfl rfl ⟨Nat.le_refl _, Nat.le_refl _⟩ rfl (Nat.le_of_ble_eq_true rfl) ?_
  rintro _ w' ⟨r1, rfl, rfl, rfl⟩
  change ze_V G l (ze_rm 2 0 0) M0_startWeight _ 5 [(0, .ref p), (1, ze_i ((s : Nat))), (2, ze_i (x))] [ze_i ((cb ar c s : Nat))] w' 0 0
  refine ze_aload_n dX0_startWeight_5 rfl ?_
  refine ze_iload_n dX0_startWeight_6 rfl ?_
  refine ze_iload_n dX0_startWeight_7 rfl ?_
  refine ze_callV (As := [ze_i ((s : Nat)), ze_i (x)]) (rest := [ze_i ((cb ar c s : Nat))]) dX0_startWeight_8 (C0_showOf h hsn hx) mo0_showOf ml_X0_50 in_0_showOf se_0_showOf hp rfl rfl rfl rfl rfl ⟨Nat.le_refl _, Nat.le_refl _⟩ rfl (Nat.le_of_ble_eq_true rfl) ?_
  rintro _ w' ⟨r2, rfl, rfl, rfl⟩
  change ze_V G l (ze_rm 2 0 0) M0_startWeight _ 11 [(0, .ref p), (1, ze_i ((s : Nat))), (2, ze_i (x))] [ze_i (((shx ar c s x).toNat : Nat)), ze_i ((cb ar c s : Nat))] w' 0 0
  refine ze_imul dX0_startWeight_11 ?_
  exact ze_ireturn rfl dX0_startWeight_12 ⟨_, rfl, (Int.natCast_mul _ _).symm, rfl⟩ rfl rfl
theorem C2_length {G : ze_G} {l : Launch} {w : ze_W} {ar : Nat → Nat → Int} {P p : Nat} (h : srw G w ar P p) : ze_C G l 0 0 0 M2_length [.ref p] w (ze_qi (fun r w' => r = (P : Nat) ∧ w' = w)) := by
  obtain ⟨hP, hp, rf, hr, er⟩ := id h
  refine ze_enter (by decide +kernel) rfl ?_
  change ze_V G l (ze_rm 0 0 0) M2_length _ 0 [(0, .ref p)] [] w 0 0
  refine ze_aload_n dX2_length_0 rfl ?_
  refine ze_getf dX2_length_1 fl_X2_15 hp rfl ?_
  exact ze_ireturn rfl dX2_length_4 ⟨_, rfl, rfl, rfl⟩ rfl rfl
theorem C2_isFull {G : ze_G} {l : Launch} {w : ze_W} {ar : Nat → Nat → Int} {P p : Nat} (h : srw G w ar P p) : ze_C G l 0 0 0 M2_isFull [.ref p] w (ze_qi (fun r w' => r = bi (60 ≤ P) ∧ w' = w)) := by
  obtain ⟨hP, hp, rf, hr, er⟩ := id h
  refine ze_enter (by decide +kernel) rfl ?_
  change ze_V G l (ze_rm 0 0 0) M2_isFull _ 0 [(0, .ref p)] [] w 0 0
  refine ze_aload_n dX2_isFull_0 rfl ?_
  refine ze_getf dX2_isFull_1 fl_X2_15 hp rfl ?_
  refine ze_aload_n dX2_isFull_4 rfl ?_
  refine ze_getf dX2_isFull_5 fl_X2_9 hp rfl ?_
  refine ze_alen dX2_isFull_8 hr rfl ?_
  refine ze_icmp_lt 16 dX2_isFull_9 (by decide) (by omega) (by omega) (fun q1 => ?_) (fun q1 => ?_)
  · refine ze_iconst dX2_isFull_16 ?_
    exact ze_zreturn rfl dX2_isFull_17 (by decide) ⟨_, rfl, bi_f (by omega), rfl⟩ rfl rfl
  · refine ze_iconst dX2_isFull_12 ?_
    refine ze_goto 17 dX2_isFull_13 (by decide) ?_
    exact ze_zreturn rfl dX2_isFull_17 (by decide) ⟨_, rfl, bi_t (by omega), rfl⟩ rfl rfl
theorem C2_hasPlace {G : ze_G} {l : Launch} {w : ze_W} {ar : Nat → Nat → Int} {P p : Nat} {i : Int} (h : srw G w ar P p) (r_i : -2147483648 ≤ i ∧ i < 2147483648) : ze_C G l 0 0 0 M2_hasPlace [.ref p, ze_i i] w (ze_qi (fun r w' => r = bi (0 ≤ i ∧ i < (P : Int)) ∧ w' = w)) := by
  obtain ⟨hP, hp, rf, hr, er⟩ := id h
  refine ze_enter (by decide +kernel) rfl ?_
  change ze_V G l (ze_rm 0 0 0) M2_hasPlace _ 0 [(0, .ref p), (1, ze_i (i))] [] w 0 0
  refine ze_iload_n dX2_hasPlace_0 rfl ?_
  refine ze_if_lt 16 dX2_hasPlace_1 (by decide) (by omega) (fun q1 => ?_) (fun q1 => ?_)
  · refine ze_iconst dX2_hasPlace_16 ?_
    exact ze_zreturn rfl dX2_hasPlace_17 (by decide) ⟨_, rfl, bi_f (by omega), rfl⟩ rfl rfl
  · refine ze_iload_n dX2_hasPlace_4 rfl ?_
    refine ze_aload_n dX2_hasPlace_5 rfl ?_
    refine ze_getf dX2_hasPlace_6 fl_X2_15 hp rfl ?_
    refine ze_icmp_ge 16 dX2_hasPlace_9 (by decide) (by omega) (by omega) (fun q2 => ?_) (fun q2 => ?_)
    · refine ze_iconst dX2_hasPlace_16 ?_
      exact ze_zreturn rfl dX2_hasPlace_17 (by decide) ⟨_, rfl, bi_f (by omega), rfl⟩ rfl rfl
    · refine ze_iconst dX2_hasPlace_12 ?_
      refine ze_goto 17 dX2_hasPlace_13 (by decide) ?_
      exact ze_zreturn rfl dX2_hasPlace_17 (by decide) ⟨_, rfl, bi_t (by omega), rfl⟩ rfl rfl
theorem C2_signAt {G : ze_G} {l : Launch} {w : ze_W} {ar : Nat → Nat → Int} {P p : Nat} {i : Nat} (h : srw G w ar P p) (hi : i < P) : ze_C G l 1 0 0 M2_signAt [.ref p, ze_i (i : Nat)] w (ze_qi (fun r w' => r = ar 7 i ∧ w' = w)) := by
  obtain ⟨hP, hp, rf, hr, er⟩ := id h
  refine ze_enter (by decide +kernel) rfl ?_
  change ze_V G l (ze_rm 1 0 0) M2_signAt _ 0 [(0, .ref p), (1, ze_i ((i : Nat)))] [] w 0 0
  refine ze_aload_n dX2_signAt_0 rfl ?_
  refine ze_iload_n dX2_signAt_1 rfl ?_
  refine ze_callV (As := [ze_i ((i : Nat))]) (rest := []) dX2_signAt_2 (C2_hasPlace h (by omega)) mo2_hasPlace ml_X2_19 in_2_hasPlace se_2_hasPlace hp rfl rfl rfl rfl rfl ⟨Nat.le_refl _, Nat.le_refl _⟩ rfl (Nat.le_of_ble_eq_true rfl) ?_
  rintro _ w' ⟨r1, rfl, rfl, rfl⟩
  change ze_V G l (ze_rm 1 0 0) M2_signAt _ 5 [(0, .ref p), (1, ze_i ((i : Nat)))] [ze_i (bi (0 ≤ ((i : Nat) : Int) ∧ ((i : Nat) : Int) < (P : Int)))] w' 0 0
  refine ze_if_eq 17 dX2_signAt_5 (by decide) (bi_rng _) (fun q2 => ?_) (fun q2 => ?_)
  · rw [bi_z] at q2
    omega
  · refine ze_aload_n dX2_signAt_8 rfl ?_
    refine ze_getf dX2_signAt_9 fl_X2_9 hp rfl ?_
    refine ze_iload_n dX2_signAt_12 rfl ?_
    refine ze_iald (j := i) dX2_signAt_13 hr (by omega) (by omega) (by omega) ?_
    refine ze_goto 18 dX2_signAt_14 (by decide) ?_
    exact ze_ireturn rfl dX2_signAt_18 ⟨_, rfl, er i hi, rfl⟩ rfl rfl
