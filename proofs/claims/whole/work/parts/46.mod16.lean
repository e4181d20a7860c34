/-! the reference: same, apart, twins -/
/-- why two chains are refused -/
def rf2 (ar : Nat → Nat → Int) (C : Nat) (a b : Int) (r : Int) : Prop := (¬ ((0 ≤ a ∧ a < (C : Int)) ∧ (0 ≤ b ∧ b < (C : Int))) ∧ r = -1) ∨ (((0 ≤ a ∧ a < (C : Int)) ∧ (0 ≤ b ∧ b < (C : Int))) ∧ ¬ (snd ar a.toNat ∧ snd ar b.toNat) ∧ r = -3) ∨ (((0 ≤ a ∧ a < (C : Int)) ∧ (0 ≤ b ∧ b < (C : Int))) ∧ (snd ar a.toNat ∧ snd ar b.toNat) ∧ ¬ (ar 2 a.toNat = ar 2 b.toNat ∧ ar 3 a.toNat = ar 3 b.toNat) ∧ r = -4) ∨ (((0 ≤ a ∧ a < (C : Int)) ∧ (0 ≤ b ∧ b < (C : Int))) ∧ (snd ar a.toNat ∧ snd ar b.toNat) ∧ (ar 2 a.toNat = ar 2 b.toNat ∧ ar 3 a.toNat = ar 3 b.toNat) ∧ r = 0)
theorem rf2_rng {ar : Nat → Nat → Int} {C : Nat} {a b r : Int} (h : rf2 ar C a b r) : -2147483648 ≤ r ∧ r < 2147483648 := by
  unfold rf2 at h
  rcases h with h | h | h | h <;> omega
theorem rf2_0 {ar : Nat → Nat → Int} {C : Nat} {a b r : Int} (h : rf2 ar C a b r) (h0 : r = 0) : ((0 ≤ a ∧ a < (C : Int)) ∧ (0 ≤ b ∧ b < (C : Int))) ∧ (snd ar a.toNat ∧ snd ar b.toNat) ∧ (ar 2 a.toNat = ar 2 b.toNat ∧ ar 3 a.toNat = ar 3 b.toNat) := by
  unfold rf2 at h
  rcases h with h | h | h | ⟨h1, h2, h3, -⟩
  · omega
  · omega
  · omega
  · exact ⟨h1, h2, h3⟩
theorem C8_refusalOfTwo {G : ze_G} {l : Launch} {w0 w : ze_W} {m C P F : Nat} {ar : Nat → Nat → Int} {bz : Nat → Int} (hM : mst G w0 w m C P F ar bz) {a b : Int} (r_a : -2147483648 ≤ a ∧ a < 2147483648) (r_b : -2147483648 ≤ b ∧ b < 2147483648) (hG : mgd C P F ar) : ze_C G l 2 0 0 M8_refusalOfTwo [.ref m, ze_i a, ze_i b] w (ze_qi (fun r w' => rf2 ar C a b r ∧ w' = w)) := by
  have hG1 := hG.1
  refine ze_enter (by decide +kernel) rfl ?_
  change ze_V G l (ze_rm 2 0 0) M8_refusalOfTwo _ 0 [(0, .ref m), (1, ze_i (a)), (2, ze_i (b))] [] w 0 0
  refine ze_aload_n dX8_refusalOfTwo_0 rfl ?_
  refine ze_iload_n dX8_refusalOfTwo_1 rfl ?_
  refine ze_callV (As := [ze_i (a)]) (rest := []) dX8_refusalOfTwo_2 (C8_is hM r_a hG.1.1) mo8_is ml_X8_105 in_8_is se_8_is (ms_o hM) rfl rfl rfl rfl rfl ⟨Nat.le_refl _, Nat.le_refl _⟩ rfl (Nat.le_of_ble_eq_true rfl) ?_
  rintro _ w' ⟨r1, rfl, rfl, rfl⟩
  change ze_V G l (ze_rm 2 0 0) M8_refusalOfTwo _ 5 [(0, .ref m), (1, ze_i (a)), (2, ze_i (b))] [ze_i (bi (0 ≤ a ∧ a < (C : Int)))] w' 0 0
  refine ze_if_eq 16 dX8_refusalOfTwo_5 (by decide) (bi_rng _) (fun q1 => ?_) (fun q1 => ?_)
  · rw [bi_z] at q1
    refine ze_iconst dX8_refusalOfTwo_16 ?_
    exact ze_ireturn rfl dX8_refusalOfTwo_17 ⟨_, rfl, Or.inl ⟨fun h => q1 h.1, rfl⟩, rfl⟩ rfl rfl
  · rw [bi_n] at q1
    refine ze_aload_n dX8_refusalOfTwo_8 rfl ?_
    refine ze_iload_n dX8_refusalOfTwo_9 rfl ?_
    refine ze_callV (As := [ze_i (b)]) (rest := []) dX8_refusalOfTwo_10 (C8_is hM r_b hG.1.1) mo8_is ml_X8_105 in_8_is se_8_is (ms_o hM) rfl rfl rfl rfl rfl ⟨Nat.le_refl _, Nat.le_refl _⟩ rfl (Nat.le_of_ble_eq_true rfl) ?_
    rintro _ w' ⟨r2, rfl, rfl, rfl⟩
    change ze_V G l (ze_rm 2 0 0) M8_refusalOfTwo _ 13 [(0, .ref m), (1, ze_i (a)), (2, ze_i (b))] [ze_i (bi (0 ≤ b ∧ b < (C : Int)))] w' 0 0
    refine ze_if_ne 18 dX8_refusalOfTwo_13 (by decide) (bi_rng _) (fun q2 => ?_) (fun q2 => ?_)
    · rw [bi_n] at q2
      have hq12 := And.intro q1 q2
      obtain ⟨a, rfl⟩ := Int.eq_ofNat_of_zero_le q1.1
      obtain ⟨b, rfl⟩ := Int.eq_ofNat_of_zero_le q2.1
      have ha := hG.2.1 a (by omega)
      have hb := hG.2.1 b (by omega)
      have ka := ha.2.1
      have kb := hb.2.1
      have ta := ha.2.2.1
      have tb := hb.2.2.1
      change ze_V G l (ze_rm 2 0 0) M8_refusalOfTwo _ 18 [(0, .ref m), (1, ze_i ((a : Nat))), (2, ze_i ((b : Nat)))] [] w' 0 0
      refine ze_aload_n dX8_refusalOfTwo_18 rfl ?_
      refine ze_iload_n dX8_refusalOfTwo_19 rfl ?_
      refine ze_callV (As := [ze_i ((a : Nat))]) (rest := []) dX8_refusalOfTwo_20 (C8_isSound hM (by omega) ha) mo8_isSound ml_X8_123 in_8_isSound se_8_isSound (ms_o hM) rfl rfl rfl rfl rfl ⟨Nat.le_refl _, Nat.le_refl _⟩ rfl (Nat.le_of_ble_eq_true rfl) ?_
      rintro _ w' ⟨ra, rfl, hra, rfl⟩
      change ze_V G l (ze_rm 2 0 0) M8_refusalOfTwo _ 23 [(0, .ref m), (1, ze_i ((a : Nat))), (2, ze_i ((b : Nat)))] [ze_i (ra)] w' 0 0
      refine ze_if_eq 34 dX8_refusalOfTwo_23 (by decide) (tf_rng hra) (fun q3 => ?_) (fun q3 => ?_)
      · refine ze_bipush dX8_refusalOfTwo_34 (by decide) ?_
        exact ze_ireturn rfl dX8_refusalOfTwo_36 ⟨_, rfl, Or.inr (Or.inl ⟨hq12, fun h => tf_z hra q3 h.1, rfl⟩), rfl⟩ rfl rfl
      · refine ze_aload_n dX8_refusalOfTwo_26 rfl ?_
        refine ze_iload_n dX8_refusalOfTwo_27 rfl ?_
        refine ze_callV (As := [ze_i ((b : Nat))]) (rest := []) dX8_refusalOfTwo_28 (C8_isSound hM (by omega) hb) mo8_isSound ml_X8_123 in_8_isSound se_8_isSound (ms_o hM) rfl rfl rfl rfl rfl ⟨Nat.le_refl _, Nat.le_refl _⟩ rfl (Nat.le_of_ble_eq_true rfl) ?_
        rintro _ w' ⟨rb, rfl, hrb, rfl⟩
        change ze_V G l (ze_rm 2 0 0) M8_refusalOfTwo _ 31 [(0, .ref m), (1, ze_i ((a : Nat))), (2, ze_i ((b : Nat)))] [ze_i (rb)] w' 0 0
        refine ze_if_ne 37 dX8_refusalOfTwo_31 (by decide) (tf_rng hrb) (fun q4 => ?_) (fun q4 => ?_)
        · have hss := And.intro (tf_n hra q3) (tf_n hrb q4)
          refine ze_aload_n dX8_refusalOfTwo_37 rfl ?_
          refine ze_getf dX8_refusalOfTwo_38 fl_X8_13 (ms_o hM) rfl ?_
          refine ze_iload_n dX8_refusalOfTwo_41 rfl ?_
          refine ze_iald (j := a) dX8_refusalOfTwo_42 (show w'.2 (m + 2) = some (ze_ia G 6 (ar 2)) from ms_i hM 2 (by decide)) (by omega) (by omega) (by omega) ?_
          refine ze_aload_n dX8_refusalOfTwo_43 rfl ?_
          refine ze_getf dX8_refusalOfTwo_44 fl_X8_13 (ms_o hM) rfl ?_
          refine ze_iload_n dX8_refusalOfTwo_47 rfl ?_
          refine ze_iald (j := b) dX8_refusalOfTwo_48 (show w'.2 (m + 2) = some (ze_ia G 6 (ar 2)) from ms_i hM 2 (by decide)) (by omega) (by omega) (by omega) ?_
          refine ze_icmp_ne 67 dX8_refusalOfTwo_49 (by decide) (by omega) (by omega) (fun q3 => ?_) (fun q3 => ?_)
          · refine ze_bipush dX8_refusalOfTwo_67 (by decide) ?_
            refine ze_goto 73 dX8_refusalOfTwo_69 (by decide) ?_
            exact ze_ireturn rfl dX8_refusalOfTwo_73 ⟨_, rfl, Or.inr (Or.inr (Or.inl ⟨hq12, hss, fun h => q3 h.1, rfl⟩)), rfl⟩ rfl rfl
          · refine ze_aload_n dX8_refusalOfTwo_52 rfl ?_
            refine ze_getf dX8_refusalOfTwo_53 fl_X8_16 (ms_o hM) rfl ?_
            refine ze_iload_n dX8_refusalOfTwo_56 rfl ?_
            refine ze_iald (j := a) dX8_refusalOfTwo_57 (show w'.2 (m + 3) = some (ze_ia G 6 (ar 3)) from ms_i hM 3 (by decide)) (by omega) (by omega) (by omega) ?_
            refine ze_aload_n dX8_refusalOfTwo_58 rfl ?_
            refine ze_getf dX8_refusalOfTwo_59 fl_X8_16 (ms_o hM) rfl ?_
            refine ze_iload_n dX8_refusalOfTwo_62 rfl ?_
            refine ze_iald (j := b) dX8_refusalOfTwo_63 (show w'.2 (m + 3) = some (ze_ia G 6 (ar 3)) from ms_i hM 3 (by decide)) (by omega) (by omega) (by omega) ?_
            refine ze_icmp_eq 72 dX8_refusalOfTwo_64 (by decide) (by omega) (by omega) (fun q4 => ?_) (fun q4 => ?_)
            · refine ze_iconst dX8_refusalOfTwo_72 ?_
              exact ze_ireturn rfl dX8_refusalOfTwo_73 ⟨_, rfl, Or.inr (Or.inr (Or.inr ⟨hq12, hss, ⟨by simpa using q3, by simpa using q4⟩, rfl⟩)), rfl⟩ rfl rfl
            · refine ze_bipush dX8_refusalOfTwo_67 (by decide) ?_
              refine ze_goto 73 dX8_refusalOfTwo_69 (by decide) ?_
              exact ze_ireturn rfl dX8_refusalOfTwo_73 ⟨_, rfl, Or.inr (Or.inr (Or.inl ⟨hq12, hss, fun h => q4 h.2, rfl⟩)), rfl⟩ rfl rfl
        · refine ze_bipush dX8_refusalOfTwo_34 (by decide) ?_
          exact ze_ireturn rfl dX8_refusalOfTwo_36 ⟨_, rfl, Or.inr (Or.inl ⟨hq12, fun h => tf_z hrb q4 h.2, rfl⟩), rfl⟩ rfl rfl
    · rw [bi_z] at q2
      refine ze_iconst dX8_refusalOfTwo_16 ?_
      exact ze_ireturn rfl dX8_refusalOfTwo_17 ⟨_, rfl, Or.inl ⟨fun h => q2 h.2, rfl⟩, rfl⟩ rfl rfl
/-- two chains' beginnings side by side -/
def stv (ar : Nat → Nat → Int) (a b k : Nat) : Nat := if k < 8 then (if k < cn ar a then cb ar a k else 0) else (if k - 8 < cn ar b then cb ar b (k - 8) else 0)
theorem stv_a {ar : Nat → Nat → Int} {a b : Nat} (n8 : cn ar a ≤ 8) (hs : snd ar a) : sm 8 (stv ar a b) = ct ar a := by
  have := sm_ext (f := stv ar a b) (n := cn ar a) (8 - cn ar a) (fun j h1 h2 => by unfold stv; rw [if_pos (by omega), if_neg (by omega)])
  rw [show cn ar a + (8 - cn ar a) = 8 by omega] at this
  rw [this, ← hs.1]
  exact sm_congr (fun j hj => by unfold stv; rw [if_pos (by omega), if_pos hj])
theorem stv_b {ar : Nat → Nat → Int} {a b : Nat} (n8 : cn ar b ≤ 8) (hs : snd ar b) : sm 8 (fun k => stv ar a b (8 + k)) = ct ar b := by
  have := sm_ext (f := fun k => stv ar a b (8 + k)) (n := cn ar b) (8 - cn ar b) (fun j h1 h2 => by show stv ar a b (8 + j) = 0; unfold stv; rw [if_neg (by omega), if_neg (by omega)])
  rw [show cn ar b + (8 - cn ar b) = 8 by omega] at this
  rw [this, ← hs.1]
  exact sm_congr (fun j hj => by show stv ar a b (8 + j) = _; unfold stv; rw [if_neg (by omega), if_pos (by omega), Nat.add_sub_cancel_left])
theorem stv_z {ar : Nat → Nat → Int} {a b : Nat} (k : Nat) (hv : vz ar a b k) : stv ar a b k = 0 := by
  unfold stv
  rcases hv with ⟨h1, h2⟩ | ⟨h1, h2⟩
  · rw [if_pos h1, if_neg (by omega)]
  · rw [if_neg (by omega), if_neg (by omega)]
theorem C8_partsOf {G : ze_G} {l : Launch} {w0 w : ze_W} {m C P F : Nat} {ar : Nat → Nat → Int} {bz : Nat → Int} (hM : mst G w0 w m C P F ar bz) {a b : Nat} (hca : a < 6) (hcb : b < 6) (ha : mch ar a) (hb : mch ar b) (sa : snd ar a) (sb : snd ar b) (htt : ct ar a = ct ar b) : ze_C G l 8 0 0 M8_partsOf [.ref m, ze_i (a : Nat), ze_i (b : Nat)] w (ze_qi (fun r w' => ∃ ar' bz', mst G w0 w' m C P F ar' bz' ∧ (∀ o, o < 21156 → o ≠ 24 → o ≠ 26 → o ≠ 28 → o ≠ 30 → o ≠ 32 → o ≠ 34 → bz' o = bz o) ∧ (∀ k, k ≠ 20 → k ≠ 21 → k ≠ 22 → ar' k = ar k) ∧ ((r = -1 ∧ ∀ z, alw (ck ar a) z → ¬ tell ar a b (stv ar a b) z) ∨ ∃ (q : Nat) (z : List Nat), r = (q : Nat) ∧ fnd ar a b (stv ar a b) (ck ar a) ar' q z))) := by
  obtain ⟨ena, na1, na8⟩ := mch_n ha
  obtain ⟨enb, nb1, nb8⟩ := mch_n hb
  obtain ⟨-, ta1, ta⟩ := mch_t ha
  refine ze_enter (by decide +kernel) rfl ?_
  generalize hQ : (ze_Q G (ze_qi (fun r w' => ∃ ar' bz', mst G w0 w' m C P F ar' bz' ∧ (∀ o, o < 21156 → o ≠ 24 → o ≠ 26 → o ≠ 28 → o ≠ 30 → o ≠ 32 → o ≠ 34 → bz' o = bz o) ∧ (∀ k, k ≠ 20 → k ≠ 21 → k ≠ 22 → ar' k = ar k) ∧ ((r = -1 ∧ ∀ z, alw (ck ar a) z → ¬ tell ar a b (stv ar a b) z) ∨ ∃ (q : Nat) (z : List Nat), r = (q : Nat) ∧ fnd ar a b (stv ar a b) (ck ar a) ar' q z))) 0 0) = Z
  have loop : ∀ (d k : Nat) (bz1 : Nat → Int) (w1 : ze_W), k + d = 8 → mst G w0 w1 m C P F ar bz1 → (∀ o, o < 21156 → bz1 o = bz o) → (∀ j, j < k → bz1 (21156 + 2 * j) = (stv ar a b j : Nat) ∧ bz1 (21156 + 2 * (8 + j)) = (stv ar a b (8 + j) : Nat)) → ze_V G l (ze_rm 8 0 0) M8_partsOf Z 2 [(0, .ref m), (1, ze_i ((a : Nat))), (2, ze_i ((b : Nat))), (3, ze_i ((k : Nat)))] [] w1 0 0 := by
    intro d
    induction d with
    | zero =>
      intro k bz1 w1 hk hM1 hf hd
      refine ze_iload_n dX8_partsOf_2 rfl ?_
      refine ze_bipush dX8_partsOf_3 (by decide) ?_
      refine ze_icmp_ge 87 dX8_partsOf_5 (by decide) (by omega) (by omega) (fun q1 => ?_) (fun q1 => ?_)
      · refine ze_aload_n dX8_partsOf_87 rfl ?_
        refine ze_iload_n dX8_partsOf_88 rfl ?_
        refine ze_iload_n dX8_partsOf_89 rfl ?_
        refine ze_callV (As := [ze_i ((a : Nat)), ze_i ((b : Nat))]) (rest := []) dX8_partsOf_90 (C8_tellApart hM1 (a := a) (b := b) (st := stv ar a b) hca hcb ha hb sa sb (fun k hk2 => by
          rw [show 0 * 16 + k = k by omega]
          by_cases h : k < 8
          · exact (hd k (by omega)).1
          · have := (hd (k - 8) (by omega)).2
            rw [show 8 + (k - 8) = k by omega] at this
            exact this) (by rw [stv_a na8 sa]; exact ta) (by rw [stv_a na8 sa]; exact ta1) (by rw [stv_a na8 sa, stv_b nb8 sb, htt]) (fun k _ hv => stv_z k hv)) mo8_tellApart ml_X8_219 in_8_tellApart se_8_tellApart (ms_o hM1) rfl rfl rfl rfl rfl ⟨Nat.le_refl _, Nat.le_refl _⟩ rfl (Nat.le_of_ble_eq_true rfl) ?_
        rintro _ w2 ⟨rr, rfl, ar2, bz2, hM2, hf2, hk2, hres⟩
        change ze_V G l (ze_rm 8 0 0) M8_partsOf _ 93 [(0, .ref m), (1, ze_i ((a : Nat))), (2, ze_i ((b : Nat))), (3, ze_i ((k : Nat)))] [ze_i (rr)] w2 0 0
        rw [← hQ]
        exact ze_ireturn rfl dX8_partsOf_93 ⟨_, rfl, ar2, bz2, hM2, fun o g0 g1 g2 g3 g4 g5 g6 => by rw [hf2 o g0 g1 g2 g3 g4 g5 g6]; exact hf o g0, hk2, hres⟩ rfl rfl
      · omega
    | succ d ih =>
      intro k bz1 w1 hk hM1 hf hd
      have hk8 : k < 8 := by omega
      obtain ⟨eba, eba2⟩ := mch_b ha hk8
      obtain ⟨ebb, ebb2⟩ := mch_b hb hk8
      have hva : stv ar a b k ≤ 1000 := by unfold stv; rw [if_pos hk8]; split <;> omega
      have hvb : stv ar a b (8 + k) ≤ 1000 := by unfold stv; rw [if_neg (by omega), Nat.add_sub_cancel_left]; split <;> omega
      have t78 : ∀ (bz2 : Nat → Int) (w2 : ze_W), mst G w0 w2 m C P F ar bz2 → (∀ o, o < 21156 → bz2 o = bz o) → (∀ j, j < k → bz2 (21156 + 2 * j) = (stv ar a b j : Nat) ∧ bz2 (21156 + 2 * (8 + j)) = (stv ar a b (8 + j) : Nat)) → bz2 (21156 + 2 * k) = (stv ar a b k : Nat) → ze_V G l (ze_rm 8 0 0) M8_partsOf Z 78 [(0, .ref m), (1, ze_i ((a : Nat))), (2, ze_i ((b : Nat))), (3, ze_i ((k : Nat)))] [ze_l ((stv ar a b (8 + k) : Nat)), .ref (m + (21156 + 2 * (8 + k)))] w2 0 0 := by
        intro bz2 w2 hM2 hf2 hd2 hk2
        refine ze_callV (As := [ze_l ((stv ar a b (8 + k) : Nat))]) (rest := []) dX8_partsOf_78 (E7_of hM2 (o1 := 21156 + 2 * (8 + k)) (v := ((stv ar a b (8 + k) : Nat) : Int)) (mc_18 (by omega)) (by omega)) mo7_of ml_X8_132 in_7_of se_7_of (ms_bx hM2 (mc_18 (by omega))).choose_spec rfl rfl rfl rfl rfl ⟨Nat.le_refl _, Nat.le_refl _⟩ rfl (Nat.le_of_ble_eq_true rfl) ?_
        rintro _ w1 ⟨rfl, hM1⟩
        change ze_V G l (ze_rm 8 0 0) M8_partsOf _ 81 [(0, .ref m), (1, ze_i ((a : Nat))), (2, ze_i ((b : Nat))), (3, ze_i ((k : Nat)))] [] w1 0 0
        refine ze_iinc (b := ((k + 1 : Nat))) (lv' := [(0, .ref m), (1, ze_i ((a : Nat))), (2, ze_i ((b : Nat))), (3, ze_i (((k + 1 : Nat))))]) dX8_partsOf_81 rfl rfl (by omega) rfl ?_
        refine ze_goto 2 dX8_partsOf_84 (by decide) ?_
        refine ih (k + 1) _ _ (by omega) hM1 (fun o g => by rw [va_up_ne _ _ (by omega)]; exact hf2 o g) (fun j hj => ?_)
        by_cases e : j = k
        · rw [e, va_up_ne _ _ (by omega), va_up_self]
          exact ⟨hk2, rfl⟩
        · rw [va_up_ne _ _ (by omega), va_up_ne _ _ (by omega)]
          exact hd2 j (by omega)
      have t40 : ze_V G l (ze_rm 8 0 0) M8_partsOf Z 40 [(0, .ref m), (1, ze_i ((a : Nat))), (2, ze_i ((b : Nat))), (3, ze_i ((k : Nat)))] [ze_l ((stv ar a b k : Nat)), .ref (m + (21156 + 2 * k))] w1 0 0 := by
        refine ze_callV (As := [ze_l ((stv ar a b k : Nat))]) (rest := []) dX8_partsOf_40 (E7_of hM1 (o1 := 21156 + 2 * k) (v := ((stv ar a b k : Nat) : Int)) (mc_18 (by omega)) (by omega)) mo7_of ml_X8_132 in_7_of se_7_of (ms_bx hM1 (mc_18 (by omega))).choose_spec rfl rfl rfl rfl rfl ⟨Nat.le_refl _, Nat.le_refl _⟩ rfl (Nat.le_of_ble_eq_true rfl) ?_
        rintro _ w1 ⟨rfl, hM1⟩
        change ze_V G l (ze_rm 8 0 0) M8_partsOf _ 43 [(0, .ref m), (1, ze_i ((a : Nat))), (2, ze_i ((b : Nat))), (3, ze_i ((k : Nat)))] [] w1 0 0
        refine ze_aload_n dX8_partsOf_43 rfl ?_
        refine ze_getf dX8_partsOf_44 fl_X8_65 (ms_o hM1) rfl ?_
        refine ze_bipush dX8_partsOf_47 (by decide) ?_
        refine ze_iload_n dX8_partsOf_49 rfl ?_
        refine ze_iadd dX8_partsOf_50 ?_
        refine ze_aald (j := 8 + k) (b := (m + (21156 + 2 * (8 + k)))) dX8_partsOf_51 (show w1.2 (m + 18) = some (ze_ra G 4 288 (fun j => some (m + mro 18 j))) from ms_r hM1 18 (by decide)) rfl (by omega) (by omega) (by omega) rfl ?_
        refine ze_iload_n dX8_partsOf_52 rfl ?_
        refine ze_aload_n dX8_partsOf_53 rfl ?_
        refine ze_getf dX8_partsOf_54 fl_X8_9 (ms_o hM1) rfl ?_
        refine ze_iload_n dX8_partsOf_57 rfl ?_
        refine ze_iald (j := b) dX8_partsOf_58 (show w1.2 (m + 1) = some (ze_ia G 6 (ar 1)) from ms_i hM1 1 (by decide)) (by omega) (by omega) (by omega) ?_
        rw [enb]
        refine ze_icmp_ge 77 dX8_partsOf_59 (by decide) (by omega) (by omega) (fun q2 => ?_) (fun q2 => ?_)
        · refine ze_lconst (z := 0) dX8_partsOf_77 (by decide) ?_
          refine ze_tl (b := (stv ar a b (8 + k) : Nat)) (by unfold stv; rw [if_neg (by omega), Nat.add_sub_cancel_left, if_neg (by omega)]; rfl) ?_
          exact t78 _ _ hM1 (fun o g => by rw [va_up_ne _ _ (by omega)]; exact hf o g) (fun j hj => by rw [va_up_ne _ _ (by omega), va_up_ne _ _ (by omega)]; exact hd j hj) (va_up_self _ _ _)
        · refine ze_aload_n dX8_partsOf_62 rfl ?_
          refine ze_getf dX8_partsOf_63 fl_X8_19 (ms_o hM1) rfl ?_
          refine ze_iload_n dX8_partsOf_66 rfl ?_
          refine ze_bipush dX8_partsOf_67 (by decide) ?_
          refine ze_imul dX8_partsOf_69 ?_
          refine ze_iload_n dX8_partsOf_70 rfl ?_
          refine ze_iadd dX8_partsOf_71 ?_
          refine ze_iald (j := b * 8 + k) dX8_partsOf_72 (show w1.2 (m + 4) = some (ze_ia G 48 (ar 4)) from ms_i hM1 4 (by decide)) (by omega) (by omega) (by omega) ?_
          refine ze_i2l dX8_partsOf_73 (by rw [ebb]; omega) ?_
          refine ze_goto 78 dX8_partsOf_74 (by decide) ?_
          refine ze_tl (b := (stv ar a b (8 + k) : Nat)) (by unfold stv; rw [if_neg (by omega), Nat.add_sub_cancel_left, if_pos (by omega)]; exact ebb) ?_
          exact t78 _ _ hM1 (fun o g => by rw [va_up_ne _ _ (by omega)]; exact hf o g) (fun j hj => by rw [va_up_ne _ _ (by omega), va_up_ne _ _ (by omega)]; exact hd j hj) (va_up_self _ _ _)
      refine ze_iload_n dX8_partsOf_2 rfl ?_
      refine ze_bipush dX8_partsOf_3 (by decide) ?_
      refine ze_icmp_ge 87 dX8_partsOf_5 (by decide) (by omega) (by omega) (fun q1 => ?_) (fun q1 => ?_)
      · omega
      · refine ze_aload_n dX8_partsOf_8 rfl ?_
        refine ze_getf dX8_partsOf_9 fl_X8_65 (ms_o hM1) rfl ?_
        refine ze_iload_n dX8_partsOf_12 rfl ?_
        refine ze_aald (j := k) (b := (m + (21156 + 2 * k))) dX8_partsOf_13 (show w1.2 (m + 18) = some (ze_ra G 4 288 (fun j => some (m + mro 18 j))) from ms_r hM1 18 (by decide)) rfl (by omega) (by omega) (by omega) rfl ?_
        refine ze_iload_n dX8_partsOf_14 rfl ?_
        refine ze_aload_n dX8_partsOf_15 rfl ?_
        refine ze_getf dX8_partsOf_16 fl_X8_9 (ms_o hM1) rfl ?_
        refine ze_iload_n dX8_partsOf_19 rfl ?_
        refine ze_iald (j := a) dX8_partsOf_20 (show w1.2 (m + 1) = some (ze_ia G 6 (ar 1)) from ms_i hM1 1 (by decide)) (by omega) (by omega) (by omega) ?_
        rw [ena]
        refine ze_icmp_ge 39 dX8_partsOf_21 (by decide) (by omega) (by omega) (fun q2 => ?_) (fun q2 => ?_)
        · refine ze_lconst (z := 0) dX8_partsOf_39 (by decide) ?_
          refine ze_tl (b := (stv ar a b k : Nat)) (by unfold stv; rw [if_pos hk8, if_neg (by omega)]; rfl) ?_
          exact t40
        · refine ze_aload_n dX8_partsOf_24 rfl ?_
          refine ze_getf dX8_partsOf_25 fl_X8_19 (ms_o hM1) rfl ?_
          refine ze_iload_n dX8_partsOf_28 rfl ?_
          refine ze_bipush dX8_partsOf_29 (by decide) ?_
          refine ze_imul dX8_partsOf_31 ?_
          refine ze_iload_n dX8_partsOf_32 rfl ?_
          refine ze_iadd dX8_partsOf_33 ?_
          refine ze_iald (j := a * 8 + k) dX8_partsOf_34 (show w1.2 (m + 4) = some (ze_ia G 48 (ar 4)) from ms_i hM1 4 (by decide)) (by omega) (by omega) (by omega) ?_
          refine ze_i2l dX8_partsOf_35 (by rw [eba]; omega) ?_
          refine ze_goto 40 dX8_partsOf_36 (by decide) ?_
          refine ze_tl (b := (stv ar a b k : Nat)) (by unfold stv; rw [if_pos hk8, if_pos (by omega)]; exact eba) ?_
          exact t40
  change ze_V G l (ze_rm 8 0 0) M8_partsOf Z 0 [(0, .ref m), (1, ze_i ((a : Nat))), (2, ze_i ((b : Nat)))] [] w 0 0
  refine ze_iconst dX8_partsOf_0 ?_
  refine ze_ti (b := ((0 : Nat) : Nat)) rfl ?_
  refine ze_istore_n (lv' := [(0, .ref m), (1, ze_i ((a : Nat))), (2, ze_i ((b : Nat))), (3, ze_i (((0 : Nat) : Nat)))]) dX8_partsOf_1 rfl rfl ?_
  exact loop 8 0 bz w (by omega) hM (fun _ _ => rfl) (fun j hj => absurd hj (Nat.not_lt_zero _))
theorem C8_same {G : ze_G} {l : Launch} {w0 w : ze_W} {m C P F : Nat} {ar : Nat → Nat → Int} {bz : Nat → Int} (hM : mst G w0 w m C P F ar bz) {a b : Int} (r_a : -2147483648 ≤ a ∧ a < 2147483648) (r_b : -2147483648 ≤ b ∧ b < 2147483648) (hG : mgd C P F ar) : ze_C G l 9 0 0 M8_same [.ref m, ze_i a, ze_i b] w (ze_qi (fun r w' => ∃ ar' bz', mst G w0 w' m C P F ar' bz' ∧ bz' 8 = bz 8 ∧ (∀ k, k ≠ 20 → k ≠ 21 → k ≠ 22 → ar' k = ar k) ∧ ((rf2 ar C a b r ∧ r ≠ 0) ∨ (rf2 ar C a b 0 ∧ ((r = 1 ∧ ∀ z, alw (ck ar a.toNat) z → ¬ tell ar a.toNat b.toNat (stv ar a.toNat b.toNat) z) ∨ (r = 0 ∧ ∃ z, alw (ck ar a.toNat) z ∧ tell ar a.toNat b.toNat (stv ar a.toNat b.toNat) z)))))) := by
  have hG1 := hG.1
  refine ze_enter (by decide +kernel) rfl ?_
  change ze_V G l (ze_rm 9 0 0) M8_same _ 0 [(0, .ref m), (1, ze_i (a)), (2, ze_i (b))] [] w 0 0
  refine ze_aload_n dX8_same_0 rfl ?_
  refine ze_iload_n dX8_same_1 rfl ?_
  refine ze_iload_n dX8_same_2 rfl ?_
  refine ze_callV (As := [ze_i (a), ze_i (b)]) (rest := []) dX8_same_3 (C8_refusalOfTwo hM r_a r_b hG) mo8_refusalOfTwo ml_X8_223 in_8_refusalOfTwo se_8_refusalOfTwo (ms_o hM) rfl rfl rfl rfl rfl ⟨Nat.le_refl _, Nat.le_refl _⟩ rfl (Nat.le_of_ble_eq_true rfl) ?_
  rintro _ w' ⟨rr, rfl, hrr, rfl⟩
  change ze_V G l (ze_rm 9 0 0) M8_same _ 6 [(0, .ref m), (1, ze_i (a)), (2, ze_i (b))] [ze_i (rr)] w' 0 0
  refine ze_istore_n (lv' := [(0, .ref m), (1, ze_i (a)), (2, ze_i (b)), (3, ze_i (rr))]) dX8_same_6 rfl rfl ?_
  refine ze_iload_n dX8_same_7 rfl ?_
  refine ze_if_eq 15 dX8_same_8 (by decide) (rf2_rng hrr) (fun q1 => ?_) (fun q1 => ?_)
  · obtain ⟨hab, ⟨sa, sb⟩, hk2, hk3⟩ := rf2_0 hrr q1
    have hr0 : rf2 ar C a b 0 := by rw [q1] at hrr; exact hrr
    obtain ⟨a, rfl⟩ := Int.eq_ofNat_of_zero_le hab.1.1
    obtain ⟨b, rfl⟩ := Int.eq_ofNat_of_zero_le hab.2.1
    rw [Int.toNat_natCast] at sa sb
    rw [Int.toNat_natCast, Int.toNat_natCast] at hk3
    have ha := hG.2.1 a (by omega)
    have hb := hG.2.1 b (by omega)
    have htt : ct ar a = ct ar b := by unfold ct; rw [hk3]
    change ze_V G l (ze_rm 9 0 0) M8_same _ 15 [(0, .ref m), (1, ze_i ((a : Nat))), (2, ze_i ((b : Nat))), (3, ze_i (rr))] [] w' 0 0
    refine ze_aload_n dX8_same_15 rfl ?_
    refine ze_iload_n dX8_same_16 rfl ?_
    refine ze_iload_n dX8_same_17 rfl ?_
    refine ze_callV (As := [ze_i ((a : Nat)), ze_i ((b : Nat))]) (rest := []) dX8_same_18 (C8_partsOf hM (a := a) (b := b) (by omega) (by omega) ha hb sa sb htt) mo8_partsOf ml_X8_226 in_8_partsOf se_8_partsOf (ms_o hM) rfl rfl rfl rfl rfl ⟨Nat.le_refl _, Nat.le_refl _⟩ rfl (Nat.le_of_ble_eq_true rfl) ?_
    rintro _ w2 ⟨rt, rfl, ar2, bz2, hM2, hf2, hk2b, hres⟩
    have hrt : -2147483648 ≤ rt ∧ rt < 2147483648 := by
      rcases hres with ⟨h, -⟩ | ⟨q, z, h, hfn⟩
      · omega
      · obtain ⟨wd, fs, ss, -, -, g1, g2, -⟩ := hfn
        omega
    change ze_V G l (ze_rm 9 0 0) M8_same _ 21 [(0, .ref m), (1, ze_i ((a : Nat))), (2, ze_i ((b : Nat))), (3, ze_i (rr))] [ze_i (rt)] w2 0 0
    refine ze_if_ge 28 dX8_same_21 (by decide) hrt (fun q2 => ?_) (fun q2 => ?_)
    · refine ze_iconst dX8_same_28 ?_
      rcases hres with ⟨h, -⟩ | ⟨q, z, h, hfn⟩
      · omega
      · obtain ⟨wd, fs, ss, -, -, -, -, -, g1, g2, -⟩ := hfn
        exact ze_ireturn rfl dX8_same_29 ⟨_, rfl, ar2, bz2, hM2, hf2 8 (by decide) (by decide) (by decide) (by decide) (by decide) (by decide) (by decide), hk2b, Or.inr ⟨hr0, Or.inr ⟨rfl, z, g1, g2⟩⟩⟩ rfl rfl
    · refine ze_iconst dX8_same_24 ?_
      refine ze_goto 29 dX8_same_25 (by decide) ?_
      rcases hres with ⟨-, h⟩ | ⟨q, z, h, hfn⟩
      · exact ze_ireturn rfl dX8_same_29 ⟨_, rfl, ar2, bz2, hM2, hf2 8 (by decide) (by decide) (by decide) (by decide) (by decide) (by decide) (by decide), hk2b, Or.inr ⟨hr0, Or.inl ⟨rfl, h⟩⟩⟩ rfl rfl
      · omega
  · refine ze_iload_n dX8_same_11 rfl ?_
    refine ze_goto 29 dX8_same_12 (by decide) ?_
    exact ze_ireturn rfl dX8_same_29 ⟨_, rfl, ar, bz, hM, rfl, fun _ _ _ _ => rfl, Or.inl ⟨hrr, q1⟩⟩ rfl rfl
/-- one state each side by side -/
def sts (s t k : Nat) : Nat := if k = s then 1 else if k = 8 + t then 1 else 0
theorem sm_dl {n s : Nat} (hs : s < n) : sm n (fun k => if k = s then 1 else 0) = 1 := by
  induction n with
  | zero => omega
  | succ n ih =>
    rw [sm_s]
    by_cases e : s = n
    · rw [if_pos e.symm]
      have : sm n (fun k => if k = s then 1 else 0) = 0 := by
        rw [sm_congr (g := fun _ => 0) (fun j hj => if_neg (by omega)), sm_zero]
      omega
    · rw [ih (by omega), if_neg (by omega)]
theorem sts_a {s t : Nat} (hs : s < 8) : sm 8 (sts s t) = 1 := by
  rw [← sm_dl hs]
  exact sm_congr (fun j hj => by unfold sts; split; (rfl); rw [if_neg (by omega)])
theorem sts_b {s t : Nat} (hs : s < 8) (ht : t < 8) : sm 8 (fun k => sts s t (8 + k)) = 1 := by
  rw [← sm_dl ht]
  exact sm_congr (fun j hj => by
    show sts s t (8 + j) = _
    unfold sts
    rw [if_neg (by omega)]
    by_cases e : j = t
    · rw [if_pos (by omega), if_pos e]
    · rw [if_neg (by omega), if_neg e])
theorem C8_twins {G : ze_G} {l : Launch} {w0 w : ze_W} {m C P F : Nat} {ar : Nat → Nat → Int} {bz : Nat → Int} (hM : mst G w0 w m C P F ar bz) {c s t : Int} (r_c : -2147483648 ≤ c ∧ c < 2147483648) (r_s : -2147483648 ≤ s ∧ s < 2147483648) (r_t : -2147483648 ≤ t ∧ t < 2147483648) (hG : mgd C P F ar) : ze_C G l 8 0 0 M8_twins [.ref m, ze_i c, ze_i s, ze_i t] w (ze_qi (fun r w' => ∃ ar' bz', mst G w0 w' m C P F ar' bz' ∧ bz' 8 = bz 8 ∧ (∀ k, k ≠ 20 → k ≠ 21 → k ≠ 22 → ar' k = ar k) ∧ ((¬ ((0 ≤ c ∧ c < (C : Int)) ∧ (0 ≤ s ∧ s < ar 1 c.toNat) ∧ (0 ≤ t ∧ t < ar 1 c.toNat)) ∧ r = -1) ∨ (((0 ≤ c ∧ c < (C : Int)) ∧ (0 ≤ s ∧ s < ar 1 c.toNat) ∧ (0 ≤ t ∧ t < ar 1 c.toNat)) ∧ ¬ snd ar c.toNat ∧ r = -3) ∨ (((0 ≤ c ∧ c < (C : Int)) ∧ (0 ≤ s ∧ s < ar 1 c.toNat) ∧ (0 ≤ t ∧ t < ar 1 c.toNat)) ∧ snd ar c.toNat ∧ ((r = 1 ∧ ∀ z, alw (ck ar c.toNat) z → ¬ tell ar c.toNat c.toNat (sts s.toNat t.toNat) z) ∨ (r = 0 ∧ ∃ z, alw (ck ar c.toNat) z ∧ tell ar c.toNat c.toNat (sts s.toNat t.toNat) z)))))) := by
  have hG1 := hG.1
  refine ze_enter (by decide +kernel) rfl ?_
  generalize hQ : (ze_Q G (ze_qi (fun r w' => ∃ ar' bz', mst G w0 w' m C P F ar' bz' ∧ bz' 8 = bz 8 ∧ (∀ k, k ≠ 20 → k ≠ 21 → k ≠ 22 → ar' k = ar k) ∧ ((¬ ((0 ≤ c ∧ c < (C : Int)) ∧ (0 ≤ s ∧ s < ar 1 c.toNat) ∧ (0 ≤ t ∧ t < ar 1 c.toNat)) ∧ r = -1) ∨ (((0 ≤ c ∧ c < (C : Int)) ∧ (0 ≤ s ∧ s < ar 1 c.toNat) ∧ (0 ≤ t ∧ t < ar 1 c.toNat)) ∧ ¬ snd ar c.toNat ∧ r = -3) ∨ (((0 ≤ c ∧ c < (C : Int)) ∧ (0 ≤ s ∧ s < ar 1 c.toNat) ∧ (0 ≤ t ∧ t < ar 1 c.toNat)) ∧ snd ar c.toNat ∧ ((r = 1 ∧ ∀ z, alw (ck ar c.toNat) z → ¬ tell ar c.toNat c.toNat (sts s.toNat t.toNat) z) ∨ (r = 0 ∧ ∃ z, alw (ck ar c.toNat) z ∧ tell ar c.toNat c.toNat (sts s.toNat t.toNat) z)))))) 0 0) = Z
  change ze_V G l (ze_rm 8 0 0) M8_twins _ 0 [(0, .ref m), (1, ze_i (c)), (2, ze_i (s)), (3, ze_i (t))] [] w 0 0
  refine ze_aload_n dX8_twins_0 rfl ?_
  refine ze_iload_n dX8_twins_1 rfl ?_
  refine ze_callV (As := [ze_i (c)]) (rest := []) dX8_twins_2 (C8_is hM r_c hG.1.1) mo8_is ml_X8_105 in_8_is se_8_is (ms_o hM) rfl rfl rfl rfl rfl ⟨Nat.le_refl _, Nat.le_refl _⟩ rfl (Nat.le_of_ble_eq_true rfl) ?_
  rintro _ w' ⟨r1, rfl, rfl, rfl⟩
  change ze_V G l (ze_rm 8 0 0) M8_twins _ 5 [(0, .ref m), (1, ze_i (c)), (2, ze_i (s)), (3, ze_i (t))] [ze_i (bi (0 ≤ c ∧ c < (C : Int)))] w' 0 0
  refine ze_if_eq 26 dX8_twins_5 (by decide) (bi_rng _) (fun q2 => ?_) (fun q2 => ?_)
  · rw [bi_z] at q2
    refine ze_iconst dX8_twins_26 ?_
    rw [← hQ]
    exact ze_ireturn rfl dX8_twins_27 ⟨_, rfl, ar, bz, hM, rfl, fun _ _ _ _ => rfl, Or.inl ⟨by omega, rfl⟩⟩ rfl rfl
  · rw [bi_n] at q2
    have hK0 := (mg_c hG q2).1
    refine ze_aload_n dX8_twins_8 rfl ?_
    refine ze_iload_n dX8_twins_9 rfl ?_
    refine ze_iload_n dX8_twins_10 rfl ?_
    refine ze_callV (As := [ze_i (c), ze_i (s)]) (rest := []) dX8_twins_11 (C8_isState hM (c := c) (s := s) r_s (by omega) (mg_c hG (by omega)).1) mo8_isState ml_X8_109 in_8_isState se_8_isState (ms_o hM) rfl rfl rfl rfl rfl ⟨Nat.le_refl _, Nat.le_refl _⟩ rfl (Nat.le_of_ble_eq_true rfl) ?_
    rintro _ w' ⟨r3, rfl, rfl, rfl⟩
    change ze_V G l (ze_rm 8 0 0) M8_twins _ 14 [(0, .ref m), (1, ze_i (c)), (2, ze_i (s)), (3, ze_i (t))] [ze_i (bi (0 ≤ s ∧ s < ar 1 c.toNat))] w' 0 0
    refine ze_if_eq 26 dX8_twins_14 (by decide) (bi_rng _) (fun q4 => ?_) (fun q4 => ?_)
    · rw [bi_z] at q4
      refine ze_iconst dX8_twins_26 ?_
      rw [← hQ]
      exact ze_ireturn rfl dX8_twins_27 ⟨_, rfl, ar, bz, hM, rfl, fun _ _ _ _ => rfl, Or.inl ⟨by omega, rfl⟩⟩ rfl rfl
    · rw [bi_n] at q4
      refine ze_aload_n dX8_twins_17 rfl ?_
      refine ze_iload_n dX8_twins_18 rfl ?_
      refine ze_iload_n dX8_twins_19 rfl ?_
      refine ze_callV (As := [ze_i (c), ze_i (t)]) (rest := []) dX8_twins_20 (C8_isState hM (c := c) (s := t) r_t (by omega) (mg_c hG (by omega)).1) mo8_isState ml_X8_109 in_8_isState se_8_isState (ms_o hM) rfl rfl rfl rfl rfl ⟨Nat.le_refl _, Nat.le_refl _⟩ rfl (Nat.le_of_ble_eq_true rfl) ?_
      rintro _ w' ⟨r5, rfl, rfl, rfl⟩
      change ze_V G l (ze_rm 8 0 0) M8_twins _ 23 [(0, .ref m), (1, ze_i (c)), (2, ze_i (s)), (3, ze_i (t))] [ze_i (bi (0 ≤ t ∧ t < ar 1 c.toNat))] w' 0 0
      refine ze_if_ne 28 dX8_twins_23 (by decide) (bi_rng _) (fun q6 => ?_) (fun q6 => ?_)
      · rw [bi_n] at q6
        have hcond : (0 ≤ c ∧ c < (C : Int)) ∧ (0 ≤ s ∧ s < ar 1 c.toNat) ∧ (0 ≤ t ∧ t < ar 1 c.toNat) := by omega
        obtain ⟨c, rfl⟩ := Int.eq_ofNat_of_zero_le hcond.1.1
        obtain ⟨s, rfl⟩ := Int.eq_ofNat_of_zero_le hcond.2.1.1
        obtain ⟨t, rfl⟩ := Int.eq_ofNat_of_zero_le hcond.2.2.1
        have hK := hG.2.1 c (by omega)
        obtain ⟨en, n1, n8⟩ := mch_n hK
        have hsn : s < cn ar c := by have := hcond.2.1.2; rw [Int.toNat_natCast] at this; omega
        have htn : t < cn ar c := by have := hcond.2.2.2; rw [Int.toNat_natCast] at this; omega
        change ze_V G l (ze_rm 8 0 0) M8_twins _ 28 [(0, .ref m), (1, ze_i ((c : Nat))), (2, ze_i ((s : Nat))), (3, ze_i ((t : Nat)))] [] w' 0 0
        refine ze_aload_n dX8_twins_28 rfl ?_
        refine ze_iload_n dX8_twins_29 rfl ?_
        refine ze_callV (As := [ze_i ((c : Nat))]) (rest := []) dX8_twins_30 (C8_isSound hM (by omega) hK) mo8_isSound ml_X8_123 in_8_isSound se_8_isSound (ms_o hM) rfl rfl rfl rfl rfl ⟨Nat.le_refl _, Nat.le_refl _⟩ rfl (Nat.le_of_ble_eq_true rfl) ?_
        rintro _ w' ⟨rs, rfl, hrs, rfl⟩
        change ze_V G l (ze_rm 8 0 0) M8_twins _ 33 [(0, .ref m), (1, ze_i ((c : Nat))), (2, ze_i ((s : Nat))), (3, ze_i ((t : Nat)))] [ze_i (rs)] w' 0 0
        refine ze_if_ne 39 dX8_twins_33 (by decide) (tf_rng hrs) (fun q7 => ?_) (fun q7 => ?_)
        · have hS := tf_n hrs q7
          have loop : ∀ (d k : Nat) (bz1 : Nat → Int) (w1 : ze_W), k + d = 8 → mst G w0 w1 m C P F ar bz1 → (∀ o, o < 21156 → bz1 o = bz o) → (∀ j, j < k → bz1 (21156 + 2 * j) = (sts s t j : Nat) ∧ bz1 (21156 + 2 * (8 + j)) = (sts s t (8 + j) : Nat)) → ze_V G l (ze_rm 8 0 0) M8_twins Z 42 [(0, .ref m), (1, ze_i ((c : Nat))), (2, ze_i ((s : Nat))), (3, ze_i ((t : Nat))), (4, ze_i ((k : Nat)))] [] w1 0 0 := by
            intro d
            induction d with
            | zero =>
              intro k bz1 w1 hk hM1 hf hd
              refine ze_iload dX8_twins_42 rfl ?_
              refine ze_bipush dX8_twins_44 (by decide) ?_
              refine ze_icmp_ge 100 dX8_twins_46 (by decide) (by omega) (by omega) (fun q1 => ?_) (fun q1 => ?_)
              · refine ze_aload_n dX8_twins_100 rfl ?_
                refine ze_iload_n dX8_twins_101 rfl ?_
                refine ze_iload_n dX8_twins_102 rfl ?_
                refine ze_callV (As := [ze_i ((c : Nat)), ze_i ((c : Nat))]) (rest := []) dX8_twins_103 (C8_tellApart hM1 (a := c) (b := c) (st := sts s t) (by omega) (by omega) hK hK hS hS (fun k hk2 => by
                  rw [show 0 * 16 + k = k by omega]
                  by_cases h : k < 8
                  · exact (hd k (by omega)).1
                  · have := (hd (k - 8) (by omega)).2
                    rw [show 8 + (k - 8) = k by omega] at this
                    exact this) (by rw [sts_a (by omega)]; decide) (by rw [sts_a (by omega)]; decide) (by rw [sts_a (by omega), sts_b (by omega) (by omega)]) (fun k _ hv => by unfold sts; unfold vz at hv; rw [if_neg (by omega), if_neg (by omega)])) mo8_tellApart ml_X8_219 in_8_tellApart se_8_tellApart (ms_o hM1) rfl rfl rfl rfl rfl ⟨Nat.le_refl _, Nat.le_refl _⟩ rfl (Nat.le_of_ble_eq_true rfl) ?_
                rintro _ w2 ⟨rt, rfl, ar2, bz2, hM2, hf2, hk2, hres⟩
                have e8 : bz2 8 = bz 8 := by rw [hf2 8 (by decide) (by decide) (by decide) (by decide) (by decide) (by decide) (by decide)]; exact hf 8 (by decide)
                have hrt : -2147483648 ≤ rt ∧ rt < 2147483648 := by
                  rcases hres with ⟨h, -⟩ | ⟨q, z, h, hfn⟩
                  · omega
                  · obtain ⟨wd, fs, ss, -, -, g1, g2, -⟩ := hfn
                    omega
                change ze_V G l (ze_rm 8 0 0) M8_twins _ 106 [(0, .ref m), (1, ze_i ((c : Nat))), (2, ze_i ((s : Nat))), (3, ze_i ((t : Nat))), (4, ze_i ((k : Nat)))] [ze_i (rt)] w2 0 0
                refine ze_if_ge 113 dX8_twins_106 (by decide) hrt (fun q8 => ?_) (fun q8 => ?_)
                · refine ze_iconst dX8_twins_113 ?_
                  rw [← hQ]
                  rcases hres with ⟨h, -⟩ | ⟨q, z, h, hfn⟩
                  · omega
                  · obtain ⟨wd, fs, ss, -, -, -, -, -, g1, g2, -⟩ := hfn
                    exact ze_ireturn rfl dX8_twins_114 ⟨_, rfl, ar2, bz2, hM2, e8, hk2, Or.inr (Or.inr ⟨hcond, hS, Or.inr ⟨rfl, z, g1, g2⟩⟩)⟩ rfl rfl
                · refine ze_iconst dX8_twins_109 ?_
                  refine ze_goto 114 dX8_twins_110 (by decide) ?_
                  rw [← hQ]
                  rcases hres with ⟨-, h⟩ | ⟨q, z, h, hfn⟩
                  · exact ze_ireturn rfl dX8_twins_114 ⟨_, rfl, ar2, bz2, hM2, e8, hk2, Or.inr (Or.inr ⟨hcond, hS, Or.inl ⟨rfl, h⟩⟩)⟩ rfl rfl
                  · omega
              · omega
            | succ d ih =>
              intro k bz1 w1 hk hM1 hf hd
              have hk8 : k < 8 := by omega
              have hva : sts s t k ≤ 1 := by unfold sts; split <;> (try split) <;> omega
              have hvb : sts s t (8 + k) ≤ 1 := by unfold sts; split <;> (try split) <;> omega
              have t91 : ∀ (bz2 : Nat → Int) (w2 : ze_W), mst G w0 w2 m C P F ar bz2 → (∀ o, o < 21156 → bz2 o = bz o) → (∀ j, j < k → bz2 (21156 + 2 * j) = (sts s t j : Nat) ∧ bz2 (21156 + 2 * (8 + j)) = (sts s t (8 + j) : Nat)) → bz2 (21156 + 2 * k) = (sts s t k : Nat) → ze_V G l (ze_rm 8 0 0) M8_twins Z 91 [(0, .ref m), (1, ze_i ((c : Nat))), (2, ze_i ((s : Nat))), (3, ze_i ((t : Nat))), (4, ze_i ((k : Nat)))] [ze_l ((sts s t (8 + k) : Nat)), .ref (m + (21156 + 2 * (8 + k)))] w2 0 0 := by
                intro bz2 w2 hM2 hf2 hd2 hk2
                refine ze_callV (As := [ze_l ((sts s t (8 + k) : Nat))]) (rest := []) dX8_twins_91 (E7_of hM2 (o1 := 21156 + 2 * (8 + k)) (v := ((sts s t (8 + k) : Nat) : Int)) (mc_18 (by omega)) (by omega)) mo7_of ml_X8_132 in_7_of se_7_of (ms_bx hM2 (mc_18 (by omega))).choose_spec rfl rfl rfl rfl rfl ⟨Nat.le_refl _, Nat.le_refl _⟩ rfl (Nat.le_of_ble_eq_true rfl) ?_
                rintro _ w1 ⟨rfl, hM1⟩
                change ze_V G l (ze_rm 8 0 0) M8_twins _ 94 [(0, .ref m), (1, ze_i ((c : Nat))), (2, ze_i ((s : Nat))), (3, ze_i ((t : Nat))), (4, ze_i ((k : Nat)))] [] w1 0 0
                refine ze_iinc (b := ((k + 1 : Nat))) (lv' := [(0, .ref m), (1, ze_i ((c : Nat))), (2, ze_i ((s : Nat))), (3, ze_i ((t : Nat))), (4, ze_i (((k + 1 : Nat))))]) dX8_twins_94 rfl rfl (by omega) rfl ?_
                refine ze_goto 42 dX8_twins_97 (by decide) ?_
                refine ih (k + 1) _ _ (by omega) hM1 (fun o g => by rw [va_up_ne _ _ (by omega)]; exact hf2 o g) (fun j hj => ?_)
                by_cases e : j = k
                · rw [e, va_up_ne _ _ (by omega), va_up_self]
                  exact ⟨hk2, rfl⟩
                · rw [va_up_ne _ _ (by omega), va_up_ne _ _ (by omega)]
                  exact hd2 j (by omega)
              have t67 : ze_V G l (ze_rm 8 0 0) M8_twins Z 67 [(0, .ref m), (1, ze_i ((c : Nat))), (2, ze_i ((s : Nat))), (3, ze_i ((t : Nat))), (4, ze_i ((k : Nat)))] [ze_l ((sts s t k : Nat)), .ref (m + (21156 + 2 * k))] w1 0 0 := by
                refine ze_callV (As := [ze_l ((sts s t k : Nat))]) (rest := []) dX8_twins_67 (E7_of hM1 (o1 := 21156 + 2 * k) (v := ((sts s t k : Nat) : Int)) (mc_18 (by omega)) (by omega)) mo7_of ml_X8_132 in_7_of se_7_of (ms_bx hM1 (mc_18 (by omega))).choose_spec rfl rfl rfl rfl rfl ⟨Nat.le_refl _, Nat.le_refl _⟩ rfl (Nat.le_of_ble_eq_true rfl) ?_
                rintro _ w1 ⟨rfl, hM1⟩
                change ze_V G l (ze_rm 8 0 0) M8_twins _ 70 [(0, .ref m), (1, ze_i ((c : Nat))), (2, ze_i ((s : Nat))), (3, ze_i ((t : Nat))), (4, ze_i ((k : Nat)))] [] w1 0 0
                refine ze_aload_n dX8_twins_70 rfl ?_
                refine ze_getf dX8_twins_71 fl_X8_65 (ms_o hM1) rfl ?_
                refine ze_bipush dX8_twins_74 (by decide) ?_
                refine ze_iload dX8_twins_76 rfl ?_
                refine ze_iadd dX8_twins_78 ?_
                refine ze_aald (j := 8 + k) (b := (m + (21156 + 2 * (8 + k)))) dX8_twins_79 (show w1.2 (m + 18) = some (ze_ra G 4 288 (fun j => some (m + mro 18 j))) from ms_r hM1 18 (by decide)) rfl (by omega) (by omega) (by omega) rfl ?_
                refine ze_iload dX8_twins_80 rfl ?_
                refine ze_iload_n dX8_twins_82 rfl ?_
                refine ze_icmp_ne 90 dX8_twins_83 (by decide) (by omega) (by omega) (fun q2 => ?_) (fun q2 => ?_)
                · refine ze_lconst (z := 0) dX8_twins_90 (by decide) ?_
                  refine ze_tl (b := (sts s t (8 + k) : Nat)) (by unfold sts; rw [if_neg (by omega), if_neg (by omega)]; rfl) ?_
                  exact t91 _ _ hM1 (fun o g => by rw [va_up_ne _ _ (by omega)]; exact hf o g) (fun j hj => by rw [va_up_ne _ _ (by omega), va_up_ne _ _ (by omega)]; exact hd j hj) (va_up_self _ _ _)
                · refine ze_lconst (z := 1) dX8_twins_86 (by decide) ?_
                  refine ze_goto 91 dX8_twins_87 (by decide) ?_
                  refine ze_tl (b := (sts s t (8 + k) : Nat)) (by unfold sts; rw [if_neg (by omega), if_pos (by omega)]; rfl) ?_
                  exact t91 _ _ hM1 (fun o g => by rw [va_up_ne _ _ (by omega)]; exact hf o g) (fun j hj => by rw [va_up_ne _ _ (by omega), va_up_ne _ _ (by omega)]; exact hd j hj) (va_up_self _ _ _)
              refine ze_iload dX8_twins_42 rfl ?_
              refine ze_bipush dX8_twins_44 (by decide) ?_
              refine ze_icmp_ge 100 dX8_twins_46 (by decide) (by omega) (by omega) (fun q1 => ?_) (fun q1 => ?_)
              · omega
              · refine ze_aload_n dX8_twins_49 rfl ?_
                refine ze_getf dX8_twins_50 fl_X8_65 (ms_o hM1) rfl ?_
                refine ze_iload dX8_twins_53 rfl ?_
                refine ze_aald (j := k) (b := (m + (21156 + 2 * k))) dX8_twins_55 (show w1.2 (m + 18) = some (ze_ra G 4 288 (fun j => some (m + mro 18 j))) from ms_r hM1 18 (by decide)) rfl (by omega) (by omega) (by omega) rfl ?_
                refine ze_iload dX8_twins_56 rfl ?_
                refine ze_iload_n dX8_twins_58 rfl ?_
                refine ze_icmp_ne 66 dX8_twins_59 (by decide) (by omega) (by omega) (fun q2 => ?_) (fun q2 => ?_)
                · refine ze_lconst (z := 0) dX8_twins_66 (by decide) ?_
                  refine ze_tl (b := (sts s t k : Nat)) (by unfold sts; rw [if_neg (by omega)]; rw [if_neg (by omega)]; rfl) ?_
                  exact t67
                · refine ze_lconst (z := 1) dX8_twins_62 (by decide) ?_
                  refine ze_goto 67 dX8_twins_63 (by decide) ?_
                  refine ze_tl (b := (sts s t k : Nat)) (by unfold sts; rw [if_pos (by omega)]; rfl) ?_
                  exact t67
          refine ze_iconst dX8_twins_39 ?_
          refine ze_ti (b := ((0 : Nat) : Nat)) rfl ?_
          refine ze_istore (lv' := [(0, .ref m), (1, ze_i ((c : Nat))), (2, ze_i ((s : Nat))), (3, ze_i ((t : Nat))), (4, ze_i (((0 : Nat) : Nat)))]) dX8_twins_40 rfl rfl ?_
          exact loop 8 0 bz _ (by omega) hM (fun _ _ => rfl) (fun j hj => absurd hj (Nat.not_lt_zero _))
        · refine ze_bipush dX8_twins_36 (by decide) ?_
          rw [← hQ]
          exact ze_ireturn rfl dX8_twins_38 ⟨_, rfl, ar, bz, hM, rfl, fun _ _ _ _ => rfl, Or.inr (Or.inl ⟨hcond, tf_z hrs q7, rfl⟩)⟩ rfl rfl
      · rw [bi_z] at q6
        refine ze_iconst dX8_twins_26 ?_
        rw [← hQ]
        exact ze_ireturn rfl dX8_twins_27 ⟨_, rfl, ar, bz, hM, rfl, fun _ _ _ _ => rfl, Or.inl ⟨by omega, rfl⟩⟩ rfl rfl
