/-! a row of Wholes -/
/-- a row of n Wholes at A, the first k of them made -/
def mkw (G : ze_G) (w0 w : ze_W) (A n k : Nat) (f : Nat → Option Nat) : Prop := w.1 = A + 1 + 2 * k ∧ w.2 A = some (ze_ra G 2 n f) ∧ (∀ i, i < k → f i = some (A + 1 + 2 * i) ∧ whz G w (A + 1 + 2 * i) 42 0) ∧ ∀ x, x < A → w.2 x = w0.2 x
theorem whz_sm {G : ze_G} {w w' : ze_W} {a L v : Nat} (h : whz G w a L v) (h1 : w'.2 a = w.2 a) (h2 : w'.2 (a + 1) = w.2 (a + 1)) : whz G w' a L v := by
  obtain ⟨f, n, g1, g2⟩ := h
  exact ⟨f, n, ⟨h1.trans g1.1, h2.trans g1.2.1, g1.2.2⟩, g2⟩
/-- a row of n Wholes at A, all made -/
def mkr (G : ze_G) (w0 w : ze_W) (A n : Nat) : Prop := w.1 = A + 1 + 2 * n ∧ w.2 A = some (ze_ra G 2 n (fun i => some (A + 1 + 2 * i))) ∧ (∀ i, i < n → whz G w (A + 1 + 2 * i) 42 0) ∧ ∀ x, x < A → w.2 x = w0.2 x
theorem C6_makeWholes {G : ze_G} {l : Launch} {w : ze_W} {n : Nat} (hn : 1 ≤ n ∧ n ≤ 200) : ze_C G l 2 (1 + 2 * n) (n + 44 * n) M6_makeWholes [ze_i (n : Nat)] w (ze_qr (fun r w' => r = some w.1 ∧ mkr G w w' w.1 n)) := by
  refine ze_enter (by decide +kernel) rfl ?_
  generalize hQ : (ze_Q G (ze_qr (fun r w' => r = some w.1 ∧ mkr G w w' w.1 n)) (1 + 2 * n) (n + 44 * n)) = Z
  obtain ⟨A, hA⟩ : ∃ A, A = w.1 := ⟨_, rfl⟩
  rw [← hA] at hQ
  have loop : ∀ (d i : Nat) (f : Nat → Option Nat) (w1 : ze_W), i + d = n → mkw G w w1 A n i f → ze_V G l (ze_rm 2 (1 + 2 * n) (n + 44 * n)) M6_makeWholes Z 11 [(0, ze_i (n : Nat)), (1, .ref A), (2, ze_i (i : Nat))] [] w1 (1 + 2 * i) (n + 44 * i) := by
    intro d
    induction d with
    | zero =>
      intro i f w1 hi hm
      have hin : i = n := by omega
      subst hin
      rw [← hQ]
      refine ze_iload_n dX6_makeWholes_11 rfl ?_
      refine ze_aload_n dX6_makeWholes_12 rfl ?_
      refine ze_alen dX6_makeWholes_13 hm.2.1 rfl ?_
      refine ze_icmp_ge 35 dX6_makeWholes_14 (by decide) (by omega) (by omega) (fun q => ?_) (fun q => ?_)
      · refine ze_aload_n dX6_makeWholes_35 rfl ?_
        refine ze_chg (f' := fun i => some (A + 1 + 2 * i)) hm.2.1 (fun j hj => (hm.2.2.1 j hj).1) (fun w2 z2 c2 o2 => ?_)
        exact ze_areturn (r := some A) rfl (Or.inr ⟨_, rfl⟩) dX6_makeWholes_36 ⟨some A, rfl, rfl, z2.trans hm.1, c2, fun j hj => whz_sm (hm.2.2.1 j hj).2 (o2 _ (by omega)) (o2 _ (by omega)), fun x hx => (o2 x (by omega)).trans (hm.2.2.2 x hx)⟩ (Nat.ble_eq_true_of_le (Nat.le_refl _)) (Nat.ble_eq_true_of_le (Nat.le_refl _))
      · omega
    | succ d ih =>
      intro i f w1 hi hm
      obtain ⟨m1, m2, m3, m4⟩ := id hm
      refine ze_iload_n dX6_makeWholes_11 rfl ?_
      refine ze_aload_n dX6_makeWholes_12 rfl ?_
      refine ze_alen dX6_makeWholes_13 m2 rfl ?_
      refine ze_icmp_ge 35 dX6_makeWholes_14 (by decide) (by omega) (by omega) (fun q => ?_) (fun q => ?_)
      · omega
      · refine ze_aload_n dX6_makeWholes_17 rfl ?_
        refine ze_iload_n dX6_makeWholes_18 rfl ?_
        refine ze_nX5 dX6_makeWholes_19 cl_X6_26 (show _ ≤ 1 + 2 * n by omega) (show _ ≤ n + 44 * n by omega) (fun w2 z2 c2 o2 => ?_)
        rw [m1] at z2 c2 o2 ⊢
        refine ze_dup dX6_makeWholes_22 rfl ?_
        refine ze_bipush dX6_makeWholes_23 (by decide) ?_
        refine ze_callI (As := [ze_i ((42 : Nat) : Int)]) (rest := [.ref (A + 1 + 2 * i), ze_i (i : Nat), .ref A]) dX6_makeWholes_25 (C5_init (n := 42) c2 z2 (by decide)) mo5_init rfl rfl ml_X6_28 in_5_init rfl rfl rfl ⟨show _ ≤ 1 + 2 * n by omega, show _ ≤ n + 44 * n by omega⟩ rfl (Nat.le_of_ble_eq_true rfl) ?_
        rintro _ w3 ⟨rfl, z3, h3, o3⟩
        have mA : w3.2 A = some (ze_ra G 2 n f) := (o3 A (by omega) (by omega)).trans ((o2 A (by omega)).trans m2)
        obtain ⟨f3, n3, g3, -⟩ := id h3
        refine ze_cs (cu' := 1 + 2 * i + 2) (su' := n + 44 * i + 44) (by omega) (by omega) ?_
        change ze_V G l (ze_rm 2 (1 + 2 * n) (n + 44 * n)) M6_makeWholes Z 28 [(0, ze_i (n : Nat)), (1, .ref A), (2, ze_i (i : Nat))] [.ref (A + 1 + 2 * i), ze_i (i : Nat), .ref A] w3 (1 + 2 * i + 2) (n + 44 * i + 44)
        refine ze_aastW (j := i) (f' := va_up f i (some (A + 1 + 2 * i))) (r := (RX5, TX5, 2)) (ci := 5) dX6_makeWholes_28 mA rfl rfl g3.1 rfl (by omega) (by omega) rfl (fun w4 z4 c4 o4 => ?_)
        refine ze_iinc (b := ((i + 1 : Nat))) (lv' := [(0, ze_i (n : Nat)), (1, .ref A), (2, ze_i ((i + 1 : Nat)))]) dX6_makeWholes_29 rfl rfl (by omega) rfl ?_
        refine ze_goto 11 dX6_makeWholes_32 (by decide) ?_
        refine ze_cs (cu' := 1 + 2 * (i + 1)) (su' := n + 44 * (i + 1)) (by omega) (by omega) ?_
        refine ih (i + 1) _ _ (by omega) ⟨by rw [z4, z3]; omega, c4, fun j hj => ?_, fun x hx => (o4 x (by omega)).trans ((o3 x (by omega) (by omega)).trans ((o2 x (by omega)).trans (m4 x hx)))⟩
        by_cases e : j = i
        · rw [e, va_up_self]
          exact ⟨rfl, whz_sm h3 (o4 _ (by omega)) (o4 _ (by omega))⟩
        · rw [va_up_ne _ _ e]
          obtain ⟨k1, k2⟩ := m3 j (by omega)
          exact ⟨k1, whz_sm k2 ((o4 _ (by omega)).trans ((o3 _ (by omega) (by omega)).trans (o2 _ (by omega)))) ((o4 _ (by omega)).trans ((o3 _ (by omega) (by omega)).trans (o2 _ (by omega))))⟩
  change ze_V G l (ze_rm 2 (1 + 2 * n) (n + 44 * n)) M6_makeWholes Z 0 [(0, ze_i (n : Nat))] [] w 0 0
  refine ze_iconst dX6_makeWholes_0 ?_
  refine ze_iload_n dX6_makeWholes_1 rfl ?_
  refine ze_mmax dX6_makeWholes_2 ml_X6_200 st_Lib_Math_max_name n_J9 cd_Lib_Math_max_name rfl rfl ⟨Nat.zero_le _, Nat.zero_le _⟩ (by omega) (by omega) ?_
  refine ze_ti (b := (n : Nat)) (by omega) ?_
  refine ze_newqW (t := 2) (n := n) dX6_makeWholes_5 cl_X6_26 rfl (Or.inl rfl) rfl (by omega) (show _ ≤ 1 + 2 * n by omega) (show _ ≤ n + 44 * n by omega) (fun w1 z1 c1 o1 => ?_)
  rw [← hA] at z1 c1 o1 ⊢
  refine ze_astore_n (lv' := [(0, ze_i (n : Nat)), (1, .ref A)]) dX6_makeWholes_8 rfl rfl ?_
  refine ze_iconst dX6_makeWholes_9 ?_
  refine ze_ti (b := ((0 : Nat) : Nat)) rfl ?_
  refine ze_istore_n (lv' := [(0, ze_i (n : Nat)), (1, .ref A), (2, ze_i ((0 : Nat) : Nat))]) dX6_makeWholes_10 rfl rfl ?_
  refine ze_cs (cu' := 1 + 2 * 0) (su' := n + 44 * 0) (by omega) (by omega) ?_
  exact loop n 0 _ w1 (by omega) ⟨by rw [z1], c1, fun i hi => absurd hi (Nat.not_lt_zero _), fun x hx => o1 x (by omega)⟩
