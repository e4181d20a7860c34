/-! Chain's and SignRow's constructors -/
theorem C2_init {G : ze_G} {l : Launch} {w : ze_W} {p : Nat} (hb : w.2 p = some (ze_ob 2 [.null, ze_i 0])) (hw : w.1 = p + 1) : ze_C G l 1 1 60 M2_init [.ref p] w (ze_qv (fun w' => w'.1 = p + 2 ∧ (∀ ar, srw G w' ar 0 p) ∧ ∀ x, x ≠ p → x ≠ p + 1 → w'.2 x = w.2 x)) := by
  refine ze_enter (by decide +kernel) rfl ?_
  change ze_V G l (ze_rm 1 1 60) M2_init _ 0 [(0, .ref p)] [] w 0 0
  refine ze_aload_n dX2_init_0 rfl ?_
  refine ze_objI dX2_init_1 ml_X2_3 in_objectInit cd_objectInit rfl rfl ?_
  refine ze_aload_n dX2_init_4 rfl ?_
  refine ze_bipush dX2_init_5 (by decide) ?_
  refine ze_newiW (n := 60) dX2_init_7 rfl (by decide) (by decide) (by decide) (fun w1 z1 c1 o1 => ?_)
  rw [hw] at z1 c1 o1 ⊢
  have hb1 := (o1 p (by omega)).trans hb
  refine ze_putfW (fs' := [.ref (p + 1), ze_i 0]) dX2_init_9 fl_X2_9 (Or.inr ⟨rfl, rfl⟩) hb1 rfl rfl (Nat.le_of_ble_eq_true rfl) rfl (fun w2 z2 c2 o2 => ?_)
  refine ze_aload_n dX2_init_12 rfl ?_
  refine ze_iconst dX2_init_13 ?_
  refine ze_putfW (fs' := [.ref (p + 1), ze_i 0]) dX2_init_14 fl_X2_15 (Or.inl rfl) c2 rfl rfl (Nat.le_of_ble_eq_true rfl) rfl (fun w3 z3 c3 o3 => ?_)
  refine ze_cs (cu' := 1) (su' := 60) rfl rfl ?_
  exact ze_return rfl dX2_init_17 ⟨rfl, z3.trans (z2.trans z1), fun ar => ⟨Nat.zero_le _, c3, fun _ => 0, ((o3 (p + 1) (by omega)).trans (o2 (p + 1) (by omega))).trans c1, fun i hi => absurd hi (Nat.not_lt_zero _)⟩, fun x g1 g2 => (o3 x g1).trans ((o2 x g1).trans (o1 x g2))⟩ rfl rfl
theorem C0_init {G : ze_G} {l : Launch} {w : ze_W} {p n k t : Nat} (hb : w.2 p = some (ze_ob 0 [ze_i 0, ze_i 0, ze_i 0, .null, .null, .null])) (hw : w.1 = p + 1) (hn : 1 ≤ n ∧ n ≤ 8) (hk : 1 ≤ k ∧ k ≤ 6) (ht : t ≤ 1000) : ze_C G l 1 3 120 M0_init [.ref p, ze_i (n : Nat), ze_i (k : Nat), ze_i (t : Nat)] w (ze_qv (fun w' => w'.1 = p + 4 ∧ w'.2 p = some (ze_ob 0 [ze_i (n : Nat), ze_i (k : Nat), ze_i (t : Nat), .ref (p + 1), .ref (p + 2), .ref (p + 3)]) ∧ w'.2 (p + 1) = some (ze_ia G n (fun _ => 0)) ∧ w'.2 (p + 2) = some (ze_ia G (n * n) (fun _ => 0)) ∧ w'.2 (p + 3) = some (ze_ia G (n * k) (fun _ => 0)) ∧ ∀ x, x < p ∨ p + 3 < x → w'.2 x = w.2 x)) := by
  have hnn : n * n ≤ 64 := Nat.mul_le_mul hn.2 hn.2
  have hnk : n * k ≤ 48 := Nat.mul_le_mul hn.2 hk.2
  refine ze_enter (by decide +kernel) rfl ?_
  change ze_V G l (ze_rm 1 3 120) M0_init _ 0 [(0, .ref p), (1, ze_i (n : Nat)), (2, ze_i (k : Nat)), (3, ze_i (t : Nat))] [] w 0 0
  refine ze_aload_n dX0_init_0 rfl ?_
  refine ze_objI dX0_init_1 ml_X0_3 in_objectInit cd_objectInit rfl rfl ?_
  refine ze_aload_n dX0_init_4 rfl ?_
  refine ze_iconst dX0_init_5 ?_
  refine ze_iload_n dX0_init_6 rfl ?_
  refine ze_bipush dX0_init_7 (by decide) ?_
  refine ze_mmin dX0_init_9 ml_X0_9 st_Lib_Math_min_name n_J9 cd_Lib_Math_min_name rfl rfl ⟨Nat.zero_le _, Nat.zero_le _⟩ (by omega) (by omega) ?_
  refine ze_mmax dX0_init_12 ml_X0_15 st_Lib_Math_max_name n_J9 cd_Lib_Math_max_name rfl rfl ⟨Nat.zero_le _, Nat.zero_le _⟩ (by omega) (by omega) ?_
  refine ze_ti (b := (n : Nat)) (by omega) ?_
  refine ze_putfW (fs' := [ze_i (n : Nat), ze_i 0, ze_i 0, .null, .null, .null]) dX0_init_15 fl_X0_18 (Or.inr ⟨rfl, rfl⟩) hb rfl rfl (Nat.le_of_ble_eq_true rfl) rfl (fun w1 z1 c1 o1 => ?_)
  refine ze_aload_n dX0_init_18 rfl ?_
  refine ze_iconst dX0_init_19 ?_
  refine ze_iload_n dX0_init_20 rfl ?_
  refine ze_bipush dX0_init_21 (by decide) ?_
  refine ze_mmin dX0_init_23 ml_X0_9 st_Lib_Math_min_name n_J9 cd_Lib_Math_min_name rfl rfl ⟨Nat.zero_le _, Nat.zero_le _⟩ (by omega) (by omega) ?_
  refine ze_mmax dX0_init_26 ml_X0_15 st_Lib_Math_max_name n_J9 cd_Lib_Math_max_name rfl rfl ⟨Nat.zero_le _, Nat.zero_le _⟩ (by omega) (by omega) ?_
  refine ze_ti (b := (k : Nat)) (by omega) ?_
  refine ze_putfW (fs' := [ze_i (n : Nat), ze_i (k : Nat), ze_i 0, .null, .null, .null]) dX0_init_29 fl_X0_24 (Or.inr ⟨rfl, rfl⟩) c1 rfl rfl (Nat.le_of_ble_eq_true rfl) rfl (fun w2 z2 c2 o2 => ?_)
  refine ze_aload_n dX0_init_32 rfl ?_
  refine ze_iload_n dX0_init_33 rfl ?_
  refine ze_putfW (fs' := [ze_i (n : Nat), ze_i (k : Nat), ze_i (t : Nat), .null, .null, .null]) dX0_init_34 fl_X0_27 (Or.inr ⟨rfl, rfl⟩) c2 rfl rfl (Nat.le_of_ble_eq_true rfl) rfl (fun w3 z3 c3 o3 => ?_)
  have hw3 : w3.1 = p + 1 := z3.trans (z2.trans (z1.trans hw))
  refine ze_aload_n dX0_init_37 rfl ?_
  refine ze_aload_n dX0_init_38 rfl ?_
  refine ze_getf dX0_init_39 fl_X0_18 c3 rfl ?_
  refine ze_newiW (n := n) dX0_init_42 rfl (by omega) (by decide) (show 0 + n ≤ 120 by omega) (fun w4 z4 c4 o4 => ?_)
  rw [hw3] at z4 c4 o4 ⊢
  refine ze_putfW (fs' := [ze_i (n : Nat), ze_i (k : Nat), ze_i (t : Nat), .ref (p + 1), .null, .null]) dX0_init_44 fl_X0_30 (Or.inr ⟨rfl, rfl⟩) ((o4 p (by omega)).trans c3) rfl rfl (Nat.le_of_ble_eq_true rfl) rfl (fun w5 z5 c5 o5 => ?_)
  have hw5 : w5.1 = p + 2 := z5.trans z4
  refine ze_aload_n dX0_init_47 rfl ?_
  refine ze_aload_n dX0_init_48 rfl ?_
  refine ze_getf dX0_init_49 fl_X0_18 c5 rfl ?_
  refine ze_aload_n dX0_init_52 rfl ?_
  refine ze_getf dX0_init_53 fl_X0_18 c5 rfl ?_
  refine ze_imul dX0_init_56 ?_
  refine ze_newiW (n := n * n) dX0_init_57 (Int.natCast_mul _ _).symm (by omega) (by decide) (show 0 + n + n * n ≤ 120 by omega) (fun w6 z6 c6 o6 => ?_)
  rw [hw5] at z6 c6 o6 ⊢
  refine ze_putfW (fs' := [ze_i (n : Nat), ze_i (k : Nat), ze_i (t : Nat), .ref (p + 1), .ref (p + 2), .null]) dX0_init_59 fl_X0_34 (Or.inr ⟨rfl, rfl⟩) ((o6 p (by omega)).trans c5) rfl rfl (Nat.le_of_ble_eq_true rfl) rfl (fun w7 z7 c7 o7 => ?_)
  have hw7 : w7.1 = p + 3 := z7.trans z6
  refine ze_aload_n dX0_init_62 rfl ?_
  refine ze_aload_n dX0_init_63 rfl ?_
  refine ze_getf dX0_init_64 fl_X0_18 c7 rfl ?_
  refine ze_aload_n dX0_init_67 rfl ?_
  refine ze_getf dX0_init_68 fl_X0_24 c7 rfl ?_
  refine ze_imul dX0_init_71 ?_
  refine ze_newiW (n := n * k) dX0_init_72 (Int.natCast_mul _ _).symm (by omega) (by decide) (show 0 + n + n * n + n * k ≤ 120 by omega) (fun w8 z8 c8 o8 => ?_)
  rw [hw7] at z8 c8 o8 ⊢
  refine ze_putfW (fs' := [ze_i (n : Nat), ze_i (k : Nat), ze_i (t : Nat), .ref (p + 1), .ref (p + 2), .ref (p + 3)]) dX0_init_74 fl_X0_37 (Or.inr ⟨rfl, rfl⟩) ((o8 p (by omega)).trans c7) rfl rfl (Nat.le_of_ble_eq_true rfl) rfl (fun w9 z9 c9 o9 => ?_)
  exact ze_return rfl dX0_init_77 ⟨rfl, z9.trans z8, c9, (o9 _ (by omega)).trans ((o8 _ (by omega)).trans ((o7 _ (by omega)).trans ((o6 _ (by omega)).trans ((o5 _ (by omega)).trans c4)))), (o9 _ (by omega)).trans ((o8 _ (by omega)).trans ((o7 _ (by omega)).trans c6)), (o9 _ (by omega)).trans c8, fun x hx => (o9 x (by omega)).trans ((o8 x (by omega)).trans ((o7 x (by omega)).trans ((o6 x (by omega)).trans ((o5 x (by omega)).trans ((o4 x (by omega)).trans ((o3 x (by omega)).trans ((o2 x (by omega)).trans (o1 x (by omega)))))))))⟩ rfl (Nat.ble_eq_true_of_le (show 0 + n + n * n + n * k ≤ 120 by omega))
