/-! Whole: the class's numbers, by limbs below 10^9 -/
def wh (G : ze_G) (w : ze_W) (a L : Nat) (f : Nat → Nat) (n : Nat) : Prop := w.2 a = some (ze_ob 5 [.ref (a + 1), ze_i (n : Nat)]) ∧ w.2 (a + 1) = some (ze_ia G L (fun j => (f j : Nat))) ∧ n ≤ L ∧ (1 ≤ L ∧ L < 100000) ∧ ∀ j, f j < 1000000000
/-- a Whole of the value v -/
def whz (G : ze_G) (w : ze_W) (a L v : Nat) : Prop := ∃ (f : Nat → Nat) (n : Nat), wh G w a L f n ∧ bnz f n ∧ v = nv 1000000000 f n
theorem wh_x {G : ze_G} {w : ze_W} {a b L1 L2 : Nat} {f g : Nat → Nat} {n k : Nat} (h1 : wh G w a L1 f n) (h2 : wh G w b L2 g k) : a ≠ b + 1 := by
  intro e
  have h := h1.1
  rw [e, h2.2.1] at h
  cases h
theorem wh_fr {G : ze_G} {w w' : ze_W} {a b L La : Nat} {f fa : Nat → Nat} {n na : Nat} (hr : bfr w w' a) (ha : wh G w a La fa na) (h : wh G w b L f n) (hne : a ≠ b) : wh G w' b L f n := by
  have h1 := wh_x ha h
  have h2 := wh_x h ha
  exact ⟨(hr.2 b (Ne.symm hne) h2).trans h.1, (hr.2 (b + 1) (Ne.symm h1) (by omega)).trans h.2.1, h.2.2⟩
theorem whz_fr {G : ze_G} {w w' : ze_W} {a b L La v : Nat} {fa : Nat → Nat} {na : Nat} (hr : bfr w w' a) (ha : wh G w a La fa na) (h : whz G w b L v) (hne : a ≠ b) : whz G w' b L v := by
  obtain ⟨f, n, h1, h2⟩ := h
  exact ⟨f, n, wh_fr hr ha h1 hne, h2⟩
theorem ev_pos {f : Nat → Nat} {n : Nat} (h : bnz f n) (hn : 0 < n) : 0 < nv 1000000000 f n := by
  rcases h with h | h
  · omega
  · have := nv_pos (B := 1000000000) (by decide) (f := f) (n := n - 1) h
    rw [show n - 1 + 1 = n by omega] at this
    exact this
theorem ev_lt {f g : Nat → Nat} {n k : Nat} (hf : ∀ j, f j < 1000000000) (hg : bnz g k) (h : n < k) : nv 1000000000 f n < nv 1000000000 g k := by
  have h1 : nv 1000000000 f n < 1000000000 ^ n := nv_lt (fun j _ => hf j)
  rcases hg with hg | hg
  · omega
  · have h2 := nv_ge (B := 1000000000) (f := g) (n := k - 1) hg
    rw [show k - 1 + 1 = k by omega] at h2
    exact Nat.lt_of_lt_of_le h1 (Nat.le_trans (Nat.pow_le_pow_right (by decide) (by omega)) h2)
/-- what trimFrom leaves -/
theorem whz_tr {G : ze_G} {w : ze_W} {a L n n' : Nat} {f : Nat → Nat} (hn : n' ≤ n) (hz : bnz f n') (h0 : ∀ j, n' ≤ j → j < n → f j = 0) (h : wh G w a L f n') : whz G w a L (nv 1000000000 f n) := by
  refine ⟨f, n', h, hz, ?_⟩
  obtain ⟨d, hd⟩ := Nat.exists_eq_add_of_le hn
  rw [hd]
  exact nv_ext d (fun j h1 h2 => h0 j h1 (by omega))
theorem C5_init {G : ze_G} {l : Launch} {w : ze_W} {a n : Nat} (hb : w.2 a = some (ze_ob 5 [.null, ze_i 0])) (hw : w.1 = a + 1) (hn : 1 ≤ n ∧ n < 100000) : ze_C G l 1 1 n M5_init [.ref a, ze_i (n : Nat)] w (ze_qv (fun w' => w'.1 = a + 2 ∧ whz G w' a n 0 ∧ ∀ x, x ≠ a → x ≠ a + 1 → w'.2 x = w.2 x)) := by
  refine ze_enter (by decide +kernel) rfl ?_
  change ze_V G l (ze_rm 1 1 n) M5_init _ 0 [(0, .ref a), (1, ze_i (n : Nat))] [] w 0 0
  refine ze_aload_n dX5_init_0 rfl ?_
  refine ze_objI dX5_init_1 ml_X5_3 in_objectInit cd_objectInit rfl rfl ?_
  refine ze_aload_n dX5_init_4 rfl ?_
  refine ze_iconst dX5_init_5 ?_
  refine ze_iload_n dX5_init_6 rfl ?_
  refine ze_mmax dX5_init_7 ml_X5_9 st_Lib_Math_max_name n_J9 cd_Lib_Math_max_name rfl rfl ⟨Nat.zero_le _, Nat.zero_le _⟩ (by omega) (by omega) ?_
  refine ze_ti (b := (n : Nat)) (by omega) ?_
  refine ze_newiW (n := n) dX5_init_10 rfl (by omega) (Nat.le_refl _) (Nat.le_of_eq (Nat.zero_add n)) (fun w1 z1 c1 o1 => ?_)
  rw [hw] at z1 c1 o1 ⊢
  have hb1 := (o1 a (by omega)).trans hb
  refine ze_putfW (fs' := [.ref (a + 1), ze_i 0]) dX5_init_12 fl_X5_15 (Or.inr ⟨rfl, rfl⟩) hb1 rfl rfl (Nat.le_of_ble_eq_true rfl) rfl (fun w2 z2 c2 o2 => ?_)
  refine ze_aload_n dX5_init_15 rfl ?_
  refine ze_iconst dX5_init_16 ?_
  refine ze_putfW (fs' := [.ref (a + 1), ze_i 0]) dX5_init_17 fl_X5_21 (Or.inl rfl) c2 rfl rfl (Nat.le_of_ble_eq_true rfl) rfl (fun w3 z3 c3 o3 => ?_)
  refine ze_cs (cu' := 1) (su' := n) rfl (Nat.zero_add n) ?_
  refine ze_return rfl dX5_init_20 ⟨rfl, z3.trans (z2.trans z1), ⟨fun _ => 0, 0, ⟨c3, ((o3 (a + 1) (by omega)).trans (o2 (a + 1) (by omega))).trans c1, Nat.zero_le _, hn, fun _ => (by decide : (0 : Nat) < 1000000000)⟩, Or.inl rfl, rfl⟩, fun x p q => (o3 x p).trans ((o2 x p).trans (o1 x q))⟩ rfl (Nat.ble_eq_true_of_le (Nat.le_refl _))
theorem C5_isNought {G : ze_G} {l : Launch} {w : ze_W} {a L v : Nat} (h : whz G w a L v) : ze_C G l 0 0 0 M5_isNought [.ref a] w (ze_qi (fun r w' => tf r (v = 0) ∧ w' = w)) := by
  obtain ⟨f, n, h1, h2, h3⟩ := h
  obtain ⟨ga, gb, gn, gL, gf⟩ := id h1
  refine ze_enter (by decide +kernel) rfl ?_
  change ze_V G l (ze_rm 0 0 0) M5_isNought _ 0 [(0, .ref a)] [] w 0 0
  refine ze_aload_n dX5_isNought_0 rfl ?_
  refine ze_getf dX5_isNought_1 fl_X5_21 ga rfl ?_
  refine ze_if_ne 11 dX5_isNought_4 (by decide) (by omega) (fun q1 => ?_) (fun q1 => ?_)
  · refine ze_iconst dX5_isNought_11 ?_
    exact ze_zreturn rfl dX5_isNought_12 (by decide) ⟨_, rfl, Or.inr ⟨rfl, fun h0 => by have := ev_pos h2 (by omega); omega⟩, rfl⟩ rfl rfl
  · refine ze_iconst dX5_isNought_7 ?_
    refine ze_goto 12 dX5_isNought_8 (by decide) ?_
    exact ze_zreturn rfl dX5_isNought_12 (by decide) ⟨_, rfl, Or.inl ⟨rfl, by rw [h3, show n = 0 by omega]; rfl⟩, rfl⟩ rfl rfl
theorem C5_limbAt {G : ze_G} {l : Launch} {w : ze_W} {a L n k : Nat} {f : Nat → Nat} (h : wh G w a L f n) (hk : k < 2147483648) : ze_C G l 0 0 0 M5_limbAt [.ref a, ze_i (k : Nat)] w (ze_ql (fun r w' => r = (bt f n k : Nat) ∧ w' = w)) := by
  obtain ⟨ga, gb, gn, gL, gf⟩ := id h
  have hfk := gf k
  refine ze_enter (by decide +kernel) rfl ?_
  change ze_V G l (ze_rm 0 0 0) M5_limbAt _ 0 [(0, .ref a), (1, ze_i ((k : Nat)))] [] w 0 0
  refine ze_iload_n dX5_limbAt_0 rfl ?_
  refine ze_if_lt 22 dX5_limbAt_1 (by decide) (by omega) (fun q1 => ?_) (fun q1 => ?_)
  · omega
  · refine ze_iload_n dX5_limbAt_4 rfl ?_
    refine ze_aload_n dX5_limbAt_5 rfl ?_
    refine ze_getf dX5_limbAt_6 fl_X5_21 ga rfl ?_
    refine ze_icmp_ge 22 dX5_limbAt_9 (by decide) (by omega) (by omega) (fun q2 => ?_) (fun q2 => ?_)
    · refine ze_lconst (z := 0) dX5_limbAt_22 (by decide) ?_
      exact ze_lreturn rfl dX5_limbAt_23 ⟨_, rfl, by unfold bt; rw [if_neg (by omega)]; rfl, rfl⟩ rfl rfl
    · refine ze_aload_n dX5_limbAt_12 rfl ?_
      refine ze_getf dX5_limbAt_13 fl_X5_15 ga rfl ?_
      refine ze_iload_n dX5_limbAt_16 rfl ?_
      refine ze_iald (j := k) dX5_limbAt_17 gb (by omega) (by omega) (by omega) ?_
      refine ze_i2l dX5_limbAt_18 (by omega) ?_
      refine ze_goto 23 dX5_limbAt_19 (by decide) ?_
      exact ze_lreturn rfl dX5_limbAt_23 ⟨_, rfl, by unfold bt; rw [if_pos (by omega)], rfl⟩ rfl rfl
theorem C5_trimFrom {G : ze_G} {l : Launch} {w : ze_W} {a L n n0 : Nat} {f : Nat → Nat} (h : wh G w a L f n0) (hn : n ≤ L) : ze_C G l 1 0 0 M5_trimFrom [.ref a, ze_i (n : Nat)] w (ze_qv (fun w' => ∃ n', n' ≤ n ∧ bnz f n' ∧ (∀ j, n' ≤ j → j < n → f j = 0) ∧ bfr w w' a ∧ wh G w' a L f n')) := by
  obtain ⟨ga, gb, gn, gL, gf⟩ := id h
  refine ze_enter (by decide +kernel) rfl ?_
  generalize hQ : (ze_Q G (ze_qv (fun w' => ∃ n', n' ≤ n ∧ bnz f n' ∧ (∀ j, n' ≤ j → j < n → f j = 0) ∧ bfr w w' a ∧ wh G w' a L f n')) 0 0) = Z
  have loop : ∀ (k : Nat) (w1 : ze_W), k ≤ n → bfr w w1 a → w1.2 a = some (ze_ob 5 [.ref (a + 1), ze_i (k : Nat)]) → w1.2 (a + 1) = some (ze_ia G L (fun j => (f j : Nat))) → (∀ j, k ≤ j → j < n → f j = 0) → ze_V G l (ze_rm 1 0 0) M5_trimFrom Z 13 [(0, .ref a), (1, ze_i ((n : Nat)))] [] w1 0 0 := by
    intro k
    induction k with
    | zero =>
      intro w1 hk fr ca cb h0
      refine ze_aload_n dX5_trimFrom_13 rfl ?_
      refine ze_getf dX5_trimFrom_14 fl_X5_21 ca rfl ?_
      refine ze_if_le 47 dX5_trimFrom_17 (by decide) (by omega) (fun q1 => ?_) (fun q1 => ?_)
      · rw [← hQ]
        exact ze_return rfl dX5_trimFrom_47 ⟨rfl, 0, hk, Or.inl rfl, h0, fr, ca, cb, by omega, gL, gf⟩ rfl rfl
      · omega
    | succ k ih =>
      intro w1 hk fr ca cb h0
      have hfk := gf k
      refine ze_aload_n dX5_trimFrom_13 rfl ?_
      refine ze_getf dX5_trimFrom_14 fl_X5_21 ca rfl ?_
      refine ze_if_le 47 dX5_trimFrom_17 (by decide) (by omega) (fun qa1 => ?_) (fun qa1 => ?_)
      · omega
      · refine ze_aload_n dX5_trimFrom_20 rfl ?_
        refine ze_getf dX5_trimFrom_21 fl_X5_15 ca rfl ?_
        refine ze_aload_n dX5_trimFrom_24 rfl ?_
        refine ze_getf dX5_trimFrom_25 fl_X5_21 ca rfl ?_
        refine ze_iconst dX5_trimFrom_28 ?_
        refine ze_isub dX5_trimFrom_29 ?_
        refine ze_ti (b := (k : Nat)) (by omega) ?_
        refine ze_iald (j := k) dX5_trimFrom_30 cb (by omega) (by omega) (by omega) ?_
        refine ze_if_ne 47 dX5_trimFrom_31 (by decide) (by omega) (fun q2 => ?_) (fun q2 => ?_)
        · rw [← hQ]
          exact ze_return rfl dX5_trimFrom_47 ⟨rfl, k + 1, hk, Or.inr (by show f (k + 1 - 1) ≠ 0; rw [Nat.add_sub_cancel]; omega), h0, fr, ca, cb, by omega, gL, gf⟩ rfl rfl
        · refine ze_aload_n dX5_trimFrom_34 rfl ?_
          refine ze_dup dX5_trimFrom_35 rfl ?_
          refine ze_getf dX5_trimFrom_36 fl_X5_21 ca rfl ?_
          refine ze_iconst dX5_trimFrom_39 ?_
          refine ze_isub dX5_trimFrom_40 ?_
          refine ze_ti (b := (k : Nat)) (by omega) ?_
          refine ze_putfW (fs' := [.ref (a + 1), ze_i ((k : Nat))]) dX5_trimFrom_41 fl_X5_21 (Or.inl rfl) ca rfl rfl (Nat.le_of_ble_eq_true rfl) rfl (fun w3 z3 c3 o3 => ?_)
          have h3_1 := (o3 (a + 1) (by omega)).trans cb
          refine ze_goto 13 dX5_trimFrom_44 (by decide) ?_
          exact ih _ (by omega) ⟨z3.trans fr.1, fun x p q => (o3 x p).trans (fr.2 x p q)⟩ c3 h3_1 (fun j h1 h2 => by
            by_cases e : j = k
            · rw [e]; omega
            · exact h0 j (by omega) h2)
  change ze_V G l (ze_rm 1 0 0) M5_trimFrom Z 0 [(0, .ref a), (1, ze_i ((n : Nat)))] [] w 0 0
  refine ze_aload_n dX5_trimFrom_0 rfl ?_
  refine ze_iload_n dX5_trimFrom_1 rfl ?_
  refine ze_aload_n dX5_trimFrom_2 rfl ?_
  refine ze_getf dX5_trimFrom_3 fl_X5_15 ga rfl ?_
  refine ze_alen dX5_trimFrom_6 gb rfl ?_
  refine ze_mmin dX5_trimFrom_7 ml_X5_29 st_Lib_Math_min_name n_J9 cd_Lib_Math_min_name rfl rfl ⟨Nat.le_refl _, Nat.le_refl _⟩ (by omega) (by omega) ?_
  refine ze_ti (b := (n : Nat)) (by omega) ?_
  refine ze_putfW (fs' := [.ref (a + 1), ze_i ((n : Nat))]) dX5_trimFrom_10 fl_X5_21 (Or.inl rfl) ga rfl rfl (Nat.le_of_ble_eq_true rfl) rfl (fun w1 z1 c1 o1 => ?_)
  have h1_1 := (o1 (a + 1) (by omega)).trans gb
  exact loop n _ (Nat.le_refl _) ⟨z1, fun x p q => o1 x p⟩ c1 h1_1 (fun j h1 h2 => by omega)
theorem C5_setSmall {G : ze_G} {l : Launch} {w : ze_W} {a L v0 v : Nat} (h : whz G w a L v0) (hv : v < 1000000000) : ze_C G l 2 0 0 M5_setSmall [.ref a, ze_i (v : Nat)] w (ze_qv (fun w' => bfr w w' a ∧ whz G w' a L v)) := by
  obtain ⟨f, n, h, -, -⟩ := h
  obtain ⟨ga, gb, gn, gL, gf⟩ := id h
  refine ze_enter (by decide +kernel) rfl ?_
  change ze_V G l (ze_rm 2 0 0) M5_setSmall _ 0 [(0, .ref a), (1, ze_i ((v : Nat)))] [] w 0 0
  refine ze_aload_n dX5_setSmall_0 rfl ?_
  refine ze_getf dX5_setSmall_1 fl_X5_15 ga rfl ?_
  refine ze_iconst dX5_setSmall_4 ?_
  refine ze_iload_n dX5_setSmall_5 rfl ?_
  refine ze_iastW (j := 0) (f' := fun j => ((va_up f 0 v j : Nat) : Int)) dX5_setSmall_6 gb rfl (by omega) (by omega) (ze_vu _ _ _) (fun w1 z1 c1 o1 => ?_)
  have h1_0 := (o1 a (by omega)).trans ga
  refine ze_aload_n dX5_setSmall_7 rfl ?_
  refine ze_iconst dX5_setSmall_8 ?_
  refine ze_ti (b := ((1 : Nat) : Nat)) rfl ?_
  refine ze_callV (As := [ze_i (((1 : Nat) : Nat))]) (rest := []) dX5_setSmall_9 (C5_trimFrom (n := 1) (f := va_up f 0 v) ⟨h1_0, c1, gn, gL, up_lt gf hv⟩ (by omega)) mo5_trimFrom ml_X5_25 in_5_trimFrom se_5_trimFrom h1_0 rfl rfl rfl rfl rfl ⟨Nat.le_refl _, Nat.le_refl _⟩ rfl (Nat.le_of_ble_eq_true rfl) ?_
  rintro _ w2 ⟨rfl, n', hn', hz, h0, fr, hw2⟩
  change ze_V G l (ze_rm 2 0 0) M5_setSmall _ 12 [(0, .ref a), (1, ze_i ((v : Nat)))] [] w2 0 0
  refine ze_return rfl dX5_setSmall_12 ⟨rfl, ⟨fr.1.trans z1, fun x p q => (fr.2 x p q).trans (o1 x q)⟩, ?_⟩ rfl rfl
  have := whz_tr hn' hz h0 hw2
  have e : nv 1000000000 (va_up f 0 v) 1 = v := by
    show 0 + va_up f 0 v 0 * 1000000000 ^ 0 = v
    rw [va_up_self, Nat.pow_zero, Nat.mul_one, Nat.zero_add]
  rw [e] at this
  exact this
theorem ev_many {G : ze_G} {w : ze_W} {a L v K : Nat} (h : whz G w a L v) (hv : v < 1000000000 ^ K) : ∃ (f : Nat → Nat) (n : Nat), wh G w a L f n ∧ bnz f n ∧ v = nv 1000000000 f n ∧ n ≤ K := by
  obtain ⟨f, n, h1, h2, h3⟩ := h
  exact ⟨f, n, h1, h2, h3, nv_many (B := 1000000000) (by decide) h2 (by rw [← h3]; exact hv)⟩
theorem C5_setTo {G : ze_G} {l : Launch} {w : ze_W} {a b L Lb v0 v : Nat} (ha : whz G w a L v0) (hb : whz G w b Lb v) (hab : a ≠ b) (hv : v < 1000000000 ^ L) : ze_C G l 1 0 0 M5_setTo [.ref a, .ref b] w (ze_qv (fun w' => bfr w w' a ∧ whz G w' a L v)) := by
  obtain ⟨f, n, ha, -, -⟩ := ha
  obtain ⟨fb, nb, hb, zb, eb, kb⟩ := ev_many hb hv
  have x1 := wh_x ha hb
  have x2 := wh_x hb ha
  obtain ⟨ga, gb, gn, gL, gf⟩ := id ha
  obtain ⟨ba, bb, bn, bL, bf⟩ := id hb
  refine ze_enter (by decide +kernel) rfl ?_
  change ze_V G l (ze_rm 1 0 0) M5_setTo _ 0 [(0, .ref a), (1, .ref b)] [] w 0 0
  refine ze_aload_n dX5_setTo_0 rfl ?_
  refine ze_getf dX5_setTo_1 fl_X5_21 ba rfl ?_
  refine ze_aload_n dX5_setTo_4 rfl ?_
  refine ze_getf dX5_setTo_5 fl_X5_15 ga rfl ?_
  refine ze_alen dX5_setTo_8 gb rfl ?_
  refine ze_mmin dX5_setTo_9 ml_X5_29 st_Lib_Math_min_name n_J9 cd_Lib_Math_min_name rfl rfl ⟨Nat.le_refl _, Nat.le_refl _⟩ (by omega) (by omega) ?_
  refine ze_ti (b := (nb : Nat)) (by omega) ?_
  refine ze_istore_n (lv' := [(0, .ref a), (1, .ref b), (2, ze_i ((nb : Nat)))]) dX5_setTo_12 rfl rfl ?_
  refine ze_aload_n dX5_setTo_13 rfl ?_
  refine ze_getf dX5_setTo_14 fl_X5_15 ba rfl ?_
  refine ze_iconst dX5_setTo_17 ?_
  refine ze_aload_n dX5_setTo_18 rfl ?_
  refine ze_getf dX5_setTo_19 fl_X5_15 ga rfl ?_
  refine ze_iconst dX5_setTo_22 ?_
  refine ze_iload_n dX5_setTo_23 rfl ?_
  refine ze_cpyW (j := nb) (f' := fun q => (((if q < nb then fb q else f q) : Nat) : Int)) dX5_setTo_24 ml_X5_32 bb gb (by omega) (by omega) (by omega) (by omega) (by funext q; by_cases h : q < nb <;> simp [h]) rfl rfl (fun w1 z1 c1 o1 => ?_)
  have h1_0 := (o1 a (by omega)).trans ga
  have h1_2 := (o1 b (by omega)).trans ba
  have h1_3 := (o1 (b + 1) (by omega)).trans bb
  refine ze_aload_n dX5_setTo_27 rfl ?_
  refine ze_iload_n dX5_setTo_28 rfl ?_
  refine ze_putfW (fs' := [.ref (a + 1), ze_i ((nb : Nat))]) dX5_setTo_29 fl_X5_21 (Or.inl rfl) h1_0 rfl rfl (Nat.le_of_ble_eq_true rfl) rfl (fun w2 z2 c2 o2 => ?_)
  have h2_1 := (o2 (a + 1) (by omega)).trans c1
  have h2_2 := (o2 b (by omega)).trans h1_2
  have h2_3 := (o2 (b + 1) (by omega)).trans h1_3
  refine ze_return rfl dX5_setTo_32 ⟨rfl, ⟨z2.trans z1, fun x p q => (o2 x p).trans (o1 x q)⟩, fun q => if q < nb then fb q else f q, nb, ⟨c2, h2_1, kb, gL, fun j => sel_lt (bf j) (gf j)⟩, ?_, ?_⟩ rfl rfl
  · rcases zb with h | h
    · left; exact h
    · by_cases h0 : nb = 0
      · left; exact h0
      · right
        show (if nb - 1 < nb then fb (nb - 1) else f (nb - 1)) ≠ 0
        rw [if_pos (by omega)]
        exact h
  · rw [eb]
    exact nv_congr (fun j hj => (if_pos hj).symm)
theorem ev_dig {f : Nat → Nat} {n k : Nat} (hf : ∀ j, f j < 1000000000) : nv 1000000000 f n / 1000000000 ^ k % 1000000000 = bt f n k := by
  unfold bt
  by_cases h : k < n
  · rw [if_pos h]
    obtain ⟨d, hd⟩ : ∃ d, n = k + (d + 1) := ⟨n - k - 1, by omega⟩
    have h1 : nv 1000000000 f k < 1000000000 ^ k := nv_lt (fun j _ => hf j)
    have hp : 0 < 1000000000 ^ k := Nat.pow_pos (by decide)
    rw [hd, nv_split, Nat.add_mul_div_left _ _ hp, Nat.div_eq_of_lt h1, Nat.zero_add, nv_cons, Nat.add_mul_mod_self_left]
    exact Nat.mod_eq_of_lt (hf k)
  · rw [if_neg h]
    have h1 : nv 1000000000 f n < 1000000000 ^ k := Nat.lt_of_lt_of_le (nv_lt (fun j _ => hf j)) (Nat.pow_le_pow_right (by decide) (by omega))
    rw [Nat.div_eq_of_lt h1]
theorem C5_eighteenDigits {G : ze_G} {l : Launch} {w : ze_W} {a L v k : Nat} (h : whz G w a L v) (hk : k ≤ 25) : ze_C G l 1 0 0 M5_eighteenDigits [.ref a, ze_i (k : Nat)] w (ze_ql (fun r w' => r = ((v / 10 ^ (18 * k) % 10 ^ 18 : Nat) : Int) ∧ w' = w)) := by
  obtain ⟨f, n, h1, h2, h3⟩ := h
  obtain ⟨ga, gb, gn, gL, gf⟩ := id h1
  obtain ⟨X, hX⟩ : ∃ X, X = bt f n (2 * k + 1) := ⟨_, rfl⟩
  obtain ⟨Y, hY⟩ : ∃ Y, Y = bt f n (2 * k) := ⟨_, rfl⟩
  have hXb : X < 1000000000 := by rw [hX]; exact bt_lt gf _
  have hYb : Y < 1000000000 := by rw [hY]; exact bt_lt gf _
  have fin : v / 10 ^ (18 * k) % 10 ^ 18 = X * 1000000000 + Y := by
    have e1 : 10 ^ (18 * k) = 1000000000 ^ (2 * k) := by rw [show (1000000000 : Nat) = 10 ^ 9 from rfl, ← Nat.pow_mul]; congr 1; omega
    have e2 : (10 : Nat) ^ 18 = 1000000000 * 1000000000 := by decide
    have e3 := ev_dig (f := f) (n := n) (k := 2 * k) gf
    have e4 := ev_dig (f := f) (n := n) (k := 2 * k + 1) gf
    rw [← h3, Nat.pow_succ, ← Nat.div_div_eq_div_mul] at e4
    rw [← h3] at e3
    rw [e1, e2, Nat.mod_mul, e3, e4, ← hX, ← hY]
    omega
  refine ze_enter (by decide +kernel) rfl ?_
  change ze_V G l (ze_rm 1 0 0) M5_eighteenDigits _ 0 [(0, .ref a), (1, ze_i ((k : Nat)))] [] w 0 0
  refine ze_aload_n dX5_eighteenDigits_0 rfl ?_
  refine ze_iconst dX5_eighteenDigits_1 ?_
  refine ze_iload_n dX5_eighteenDigits_2 rfl ?_
  refine ze_imul dX5_eighteenDigits_3 ?_
  refine ze_iconst dX5_eighteenDigits_4 ?_
  refine ze_iadd dX5_eighteenDigits_5 ?_
  refine ze_ti (b := ((2 * k + 1 : Nat))) (by omega) ?_
  refine ze_callV (As := [ze_i (((2 * k + 1 : Nat)))]) (rest := []) dX5_eighteenDigits_6 (C5_limbAt (k := 2 * k + 1) h1 (by omega)) mo5_limbAt ml_X5_40 in_5_limbAt se_5_limbAt ga rfl rfl rfl rfl rfl ⟨Nat.le_refl _, Nat.le_refl _⟩ rfl (Nat.le_of_ble_eq_true rfl) ?_
  rintro _ w' ⟨r', rfl, rfl, rfl⟩
  rw [← hX]
  change ze_V G l (ze_rm 1 0 0) M5_eighteenDigits _ 9 [(0, .ref a), (1, ze_i ((k : Nat)))] [ze_l ((X : Nat))] w' 0 0
  refine ze_ldc2 (z := 1000000000) dX5_eighteenDigits_9 ct_X5_38 (by decide) ?_
  refine ze_lmul dX5_eighteenDigits_12 ?_
  refine ze_aload_n dX5_eighteenDigits_13 rfl ?_
  refine ze_iconst dX5_eighteenDigits_14 ?_
  refine ze_iload_n dX5_eighteenDigits_15 rfl ?_
  refine ze_imul dX5_eighteenDigits_16 ?_
  refine ze_ti (b := ((2 * k : Nat))) (by omega) ?_
  refine ze_callV (As := [ze_i (((2 * k : Nat)))]) (rest := [ze_l ((X : Nat) * 1000000000)]) dX5_eighteenDigits_17 (C5_limbAt (k := 2 * k) h1 (by omega)) mo5_limbAt ml_X5_40 in_5_limbAt se_5_limbAt ga rfl rfl rfl rfl rfl ⟨Nat.le_refl _, Nat.le_refl _⟩ rfl (Nat.le_of_ble_eq_true rfl) ?_
  rintro _ w' ⟨r', rfl, rfl, rfl⟩
  rw [← hY]
  change ze_V G l (ze_rm 1 0 0) M5_eighteenDigits _ 20 [(0, .ref a), (1, ze_i ((k : Nat)))] [ze_l ((Y : Nat)), ze_l ((X : Nat) * 1000000000)] w' 0 0
  refine ze_ladd dX5_eighteenDigits_20 ?_
  exact ze_lreturn rfl dX5_eighteenDigits_21 ⟨_, rfl, by rw [fin]; omega, rfl⟩ rfl rfl
theorem C5_digits {G : ze_G} {l : Launch} {w : ze_W} {a L v : Nat} (h : whz G w a L v) : ze_C G l 1 0 0 M5_digits [.ref a] w (ze_qi (fun r w' => isd v r ∧ w' = w)) := by
  obtain ⟨f, n, h1, h2, h3⟩ := h
  obtain ⟨ga, gb, gn, gL, gf⟩ := id h1
  refine ze_enter (by decide +kernel) rfl ?_
  generalize hQ : (ze_Q G (ze_qi (fun r w' => isd v r ∧ w' = w)) 0 0) = Z
  have loop : ∀ (fu d t N : Nat), t < 10 ^ fu → t < 1000000000 → d + fu < 2147483648 → (∀ r : Int, isd t r → 0 < t → isd v (r + d)) → (t = 0 → isd v d) → ze_V G l (ze_rm 1 0 0) M5_digits Z 30 [(0, .ref a), (1, ze_i ((d : Nat))), (2, ze_l ((t : Nat)))] [] w 0 0 := by
    intro fu
    induction fu with
    | zero =>
      intro d t N ht htE hd h0 hz
      have ht0 : t = 0 := by rw [Nat.pow_zero] at ht; omega
      rw [← hQ]
      refine ze_lload_n dX5_digits_30 rfl ?_
      refine ze_lconst (z := 0) dX5_digits_31 (by decide) ?_
      refine ze_lc_le 48 dX5_digits_32 dX5_digits_33 (by decide) (by omega) (by omega) (fun q1 => ?_) (fun q1 => ?_)
      · refine ze_iload_n dX5_digits_48 rfl ?_
        exact ze_ireturn rfl dX5_digits_49 ⟨_, rfl, hz ht0, rfl⟩ rfl rfl
      · omega
    | succ fu ih =>
      intro d t N ht htE hd h0 hz
      refine ze_lload_n dX5_digits_30 rfl ?_
      refine ze_lconst (z := 0) dX5_digits_31 (by decide) ?_
      refine ze_lc_le 48 dX5_digits_32 dX5_digits_33 (by decide) (by omega) (by omega) (fun q1 => ?_) (fun q1 => ?_)
      · refine ze_iload_n dX5_digits_48 rfl ?_
        rw [← hQ]
        exact ze_ireturn rfl dX5_digits_49 ⟨_, rfl, hz (by omega), rfl⟩ rfl rfl
      · refine ze_iinc (b := ((d + 1 : Nat))) (lv' := [(0, .ref a), (1, ze_i (((d + 1 : Nat)))), (2, ze_l ((t : Nat)))]) dX5_digits_36 rfl rfl (by omega) rfl ?_
        refine ze_lload_n dX5_digits_39 rfl ?_
        refine ze_ldc2 (z := 10) dX5_digits_40 ct_X5_44 (by decide) ?_
        refine ze_ldiv dX5_digits_43 (by omega) (by omega) ?_
        refine ze_tl (b := ((t / 10 : Nat))) (by omega) ?_
        refine ze_lstore_n (lv' := [(0, .ref a), (1, ze_i (((d + 1 : Nat)))), (2, ze_l (((t / 10 : Nat))))]) dX5_digits_44 rfl rfl ?_
        refine ze_goto 30 dX5_digits_45 (by decide) ?_
        refine ih (d + 1) (t / 10) N (by rw [Nat.pow_succ] at ht; exact Nat.div_lt_of_lt_mul (by rw [Nat.mul_comm]; exact ht)) (by omega) (by omega) (fun r hr hp => ?_) (fun h => ?_)
        · rcases hr with ⟨g1, g2⟩ | ⟨g1, k, g2, g3, g4⟩
          · omega
          · have e1 : isd t (r + 1) := by
              refine Or.inr ⟨by omega, k + 1, by rw [g2]; omega, ?_, ?_⟩
              · rw [Nat.pow_succ]; omega
              · rw [Nat.pow_succ]; omega
            have e2 := h0 (r + 1) e1 (by omega)
            rw [show r + ((d + 1 : Nat) : Int) = r + 1 + (d : Nat) by omega]
            exact e2
        · have e1 : isd t 1 := Or.inr ⟨by omega, 0, rfl, by rw [Nat.pow_zero]; omega, by rw [Nat.zero_add, Nat.pow_one]; omega⟩
          have e2 := h0 1 e1 (by omega)
          rw [show ((d + 1 : Nat) : Int) = 1 + (d : Nat) by omega]
          exact e2
  change ze_V G l (ze_rm 1 0 0) M5_digits Z 0 [(0, .ref a)] [] w 0 0
  refine ze_aload_n dX5_digits_0 rfl ?_
  refine ze_getf dX5_digits_1 fl_X5_21 ga rfl ?_
  refine ze_if_ne 9 dX5_digits_4 (by decide) (by omega) (fun q1 => ?_) (fun q1 => ?_)
  · refine ze_bipush dX5_digits_9 (by decide) ?_
    refine ze_aload_n dX5_digits_11 rfl ?_
    refine ze_getf dX5_digits_12 fl_X5_21 ga rfl ?_
    refine ze_iconst dX5_digits_15 ?_
    refine ze_isub dX5_digits_16 ?_
    refine ze_imul dX5_digits_17 ?_
    refine ze_ti (b := ((9 * (n - 1) : Nat))) (by omega) ?_
    refine ze_istore_n (lv' := [(0, .ref a), (1, ze_i (((9 * (n - 1) : Nat))))]) dX5_digits_18 rfl rfl ?_
    refine ze_aload_n dX5_digits_19 rfl ?_
    refine ze_aload_n dX5_digits_20 rfl ?_
    refine ze_getf dX5_digits_21 fl_X5_21 ga rfl ?_
    refine ze_iconst dX5_digits_24 ?_
    refine ze_isub dX5_digits_25 ?_
    refine ze_ti (b := ((n - 1 : Nat))) (by omega) ?_
    refine ze_callV (As := [ze_i (((n - 1 : Nat)))]) (rest := []) dX5_digits_26 (C5_limbAt (k := n - 1) h1 (by omega)) mo5_limbAt ml_X5_40 in_5_limbAt se_5_limbAt ga rfl rfl rfl rfl rfl ⟨Nat.le_refl _, Nat.le_refl _⟩ rfl (Nat.le_of_ble_eq_true rfl) ?_
    rintro _ w' ⟨r', rfl, rfl, rfl⟩
    obtain ⟨t, ht⟩ : ∃ t, t = bt f n (n - 1) := ⟨_, rfl⟩
    rw [← ht]
    have htb : t < 1000000000 := by rw [ht]; exact bt_lt gf _
    have htf : t = f (n - 1) := by rw [ht]; unfold bt; rw [if_pos (by omega)]
    have htp : 0 < t := by rcases h2 with h | h <;> omega
    change ze_V G l (ze_rm 1 0 0) M5_digits _ 29 [(0, .ref a), (1, ze_i (((9 * (n - 1) : Nat))))] [ze_l ((t : Nat))] w' 0 0
    refine ze_lstore_n (lv' := [(0, .ref a), (1, ze_i (((9 * (n - 1) : Nat)))), (2, ze_l ((t : Nat)))]) dX5_digits_29 rfl rfl ?_
    refine loop 9 (9 * (n - 1)) t 0 htb htb (by omega) (fun r hr hp => ?_) (fun h => by omega)
    rcases hr with ⟨g1, g2⟩ | ⟨g1, k, g2, g3, g4⟩
    · omega
    · have hlo : nv 1000000000 f (n - 1) < 1000000000 ^ (n - 1) := nv_lt (fun j _ => gf j)
      have ev : v = nv 1000000000 f (n - 1) + t * 1000000000 ^ (n - 1) := by
        rw [h3, htf]
        have := nv_s 1000000000 f (n - 1)
        rw [show n - 1 + 1 = n by omega] at this
        exact this
      have e9 : 1000000000 ^ (n - 1) = 10 ^ (9 * (n - 1)) := by rw [Nat.pow_mul]
      rw [e9] at hlo ev
      have hp0 : 0 < 10 ^ (9 * (n - 1)) := Nat.pow_pos (by decide)
      refine Or.inr ⟨?_, k + 9 * (n - 1), by rw [g2]; omega, ?_, ?_⟩
      · rw [ev]
        have : 1 * 10 ^ (9 * (n - 1)) ≤ t * 10 ^ (9 * (n - 1)) := Nat.mul_le_mul_right _ hp
        omega
      · rw [Nat.pow_add, ev]
        have : 10 ^ k * 10 ^ (9 * (n - 1)) ≤ t * 10 ^ (9 * (n - 1)) := Nat.mul_le_mul_right _ g3
        omega
      · rw [show k + 9 * (n - 1) + 1 = (k + 1) + 9 * (n - 1) by omega, Nat.pow_add, ev]
        have : (t + 1) * 10 ^ (9 * (n - 1)) ≤ 10 ^ (k + 1) * 10 ^ (9 * (n - 1)) := Nat.mul_le_mul_right _ g4
        rw [Nat.add_mul, Nat.one_mul] at this
        omega
  · refine ze_iconst dX5_digits_7 ?_
    rw [← hQ]
    exact ze_ireturn rfl dX5_digits_8 ⟨_, rfl, Or.inl ⟨by rw [h3, show n = 0 by omega]; rfl, rfl⟩, rfl⟩ rfl rfl
theorem C5_orderTo {G : ze_G} {l : Launch} {w : ze_W} {a b L Lb x y : Nat} (ha : whz G w a L x) (hb : whz G w b Lb y) : ze_C G l 1 0 0 M5_orderTo [.ref a, .ref b] w (ze_qi (fun r w' => r = cmp3 (x : Nat) (y : Nat) ∧ w' = w)) := by
  obtain ⟨f, n, ha, za, ea⟩ := ha
  obtain ⟨fb, nb, hb, zb, eb⟩ := hb
  obtain ⟨ga, gb, gn, gL, gf⟩ := id ha
  obtain ⟨ba, bb, bn, bL, bf⟩ := id hb
  refine ze_enter (by decide +kernel) rfl ?_
  generalize hQ : (ze_Q G (ze_qi (fun r w' => r = cmp3 (x : Nat) (y : Nat) ∧ w' = w)) 0 0) = Z
  have loop : n = nb → ∀ k : Nat, k ≤ n → (∀ j, k ≤ j → j < n → f j = fb j) → ze_V G l (ze_rm 1 0 0) M5_orderTo Z 35 [(0, .ref a), (1, .ref b), (2, ze_i ((k : Nat) - 1))] [] w 0 0 := by
    intro hnn k
    induction k with
    | zero =>
      intro hk he
      rw [← hQ]
      refine ze_iload_n dX5_orderTo_35 rfl ?_
      refine ze_if_lt 79 dX5_orderTo_36 (by decide) (by omega) (fun q1 => ?_) (fun q1 => ?_)
      · refine ze_iconst dX5_orderTo_79 ?_
        exact ze_ireturn rfl dX5_orderTo_80 ⟨_, rfl, (cmp3_eq (by rw [ea, eb, ← hnn]; exact congrArg (fun q : Nat => (q : Int)) (nv_congr (fun j hj => he j (by omega) hj)))).symm, rfl⟩ rfl rfl
      · omega
    | succ k ih =>
      intro hk he
      obtain ⟨X, hX⟩ : ∃ X, X = f k := ⟨_, rfl⟩
      obtain ⟨Y, hY⟩ : ∃ Y, Y = fb k := ⟨_, rfl⟩
      have hX1 : bt f n k = X := by unfold bt; rw [if_pos (by omega), hX]
      have hY1 : bt fb nb k = Y := by unfold bt; rw [if_pos (by omega), hY]
      have hXb : X < 1000000000 := by rw [hX]; exact gf k
      have hYb : Y < 1000000000 := by rw [hY]; exact bf k
      rw [show ((k + 1 : Nat) : Int) - 1 = (k : Nat) by omega]
      change ze_V G l (ze_rm 1 0 0) M5_orderTo Z 35 [(0, .ref a), (1, .ref b), (2, ze_i ((k : Nat)))] [] w 0 0
      refine ze_iload_n dX5_orderTo_35 rfl ?_
      refine ze_if_lt 79 dX5_orderTo_36 (by decide) (by omega) (fun q1 => ?_) (fun q1 => ?_)
      · omega
      · refine ze_aload_n dX5_orderTo_39 rfl ?_
        refine ze_iload_n dX5_orderTo_40 rfl ?_
        refine ze_callV (As := [ze_i ((k : Nat))]) (rest := []) dX5_orderTo_41 (C5_limbAt (k := k) ha (by omega)) mo5_limbAt ml_X5_40 in_5_limbAt se_5_limbAt ga rfl rfl rfl rfl rfl ⟨Nat.le_refl _, Nat.le_refl _⟩ rfl (Nat.le_of_ble_eq_true rfl) ?_
        rintro _ w' ⟨r', rfl, rfl, rfl⟩
        rw [hX1]
        change ze_V G l (ze_rm 1 0 0) M5_orderTo _ 44 [(0, .ref a), (1, .ref b), (2, ze_i ((k : Nat)))] [ze_l ((X : Nat))] w' 0 0
        refine ze_aload_n dX5_orderTo_44 rfl ?_
        refine ze_iload_n dX5_orderTo_45 rfl ?_
        refine ze_callV (As := [ze_i ((k : Nat))]) (rest := [ze_l ((X : Nat))]) dX5_orderTo_46 (C5_limbAt (k := k) hb (by omega)) mo5_limbAt ml_X5_40 in_5_limbAt se_5_limbAt ba rfl rfl rfl rfl rfl ⟨Nat.le_refl _, Nat.le_refl _⟩ rfl (Nat.le_of_ble_eq_true rfl) ?_
        rintro _ w' ⟨r', rfl, rfl, rfl⟩
        rw [hY1]
        change ze_V G l (ze_rm 1 0 0) M5_orderTo _ 49 [(0, .ref a), (1, .ref b), (2, ze_i ((k : Nat)))] [ze_l ((Y : Nat)), ze_l ((X : Nat))] w' 0 0
        refine ze_lc_eq 73 dX5_orderTo_49 dX5_orderTo_50 (by decide) (by omega) (by omega) (fun q2 => ?_) (fun q2 => ?_)
        · refine ze_iinc (b := (k : Nat) - 1) (lv' := [(0, .ref a), (1, .ref b), (2, ze_i ((k : Nat) - 1))]) dX5_orderTo_73 rfl rfl (by omega) rfl ?_
          refine ze_goto 35 dX5_orderTo_76 (by decide) ?_
          exact ih (by omega) (fun j h1 h2 => by
            by_cases e : j = k
            · rw [e]; omega
            · exact he j (by omega) h2)
        · refine ze_aload_n dX5_orderTo_53 rfl ?_
          refine ze_iload_n dX5_orderTo_54 rfl ?_
          refine ze_callV (As := [ze_i ((k : Nat))]) (rest := []) dX5_orderTo_55 (C5_limbAt (k := k) ha (by omega)) mo5_limbAt ml_X5_40 in_5_limbAt se_5_limbAt ga rfl rfl rfl rfl rfl ⟨Nat.le_refl _, Nat.le_refl _⟩ rfl (Nat.le_of_ble_eq_true rfl) ?_
          rintro _ w' ⟨r', rfl, rfl, rfl⟩
          rw [hX1]
          change ze_V G l (ze_rm 1 0 0) M5_orderTo _ 58 [(0, .ref a), (1, .ref b), (2, ze_i ((k : Nat)))] [ze_l ((X : Nat))] w' 0 0
          refine ze_aload_n dX5_orderTo_58 rfl ?_
          refine ze_iload_n dX5_orderTo_59 rfl ?_
          refine ze_callV (As := [ze_i ((k : Nat))]) (rest := [ze_l ((X : Nat))]) dX5_orderTo_60 (C5_limbAt (k := k) hb (by omega)) mo5_limbAt ml_X5_40 in_5_limbAt se_5_limbAt ba rfl rfl rfl rfl rfl ⟨Nat.le_refl _, Nat.le_refl _⟩ rfl (Nat.le_of_ble_eq_true rfl) ?_
          rintro _ w' ⟨r', rfl, rfl, rfl⟩
          rw [hY1]
          change ze_V G l (ze_rm 1 0 0) M5_orderTo _ 63 [(0, .ref a), (1, .ref b), (2, ze_i ((k : Nat)))] [ze_l ((Y : Nat)), ze_l ((X : Nat))] w' 0 0
          refine ze_lc_ge 71 dX5_orderTo_63 dX5_orderTo_64 (by decide) (by omega) (by omega) (fun q3 => ?_) (fun q3 => ?_)
          · refine ze_iconst dX5_orderTo_71 ?_
            rw [← hQ]
            exact ze_ireturn rfl dX5_orderTo_72 ⟨_, rfl, (cmp3_gt (by rw [ea, eb, ← hnn]; have := nv_lt_of (B := 1000000000) (f := fb) (g := f) (n := n) (k := k) bf (by omega) (fun j h1 h2 => (he j (by omega) h2).symm) (by omega); omega)).symm, rfl⟩ rfl rfl
          · refine ze_iconst dX5_orderTo_67 ?_
            refine ze_goto 72 dX5_orderTo_68 (by decide) ?_
            rw [← hQ]
            exact ze_ireturn rfl dX5_orderTo_72 ⟨_, rfl, (cmp3_lt (by rw [ea, eb, ← hnn]; have := nv_lt_of (B := 1000000000) (n := n) (k := k) gf (by omega) (fun j h1 h2 => he j (by omega) h2) (by omega); omega)).symm, rfl⟩ rfl rfl
  change ze_V G l (ze_rm 1 0 0) M5_orderTo Z 0 [(0, .ref a), (1, .ref b)] [] w 0 0
  refine ze_aload_n dX5_orderTo_0 rfl ?_
  refine ze_getf dX5_orderTo_1 fl_X5_21 ga rfl ?_
  refine ze_aload_n dX5_orderTo_4 rfl ?_
  refine ze_getf dX5_orderTo_5 fl_X5_21 ba rfl ?_
  refine ze_icmp_eq 28 dX5_orderTo_8 (by decide) (by omega) (by omega) (fun q1 => ?_) (fun q1 => ?_)
  · refine ze_aload_n dX5_orderTo_28 rfl ?_
    refine ze_getf dX5_orderTo_29 fl_X5_21 ga rfl ?_
    refine ze_iconst dX5_orderTo_32 ?_
    refine ze_isub dX5_orderTo_33 ?_
    refine ze_istore_n (lv' := [(0, .ref a), (1, .ref b), (2, ze_i ((n : Nat) - 1))]) dX5_orderTo_34 rfl rfl ?_
    exact loop (by omega) n (Nat.le_refl _) (fun j h1 h2 => by omega)
  · refine ze_aload_n dX5_orderTo_11 rfl ?_
    refine ze_getf dX5_orderTo_12 fl_X5_21 ga rfl ?_
    refine ze_aload_n dX5_orderTo_15 rfl ?_
    refine ze_getf dX5_orderTo_16 fl_X5_21 ba rfl ?_
    refine ze_icmp_ge 26 dX5_orderTo_19 (by decide) (by omega) (by omega) (fun q2 => ?_) (fun q2 => ?_)
    · refine ze_iconst dX5_orderTo_26 ?_
      rw [← hQ]
      exact ze_ireturn rfl dX5_orderTo_27 ⟨_, rfl, (cmp3_gt (by rw [ea, eb]; have := ev_lt bf za (show nb < n by omega); omega)).symm, rfl⟩ rfl rfl
    · refine ze_iconst dX5_orderTo_22 ?_
      refine ze_goto 27 dX5_orderTo_23 (by decide) ?_
      rw [← hQ]
      exact ze_ireturn rfl dX5_orderTo_27 ⟨_, rfl, (cmp3_lt (by rw [ea, eb]; have := ev_lt gf zb (show n < nb by omega); omega)).symm, rfl⟩ rfl rfl
