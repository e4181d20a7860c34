/-! HiddenSteps: what a chain and the row are told -/
theorem C6_begin {G : ze_G} {l : Launch} {w : ze_W} {X lo C P F V : Nat} {ar : Nat → Nat → Int} {cf : Nat → Option Nat} {pc : Nat → Nat} {RK : Option Nat} {c s v : Int} (hH : hpc G w X lo C P F ar V cf pc RK) (hG : mgd C P F ar) (hlo : X + 80 ≤ lo) (r_c : -2147483648 ≤ c ∧ c < 2147483648) (r_s : -2147483648 ≤ s ∧ s < 2147483648) (r_v : -2147483648 ≤ v ∧ v < 2147483648) : ze_C G l 2 0 0 M6_begin [.ref X, ze_i c, ze_i s, ze_i v] w (ze_qi (fun r w' => ∃ ar', hpc G w' X lo C P F ar' V cf pc RK ∧ kfr w w' X lo ∧ ((((0 ≤ c ∧ c < (C : Int)) ∧ (0 ≤ s ∧ s < ar 1 c.toNat) ∧ (0 ≤ v ∧ v ≤ ar 3 c.toNat)) ∧ r = ar 4 (c.toNat * 8 + s.toNat) ∧ ar' = va_up ar 4 (va_up (ar 4) (c.toNat * 8 + s.toNat) v)) ∨ (¬ ((0 ≤ c ∧ c < (C : Int)) ∧ (0 ≤ s ∧ s < ar 1 c.toNat) ∧ (0 ≤ v ∧ v ≤ ar 3 c.toNat)) ∧ r = -1 ∧ ar' = ar)))) := by
  refine ze_enter (by decide +kernel) rfl ?_
  change ze_V G l (ze_rm 2 0 0) M6_begin _ 0 [(0, .ref X), (1, ze_i (c)), (2, ze_i (s)), (3, ze_i (v))] [] w 0 0
  refine ze_aload_n dX6_begin_0 rfl ?_
  refine ze_iload_n dX6_begin_1 rfl ?_
  refine ze_callV (As := [ze_i (c)]) (rest := []) dX6_begin_2 (C6_chainNumbered (c := c) hH hG (by omega)) mo6_chainNumbered ml_X6_73 in_6_chainNumbered se_6_chainNumbered (hp_o hH) rfl rfl rfl rfl rfl ⟨Nat.le_refl _, Nat.le_refl _⟩ rfl (Nat.le_of_ble_eq_true rfl) ?_
  rintro _ w' ⟨ro, rfl, hro, rfl⟩
  by_cases qka : 0 ≤ c ∧ c < (C : Int)
  · rw [if_pos qka] at hro
    subst hro
    obtain ⟨ka, hka⟩ : ∃ n, n = (c).toNat := ⟨_, rfl⟩
    rw [← hka]
    change ze_V G l (ze_rm 2 0 0) M6_begin _ 5 [(0, .ref X), (1, ze_i (c)), (2, ze_i (s)), (3, ze_i (v))] [.ref (pc ka)] w' 0 0
    have lka : ka < C := by omega
    have ika : ((ka : Nat) : Int) = c := by omega
    obtain ⟨en, n1, n8⟩ := mch_n (hp_ch hH lka).1
    obtain ⟨ek, k1, k6⟩ := mch_k (hp_ch hH lka).1
    obtain ⟨et, t1, t1000⟩ := mch_t (hp_ch hH lka).1
    refine ze_astore (lv' := [(0, .ref X), (1, ze_i (c)), (2, ze_i (s)), (3, ze_i (v)), (4, .ref (pc ka))]) dX6_begin_5 rfl rfl ?_
    refine ze_aload dX6_begin_7 rfl ?_
    refine ze_ifnull dX6_begin_9 ?_
    refine ze_aload dX6_begin_12 rfl ?_
    refine ze_iload_n dX6_begin_14 rfl ?_
    refine ze_callV (As := [ze_i (s)]) (rest := []) dX6_begin_15 (C0_hasState (hp_ch hH lka) (by omega)) mo0_hasState ml_X6_77 in_0_hasState se_0_hasState (hp_ch hH lka).2.1 rfl rfl rfl rfl rfl ⟨Nat.le_refl _, Nat.le_refl _⟩ rfl (Nat.le_of_ble_eq_true rfl) ?_
    rintro _ w' ⟨r1, rfl, rfl, rfl⟩
    change ze_V G l (ze_rm 2 0 0) M6_begin _ 18 [(0, .ref X), (1, ze_i (c)), (2, ze_i (s)), (3, ze_i (v)), (4, .ref (pc ka))] [ze_i (bi (0 ≤ s ∧ s < ((cn ar ka : Nat) : Int)))] w' 0 0
    refine ze_if_eq 30 dX6_begin_18 (by decide) (bi_rng _) (fun q2 => ?_) (fun q2 => ?_)
    · rw [bi_z] at q2
      refine ze_iconst dX6_begin_30 ?_
      exact ze_ireturn rfl dX6_begin_31 ⟨_, rfl, ar, hH, kf_r, Or.inr ⟨by omega, rfl, rfl⟩⟩ rfl rfl
    · rw [bi_n] at q2
      refine ze_aload dX6_begin_21 rfl ?_
      refine ze_iload_n dX6_begin_23 rfl ?_
      refine ze_callV (As := [ze_i (v)]) (rest := []) dX6_begin_24 (C0_hasWeight (hp_ch hH lka) (by omega)) mo0_hasWeight ml_X6_81 in_0_hasWeight se_0_hasWeight (hp_ch hH lka).2.1 rfl rfl rfl rfl rfl ⟨Nat.le_refl _, Nat.le_refl _⟩ rfl (Nat.le_of_ble_eq_true rfl) ?_
      rintro _ w' ⟨r3, rfl, rfl, rfl⟩
      change ze_V G l (ze_rm 2 0 0) M6_begin _ 27 [(0, .ref X), (1, ze_i (c)), (2, ze_i (s)), (3, ze_i (v)), (4, .ref (pc ka))] [ze_i (bi (0 ≤ v ∧ v ≤ ((ct ar ka : Nat) : Int)))] w' 0 0
      refine ze_if_ne 32 dX6_begin_27 (by decide) (bi_rng _) (fun q4 => ?_) (fun q4 => ?_)
      · rw [bi_n] at q4
        refine ze_aload dX6_begin_32 rfl ?_
        refine ze_iload_n dX6_begin_34 rfl ?_
        refine ze_iload_n dX6_begin_35 rfl ?_
        obtain ⟨sn, rfl⟩ := Int.eq_ofNat_of_zero_le (show 0 ≤ s from (by omega))
        change ze_V G l (ze_rm 2 0 0) M6_begin _ 36 [(0, .ref X), (1, ze_i (c)), (2, ze_i ((sn : Nat))), (3, ze_i (v)), (4, .ref (pc ka))] [ze_i (v), ze_i ((sn : Nat)), .ref (pc ka)] w' 0 0
        obtain ⟨vn, rfl⟩ := Int.eq_ofNat_of_zero_le (show 0 ≤ v from (by omega))
        change ze_V G l (ze_rm 2 0 0) M6_begin _ 36 [(0, .ref X), (1, ze_i (c)), (2, ze_i ((sn : Nat))), (3, ze_i ((vn : Nat))), (4, .ref (pc ka))] [ze_i ((vn : Nat)), ze_i ((sn : Nat)), .ref (pc ka)] w' 0 0
        refine ze_callV (As := [ze_i ((sn : Nat)), ze_i ((vn : Nat))]) (rest := []) dX6_begin_36 (C0_putBegin (s := sn) (v := vn) (hp_ch hH lka) (by omega) (by omega)) mo0_putBegin ml_X6_84 in_0_putBegin se_0_putBegin (hp_ch hH lka).2.1 rfl rfl rfl rfl rfl ⟨Nat.le_refl _, Nat.le_refl _⟩ rfl (Nat.le_of_ble_eq_true rfl) ?_
        rintro _ w2 ⟨r2, rfl, rfl, f2, c2⟩
        obtain ⟨p1, p2⟩ := hp_put (ar' := va_up ar 4 (va_up (ar 4) (ka * 8 + sn) ((vn : Nat) : Int))) hH hlo lka f2 c2 (va_up_ne _ _ (by decide)) (va_up_ne _ _ (by decide)) (fun c hc p h => chr_ar h (by rw [va_up_ne _ _ (by decide)]) (by rw [va_up_ne _ _ (by decide)]) (by rw [va_up_ne _ _ (by decide)]) (fun s hs => by rw [va_up_self, va_up_ne _ _ (by omega)]) (fun s t hs ht => by rw [va_up_ne _ _ (by decide)]) (fun s x hs hx => by rw [va_up_ne _ _ (by decide)]))
        exact ze_ireturn rfl dX6_begin_39 ⟨_, rfl, _, p1, p2, Or.inl ⟨by omega, (by rw [Int.toNat_natCast]), (by rw [Int.toNat_natCast])⟩⟩ rfl rfl
      · rw [bi_z] at q4
        refine ze_iconst dX6_begin_30 ?_
        exact ze_ireturn rfl dX6_begin_31 ⟨_, rfl, ar, hH, kf_r, Or.inr ⟨by omega, rfl, rfl⟩⟩ rfl rfl
  · rw [if_neg qka] at hro
    subst hro
    change ze_V G l (ze_rm 2 0 0) M6_begin _ 5 [(0, .ref X), (1, ze_i (c)), (2, ze_i (s)), (3, ze_i (v))] [.null] w' 0 0
    refine ze_astoreN (lv' := [(0, .ref X), (1, ze_i (c)), (2, ze_i (s)), (3, ze_i (v)), (4, .null)]) dX6_begin_5 rfl rfl ?_
    refine ze_aloadN dX6_begin_7 rfl ?_
    refine ze_ifnullN 30 dX6_begin_9 (by decide) ?_
    refine ze_iconst dX6_begin_30 ?_
    exact ze_ireturn rfl dX6_begin_31 ⟨_, rfl, ar, hH, kf_r, Or.inr ⟨by omega, rfl, rfl⟩⟩ rfl rfl
theorem C6_go {G : ze_G} {l : Launch} {w : ze_W} {X lo C P F V : Nat} {ar : Nat → Nat → Int} {cf : Nat → Option Nat} {pc : Nat → Nat} {RK : Option Nat} {c s t v : Int} (hH : hpc G w X lo C P F ar V cf pc RK) (hG : mgd C P F ar) (hlo : X + 80 ≤ lo) (r_c : -2147483648 ≤ c ∧ c < 2147483648) (r_s : -2147483648 ≤ s ∧ s < 2147483648) (r_t : -2147483648 ≤ t ∧ t < 2147483648) (r_v : -2147483648 ≤ v ∧ v < 2147483648) : ze_C G l 2 0 0 M6_go [.ref X, ze_i c, ze_i s, ze_i t, ze_i v] w (ze_qi (fun r w' => ∃ ar', hpc G w' X lo C P F ar' V cf pc RK ∧ kfr w w' X lo ∧ ((((0 ≤ c ∧ c < (C : Int)) ∧ (0 ≤ s ∧ s < ar 1 c.toNat) ∧ (0 ≤ t ∧ t < ar 1 c.toNat) ∧ (0 ≤ v ∧ v ≤ ar 3 c.toNat)) ∧ r = ar 5 ((c.toNat * 8 + s.toNat) * 8 + t.toNat) ∧ ar' = va_up ar 5 (va_up (ar 5) ((c.toNat * 8 + s.toNat) * 8 + t.toNat) v)) ∨ (¬ ((0 ≤ c ∧ c < (C : Int)) ∧ (0 ≤ s ∧ s < ar 1 c.toNat) ∧ (0 ≤ t ∧ t < ar 1 c.toNat) ∧ (0 ≤ v ∧ v ≤ ar 3 c.toNat)) ∧ r = -1 ∧ ar' = ar)))) := by
  refine ze_enter (by decide +kernel) rfl ?_
  change ze_V G l (ze_rm 2 0 0) M6_go _ 0 [(0, .ref X), (1, ze_i (c)), (2, ze_i (s)), (3, ze_i (t)), (4, ze_i (v))] [] w 0 0
  refine ze_aload_n dX6_go_0 rfl ?_
  refine ze_iload_n dX6_go_1 rfl ?_
  refine ze_callV (As := [ze_i (c)]) (rest := []) dX6_go_2 (C6_chainNumbered (c := c) hH hG (by omega)) mo6_chainNumbered ml_X6_73 in_6_chainNumbered se_6_chainNumbered (hp_o hH) rfl rfl rfl rfl rfl ⟨Nat.le_refl _, Nat.le_refl _⟩ rfl (Nat.le_of_ble_eq_true rfl) ?_
  rintro _ w' ⟨ro, rfl, hro, rfl⟩
  by_cases qka : 0 ≤ c ∧ c < (C : Int)
  · rw [if_pos qka] at hro
    subst hro
    obtain ⟨ka, hka⟩ : ∃ n, n = (c).toNat := ⟨_, rfl⟩
    rw [← hka]
    change ze_V G l (ze_rm 2 0 0) M6_go _ 5 [(0, .ref X), (1, ze_i (c)), (2, ze_i (s)), (3, ze_i (t)), (4, ze_i (v))] [.ref (pc ka)] w' 0 0
    have lka : ka < C := by omega
    have ika : ((ka : Nat) : Int) = c := by omega
    obtain ⟨en, n1, n8⟩ := mch_n (hp_ch hH lka).1
    obtain ⟨ek, k1, k6⟩ := mch_k (hp_ch hH lka).1
    obtain ⟨et, t1, t1000⟩ := mch_t (hp_ch hH lka).1
    refine ze_astore (lv' := [(0, .ref X), (1, ze_i (c)), (2, ze_i (s)), (3, ze_i (t)), (4, ze_i (v)), (5, .ref (pc ka))]) dX6_go_5 rfl rfl ?_
    refine ze_aload dX6_go_7 rfl ?_
    refine ze_ifnull dX6_go_9 ?_
    refine ze_aload dX6_go_12 rfl ?_
    refine ze_iload_n dX6_go_14 rfl ?_
    refine ze_callV (As := [ze_i (s)]) (rest := []) dX6_go_15 (C0_hasState (hp_ch hH lka) (by omega)) mo0_hasState ml_X6_77 in_0_hasState se_0_hasState (hp_ch hH lka).2.1 rfl rfl rfl rfl rfl ⟨Nat.le_refl _, Nat.le_refl _⟩ rfl (Nat.le_of_ble_eq_true rfl) ?_
    rintro _ w' ⟨r1, rfl, rfl, rfl⟩
    change ze_V G l (ze_rm 2 0 0) M6_go _ 18 [(0, .ref X), (1, ze_i (c)), (2, ze_i (s)), (3, ze_i (t)), (4, ze_i (v)), (5, .ref (pc ka))] [ze_i (bi (0 ≤ s ∧ s < ((cn ar ka : Nat) : Int)))] w' 0 0
    refine ze_if_eq 40 dX6_go_18 (by decide) (bi_rng _) (fun q2 => ?_) (fun q2 => ?_)
    · rw [bi_z] at q2
      refine ze_iconst dX6_go_40 ?_
      exact ze_ireturn rfl dX6_go_41 ⟨_, rfl, ar, hH, kf_r, Or.inr ⟨by omega, rfl, rfl⟩⟩ rfl rfl
    · rw [bi_n] at q2
      refine ze_aload dX6_go_21 rfl ?_
      refine ze_iload_n dX6_go_23 rfl ?_
      refine ze_callV (As := [ze_i (t)]) (rest := []) dX6_go_24 (C0_hasState (hp_ch hH lka) (by omega)) mo0_hasState ml_X6_77 in_0_hasState se_0_hasState (hp_ch hH lka).2.1 rfl rfl rfl rfl rfl ⟨Nat.le_refl _, Nat.le_refl _⟩ rfl (Nat.le_of_ble_eq_true rfl) ?_
      rintro _ w' ⟨r3, rfl, rfl, rfl⟩
      change ze_V G l (ze_rm 2 0 0) M6_go _ 27 [(0, .ref X), (1, ze_i (c)), (2, ze_i (s)), (3, ze_i (t)), (4, ze_i (v)), (5, .ref (pc ka))] [ze_i (bi (0 ≤ t ∧ t < ((cn ar ka : Nat) : Int)))] w' 0 0
      refine ze_if_eq 40 dX6_go_27 (by decide) (bi_rng _) (fun q4 => ?_) (fun q4 => ?_)
      · rw [bi_z] at q4
        refine ze_iconst dX6_go_40 ?_
        exact ze_ireturn rfl dX6_go_41 ⟨_, rfl, ar, hH, kf_r, Or.inr ⟨by omega, rfl, rfl⟩⟩ rfl rfl
      · rw [bi_n] at q4
        refine ze_aload dX6_go_30 rfl ?_
        refine ze_iload dX6_go_32 rfl ?_
        refine ze_callV (As := [ze_i (v)]) (rest := []) dX6_go_34 (C0_hasWeight (hp_ch hH lka) (by omega)) mo0_hasWeight ml_X6_81 in_0_hasWeight se_0_hasWeight (hp_ch hH lka).2.1 rfl rfl rfl rfl rfl ⟨Nat.le_refl _, Nat.le_refl _⟩ rfl (Nat.le_of_ble_eq_true rfl) ?_
        rintro _ w' ⟨r5, rfl, rfl, rfl⟩
        change ze_V G l (ze_rm 2 0 0) M6_go _ 37 [(0, .ref X), (1, ze_i (c)), (2, ze_i (s)), (3, ze_i (t)), (4, ze_i (v)), (5, .ref (pc ka))] [ze_i (bi (0 ≤ v ∧ v ≤ ((ct ar ka : Nat) : Int)))] w' 0 0
        refine ze_if_ne 42 dX6_go_37 (by decide) (bi_rng _) (fun q6 => ?_) (fun q6 => ?_)
        · rw [bi_n] at q6
          refine ze_aload dX6_go_42 rfl ?_
          refine ze_iload_n dX6_go_44 rfl ?_
          refine ze_iload_n dX6_go_45 rfl ?_
          refine ze_iload dX6_go_46 rfl ?_
          obtain ⟨sn, rfl⟩ := Int.eq_ofNat_of_zero_le (show 0 ≤ s from (by omega))
          change ze_V G l (ze_rm 2 0 0) M6_go _ 48 [(0, .ref X), (1, ze_i (c)), (2, ze_i ((sn : Nat))), (3, ze_i (t)), (4, ze_i (v)), (5, .ref (pc ka))] [ze_i (v), ze_i (t), ze_i ((sn : Nat)), .ref (pc ka)] w' 0 0
          obtain ⟨tn, rfl⟩ := Int.eq_ofNat_of_zero_le (show 0 ≤ t from (by omega))
          change ze_V G l (ze_rm 2 0 0) M6_go _ 48 [(0, .ref X), (1, ze_i (c)), (2, ze_i ((sn : Nat))), (3, ze_i ((tn : Nat))), (4, ze_i (v)), (5, .ref (pc ka))] [ze_i (v), ze_i ((tn : Nat)), ze_i ((sn : Nat)), .ref (pc ka)] w' 0 0
          obtain ⟨vn, rfl⟩ := Int.eq_ofNat_of_zero_le (show 0 ≤ v from (by omega))
          change ze_V G l (ze_rm 2 0 0) M6_go _ 48 [(0, .ref X), (1, ze_i (c)), (2, ze_i ((sn : Nat))), (3, ze_i ((tn : Nat))), (4, ze_i ((vn : Nat))), (5, .ref (pc ka))] [ze_i ((vn : Nat)), ze_i ((tn : Nat)), ze_i ((sn : Nat)), .ref (pc ka)] w' 0 0
          refine ze_callV (As := [ze_i ((sn : Nat)), ze_i ((tn : Nat)), ze_i ((vn : Nat))]) (rest := []) dX6_go_48 (C0_putGo (s := sn) (t := tn) (v := vn) (hp_ch hH lka) (by omega) (by omega) (by omega)) mo0_putGo ml_X6_88 in_0_putGo se_0_putGo (hp_ch hH lka).2.1 rfl rfl rfl rfl rfl ⟨Nat.le_refl _, Nat.le_refl _⟩ rfl (Nat.le_of_ble_eq_true rfl) ?_
          rintro _ w2 ⟨r2, rfl, rfl, f2, c2⟩
          obtain ⟨p1, p2⟩ := hp_put (ar' := va_up ar 5 (va_up (ar 5) ((ka * 8 + sn) * 8 + tn) ((vn : Nat) : Int))) hH hlo lka f2 c2 (va_up_ne _ _ (by decide)) (va_up_ne _ _ (by decide)) (fun c hc p h => chr_ar h (by rw [va_up_ne _ _ (by decide)]) (by rw [va_up_ne _ _ (by decide)]) (by rw [va_up_ne _ _ (by decide)]) (fun s hs => by rw [va_up_ne _ _ (by decide)]) (fun s t hs ht => by rw [va_up_self, va_up_ne _ _ (by omega)]) (fun s x hs hx => by rw [va_up_ne _ _ (by decide)]))
          exact ze_ireturn rfl dX6_go_51 ⟨_, rfl, _, p1, p2, Or.inl ⟨by omega, (by rw [Int.toNat_natCast, Int.toNat_natCast]), (by rw [Int.toNat_natCast, Int.toNat_natCast])⟩⟩ rfl rfl
        · rw [bi_z] at q6
          refine ze_iconst dX6_go_40 ?_
          exact ze_ireturn rfl dX6_go_41 ⟨_, rfl, ar, hH, kf_r, Or.inr ⟨by omega, rfl, rfl⟩⟩ rfl rfl
  · rw [if_neg qka] at hro
    subst hro
    change ze_V G l (ze_rm 2 0 0) M6_go _ 5 [(0, .ref X), (1, ze_i (c)), (2, ze_i (s)), (3, ze_i (t)), (4, ze_i (v))] [.null] w' 0 0
    refine ze_astoreN (lv' := [(0, .ref X), (1, ze_i (c)), (2, ze_i (s)), (3, ze_i (t)), (4, ze_i (v)), (5, .null)]) dX6_go_5 rfl rfl ?_
    refine ze_aloadN dX6_go_7 rfl ?_
    refine ze_ifnullN 40 dX6_go_9 (by decide) ?_
    refine ze_iconst dX6_go_40 ?_
    exact ze_ireturn rfl dX6_go_41 ⟨_, rfl, ar, hH, kf_r, Or.inr ⟨by omega, rfl, rfl⟩⟩ rfl rfl
theorem C6_show {G : ze_G} {l : Launch} {w : ze_W} {X lo C P F V : Nat} {ar : Nat → Nat → Int} {cf : Nat → Option Nat} {pc : Nat → Nat} {RK : Option Nat} {c s x v : Int} (hH : hpc G w X lo C P F ar V cf pc RK) (hG : mgd C P F ar) (hlo : X + 80 ≤ lo) (r_c : -2147483648 ≤ c ∧ c < 2147483648) (r_s : -2147483648 ≤ s ∧ s < 2147483648) (r_x : -2147483648 ≤ x ∧ x < 2147483648) (r_v : -2147483648 ≤ v ∧ v < 2147483648) : ze_C G l 2 0 0 M6_show [.ref X, ze_i c, ze_i s, ze_i x, ze_i v] w (ze_qi (fun r w' => ∃ ar', hpc G w' X lo C P F ar' V cf pc RK ∧ kfr w w' X lo ∧ ((((0 ≤ c ∧ c < (C : Int)) ∧ (0 ≤ s ∧ s < ar 1 c.toNat) ∧ (0 ≤ x ∧ x < ar 2 c.toNat) ∧ (0 ≤ v ∧ v ≤ ar 3 c.toNat)) ∧ r = ar 6 ((c.toNat * 8 + s.toNat) * 6 + x.toNat) ∧ ar' = va_up ar 6 (va_up (ar 6) ((c.toNat * 8 + s.toNat) * 6 + x.toNat) v)) ∨ (¬ ((0 ≤ c ∧ c < (C : Int)) ∧ (0 ≤ s ∧ s < ar 1 c.toNat) ∧ (0 ≤ x ∧ x < ar 2 c.toNat) ∧ (0 ≤ v ∧ v ≤ ar 3 c.toNat)) ∧ r = -1 ∧ ar' = ar)))) := by
  refine ze_enter (by decide +kernel) rfl ?_
  change ze_V G l (ze_rm 2 0 0) M6_show _ 0 [(0, .ref X), (1, ze_i (c)), (2, ze_i (s)), (3, ze_i (x)), (4, ze_i (v))] [] w 0 0
  refine ze_aload_n dX6_show_0 rfl ?_
  refine ze_iload_n dX6_show_1 rfl ?_
  refine ze_callV (As := [ze_i (c)]) (rest := []) dX6_show_2 (C6_chainNumbered (c := c) hH hG (by omega)) mo6_chainNumbered ml_X6_73 in_6_chainNumbered se_6_chainNumbered (hp_o hH) rfl rfl rfl rfl rfl ⟨Nat.le_refl _, Nat.le_refl _⟩ rfl (Nat.le_of_ble_eq_true rfl) ?_
  rintro _ w' ⟨ro, rfl, hro, rfl⟩
  by_cases qka : 0 ≤ c ∧ c < (C : Int)
  · rw [if_pos qka] at hro
    subst hro
    obtain ⟨ka, hka⟩ : ∃ n, n = (c).toNat := ⟨_, rfl⟩
    rw [← hka]
    change ze_V G l (ze_rm 2 0 0) M6_show _ 5 [(0, .ref X), (1, ze_i (c)), (2, ze_i (s)), (3, ze_i (x)), (4, ze_i (v))] [.ref (pc ka)] w' 0 0
    have lka : ka < C := by omega
    have ika : ((ka : Nat) : Int) = c := by omega
    obtain ⟨en, n1, n8⟩ := mch_n (hp_ch hH lka).1
    obtain ⟨ek, k1, k6⟩ := mch_k (hp_ch hH lka).1
    obtain ⟨et, t1, t1000⟩ := mch_t (hp_ch hH lka).1
    refine ze_astore (lv' := [(0, .ref X), (1, ze_i (c)), (2, ze_i (s)), (3, ze_i (x)), (4, ze_i (v)), (5, .ref (pc ka))]) dX6_show_5 rfl rfl ?_
    refine ze_aload dX6_show_7 rfl ?_
    refine ze_ifnull dX6_show_9 ?_
    refine ze_aload dX6_show_12 rfl ?_
    refine ze_iload_n dX6_show_14 rfl ?_
    refine ze_callV (As := [ze_i (s)]) (rest := []) dX6_show_15 (C0_hasState (hp_ch hH lka) (by omega)) mo0_hasState ml_X6_77 in_0_hasState se_0_hasState (hp_ch hH lka).2.1 rfl rfl rfl rfl rfl ⟨Nat.le_refl _, Nat.le_refl _⟩ rfl (Nat.le_of_ble_eq_true rfl) ?_
    rintro _ w' ⟨r1, rfl, rfl, rfl⟩
    change ze_V G l (ze_rm 2 0 0) M6_show _ 18 [(0, .ref X), (1, ze_i (c)), (2, ze_i (s)), (3, ze_i (x)), (4, ze_i (v)), (5, .ref (pc ka))] [ze_i (bi (0 ≤ s ∧ s < ((cn ar ka : Nat) : Int)))] w' 0 0
    refine ze_if_eq 40 dX6_show_18 (by decide) (bi_rng _) (fun q2 => ?_) (fun q2 => ?_)
    · rw [bi_z] at q2
      refine ze_iconst dX6_show_40 ?_
      exact ze_ireturn rfl dX6_show_41 ⟨_, rfl, ar, hH, kf_r, Or.inr ⟨by omega, rfl, rfl⟩⟩ rfl rfl
    · rw [bi_n] at q2
      refine ze_aload dX6_show_21 rfl ?_
      refine ze_iload_n dX6_show_23 rfl ?_
      refine ze_callV (As := [ze_i (x)]) (rest := []) dX6_show_24 (C0_hasSign (hp_ch hH lka) (by omega)) mo0_hasSign ml_X6_92 in_0_hasSign se_0_hasSign (hp_ch hH lka).2.1 rfl rfl rfl rfl rfl ⟨Nat.le_refl _, Nat.le_refl _⟩ rfl (Nat.le_of_ble_eq_true rfl) ?_
      rintro _ w' ⟨r3, rfl, rfl, rfl⟩
      change ze_V G l (ze_rm 2 0 0) M6_show _ 27 [(0, .ref X), (1, ze_i (c)), (2, ze_i (s)), (3, ze_i (x)), (4, ze_i (v)), (5, .ref (pc ka))] [ze_i (bi (0 ≤ x ∧ x < ((ck ar ka : Nat) : Int)))] w' 0 0
      refine ze_if_eq 40 dX6_show_27 (by decide) (bi_rng _) (fun q4 => ?_) (fun q4 => ?_)
      · rw [bi_z] at q4
        refine ze_iconst dX6_show_40 ?_
        exact ze_ireturn rfl dX6_show_41 ⟨_, rfl, ar, hH, kf_r, Or.inr ⟨by omega, rfl, rfl⟩⟩ rfl rfl
      · rw [bi_n] at q4
        refine ze_aload dX6_show_30 rfl ?_
        refine ze_iload dX6_show_32 rfl ?_
        refine ze_callV (As := [ze_i (v)]) (rest := []) dX6_show_34 (C0_hasWeight (hp_ch hH lka) (by omega)) mo0_hasWeight ml_X6_81 in_0_hasWeight se_0_hasWeight (hp_ch hH lka).2.1 rfl rfl rfl rfl rfl ⟨Nat.le_refl _, Nat.le_refl _⟩ rfl (Nat.le_of_ble_eq_true rfl) ?_
        rintro _ w' ⟨r5, rfl, rfl, rfl⟩
        change ze_V G l (ze_rm 2 0 0) M6_show _ 37 [(0, .ref X), (1, ze_i (c)), (2, ze_i (s)), (3, ze_i (x)), (4, ze_i (v)), (5, .ref (pc ka))] [ze_i (bi (0 ≤ v ∧ v ≤ ((ct ar ka : Nat) : Int)))] w' 0 0
        refine ze_if_ne 42 dX6_show_37 (by decide) (bi_rng _) (fun q6 => ?_) (fun q6 => ?_)
        · rw [bi_n] at q6
          refine ze_aload dX6_show_42 rfl ?_
          refine ze_iload_n dX6_show_44 rfl ?_
          refine ze_iload_n dX6_show_45 rfl ?_
          refine ze_iload dX6_show_46 rfl ?_
          obtain ⟨sn, rfl⟩ := Int.eq_ofNat_of_zero_le (show 0 ≤ s from (by omega))
          change ze_V G l (ze_rm 2 0 0) M6_show _ 48 [(0, .ref X), (1, ze_i (c)), (2, ze_i ((sn : Nat))), (3, ze_i (x)), (4, ze_i (v)), (5, .ref (pc ka))] [ze_i (v), ze_i (x), ze_i ((sn : Nat)), .ref (pc ka)] w' 0 0
          obtain ⟨xn, rfl⟩ := Int.eq_ofNat_of_zero_le (show 0 ≤ x from (by omega))
          change ze_V G l (ze_rm 2 0 0) M6_show _ 48 [(0, .ref X), (1, ze_i (c)), (2, ze_i ((sn : Nat))), (3, ze_i ((xn : Nat))), (4, ze_i (v)), (5, .ref (pc ka))] [ze_i (v), ze_i ((xn : Nat)), ze_i ((sn : Nat)), .ref (pc ka)] w' 0 0
          obtain ⟨vn, rfl⟩ := Int.eq_ofNat_of_zero_le (show 0 ≤ v from (by omega))
          change ze_V G l (ze_rm 2 0 0) M6_show _ 48 [(0, .ref X), (1, ze_i (c)), (2, ze_i ((sn : Nat))), (3, ze_i ((xn : Nat))), (4, ze_i ((vn : Nat))), (5, .ref (pc ka))] [ze_i ((vn : Nat)), ze_i ((xn : Nat)), ze_i ((sn : Nat)), .ref (pc ka)] w' 0 0
          refine ze_callV (As := [ze_i ((sn : Nat)), ze_i ((xn : Nat)), ze_i ((vn : Nat))]) (rest := []) dX6_show_48 (C0_putShow (s := sn) (t := xn) (v := vn) (hp_ch hH lka) (by omega) (by omega) (by omega)) mo0_putShow ml_X6_95 in_0_putShow se_0_putShow (hp_ch hH lka).2.1 rfl rfl rfl rfl rfl ⟨Nat.le_refl _, Nat.le_refl _⟩ rfl (Nat.le_of_ble_eq_true rfl) ?_
          rintro _ w2 ⟨r2, rfl, rfl, f2, c2⟩
          obtain ⟨p1, p2⟩ := hp_put (ar' := va_up ar 6 (va_up (ar 6) ((ka * 8 + sn) * 6 + xn) ((vn : Nat) : Int))) hH hlo lka f2 c2 (va_up_ne _ _ (by decide)) (va_up_ne _ _ (by decide)) (fun c hc p h => chr_ar h (by rw [va_up_ne _ _ (by decide)]) (by rw [va_up_ne _ _ (by decide)]) (by rw [va_up_ne _ _ (by decide)]) (fun s hs => by rw [va_up_ne _ _ (by decide)]) (fun s t hs ht => by rw [va_up_ne _ _ (by decide)]) (fun s x hs hx => by rw [va_up_self, va_up_ne _ _ (by omega)]))
          exact ze_ireturn rfl dX6_show_51 ⟨_, rfl, _, p1, p2, Or.inl ⟨by omega, (by rw [Int.toNat_natCast, Int.toNat_natCast]), (by rw [Int.toNat_natCast, Int.toNat_natCast])⟩⟩ rfl rfl
        · rw [bi_z] at q6
          refine ze_iconst dX6_show_40 ?_
          exact ze_ireturn rfl dX6_show_41 ⟨_, rfl, ar, hH, kf_r, Or.inr ⟨by omega, rfl, rfl⟩⟩ rfl rfl
  · rw [if_neg qka] at hro
    subst hro
    change ze_V G l (ze_rm 2 0 0) M6_show _ 5 [(0, .ref X), (1, ze_i (c)), (2, ze_i (s)), (3, ze_i (x)), (4, ze_i (v))] [.null] w' 0 0
    refine ze_astoreN (lv' := [(0, .ref X), (1, ze_i (c)), (2, ze_i (s)), (3, ze_i (x)), (4, ze_i (v)), (5, .null)]) dX6_show_5 rfl rfl ?_
    refine ze_aloadN dX6_show_7 rfl ?_
    refine ze_ifnullN 40 dX6_show_9 (by decide) ?_
    refine ze_iconst dX6_show_40 ?_
    exact ze_ireturn rfl dX6_show_41 ⟨_, rfl, ar, hH, kf_r, Or.inr ⟨by omega, rfl, rfl⟩⟩ rfl rfl
theorem C6_sound {G : ze_G} {l : Launch} {w : ze_W} {X lo C P F V : Nat} {ar : Nat → Nat → Int} {cf : Nat → Option Nat} {pc : Nat → Nat} {RK : Option Nat} {c : Int} (hH : hpc G w X lo C P F ar V cf pc RK) (hG : mgd C P F ar) (hlo : X + 80 ≤ lo) (r_c : -2147483648 ≤ c ∧ c < 2147483648) : ze_C G l 2 0 0 M6_sound [.ref X, ze_i c] w (ze_qi (fun r w' => (((0 ≤ c ∧ c < (C : Int)) ∧ tf r (snd ar c.toNat)) ∨ (¬ (0 ≤ c ∧ c < (C : Int)) ∧ r = -1)) ∧ w' = w)) := by
  refine ze_enter (by decide +kernel) rfl ?_
  change ze_V G l (ze_rm 2 0 0) M6_sound _ 0 [(0, .ref X), (1, ze_i (c))] [] w 0 0
  refine ze_aload_n dX6_sound_0 rfl ?_
  refine ze_iload_n dX6_sound_1 rfl ?_
  refine ze_callV (As := [ze_i (c)]) (rest := []) dX6_sound_2 (C6_chainNumbered (c := c) hH hG (by omega)) mo6_chainNumbered ml_X6_73 in_6_chainNumbered se_6_chainNumbered (hp_o hH) rfl rfl rfl rfl rfl ⟨Nat.le_refl _, Nat.le_refl _⟩ rfl (Nat.le_of_ble_eq_true rfl) ?_
  rintro _ w' ⟨ro, rfl, hro, rfl⟩
  by_cases qka : 0 ≤ c ∧ c < (C : Int)
  · rw [if_pos qka] at hro
    subst hro
    obtain ⟨ka, hka⟩ : ∃ n, n = (c).toNat := ⟨_, rfl⟩
    rw [← hka]
    change ze_V G l (ze_rm 2 0 0) M6_sound _ 5 [(0, .ref X), (1, ze_i (c))] [.ref (pc ka)] w' 0 0
    have lka : ka < C := by omega
    have ika : ((ka : Nat) : Int) = c := by omega
    refine ze_astore_n (lv' := [(0, .ref X), (1, ze_i (c)), (2, .ref (pc ka))]) dX6_sound_5 rfl rfl ?_
    refine ze_aload_n dX6_sound_6 rfl ?_
    refine ze_ifnonnull 12 dX6_sound_7 (by decide) ?_
    refine ze_aload_n dX6_sound_12 rfl ?_
    refine ze_callV (As := []) (rest := []) dX6_sound_13 (C0_isSound (hp_ch hH lka)) mo0_isSound ml_X6_98 in_0_isSound se_0_isSound (hp_ch hH lka).2.1 rfl rfl rfl rfl rfl ⟨Nat.le_refl _, Nat.le_refl _⟩ rfl (Nat.le_of_ble_eq_true rfl) ?_
    rintro _ w' ⟨ra, rfl, hra, rfl⟩
    change ze_V G l (ze_rm 2 0 0) M6_sound _ 16 [(0, .ref X), (1, ze_i (c)), (2, .ref (pc ka))] [ze_i (ra)] w' 0 0
    refine ze_if_eq 23 dX6_sound_16 (by decide) (tf_rng hra) (fun q1 => ?_) (fun q1 => ?_)
    · refine ze_iconst dX6_sound_23 ?_
      exact ze_ireturn rfl dX6_sound_24 ⟨_, rfl, Or.inl ⟨qka, Or.inr ⟨rfl, tf_z hra q1⟩⟩, rfl⟩ rfl rfl
    · refine ze_iconst dX6_sound_19 ?_
      refine ze_goto 24 dX6_sound_20 (by decide) ?_
      exact ze_ireturn rfl dX6_sound_24 ⟨_, rfl, Or.inl ⟨qka, Or.inl ⟨rfl, tf_n hra q1⟩⟩, rfl⟩ rfl rfl
  · rw [if_neg qka] at hro
    subst hro
    change ze_V G l (ze_rm 2 0 0) M6_sound _ 5 [(0, .ref X), (1, ze_i (c))] [.null] w' 0 0
    refine ze_astore_nN (lv' := [(0, .ref X), (1, ze_i (c)), (2, .null)]) dX6_sound_5 rfl rfl ?_
    refine ze_aload_nN dX6_sound_6 rfl ?_
    refine ze_ifnonnullN dX6_sound_7 ?_
    refine ze_iconst dX6_sound_10 ?_
    exact ze_ireturn rfl dX6_sound_11 ⟨_, rfl, Or.inr ⟨qka, rfl⟩, rfl⟩ rfl rfl
theorem C6_told {G : ze_G} {l : Launch} {w : ze_W} {X lo C P F V : Nat} {ar : Nat → Nat → Int} {cf : Nat → Option Nat} {pc : Nat → Nat} {RK : Option Nat} {c x : Int} (hH : hpc G w X lo C P F ar V cf pc RK) (hG : mgd C P F ar) (hlo : X + 80 ≤ lo) (r_c : -2147483648 ≤ c ∧ c < 2147483648) (r_x : -2147483648 ≤ x ∧ x < 2147483648) : ze_C G l 2 0 0 M6_told [.ref X, ze_i c, ze_i x] w (ze_qi (fun r w' => w' = w ∧ r = if (0 ≤ c ∧ c < (C : Int)) ∧ (0 ≤ x ∧ x ≤ 2) then (if x = 0 then ar 1 c.toNat else if x = 1 then ar 2 c.toNat else ar 3 c.toNat) else -1)) := by
  refine ze_enter (by decide +kernel) rfl ?_
  change ze_V G l (ze_rm 2 0 0) M6_told _ 0 [(0, .ref X), (1, ze_i (c)), (2, ze_i (x))] [] w 0 0
  refine ze_aload_n dX6_told_0 rfl ?_
  refine ze_iload_n dX6_told_1 rfl ?_
  refine ze_callV (As := [ze_i (c)]) (rest := []) dX6_told_2 (C6_chainNumbered (c := c) hH hG (by omega)) mo6_chainNumbered ml_X6_73 in_6_chainNumbered se_6_chainNumbered (hp_o hH) rfl rfl rfl rfl rfl ⟨Nat.le_refl _, Nat.le_refl _⟩ rfl (Nat.le_of_ble_eq_true rfl) ?_
  rintro _ w' ⟨ro, rfl, hro, rfl⟩
  by_cases qka : 0 ≤ c ∧ c < (C : Int)
  · rw [if_pos qka] at hro
    subst hro
    obtain ⟨ka, hka⟩ : ∃ n, n = (c).toNat := ⟨_, rfl⟩
    rw [← hka]
    change ze_V G l (ze_rm 2 0 0) M6_told _ 5 [(0, .ref X), (1, ze_i (c)), (2, ze_i (x))] [.ref (pc ka)] w' 0 0
    have lka : ka < C := by omega
    have ika : ((ka : Nat) : Int) = c := by omega
    obtain ⟨en, n1, n8⟩ := mch_n (hp_ch hH lka).1
    obtain ⟨ek, k1, k6⟩ := mch_k (hp_ch hH lka).1
    obtain ⟨et, t1, t1000⟩ := mch_t (hp_ch hH lka).1
    refine ze_astore_n (lv' := [(0, .ref X), (1, ze_i (c)), (2, ze_i (x)), (3, .ref (pc ka))]) dX6_told_5 rfl rfl ?_
    refine ze_aload_n dX6_told_6 rfl ?_
    refine ze_ifnonnull 12 dX6_told_7 (by decide) ?_
    refine ze_iload_n dX6_told_12 rfl ?_
    rcases (show x = 0 ∨ x = 1 ∨ x = 2 ∨ (x < 0 ∨ 2 < x) by omega) with hx | hx | hx | hx
    · refine ze_tabIn (off := 27) 40 dX6_told_13 r_x (by omega) (by rw [hx]; decide) (by decide) ?_
      refine ze_aload_n dX6_told_40 rfl ?_
      refine ze_getf dX6_told_41 fl_X6_102 (hp_ch hH lka).2.1 rfl ?_
      exact ze_ireturn rfl dX6_told_44 ⟨_, rfl, rfl, by rw [if_pos ⟨qka, by omega⟩, if_pos hx, en]⟩ rfl rfl
    · refine ze_tabIn (off := 32) 45 dX6_told_13 r_x (by omega) (by rw [hx]; decide) (by decide) ?_
      refine ze_aload_n dX6_told_45 rfl ?_
      refine ze_getf dX6_told_46 fl_X6_105 (hp_ch hH lka).2.1 rfl ?_
      exact ze_ireturn rfl dX6_told_49 ⟨_, rfl, rfl, by rw [if_pos ⟨qka, by omega⟩, if_neg (by omega), if_pos hx, ek]⟩ rfl rfl
    · refine ze_tabIn (off := 37) 50 dX6_told_13 r_x (by omega) (by rw [hx]; decide) (by decide) ?_
      refine ze_aload_n dX6_told_50 rfl ?_
      refine ze_getf dX6_told_51 fl_X6_108 (hp_ch hH lka).2.1 rfl ?_
      exact ze_ireturn rfl dX6_told_54 ⟨_, rfl, rfl, by rw [if_pos ⟨qka, by omega⟩, if_neg (by omega), if_neg (by omega), et]⟩ rfl rfl
    · refine ze_tabOut 55 dX6_told_13 r_x hx (by decide) ?_
      refine ze_iconst dX6_told_55 ?_
      exact ze_ireturn rfl dX6_told_56 ⟨_, rfl, rfl, by rw [if_neg (by omega)]⟩ rfl rfl
  · rw [if_neg qka] at hro
    subst hro
    change ze_V G l (ze_rm 2 0 0) M6_told _ 5 [(0, .ref X), (1, ze_i (c)), (2, ze_i (x))] [.null] w' 0 0
    refine ze_astore_nN (lv' := [(0, .ref X), (1, ze_i (c)), (2, ze_i (x)), (3, .null)]) dX6_told_5 rfl rfl ?_
    refine ze_aload_nN dX6_told_6 rfl ?_
    refine ze_ifnonnullN dX6_told_7 ?_
    refine ze_iconst dX6_told_10 ?_
    exact ze_ireturn rfl dX6_told_11 ⟨_, rfl, rfl, by rw [if_neg (fun h => qka h.1)]⟩ rfl rfl
theorem C6_sign {G : ze_G} {l : Launch} {w : ze_W} {X lo C P F V : Nat} {ar : Nat → Nat → Int} {cf : Nat → Option Nat} {pc : Nat → Nat} {RK : Option Nat} {x : Int} (hH : hpc G w X lo C P F ar V cf pc RK) (hG : mgd C P F ar) (hlo : X + 80 ≤ lo) (r_x : -2147483648 ≤ x ∧ x < 2147483648) : ze_C G l 2 0 0 M6_sign [.ref X, ze_i x] w (ze_qi (fun r w' => ∃ ar' P', hpc G w' X lo C P' F ar' V cf pc RK ∧ kfr w w' X lo ∧ ((¬ (-1 ≤ x ∧ x < 6) ∧ r = -1 ∧ ar' = ar ∧ P' = P) ∨ ((-1 ≤ x ∧ x < 6) ∧ P = 60 ∧ r = -6 ∧ ar' = ar ∧ P' = P) ∨ ((-1 ≤ x ∧ x < 6) ∧ P < 60 ∧ r = (P + 1 : Nat) ∧ ar' = va_up ar 7 (va_up (ar 7) P x) ∧ P' = P + 1)))) := by
  have hP := hG.1.2.1
  refine ze_enter (by decide +kernel) rfl ?_
  change ze_V G l (ze_rm 2 0 0) M6_sign _ 0 [(0, .ref X), (1, ze_i (x))] [] w 0 0
  refine ze_iload_n dX6_sign_0 rfl ?_
  refine ze_iconst dX6_sign_1 ?_
  refine ze_icmp_eq 16 dX6_sign_2 (by decide) (by omega) (by omega) (fun q1 => ?_) (fun q1 => ?_)
  · refine ze_aload_n dX6_sign_16 rfl ?_
    refine ze_getf dX6_sign_17 fl_X6_22 (hp_o hH) rfl ?_
    refine ze_callV (As := []) (rest := []) dX6_sign_20 (C2_isFull (hp_row hH)) mo2_isFull ml_X6_111 in_2_isFull se_2_isFull (hp_row hH).2.1 rfl rfl rfl rfl rfl ⟨Nat.le_refl _, Nat.le_refl _⟩ rfl (Nat.le_of_ble_eq_true rfl) ?_
    rintro _ w' ⟨r2, rfl, rfl, rfl⟩
    change ze_V G l (ze_rm 2 0 0) M6_sign _ 23 [(0, .ref X), (1, ze_i (x))] [ze_i (bi (60 ≤ P))] w' 0 0
    refine ze_if_eq 29 dX6_sign_23 (by decide) (bi_rng _) (fun q3 => ?_) (fun q3 => ?_)
    · rw [bi_z] at q3
      refine ze_aload_n dX6_sign_29 rfl ?_
      refine ze_getf dX6_sign_30 fl_X6_22 (hp_o hH) rfl ?_
      refine ze_iload_n dX6_sign_33 rfl ?_
      refine ze_callV (As := [ze_i (x)]) (rest := []) dX6_sign_34 (C2_append (x := x) (hp_row hH) (by omega)) mo2_append ml_X6_114 in_2_append se_2_append (hp_row hH).2.1 rfl rfl rfl rfl rfl ⟨Nat.le_refl _, Nat.le_refl _⟩ rfl (Nat.le_of_ble_eq_true rfl) ?_
      rintro _ w2 ⟨rfl, f2, s2⟩
      obtain ⟨p1, p2⟩ := hp_rows hH hlo f2 s2 (fun k hk => va_up_ne _ _ hk)
      change ze_V G l (ze_rm 2 0 0) M6_sign _ 37 [(0, .ref X), (1, ze_i (x))] [] w2 0 0
      refine ze_aload_n dX6_sign_37 rfl ?_
      refine ze_getf dX6_sign_38 fl_X6_22 (hp_o p1) rfl ?_
      refine ze_callV (As := []) (rest := []) dX6_sign_41 (C2_length (hp_row p1)) mo2_length ml_X6_117 in_2_length se_2_length (hp_row p1).2.1 rfl rfl rfl rfl rfl ⟨Nat.le_refl _, Nat.le_refl _⟩ rfl (Nat.le_of_ble_eq_true rfl) ?_
      rintro _ w' ⟨r9, rfl, rfl, rfl⟩
      change ze_V G l (ze_rm 2 0 0) M6_sign _ 44 [(0, .ref X), (1, ze_i (x))] [ze_i (((P + 1 : Nat)))] w' 0 0
      exact ze_ireturn rfl dX6_sign_44 ⟨_, rfl, _, P + 1, p1, p2, Or.inr (Or.inr ⟨by omega, by omega, rfl, rfl, rfl⟩)⟩ rfl rfl
    · rw [bi_n] at q3
      refine ze_bipush dX6_sign_26 (by decide) ?_
      exact ze_ireturn rfl dX6_sign_28 ⟨_, rfl, ar, P, hH, kf_r, Or.inr (Or.inl ⟨by omega, by omega, rfl, rfl, rfl⟩)⟩ rfl rfl
  · refine ze_iload_n dX6_sign_5 rfl ?_
    refine ze_iconst dX6_sign_6 ?_
    refine ze_iconst dX6_sign_7 ?_
    refine ze_callS (As := [ze_i (x), ze_i (0), ze_i (5)]) (rest := []) dX6_sign_8 (C6_isWithin (v := x) (a := 0) (b := 5) (by omega) (by omega) (by omega)) mo6_isWithin ml_X6_66 st_6_isWithin rfl rfl rfl ⟨Nat.le_refl _, Nat.le_refl _⟩ rfl (Nat.le_of_ble_eq_true rfl) ?_
    rintro _ w' ⟨r4, rfl, rfl, rfl⟩
    change ze_V G l (ze_rm 2 0 0) M6_sign _ 11 [(0, .ref X), (1, ze_i (x))] [ze_i (bi (0 ≤ x ∧ x ≤ 5))] w' 0 0
    refine ze_if_ne 16 dX6_sign_11 (by decide) (bi_rng _) (fun q5 => ?_) (fun q5 => ?_)
    · rw [bi_n] at q5
      refine ze_aload_n dX6_sign_16 rfl ?_
      refine ze_getf dX6_sign_17 fl_X6_22 (hp_o hH) rfl ?_
      refine ze_callV (As := []) (rest := []) dX6_sign_20 (C2_isFull (hp_row hH)) mo2_isFull ml_X6_111 in_2_isFull se_2_isFull (hp_row hH).2.1 rfl rfl rfl rfl rfl ⟨Nat.le_refl _, Nat.le_refl _⟩ rfl (Nat.le_of_ble_eq_true rfl) ?_
      rintro _ w' ⟨r6, rfl, rfl, rfl⟩
      change ze_V G l (ze_rm 2 0 0) M6_sign _ 23 [(0, .ref X), (1, ze_i (x))] [ze_i (bi (60 ≤ P))] w' 0 0
      refine ze_if_eq 29 dX6_sign_23 (by decide) (bi_rng _) (fun q7 => ?_) (fun q7 => ?_)
      · rw [bi_z] at q7
        refine ze_aload_n dX6_sign_29 rfl ?_
        refine ze_getf dX6_sign_30 fl_X6_22 (hp_o hH) rfl ?_
        refine ze_iload_n dX6_sign_33 rfl ?_
        refine ze_callV (As := [ze_i (x)]) (rest := []) dX6_sign_34 (C2_append (x := x) (hp_row hH) (by omega)) mo2_append ml_X6_114 in_2_append se_2_append (hp_row hH).2.1 rfl rfl rfl rfl rfl ⟨Nat.le_refl _, Nat.le_refl _⟩ rfl (Nat.le_of_ble_eq_true rfl) ?_
        rintro _ w2 ⟨rfl, f2, s2⟩
        obtain ⟨p1, p2⟩ := hp_rows hH hlo f2 s2 (fun k hk => va_up_ne _ _ hk)
        change ze_V G l (ze_rm 2 0 0) M6_sign _ 37 [(0, .ref X), (1, ze_i (x))] [] w2 0 0
        refine ze_aload_n dX6_sign_37 rfl ?_
        refine ze_getf dX6_sign_38 fl_X6_22 (hp_o p1) rfl ?_
        refine ze_callV (As := []) (rest := []) dX6_sign_41 (C2_length (hp_row p1)) mo2_length ml_X6_117 in_2_length se_2_length (hp_row p1).2.1 rfl rfl rfl rfl rfl ⟨Nat.le_refl _, Nat.le_refl _⟩ rfl (Nat.le_of_ble_eq_true rfl) ?_
        rintro _ w' ⟨r9, rfl, rfl, rfl⟩
        change ze_V G l (ze_rm 2 0 0) M6_sign _ 44 [(0, .ref X), (1, ze_i (x))] [ze_i (((P + 1 : Nat)))] w' 0 0
        exact ze_ireturn rfl dX6_sign_44 ⟨_, rfl, _, P + 1, p1, p2, Or.inr (Or.inr ⟨by omega, by omega, rfl, rfl, rfl⟩)⟩ rfl rfl
      · rw [bi_n] at q7
        refine ze_bipush dX6_sign_26 (by decide) ?_
        exact ze_ireturn rfl dX6_sign_28 ⟨_, rfl, ar, P, hH, kf_r, Or.inr (Or.inl ⟨by omega, by omega, rfl, rfl, rfl⟩)⟩ rfl rfl
    · rw [bi_z] at q5
      refine ze_iconst dX6_sign_14 ?_
      exact ze_ireturn rfl dX6_sign_15 ⟨_, rfl, ar, P, hH, kf_r, Or.inl ⟨by omega, rfl, rfl, rfl⟩⟩ rfl rfl
theorem C6_cut {G : ze_G} {l : Launch} {w : ze_W} {X lo C P F V : Nat} {ar : Nat → Nat → Int} {cf : Nat → Option Nat} {pc : Nat → Nat} {RK : Option Nat} {x : Int} (hH : hpc G w X lo C P F ar V cf pc RK) (hG : mgd C P F ar) (hlo : X + 80 ≤ lo) (r_x : -2147483648 ≤ x ∧ x < 2147483648) : ze_C G l 2 0 0 M6_cut [.ref X, ze_i x] w (ze_qi (fun r w' => ∃ P', hpc G w' X lo C P' F ar V cf pc RK ∧ kfr w w' X lo ∧ (((0 ≤ x ∧ x ≤ (P : Int)) ∧ r = x ∧ P' = x.toNat) ∨ (¬ (0 ≤ x ∧ x ≤ (P : Int)) ∧ r = -1 ∧ P' = P)))) := by
  have hP := hG.1.2.1
  refine ze_enter (by decide +kernel) rfl ?_
  change ze_V G l (ze_rm 2 0 0) M6_cut _ 0 [(0, .ref X), (1, ze_i (x))] [] w 0 0
  refine ze_iload_n dX6_cut_0 rfl ?_
  refine ze_iconst dX6_cut_1 ?_
  refine ze_aload_n dX6_cut_2 rfl ?_
  refine ze_getf dX6_cut_3 fl_X6_22 (hp_o hH) rfl ?_
  refine ze_callV (As := []) (rest := [ze_i (0), ze_i (x)]) dX6_cut_6 (C2_length (hp_row hH)) mo2_length ml_X6_117 in_2_length se_2_length (hp_row hH).2.1 rfl rfl rfl rfl rfl ⟨Nat.le_refl _, Nat.le_refl _⟩ rfl (Nat.le_of_ble_eq_true rfl) ?_
  rintro _ w' ⟨r1, rfl, rfl, rfl⟩
  change ze_V G l (ze_rm 2 0 0) M6_cut _ 9 [(0, .ref X), (1, ze_i (x))] [ze_i ((P : Nat)), ze_i (0), ze_i (x)] w' 0 0
  refine ze_callS (As := [ze_i (x), ze_i (0), ze_i ((P : Nat))]) (rest := []) dX6_cut_9 (C6_isWithin (v := x) (a := 0) (b := (P : Nat)) (by omega) (by omega) (by omega)) mo6_isWithin ml_X6_66 st_6_isWithin rfl rfl rfl ⟨Nat.le_refl _, Nat.le_refl _⟩ rfl (Nat.le_of_ble_eq_true rfl) ?_
  rintro _ w' ⟨r2, rfl, rfl, rfl⟩
  change ze_V G l (ze_rm 2 0 0) M6_cut _ 12 [(0, .ref X), (1, ze_i (x))] [ze_i (bi (0 ≤ x ∧ x ≤ (P : Nat)))] w' 0 0
  refine ze_if_ne 17 dX6_cut_12 (by decide) (bi_rng _) (fun q3 => ?_) (fun q3 => ?_)
  · rw [bi_n] at q3
    refine ze_aload_n dX6_cut_17 rfl ?_
    refine ze_getf dX6_cut_18 fl_X6_22 (hp_o hH) rfl ?_
    refine ze_iload_n dX6_cut_21 rfl ?_
    obtain ⟨xn, rfl⟩ := Int.eq_ofNat_of_zero_le (show 0 ≤ x from (by omega))
    change ze_V G l (ze_rm 2 0 0) M6_cut _ 22 [(0, .ref X), (1, ze_i ((xn : Nat)))] [ze_i ((xn : Nat)), .ref (X + 2)] w' 0 0
    refine ze_callV (As := [ze_i ((xn : Nat))]) (rest := []) dX6_cut_22 (C2_shorten (n := xn) (hp_row hH) (by omega)) mo2_shorten ml_X6_121 in_2_shorten se_2_shorten (hp_row hH).2.1 rfl rfl rfl rfl rfl ⟨Nat.le_refl _, Nat.le_refl _⟩ rfl (Nat.le_of_ble_eq_true rfl) ?_
    rintro _ w2 ⟨rfl, f2, s2⟩
    obtain ⟨p1, p2⟩ := hp_rows hH hlo f2 s2 (fun _ _ => rfl)
    change ze_V G l (ze_rm 2 0 0) M6_cut _ 25 [(0, .ref X), (1, ze_i ((xn : Nat)))] [] w2 0 0
    refine ze_iload_n dX6_cut_25 rfl ?_
    exact ze_ireturn rfl dX6_cut_26 ⟨_, rfl, xn, p1, p2, Or.inl ⟨by omega, rfl, (Int.toNat_natCast _).symm⟩⟩ rfl rfl
  · rw [bi_z] at q3
    refine ze_iconst dX6_cut_15 ?_
    exact ze_ireturn rfl dX6_cut_16 ⟨_, rfl, P, hH, kf_r, Or.inr ⟨by omega, rfl, rfl⟩⟩ rfl rfl
theorem C6_at {G : ze_G} {l : Launch} {w : ze_W} {X lo C P F V : Nat} {ar : Nat → Nat → Int} {cf : Nat → Option Nat} {pc : Nat → Nat} {RK : Option Nat} {x : Int} (hH : hpc G w X lo C P F ar V cf pc RK) (hG : mgd C P F ar) (hlo : X + 80 ≤ lo) (r_x : -2147483648 ≤ x ∧ x < 2147483648) : ze_C G l 2 0 0 M6_at [.ref X, ze_i x] w (ze_qi (fun r w' => w' = w ∧ r = if 0 ≤ x ∧ x < (P : Int) then ar 7 x.toNat else -2)) := by
  have hP := hG.1.2.1
  refine ze_enter (by decide +kernel) rfl ?_
  change ze_V G l (ze_rm 2 0 0) M6_at _ 0 [(0, .ref X), (1, ze_i (x))] [] w 0 0
  refine ze_aload_n dX6_at_0 rfl ?_
  refine ze_getf dX6_at_1 fl_X6_22 (hp_o hH) rfl ?_
  refine ze_iload_n dX6_at_4 rfl ?_
  refine ze_callV (As := [ze_i (x)]) (rest := []) dX6_at_5 (C2_hasPlace (i := x) (hp_row hH) (by omega)) mo2_hasPlace ml_X6_124 in_2_hasPlace se_2_hasPlace (hp_row hH).2.1 rfl rfl rfl rfl rfl ⟨Nat.le_refl _, Nat.le_refl _⟩ rfl (Nat.le_of_ble_eq_true rfl) ?_
  rintro _ w' ⟨r1, rfl, rfl, rfl⟩
  change ze_V G l (ze_rm 2 0 0) M6_at _ 8 [(0, .ref X), (1, ze_i (x))] [ze_i (bi (0 ≤ x ∧ x < (P : Int)))] w' 0 0
  refine ze_if_eq 22 dX6_at_8 (by decide) (bi_rng _) (fun q2 => ?_) (fun q2 => ?_)
  · rw [bi_z] at q2
    refine ze_bipush dX6_at_22 (by decide) ?_
    exact ze_ireturn rfl dX6_at_24 ⟨_, rfl, rfl, by rw [if_neg (by omega)]⟩ rfl rfl
  · rw [bi_n] at q2
    refine ze_aload_n dX6_at_11 rfl ?_
    refine ze_getf dX6_at_12 fl_X6_22 (hp_o hH) rfl ?_
    refine ze_iload_n dX6_at_15 rfl ?_
    obtain ⟨xn, rfl⟩ := Int.eq_ofNat_of_zero_le (show 0 ≤ x from (by omega))
    change ze_V G l (ze_rm 2 0 0) M6_at _ 16 [(0, .ref X), (1, ze_i ((xn : Nat)))] [ze_i ((xn : Nat)), .ref (X + 2)] w' 0 0
    refine ze_callV (As := [ze_i ((xn : Nat))]) (rest := []) dX6_at_16 (C2_signAt (i := xn) (hp_row hH) (by omega)) mo2_signAt ml_X6_127 in_2_signAt se_2_signAt (hp_row hH).2.1 rfl rfl rfl rfl rfl ⟨Nat.le_refl _, Nat.le_refl _⟩ rfl (Nat.le_of_ble_eq_true rfl) ?_
    rintro _ w' ⟨r3, rfl, rfl, rfl⟩
    change ze_V G l (ze_rm 2 0 0) M6_at _ 19 [(0, .ref X), (1, ze_i ((xn : Nat)))] [ze_i (ar 7 xn)] w' 0 0
    refine ze_goto 24 dX6_at_19 (by decide) ?_
    exact ze_ireturn rfl dX6_at_24 ⟨_, rfl, rfl, by rw [if_pos (by omega), Int.toNat_natCast]⟩ rfl rfl
theorem C6_state {G : ze_G} {l : Launch} {w : ze_W} {X lo C P F V : Nat} {ar : Nat → Nat → Int} {cf : Nat → Option Nat} {pc : Nat → Nat} {RK : Option Nat} {x : Int} (hH : hpc G w X lo C P F ar V cf pc RK) (hG : mgd C P F ar) (hlo : X + 80 ≤ lo) (r_x : -2147483648 ≤ x ∧ x < 2147483648) : ze_C G l 1 0 0 M6_state [.ref X, ze_i x] w (ze_qi (fun r w' => w' = w ∧ r = if 0 ≤ x ∧ x < (F : Int) then ar 17 x.toNat else -1)) := by
  have hF := hG.1.2.2
  obtain ⟨ff, hf1, hf2⟩ := hp_fd hH
  refine ze_enter (by decide +kernel) rfl ?_
  change ze_V G l (ze_rm 1 0 0) M6_state _ 0 [(0, .ref X), (1, ze_i (x))] [] w 0 0
  refine ze_iload_n dX6_state_0 rfl ?_
  refine ze_iconst dX6_state_1 ?_
  refine ze_aload_n dX6_state_2 rfl ?_
  refine ze_getf dX6_state_3 fl_X6_63 (hp_o hH) rfl ?_
  refine ze_iconst dX6_state_6 ?_
  refine ze_isub dX6_state_7 ?_
  refine ze_callS (As := [ze_i (x), ze_i (0), ze_i ((F : Nat) - 1)]) (rest := []) dX6_state_8 (C6_isWithin (v := x) (a := 0) (b := (F : Nat) - 1) (by omega) (by omega) (by omega)) mo6_isWithin ml_X6_66 st_6_isWithin rfl rfl rfl ⟨Nat.le_refl _, Nat.le_refl _⟩ rfl (Nat.le_of_ble_eq_true rfl) ?_
  rintro _ w' ⟨r1, rfl, rfl, rfl⟩
  change ze_V G l (ze_rm 1 0 0) M6_state _ 11 [(0, .ref X), (1, ze_i (x))] [ze_i (bi (0 ≤ x ∧ x ≤ (F : Nat) - 1))] w' 0 0
  refine ze_if_eq 23 dX6_state_11 (by decide) (bi_rng _) (fun q2 => ?_) (fun q2 => ?_)
  · rw [bi_z] at q2
    refine ze_iconst dX6_state_23 ?_
    exact ze_ireturn rfl dX6_state_24 ⟨_, rfl, rfl, by rw [if_neg (by omega)]⟩ rfl rfl
  · rw [bi_n] at q2
    refine ze_aload_n dX6_state_14 rfl ?_
    refine ze_getf dX6_state_15 fl_X6_59 (hp_o hH) rfl ?_
    refine ze_iload_n dX6_state_18 rfl ?_
    refine ze_iald (j := x.toNat) dX6_state_19 hf1 (by omega) (by omega) (by omega) ?_
    rw [hf2 x.toNat (by omega)]
    refine ze_goto 24 dX6_state_20 (by decide) ?_
    exact ze_ireturn rfl dX6_state_24 ⟨_, rfl, rfl, by rw [if_pos (by omega)]⟩ rfl rfl
theorem C6_part {G : ze_G} {l : Launch} {w : ze_W} {X lo C P F V : Nat} {ar : Nat → Nat → Int} {cf : Nat → Option Nat} {pc : Nat → Nat} {RK : Option Nat} {k : Int} (hH : hpc G w X lo C P F ar V cf pc RK) (hG : mgd C P F ar) (hlo : X + 80 ≤ lo) (r_k : -2147483648 ≤ k ∧ k < 2147483648) : ze_C G l 2 0 0 M6_part [.ref X, ze_i k] w (ze_ql (fun r w' => w' = w ∧ ((¬ (0 ≤ k ∧ k ≤ 25) ∧ r = -1) ∨ ((0 ≤ k ∧ k ≤ 25) ∧ r = ((V / 10 ^ (18 * k.toNat) % 10 ^ 18 : Nat) : Int))))) := by
  refine ze_enter (by decide +kernel) rfl ?_
  change ze_V G l (ze_rm 2 0 0) M6_part _ 0 [(0, .ref X), (1, ze_i (k))] [] w 0 0
  refine ze_iload_n dX6_part_0 rfl ?_
  refine ze_iconst dX6_part_1 ?_
  refine ze_bipush dX6_part_2 (by decide) ?_
  refine ze_callS (As := [ze_i (k), ze_i (0), ze_i (25)]) (rest := []) dX6_part_4 (C6_isWithin (v := k) (a := 0) (b := 25) (by omega) (by omega) (by omega)) mo6_isWithin ml_X6_66 st_6_isWithin rfl rfl rfl ⟨Nat.le_refl _, Nat.le_refl _⟩ rfl (Nat.le_of_ble_eq_true rfl) ?_
  rintro _ w' ⟨r1, rfl, rfl, rfl⟩
  change ze_V G l (ze_rm 2 0 0) M6_part _ 7 [(0, .ref X), (1, ze_i (k))] [ze_i (bi (0 ≤ k ∧ k ≤ 25))] w' 0 0
  refine ze_if_eq 21 dX6_part_7 (by decide) (bi_rng _) (fun q2 => ?_) (fun q2 => ?_)
  · rw [bi_z] at q2
    refine ze_ldc2 (z := -1) dX6_part_21 ct_X6_198 (by decide) ?_
    exact ze_lreturn rfl dX6_part_24 ⟨_, rfl, rfl, Or.inl ⟨by omega, rfl⟩⟩ rfl rfl
  · rw [bi_n] at q2
    refine ze_aload_n dX6_part_10 rfl ?_
    refine ze_getf dX6_part_11 fl_X6_31 (hp_o hH) rfl ?_
    refine ze_iload_n dX6_part_14 rfl ?_
    obtain ⟨kn, rfl⟩ := Int.eq_ofNat_of_zero_le (show 0 ≤ k from (by omega))
    change ze_V G l (ze_rm 2 0 0) M6_part _ 15 [(0, .ref X), (1, ze_i ((kn : Nat)))] [ze_i ((kn : Nat)), .ref (X + 4)] w' 0 0
    refine ze_callV (As := [ze_i ((kn : Nat))]) (rest := []) dX6_part_15 (C5_eighteenDigits (k := kn) (hp_wh hH) (by omega)) mo5_eighteenDigits ml_X6_194 in_5_eighteenDigits se_5_eighteenDigits (whz_o (hp_wh hH)).choose_spec rfl rfl rfl rfl rfl ⟨Nat.le_refl _, Nat.le_refl _⟩ rfl (Nat.le_of_ble_eq_true rfl) ?_
    rintro _ w' ⟨r9, rfl, rfl, rfl⟩
    change ze_V G l (ze_rm 2 0 0) M6_part _ 18 [(0, .ref X), (1, ze_i ((kn : Nat)))] [ze_l (((V / 10 ^ (18 * kn) % 10 ^ 18 : Nat) : Int))] w' 0 0
    refine ze_goto 24 dX6_part_18 (by decide) ?_
    exact ze_lreturn rfl dX6_part_24 ⟨_, rfl, rfl, Or.inr ⟨by omega, by rw [Int.toNat_natCast]⟩⟩ rfl rfl
theorem C6_count {G : ze_G} {l : Launch} {w : ze_W} {X lo C P F V : Nat} {ar : Nat → Nat → Int} {cf : Nat → Option Nat} {pc : Nat → Nat} {RK : Option Nat} {x : Int} (hH : hpc G w X lo C P F ar V cf pc RK) (hG : mgd C P F ar) (hlo : X + 80 ≤ lo) (r_x : -2147483648 ≤ x ∧ x < 2147483648) : ze_C G l 1 0 0 M6_count [.ref X, ze_i x] w (ze_qi (fun r w' => w' = w ∧ r = if x = 0 then (C : Int) else if x = 1 then (P : Int) else -1)) := by
  refine ze_enter (by decide +kernel) rfl ?_
  change ze_V G l (ze_rm 1 0 0) M6_count _ 0 [(0, .ref X), (1, ze_i (x))] [] w 0 0
  refine ze_iload_n dX6_count_0 rfl ?_
  by_cases h0 : x = 0
  · refine ze_look (off := 27) 28 dX6_count_1 (by decide) r_x (by rw [h0]; decide) (by decide) ?_
    refine ze_aload_n dX6_count_28 rfl ?_
    refine ze_getf dX6_count_29 fl_X6_15 (hp_o hH) rfl ?_
    exact ze_ireturn rfl dX6_count_32 ⟨_, rfl, rfl, by rw [if_pos h0]⟩ rfl rfl
  · by_cases h1 : x = 1
    · refine ze_look (off := 32) 33 dX6_count_1 (by decide) r_x (by rw [h1]; decide) (by decide) ?_
      refine ze_aload_n dX6_count_33 rfl ?_
      refine ze_getf dX6_count_34 fl_X6_22 (hp_o hH) rfl ?_
      refine ze_callV (As := []) (rest := []) dX6_count_37 (C2_length (hp_row hH)) mo2_length ml_X6_117 in_2_length se_2_length (hp_row hH).2.1 rfl rfl rfl rfl rfl ⟨Nat.le_refl _, Nat.le_refl _⟩ rfl (Nat.le_of_ble_eq_true rfl) ?_
      rintro _ w' ⟨r1, rfl, rfl, rfl⟩
      change ze_V G l (ze_rm 1 0 0) M6_count _ 40 [(0, .ref X), (1, ze_i (x))] [ze_i ((P : Nat))] w' 0 0
      exact ze_ireturn rfl dX6_count_40 ⟨_, rfl, rfl, by rw [if_neg h0, if_pos h1]⟩ rfl rfl
    · refine ze_look (off := 40) 41 dX6_count_1 (by decide) r_x (by show Op.lookupswitch.offset [(0, 27), (1, 32)] 40 x = 40; rw [Op.lookupswitch.offset_cons, if_neg (fun h => h0 h.symm), Op.lookupswitch.offset_cons, if_neg (fun h => h1 h.symm)]; rfl) (by decide) ?_
      refine ze_iconst dX6_count_41 ?_
      exact ze_ireturn rfl dX6_count_42 ⟨_, rfl, rfl, by rw [if_neg h0, if_neg h1]⟩ rfl rfl
