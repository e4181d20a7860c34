/-! Big: shifts, and one place of a long division -/
theorem two_pq {s : Nat} (h : s ≤ 31) : ∃ P Q : Nat, P = 2 ^ s ∧ Q = 2 ^ (32 - s) ∧ P * Q = 4294967296 ∧ 1 ≤ P ∧ 1 < Q ∧ P ≤ 2147483648 := by
  refine ⟨_, _, rfl, rfl, ?_, Nat.pos_of_ne_zero (by simp), ?_, ?_⟩
  · rw [← Nat.pow_add, show s + (32 - s) = 32 by omega]
  · have : 2 ^ 1 ≤ 2 ^ (32 - s) := Nat.pow_le_pow_right (by decide) (by omega)
    omega
  · have : 2 ^ s ≤ 2 ^ 31 := Nat.pow_le_pow_right (by decide) h
    omega
theorem ze_mdn {x y : Nat} (h : y = x % 4294967296) : Int32.ofInt (x : Nat) = Int32.ofInt (y : Nat) := ze_mod (by omega)
theorem bgz_eq {G : ze_G} {w w' : ze_W} {a L : Nat} {z : Int} (h : bgz G w a L z) (he : ∀ x, w'.2 x = w.2 x) : bgz G w' a L z := by
  obtain ⟨f, n, sg, h1, h2⟩ := h
  exact ⟨f, n, sg, ⟨(he a).trans h1.1, (he _).trans h1.2.1, h1.2.2⟩, h2⟩
theorem ze_p2 {s : Nat} : (2 : Int) ^ (((s : Nat) : Int).toNat) = ((2 ^ s : Nat) : Int) := by
  rw [Int.toNat_natCast]
  exact (Int.natCast_pow 2 s).symm
theorem ze_shn {X Y s P : Nat} (h : P = 2 ^ s) : (((X : Nat) : Int) * 4294967296 + (Y : Nat)) * (2 : Int) ^ (((s : Nat) : Int).toNat) % 18446744073709551616 = (((X * 4294967296 + Y) * P % 18446744073709551616 : Nat) : Int) % 18446744073709551616 := by
  have e : ((X : Nat) : Int) * 4294967296 + (Y : Nat) = ((X * 4294967296 + Y : Nat) : Int) := by omega
  rw [ze_p2, ← h, e, ← Int.natCast_mul]
  generalize (X * 4294967296 + Y) * P = c
  omega
theorem ze_shr {c s P : Nat} (h : P = 2 ^ s) : ((c : Nat) : Int) / (2 : Int) ^ (((s : Nat) : Int).toNat) = ((c / P : Nat) : Int) := by
  rw [ze_p2, ← h]
  exact (Int.natCast_ediv _ _).symm
/-- place k of a number lifted by s bits -/
def lf (f : Nat → Nat) (n s k : Nat) : Nat := bt f n k * 2 ^ s % 4294967296 + (if k = 0 then 0 else bt f n (k - 1)) * 2 ^ s / 4294967296
theorem lf_lt0 {X Y P Q : Nat} (h : P * Q = 4294967296) (hP : 1 ≤ P) (hQ : 1 < Q) (hY : Y < 4294967296) : X * P % 4294967296 + Y * P / 4294967296 < 4294967296 := by
  have h1 : X * P % 4294967296 = P * (X % Q) := by rw [← h, Nat.mul_comm X P, Nat.mul_mod_mul_left]
  have h2 : X % Q + 1 ≤ Q := Nat.mod_lt _ (by omega)
  have h3 : P * (X % Q + 1) ≤ P * Q := Nat.mul_le_mul_left _ h2
  have h4 : Y * P / 4294967296 < P := by
    apply Nat.div_lt_of_lt_mul
    exact Nat.mul_lt_mul_of_pos_right hY (by omega)
  rw [Nat.mul_add, Nat.mul_one, h] at h3
  omega
theorem lf_lt {f : Nat → Nat} {n s k : Nat} (hf : ∀ j, f j < 4294967296) (hs : s ≤ 31) : lf f n s k < 4294967296 := by
  obtain ⟨P, Q, e1, -, h, hP, hQ, -⟩ := two_pq hs
  unfold lf
  rw [← e1]
  exact lf_lt0 h hP hQ (by split; (decide); exact bt_lt hf _)
theorem lf_div {X Y P Q : Nat} (h : P * Q = 4294967296) (hP : 1 ≤ P) (hQ : 1 < Q) (hY : Y < 4294967296) : ((X * 4294967296 + Y) * P % 18446744073709551616) / 4294967296 = X * P % 4294967296 + Y * P / 4294967296 := by
  have h1 := lf_lt0 (X := X) h hP hQ hY
  have h2 : (X * 4294967296 + Y) * P = X * P * 4294967296 + Y * P := by rw [Nat.add_mul, Nat.mul_right_comm]
  rw [h2]
  generalize X * P = x at *
  generalize Y * P = y at *
  omega
theorem lf_shr {X Y P Q : Nat} (h : P * Q = 4294967296) (hP : 1 ≤ P) (hQ : 1 < Q) (hY : Y < 4294967296) : (X * 4294967296 + Y) / Q % 4294967296 = X * P % 4294967296 + Y * P / 4294967296 := by
  have h1 := lf_lt0 (X := X) h hP hQ hY
  have e1 : (X * 4294967296 + Y) / Q = X * P + Y / Q := by
    rw [← h, ← Nat.mul_assoc, Nat.add_comm, Nat.add_mul_div_right _ _ (by omega), Nat.add_comm]
  have e2 : Y * P / 4294967296 = Y / Q := by
    rw [← h, Nat.mul_comm Y P, Nat.mul_div_mul_left _ _ (by omega)]
  rw [e1, e2]
  rw [e2] at h1
  generalize X * P = x at *
  generalize Y / Q = y at *
  omega
theorem nv_lf {f : Nat → Nat} {n s : Nat} (hf : ∀ j, f j < 4294967296) (m : Nat) : nv 4294967296 (lf f n s) m + (if m = 0 then 0 else bt f n (m - 1)) * 2 ^ s / 4294967296 * 4294967296 ^ m = nv 4294967296 (bt f n) m * 2 ^ s := by
  induction m with
  | zero => simp [nv]
  | succ m ih =>
    rw [nv_s, nv_s, Nat.add_mul, ← ih]
    have h1 : lf f n s m + bt f n m * 2 ^ s / 4294967296 * 4294967296 = (if m = 0 then 0 else bt f n (m - 1)) * 2 ^ s / 4294967296 + bt f n m * 2 ^ s := by
      unfold lf
      generalize bt f n m * 2 ^ s = x
      generalize (if m = 0 then 0 else bt f n (m - 1)) * 2 ^ s / 4294967296 = y
      omega
    have h2 := congrArg (· * 4294967296 ^ m) h1
    simp only [Nat.add_mul] at h2
    rw [if_neg (by omega), Nat.add_sub_cancel, Nat.pow_succ, Nat.mul_comm (4294967296 ^ m) 4294967296, ← Nat.mul_assoc, Nat.mul_right_comm (bt f n m) (4294967296 ^ m) (2 ^ s)]
    omega
theorem nv_lf1 {f : Nat → Nat} {n s m : Nat} (hf : ∀ j, f j < 4294967296) (hm : n < m) : nv 4294967296 (lf f n s) m = nv 4294967296 f n * 2 ^ s := by
  have h := nv_lf (n := n) (s := s) hf m
  have h0 : bt f n (m - 1) = 0 := by unfold bt; rw [if_neg (by omega)]
  rw [if_neg (by omega), h0, nv_bt (by omega), Nat.zero_mul, Nat.zero_div, Nat.zero_mul] at h
  omega
theorem dn_one {X X' P Q : Nat} (h : P * Q = 4294967296) (hP : 1 ≤ P) (hX : X < 4294967296) : P * ((X' * 4294967296 + X) / P % 4294967296) + X % P = X + X' % P * 4294967296 := by
  have e1 : (X' * 4294967296 + X) / P = X' * Q + X / P := by
    rw [← h, Nat.mul_comm P Q, ← Nat.mul_assoc, Nat.add_comm, Nat.add_mul_div_right _ _ (by omega), Nat.add_comm]
  have e2 : X' * Q % 4294967296 = X' % P * Q := by rw [← h, Nat.mul_mod_mul_right]
  have e3 : X / P < Q := Nat.div_lt_of_lt_mul (by rw [h]; exact hX)
  have e4 : X' % P + 1 ≤ P := Nat.mod_lt _ (by omega)
  have e5 : (X' % P + 1) * Q ≤ P * Q := Nat.mul_le_mul_right _ e4
  rw [Nat.add_mul, Nat.one_mul, h] at e5
  have e6 : (X' * Q + X / P) % 4294967296 = X' % P * Q + X / P := by
    rw [Nat.add_mod, e2, Nat.mod_eq_of_lt (a := X / P) (by omega), Nat.mod_eq_of_lt (by omega)]
  rw [e1, e6, Nat.mul_add, Nat.mul_left_comm, h]
  have := Nat.div_add_mod X P
  omega
theorem nv_dn {f : Nat → Nat} {n P Q : Nat} (h : P * Q = 4294967296) (hP : 1 ≤ P) (hf : ∀ j, f j < 4294967296) (m : Nat) : P * nv 4294967296 (fun k => (bt f n (k + 1) * 4294967296 + bt f n k) / P % 4294967296) m + bt f n 0 % P = nv 4294967296 (bt f n) m + bt f n m % P * 4294967296 ^ m := by
  induction m with
  | zero => simp [nv]
  | succ m ih =>
    have h1 := dn_one (X' := bt f n (m + 1)) h hP (bt_lt (n := n) hf m)
    rw [nv_s, nv_s, Nat.mul_add]
    have h2 := congrArg (· * 4294967296 ^ m) h1
    simp only [Nat.add_mul] at h2
    rw [← Nat.mul_assoc, Nat.pow_succ, Nat.mul_comm (4294967296 ^ m) 4294967296, ← Nat.mul_assoc]
    omega
theorem nv_dn1 {f : Nat → Nat} {n P Q : Nat} (h : P * Q = 4294967296) (hP : 1 ≤ P) (hf : ∀ j, f j < 4294967296) : nv 4294967296 (fun k => (bt f n (k + 1) * 4294967296 + bt f n k) / P % 4294967296) n = nv 4294967296 f n / P := by
  have h1 := nv_dn (n := n) h hP hf n
  have h0 : bt f n n = 0 := by unfold bt; rw [if_neg (by omega)]
  rw [h0, Nat.zero_mod, Nat.zero_mul, Nat.add_zero, nv_bt (Nat.le_refl _)] at h1
  have h2 : bt f n 0 % P < P := Nat.mod_lt _ (by omega)
  rw [← h1, Nat.add_comm, Nat.add_mul_div_left _ _ (by omega), Nat.div_eq_of_lt h2, Nat.zero_add]
theorem C7_lifted {G : ze_G} {l : Launch} {w : ze_W} {a L : Nat} {f : Nat → Nat} {n : Nat} {sg : Int} {k s : Nat} (hb : bg G w a L f n sg) (hk : k < 2147483648) (hs : s ≤ 31) : ze_C G l 1 0 0 M7_lifted [.ref a, ze_i (k : Nat), ze_i (s : Nat)] w (ze_ql (fun r w' => r = (lf f n s k : Nat) ∧ w' = w)) := by
  obtain ⟨h0a, h0b, hn, hL, hf⟩ := id hb
  obtain ⟨P, Q, eP, eQ, hPQ, hP, hQ, -⟩ := two_pq hs
  refine ze_enter (by decide +kernel) rfl ?_
  obtain ⟨X, hX⟩ : ∃ X, X = bt f n k := ⟨_, rfl⟩
  have hXb : X < 4294967296 := by rw [hX]; exact bt_lt hf _
  obtain ⟨Y, hY⟩ : ∃ Y, Y = (if k = 0 then 0 else bt f n (k - 1)) := ⟨_, rfl⟩
  have hYb : Y < 4294967296 := by rw [hY]; split; (decide); exact bt_lt hf _
  have fin : lf f n s k = X * P % 4294967296 + Y * P / 4294967296 := by unfold lf; rw [← hX, ← hY, ← eP]
  generalize hQ2 : (ze_Q G (ze_ql (fun r w' => r = (lf f n s k : Nat) ∧ w' = w)) 0 0) = Z
  have t23 : ze_V G l (ze_rm 1 0 0) M7_lifted Z 23 [(0, .ref a), (1, ze_i ((k : Nat))), (2, ze_i ((s : Nat)))] [ze_l ((Y : Nat)), ze_l ((X : Nat) * 4294967296)] w 0 0 := by
    rw [← hQ2]
    refine ze_lor (z := (X : Nat) * 4294967296 + (Y : Nat)) dX7_lifted_23 (ze_o32 (by omega) (by omega)) ?_
    refine ze_lstore_n (lv' := [(0, .ref a), (1, ze_i ((k : Nat))), (2, ze_i ((s : Nat))), (3, ze_l ((X : Nat) * 4294967296 + (Y : Nat)))]) dX7_lifted_24 rfl rfl ?_
    refine ze_lload_n dX7_lifted_25 rfl ?_
    refine ze_iload_n dX7_lifted_26 rfl ?_
    refine ze_lshl (z := ((((X * 4294967296 + Y) * P % 18446744073709551616 : Nat)))) dX7_lifted_27 (ze_zshl (by omega) (ze_shn eP)) ?_
    refine ze_bipush dX7_lifted_28 (by decide) ?_
    refine ze_lushr (z := ((lf f n s k : Nat))) dX7_lifted_30 (ze_u32 (by omega) (by rw [fin, ← lf_div hPQ hP hQ hYb]; rfl)) ?_
    exact ze_lreturn rfl dX7_lifted_31 ⟨_, rfl, rfl, rfl⟩ rfl rfl
  change ze_V G l (ze_rm 1 0 0) M7_lifted Z 0 [(0, .ref a), (1, ze_i ((k : Nat))), (2, ze_i ((s : Nat)))] [] w 0 0
  refine ze_aload_n dX7_lifted_0 rfl ?_
  refine ze_iload_n dX7_lifted_1 rfl ?_
  refine ze_callV (As := [ze_i ((k : Nat))]) (rest := []) dX7_lifted_2 (C7_at hb hk) mo7_at ml_X7_50 in_7_at se_7_at h0a rfl rfl rfl rfl rfl ⟨Nat.le_refl _, Nat.le_refl _⟩ rfl (Nat.le_of_ble_eq_true rfl) ?_
  rintro _ w' ⟨r', rfl, rfl, rfl⟩
  rw [← hX]
  change ze_V G l (ze_rm 1 0 0) M7_lifted _ 5 [(0, .ref a), (1, ze_i ((k : Nat))), (2, ze_i ((s : Nat)))] [ze_l ((X : Nat))] w' 0 0
  refine ze_bipush dX7_lifted_5 (by decide) ?_
  refine ze_lshl (z := (X : Nat) * 4294967296) dX7_lifted_7 ze_s32 ?_
  refine ze_iload_n dX7_lifted_8 rfl ?_
  refine ze_if_le 22 dX7_lifted_9 (by decide) (by omega) (fun q1 => ?_) (fun q1 => ?_)
  · refine ze_lconst (z := 0) dX7_lifted_22 (by decide) ?_
    refine ze_tl (b := (Y : Nat)) (by rw [hY, if_pos (by omega)]; rfl) ?_
    exact t23
  · refine ze_aload_n dX7_lifted_12 rfl ?_
    refine ze_iload_n dX7_lifted_13 rfl ?_
    refine ze_iconst dX7_lifted_14 ?_
    refine ze_isub dX7_lifted_15 ?_
    refine ze_ti (b := ((k - 1 : Nat))) (by omega) ?_
    refine ze_callV (As := [ze_i (((k - 1 : Nat)))]) (rest := [ze_l ((X : Nat) * 4294967296)]) dX7_lifted_16 (C7_at (k := k - 1) hb (by omega)) mo7_at ml_X7_50 in_7_at se_7_at h0a rfl rfl rfl rfl rfl ⟨Nat.le_refl _, Nat.le_refl _⟩ rfl (Nat.le_of_ble_eq_true rfl) ?_
    rintro _ w' ⟨r', rfl, rfl, rfl⟩
    rw [if_neg (by omega)] at hY
    rw [← hY]
    change ze_V G l (ze_rm 1 0 0) M7_lifted _ 19 [(0, .ref a), (1, ze_i ((k : Nat))), (2, ze_i ((s : Nat)))] [ze_l ((Y : Nat)), ze_l ((X : Nat) * 4294967296)] w' 0 0
    refine ze_goto 23 dX7_lifted_19 (by decide) ?_
    exact t23
theorem C7_up {G : ze_G} {l : Launch} {w : ze_W} {a L : Nat} {f : Nat → Nat} {n s : Nat} (hb : bg G w a L f n 1) (hz : bnz f n) (hn0 : 0 < n) (hL : n + 1 ≤ L) (hs : s ≤ 31) : ze_C G l 1 0 0 M7_up [.ref a, ze_i (s : Nat)] w (ze_qv (fun w' => ∃ (r : Nat → Nat) (n' : Nat), n' ≤ n + 1 ∧ bfr w w' a ∧ bg G w' a L r n' 1 ∧ nv 4294967296 r n' = nv 4294967296 f n * 2 ^ s)) := by
  obtain ⟨h0a, h0b, hn, hL2, hf⟩ := id hb
  obtain ⟨P, Q, eP, eQ, hPQ, hP, hQ, -⟩ := two_pq hs
  refine ze_enter (by decide +kernel) rfl ?_
  generalize hQ2 : (ze_Q G (ze_qv (fun w' => ∃ (r : Nat → Nat) (n' : Nat), n' ≤ n + 1 ∧ bfr w w' a ∧ bg G w' a L r n' 1 ∧ nv 4294967296 r n' = nv 4294967296 f n * 2 ^ s)) 0 0) = Z
  have loop : ∀ (k : Nat) (r : Nat → Nat) (w1 : ze_W), k ≤ n + 1 → 0 < s → bfr w w1 a → w1.2 a = some (ze_ob 7 [.ref (a + 1), ze_i (n : Nat), ze_i 1]) → w1.2 (a + 1) = some (ze_ia G L (fun j => (r j : Nat))) → (∀ j, r j < 4294967296) → (∀ j, j < k → bt r n j = bt f n j) → (∀ j, k ≤ j → j ≤ n → r j = lf f n s j) → ze_V G l (ze_rm 1 0 0) M7_up Z 38 [(0, .ref a), (1, ze_i ((s : Nat))), (2, ze_i (0)), (3, ze_i ((s : Nat))), (4, ze_i ((k : Nat) - 1))] [] w1 0 0 := by
    intro k
    induction k with
    | zero =>
      intro r w1 hk hs0 fr ga1 gb1 rf he hd
      rw [← hQ2]
      refine ze_iload dX7_up_38 rfl ?_
      refine ze_if_lt 108 dX7_up_40 (by decide) (by omega) (fun q => ?_) (fun q => ?_)
      · refine ze_iconst dX7_up_108 ?_
        refine ze_istore (lv' := [(0, .ref a), (1, ze_i ((s : Nat))), (2, ze_i (0)), (3, ze_i ((s : Nat))), (4, ze_i (0))]) dX7_up_109 rfl rfl ?_
        refine ze_iload dX7_up_111 rfl ?_
        refine ze_iload_n dX7_up_113 rfl ?_
        refine ze_icmp_ge 131 dX7_up_114 (by decide) (by omega) (by omega) (fun q => ?_) (fun q => ?_)
        · refine ze_aload_n dX7_up_131 rfl ?_
          refine ze_dup dX7_up_132 rfl ?_
          refine ze_getf dX7_up_133 fl_X7_13 ga1 rfl ?_
          refine ze_iload_n dX7_up_136 rfl ?_
          refine ze_iconst dX7_up_137 ?_
          refine ze_iadd dX7_up_138 ?_
          refine ze_iadd dX7_up_139 ?_
          refine ze_ti (b := ((n + 1 : Nat))) (by omega) ?_
          refine ze_putfW (fs' := [.ref (a + 1), ze_i (((n + 1 : Nat))), ze_i (1)]) dX7_up_140 fl_X7_13 (Or.inl rfl) ga1 rfl rfl (Nat.le_of_ble_eq_true rfl) rfl (fun w1 z1 c1 o1 => ?_)
          have h1_1 := (o1 (a + 1) (by omega)).trans gb1
          refine ze_aload_n dX7_up_143 rfl ?_
          refine ze_callV (As := []) (rest := []) dX7_up_144 (C7_trim (f := r) (n := n + 1) (L := L) (sg := 1) ⟨c1, h1_1, by omega, hL2, rf⟩) mo7_trim ml_X7_26 in_7_trim se_7_trim c1 rfl rfl rfl rfl rfl ⟨Nat.le_refl _, Nat.le_refl _⟩ rfl (Nat.le_of_ble_eq_true rfl) ?_
          rintro _ w' ⟨rfl, n', hn', hnz, hz, fr2, hb2⟩
          change ze_V G l (ze_rm 1 0 0) M7_up _ 147 [(0, .ref a), (1, ze_i ((s : Nat))), (2, ze_i (0)), (3, ze_i ((s : Nat))), (4, ze_i (0))] [] w' 0 0
          have e1 : nv 4294967296 r (n + 1) = nv 4294967296 f n * 2 ^ s := by
            rw [nv_congr (g := lf f n s) (fun j hj => hd j (by omega) (by omega))]
            exact nv_lf1 hf (by omega)
          obtain ⟨d, hd⟩ := Nat.exists_eq_add_of_le hn'
          have e3 : nv 4294967296 r n' = nv 4294967296 f n * 2 ^ s := by
            rw [← e1, hd]
            exact (nv_ext d (fun j h1 h2 => hz j h1 (by omega))).symm
          have hp : 0 < nv 4294967296 f n * 2 ^ s := Nat.mul_pos (bnz_pos (by assumption) hn0) (by rw [← eP]; omega)
          have hn1 : n' ≠ 0 := by
            intro h
            rw [h] at e3
            have : nv 4294967296 r 0 = 0 := rfl
            omega
          rw [if_neg hn1] at hb2
          exact ze_return rfl dX7_up_147 ⟨rfl, r, n', hn', ⟨fr2.1.trans (z1.trans fr.1), fun x p q => (fr2.2 x p q).trans ((o1 x p).trans (fr.2 x p q))⟩, hb2, e3⟩ rfl rfl
        · omega
      · omega
    | succ k ih =>
      intro r w1 hk hs0 fr ga1 gb1 rf he hd
      have hb1 : bg G w1 a L r n 1 := ⟨ga1, gb1, hn, hL2, rf⟩
      obtain ⟨X, hX⟩ : ∃ X, X = bt f n k := ⟨_, rfl⟩
      have hXb : X < 4294967296 := by rw [hX]; exact bt_lt hf _
      have hX2 : bt r n k = X := by rw [he k (by omega), hX]
      obtain ⟨Y, hY⟩ : ∃ Y, Y = (if k = 0 then 0 else bt f n (k - 1)) := ⟨_, rfl⟩
      have hYb : Y < 4294967296 := by rw [hY]; split; (decide); exact bt_lt hf _
      have fin : lf f n s k = (X * 4294967296 + Y) / Q % 4294967296 := by rw [lf_shr hPQ hP hQ hYb]; unfold lf; rw [← hX, ← hY, ← eP]
      have hlt := lf_lt (n := n) (k := k) hf hs
      have t82 : ze_V G l (ze_rm 1 0 0) M7_up Z 82 [(0, .ref a), (1, ze_i ((s : Nat))), (2, ze_i (0)), (3, ze_i ((s : Nat))), (4, ze_i (((k : Nat))))] [ze_l ((Y : Nat)), ze_l ((X : Nat) * 4294967296)] w1 0 0 := by
        refine ze_lor (z := (X : Nat) * 4294967296 + (Y : Nat)) dX7_up_82 (ze_o32 (by omega) (by omega)) ?_
        refine ze_tl (b := ((X * 4294967296 + Y : Nat))) (by omega) ?_
        refine ze_lstore (lv' := [(0, .ref a), (1, ze_i ((s : Nat))), (2, ze_i (0)), (3, ze_i ((s : Nat))), (4, ze_i (((k : Nat)))), (5, ze_l (((X * 4294967296 + Y : Nat))))]) dX7_up_83 rfl rfl ?_
        refine ze_aload_n dX7_up_85 rfl ?_
        refine ze_getf dX7_up_86 fl_X7_7 ga1 rfl ?_
        refine ze_iload dX7_up_89 rfl ?_
        refine ze_iload_n dX7_up_91 rfl ?_
        refine ze_iadd dX7_up_92 ?_
        refine ze_lload dX7_up_93 rfl ?_
        refine ze_bipush dX7_up_95 (by decide) ?_
        refine ze_iload_n dX7_up_97 rfl ?_
        refine ze_isub dX7_up_98 ?_
        refine ze_ti (b := ((32 - s : Nat))) (by omega) ?_
        refine ze_lushr (z := ((((X * 4294967296 + Y) / Q : Nat)))) dX7_up_99 (ze_zushr (by omega) (by omega) (ze_shr eQ)) ?_
        refine ze_l2i dX7_up_100 ?_
        refine ze_iastM (j := k) (y := ((lf f n s k : Nat))) (f' := fun j => ((va_up r k (lf f n s k) j : Nat) : Int)) dX7_up_101 gb1 (by omega) (by omega) (by omega) (ze_mdn fin) (ze_vu _ _ _) (fun w1 z1 c1 o1 => ?_)
        have h1_0 := (o1 a (by omega)).trans ga1
        refine ze_iinc (b := (k : Nat) - 1) (lv' := [(0, .ref a), (1, ze_i ((s : Nat))), (2, ze_i (0)), (3, ze_i ((s : Nat))), (4, ze_i ((k : Nat) - 1)), (5, ze_l (((X * 4294967296 + Y : Nat))))]) dX7_up_102 rfl rfl (by omega) rfl ?_
        refine ze_goto 38 dX7_up_105 (by decide) ?_
        refine ze_lv (lv' := [(0, .ref a), (1, ze_i ((s : Nat))), (2, ze_i (0)), (3, ze_i ((s : Nat))), (4, ze_i ((k : Nat) - 1))]) [0, 1, 2, 3, 4] rfl ?_
        exact ih (va_up r k (lf f n s k)) _ (by omega) hs0 ⟨z1.trans fr.1, fun x p q => (o1 x q).trans (fr.2 x p q)⟩ h1_0 c1 (up_lt rf hlt) (fun j hj => by
          have := he j (by omega)
          unfold bt at *
          rw [va_up_ne _ _ (by omega)]
          exact this) (fun j h1 h2 => by
          by_cases h : j = k
          · rw [h, va_up_self]
          · rw [va_up_ne _ _ h]; exact hd j (by omega) h2)
      have t62 : ze_V G l (ze_rm 1 0 0) M7_up Z 62 [(0, .ref a), (1, ze_i ((s : Nat))), (2, ze_i (0)), (3, ze_i ((s : Nat))), (4, ze_i (((k : Nat))))] [ze_l ((X : Nat))] w1 0 0 := by
        refine ze_bipush dX7_up_62 (by decide) ?_
        refine ze_lshl (z := (X : Nat) * 4294967296) dX7_up_64 ze_s32 ?_
        refine ze_iload dX7_up_65 rfl ?_
        refine ze_if_le 81 dX7_up_67 (by decide) (by omega) (fun q1 => ?_) (fun q1 => ?_)
        · refine ze_lconst (z := 0) dX7_up_81 (by decide) ?_
          refine ze_tl (b := (Y : Nat)) (by rw [hY, if_pos (by omega)]; rfl) ?_
          exact t82
        · refine ze_aload_n dX7_up_70 rfl ?_
          refine ze_iload dX7_up_71 rfl ?_
          refine ze_iconst dX7_up_73 ?_
          refine ze_isub dX7_up_74 ?_
          refine ze_ti (b := ((k - 1 : Nat))) (by omega) ?_
          refine ze_callV (As := [ze_i (((k - 1 : Nat)))]) (rest := [ze_l ((X : Nat) * 4294967296)]) dX7_up_75 (C7_at (k := k - 1) hb1 (by omega)) mo7_at ml_X7_50 in_7_at se_7_at ga1 rfl rfl rfl rfl rfl ⟨Nat.le_refl _, Nat.le_refl _⟩ rfl (Nat.le_of_ble_eq_true rfl) ?_
          rintro _ w' ⟨r', rfl, rfl, rfl⟩
          rw [if_neg (by omega)] at hY
          rw [he (k - 1) (by omega), ← hY]
          change ze_V G l (ze_rm 1 0 0) M7_up _ 78 [(0, .ref a), (1, ze_i ((s : Nat))), (2, ze_i (0)), (3, ze_i ((s : Nat))), (4, ze_i (((k : Nat))))] [ze_l ((Y : Nat)), ze_l ((X : Nat) * 4294967296)] w' 0 0
          refine ze_goto 82 dX7_up_78 (by decide) ?_
          exact t82
      rw [show ((k + 1 : Nat) : Int) - 1 = (k : Nat) by omega]
      change ze_V G l (ze_rm 1 0 0) M7_up Z 38 [(0, .ref a), (1, ze_i ((s : Nat))), (2, ze_i (0)), (3, ze_i ((s : Nat))), (4, ze_i (((k : Nat))))] [] w1 0 0
      refine ze_iload dX7_up_38 rfl ?_
      refine ze_if_lt 108 dX7_up_40 (by decide) (by omega) (fun q => ?_) (fun q => ?_)
      · omega
      · refine ze_iload dX7_up_43 rfl ?_
        refine ze_aload_n dX7_up_45 rfl ?_
        refine ze_getf dX7_up_46 fl_X7_13 ga1 rfl ?_
        refine ze_icmp_ge 61 dX7_up_49 (by decide) (by omega) (by omega) (fun q1 => ?_) (fun q1 => ?_)
        · refine ze_lconst (z := 0) dX7_up_61 (by decide) ?_
          refine ze_tl (b := (X : Nat)) (by rw [hX]; unfold bt; rw [if_neg (by omega)]; rfl) ?_
          exact t62
        · refine ze_aload_n dX7_up_52 rfl ?_
          refine ze_iload dX7_up_53 rfl ?_
          refine ze_callV (As := [ze_i (((k : Nat)))]) (rest := []) dX7_up_55 (C7_at (k := k) hb1 (by omega)) mo7_at ml_X7_50 in_7_at se_7_at ga1 rfl rfl rfl rfl rfl ⟨Nat.le_refl _, Nat.le_refl _⟩ rfl (Nat.le_of_ble_eq_true rfl) ?_
          rintro _ w' ⟨r', rfl, rfl, rfl⟩
          rw [hX2]
          change ze_V G l (ze_rm 1 0 0) M7_up _ 58 [(0, .ref a), (1, ze_i ((s : Nat))), (2, ze_i (0)), (3, ze_i ((s : Nat))), (4, ze_i (((k : Nat))))] [ze_l ((X : Nat))] w' 0 0
          refine ze_goto 62 dX7_up_58 (by decide) ?_
          exact t62
  change ze_V G l (ze_rm 1 0 0) M7_up Z 0 [(0, .ref a), (1, ze_i ((s : Nat)))] [] w 0 0
  refine ze_aload_n dX7_up_0 rfl ?_
  refine ze_getf dX7_up_1 fl_X7_17 h0a rfl ?_
  refine ze_if_eq 11 dX7_up_4 (by decide) (by omega) (fun q => ?_) (fun q => ?_)
  · omega
  · refine ze_iload_n dX7_up_7 rfl ?_
    refine ze_if_ne 12 dX7_up_8 (by decide) (by omega) (fun q1 => ?_) (fun q1 => ?_)
    · refine ze_iload_n dX7_up_12 rfl ?_
      refine ze_bipush dX7_up_13 (by decide) ?_
      refine ze_idiv dX7_up_15 (by omega) (by omega) ?_
      refine ze_ti (b := 0) (by omega) ?_
      refine ze_istore_n (lv' := [(0, .ref a), (1, ze_i ((s : Nat))), (2, ze_i (0))]) dX7_up_16 rfl rfl ?_
      refine ze_iload_n dX7_up_17 rfl ?_
      refine ze_bipush dX7_up_18 (by decide) ?_
      refine ze_irem dX7_up_20 (by omega) (by omega) ?_
      refine ze_ti (b := (s : Nat)) (by omega) ?_
      refine ze_istore_n (lv' := [(0, .ref a), (1, ze_i ((s : Nat))), (2, ze_i (0)), (3, ze_i ((s : Nat)))]) dX7_up_21 rfl rfl ?_
      refine ze_aload_n dX7_up_22 rfl ?_
      refine ze_getf dX7_up_23 fl_X7_7 h0a rfl ?_
      refine ze_aload_n dX7_up_26 rfl ?_
      refine ze_getf dX7_up_27 fl_X7_13 h0a rfl ?_
      refine ze_iconst dX7_up_30 ?_
      refine ze_iastM (j := n) (y := ((0 : Nat) : Nat)) (f' := fun j => ((va_up f n 0 j : Nat) : Int)) dX7_up_31 h0b (by omega) (by omega) (by omega) rfl (ze_vu _ _ _) (fun w1 z1 c1 o1 => ?_)
      have h1_0 := (o1 a (by omega)).trans h0a
      refine ze_aload_n dX7_up_32 rfl ?_
      refine ze_getf dX7_up_33 fl_X7_13 h1_0 rfl ?_
      refine ze_ti (b := ((n + 1 : Nat)) - 1) (by omega) ?_
      refine ze_istore (lv' := [(0, .ref a), (1, ze_i ((s : Nat))), (2, ze_i (0)), (3, ze_i ((s : Nat))), (4, ze_i (((n + 1 : Nat)) - 1))]) dX7_up_36 rfl rfl ?_
      exact loop (n + 1) (va_up f n 0) _ (Nat.le_refl _) (by omega) ⟨z1, fun x p q => o1 x q⟩ h1_0 c1 (up_lt hf (by decide)) (fun j hj => by
        unfold bt
        split
        · rw [va_up_ne _ _ (by omega)]
        · rfl) (fun j h1 h2 => by omega)
    · rw [← hQ2]
      have hs0 : s = 0 := by omega
      exact ze_return rfl dX7_up_11 ⟨rfl, f, n, by omega, bfr.rf _ _, hb, by rw [hs0, Nat.pow_zero, Nat.mul_one]⟩ rfl rfl
theorem C7_down {G : ze_G} {l : Launch} {w : ze_W} {a L : Nat} {f : Nat → Nat} {n : Nat} {sg : Int} {s : Nat} (hb : bg G w a L f n sg) (hg : sgn n sg) (hs : s ≤ 31) : ze_C G l 1 0 0 M7_down [.ref a, ze_i (s : Nat)] w (ze_qv (fun w' => bfr w w' a ∧ bgz G w' a L (sg * (nv 4294967296 f n / 2 ^ s : Nat)))) := by
  obtain ⟨h0a, h0b, hn, hL2, hf⟩ := id hb
  obtain ⟨P, Q, eP, eQ, hPQ, hP, hQ, -⟩ := two_pq hs
  refine ze_enter (by decide +kernel) rfl ?_
  generalize hQ2 : (ze_Q G (ze_qv (fun w' => bfr w w' a ∧ bgz G w' a L (sg * (nv 4294967296 f n / 2 ^ s : Nat)))) 0 0) = Z
  have loop : ∀ (d k : Nat) (r : Nat → Nat) (w1 : ze_W), k + d = n → bfr w w1 a → w1.2 a = some (ze_ob 7 [.ref (a + 1), ze_i (n : Nat), ze_i sg]) → w1.2 (a + 1) = some (ze_ia G L (fun j => (r j : Nat))) → (∀ j, r j < 4294967296) → (∀ j, k ≤ j → bt r n j = bt f n j) → (∀ j, j < k → r j = (bt f n (j + 1) * 4294967296 + bt f n j) / P % 4294967296) → ze_V G l (ze_rm 1 0 0) M7_down Z 19 [(0, .ref a), (1, ze_i ((s : Nat))), (2, ze_i (0)), (3, ze_i ((s : Nat))), (4, ze_i (sg)), (5, ze_i ((k : Nat)))] [] w1 0 0 := by
    intro d
    induction d with
    | zero =>
      intro k r w1 hk fr ga1 gb1 rf he hd
      rw [← hQ2]
      refine ze_iload dX7_down_19 rfl ?_
      refine ze_iload_n dX7_down_21 rfl ?_
      refine ze_iadd dX7_down_22 ?_
      refine ze_aload_n dX7_down_23 rfl ?_
      refine ze_getf dX7_down_24 fl_X7_13 ga1 rfl ?_
      refine ze_icmp_ge 68 dX7_down_27 (by decide) (by omega) (by omega) (fun q => ?_) (fun q => ?_)
      · refine ze_aload_n dX7_down_68 rfl ?_
        refine ze_iconst dX7_down_69 ?_
        refine ze_aload_n dX7_down_70 rfl ?_
        refine ze_getf dX7_down_71 fl_X7_13 ga1 rfl ?_
        refine ze_iload_n dX7_down_74 rfl ?_
        refine ze_isub dX7_down_75 ?_
        refine ze_mmax dX7_down_76 ml_X7_45 st_Lib_Math_max_name n_J9 cd_Lib_Math_max_name rfl rfl ⟨Nat.le_refl _, Nat.le_refl _⟩ (by omega) (by omega) ?_
        refine ze_ti (b := ((n : Nat))) (by omega) ?_
        refine ze_putfW (fs' := [.ref (a + 1), ze_i (((n : Nat))), ze_i (sg)]) dX7_down_79 fl_X7_13 (Or.inl rfl) ga1 rfl rfl (Nat.le_of_ble_eq_true rfl) rfl (fun w1 z1 c1 o1 => ?_)
        have h1_1 := (o1 (a + 1) (by omega)).trans gb1
        refine ze_aload_n dX7_down_82 rfl ?_
        refine ze_callV (As := []) (rest := []) dX7_down_83 (C7_trim (f := r) (n := n) (L := L) (sg := sg) ⟨c1, h1_1, by omega, hL2, rf⟩) mo7_trim ml_X7_26 in_7_trim se_7_trim c1 rfl rfl rfl rfl rfl ⟨Nat.le_refl _, Nat.le_refl _⟩ rfl (Nat.le_of_ble_eq_true rfl) ?_
        rintro _ w' ⟨rfl, n', hn', hnz, hz, fr2, hb2⟩
        obtain ⟨ga2, gb2, -, -, -⟩ := id hb2
        change ze_V G l (ze_rm 1 0 0) M7_down _ 86 [(0, .ref a), (1, ze_i ((s : Nat))), (2, ze_i (0)), (3, ze_i ((s : Nat))), (4, ze_i (sg)), (5, ze_i ((k : Nat)))] [] w' 0 0
        refine ze_aload_n dX7_down_86 rfl ?_
        refine ze_aload_n dX7_down_87 rfl ?_
        refine ze_getf dX7_down_88 fl_X7_13 ga2 rfl ?_
        have e1 : nv 4294967296 f n / 2 ^ s = nv 4294967296 r n := by
          rw [← eP, ← nv_dn1 hPQ hP hf]
          exact nv_congr (fun j hj => (hd j (by omega)).symm)
        have fin : bgz G w' a L (sg * (nv 4294967296 r n : Nat)) := by
          refine bgz_tr ?_ hn' hnz hz hb2
          rcases hg with ⟨g1, g2⟩ | ⟨g1, g2⟩
          · right; exact ⟨g2, by rw [g1]; rfl⟩
          · left; exact g2
        have fr3 : bfr w w' a := ⟨fr2.1.trans (z1.trans fr.1), fun x p q => (fr2.2 x p q).trans ((o1 x p).trans (fr.2 x p q))⟩
        refine ze_if_ne 98 dX7_down_91 (by decide) (by omega) (fun q1 => ?_) (fun q1 => ?_)
        · refine ze_iload dX7_down_98 rfl ?_
          refine ze_putfW (fs' := [.ref (a + 1), ze_i ((n' : Nat)), ze_i (sg)]) dX7_down_100 fl_X7_17 (Or.inl rfl) ga2 rfl rfl (Nat.le_of_ble_eq_true rfl) rfl (fun w2 z2 c2 o2 => ?_)
          have h2_1 := (o2 (a + 1) (by omega)).trans gb2
          refine ze_return rfl dX7_down_103 ⟨rfl, ⟨z2.trans fr3.1, fun x p q => (o2 x p).trans (fr3.2 x p q)⟩, ?_⟩ rfl rfl
          rw [e1]
          exact bgz_eq fin (fun x => by by_cases p : x = a; (rw [p, c2, ga2, if_neg (by omega)]); exact o2 x p)
        · refine ze_iconst dX7_down_94 ?_
          refine ze_goto 100 dX7_down_95 (by decide) ?_
          refine ze_putfW (fs' := [.ref (a + 1), ze_i ((n' : Nat)), ze_i (0)]) dX7_down_100 fl_X7_17 (Or.inl rfl) ga2 rfl rfl (Nat.le_of_ble_eq_true rfl) rfl (fun w2 z2 c2 o2 => ?_)
          have h2_1 := (o2 (a + 1) (by omega)).trans gb2
          refine ze_return rfl dX7_down_103 ⟨rfl, ⟨z2.trans fr3.1, fun x p q => (o2 x p).trans (fr3.2 x p q)⟩, ?_⟩ rfl rfl
          rw [e1]
          exact bgz_eq fin (fun x => by by_cases p : x = a; (rw [p, c2, ga2, if_pos (by omega)]); exact o2 x p)
      · omega
    | succ d ih =>
      intro k r w1 hk fr ga1 gb1 rf he hd
      have hb1 : bg G w1 a L r n sg := ⟨ga1, gb1, hn, hL2, rf⟩
      obtain ⟨X, hX⟩ : ∃ X, X = bt f n k := ⟨_, rfl⟩
      have hXb : X < 4294967296 := by rw [hX]; exact bt_lt hf _
      obtain ⟨Y, hY⟩ : ∃ Y, Y = bt f n (k + 1) := ⟨_, rfl⟩
      have hYb : Y < 4294967296 := by rw [hY]; exact bt_lt hf _
      have hlt : (Y * 4294967296 + X) / P % 4294967296 < 4294967296 := Nat.mod_lt _ (by decide)
      refine ze_iload dX7_down_19 rfl ?_
      refine ze_iload_n dX7_down_21 rfl ?_
      refine ze_iadd dX7_down_22 ?_
      refine ze_aload_n dX7_down_23 rfl ?_
      refine ze_getf dX7_down_24 fl_X7_13 ga1 rfl ?_
      refine ze_icmp_ge 68 dX7_down_27 (by decide) (by omega) (by omega) (fun q => ?_) (fun q => ?_)
      · omega
      · refine ze_aload_n dX7_down_30 rfl ?_
        refine ze_getf dX7_down_31 fl_X7_7 ga1 rfl ?_
        refine ze_iload dX7_down_34 rfl ?_
        refine ze_aload_n dX7_down_36 rfl ?_
        refine ze_iload dX7_down_37 rfl ?_
        refine ze_iload_n dX7_down_39 rfl ?_
        refine ze_iadd dX7_down_40 ?_
        refine ze_iconst dX7_down_41 ?_
        refine ze_iadd dX7_down_42 ?_
        refine ze_ti (b := ((k + 1 : Nat))) (by omega) ?_
        refine ze_callV (As := [ze_i (((k + 1 : Nat)))]) (rest := [ze_i ((k : Nat)), .ref (a + 1)]) dX7_down_43 (C7_at (k := k + 1) hb1 (by omega)) mo7_at ml_X7_50 in_7_at se_7_at ga1 rfl rfl rfl rfl rfl ⟨Nat.le_refl _, Nat.le_refl _⟩ rfl (Nat.le_of_ble_eq_true rfl) ?_
        rintro _ w' ⟨r', rfl, rfl, rfl⟩
        rw [he (k + 1) (by omega), ← hY]
        change ze_V G l (ze_rm 1 0 0) M7_down _ 46 [(0, .ref a), (1, ze_i ((s : Nat))), (2, ze_i (0)), (3, ze_i ((s : Nat))), (4, ze_i (sg)), (5, ze_i ((k : Nat)))] [ze_l ((Y : Nat)), ze_i ((k : Nat)), .ref (a + 1)] w' 0 0
        refine ze_bipush dX7_down_46 (by decide) ?_
        refine ze_lshl (z := (Y : Nat) * 4294967296) dX7_down_48 ze_s32 ?_
        refine ze_aload_n dX7_down_49 rfl ?_
        refine ze_iload dX7_down_50 rfl ?_
        refine ze_iload_n dX7_down_52 rfl ?_
        refine ze_iadd dX7_down_53 ?_
        refine ze_ti (b := ((k : Nat))) (by omega) ?_
        refine ze_callV (As := [ze_i (((k : Nat)))]) (rest := [ze_l ((Y : Nat) * 4294967296), ze_i ((k : Nat)), .ref (a + 1)]) dX7_down_54 (C7_at (k := k) hb1 (by omega)) mo7_at ml_X7_50 in_7_at se_7_at ga1 rfl rfl rfl rfl rfl ⟨Nat.le_refl _, Nat.le_refl _⟩ rfl (Nat.le_of_ble_eq_true rfl) ?_
        rintro _ w' ⟨r', rfl, rfl, rfl⟩
        rw [he k (by omega), ← hX]
        change ze_V G l (ze_rm 1 0 0) M7_down _ 57 [(0, .ref a), (1, ze_i ((s : Nat))), (2, ze_i (0)), (3, ze_i ((s : Nat))), (4, ze_i (sg)), (5, ze_i ((k : Nat)))] [ze_l ((X : Nat)), ze_l ((Y : Nat) * 4294967296), ze_i ((k : Nat)), .ref (a + 1)] w' 0 0
        refine ze_lor (z := (Y : Nat) * 4294967296 + (X : Nat)) dX7_down_57 (ze_o32 (by omega) (by omega)) ?_
        refine ze_tl (b := ((Y * 4294967296 + X : Nat))) (by omega) ?_
        refine ze_iload_n dX7_down_58 rfl ?_
        refine ze_lushr (z := ((((Y * 4294967296 + X) / P : Nat)))) dX7_down_59 (ze_zushr (by omega) (by omega) (ze_shr eP)) ?_
        refine ze_l2i dX7_down_60 ?_
        refine ze_iastM (j := k) (y := (((Y * 4294967296 + X) / P % 4294967296 : Nat))) (f' := fun j => ((va_up r k ((Y * 4294967296 + X) / P % 4294967296) j : Nat) : Int)) dX7_down_61 gb1 (by omega) (by omega) (by omega) (ze_mdn rfl) (ze_vu _ _ _) (fun w1 z1 c1 o1 => ?_)
        have h1_0 := (o1 a (by omega)).trans ga1
        refine ze_iinc (b := ((k + 1 : Nat))) (lv' := [(0, .ref a), (1, ze_i ((s : Nat))), (2, ze_i (0)), (3, ze_i ((s : Nat))), (4, ze_i (sg)), (5, ze_i (((k + 1 : Nat))))]) dX7_down_62 rfl rfl (by omega) rfl ?_
        refine ze_goto 19 dX7_down_65 (by decide) ?_
        exact ih (k + 1) (va_up r k ((Y * 4294967296 + X) / P % 4294967296)) _ (by omega) ⟨z1.trans fr.1, fun x p q => (o1 x q).trans (fr.2 x p q)⟩ h1_0 c1 (up_lt rf hlt) (fun j hj => by
          have := he j (by omega)
          unfold bt at *
          rw [va_up_ne _ _ (by omega)]
          exact this) (fun j h1 => by
          by_cases h : j = k
          · rw [h, va_up_self, ← hX, ← hY]
          · rw [va_up_ne _ _ h]; exact hd j (by omega))
  change ze_V G l (ze_rm 1 0 0) M7_down Z 0 [(0, .ref a), (1, ze_i ((s : Nat)))] [] w 0 0
  refine ze_iload_n dX7_down_0 rfl ?_
  refine ze_bipush dX7_down_1 (by decide) ?_
  refine ze_idiv dX7_down_3 (by omega) (by omega) ?_
  refine ze_ti (b := 0) (by omega) ?_
  refine ze_istore_n (lv' := [(0, .ref a), (1, ze_i ((s : Nat))), (2, ze_i (0))]) dX7_down_4 rfl rfl ?_
  refine ze_iload_n dX7_down_5 rfl ?_
  refine ze_bipush dX7_down_6 (by decide) ?_
  refine ze_irem dX7_down_8 (by omega) (by omega) ?_
  refine ze_ti (b := (s : Nat)) (by omega) ?_
  refine ze_istore_n (lv' := [(0, .ref a), (1, ze_i ((s : Nat))), (2, ze_i (0)), (3, ze_i ((s : Nat)))]) dX7_down_9 rfl rfl ?_
  refine ze_aload_n dX7_down_10 rfl ?_
  refine ze_getf dX7_down_11 fl_X7_17 h0a rfl ?_
  refine ze_istore (lv' := [(0, .ref a), (1, ze_i ((s : Nat))), (2, ze_i (0)), (3, ze_i ((s : Nat))), (4, ze_i (sg))]) dX7_down_14 rfl rfl ?_
  refine ze_iconst dX7_down_16 ?_
  refine ze_ti (b := ((0 : Nat) : Nat)) rfl ?_
  refine ze_istore (lv' := [(0, .ref a), (1, ze_i ((s : Nat))), (2, ze_i (0)), (3, ze_i ((s : Nat))), (4, ze_i (sg)), (5, ze_i (((0 : Nat) : Nat)))]) dX7_down_17 rfl rfl ?_
  exact loop n 0 f w (by omega) (bfr.rf _ _) h0a h0b hf (fun _ _ => rfl) (fun j h => by omega)
