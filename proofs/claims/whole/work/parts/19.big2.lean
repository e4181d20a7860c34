/-! Big: copy, of, compares, sums, differences -/
theorem ze_vu (f : Nat → Nat) (k v : Nat) : va_up (fun j => ((f j : Nat) : Int)) k ((v : Nat) : Int) = fun j => ((va_up f k v j : Nat) : Int) := by
  funext j
  unfold va_up
  split <;> rfl
theorem ze_u32 {a z : Int} (ha : 0 ≤ a ∧ a < 18446744073709551616) (hz : a / 4294967296 = z) : ((Int64.ofInt a).toUInt64 >>> ((Int32.ofInt 32).toInt64.toUInt64 &&& Int64.toUInt64 63)).toInt64 = Int64.ofInt z := ze_zushr (by omega) ha hz
theorem ze_s32 {a : Int} : Int64.ofInt a <<< ((Int32.ofInt 32).toInt64 &&& 63) = Int64.ofInt (a * 4294967296) := ze_zshl (by omega) rfl
theorem ze_o32 {a b : Int} (ha : 0 ≤ a ∧ a < 4294967296) (hb : 0 ≤ b ∧ b < 4294967296) : Int64.ofInt (a * 4294967296) ||| Int64.ofInt b = Int64.ofInt (a * 4294967296 + b) := ze_zor 32 (by omega) (by show a * 4294967296 % 4294967296 = 0; omega) hb (by omega) rfl
theorem sel_lt {c : Prop} [Decidable c] {x y B : Nat} (hx : x < B) (hy : y < B) : (if c then x else y) < B := by
  split
  · exact hx
  · exact hy
theorem up_lt {f : Nat → Nat} {B k v : Nat} (h : ∀ j, f j < B) (hv : v < B) (j : Nat) : va_up f k v j < B := by
  unfold va_up
  split
  · exact hv
  · exact h j

theorem C7_copy {G : ze_G} {l : Launch} {w : ze_W} {a La : Nat} {fa : Nat → Nat} {na : Nat} {sa : Int} {b Lb : Nat} {fb : Nat → Nat} {nb : Nat} {sb : Int} (ha : bg G w a La fa na sa) (hb : bg G w b Lb fb nb sb) (hab : a ≠ b) (hL : nb ≤ La) : ze_C G l 1 0 0 M7_copy [.ref a, .ref b] w (ze_qv (fun w' => bfr w w' a ∧ bg G w' a La (fun q => if q < nb then fb q else fa q) nb sb)) := by
  have x1 := bg_x ha hb
  have x2 := bg_x hb ha
  obtain ⟨aa, ab, an, aL, af⟩ := ha
  obtain ⟨ba, bb, bn, bL, bf⟩ := hb
  refine ze_enter (by decide +kernel) rfl ?_
  change ze_V G l (ze_rm 1 0 0) M7_copy _ 0 [(0, .ref a), (1, .ref b)] [] w 0 0
  refine ze_aload_n dX7_copy_0 rfl ?_
  refine ze_getf dX7_copy_1 fl_X7_7 ba rfl ?_
  refine ze_iconst dX7_copy_4 ?_
  refine ze_aload_n dX7_copy_5 rfl ?_
  refine ze_getf dX7_copy_6 fl_X7_7 aa rfl ?_
  refine ze_iconst dX7_copy_9 ?_
  refine ze_aload_n dX7_copy_10 rfl ?_
  refine ze_getf dX7_copy_11 fl_X7_13 ba rfl ?_
  refine ze_cpyW (j := nb) (f' := fun q => (((if q < nb then fb q else fa q) : Nat) : Int)) dX7_copy_14 ml_X7_20 bb ab (by omega) (by omega) (by omega) (by omega) (by funext q; by_cases h : q < nb <;> simp [h]) rfl rfl (fun w1 z1 c1 o1 => ?_)
  have h1_0 := (o1 a (by omega)).trans aa
  have h1_2 := (o1 b (by omega)).trans ba
  have h1_3 := (o1 (b + 1) (by omega)).trans bb
  refine ze_aload_n dX7_copy_17 rfl ?_
  refine ze_aload_n dX7_copy_18 rfl ?_
  refine ze_getf dX7_copy_19 fl_X7_13 h1_2 rfl ?_
  refine ze_putfW (fs' := [.ref (a + 1), ze_i ((nb : Nat)), ze_i (sa)]) dX7_copy_22 fl_X7_13 (Or.inl rfl) h1_0 rfl rfl (Nat.le_of_ble_eq_true rfl) rfl (fun w2 z2 c2 o2 => ?_)
  have h2_1 := (o2 (a + 1) (by omega)).trans c1
  have h2_2 := (o2 b (by omega)).trans h1_2
  have h2_3 := (o2 (b + 1) (by omega)).trans h1_3
  refine ze_aload_n dX7_copy_25 rfl ?_
  refine ze_aload_n dX7_copy_26 rfl ?_
  refine ze_getf dX7_copy_27 fl_X7_17 h2_2 rfl ?_
  refine ze_putfW (fs' := [.ref (a + 1), ze_i ((nb : Nat)), ze_i (sb)]) dX7_copy_30 fl_X7_17 (Or.inl rfl) c2 rfl rfl (Nat.le_of_ble_eq_true rfl) rfl (fun w3 z3 c3 o3 => ?_)
  have h3_1 := (o3 (a + 1) (by omega)).trans h2_1
  have h3_2 := (o3 b (by omega)).trans h2_2
  have h3_3 := (o3 (b + 1) (by omega)).trans h2_3
  exact ze_return rfl dX7_copy_33 ⟨rfl, ⟨z3.trans (z2.trans z1), fun x p q => (o3 x p).trans ((o2 x p).trans (o1 x q))⟩, c3, h3_1, by omega, aL, fun j => sel_lt (bf j) (af j)⟩ rfl rfl
theorem C7_of {G : ze_G} {l : Launch} {w : ze_W} {a La : Nat} {fa : Nat → Nat} {na : Nat} {sa : Int} {v : Int} (ha : bg G w a La fa na sa) (hL : 2 ≤ La) (hv : -4611686018427387904 < v ∧ v < 4611686018427387904) : ze_C G l 1 0 0 M7_of [.ref a, ze_l v] w (ze_qv (fun w' => bfr w w' a ∧ bgz G w' a La v)) := by
  obtain ⟨aa, ab, an, aL, af⟩ := ha
  refine ze_enter (by decide +kernel) rfl ?_
  generalize hQ : (ze_Q G (ze_qv (fun w' => bfr w w' a ∧ bgz G w' a La v)) 0 0) = Z
  obtain ⟨u, hu⟩ : ∃ u : Nat, (u : Int) = if v < 0 then -v else v := ⟨(if v < 0 then -v else v).toNat, by split <;> omega⟩
  have hub : u < 4611686018427387904 := by split at hu <;> omega
  have t59 : ∀ (s : Int) (w1 : ze_W) (r : Nat → Nat), s = (if v < 0 then -1 else if 0 < v then 1 else 0) → bfr w w1 a → w1.2 a = some (ze_ob 7 [.ref (a + 1), ze_i 2, ze_i sa]) → w1.2 (a + 1) = some (ze_ia G La (fun j => (r j : Nat))) → (∀ j, r j < 4294967296) → r 0 = u % 4294967296 → r 1 = u / 4294967296 → ze_V G l (ze_rm 1 0 0) M7_of Z 59 [(0, .ref a), (1, ze_l (v)), (3, ze_l ((u : Nat)))] [ze_i (s), .ref a] w1 0 0 := by
    intro s w1 r hs fr ca cb rf r0 r1
    rw [← hQ]
    refine ze_putfW (fs' := [.ref (a + 1), ze_i (2), ze_i (s)]) dX7_of_59 fl_X7_17 (Or.inl rfl) ca rfl rfl (Nat.le_of_ble_eq_true rfl) rfl (fun w1 z1 c1 o1 => ?_)
    have h1_1 := (o1 (a + 1) (by omega)).trans cb
    refine ze_aload_n dX7_of_62 rfl ?_
    refine ze_callV (As := []) (rest := []) dX7_of_63 (C7_trim (f := r) (n := 2) (L := La) (sg := s) ⟨c1, h1_1, hL, aL, rf⟩) mo7_trim ml_X7_26 in_7_trim se_7_trim c1 rfl rfl rfl rfl rfl ⟨Nat.le_refl _, Nat.le_refl _⟩ rfl (Nat.le_of_ble_eq_true rfl) ?_
    rintro _ w' ⟨rfl, n', hn', hnz, hz, fr2, hb⟩
    change ze_V G l (ze_rm 1 0 0) M7_of _ 66 [(0, .ref a), (1, ze_l (v)), (3, ze_l ((u : Nat)))] [] w' 0 0
    refine ze_return rfl dX7_of_66 ⟨rfl, ⟨fr2.1.trans (z1.trans fr.1), fun x p q => (fr2.2 x p q).trans ((o1 x p).trans (fr.2 x p q))⟩, r, n', _, hb, hnz, ?_, ?_⟩ rfl rfl
    · have e2 : nv 4294967296 r 2 = u := by
        show 0 + r 0 * 4294967296 ^ 0 + r 1 * 4294967296 ^ 1 = u
        rw [r0, r1]
        omega
      obtain ⟨d, hd⟩ := Nat.exists_eq_add_of_le hn'
      have e3 : nv 4294967296 r n' = u := by
        rw [← e2, hd]
        exact (nv_ext d (fun j h1 h2 => hz j h1 (by omega))).symm
      rw [e3]
      split
      · rename_i h0
        rw [h0] at e3
        have : u = 0 := e3.symm
        split at hu <;> omega
      · rw [hs]
        split at hu <;> split <;> (try split) <;> omega
    · rcases hnz with h0 | h0
      · left
        rw [if_pos h0]
        exact ⟨h0, rfl⟩
      · by_cases h1 : n' = 0
        · left
          rw [if_pos h1]
          exact ⟨h1, rfl⟩
        · right
          rw [if_neg h1]
          refine ⟨by omega, ?_⟩
          have hu0 : u ≠ 0 := by
            intro hu0
            have q0 : r 0 = 0 := by rw [r0, hu0]
            have q1 : r 1 = 0 := by rw [r1, hu0]
            have hn2 : n' = 1 ∨ n' = 2 := by omega
            rcases hn2 with rfl | rfl
            · exact h0 q0
            · exact h0 q1
          rw [hs]
          split
          · right; rfl
          · rw [if_pos (by split at hu <;> omega)]
            left; rfl
  have t12 : ze_V G l (ze_rm 1 0 0) M7_of Z 12 [(0, .ref a), (1, ze_l (v))] [ze_l ((u : Nat))] w 0 0 := by
    refine ze_lstore_n (lv' := [(0, .ref a), (1, ze_l (v)), (3, ze_l ((u : Nat)))]) dX7_of_12 rfl rfl ?_
    refine ze_aload_n dX7_of_13 rfl ?_
    refine ze_getf dX7_of_14 fl_X7_7 aa rfl ?_
    refine ze_iconst dX7_of_17 ?_
    refine ze_lload_n dX7_of_18 rfl ?_
    refine ze_l2i dX7_of_19 ?_
    refine ze_iastM (j := 0) (y := ((u % 4294967296 : Nat))) (f' := fun j => ((va_up fa 0 (u % 4294967296) j : Nat) : Int)) dX7_of_20 ab rfl (by omega) (by omega) (ze_mod (by omega)) (ze_vu _ _ _) (fun w1 z1 c1 o1 => ?_)
    have h1_0 := (o1 a (by omega)).trans aa
    refine ze_aload_n dX7_of_21 rfl ?_
    refine ze_getf dX7_of_22 fl_X7_7 h1_0 rfl ?_
    refine ze_iconst dX7_of_25 ?_
    refine ze_lload_n dX7_of_26 rfl ?_
    refine ze_bipush dX7_of_27 (by decide) ?_
    refine ze_lushr (z := ((u / 4294967296 : Nat))) dX7_of_29 (ze_u32 (by omega) (by omega)) ?_
    refine ze_l2i dX7_of_30 ?_
    refine ze_iastM (j := 1) (y := ((u / 4294967296 : Nat))) (f' := fun j => ((va_up (va_up fa 0 (u % 4294967296)) 1 (u / 4294967296) j : Nat) : Int)) dX7_of_31 c1 rfl (by omega) (by omega) rfl (ze_vu _ _ _) (fun w2 z2 c2 o2 => ?_)
    have h2_0 := (o2 a (by omega)).trans h1_0
    refine ze_aload_n dX7_of_32 rfl ?_
    refine ze_iconst dX7_of_33 ?_
    refine ze_putfW (fs' := [.ref (a + 1), ze_i (2), ze_i (sa)]) dX7_of_34 fl_X7_13 (Or.inl rfl) h2_0 rfl rfl (Nat.le_of_ble_eq_true rfl) rfl (fun w3 z3 c3 o3 => ?_)
    have h3_1 := (o3 (a + 1) (by omega)).trans c2
    refine ze_aload_n dX7_of_37 rfl ?_
    refine ze_lload_n dX7_of_38 rfl ?_
    refine ze_lconst (z := 0) dX7_of_39 (by decide) ?_
    have fr : bfr w w3 a := ⟨z3.trans (z2.trans z1), fun x p q => (o3 x p).trans ((o2 x q).trans (o1 x q))⟩
    have rf : ∀ j, va_up (va_up fa 0 (u % 4294967296)) 1 (u / 4294967296) j < 4294967296 := up_lt (up_lt af (by omega)) (by omega)
    refine ze_lc_ge 48 dX7_of_40 dX7_of_41 (by decide) (by omega) (by omega) (fun q1 => ?_) (fun q1 => ?_)
    · refine ze_lload_n dX7_of_48 rfl ?_
      refine ze_lconst (z := 0) dX7_of_49 (by decide) ?_
      refine ze_lc_le 58 dX7_of_50 dX7_of_51 (by decide) (by omega) (by omega) (fun q2 => ?_) (fun q2 => ?_)
      · refine ze_iconst dX7_of_58 ?_
        exact t59 _ w3 _ (by rw [if_neg (by omega), if_neg (by omega)]) fr c3 h3_1 rf rfl rfl
      · refine ze_iconst dX7_of_54 ?_
        refine ze_goto 59 dX7_of_55 (by decide) ?_
        exact t59 _ w3 _ (by rw [if_neg (by omega), if_pos (by omega)]) fr c3 h3_1 rf rfl rfl
    · refine ze_iconst dX7_of_44 ?_
      refine ze_goto 59 dX7_of_45 (by decide) ?_
      exact t59 _ w3 _ (by rw [if_pos q1]) fr c3 h3_1 rf rfl rfl
  change ze_V G l (ze_rm 1 0 0) M7_of Z 0 [(0, .ref a), (1, ze_l (v))] [] w 0 0
  refine ze_lload_n dX7_of_0 rfl ?_
  refine ze_lconst (z := 0) dX7_of_1 (by decide) ?_
  refine ze_lc_ge 11 dX7_of_2 dX7_of_3 (by decide) (by omega) (by omega) (fun q1 => ?_) (fun q1 => ?_)
  · refine ze_lload_n dX7_of_11 rfl ?_
    refine ze_tl (b := (u : Nat)) (by rw [if_neg (by omega)] at hu; omega) ?_
    exact t12
  · refine ze_lload_n dX7_of_6 rfl ?_
    refine ze_lneg dX7_of_7 ?_
    refine ze_goto 12 dX7_of_8 (by decide) ?_
    refine ze_tl (b := (u : Nat)) (by rw [if_pos q1] at hu; omega) ?_
    exact t12
