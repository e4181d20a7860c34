/-! Teller: the search by all primes -/
theorem tm_prm0 : tm_prm 0 := ⟨fun h => absurd (Int.zero_dvd.mp h) (by decide), fun a b h => by
  rw [Int.zero_dvd] at h ⊢
  rw [Int.zero_dvd]
  exact Int.mul_eq_zero.mp h⟩
/-- the first word that tells, none if it is empty -/
def fstw (S : tm_S) (K : Nat) (z : List Nat) : Prop := (z = [] ∧ ∀ y, alw K y → tm_ph S y = 0) ∨ (z ≠ [] ∧ alw K z ∧ tm_ph S z ≠ 0 ∧ ∀ y, alw K y → wcd y < wcd z → tm_ph S y = 0)
/-- no difference is too large -/
def smal (S : tm_S) (K : Nat) (T : Int) : Prop := (∀ s, s < S.1 → sz S.1 (S.2.2.1 s) = T) ∧ (1 ≤ T ∧ T ≤ 1000) ∧ tm_ph S [] = 0 ∧ ∀ x u, alw K (x :: u) → (tm_sd S x (tm_dv S u)).natAbs ≤ 10 ^ (6 * (u.length + 1))
theorem pr_T {T : Int} {j : Nat} (hj : j < 10) (hT : 1 ≤ T ∧ T ≤ 1000) : ¬ ze_pr j ∣ T := fun h => by
  have := Int.le_of_dvd (by omega) h
  have := (tm_pr j hj).2.1
  omega
theorem tm_nil {S : tm_S} {K i : Nat} {T : Int} (hs : smal S K T) (hi : i ≤ 10) {y : List Nat} (hy : alw K y) (hl : 2 * y.length ≤ 3 * i) (h : ∀ j, j < i → ze_pr j ∣ tm_ph S y) : tm_ph S y = 0 := by
  obtain ⟨h1, h2, h3, h4⟩ := hs
  cases y with
  | nil => exact h3
  | cons x u =>
    have hl : 2 * (u.length + 1) ≤ 3 * i := hl
    rw [tm_ph_c h1, tm_enough (r := u.length + 1) (i := i) (by omega) ⟨hi, hl⟩ (h4 x u hy) (fun j hj => (tm_ph_d (tm_pr j (by omega)).1 h1 (pr_T (by omega) h2)).mp (h j hj)), Int.mul_zero]
/-- what stands behind i primes -/
def fnv (S : tm_S) (K R i : Nat) (z : List Nat) : Prop := (z = [] ∧ R + 1 = S.1 ∧ ∀ j, j < i → ∀ y, alw K y → ze_pr j ∣ tm_ph S y) ∨ (z ≠ [] ∧ R = z.length ∧ R + 1 ≤ S.1 ∧ tm_ph S z ≠ 0 ∧ ∀ j, j < i → ∀ y, alw K y → wcd y < wcd z → ze_pr j ∣ tm_ph S y)
theorem fnv_end {S : tm_S} {K R i : Nat} {T : Int} {z : List Nat} (hN : 1 ≤ S.1) (hK : K ≤ 6) (hs : smal S K T) (hz : alw K z) (h : fnv S K R i z) (hi : i ≤ 10) (he : 2 * R ≤ 3 * i) : fstw S K z := by
  rcases h with ⟨h1, h2, h3⟩ | ⟨h1, h2, h3, h4, h5⟩
  · refine Or.inl ⟨h1, fun y hy => Int.zero_dvd.mp (tm_short tm_prm0 hN (fun v hv hl => ?_) y hy)⟩
    rw [Int.zero_dvd]
    exact tm_nil hs hi hv (by omega) (fun j hj => h3 j hj v hv)
  · refine Or.inr ⟨h1, hz, h4, fun y hy hlt => ?_⟩
    have hl : y.length ≤ z.length := Classical.byContradiction (fun hc => by
      have := tm_len_lt hK hz (show z.length < y.length by omega)
      omega)
    exact tm_nil hs hi hy (by omega) (fun j hj => h5 j hj y hy hlt)
theorem fnv_step {S : tm_S} {K R i : Nat} {z z' : List Nat} (hN : 1 ≤ S.1) (hK : K ≤ 6) (hi : i < 10) (hz : alw K z) (h : fnv S K R i z) (hr : rsl (ze_pr i) S K R z z') : fnv S K (if z' = [] then R else z'.length) (i + 1) z' := by
  rcases hr with ⟨rfl, r2⟩ | ⟨Y, y1, y2, y3, y4, y5, y6⟩
  · rcases h with ⟨h1, h2, h3⟩ | ⟨h1, h2, h3, h4, h5⟩
    · refine Or.inl ⟨h1, by rw [if_pos h1]; exact h2, fun j hj y hy => ?_⟩
      by_cases e : j = i
      · rw [e]
        exact tm_short (tm_pr i hi).1 hN (fun v hv hl => r2 v hv (by omega)) y hy
      · exact h3 j (by omega) y hy
    · refine Or.inr ⟨h1, by rw [if_neg h1], by rw [if_neg h1]; omega, h4, fun j hj y hy hlt => ?_⟩
      by_cases e : j = i
      · rw [e]
        refine r2 y hy (Classical.byContradiction (fun hc => ?_))
        have := tm_len_lt hK hz (show z'.length < y.length by omega)
        omega
      · exact h5 j (by omega) y hy hlt
  · have hY0 : tm_ph S Y ≠ 0 := fun h0 => y4 (by rw [h0]; exact Int.dvd_zero _)
    have hRN : R + 1 ≤ S.1 := by
      rcases h with h | h
      · omega
      · exact h.2.2.1
    rcases y6 with ⟨y6, rfl⟩ | ⟨y6, y7, rfl⟩
    · refine Or.inr ⟨y2, by rw [if_neg y2], by rw [if_neg y2]; omega, hY0, fun j hj y hy hlt => ?_⟩
      by_cases e : j = i
      · rw [e]; exact y5 y hy hlt
      · rcases h with ⟨h1, h2, h3⟩ | ⟨h1, h2, h3, h4, h5⟩
        · exact h3 j (by omega) y hy
        · rcases y6 with y6 | y6
          · exact absurd y6 h1
          · exact h5 j (by omega) y hy (by omega)
    · rcases h with ⟨h1, h2, h3⟩ | ⟨h1, h2, h3, h4, h5⟩
      · exact absurd h1 y6
      · refine Or.inr ⟨h1, by rw [if_neg h1], by rw [if_neg h1]; omega, h4, fun j hj y hy hlt => ?_⟩
        by_cases e : j = i
        · rw [e]; exact y5 y hy (by omega)
        · exact h5 j (by omega) y hy hlt
theorem C4_findTelling {G : ze_G} {l : Launch} {w0 w : ze_W} {E K q FL : Nat} {ia la : Nat → Nat → Int} {S : tm_S} {T : Int} (hS : tst G w0 w E S.1 K q FL ia la) (hN : 1 ≤ S.1 ∧ S.1 ≤ 16) (hK : 1 ≤ K ∧ K ≤ 6) (htb : tbl S K ia) (hs : smal S K T) : ze_C G l 4 0 0 M4_findTelling [.ref E] w (ze_qi (fun r w' => ∃ ia' la' q' F' z, r = (F' : Nat) ∧ tst G w0 w' E S.1 K q' F' ia' la' ∧ fdw K F' ia' z ∧ fstw S K z)) := by
  refine ze_enter (by decide +kernel) rfl ?_
  generalize hQ : (ze_Q G (ze_qi (fun r w' => ∃ ia' la' q' F' z, r = (F' : Nat) ∧ tst G w0 w' E S.1 K q' F' ia' la' ∧ fdw K F' ia' z ∧ fstw S K z)) 0 0) = Z
  have loop : ∀ (d i R qk F1 : Nat) (z : List Nat) (ia1 la1 : Nat → Nat → Int) (w1 : ze_W), i + d = 10 → tst G w0 w1 E S.1 K qk F1 ia1 la1 → (∀ j, j = 1 ∨ j = 2 ∨ j = 3 → ia1 j = ia j) → fdw K F1 ia1 z → fnv S K R i z → ze_V G l (ze_rm 4 0 0) M4_findTelling Z 14 [(0, .ref E), (1, ze_i ((R : Nat))), (2, ze_i ((i : Nat)))] [] w1 0 0 := by
    intro d
    induction d with
    | zero =>
      intro i R qk F1 z ia1 la1 w1 hd hS1 i1 i2 i3
      have hRN : R + 1 ≤ S.1 := by
        rcases i3 with h | h
        · omega
        · exact h.2.2.1
      have hF : F1 < 16 := by
        have := i2.2.2.1
        have := i2.1
        omega
      rw [← hQ]
      refine ze_iload_n dX4_findTelling_14 rfl ?_
      refine ze_gets rfl dX4_findTelling_15 ?_
      refine ze_prlen dX4_findTelling_18 ?_
      refine ze_icmp_ge 59 dX4_findTelling_19 (by decide) (by omega) (by omega) (fun q1 => ?_) (fun q1 => ?_)
      · refine ze_aload_n dX4_findTelling_59 rfl ?_
        refine ze_getf dX4_findTelling_60 fl_X4_56 (tt_o hS1) rfl ?_
        exact ze_ireturn rfl dX4_findTelling_63 ⟨_, rfl, ia1, la1, qk, F1, z, rfl, hS1, i2, fnv_end hN.1 hK.2 hs i2.2.1 i3 (by omega) (by omega)⟩ rfl rfl
      · omega
    | succ d ih =>
      intro i R qk F1 z ia1 la1 w1 hd hS1 i1 i2 i3
      have hRN : R + 1 ≤ S.1 := by
        rcases i3 with h | h
        · omega
        · exact h.2.2.1
      have hF : F1 < 16 := by
        have := i2.2.2.1
        have := i2.1
        omega
      obtain ⟨p1, p2, p3⟩ := tm_pr i (by omega)
      have htb1 : tbl S K ia1 := by
        unfold tbl
        rw [i1 1 (by omega), i1 2 (by omega), i1 3 (by omega)]
        exact htb
      refine ze_iload_n dX4_findTelling_14 rfl ?_
      refine ze_gets rfl dX4_findTelling_15 ?_
      refine ze_prlen dX4_findTelling_18 ?_
      refine ze_icmp_ge 59 dX4_findTelling_19 (by decide) (by omega) (by omega) (fun q1 => ?_) (fun q1 => ?_)
      · omega
      · refine ze_iconst dX4_findTelling_22 ?_
        refine ze_iload_n dX4_findTelling_23 rfl ?_
        refine ze_imul dX4_findTelling_24 ?_
        refine ze_iconst dX4_findTelling_25 ?_
        refine ze_iload_n dX4_findTelling_26 rfl ?_
        refine ze_imul dX4_findTelling_27 ?_
        refine ze_icmp_ge 59 dX4_findTelling_28 (by decide) (by omega) (by omega) (fun q2 => ?_) (fun q2 => ?_)
        · refine ze_aload_n dX4_findTelling_59 rfl ?_
          refine ze_getf dX4_findTelling_60 fl_X4_56 (tt_o hS1) rfl ?_
          rw [← hQ]
          exact ze_ireturn rfl dX4_findTelling_63 ⟨_, rfl, ia1, la1, qk, F1, z, rfl, hS1, i2, fnv_end hN.1 hK.2 hs i2.2.1 i3 (by omega) (by omega)⟩ rfl rfl
        · refine ze_aload_n dX4_findTelling_31 rfl ?_
          refine ze_gets rfl dX4_findTelling_32 ?_
          refine ze_iload_n dX4_findTelling_35 rfl ?_
          refine ze_prld (j := i) dX4_findTelling_36 rfl (by omega) ?_
          refine ze_iload_n dX4_findTelling_37 rfl ?_
          refine ze_callV (As := [ze_i (ze_pr i), ze_i ((R : Nat))]) (rest := []) dX4_findTelling_38 (C4_searchBy (p := ze_pr i) (R := R) (z0 := z) hS1 hN hK (by omega) p1 htb1 hs.1 (pr_T (by omega) hs.2.1) (by rw [hs.2.2.1]; exact Int.dvd_zero _) (by omega) i2) mo4_searchBy ml_X4_96 in_4_searchBy se_4_searchBy (tt_o hS1) rfl rfl rfl rfl rfl ⟨Nat.le_refl _, Nat.le_refl _⟩ rfl (Nat.le_of_ble_eq_true rfl) ?_
          rintro _ w2 ⟨rfl, ia2, la2, q2, F2, z2, hS2, t1, t2, t3⟩
          change ze_V G l (ze_rm 4 0 0) M4_findTelling _ 41 [(0, .ref E), (1, ze_i ((R : Nat))), (2, ze_i ((i : Nat)))] [] w2 0 0
          have hv := fnv_step hN.1 hK.2 (show i < 10 by omega) i2.2.1 i3 t3
          have hF2 : F2 < 16 := by
            have := t2.2.2.1
            have := t2.1
            omega
          refine ze_aload_n dX4_findTelling_41 rfl ?_
          refine ze_getf dX4_findTelling_42 fl_X4_56 (tt_o hS2) rfl ?_
          refine ze_if_le 53 dX4_findTelling_45 (by decide) (by omega) (fun q3 => ?_) (fun q3 => ?_)
          · refine ze_iinc (b := ((i + 1 : Nat))) (lv' := [(0, .ref E), (1, ze_i ((R : Nat))), (2, ze_i (((i + 1 : Nat))))]) dX4_findTelling_53 rfl rfl (by omega) rfl ?_
            refine ze_goto 14 dX4_findTelling_56 (by decide) ?_
            have hz2 : z2 = [] := List.length_eq_zero_iff.mp (by have := t2.1; omega)
            rw [if_pos hz2] at hv
            exact ih (i + 1) R q2 F2 z2 ia2 la2 w2 (by omega) hS2 (fun j hj => (t1 j hj).trans (i1 j hj)) t2 hv
          · refine ze_aload_n dX4_findTelling_48 rfl ?_
            refine ze_getf dX4_findTelling_49 fl_X4_56 (tt_o hS2) rfl ?_
            refine ze_istore_n (lv' := [(0, .ref E), (1, ze_i ((F2 : Nat))), (2, ze_i ((i : Nat)))]) dX4_findTelling_52 rfl rfl ?_
            refine ze_iinc (b := ((i + 1 : Nat))) (lv' := [(0, .ref E), (1, ze_i ((F2 : Nat))), (2, ze_i (((i + 1 : Nat))))]) dX4_findTelling_53 rfl rfl (by omega) rfl ?_
            refine ze_goto 14 dX4_findTelling_56 (by decide) ?_
            have hz2 : z2 ≠ [] := fun h => by
              have := t2.1
              rw [h] at this
              have : F2 = 0 := this
              omega
            rw [if_neg hz2] at hv
            rw [← t2.1] at hv
            exact ih (i + 1) F2 q2 F2 z2 ia2 la2 w2 (by omega) hS2 (fun j hj => (t1 j hj).trans (i1 j hj)) t2 hv
  change ze_V G l (ze_rm 4 0 0) M4_findTelling Z 0 [(0, .ref E)] [] w 0 0
  refine ze_aload_n dX4_findTelling_0 rfl ?_
  refine ze_iconst dX4_findTelling_1 ?_
  refine ze_putfW (fs' := tfs E S.1 K q 0) dX4_findTelling_2 fl_X4_56 (Or.inl rfl) (tt_o hS) rfl rfl (Nat.le_of_ble_eq_true rfl) rfl (fun w1 z1 c1 o1 => ?_)
  have hS1 := tt_wo (N' := S.1) (K' := K) (q' := q) (F' := 0) hS z1 c1 o1
  refine ze_aload_n dX4_findTelling_5 rfl ?_
  refine ze_getf dX4_findTelling_6 fl_X4_9 (tt_o hS1) rfl ?_
  refine ze_iconst dX4_findTelling_9 ?_
  refine ze_isub dX4_findTelling_10 ?_
  refine ze_ti (b := ((S.1 - 1 : Nat))) (by omega) ?_
  refine ze_istore_n (lv' := [(0, .ref E), (1, ze_i (((S.1 - 1 : Nat))))]) dX4_findTelling_11 rfl rfl ?_
  refine ze_iconst dX4_findTelling_12 ?_
  refine ze_ti (b := ((0 : Nat) : Nat)) rfl ?_
  refine ze_istore_n (lv' := [(0, .ref E), (1, ze_i (((S.1 - 1 : Nat)))), (2, ze_i (((0 : Nat) : Nat)))]) dX4_findTelling_13 rfl rfl ?_
  exact loop 10 0 (S.1 - 1) q 0 [] ia la _ (by omega) hS1 (fun _ _ => rfl) ⟨rfl, True.intro, by decide, fun j hj => absurd hj (Nat.not_lt_zero _)⟩ (Or.inl ⟨rfl, by omega, fun j hj => absurd hj (Nat.not_lt_zero _)⟩)
theorem C4_foundSign {G : ze_G} {l : Launch} {w0 w : ze_W} {E N K q FL : Nat} {ia la : Nat → Nat → Int} {i : Nat} {z : List Nat} (hS : tst G w0 w E N K q FL ia la) (hz : fdw K FL ia z) (hi : i < z.length) : ze_C G l 0 0 0 M4_foundSign [.ref E, ze_i (i : Nat)] w (ze_qi (fun r w' => r = (tm_rd z i : Nat) ∧ w' = w)) := by
  obtain ⟨z1, z2, z3, z4⟩ := hz
  refine ze_enter (by decide +kernel) rfl ?_
  change ze_V G l (ze_rm 0 0 0) M4_foundSign _ 0 [(0, .ref E), (1, ze_i ((i : Nat)))] [] w 0 0
  refine ze_iload_n dX4_foundSign_0 rfl ?_
  refine ze_if_lt 21 dX4_foundSign_1 (by decide) (by omega) (fun q1 => ?_) (fun q1 => ?_)
  · omega
  · refine ze_iload_n dX4_foundSign_4 rfl ?_
    refine ze_aload_n dX4_foundSign_5 rfl ?_
    refine ze_getf dX4_foundSign_6 fl_X4_56 (tt_o hS) rfl ?_
    refine ze_icmp_ge 21 dX4_foundSign_9 (by decide) (by omega) (by omega) (fun q2 => ?_) (fun q2 => ?_)
    · omega
    · refine ze_aload_n dX4_foundSign_12 rfl ?_
      refine ze_getf dX4_foundSign_13 fl_X4_53 (tt_o hS) rfl ?_
      refine ze_iload_n dX4_foundSign_16 rfl ?_
      refine ze_iald (j := i) dX4_foundSign_17 (show w.2 (E + 11) = some (ze_ia G 16 (ia 11)) from tt_i hS 11 (by decide)) (by omega) (by omega) (by omega) ?_
      refine ze_goto 22 dX4_foundSign_18 (by decide) ?_
      exact ze_ireturn rfl dX4_foundSign_22 ⟨_, rfl, z4 i hi, rfl⟩ rfl rfl
