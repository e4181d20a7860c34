/-! HiddenSteps: what tells apart -/
theorem tt_sm {G : ze_G} {w0 w w' : ze_W} {E N K q F : Nat} {ia la : Nat → Nat → Int} (h : tst G w0 w E N K q F ia la) (fr : ∀ u, E ≤ u → u < E + 12 → w'.2 u = w.2 u) : tst G w' w' E N K q F ia la := by
  obtain ⟨-, h3, h4, h5⟩ := h
  refine ⟨⟨rfl, fun _ _ => rfl⟩, (fr E (by omega) (by omega)).trans h3, fun k hk => ?_, fun k hk => ?_⟩
  · have := til_ne hk
    exact (fr _ (by omega) (by omega)).trans (h4 k hk)
  · have := tll_ne hk
    exact (fr _ (by omega) (by omega)).trans (h5 k hk)
/-- the teller has found the word z -/
def tfd (G : ze_G) (w : ze_W) (E K : Nat) (z : List Nat) : Prop := ∃ (N q F : Nat) (ia la : Nat → Nat → Int), tst G w w E N K q F ia la ∧ fdw K F ia z
theorem tfd_sm {G : ze_G} {w w' : ze_W} {E K : Nat} {z : List Nat} (h : tfd G w E K z) (fr : ∀ u, E ≤ u → u < E + 12 → w'.2 u = w.2 u) : tfd G w' E K z := by
  obtain ⟨N, q, F, ia, la, h1, h2⟩ := h
  exact ⟨N, q, F, ia, la, tt_sm h1 fr, h2⟩
theorem C6_tellingLength {G : ze_G} {l : Launch} {w : ze_W} {X lo C P F V : Nat} {ar : Nat → Nat → Int} {cf : Nat → Option Nat} {pc : Nat → Nat} {RK : Option Nat} {a b : Int} (hH : hpc G w X lo C P F ar V cf pc RK) (hG : mgd C P F ar) (hlo : X + 80 ≤ lo) (r_a : -2147483648 ≤ a ∧ a < 2147483648) (r_b : -2147483648 ≤ b ∧ b < 2147483648) (h0 : rf2 ar C a b 0) : ze_C G l 5 0 0 M6_tellingLength [.ref X, ze_i a, ze_i b] w (ze_qi (fun r w' => ∃ z : List Nat, r = (z.length : Nat) ∧ z.length < 16 ∧ hpc G w' X lo C P F ar V cf pc RK ∧ kfr w w' X lo ∧ fstw (sy2 ar a.toNat b.toNat) (ck ar a.toNat) z ∧ tfd G w' (X + 67) (ck ar a.toNat) z)) := by
  have hv : ((0 ≤ a ∧ a < (C : Int)) ∧ (0 ≤ b ∧ b < (C : Int))) ∧ (snd ar a.toNat ∧ snd ar b.toNat) ∧ (ar 2 a.toNat = ar 2 b.toNat ∧ ar 3 a.toNat = ar 3 b.toNat) := by
    rcases h0 with h | h | h | h
    · omega
    · omega
    · omega
    · exact ⟨h.1, h.2.1, h.2.2.1⟩
  obtain ⟨⟨va, vb⟩, ⟨sa, sb⟩, e2, e3⟩ := hv
  refine ze_enter (by decide +kernel) rfl ?_
  change ze_V G l (ze_rm 5 0 0) M6_tellingLength _ 0 [(0, .ref X), (1, ze_i (a)), (2, ze_i (b))] [] w 0 0
  refine ze_aload_n dX6_tellingLength_0 rfl ?_
  refine ze_iload_n dX6_tellingLength_1 rfl ?_
  refine ze_callV (As := [ze_i (a)]) (rest := []) dX6_tellingLength_2 (C6_chainNumbered (c := a) hH hG (by omega)) mo6_chainNumbered ml_X6_73 in_6_chainNumbered se_6_chainNumbered (hp_o hH) rfl rfl rfl rfl rfl ⟨Nat.le_refl _, Nat.le_refl _⟩ rfl (Nat.le_of_ble_eq_true rfl) ?_
  rintro _ w' ⟨ro, rfl, hro, rfl⟩
  by_cases qka : 0 ≤ a ∧ a < (C : Int)
  · rw [if_pos qka] at hro
    subst hro
    obtain ⟨ka, hka⟩ : ∃ n, n = (a).toNat := ⟨_, rfl⟩
    rw [← hka]
    change ze_V G l (ze_rm 5 0 0) M6_tellingLength _ 5 [(0, .ref X), (1, ze_i (a)), (2, ze_i (b))] [.ref (pc ka)] w' 0 0
    have lka : ka < C := by omega
    have ika : ((ka : Nat) : Int) = a := by omega
    refine ze_astore_n (lv' := [(0, .ref X), (1, ze_i (a)), (2, ze_i (b)), (3, .ref (pc ka))]) dX6_tellingLength_5 rfl rfl ?_
    refine ze_aload_n dX6_tellingLength_6 rfl ?_
    refine ze_iload_n dX6_tellingLength_7 rfl ?_
    refine ze_callV (As := [ze_i (b)]) (rest := []) dX6_tellingLength_8 (C6_chainNumbered (c := b) hH hG (by omega)) mo6_chainNumbered ml_X6_73 in_6_chainNumbered se_6_chainNumbered (hp_o hH) rfl rfl rfl rfl rfl ⟨Nat.le_refl _, Nat.le_refl _⟩ rfl (Nat.le_of_ble_eq_true rfl) ?_
    rintro _ w' ⟨ro, rfl, hro, rfl⟩
    by_cases qkb : 0 ≤ b ∧ b < (C : Int)
    · rw [if_pos qkb] at hro
      subst hro
      obtain ⟨kb, hkb⟩ : ∃ n, n = (b).toNat := ⟨_, rfl⟩
      rw [← hkb]
      change ze_V G l (ze_rm 5 0 0) M6_tellingLength _ 11 [(0, .ref X), (1, ze_i (a)), (2, ze_i (b)), (3, .ref (pc ka))] [.ref (pc kb)] w' 0 0
      have lkb : kb < C := by omega
      have ikb : ((kb : Nat) : Int) = b := by omega
      refine ze_astore (lv' := [(0, .ref X), (1, ze_i (a)), (2, ze_i (b)), (3, .ref (pc ka)), (4, .ref (pc kb))]) dX6_tellingLength_11 rfl rfl ?_
      rw [← hka] at sa e2 e3
      rw [← hkb] at sb e2 e3
      have ma := (hp_ch hH lka).1
      have mb := (hp_ch hH lkb).1
      have hqa := (hp_cs hH lka).2.2
      have hqb := (hp_cs hH lkb).2.2
      obtain ⟨-, na1, na8⟩ := mch_n ma
      obtain ⟨-, nb1, nb8⟩ := mch_n mb
      have ek : ck ar ka = ck ar kb := by unfold ck; rw [e2]
      have et : ct ar ka = ct ar kb := by unfold ct; rw [e3]
      obtain ⟨N0, K0, q0, F0, ia0, la0, hS0⟩ := hp_tl hH
      refine ze_aload_n dX6_tellingLength_13 rfl ?_
      refine ze_ifnull dX6_tellingLength_14 ?_
      refine ze_aload dX6_tellingLength_17 rfl ?_
      refine ze_ifnonnull 24 dX6_tellingLength_19 (by decide) ?_
      refine ze_aload_n dX6_tellingLength_24 rfl ?_
      refine ze_getf dX6_tellingLength_25 fl_X6_51 (hp_o hH) rfl ?_
      refine ze_aload_n dX6_tellingLength_28 rfl ?_
      refine ze_aload dX6_tellingLength_29 rfl ?_
      refine ze_callV (As := [.ref (pc ka), .ref (pc kb)]) (rest := []) dX6_tellingLength_31 (C4_loadChains hS0 (hp_ch hH lka) (hp_ch hH lkb) (by omega) (by omega) ek) mo4_loadChains ml_X6_209 in_4_loadChains se_4_loadChains (tlp_o (hp_tl hH)).choose_spec rfl rfl rfl rfl rfl ⟨Nat.le_refl _, Nat.le_refl _⟩ rfl (Nat.le_of_ble_eq_true rfl) ?_
      rintro _ w2 ⟨rfl, ia2, F2, hS2, tb2⟩
      obtain ⟨p1, p2⟩ := hp_tel hH hlo ⟨_, _, _, _, _, _, tt_rf hS2⟩ hS2.1.1 hS2.1.2
      change ze_V G l (ze_rm 5 0 0) M6_tellingLength _ 34 [(0, .ref X), (1, ze_i (a)), (2, ze_i (b)), (3, .ref (pc ka)), (4, .ref (pc kb))] [] w2 0 0
      refine ze_aload_n dX6_tellingLength_34 rfl ?_
      refine ze_getf dX6_tellingLength_35 fl_X6_51 (hp_o p1) rfl ?_
      refine ze_callV (As := []) (rest := []) dX6_tellingLength_38 (C4_findTelling hS2 (by show 1 ≤ cn ar ka + cn ar kb ∧ cn ar ka + cn ar kb ≤ 16; omega) (by have := mch_k ma; omega) tb2 (smal_2 ma mb sa sb ek et)) mo4_findTelling ml_X6_191 in_4_findTelling se_4_findTelling (tlp_o (hp_tl p1)).choose_spec rfl rfl rfl rfl rfl ⟨Nat.le_refl _, Nat.le_refl _⟩ rfl (Nat.le_of_ble_eq_true rfl) ?_
      rintro _ w3 ⟨r3, rfl, ia3, la3, q3, F3, z, hr3, hS3, hf3, hz3⟩
      obtain ⟨s1, s2⟩ := hp_tel hH hlo ⟨_, _, _, _, _, _, tt_rf hS3⟩ hS3.1.1 hS3.1.2
      change ze_V G l (ze_rm 5 0 0) M6_tellingLength _ 41 [(0, .ref X), (1, ze_i (a)), (2, ze_i (b)), (3, .ref (pc ka)), (4, .ref (pc kb))] [ze_i (r3)] w3 0 0
      exact ze_ireturn rfl dX6_tellingLength_41 ⟨_, rfl, z, by rw [hr3, hf3.1], hf3.2.2.1, s1, s2, hz3, _, _, _, _, _, tt_rf hS3, hf3⟩ rfl rfl
    · rw [if_neg qkb] at hro
      subst hro
      change ze_V G l (ze_rm 5 0 0) M6_tellingLength _ 11 [(0, .ref X), (1, ze_i (a)), (2, ze_i (b)), (3, .ref (pc ka))] [.null] w' 0 0
      exact absurd vb qkb
  · rw [if_neg qka] at hro
    subst hro
    change ze_V G l (ze_rm 5 0 0) M6_tellingLength _ 5 [(0, .ref X), (1, ze_i (a)), (2, ze_i (b))] [.null] w' 0 0
    exact absurd va qka
theorem rf2_v {ar : Nat → Nat → Int} {C : Nat} {a b : Int} (h : rf2 ar C a b 0) : (0 ≤ a ∧ a < (C : Int)) ∧ (0 ≤ b ∧ b < (C : Int)) := by
  rcases h with h | h | h | h
  · omega
  · omega
  · omega
  · exact h.1
theorem tl_2 {G : ze_G} {w : ze_W} {X lo C P F V : Nat} {ar : Nat → Nat → Int} {cf : Nat → Option Nat} {pc : Nat → Nat} {RK : Option Nat} {a b : Int} (hH : hpc G w X lo C P F ar V cf pc RK) (h : rf2 ar C a b 0) (z : List Nat) : tell ar a.toNat b.toNat (stv ar a.toNat b.toNat) z ↔ tm_ph (sy2 ar a.toNat b.toNat) z ≠ 0 := by
  obtain ⟨va, vb⟩ := rf2_v h
  unfold tell
  rw [ph_2 (mch_n (hp_ch hH (show a.toNat < C by omega)).1).2.2 (mch_n (hp_ch hH (show b.toNat < C by omega)).1).2.2]
theorem C6_same {G : ze_G} {l : Launch} {w : ze_W} {X lo C P F V : Nat} {ar : Nat → Nat → Int} {cf : Nat → Option Nat} {pc : Nat → Nat} {RK : Option Nat} {a b : Int} (hH : hpc G w X lo C P F ar V cf pc RK) (hG : mgd C P F ar) (hlo : X + 80 ≤ lo) (r_a : -2147483648 ≤ a ∧ a < 2147483648) (r_b : -2147483648 ≤ b ∧ b < 2147483648) : ze_C G l 6 0 0 M6_same [.ref X, ze_i a, ze_i b] w (ze_qi (fun r w' => hpc G w' X lo C P F ar V cf pc RK ∧ kfr w w' X lo ∧ ((rf2 ar C a b r ∧ r ≠ 0) ∨ (rf2 ar C a b 0 ∧ ((r = 1 ∧ ∀ z, alw (ck ar a.toNat) z → ¬ tell ar a.toNat b.toNat (stv ar a.toNat b.toNat) z) ∨ (r = 0 ∧ ∃ z, alw (ck ar a.toNat) z ∧ tell ar a.toNat b.toNat (stv ar a.toNat b.toNat) z)))))) := by
  refine ze_enter (by decide +kernel) rfl ?_
  change ze_V G l (ze_rm 6 0 0) M6_same _ 0 [(0, .ref X), (1, ze_i (a)), (2, ze_i (b))] [] w 0 0
  refine ze_aload_n dX6_same_0 rfl ?_
  refine ze_iload_n dX6_same_1 rfl ?_
  refine ze_iload_n dX6_same_2 rfl ?_
  refine ze_callV (As := [ze_i (a), ze_i (b)]) (rest := []) dX6_same_3 (C6_pairRefusal hH hG r_a r_b) mo6_pairRefusal ml_X6_178 in_6_pairRefusal se_6_pairRefusal (hp_o hH) rfl rfl rfl rfl rfl ⟨Nat.le_refl _, Nat.le_refl _⟩ rfl (Nat.le_of_ble_eq_true rfl) ?_
  rintro _ w ⟨rr, rfl, hrr, rfl⟩
  change ze_V G l (ze_rm 6 0 0) M6_same _ 6 [(0, .ref X), (1, ze_i (a)), (2, ze_i (b))] [ze_i (rr)] w 0 0
  refine ze_istore_n (lv' := [(0, .ref X), (1, ze_i (a)), (2, ze_i (b)), (3, ze_i (rr))]) dX6_same_6 rfl rfl ?_
  refine ze_iload_n dX6_same_7 rfl ?_
  refine ze_if_eq 13 dX6_same_8 (by decide) (rf2_rng hrr) (fun q1 => ?_) (fun q1 => ?_)
  · have hr0 : rf2 ar C a b 0 := by rw [q1] at hrr; exact hrr
    refine ze_aload_n dX6_same_13 rfl ?_
    refine ze_iload_n dX6_same_14 rfl ?_
    refine ze_iload_n dX6_same_15 rfl ?_
    refine ze_callV (As := [ze_i (a), ze_i (b)]) (rest := []) dX6_same_16 (C6_tellingLength hH hG hlo r_a r_b hr0) mo6_tellingLength ml_X6_181 in_6_tellingLength se_6_tellingLength (hp_o hH) rfl rfl rfl rfl rfl ⟨Nat.le_refl _, Nat.le_refl _⟩ rfl (Nat.le_of_ble_eq_true rfl) ?_
    rintro _ w2 ⟨rl, rfl, z, hrl, hz16, p1, p2, hz, htf⟩
    change ze_V G l (ze_rm 6 0 0) M6_same _ 19 [(0, .ref X), (1, ze_i (a)), (2, ze_i (b)), (3, ze_i (rr))] [ze_i (rl)] w2 0 0
    refine ze_if_ne 26 dX6_same_19 (by decide) (by omega) (fun q2 => ?_) (fun q2 => ?_)
    · refine ze_iconst dX6_same_26 ?_
      refine ze_ireturn rfl dX6_same_27 ⟨_, rfl, p1, p2, Or.inr ⟨hr0, Or.inr ⟨rfl, ?_⟩⟩⟩ rfl rfl
      rcases hz with ⟨z1, z2⟩ | ⟨z1, z2, z3, z4⟩
      · rw [z1] at hrl
        have hrl : rl = 0 := hrl
        omega
      · exact ⟨z, z2, (tl_2 hH hr0 z).mpr z3⟩
    · refine ze_iconst dX6_same_22 ?_
      refine ze_goto 27 dX6_same_23 (by decide) ?_
      refine ze_ireturn rfl dX6_same_27 ⟨_, rfl, p1, p2, Or.inr ⟨hr0, Or.inl ⟨rfl, fun y hy ht => ?_⟩⟩⟩ rfl rfl
      rcases hz with ⟨z1, z2⟩ | ⟨z1, z2⟩
      · exact (tl_2 hH hr0 y).mp ht (z2 y hy)
      · exact z1 (List.length_eq_zero_iff.mp (by omega))
  · refine ze_iload_n dX6_same_11 rfl ?_
    exact ze_ireturn rfl dX6_same_12 ⟨_, rfl, hH, kf_r, Or.inl ⟨hrr, q1⟩⟩ rfl rfl
theorem C6_apart {G : ze_G} {l : Launch} {w : ze_W} {X lo C P F V : Nat} {ar : Nat → Nat → Int} {cf : Nat → Option Nat} {pc : Nat → Nat} {RK : Option Nat} {a b : Int} (hH : hpc G w X lo C P F ar V cf pc RK) (hG : mgd C P F ar) (hlo : X + 80 ≤ lo) (r_a : -2147483648 ≤ a ∧ a < 2147483648) (r_b : -2147483648 ≤ b ∧ b < 2147483648) : ze_C G l 6 0 0 M6_apart [.ref X, ze_i a, ze_i b] w (ze_qi (fun r w' => ∃ ar' P', hpc G w' X lo C P' F ar' V cf pc RK ∧ kfr w w' X lo ∧ (∀ k, k ≠ 7 → ar' k = ar k) ∧ ((rf2 ar C a b r ∧ r ≠ 0 ∧ P' = P ∧ ar' 7 = ar 7) ∨ (rf2 ar C a b 0 ∧ (∀ z, alw (ck ar a.toNat) z → ¬ tell ar a.toNat b.toNat (stv ar a.toNat b.toNat) z) ∧ r = 0 ∧ P' = 0) ∨ (rf2 ar C a b 0 ∧ ∃ z, (alw (ck ar a.toNat) z ∧ tell ar a.toNat b.toNat (stv ar a.toNat b.toNat) z ∧ ∀ y, alw (ck ar a.toNat) y → wcd y < wcd z → ¬ tell ar a.toNat b.toNat (stv ar a.toNat b.toNat) y) ∧ r = (z.length : Nat) ∧ P' = z.length ∧ ∀ j, j < z.length → ar' 7 j = (tm_rd z j : Nat))))) := by
  have hP := hG.1.2.1
  refine ze_enter (by decide +kernel) rfl ?_
  generalize hQ : (ze_Q G (ze_qi (fun r w' => ∃ ar' P', hpc G w' X lo C P' F ar' V cf pc RK ∧ kfr w w' X lo ∧ (∀ k, k ≠ 7 → ar' k = ar k) ∧ ((rf2 ar C a b r ∧ r ≠ 0 ∧ P' = P ∧ ar' 7 = ar 7) ∨ (rf2 ar C a b 0 ∧ (∀ z, alw (ck ar a.toNat) z → ¬ tell ar a.toNat b.toNat (stv ar a.toNat b.toNat) z) ∧ r = 0 ∧ P' = 0) ∨ (rf2 ar C a b 0 ∧ ∃ z, (alw (ck ar a.toNat) z ∧ tell ar a.toNat b.toNat (stv ar a.toNat b.toNat) z ∧ ∀ y, alw (ck ar a.toNat) y → wcd y < wcd z → ¬ tell ar a.toNat b.toNat (stv ar a.toNat b.toNat) y) ∧ r = (z.length : Nat) ∧ P' = z.length ∧ ∀ j, j < z.length → ar' 7 j = (tm_rd z j : Nat))))) 0 0) = Z
  change ze_V G l (ze_rm 6 0 0) M6_apart Z 0 [(0, .ref X), (1, ze_i (a)), (2, ze_i (b))] [] w 0 0
  refine ze_aload_n dX6_apart_0 rfl ?_
  refine ze_iload_n dX6_apart_1 rfl ?_
  refine ze_iload_n dX6_apart_2 rfl ?_
  refine ze_callV (As := [ze_i (a), ze_i (b)]) (rest := []) dX6_apart_3 (C6_pairRefusal hH hG r_a r_b) mo6_pairRefusal ml_X6_178 in_6_pairRefusal se_6_pairRefusal (hp_o hH) rfl rfl rfl rfl rfl ⟨Nat.le_refl _, Nat.le_refl _⟩ rfl (Nat.le_of_ble_eq_true rfl) ?_
  rintro _ w ⟨rr, rfl, hrr, rfl⟩
  change ze_V G l (ze_rm 6 0 0) M6_apart _ 6 [(0, .ref X), (1, ze_i (a)), (2, ze_i (b))] [ze_i (rr)] w 0 0
  refine ze_istore_n (lv' := [(0, .ref X), (1, ze_i (a)), (2, ze_i (b)), (3, ze_i (rr))]) dX6_apart_6 rfl rfl ?_
  refine ze_iload_n dX6_apart_7 rfl ?_
  refine ze_if_eq 13 dX6_apart_8 (by decide) (rf2_rng hrr) (fun q1 => ?_) (fun q1 => ?_)
  · have hr0 : rf2 ar C a b 0 := by rw [q1] at hrr; exact hrr
    refine ze_aload_n dX6_apart_13 rfl ?_
    refine ze_iload_n dX6_apart_14 rfl ?_
    refine ze_iload_n dX6_apart_15 rfl ?_
    refine ze_callV (As := [ze_i (a), ze_i (b)]) (rest := []) dX6_apart_16 (C6_tellingLength hH hG hlo r_a r_b hr0) mo6_tellingLength ml_X6_181 in_6_tellingLength se_6_tellingLength (hp_o hH) rfl rfl rfl rfl rfl ⟨Nat.le_refl _, Nat.le_refl _⟩ rfl (Nat.le_of_ble_eq_true rfl) ?_
    rintro _ w2 ⟨rl, rfl, z, hrl, hz16, p1, p2, hz, htf⟩
    change ze_V G l (ze_rm 6 0 0) M6_apart _ 19 [(0, .ref X), (1, ze_i (a)), (2, ze_i (b)), (3, ze_i (rr))] [ze_i (rl)] w2 0 0
    refine ze_istore (lv' := [(0, .ref X), (1, ze_i (a)), (2, ze_i (b)), (3, ze_i (rr)), (4, ze_i (rl))]) dX6_apart_19 rfl rfl ?_
    refine ze_aload_n dX6_apart_21 rfl ?_
    refine ze_getf dX6_apart_22 fl_X6_22 (hp_o p1) rfl ?_
    refine ze_iconst dX6_apart_25 ?_
    change ze_V G l (ze_rm 6 0 0) M6_apart _ 26 [(0, .ref X), (1, ze_i (a)), (2, ze_i (b)), (3, ze_i (rr)), (4, ze_i (rl))] [ze_i (((0 : Nat) : Nat)), .ref (X + 2)] w2 0 0
    refine ze_callV (As := [ze_i (((0 : Nat) : Nat))]) (rest := []) dX6_apart_26 (C2_shorten (n := 0) (hp_row p1) (by omega)) mo2_shorten ml_X6_121 in_2_shorten se_2_shorten (hp_row p1).2.1 rfl rfl rfl rfl rfl ⟨Nat.le_refl _, Nat.le_refl _⟩ rfl (Nat.le_of_ble_eq_true rfl) ?_
    rintro _ w3 ⟨rfl, f3, s3⟩
    obtain ⟨p3, p4⟩ := hp_rows p1 hlo f3 s3 (fun _ _ => rfl)
    have ht3 := tfd_sm htf (fun u g1 g2 => f3.2 u (by omega) (by omega))
    change ze_V G l (ze_rm 6 0 0) M6_apart _ 29 [(0, .ref X), (1, ze_i (a)), (2, ze_i (b)), (3, ze_i (rr)), (4, ze_i (rl))] [] w3 0 0
    rw [hrl]
    have loop : ∀ (d i : Nat) (ar4 : Nat → Nat → Int) (w4 : ze_W), i + d = z.length → hpc G w4 X lo C i F ar4 V cf pc RK → kfr w w4 X lo → (∀ k, k ≠ 7 → ar4 k = ar k) → (∀ j, j < i → ar4 7 j = (tm_rd z j : Nat)) → tfd G w4 (X + 67) (ck ar a.toNat) z → ze_V G l (ze_rm 6 0 0) M6_apart Z 32 [(0, .ref X), (1, ze_i (a)), (2, ze_i (b)), (3, ze_i (rr)), (4, ze_i ((z.length : Nat))), (5, ze_i ((i : Nat)))] [] w4 0 0 := by
      intro d
      induction d with
      | zero =>
        intro i ar4 w4 hi hH4 k4 e4 r4 t4
        rw [← hQ]
        refine ze_iload dX6_apart_32 rfl ?_
        refine ze_iload dX6_apart_34 rfl ?_
        refine ze_icmp_ge 61 dX6_apart_36 (by decide) (by omega) (by omega) (fun q1 => ?_) (fun q1 => ?_)
        · refine ze_iload dX6_apart_61 rfl ?_
          refine ze_ireturn rfl dX6_apart_63 ⟨_, rfl, ar4, i, hH4, k4, e4, ?_⟩ rfl rfl
          rcases hz with ⟨z1, z2⟩ | ⟨z1, z2, z3, z4⟩
          · have hz0 : z.length = 0 := by rw [z1]; rfl
            exact Or.inr (Or.inl ⟨hr0, fun y hy ht => (tl_2 hH hr0 y).mp ht (z2 y hy), by omega, by omega⟩)
          · exact Or.inr (Or.inr ⟨hr0, z, ⟨z2, (tl_2 hH hr0 z).mpr z3, fun y hy hlt ht => (tl_2 hH hr0 y).mp ht (z4 y hy hlt)⟩, rfl, by omega, fun j hj => r4 j (by omega)⟩)
        · omega
      | succ d ih =>
        intro i ar4 w4 hi hH4 k4 e4 r4 t4
        obtain ⟨N5, q5, F5, ia5, la5, hS5, hf5⟩ := id t4
        refine ze_iload dX6_apart_32 rfl ?_
        refine ze_iload dX6_apart_34 rfl ?_
        refine ze_icmp_ge 61 dX6_apart_36 (by decide) (by omega) (by omega) (fun q1 => ?_) (fun q1 => ?_)
        · omega
        · refine ze_aload_n dX6_apart_39 rfl ?_
          refine ze_getf dX6_apart_40 fl_X6_22 (hp_o hH4) rfl ?_
          refine ze_aload_n dX6_apart_43 rfl ?_
          refine ze_getf dX6_apart_44 fl_X6_51 (hp_o hH4) rfl ?_
          refine ze_iload dX6_apart_47 rfl ?_
          refine ze_callV (As := [ze_i ((i : Nat))]) (rest := [.ref (X + 2)]) dX6_apart_49 (C4_foundSign (i := i) hS5 hf5 (by omega)) mo4_foundSign ml_X6_184 in_4_foundSign se_4_foundSign (tt_o hS5) rfl rfl rfl rfl rfl ⟨Nat.le_refl _, Nat.le_refl _⟩ rfl (Nat.le_of_ble_eq_true rfl) ?_
          rintro _ w' ⟨r2, rfl, rfl, rfl⟩
          change ze_V G l (ze_rm 6 0 0) M6_apart _ 52 [(0, .ref X), (1, ze_i (a)), (2, ze_i (b)), (3, ze_i (rr)), (4, ze_i ((z.length : Nat))), (5, ze_i ((i : Nat)))] [ze_i ((tm_rd z i : Nat)), .ref (X + 2)] w' 0 0
          refine ze_callV (As := [ze_i ((tm_rd z i : Nat))]) (rest := []) dX6_apart_52 (C2_append (x := ((tm_rd z i : Nat) : Int)) (hp_row hH4) (by omega)) mo2_append ml_X6_114 in_2_append se_2_append (hp_row hH4).2.1 rfl rfl rfl rfl rfl ⟨Nat.le_refl _, Nat.le_refl _⟩ rfl (Nat.le_of_ble_eq_true rfl) ?_
          rintro _ w6 ⟨rfl, f6, s6⟩
          obtain ⟨p6, p7⟩ := hp_rows hH4 hlo f6 s6 (fun k hk => va_up_ne _ _ hk)
          change ze_V G l (ze_rm 6 0 0) M6_apart _ 55 [(0, .ref X), (1, ze_i (a)), (2, ze_i (b)), (3, ze_i (rr)), (4, ze_i ((z.length : Nat))), (5, ze_i ((i : Nat)))] [] w6 0 0
          refine ze_iinc (b := ((i + 1 : Nat))) (lv' := [(0, .ref X), (1, ze_i (a)), (2, ze_i (b)), (3, ze_i (rr)), (4, ze_i ((z.length : Nat))), (5, ze_i (((i + 1 : Nat))))]) dX6_apart_55 rfl rfl (by omega) rfl ?_
          refine ze_goto 32 dX6_apart_58 (by decide) ?_
          refine ih (i + 1) _ w6 (by omega) p6 (kf_t k4 p7) (fun k hk => by rw [va_up_ne _ _ hk]; exact e4 k hk) (fun j hj => ?_) (tfd_sm t4 (fun u g1 g2 => f6.2 u (by omega) (by omega)))
          rw [va_up_self]
          by_cases e : j = i
          · rw [e, va_up_self]
          · rw [va_up_ne _ _ e]; exact r4 j (by omega)
    refine ze_iconst dX6_apart_29 ?_
    refine ze_ti (b := ((0 : Nat) : Nat)) rfl ?_
    refine ze_istore (lv' := [(0, .ref X), (1, ze_i (a)), (2, ze_i (b)), (3, ze_i (rr)), (4, ze_i ((z.length : Nat))), (5, ze_i (((0 : Nat) : Nat)))]) dX6_apart_30 rfl rfl ?_
    exact loop z.length 0 ar w3 (by omega) p3 (kf_t p2 p4) (fun _ _ => rfl) (fun j hj => absurd hj (Nat.not_lt_zero _)) ht3
  · refine ze_iload_n dX6_apart_11 rfl ?_
    rw [← hQ]
    exact ze_ireturn rfl dX6_apart_12 ⟨_, rfl, ar, P, hH, kf_r, fun _ _ => rfl, Or.inl ⟨hrr, q1, rfl, rfl⟩⟩ rfl rfl
theorem C6_twins {G : ze_G} {l : Launch} {w : ze_W} {X lo C P F V : Nat} {ar : Nat → Nat → Int} {cf : Nat → Option Nat} {pc : Nat → Nat} {RK : Option Nat} {c s t : Int} (hH : hpc G w X lo C P F ar V cf pc RK) (hG : mgd C P F ar) (hlo : X + 80 ≤ lo) (r_c : -2147483648 ≤ c ∧ c < 2147483648) (r_s : -2147483648 ≤ s ∧ s < 2147483648) (r_t : -2147483648 ≤ t ∧ t < 2147483648) : ze_C G l 5 0 0 M6_twins [.ref X, ze_i c, ze_i s, ze_i t] w (ze_qi (fun r w' => hpc G w' X lo C P F ar V cf pc RK ∧ kfr w w' X lo ∧ ((¬ ((0 ≤ c ∧ c < (C : Int)) ∧ (0 ≤ s ∧ s < ar 1 c.toNat) ∧ (0 ≤ t ∧ t < ar 1 c.toNat)) ∧ r = -1) ∨ (((0 ≤ c ∧ c < (C : Int)) ∧ (0 ≤ s ∧ s < ar 1 c.toNat) ∧ (0 ≤ t ∧ t < ar 1 c.toNat)) ∧ ¬ snd ar c.toNat ∧ r = -3) ∨ (((0 ≤ c ∧ c < (C : Int)) ∧ (0 ≤ s ∧ s < ar 1 c.toNat) ∧ (0 ≤ t ∧ t < ar 1 c.toNat)) ∧ snd ar c.toNat ∧ ((r = 1 ∧ ∀ z, alw (ck ar c.toNat) z → ¬ tell ar c.toNat c.toNat (sts s.toNat t.toNat) z) ∨ (r = 0 ∧ ∃ z, alw (ck ar c.toNat) z ∧ tell ar c.toNat c.toNat (sts s.toNat t.toNat) z)))))) := by
  refine ze_enter (by decide +kernel) rfl ?_
  change ze_V G l (ze_rm 5 0 0) M6_twins _ 0 [(0, .ref X), (1, ze_i (c)), (2, ze_i (s)), (3, ze_i (t))] [] w 0 0
  refine ze_aload_n dX6_twins_0 rfl ?_
  refine ze_iload_n dX6_twins_1 rfl ?_
  refine ze_callV (As := [ze_i (c)]) (rest := []) dX6_twins_2 (C6_chainNumbered (c := c) hH hG (by omega)) mo6_chainNumbered ml_X6_73 in_6_chainNumbered se_6_chainNumbered (hp_o hH) rfl rfl rfl rfl rfl ⟨Nat.le_refl _, Nat.le_refl _⟩ rfl (Nat.le_of_ble_eq_true rfl) ?_
  rintro _ w' ⟨ro, rfl, hro, rfl⟩
  by_cases qka : 0 ≤ c ∧ c < (C : Int)
  · rw [if_pos qka] at hro
    subst hro
    obtain ⟨ka, hka⟩ : ∃ n, n = (c).toNat := ⟨_, rfl⟩
    rw [← hka]
    change ze_V G l (ze_rm 5 0 0) M6_twins _ 5 [(0, .ref X), (1, ze_i (c)), (2, ze_i (s)), (3, ze_i (t))] [.ref (pc ka)] w' 0 0
    have lka : ka < C := by omega
    have ika : ((ka : Nat) : Int) = c := by omega
    obtain ⟨en, n1, n8⟩ := mch_n (hp_ch hH lka).1
    obtain ⟨ek, k1, k6⟩ := mch_k (hp_ch hH lka).1
    refine ze_astore (lv' := [(0, .ref X), (1, ze_i (c)), (2, ze_i (s)), (3, ze_i (t)), (4, .ref (pc ka))]) dX6_twins_5 rfl rfl ?_
    refine ze_aload dX6_twins_7 rfl ?_
    refine ze_ifnull dX6_twins_9 ?_
    refine ze_aload dX6_twins_12 rfl ?_
    refine ze_iload_n dX6_twins_14 rfl ?_
    refine ze_callV (As := [ze_i (s)]) (rest := []) dX6_twins_15 (C0_hasState (hp_ch hH lka) (by omega)) mo0_hasState ml_X6_77 in_0_hasState se_0_hasState (hp_ch hH lka).2.1 rfl rfl rfl rfl rfl ⟨Nat.le_refl _, Nat.le_refl _⟩ rfl (Nat.le_of_ble_eq_true rfl) ?_
    rintro _ w' ⟨r1, rfl, rfl, rfl⟩
    change ze_V G l (ze_rm 5 0 0) M6_twins _ 18 [(0, .ref X), (1, ze_i (c)), (2, ze_i (s)), (3, ze_i (t)), (4, .ref (pc ka))] [ze_i (bi (0 ≤ s ∧ s < ((cn ar ka : Nat) : Int)))] w' 0 0
    refine ze_if_eq 30 dX6_twins_18 (by decide) (bi_rng _) (fun q2 => ?_) (fun q2 => ?_)
    · rw [bi_z] at q2
      refine ze_iconst dX6_twins_30 ?_
      exact ze_ireturn rfl dX6_twins_31 ⟨_, rfl, hH, kf_r, Or.inl ⟨by omega, rfl⟩⟩ rfl rfl
    · rw [bi_n] at q2
      refine ze_aload dX6_twins_21 rfl ?_
      refine ze_iload_n dX6_twins_23 rfl ?_
      refine ze_callV (As := [ze_i (t)]) (rest := []) dX6_twins_24 (C0_hasState (hp_ch hH lka) (by omega)) mo0_hasState ml_X6_77 in_0_hasState se_0_hasState (hp_ch hH lka).2.1 rfl rfl rfl rfl rfl ⟨Nat.le_refl _, Nat.le_refl _⟩ rfl (Nat.le_of_ble_eq_true rfl) ?_
      rintro _ w' ⟨r3, rfl, rfl, rfl⟩
      change ze_V G l (ze_rm 5 0 0) M6_twins _ 27 [(0, .ref X), (1, ze_i (c)), (2, ze_i (s)), (3, ze_i (t)), (4, .ref (pc ka))] [ze_i (bi (0 ≤ t ∧ t < ((cn ar ka : Nat) : Int)))] w' 0 0
      refine ze_if_ne 32 dX6_twins_27 (by decide) (bi_rng _) (fun q4 => ?_) (fun q4 => ?_)
      · rw [bi_n] at q4
        refine ze_aload dX6_twins_32 rfl ?_
        refine ze_callV (As := []) (rest := []) dX6_twins_34 (C0_isSound (hp_ch hH lka)) mo0_isSound ml_X6_98 in_0_isSound se_0_isSound (hp_ch hH lka).2.1 rfl rfl rfl rfl rfl ⟨Nat.le_refl _, Nat.le_refl _⟩ rfl (Nat.le_of_ble_eq_true rfl) ?_
        rintro _ w' ⟨ra, rfl, hra, rfl⟩
        change ze_V G l (ze_rm 5 0 0) M6_twins _ 37 [(0, .ref X), (1, ze_i (c)), (2, ze_i (s)), (3, ze_i (t)), (4, .ref (pc ka))] [ze_i (ra)] w' 0 0
        refine ze_if_ne 43 dX6_twins_37 (by decide) (tf_rng hra) (fun q5 => ?_) (fun q5 => ?_)
        · refine ze_aload_n dX6_twins_43 rfl ?_
          refine ze_getf dX6_twins_44 fl_X6_51 (hp_o hH) rfl ?_
          refine ze_aload dX6_twins_47 rfl ?_
          refine ze_iload_n dX6_twins_49 rfl ?_
          refine ze_iload_n dX6_twins_50 rfl ?_
          obtain ⟨sn, rfl⟩ := Int.eq_ofNat_of_zero_le (show 0 ≤ s from (by omega))
          change ze_V G l (ze_rm 5 0 0) M6_twins _ 51 [(0, .ref X), (1, ze_i (c)), (2, ze_i ((sn : Nat))), (3, ze_i (t)), (4, .ref (pc ka))] [ze_i (t), ze_i ((sn : Nat)), .ref (pc ka), .ref (X + 67)] w' 0 0
          obtain ⟨tn, rfl⟩ := Int.eq_ofNat_of_zero_le (show 0 ≤ t from (by omega))
          change ze_V G l (ze_rm 5 0 0) M6_twins _ 51 [(0, .ref X), (1, ze_i (c)), (2, ze_i ((sn : Nat))), (3, ze_i ((tn : Nat))), (4, .ref (pc ka))] [ze_i ((tn : Nat)), ze_i ((sn : Nat)), .ref (pc ka), .ref (X + 67)] w' 0 0
          obtain ⟨N0, K0, q0, F0, ia0, la0, hS0⟩ := hp_tl hH
          have sa := tf_n hra q5
          have hqa := (hp_cs hH lka).2.2
          refine ze_callV (As := [.ref (pc ka), ze_i ((sn : Nat)), ze_i ((tn : Nat))]) (rest := []) dX6_twins_51 (C4_loadStates (s := sn) (t := tn) hS0 (hp_ch hH lka) (by omega) (by omega) (by omega)) mo4_loadStates ml_X6_187 in_4_loadStates se_4_loadStates (tlp_o (hp_tl hH)).choose_spec rfl rfl rfl rfl rfl ⟨Nat.le_refl _, Nat.le_refl _⟩ rfl (Nat.le_of_ble_eq_true rfl) ?_
          rintro _ w2 ⟨rfl, ia2, F2, hS2, tb2⟩
          obtain ⟨p1, p2⟩ := hp_tel hH hlo ⟨_, _, _, _, _, _, tt_rf hS2⟩ hS2.1.1 hS2.1.2
          change ze_V G l (ze_rm 5 0 0) M6_twins _ 54 [(0, .ref X), (1, ze_i (c)), (2, ze_i ((sn : Nat))), (3, ze_i ((tn : Nat))), (4, .ref (pc ka))] [] w2 0 0
          refine ze_aload_n dX6_twins_54 rfl ?_
          refine ze_getf dX6_twins_55 fl_X6_51 (hp_o p1) rfl ?_
          refine ze_callV (As := []) (rest := []) dX6_twins_58 (C4_findTelling hS2 (by show 1 ≤ cn ar ka ∧ cn ar ka ≤ 16; omega) (by omega) tb2 (smal_1 (hp_ch hH lka).1 sa (by omega) (by omega))) mo4_findTelling ml_X6_191 in_4_findTelling se_4_findTelling (tlp_o (hp_tl p1)).choose_spec rfl rfl rfl rfl rfl ⟨Nat.le_refl _, Nat.le_refl _⟩ rfl (Nat.le_of_ble_eq_true rfl) ?_
          rintro _ w3 ⟨r3, rfl, ia3, la3, q3, F3, z, hr3, hS3, hf3, hz3⟩
          obtain ⟨s1, s2⟩ := hp_tel hH hlo ⟨_, _, _, _, _, _, tt_rf hS3⟩ hS3.1.1 hS3.1.2
          have hf16 := hf3.2.2.1
          have hfl := hf3.1
          change ze_V G l (ze_rm 5 0 0) M6_twins _ 61 [(0, .ref X), (1, ze_i (c)), (2, ze_i ((sn : Nat))), (3, ze_i ((tn : Nat))), (4, .ref (pc ka))] [ze_i (r3)] w3 0 0
          have htl : ∀ y, tell ar ka ka (sts sn tn) y ↔ tm_ph (sy1 ar ka sn tn) y ≠ 0 := fun y => by
            unfold tell
            rw [ph_1 n8 (by omega) (by omega)]
          refine ze_if_ne 68 dX6_twins_61 (by decide) (by omega) (fun q6 => ?_) (fun q6 => ?_)
          · refine ze_iconst dX6_twins_68 ?_
            refine ze_ireturn rfl dX6_twins_69 ⟨_, rfl, s1, s2, Or.inr (Or.inr ⟨by omega, sa, Or.inr ⟨rfl, ?_⟩⟩)⟩ rfl rfl
            rw [Int.toNat_natCast, Int.toNat_natCast]
            rcases hz3 with ⟨z1, z2⟩ | ⟨z1, z2, z3, z4⟩
            · rw [z1] at hfl
              have hfl : F3 = 0 := hfl
              omega
            · exact ⟨z, z2, (htl z).mpr z3⟩
          · refine ze_iconst dX6_twins_64 ?_
            refine ze_goto 69 dX6_twins_65 (by decide) ?_
            refine ze_ireturn rfl dX6_twins_69 ⟨_, rfl, s1, s2, Or.inr (Or.inr ⟨by omega, sa, Or.inl ⟨rfl, fun y hy ht => ?_⟩⟩)⟩ rfl rfl
            rw [Int.toNat_natCast, Int.toNat_natCast] at ht
            rcases hz3 with ⟨z1, z2⟩ | ⟨z1, z2⟩
            · exact (htl y).mp ht (z2 y hy)
            · exact z1 (List.length_eq_zero_iff.mp (by omega))
        · refine ze_bipush dX6_twins_40 (by decide) ?_
          exact ze_ireturn rfl dX6_twins_42 ⟨_, rfl, hH, kf_r, Or.inr (Or.inl ⟨by omega, tf_z hra q5, rfl⟩)⟩ rfl rfl
      · rw [bi_z] at q4
        refine ze_iconst dX6_twins_30 ?_
        exact ze_ireturn rfl dX6_twins_31 ⟨_, rfl, hH, kf_r, Or.inl ⟨by omega, rfl⟩⟩ rfl rfl
  · rw [if_neg qka] at hro
    subst hro
    change ze_V G l (ze_rm 5 0 0) M6_twins _ 5 [(0, .ref X), (1, ze_i (c)), (2, ze_i (s)), (3, ze_i (t))] [.null] w' 0 0
    refine ze_astoreN (lv' := [(0, .ref X), (1, ze_i (c)), (2, ze_i (s)), (3, ze_i (t)), (4, .null)]) dX6_twins_5 rfl rfl ?_
    refine ze_aloadN dX6_twins_7 rfl ?_
    refine ze_ifnullN 30 dX6_twins_9 (by decide) ?_
    refine ze_iconst dX6_twins_30 ?_
    exact ze_ireturn rfl dX6_twins_31 ⟨_, rfl, hH, kf_r, Or.inl ⟨by omega, rfl⟩⟩ rfl rfl
