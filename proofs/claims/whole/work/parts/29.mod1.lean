/-! the reference: the small methods -/
def bi (p : Prop) [Decidable p] : Int := if p then 1 else 0
theorem bi_rng (p : Prop) [Decidable p] : -2147483648 ≤ bi p ∧ bi p < 2147483648 := by unfold bi; split <;> omega
theorem bi_z {p : Prop} [Decidable p] : bi p = 0 ↔ ¬ p := by unfold bi; split <;> simp_all
theorem bi_n {p : Prop} [Decidable p] : bi p ≠ 0 ↔ p := by unfold bi; split <;> simp_all
theorem bi_t {p : Prop} [Decidable p] (h : p) : (1 : Int) = bi p := by unfold bi; rw [if_pos h]
theorem bi_f {p : Prop} [Decidable p] (h : ¬ p) : (0 : Int) = bi p := by unfold bi; rw [if_neg h]
theorem bi_b {p : Prop} [Decidable p] : bi p = 0 ∨ bi p = 1 := by unfold bi; split <;> simp
theorem mc_10 {j : Nat} (h : j < 480) : mcap (36 + 4 * j) ≠ 0 := by unfold mcap; rw [if_neg (by omega), if_neg (by omega), if_neg (by omega), if_neg (by omega), if_neg (by omega), if_pos (by omega)]; decide
theorem mc_11 {j : Nat} (h : j < 480) : mcap (38 + 4 * j) ≠ 0 := by unfold mcap; rw [if_neg (by omega), if_neg (by omega), if_neg (by omega), if_neg (by omega), if_neg (by omega), if_pos (by omega)]; decide
theorem mc_12 {j : Nat} (h : j < 9600) : mcap (1956 + 2 * j) ≠ 0 := by unfold mcap; rw [if_neg (by omega), if_neg (by omega), if_neg (by omega), if_neg (by omega), if_neg (by omega), if_pos (by omega)]; decide
theorem mc_18 {j : Nat} (h : j < 288) : mcap (21156 + 2 * j) ≠ 0 := by unfold mcap; rw [if_neg (by omega), if_neg (by omega), if_neg (by omega), if_neg (by omega), if_neg (by omega), if_pos (by omega)]; decide
theorem mc_19 {j : Nat} (h : j < 256) : mcap (21732 + 2 * j) ≠ 0 := by unfold mcap; rw [if_neg (by omega), if_neg (by omega), if_neg (by omega), if_neg (by omega), if_neg (by omega), if_neg (by omega), if_pos (by omega)]; decide
theorem mc_23 {j : Nat} (h : j < 16) : mcap (22244 + 2 * j) ≠ 0 := by unfold mcap; rw [if_neg (by omega), if_neg (by omega), if_neg (by omega), if_neg (by omega), if_neg (by omega), if_neg (by omega), if_pos (by omega)]; decide
theorem mv_48 {o : Nat} (h : o % 2 = 0) (h1 : 36 ≤ o) (h2 : o < 21732) : mcap o = 48 := by unfold mcap; rw [if_neg (by omega), if_neg (by omega), if_neg (by omega), if_neg (by omega), if_neg (by omega), if_pos (by omega)]
theorem mv_420 {o : Nat} (h : o % 2 = 0) (h1 : 21732 ≤ o) (h2 : o < 22276) : mcap o = 420 := by unfold mcap; rw [if_neg (by omega), if_neg (by omega), if_neg (by omega), if_neg (by omega), if_neg (by omega), if_neg (by omega), if_pos (by omega)]
theorem ms_bx {G : ze_G} {w0 w : ze_W} {m C P F : Nat} {ar : Nat → Nat → Int} {bz : Nat → Int} (h : mst G w0 w m C P F ar bz) {o : Nat} (ho : mcap o ≠ 0) : ∃ fs, w.2 (m + o) = some (ze_ob 7 fs) := by
  obtain ⟨n, sg, h1, -⟩ := ms_bo h ho
  exact ⟨_, h1⟩
/-- a chain of the reference -/
def mch (ar : Nat → Nat → Int) (c : Nat) : Prop := (1 ≤ ar 1 c ∧ ar 1 c ≤ 8) ∧ (1 ≤ ar 2 c ∧ ar 2 c ≤ 6) ∧ (1 ≤ ar 3 c ∧ ar 3 c ≤ 1000) ∧ (∀ s, s < 8 → 0 ≤ ar 4 (c * 8 + s) ∧ ar 4 (c * 8 + s) ≤ ar 3 c) ∧ (∀ s t, s < 8 → t < 8 → 0 ≤ ar 5 ((c * 8 + s) * 8 + t) ∧ ar 5 ((c * 8 + s) * 8 + t) ≤ ar 3 c) ∧ (∀ s x, s < 8 → x < 6 → 0 ≤ ar 6 ((c * 8 + s) * 6 + x) ∧ ar 6 ((c * 8 + s) * 6 + x) ≤ ar 3 c)
/-- the reference's numbers are in their bounds -/
def mgd (C P F : Nat) (ar : Nat → Nat → Int) : Prop := (C ≤ 6 ∧ P ≤ 60 ∧ F ≤ 60) ∧ (∀ c, c < C → mch ar c) ∧ (∀ i, i < P → -1 ≤ ar 7 i ∧ ar 7 i < 6) ∧ (∀ i, i < F → 0 ≤ ar 17 i ∧ ar 17 i < 8)
theorem mg_c {C P F : Nat} {ar : Nat → Nat → Int} (h : mgd C P F ar) {c : Int} (hc : 0 ≤ c ∧ c < C) : mch ar c.toNat := h.2.1 _ (by omega)
theorem C8_is {G : ze_G} {l : Launch} {w0 w : ze_W} {m C P F : Nat} {ar : Nat → Nat → Int} {bz : Nat → Int} (hM : mst G w0 w m C P F ar bz) {c : Int} (r_c : -2147483648 ≤ c ∧ c < 2147483648) (hC : C ≤ 6) : ze_C G l 0 0 0 M8_is [.ref m, ze_i c] w (ze_qi (fun r w' => r = bi (0 ≤ c ∧ c < (C : Int)) ∧ w' = w)) := by
  refine ze_enter (by decide +kernel) rfl ?_
  change ze_V G l (ze_rm 0 0 0) M8_is _ 0 [(0, .ref m), (1, ze_i (c))] [] w 0 0
  refine ze_iload_n dX8_is_0 rfl ?_
  refine ze_if_lt 16 dX8_is_1 (by decide) (by omega) (fun q1 => ?_) (fun q1 => ?_)
  · refine ze_iconst dX8_is_16 ?_
    exact ze_zreturn rfl dX8_is_17 (by decide) ⟨_, rfl, bi_f (by omega), rfl⟩ rfl rfl
  · refine ze_iload_n dX8_is_4 rfl ?_
    refine ze_aload_n dX8_is_5 rfl ?_
    refine ze_getf dX8_is_6 fl_X8_101 (ms_o hM) rfl ?_
    refine ze_icmp_ge 16 dX8_is_9 (by decide) (by omega) (by omega) (fun q2 => ?_) (fun q2 => ?_)
    · refine ze_iconst dX8_is_16 ?_
      exact ze_zreturn rfl dX8_is_17 (by decide) ⟨_, rfl, bi_f (by omega), rfl⟩ rfl rfl
    · refine ze_iconst dX8_is_12 ?_
      refine ze_goto 17 dX8_is_13 (by decide) ?_
      exact ze_zreturn rfl dX8_is_17 (by decide) ⟨_, rfl, bi_t (by omega), rfl⟩ rfl rfl
theorem C8_isState {G : ze_G} {l : Launch} {w0 w : ze_W} {m C P F : Nat} {ar : Nat → Nat → Int} {bz : Nat → Int} (hM : mst G w0 w m C P F ar bz) {c s : Int} (r_s : -2147483648 ≤ s ∧ s < 2147483648) (hc : 0 ≤ c ∧ c < 6) (hv : 1 ≤ ar 1 c.toNat ∧ ar 1 c.toNat ≤ 8) : ze_C G l 0 0 0 M8_isState [.ref m, ze_i c, ze_i s] w (ze_qi (fun r w' => r = bi (0 ≤ s ∧ s < ar 1 c.toNat) ∧ w' = w)) := by
  refine ze_enter (by decide +kernel) rfl ?_
  change ze_V G l (ze_rm 0 0 0) M8_isState _ 0 [(0, .ref m), (1, ze_i (c)), (2, ze_i (s))] [] w 0 0
  refine ze_iload_n dX8_isState_0 rfl ?_
  refine ze_if_lt 18 dX8_isState_1 (by decide) (by omega) (fun q1 => ?_) (fun q1 => ?_)
  · refine ze_iconst dX8_isState_18 ?_
    exact ze_zreturn rfl dX8_isState_19 (by decide) ⟨_, rfl, bi_f (by omega), rfl⟩ rfl rfl
  · refine ze_iload_n dX8_isState_4 rfl ?_
    refine ze_aload_n dX8_isState_5 rfl ?_
    refine ze_getf dX8_isState_6 fl_X8_9 (ms_o hM) rfl ?_
    refine ze_iload_n dX8_isState_9 rfl ?_
    refine ze_iald (j := c.toNat) dX8_isState_10 (show w.2 (m + 1) = some (ze_ia G 6 (ar 1)) from ms_i hM 1 (by decide)) (by omega) (by omega) (by omega) ?_
    refine ze_icmp_ge 18 dX8_isState_11 (by decide) (by omega) (by omega) (fun q2 => ?_) (fun q2 => ?_)
    · refine ze_iconst dX8_isState_18 ?_
      exact ze_zreturn rfl dX8_isState_19 (by decide) ⟨_, rfl, bi_f (by omega), rfl⟩ rfl rfl
    · refine ze_iconst dX8_isState_14 ?_
      refine ze_goto 19 dX8_isState_15 (by decide) ?_
      exact ze_zreturn rfl dX8_isState_19 (by decide) ⟨_, rfl, bi_t (by omega), rfl⟩ rfl rfl
theorem C8_isWeight {G : ze_G} {l : Launch} {w0 w : ze_W} {m C P F : Nat} {ar : Nat → Nat → Int} {bz : Nat → Int} (hM : mst G w0 w m C P F ar bz) {c s : Int} (r_s : -2147483648 ≤ s ∧ s < 2147483648) (hc : 0 ≤ c ∧ c < 6) (hv : 1 ≤ ar 3 c.toNat ∧ ar 3 c.toNat ≤ 1000) : ze_C G l 0 0 0 M8_isWeight [.ref m, ze_i c, ze_i s] w (ze_qi (fun r w' => r = bi (0 ≤ s ∧ s ≤ ar 3 c.toNat) ∧ w' = w)) := by
  refine ze_enter (by decide +kernel) rfl ?_
  change ze_V G l (ze_rm 0 0 0) M8_isWeight _ 0 [(0, .ref m), (1, ze_i (c)), (2, ze_i (s))] [] w 0 0
  refine ze_iload_n dX8_isWeight_0 rfl ?_
  refine ze_if_lt 18 dX8_isWeight_1 (by decide) (by omega) (fun q1 => ?_) (fun q1 => ?_)
  · refine ze_iconst dX8_isWeight_18 ?_
    exact ze_zreturn rfl dX8_isWeight_19 (by decide) ⟨_, rfl, bi_f (by omega), rfl⟩ rfl rfl
  · refine ze_iload_n dX8_isWeight_4 rfl ?_
    refine ze_aload_n dX8_isWeight_5 rfl ?_
    refine ze_getf dX8_isWeight_6 fl_X8_16 (ms_o hM) rfl ?_
    refine ze_iload_n dX8_isWeight_9 rfl ?_
    refine ze_iald (j := c.toNat) dX8_isWeight_10 (show w.2 (m + 3) = some (ze_ia G 6 (ar 3)) from ms_i hM 3 (by decide)) (by omega) (by omega) (by omega) ?_
    refine ze_icmp_gt 18 dX8_isWeight_11 (by decide) (by omega) (by omega) (fun q2 => ?_) (fun q2 => ?_)
    · refine ze_iconst dX8_isWeight_18 ?_
      exact ze_zreturn rfl dX8_isWeight_19 (by decide) ⟨_, rfl, bi_f (by omega), rfl⟩ rfl rfl
    · refine ze_iconst dX8_isWeight_14 ?_
      refine ze_goto 19 dX8_isWeight_15 (by decide) ?_
      exact ze_zreturn rfl dX8_isWeight_19 (by decide) ⟨_, rfl, bi_t (by omega), rfl⟩ rfl rfl
theorem C8_goOf {G : ze_G} {l : Launch} {w0 w : ze_W} {m C P F : Nat} {ar : Nat → Nat → Int} {bz : Nat → Int} (hM : mst G w0 w m C P F ar bz) {c s t : Nat} (hc : c < 6) (hs : s < 8) (ht : t < 8) : ze_C G l 0 0 0 M8_goOf [.ref m, ze_i (c : Nat), ze_i (s : Nat), ze_i (t : Nat)] w (ze_qi (fun r w' => r = ar 5 ((c * 8 + s) * 8 + t) ∧ w' = w)) := by
  refine ze_enter (by decide +kernel) rfl ?_
  change ze_V G l (ze_rm 0 0 0) M8_goOf _ 0 [(0, .ref m), (1, ze_i ((c : Nat))), (2, ze_i ((s : Nat))), (3, ze_i ((t : Nat)))] [] w 0 0
  refine ze_aload_n dX8_goOf_0 rfl ?_
  refine ze_getf dX8_goOf_1 fl_X8_22 (ms_o hM) rfl ?_
  refine ze_iload_n dX8_goOf_4 rfl ?_
  refine ze_bipush dX8_goOf_5 (by decide) ?_
  refine ze_imul dX8_goOf_7 ?_
  refine ze_iload_n dX8_goOf_8 rfl ?_
  refine ze_iadd dX8_goOf_9 ?_
  refine ze_bipush dX8_goOf_10 (by decide) ?_
  refine ze_imul dX8_goOf_12 ?_
  refine ze_iload_n dX8_goOf_13 rfl ?_
  refine ze_iadd dX8_goOf_14 ?_
  refine ze_iald (j := (c * 8 + s) * 8 + t) dX8_goOf_15 (show w.2 (m + 5) = some (ze_ia G 384 (ar 5)) from ms_i hM 5 (by decide)) (by omega) (by omega) (by omega) ?_
  exact ze_ireturn rfl dX8_goOf_16 ⟨_, rfl, rfl, rfl⟩ rfl rfl
/-- what a sign weighs: a missed one weighs the total -/
def shx (ar : Nat → Nat → Int) (c s : Nat) (x : Int) : Int := if x < 0 then ar 3 c else ar 6 ((c * 8 + s) * 6 + x.toNat)
theorem C8_showOf {G : ze_G} {l : Launch} {w0 w : ze_W} {m C P F : Nat} {ar : Nat → Nat → Int} {bz : Nat → Int} (hM : mst G w0 w m C P F ar bz) {c s : Nat} {x : Int} (hc : c < 6) (hs : s < 8) (hx : -1 ≤ x ∧ x < 6) : ze_C G l 0 0 0 M8_showOf [.ref m, ze_i (c : Nat), ze_i (s : Nat), ze_i x] w (ze_qi (fun r w' => r = shx ar c s x ∧ w' = w)) := by
  refine ze_enter (by decide +kernel) rfl ?_
  change ze_V G l (ze_rm 0 0 0) M8_showOf _ 0 [(0, .ref m), (1, ze_i ((c : Nat))), (2, ze_i ((s : Nat))), (3, ze_i (x))] [] w 0 0
  refine ze_iload_n dX8_showOf_0 rfl ?_
  refine ze_if_ge 13 dX8_showOf_1 (by decide) (by omega) (fun q1 => ?_) (fun q1 => ?_)
  · refine ze_aload_n dX8_showOf_13 rfl ?_
    refine ze_getf dX8_showOf_14 fl_X8_25 (ms_o hM) rfl ?_
    refine ze_iload_n dX8_showOf_17 rfl ?_
    refine ze_bipush dX8_showOf_18 (by decide) ?_
    refine ze_imul dX8_showOf_20 ?_
    refine ze_iload_n dX8_showOf_21 rfl ?_
    refine ze_iadd dX8_showOf_22 ?_
    refine ze_bipush dX8_showOf_23 (by decide) ?_
    refine ze_imul dX8_showOf_25 ?_
    refine ze_iload_n dX8_showOf_26 rfl ?_
    refine ze_iadd dX8_showOf_27 ?_
    refine ze_iald (j := (c * 8 + s) * 6 + x.toNat) dX8_showOf_28 (show w.2 (m + 6) = some (ze_ia G 288 (ar 6)) from ms_i hM 6 (by decide)) (by omega) (by omega) (by omega) ?_
    exact ze_ireturn rfl dX8_showOf_29 ⟨_, rfl, by unfold shx; rw [if_neg (by omega)], rfl⟩ rfl rfl
  · refine ze_aload_n dX8_showOf_4 rfl ?_
    refine ze_getf dX8_showOf_5 fl_X8_16 (ms_o hM) rfl ?_
    refine ze_iload_n dX8_showOf_8 rfl ?_
    refine ze_iald (j := c) dX8_showOf_9 (show w.2 (m + 3) = some (ze_ia G 6 (ar 3)) from ms_i hM 3 (by decide)) (by omega) (by omega) (by omega) ?_
    refine ze_goto 29 dX8_showOf_10 (by decide) ?_
    exact ze_ireturn rfl dX8_showOf_29 ⟨_, rfl, by unfold shx; rw [if_pos (by omega)], rfl⟩ rfl rfl
theorem C8_begin {G : ze_G} {l : Launch} {w0 w : ze_W} {m C P F : Nat} {ar : Nat → Nat → Int} {bz : Nat → Int} (hM : mst G w0 w m C P F ar bz) {c s v : Int} (r_c : -2147483648 ≤ c ∧ c < 2147483648) (r_s : -2147483648 ≤ s ∧ s < 2147483648) (r_v : -2147483648 ≤ v ∧ v < 2147483648) (hG : mgd C P F ar) : ze_C G l 1 0 0 M8_begin [.ref m, ze_i c, ze_i s, ze_i v] w (ze_qi (fun r w' => ∃ ar', mst G w0 w' m C P F ar' bz ∧ ((((0 ≤ c ∧ c < (C : Int)) ∧ (0 ≤ s ∧ s < ar 1 c.toNat) ∧ (0 ≤ v ∧ v ≤ ar 3 c.toNat)) ∧ r = ar 4 (c.toNat * 8 + s.toNat) ∧ ar' = va_up ar 4 (va_up (ar 4) (c.toNat * 8 + s.toNat) v)) ∨ (¬ ((0 ≤ c ∧ c < (C : Int)) ∧ (0 ≤ s ∧ s < ar 1 c.toNat) ∧ (0 ≤ v ∧ v ≤ ar 3 c.toNat)) ∧ r = -1 ∧ ar' = ar)))) := by
  refine ze_enter (by decide +kernel) rfl ?_
  change ze_V G l (ze_rm 1 0 0) M8_begin _ 0 [(0, .ref m), (1, ze_i (c)), (2, ze_i (s)), (3, ze_i (v))] [] w 0 0
  refine ze_aload_n dX8_begin_0 rfl ?_
  refine ze_iload_n dX8_begin_1 rfl ?_
  refine ze_callV (As := [ze_i (c)]) (rest := []) dX8_begin_2 (C8_is hM r_c hG.1.1) mo8_is ml_X8_105 in_8_is se_8_is (ms_o hM) rfl rfl rfl rfl rfl ⟨Nat.le_refl _, Nat.le_refl _⟩ rfl (Nat.le_of_ble_eq_true rfl) ?_
  rintro _ w' ⟨r1, rfl, rfl, rfl⟩
  change ze_V G l (ze_rm 1 0 0) M8_begin _ 5 [(0, .ref m), (1, ze_i (c)), (2, ze_i (s)), (3, ze_i (v))] [ze_i (bi (0 ≤ c ∧ c < (C : Int)))] w' 0 0
  refine ze_if_eq 26 dX8_begin_5 (by decide) (bi_rng _) (fun q2 => ?_) (fun q2 => ?_)
  · rw [bi_z] at q2
    refine ze_iconst dX8_begin_26 ?_
    exact ze_ireturn rfl dX8_begin_27 ⟨_, rfl, _, hM, Or.inr ⟨by omega, rfl, rfl⟩⟩ rfl rfl
  · rw [bi_n] at q2
    have hK := mg_c hG q2
    have hK1 := hK.1
    have hK2 := hK.2.1
    have hK3 := hK.2.2.1
    have hG1 := hG.1
    refine ze_aload_n dX8_begin_8 rfl ?_
    refine ze_iload_n dX8_begin_9 rfl ?_
    refine ze_iload_n dX8_begin_10 rfl ?_
    refine ze_callV (As := [ze_i (c), ze_i (s)]) (rest := []) dX8_begin_11 (C8_isState hM (c := c) (s := s) r_s (by omega) (mg_c hG (by omega)).1) mo8_isState ml_X8_109 in_8_isState se_8_isState (ms_o hM) rfl rfl rfl rfl rfl ⟨Nat.le_refl _, Nat.le_refl _⟩ rfl (Nat.le_of_ble_eq_true rfl) ?_
    rintro _ w' ⟨r3, rfl, rfl, rfl⟩
    change ze_V G l (ze_rm 1 0 0) M8_begin _ 14 [(0, .ref m), (1, ze_i (c)), (2, ze_i (s)), (3, ze_i (v))] [ze_i (bi (0 ≤ s ∧ s < ar 1 c.toNat))] w' 0 0
    refine ze_if_eq 26 dX8_begin_14 (by decide) (bi_rng _) (fun q4 => ?_) (fun q4 => ?_)
    · rw [bi_z] at q4
      refine ze_iconst dX8_begin_26 ?_
      exact ze_ireturn rfl dX8_begin_27 ⟨_, rfl, _, hM, Or.inr ⟨by omega, rfl, rfl⟩⟩ rfl rfl
    · rw [bi_n] at q4
      refine ze_aload_n dX8_begin_17 rfl ?_
      refine ze_iload_n dX8_begin_18 rfl ?_
      refine ze_iload_n dX8_begin_19 rfl ?_
      refine ze_callV (As := [ze_i (c), ze_i (v)]) (rest := []) dX8_begin_20 (C8_isWeight hM (c := c) (s := v) r_v (by omega) (mg_c hG (by omega)).2.2.1) mo8_isWeight ml_X8_113 in_8_isWeight se_8_isWeight (ms_o hM) rfl rfl rfl rfl rfl ⟨Nat.le_refl _, Nat.le_refl _⟩ rfl (Nat.le_of_ble_eq_true rfl) ?_
      rintro _ w' ⟨r5, rfl, rfl, rfl⟩
      change ze_V G l (ze_rm 1 0 0) M8_begin _ 23 [(0, .ref m), (1, ze_i (c)), (2, ze_i (s)), (3, ze_i (v))] [ze_i (bi (0 ≤ v ∧ v ≤ ar 3 c.toNat))] w' 0 0
      refine ze_if_ne 28 dX8_begin_23 (by decide) (bi_rng _) (fun q6 => ?_) (fun q6 => ?_)
      · rw [bi_n] at q6
        refine ze_aload_n dX8_begin_28 rfl ?_
        refine ze_getf dX8_begin_29 fl_X8_19 (ms_o hM) rfl ?_
        refine ze_iload_n dX8_begin_32 rfl ?_
        refine ze_bipush dX8_begin_33 (by decide) ?_
        refine ze_imul dX8_begin_35 ?_
        refine ze_iload_n dX8_begin_36 rfl ?_
        refine ze_iadd dX8_begin_37 ?_
        refine ze_iald (j := c.toNat * 8 + s.toNat) dX8_begin_38 (show w'.2 (m + 4) = some (ze_ia G 48 (ar 4)) from ms_i hM 4 (by decide)) (by omega) (by omega) (by omega) ?_
        refine ze_istore (lv' := [(0, .ref m), (1, ze_i (c)), (2, ze_i (s)), (3, ze_i (v)), (4, ze_i (ar 4 (c.toNat * 8 + s.toNat)))]) dX8_begin_39 rfl rfl ?_
        refine ze_aload_n dX8_begin_41 rfl ?_
        refine ze_getf dX8_begin_42 fl_X8_19 (ms_o hM) rfl ?_
        refine ze_iload_n dX8_begin_45 rfl ?_
        refine ze_bipush dX8_begin_46 (by decide) ?_
        refine ze_imul dX8_begin_48 ?_
        refine ze_iload_n dX8_begin_49 rfl ?_
        refine ze_iadd dX8_begin_50 ?_
        refine ze_iload_n dX8_begin_51 rfl ?_
        refine ze_iastW (j := (c.toNat * 8 + s.toNat)) (f' := va_up (ar 4) (c.toNat * 8 + s.toNat) (v)) dX8_begin_52 (show w'.2 (m + 4) = some (ze_ia G 48 (ar 4)) from ms_i hM 4 (by decide)) (by omega) (by omega) (by omega) rfl (fun w7 z7 c7 o7 => ?_)
        have hM7 := ms_wi hM 4 (by decide) z7 c7 o7
        refine ze_iload dX8_begin_53 rfl ?_
        exact ze_ireturn rfl dX8_begin_55 ⟨_, rfl, _, hM7, Or.inl ⟨by omega, rfl, rfl⟩⟩ rfl rfl
      · rw [bi_z] at q6
        refine ze_iconst dX8_begin_26 ?_
        exact ze_ireturn rfl dX8_begin_27 ⟨_, rfl, _, hM, Or.inr ⟨by omega, rfl, rfl⟩⟩ rfl rfl
theorem C8_goOfI {G : ze_G} {l : Launch} {w0 w : ze_W} {m C P F : Nat} {ar : Nat → Nat → Int} {bz : Nat → Int} (hM : mst G w0 w m C P F ar bz) {c s t : Int} (hc : 0 ≤ c ∧ c < 6) (hs : 0 ≤ s ∧ s < 8) (ht : 0 ≤ t ∧ t < 8) : ze_C G l 0 0 0 M8_goOf [.ref m, ze_i c, ze_i s, ze_i t] w (ze_qi (fun r w' => r = ar 5 ((c.toNat * 8 + s.toNat) * 8 + t.toNat) ∧ w' = w)) := by
  obtain ⟨c, rfl⟩ := Int.eq_ofNat_of_zero_le hc.1
  obtain ⟨s, rfl⟩ := Int.eq_ofNat_of_zero_le hs.1
  obtain ⟨t, rfl⟩ := Int.eq_ofNat_of_zero_le ht.1
  exact C8_goOf hM (by omega) (by omega) (by omega)
theorem C8_showOfI {G : ze_G} {l : Launch} {w0 w : ze_W} {m C P F : Nat} {ar : Nat → Nat → Int} {bz : Nat → Int} (hM : mst G w0 w m C P F ar bz) {c s x : Int} (hc : 0 ≤ c ∧ c < 6) (hs : 0 ≤ s ∧ s < 8) (hx : -1 ≤ x ∧ x < 6) : ze_C G l 0 0 0 M8_showOf [.ref m, ze_i c, ze_i s, ze_i x] w (ze_qi (fun r w' => r = shx ar c.toNat s.toNat x ∧ w' = w)) := by
  obtain ⟨c, rfl⟩ := Int.eq_ofNat_of_zero_le hc.1
  obtain ⟨s, rfl⟩ := Int.eq_ofNat_of_zero_le hs.1
  exact C8_showOf hM (by omega) (by omega) hx
theorem C8_go {G : ze_G} {l : Launch} {w0 w : ze_W} {m C P F : Nat} {ar : Nat → Nat → Int} {bz : Nat → Int} (hM : mst G w0 w m C P F ar bz) {c s t v : Int} (r_c : -2147483648 ≤ c ∧ c < 2147483648) (r_s : -2147483648 ≤ s ∧ s < 2147483648) (r_t : -2147483648 ≤ t ∧ t < 2147483648) (r_v : -2147483648 ≤ v ∧ v < 2147483648) (hG : mgd C P F ar) : ze_C G l 1 0 0 M8_go [.ref m, ze_i c, ze_i s, ze_i t, ze_i v] w (ze_qi (fun r w' => ∃ ar', mst G w0 w' m C P F ar' bz ∧ ((((0 ≤ c ∧ c < (C : Int)) ∧ (0 ≤ s ∧ s < ar 1 c.toNat) ∧ (0 ≤ t ∧ t < ar 1 c.toNat) ∧ (0 ≤ v ∧ v ≤ ar 3 c.toNat)) ∧ r = ar 5 ((c.toNat * 8 + s.toNat) * 8 + t.toNat) ∧ ar' = va_up ar 5 (va_up (ar 5) ((c.toNat * 8 + s.toNat) * 8 + t.toNat) v)) ∨ (¬ ((0 ≤ c ∧ c < (C : Int)) ∧ (0 ≤ s ∧ s < ar 1 c.toNat) ∧ (0 ≤ t ∧ t < ar 1 c.toNat) ∧ (0 ≤ v ∧ v ≤ ar 3 c.toNat)) ∧ r = -1 ∧ ar' = ar)))) := by
  refine ze_enter (by decide +kernel) rfl ?_
  change ze_V G l (ze_rm 1 0 0) M8_go _ 0 [(0, .ref m), (1, ze_i (c)), (2, ze_i (s)), (3, ze_i (t)), (4, ze_i (v))] [] w 0 0
  refine ze_aload_n dX8_go_0 rfl ?_
  refine ze_iload_n dX8_go_1 rfl ?_
  refine ze_callV (As := [ze_i (c)]) (rest := []) dX8_go_2 (C8_is hM r_c hG.1.1) mo8_is ml_X8_105 in_8_is se_8_is (ms_o hM) rfl rfl rfl rfl rfl ⟨Nat.le_refl _, Nat.le_refl _⟩ rfl (Nat.le_of_ble_eq_true rfl) ?_
  rintro _ w' ⟨r1, rfl, rfl, rfl⟩
  change ze_V G l (ze_rm 1 0 0) M8_go _ 5 [(0, .ref m), (1, ze_i (c)), (2, ze_i (s)), (3, ze_i (t)), (4, ze_i (v))] [ze_i (bi (0 ≤ c ∧ c < (C : Int)))] w' 0 0
  refine ze_if_eq 36 dX8_go_5 (by decide) (bi_rng _) (fun q2 => ?_) (fun q2 => ?_)
  · rw [bi_z] at q2
    refine ze_iconst dX8_go_36 ?_
    exact ze_ireturn rfl dX8_go_37 ⟨_, rfl, _, hM, Or.inr ⟨by omega, rfl, rfl⟩⟩ rfl rfl
  · rw [bi_n] at q2
    have hK := mg_c hG q2
    have hK1 := hK.1
    have hK2 := hK.2.1
    have hK3 := hK.2.2.1
    have hG1 := hG.1
    refine ze_aload_n dX8_go_8 rfl ?_
    refine ze_iload_n dX8_go_9 rfl ?_
    refine ze_iload_n dX8_go_10 rfl ?_
    refine ze_callV (As := [ze_i (c), ze_i (s)]) (rest := []) dX8_go_11 (C8_isState hM (c := c) (s := s) r_s (by omega) (mg_c hG (by omega)).1) mo8_isState ml_X8_109 in_8_isState se_8_isState (ms_o hM) rfl rfl rfl rfl rfl ⟨Nat.le_refl _, Nat.le_refl _⟩ rfl (Nat.le_of_ble_eq_true rfl) ?_
    rintro _ w' ⟨r3, rfl, rfl, rfl⟩
    change ze_V G l (ze_rm 1 0 0) M8_go _ 14 [(0, .ref m), (1, ze_i (c)), (2, ze_i (s)), (3, ze_i (t)), (4, ze_i (v))] [ze_i (bi (0 ≤ s ∧ s < ar 1 c.toNat))] w' 0 0
    refine ze_if_eq 36 dX8_go_14 (by decide) (bi_rng _) (fun q4 => ?_) (fun q4 => ?_)
    · rw [bi_z] at q4
      refine ze_iconst dX8_go_36 ?_
      exact ze_ireturn rfl dX8_go_37 ⟨_, rfl, _, hM, Or.inr ⟨by omega, rfl, rfl⟩⟩ rfl rfl
    · rw [bi_n] at q4
      refine ze_aload_n dX8_go_17 rfl ?_
      refine ze_iload_n dX8_go_18 rfl ?_
      refine ze_iload_n dX8_go_19 rfl ?_
      refine ze_callV (As := [ze_i (c), ze_i (t)]) (rest := []) dX8_go_20 (C8_isState hM (c := c) (s := t) r_t (by omega) (mg_c hG (by omega)).1) mo8_isState ml_X8_109 in_8_isState se_8_isState (ms_o hM) rfl rfl rfl rfl rfl ⟨Nat.le_refl _, Nat.le_refl _⟩ rfl (Nat.le_of_ble_eq_true rfl) ?_
      rintro _ w' ⟨r5, rfl, rfl, rfl⟩
      change ze_V G l (ze_rm 1 0 0) M8_go _ 23 [(0, .ref m), (1, ze_i (c)), (2, ze_i (s)), (3, ze_i (t)), (4, ze_i (v))] [ze_i (bi (0 ≤ t ∧ t < ar 1 c.toNat))] w' 0 0
      refine ze_if_eq 36 dX8_go_23 (by decide) (bi_rng _) (fun q6 => ?_) (fun q6 => ?_)
      · rw [bi_z] at q6
        refine ze_iconst dX8_go_36 ?_
        exact ze_ireturn rfl dX8_go_37 ⟨_, rfl, _, hM, Or.inr ⟨by omega, rfl, rfl⟩⟩ rfl rfl
      · rw [bi_n] at q6
        refine ze_aload_n dX8_go_26 rfl ?_
        refine ze_iload_n dX8_go_27 rfl ?_
        refine ze_iload dX8_go_28 rfl ?_
        refine ze_callV (As := [ze_i (c), ze_i (v)]) (rest := []) dX8_go_30 (C8_isWeight hM (c := c) (s := v) r_v (by omega) (mg_c hG (by omega)).2.2.1) mo8_isWeight ml_X8_113 in_8_isWeight se_8_isWeight (ms_o hM) rfl rfl rfl rfl rfl ⟨Nat.le_refl _, Nat.le_refl _⟩ rfl (Nat.le_of_ble_eq_true rfl) ?_
        rintro _ w' ⟨r7, rfl, rfl, rfl⟩
        change ze_V G l (ze_rm 1 0 0) M8_go _ 33 [(0, .ref m), (1, ze_i (c)), (2, ze_i (s)), (3, ze_i (t)), (4, ze_i (v))] [ze_i (bi (0 ≤ v ∧ v ≤ ar 3 c.toNat))] w' 0 0
        refine ze_if_ne 38 dX8_go_33 (by decide) (bi_rng _) (fun q8 => ?_) (fun q8 => ?_)
        · rw [bi_n] at q8
          refine ze_aload_n dX8_go_38 rfl ?_
          refine ze_iload_n dX8_go_39 rfl ?_
          refine ze_iload_n dX8_go_40 rfl ?_
          refine ze_iload_n dX8_go_41 rfl ?_
          refine ze_callV (As := [ze_i (c), ze_i (s), ze_i (t)]) (rest := []) dX8_go_42 (C8_goOfI hM (c := c) (s := s) (t := t) (by omega) (by omega) (by omega)) mo8_goOf ml_X8_116 in_8_goOf se_8_goOf (ms_o hM) rfl rfl rfl rfl rfl ⟨Nat.le_refl _, Nat.le_refl _⟩ rfl (Nat.le_of_ble_eq_true rfl) ?_
          rintro _ w' ⟨r9, rfl, rfl, rfl⟩
          change ze_V G l (ze_rm 1 0 0) M8_go _ 45 [(0, .ref m), (1, ze_i (c)), (2, ze_i (s)), (3, ze_i (t)), (4, ze_i (v))] [ze_i (ar 5 ((c.toNat * 8 + s.toNat) * 8 + t.toNat))] w' 0 0
          refine ze_istore (lv' := [(0, .ref m), (1, ze_i (c)), (2, ze_i (s)), (3, ze_i (t)), (4, ze_i (v)), (5, ze_i (ar 5 ((c.toNat * 8 + s.toNat) * 8 + t.toNat)))]) dX8_go_45 rfl rfl ?_
          refine ze_aload_n dX8_go_47 rfl ?_
          refine ze_getf dX8_go_48 fl_X8_22 (ms_o hM) rfl ?_
          refine ze_iload_n dX8_go_51 rfl ?_
          refine ze_bipush dX8_go_52 (by decide) ?_
          refine ze_imul dX8_go_54 ?_
          refine ze_iload_n dX8_go_55 rfl ?_
          refine ze_iadd dX8_go_56 ?_
          refine ze_bipush dX8_go_57 (by decide) ?_
          refine ze_imul dX8_go_59 ?_
          refine ze_iload_n dX8_go_60 rfl ?_
          refine ze_iadd dX8_go_61 ?_
          refine ze_iload dX8_go_62 rfl ?_
          refine ze_iastW (j := ((c.toNat * 8 + s.toNat) * 8 + t.toNat)) (f' := va_up (ar 5) ((c.toNat * 8 + s.toNat) * 8 + t.toNat) (v)) dX8_go_64 (show w'.2 (m + 5) = some (ze_ia G 384 (ar 5)) from ms_i hM 5 (by decide)) (by omega) (by omega) (by omega) rfl (fun w10 z10 c10 o10 => ?_)
          have hM10 := ms_wi hM 5 (by decide) z10 c10 o10
          refine ze_iload dX8_go_65 rfl ?_
          exact ze_ireturn rfl dX8_go_67 ⟨_, rfl, _, hM10, Or.inl ⟨by omega, rfl, rfl⟩⟩ rfl rfl
        · rw [bi_z] at q8
          refine ze_iconst dX8_go_36 ?_
          exact ze_ireturn rfl dX8_go_37 ⟨_, rfl, _, hM, Or.inr ⟨by omega, rfl, rfl⟩⟩ rfl rfl
theorem C8_show {G : ze_G} {l : Launch} {w0 w : ze_W} {m C P F : Nat} {ar : Nat → Nat → Int} {bz : Nat → Int} (hM : mst G w0 w m C P F ar bz) {c s x v : Int} (r_c : -2147483648 ≤ c ∧ c < 2147483648) (r_s : -2147483648 ≤ s ∧ s < 2147483648) (r_x : -2147483648 ≤ x ∧ x < 2147483648) (r_v : -2147483648 ≤ v ∧ v < 2147483648) (hG : mgd C P F ar) : ze_C G l 1 0 0 M8_show [.ref m, ze_i c, ze_i s, ze_i x, ze_i v] w (ze_qi (fun r w' => ∃ ar', mst G w0 w' m C P F ar' bz ∧ ((((0 ≤ c ∧ c < (C : Int)) ∧ (0 ≤ s ∧ s < ar 1 c.toNat) ∧ (0 ≤ x ∧ x < ar 2 c.toNat) ∧ (0 ≤ v ∧ v ≤ ar 3 c.toNat)) ∧ r = ar 6 ((c.toNat * 8 + s.toNat) * 6 + x.toNat) ∧ ar' = va_up ar 6 (va_up (ar 6) ((c.toNat * 8 + s.toNat) * 6 + x.toNat) v)) ∨ (¬ ((0 ≤ c ∧ c < (C : Int)) ∧ (0 ≤ s ∧ s < ar 1 c.toNat) ∧ (0 ≤ x ∧ x < ar 2 c.toNat) ∧ (0 ≤ v ∧ v ≤ ar 3 c.toNat)) ∧ r = -1 ∧ ar' = ar)))) := by
  refine ze_enter (by decide +kernel) rfl ?_
  change ze_V G l (ze_rm 1 0 0) M8_show _ 0 [(0, .ref m), (1, ze_i (c)), (2, ze_i (s)), (3, ze_i (x)), (4, ze_i (v))] [] w 0 0
  refine ze_aload_n dX8_show_0 rfl ?_
  refine ze_iload_n dX8_show_1 rfl ?_
  refine ze_callV (As := [ze_i (c)]) (rest := []) dX8_show_2 (C8_is hM r_c hG.1.1) mo8_is ml_X8_105 in_8_is se_8_is (ms_o hM) rfl rfl rfl rfl rfl ⟨Nat.le_refl _, Nat.le_refl _⟩ rfl (Nat.le_of_ble_eq_true rfl) ?_
  rintro _ w' ⟨r1, rfl, rfl, rfl⟩
  change ze_V G l (ze_rm 1 0 0) M8_show _ 5 [(0, .ref m), (1, ze_i (c)), (2, ze_i (s)), (3, ze_i (x)), (4, ze_i (v))] [ze_i (bi (0 ≤ c ∧ c < (C : Int)))] w' 0 0
  refine ze_if_eq 41 dX8_show_5 (by decide) (bi_rng _) (fun q2 => ?_) (fun q2 => ?_)
  · rw [bi_z] at q2
    refine ze_iconst dX8_show_41 ?_
    exact ze_ireturn rfl dX8_show_42 ⟨_, rfl, _, hM, Or.inr ⟨by omega, rfl, rfl⟩⟩ rfl rfl
  · rw [bi_n] at q2
    have hK := mg_c hG q2
    have hK1 := hK.1
    have hK2 := hK.2.1
    have hK3 := hK.2.2.1
    have hG1 := hG.1
    refine ze_aload_n dX8_show_8 rfl ?_
    refine ze_iload_n dX8_show_9 rfl ?_
    refine ze_iload_n dX8_show_10 rfl ?_
    refine ze_callV (As := [ze_i (c), ze_i (s)]) (rest := []) dX8_show_11 (C8_isState hM (c := c) (s := s) r_s (by omega) (mg_c hG (by omega)).1) mo8_isState ml_X8_109 in_8_isState se_8_isState (ms_o hM) rfl rfl rfl rfl rfl ⟨Nat.le_refl _, Nat.le_refl _⟩ rfl (Nat.le_of_ble_eq_true rfl) ?_
    rintro _ w' ⟨r3, rfl, rfl, rfl⟩
    change ze_V G l (ze_rm 1 0 0) M8_show _ 14 [(0, .ref m), (1, ze_i (c)), (2, ze_i (s)), (3, ze_i (x)), (4, ze_i (v))] [ze_i (bi (0 ≤ s ∧ s < ar 1 c.toNat))] w' 0 0
    refine ze_if_eq 41 dX8_show_14 (by decide) (bi_rng _) (fun q4 => ?_) (fun q4 => ?_)
    · rw [bi_z] at q4
      refine ze_iconst dX8_show_41 ?_
      exact ze_ireturn rfl dX8_show_42 ⟨_, rfl, _, hM, Or.inr ⟨by omega, rfl, rfl⟩⟩ rfl rfl
    · rw [bi_n] at q4
      refine ze_iload_n dX8_show_17 rfl ?_
      refine ze_if_lt 41 dX8_show_18 (by decide) (by omega) (fun q5 => ?_) (fun q5 => ?_)
      · refine ze_iconst dX8_show_41 ?_
        exact ze_ireturn rfl dX8_show_42 ⟨_, rfl, _, hM, Or.inr ⟨by omega, rfl, rfl⟩⟩ rfl rfl
      · refine ze_iload_n dX8_show_21 rfl ?_
        refine ze_aload_n dX8_show_22 rfl ?_
        refine ze_getf dX8_show_23 fl_X8_13 (ms_o hM) rfl ?_
        refine ze_iload_n dX8_show_26 rfl ?_
        refine ze_iald (j := c.toNat) dX8_show_27 (show w'.2 (m + 2) = some (ze_ia G 6 (ar 2)) from ms_i hM 2 (by decide)) (by omega) (by omega) (by omega) ?_
        refine ze_icmp_ge 41 dX8_show_28 (by decide) (by omega) (by omega) (fun q6 => ?_) (fun q6 => ?_)
        · refine ze_iconst dX8_show_41 ?_
          exact ze_ireturn rfl dX8_show_42 ⟨_, rfl, _, hM, Or.inr ⟨by omega, rfl, rfl⟩⟩ rfl rfl
        · refine ze_aload_n dX8_show_31 rfl ?_
          refine ze_iload_n dX8_show_32 rfl ?_
          refine ze_iload dX8_show_33 rfl ?_
          refine ze_callV (As := [ze_i (c), ze_i (v)]) (rest := []) dX8_show_35 (C8_isWeight hM (c := c) (s := v) r_v (by omega) (mg_c hG (by omega)).2.2.1) mo8_isWeight ml_X8_113 in_8_isWeight se_8_isWeight (ms_o hM) rfl rfl rfl rfl rfl ⟨Nat.le_refl _, Nat.le_refl _⟩ rfl (Nat.le_of_ble_eq_true rfl) ?_
          rintro _ w' ⟨r7, rfl, rfl, rfl⟩
          change ze_V G l (ze_rm 1 0 0) M8_show _ 38 [(0, .ref m), (1, ze_i (c)), (2, ze_i (s)), (3, ze_i (x)), (4, ze_i (v))] [ze_i (bi (0 ≤ v ∧ v ≤ ar 3 c.toNat))] w' 0 0
          refine ze_if_ne 43 dX8_show_38 (by decide) (bi_rng _) (fun q8 => ?_) (fun q8 => ?_)
          · rw [bi_n] at q8
            refine ze_aload_n dX8_show_43 rfl ?_
            refine ze_iload_n dX8_show_44 rfl ?_
            refine ze_iload_n dX8_show_45 rfl ?_
            refine ze_iload_n dX8_show_46 rfl ?_
            refine ze_callV (As := [ze_i (c), ze_i (s), ze_i (x)]) (rest := []) dX8_show_47 (C8_showOfI hM (c := c) (s := s) (x := x) (by omega) (by omega) (by omega)) mo8_showOf ml_X8_120 in_8_showOf se_8_showOf (ms_o hM) rfl rfl rfl rfl rfl ⟨Nat.le_refl _, Nat.le_refl _⟩ rfl (Nat.le_of_ble_eq_true rfl) ?_
            rintro _ w' ⟨r9, rfl, rfl, rfl⟩
            change ze_V G l (ze_rm 1 0 0) M8_show _ 50 [(0, .ref m), (1, ze_i (c)), (2, ze_i (s)), (3, ze_i (x)), (4, ze_i (v))] [ze_i (shx ar c.toNat s.toNat x)] w' 0 0
            refine ze_istore (lv' := [(0, .ref m), (1, ze_i (c)), (2, ze_i (s)), (3, ze_i (x)), (4, ze_i (v)), (5, ze_i (shx ar c.toNat s.toNat x))]) dX8_show_50 rfl rfl ?_
            refine ze_aload_n dX8_show_52 rfl ?_
            refine ze_getf dX8_show_53 fl_X8_25 (ms_o hM) rfl ?_
            refine ze_iload_n dX8_show_56 rfl ?_
            refine ze_bipush dX8_show_57 (by decide) ?_
            refine ze_imul dX8_show_59 ?_
            refine ze_iload_n dX8_show_60 rfl ?_
            refine ze_iadd dX8_show_61 ?_
            refine ze_bipush dX8_show_62 (by decide) ?_
            refine ze_imul dX8_show_64 ?_
            refine ze_iload_n dX8_show_65 rfl ?_
            refine ze_iadd dX8_show_66 ?_
            refine ze_iload dX8_show_67 rfl ?_
            refine ze_iastW (j := ((c.toNat * 8 + s.toNat) * 6 + x.toNat)) (f' := va_up (ar 6) ((c.toNat * 8 + s.toNat) * 6 + x.toNat) (v)) dX8_show_69 (show w'.2 (m + 6) = some (ze_ia G 288 (ar 6)) from ms_i hM 6 (by decide)) (by omega) (by omega) (by omega) rfl (fun w10 z10 c10 o10 => ?_)
            have hM10 := ms_wi hM 6 (by decide) z10 c10 o10
            refine ze_iload dX8_show_70 rfl ?_
            exact ze_ireturn rfl dX8_show_72 ⟨_, rfl, _, hM10, Or.inl ⟨by omega, by unfold shx; rw [if_neg (by omega)], rfl⟩⟩ rfl rfl
          · rw [bi_z] at q8
            refine ze_iconst dX8_show_41 ?_
            exact ze_ireturn rfl dX8_show_42 ⟨_, rfl, _, hM, Or.inr ⟨by omega, rfl, rfl⟩⟩ rfl rfl
theorem C8_told {G : ze_G} {l : Launch} {w0 w : ze_W} {m C P F : Nat} {ar : Nat → Nat → Int} {bz : Nat → Int} (hM : mst G w0 w m C P F ar bz) {c x : Int} (r_c : -2147483648 ≤ c ∧ c < 2147483648) (r_x : -2147483648 ≤ x ∧ x < 2147483648) (hG : mgd C P F ar) : ze_C G l 1 0 0 M8_told [.ref m, ze_i c, ze_i x] w (ze_qi (fun r w' => w' = w ∧ r = if (0 ≤ c ∧ c < (C : Int)) ∧ (0 ≤ x ∧ x ≤ 2) then (if x = 0 then ar 1 c.toNat else if x = 1 then ar 2 c.toNat else ar 3 c.toNat) else -1)) := by
  refine ze_enter (by decide +kernel) rfl ?_
  change ze_V G l (ze_rm 1 0 0) M8_told _ 0 [(0, .ref m), (1, ze_i (c)), (2, ze_i (x))] [] w 0 0
  refine ze_aload_n dX8_told_0 rfl ?_
  refine ze_iload_n dX8_told_1 rfl ?_
  refine ze_callV (As := [ze_i (c)]) (rest := []) dX8_told_2 (C8_is hM r_c hG.1.1) mo8_is ml_X8_105 in_8_is se_8_is (ms_o hM) rfl rfl rfl rfl rfl ⟨Nat.le_refl _, Nat.le_refl _⟩ rfl (Nat.le_of_ble_eq_true rfl) ?_
  rintro _ w' ⟨r1, rfl, rfl, rfl⟩
  change ze_V G l (ze_rm 1 0 0) M8_told _ 5 [(0, .ref m), (1, ze_i (c)), (2, ze_i (x))] [ze_i (bi (0 ≤ c ∧ c < (C : Int)))] w' 0 0
  refine ze_if_eq 17 dX8_told_5 (by decide) (bi_rng _) (fun q2 => ?_) (fun q2 => ?_)
  · rw [bi_z] at q2
    refine ze_iconst dX8_told_17 ?_
    exact ze_ireturn rfl dX8_told_18 ⟨_, rfl, rfl, by rw [if_neg (by omega)]⟩ rfl rfl
  · rw [bi_n] at q2
    have hK := mg_c hG q2
    have hK1 := hK.1
    have hK2 := hK.2.1
    have hK3 := hK.2.2.1
    have hG1 := hG.1
    refine ze_iload_n dX8_told_8 rfl ?_
    refine ze_if_lt 17 dX8_told_9 (by decide) (by omega) (fun q3 => ?_) (fun q3 => ?_)
    · refine ze_iconst dX8_told_17 ?_
      exact ze_ireturn rfl dX8_told_18 ⟨_, rfl, rfl, by rw [if_neg (by omega)]⟩ rfl rfl
    · refine ze_iload_n dX8_told_12 rfl ?_
      refine ze_iconst dX8_told_13 ?_
      refine ze_icmp_le 19 dX8_told_14 (by decide) (by omega) (by omega) (fun q4 => ?_) (fun q4 => ?_)
      · refine ze_iload_n dX8_told_19 rfl ?_
        refine ze_if_ne 32 dX8_told_20 (by decide) (by omega) (fun q5 => ?_) (fun q5 => ?_)
        · refine ze_iload_n dX8_told_32 rfl ?_
          refine ze_iconst dX8_told_33 ?_
          refine ze_icmp_ne 46 dX8_told_34 (by decide) (by omega) (by omega) (fun q6 => ?_) (fun q6 => ?_)
          · refine ze_aload_n dX8_told_46 rfl ?_
            refine ze_getf dX8_told_47 fl_X8_16 (ms_o hM) rfl ?_
            refine ze_iload_n dX8_told_50 rfl ?_
            refine ze_iald (j := c.toNat) dX8_told_51 (show w'.2 (m + 3) = some (ze_ia G 6 (ar 3)) from ms_i hM 3 (by decide)) (by omega) (by omega) (by omega) ?_
            exact ze_ireturn rfl dX8_told_52 ⟨_, rfl, rfl, by rw [if_pos (by omega), if_neg (by omega), if_neg (by omega)]⟩ rfl rfl
          · refine ze_aload_n dX8_told_37 rfl ?_
            refine ze_getf dX8_told_38 fl_X8_13 (ms_o hM) rfl ?_
            refine ze_iload_n dX8_told_41 rfl ?_
            refine ze_iald (j := c.toNat) dX8_told_42 (show w'.2 (m + 2) = some (ze_ia G 6 (ar 2)) from ms_i hM 2 (by decide)) (by omega) (by omega) (by omega) ?_
            refine ze_goto 52 dX8_told_43 (by decide) ?_
            exact ze_ireturn rfl dX8_told_52 ⟨_, rfl, rfl, by rw [if_pos (by omega), if_neg (by omega), if_pos (by omega)]⟩ rfl rfl
        · refine ze_aload_n dX8_told_23 rfl ?_
          refine ze_getf dX8_told_24 fl_X8_9 (ms_o hM) rfl ?_
          refine ze_iload_n dX8_told_27 rfl ?_
          refine ze_iald (j := c.toNat) dX8_told_28 (show w'.2 (m + 1) = some (ze_ia G 6 (ar 1)) from ms_i hM 1 (by decide)) (by omega) (by omega) (by omega) ?_
          refine ze_goto 52 dX8_told_29 (by decide) ?_
          exact ze_ireturn rfl dX8_told_52 ⟨_, rfl, rfl, by rw [if_pos (by omega), if_pos (by omega)]⟩ rfl rfl
      · refine ze_iconst dX8_told_17 ?_
        exact ze_ireturn rfl dX8_told_18 ⟨_, rfl, rfl, by rw [if_neg (by omega)]⟩ rfl rfl
theorem C8_at {G : ze_G} {l : Launch} {w0 w : ze_W} {m C P F : Nat} {ar : Nat → Nat → Int} {bz : Nat → Int} (hM : mst G w0 w m C P F ar bz) {x : Int} (r_x : -2147483648 ≤ x ∧ x < 2147483648) (hG : mgd C P F ar) : ze_C G l 0 0 0 M8_at [.ref m, ze_i x] w (ze_qi (fun r w' => w' = w ∧ r = if 0 ≤ x ∧ x < (P : Int) then ar 7 x.toNat else -2)) := by
  have hG1 := hG.1
  refine ze_enter (by decide +kernel) rfl ?_
  change ze_V G l (ze_rm 0 0 0) M8_at _ 0 [(0, .ref m), (1, ze_i (x))] [] w 0 0
  refine ze_iload_n dX8_at_0 rfl ?_
  refine ze_if_lt 21 dX8_at_1 (by decide) (by omega) (fun q1 => ?_) (fun q1 => ?_)
  · refine ze_bipush dX8_at_21 (by decide) ?_
    exact ze_ireturn rfl dX8_at_23 ⟨_, rfl, rfl, by rw [if_neg (by omega)]⟩ rfl rfl
  · refine ze_iload_n dX8_at_4 rfl ?_
    refine ze_aload_n dX8_at_5 rfl ?_
    refine ze_getf dX8_at_6 fl_X8_126 (ms_o hM) rfl ?_
    refine ze_icmp_ge 21 dX8_at_9 (by decide) (by omega) (by omega) (fun q2 => ?_) (fun q2 => ?_)
    · refine ze_bipush dX8_at_21 (by decide) ?_
      exact ze_ireturn rfl dX8_at_23 ⟨_, rfl, rfl, by rw [if_neg (by omega)]⟩ rfl rfl
    · refine ze_aload_n dX8_at_12 rfl ?_
      refine ze_getf dX8_at_13 fl_X8_28 (ms_o hM) rfl ?_
      refine ze_iload_n dX8_at_16 rfl ?_
      refine ze_iald (j := x.toNat) dX8_at_17 (show w.2 (m + 7) = some (ze_ia G 60 (ar 7)) from ms_i hM 7 (by decide)) (by omega) (by omega) (by omega) ?_
      refine ze_goto 23 dX8_at_18 (by decide) ?_
      exact ze_ireturn rfl dX8_at_23 ⟨_, rfl, rfl, by rw [if_pos (by omega)]⟩ rfl rfl
theorem C8_state {G : ze_G} {l : Launch} {w0 w : ze_W} {m C P F : Nat} {ar : Nat → Nat → Int} {bz : Nat → Int} (hM : mst G w0 w m C P F ar bz) {x : Int} (r_x : -2147483648 ≤ x ∧ x < 2147483648) (hG : mgd C P F ar) : ze_C G l 0 0 0 M8_state [.ref m, ze_i x] w (ze_qi (fun r w' => w' = w ∧ r = if 0 ≤ x ∧ x < (F : Int) then ar 17 x.toNat else -1)) := by
  have hG1 := hG.1
  refine ze_enter (by decide +kernel) rfl ?_
  change ze_V G l (ze_rm 0 0 0) M8_state _ 0 [(0, .ref m), (1, ze_i (x))] [] w 0 0
  refine ze_iload_n dX8_state_0 rfl ?_
  refine ze_if_lt 21 dX8_state_1 (by decide) (by omega) (fun q1 => ?_) (fun q1 => ?_)
  · refine ze_iconst dX8_state_21 ?_
    exact ze_ireturn rfl dX8_state_22 ⟨_, rfl, rfl, by rw [if_neg (by omega)]⟩ rfl rfl
  · refine ze_iload_n dX8_state_4 rfl ?_
    refine ze_aload_n dX8_state_5 rfl ?_
    refine ze_getf dX8_state_6 fl_X8_189 (ms_o hM) rfl ?_
    refine ze_icmp_ge 21 dX8_state_9 (by decide) (by omega) (by omega) (fun q2 => ?_) (fun q2 => ?_)
    · refine ze_iconst dX8_state_21 ?_
      exact ze_ireturn rfl dX8_state_22 ⟨_, rfl, rfl, by rw [if_neg (by omega)]⟩ rfl rfl
    · refine ze_aload_n dX8_state_12 rfl ?_
      refine ze_getf dX8_state_13 fl_X8_62 (ms_o hM) rfl ?_
      refine ze_iload_n dX8_state_16 rfl ?_
      refine ze_iald (j := x.toNat) dX8_state_17 (show w.2 (m + 17) = some (ze_ia G 60 (ar 17)) from ms_i hM 17 (by decide)) (by omega) (by omega) (by omega) ?_
      refine ze_goto 22 dX8_state_18 (by decide) ?_
      exact ze_ireturn rfl dX8_state_22 ⟨_, rfl, rfl, by rw [if_pos (by omega)]⟩ rfl rfl
theorem C8_count {G : ze_G} {l : Launch} {w0 w : ze_W} {m C P F : Nat} {ar : Nat → Nat → Int} {bz : Nat → Int} (hM : mst G w0 w m C P F ar bz) {x : Int} (r_x : -2147483648 ≤ x ∧ x < 2147483648) : ze_C G l 0 0 0 M8_count [.ref m, ze_i x] w (ze_qi (fun r w' => w' = w ∧ r = if x = 0 then (C : Int) else if x = 1 then (P : Int) else -1)) := by
  refine ze_enter (by decide +kernel) rfl ?_
  change ze_V G l (ze_rm 0 0 0) M8_count _ 0 [(0, .ref m), (1, ze_i (x))] [] w 0 0
  refine ze_iload_n dX8_count_0 rfl ?_
  refine ze_if_ne 11 dX8_count_1 (by decide) (by omega) (fun q1 => ?_) (fun q1 => ?_)
  · refine ze_iload_n dX8_count_11 rfl ?_
    refine ze_iconst dX8_count_12 ?_
    refine ze_icmp_ne 23 dX8_count_13 (by decide) (by omega) (by omega) (fun q2 => ?_) (fun q2 => ?_)
    · refine ze_iconst dX8_count_23 ?_
      exact ze_ireturn rfl dX8_count_24 ⟨_, rfl, rfl, by rw [if_neg (by omega), if_neg (by omega)]⟩ rfl rfl
    · refine ze_aload_n dX8_count_16 rfl ?_
      refine ze_getf dX8_count_17 fl_X8_126 (ms_o hM) rfl ?_
      refine ze_goto 24 dX8_count_20 (by decide) ?_
      exact ze_ireturn rfl dX8_count_24 ⟨_, rfl, rfl, by rw [if_neg (by omega), if_pos (by omega)]⟩ rfl rfl
  · refine ze_aload_n dX8_count_4 rfl ?_
    refine ze_getf dX8_count_5 fl_X8_101 (ms_o hM) rfl ?_
    refine ze_goto 24 dX8_count_8 (by decide) ?_
    exact ze_ireturn rfl dX8_count_24 ⟨_, rfl, rfl, by rw [if_pos (by omega)]⟩ rfl rfl
theorem C8_sign {G : ze_G} {l : Launch} {w0 w : ze_W} {m C P F : Nat} {ar : Nat → Nat → Int} {bz : Nat → Int} (hM : mst G w0 w m C P F ar bz) {x : Int} (r_x : -2147483648 ≤ x ∧ x < 2147483648) (hG : mgd C P F ar) : ze_C G l 0 0 0 M8_sign [.ref m, ze_i x] w (ze_qi (fun r w' => ∃ ar' P', mst G w0 w' m C P' F ar' bz ∧ ((¬ (-1 ≤ x ∧ x < 6) ∧ r = -1 ∧ ar' = ar ∧ P' = P) ∨ ((-1 ≤ x ∧ x < 6) ∧ P = 60 ∧ r = -6 ∧ ar' = ar ∧ P' = P) ∨ ((-1 ≤ x ∧ x < 6) ∧ P < 60 ∧ r = (P + 1 : Nat) ∧ ar' = va_up ar 7 (va_up (ar 7) P x) ∧ P' = P + 1)))) := by
  have hG1 := hG.1
  refine ze_enter (by decide +kernel) rfl ?_
  change ze_V G l (ze_rm 0 0 0) M8_sign _ 0 [(0, .ref m), (1, ze_i (x))] [] w 0 0
  refine ze_iload_n dX8_sign_0 rfl ?_
  refine ze_iconst dX8_sign_1 ?_
  refine ze_icmp_lt 11 dX8_sign_2 (by decide) (by omega) (by omega) (fun q1 => ?_) (fun q1 => ?_)
  · refine ze_iconst dX8_sign_11 ?_
    exact ze_ireturn rfl dX8_sign_12 ⟨_, rfl, _, _, hM, Or.inl ⟨by omega, rfl, rfl, rfl⟩⟩ rfl rfl
  · refine ze_iload_n dX8_sign_5 rfl ?_
    refine ze_bipush dX8_sign_6 (by decide) ?_
    refine ze_icmp_lt 13 dX8_sign_8 (by decide) (by omega) (by omega) (fun q2 => ?_) (fun q2 => ?_)
    · refine ze_aload_n dX8_sign_13 rfl ?_
      refine ze_getf dX8_sign_14 fl_X8_126 (ms_o hM) rfl ?_
      refine ze_bipush dX8_sign_17 (by decide) ?_
      refine ze_icmp_ne 25 dX8_sign_19 (by decide) (by omega) (by omega) (fun q3 => ?_) (fun q3 => ?_)
      · refine ze_aload_n dX8_sign_25 rfl ?_
        refine ze_getf dX8_sign_26 fl_X8_28 (ms_o hM) rfl ?_
        refine ze_aload_n dX8_sign_29 rfl ?_
        refine ze_getf dX8_sign_30 fl_X8_126 (ms_o hM) rfl ?_
        refine ze_iload_n dX8_sign_33 rfl ?_
        refine ze_iastW (j := P) (f' := va_up (ar 7) P (x)) dX8_sign_34 (show w.2 (m + 7) = some (ze_ia G 60 (ar 7)) from ms_i hM 7 (by decide)) (by omega) (by omega) (by omega) rfl (fun w4 z4 c4 o4 => ?_)
        have hM4 := ms_wi hM 7 (by decide) z4 c4 o4
        refine ze_aload_n dX8_sign_35 rfl ?_
        refine ze_dup dX8_sign_36 rfl ?_
        refine ze_getf dX8_sign_37 fl_X8_126 (ms_o hM4) rfl ?_
        refine ze_iconst dX8_sign_40 ?_
        refine ze_iadd dX8_sign_41 ?_
        refine ze_ti (b := ((P + 1 : Nat))) (by omega) ?_
        refine ze_putfW (fs' := mfs m C (P + 1) F) dX8_sign_42 fl_X8_126 (Or.inl rfl) (ms_o hM4) rfl rfl (Nat.le_of_ble_eq_true rfl) rfl (fun w5 z5 c5 o5 => ?_)
        have hM5 := ms_wo (C' := C) (P' := P + 1) (F' := F) hM4 z5 c5 o5
        refine ze_aload_n dX8_sign_45 rfl ?_
        refine ze_getf dX8_sign_46 fl_X8_126 (ms_o hM5) rfl ?_
        exact ze_ireturn rfl dX8_sign_49 ⟨_, rfl, _, _, hM5, Or.inr (Or.inr ⟨by omega, by omega, rfl, rfl, rfl⟩)⟩ rfl rfl
      · refine ze_bipush dX8_sign_22 (by decide) ?_
        exact ze_ireturn rfl dX8_sign_24 ⟨_, rfl, _, _, hM, Or.inr (Or.inl ⟨by omega, by omega, rfl, rfl, rfl⟩)⟩ rfl rfl
    · refine ze_iconst dX8_sign_11 ?_
      exact ze_ireturn rfl dX8_sign_12 ⟨_, rfl, _, _, hM, Or.inl ⟨by omega, rfl, rfl, rfl⟩⟩ rfl rfl
theorem C8_cut {G : ze_G} {l : Launch} {w0 w : ze_W} {m C P F : Nat} {ar : Nat → Nat → Int} {bz : Nat → Int} (hM : mst G w0 w m C P F ar bz) {x : Int} (r_x : -2147483648 ≤ x ∧ x < 2147483648) (hG : mgd C P F ar) : ze_C G l 0 0 0 M8_cut [.ref m, ze_i x] w (ze_qi (fun r w' => ∃ P', mst G w0 w' m C P' F ar bz ∧ (((0 ≤ x ∧ x ≤ (P : Int)) ∧ r = x ∧ P' = x.toNat) ∨ (¬ (0 ≤ x ∧ x ≤ (P : Int)) ∧ r = -1 ∧ P' = P)))) := by
  have hG1 := hG.1
  refine ze_enter (by decide +kernel) rfl ?_
  change ze_V G l (ze_rm 0 0 0) M8_cut _ 0 [(0, .ref m), (1, ze_i (x))] [] w 0 0
  refine ze_iload_n dX8_cut_0 rfl ?_
  refine ze_if_lt 12 dX8_cut_1 (by decide) (by omega) (fun q1 => ?_) (fun q1 => ?_)
  · refine ze_iconst dX8_cut_12 ?_
    exact ze_ireturn rfl dX8_cut_13 ⟨_, rfl, _, hM, Or.inr ⟨by omega, rfl, rfl⟩⟩ rfl rfl
  · refine ze_iload_n dX8_cut_4 rfl ?_
    refine ze_aload_n dX8_cut_5 rfl ?_
    refine ze_getf dX8_cut_6 fl_X8_126 (ms_o hM) rfl ?_
    refine ze_icmp_le 14 dX8_cut_9 (by decide) (by omega) (by omega) (fun q2 => ?_) (fun q2 => ?_)
    · refine ze_aload_n dX8_cut_14 rfl ?_
      refine ze_iload_n dX8_cut_15 rfl ?_
      refine ze_ti (b := ((x.toNat : Nat))) (by omega) ?_
      refine ze_putfW (fs' := mfs m C x.toNat F) dX8_cut_16 fl_X8_126 (Or.inl rfl) (ms_o hM) rfl rfl (Nat.le_of_ble_eq_true rfl) rfl (fun w3 z3 c3 o3 => ?_)
      have hM3 := ms_wo (C' := C) (P' := x.toNat) (F' := F) hM z3 c3 o3
      refine ze_iload_n dX8_cut_19 rfl ?_
      exact ze_ireturn rfl dX8_cut_20 ⟨_, rfl, _, hM3, Or.inl ⟨by omega, rfl, rfl⟩⟩ rfl rfl
    · refine ze_iconst dX8_cut_12 ?_
      exact ze_ireturn rfl dX8_cut_13 ⟨_, rfl, _, hM, Or.inr ⟨by omega, rfl, rfl⟩⟩ rfl rfl
theorem C8_remove {G : ze_G} {l : Launch} {w0 w : ze_W} {m C P F : Nat} {ar : Nat → Nat → Int} {bz : Nat → Int} (hM : mst G w0 w m C P F ar bz) (hG : mgd C P F ar) : ze_C G l 0 0 0 M8_remove [.ref m] w (ze_qi (fun r w' => ∃ C', mst G w0 w' m C' P F ar bz ∧ ((C = 0 ∧ r = -1 ∧ C' = 0) ∨ (0 < C ∧ r = (C - 1 : Nat) ∧ C' = C - 1)))) := by
  have hG1 := hG.1
  refine ze_enter (by decide +kernel) rfl ?_
  change ze_V G l (ze_rm 0 0 0) M8_remove _ 0 [(0, .ref m)] [] w 0 0
  refine ze_aload_n dX8_remove_0 rfl ?_
  refine ze_getf dX8_remove_1 fl_X8_101 (ms_o hM) rfl ?_
  refine ze_if_ne 9 dX8_remove_4 (by decide) (by omega) (fun q1 => ?_) (fun q1 => ?_)
  · refine ze_aload_n dX8_remove_9 rfl ?_
    refine ze_dup dX8_remove_10 rfl ?_
    refine ze_getf dX8_remove_11 fl_X8_101 (ms_o hM) rfl ?_
    refine ze_iconst dX8_remove_14 ?_
    refine ze_isub dX8_remove_15 ?_
    refine ze_ti (b := ((C - 1 : Nat))) (by omega) ?_
    refine ze_putfW (fs' := mfs m (C - 1) P F) dX8_remove_16 fl_X8_101 (Or.inl rfl) (ms_o hM) rfl rfl (Nat.le_of_ble_eq_true rfl) rfl (fun w2 z2 c2 o2 => ?_)
    have hM2 := ms_wo (C' := C - 1) (P' := P) (F' := F) hM z2 c2 o2
    refine ze_aload_n dX8_remove_19 rfl ?_
    refine ze_getf dX8_remove_20 fl_X8_101 (ms_o hM2) rfl ?_
    exact ze_ireturn rfl dX8_remove_23 ⟨_, rfl, _, hM2, Or.inr ⟨by omega, rfl, rfl⟩⟩ rfl rfl
  · refine ze_iconst dX8_remove_7 ?_
    have hC0 : C = 0 := by omega
    exact ze_ireturn rfl dX8_remove_8 ⟨_, rfl, _, hM, Or.inl ⟨hC0, rfl, hC0⟩⟩ rfl rfl
