/-! Big: the reference's numbers, by parts below 2^32 -/
/-- a Big at a: its object, its row of parts behind it -/
def bg (G : ze_G) (w : ze_W) (a L : Nat) (f : Nat → Nat) (n : Nat) (sg : Int) : Prop := w.2 a = some (ze_ob 7 [.ref (a + 1), ze_i (n : Nat), ze_i sg]) ∧ w.2 (a + 1) = some (ze_ia G L (fun j => (f j : Nat))) ∧ n ≤ L ∧ L < 100000 ∧ ∀ j, f j < 4294967296
/-- nothing but the Big at a has changed -/
def bfr (w w' : ze_W) (a : Nat) : Prop := w'.1 = w.1 ∧ ∀ x, x ≠ a → x ≠ a + 1 → w'.2 x = w.2 x
theorem bfr.rf (w : ze_W) (a : Nat) : bfr w w a := ⟨rfl, fun _ _ _ => rfl⟩
theorem bfr.tr {w w1 w2 : ze_W} {a : Nat} (h1 : bfr w w1 a) (h2 : bfr w1 w2 a) : bfr w w2 a := ⟨h2.1.trans h1.1, fun x p q => (h2.2 x p q).trans (h1.2 x p q)⟩
theorem bg_x {G : ze_G} {w : ze_W} {a L : Nat} {f : Nat → Nat} {n : Nat} {sg : Int} {b L2 : Nat} {g : Nat → Nat} {m : Nat} {sg2 : Int} (h1 : bg G w a L f n sg) (h2 : bg G w b L2 g m sg2) : a ≠ b + 1 := by
  intro e
  have h := h1.1
  rw [e, h2.2.1] at h
  cases h
theorem bg_keep {G : ze_G} {w w' : ze_W} {a b L : Nat} {f : Nat → Nat} {n : Nat} {sg : Int} (h : bg G w b L f n sg) (h1 : w'.2 b = w.2 b) (h2 : w'.2 (b + 1) = w.2 (b + 1)) : bg G w' b L f n sg := ⟨h1.trans h.1, h2.trans h.2.1, h.2.2⟩
theorem bg_fr {G : ze_G} {w w' : ze_W} {a b L La : Nat} {f fa : Nat → Nat} {n na : Nat} {sg sa : Int} (hr : bfr w w' a) (ha : bg G w a La fa na sa) (h : bg G w b L f n sg) (hne : a ≠ b) : bg G w' b L f n sg := by
  have h1 := bg_x ha h
  have h2 := bg_x h ha
  exact bg_keep (a := a) h (hr.2 b (Ne.symm hne) h2) (hr.2 (b + 1) (Ne.symm h1) (by omega))
def bnz (f : Nat → Nat) (n : Nat) : Prop := n = 0 ∨ f (n - 1) ≠ 0
/-- a Big of the value z -/
def bgz (G : ze_G) (w : ze_W) (a L : Nat) (z : Int) : Prop := ∃ (f : Nat → Nat) (n : Nat) (sg : Int), bg G w a L f n sg ∧ bnz f n ∧ z = sg * (nv 4294967296 f n : Nat) ∧ ((n = 0 ∧ sg = 0) ∨ (0 < n ∧ (sg = 1 ∨ sg = -1)))

theorem C7_at {G : ze_G} {l : Launch} {w : ze_W} {a L : Nat} {f : Nat → Nat} {n : Nat} {sg : Int} {k : Nat} (hb : bg G w a L f n sg) (hk : k < 2147483648) : ze_C G l 0 0 0 M7_at [.ref a, ze_i (k : Nat)] w (ze_ql (fun r w' => r = (bt f n k : Nat) ∧ w' = w)) := by
  obtain ⟨h0a, h0b, hn, hL, hf⟩ := hb
  refine ze_enter (by decide +kernel) rfl ?_
  change ze_V G l (ze_rm 0 0 0) M7_at _ 0 [(0, .ref a), (1, ze_i ((k : Nat)))] [] w 0 0
  refine ze_iload_n dX7_at_0 rfl ?_
  refine ze_aload_n dX7_at_1 rfl ?_
  refine ze_getf dX7_at_2 fl_X7_13 h0a rfl ?_
  refine ze_icmp_ge 22 dX7_at_5 (by decide) (by omega) (by omega) (fun q => ?_) (fun q => ?_)
  · refine ze_lconst (z := 0) dX7_at_22 (by decide) ?_
    exact ze_lreturn rfl dX7_at_23 ⟨_, rfl, by unfold bt; rw [if_neg (by omega)]; rfl, rfl⟩ rfl rfl
  · have hfk := hf k
    refine ze_aload_n dX7_at_8 rfl ?_
    refine ze_getf dX7_at_9 fl_X7_7 h0a rfl ?_
    refine ze_iload_n dX7_at_12 rfl ?_
    refine ze_iald (j := k) dX7_at_13 h0b (by omega) (by omega) (by omega) ?_
    refine ze_msk dX7_at_14 dX7_at_15 dX7_at_18 ct_X7_29 (by omega) ?_
    refine ze_goto 23 dX7_at_19 (by decide) ?_
    exact ze_lreturn rfl dX7_at_23 ⟨_, rfl, by unfold bt; rw [if_pos (by omega)], rfl⟩ rfl rfl
theorem C7_clear {G : ze_G} {l : Launch} {w : ze_W} {a L : Nat} {f : Nat → Nat} {n : Nat} {sg : Int} (hb : bg G w a L f n sg) : ze_C G l 0 0 0 M7_clear [.ref a] w (ze_qv (fun w' => bfr w w' a ∧ bg G w' a L f 0 0)) := by
  obtain ⟨h0a, h0b, hn, hL, hf⟩ := hb
  refine ze_enter (by decide +kernel) rfl ?_
  change ze_V G l (ze_rm 0 0 0) M7_clear _ 0 [(0, .ref a)] [] w 0 0
  refine ze_aload_n dX7_clear_0 rfl ?_
  refine ze_iconst dX7_clear_1 ?_
  refine ze_putfW (fs' := [.ref (a + 1), ze_i (0), ze_i (sg)]) dX7_clear_2 fl_X7_13 (Or.inl rfl) h0a rfl rfl (Nat.le_of_ble_eq_true rfl) rfl (fun w1 z1 c1 o1 => ?_)
  have h1_1 := (o1 (a + 1) (by omega)).trans h0b
  refine ze_aload_n dX7_clear_5 rfl ?_
  refine ze_iconst dX7_clear_6 ?_
  refine ze_putfW (fs' := [.ref (a + 1), ze_i (0), ze_i (0)]) dX7_clear_7 fl_X7_17 (Or.inl rfl) c1 rfl rfl (Nat.le_of_ble_eq_true rfl) rfl (fun w2 z2 c2 o2 => ?_)
  have h2_1 := (o2 (a + 1) (by omega)).trans h1_1
  exact ze_return rfl dX7_clear_10 ⟨rfl, ⟨z2.trans z1, fun x p q => (o2 x p).trans (o1 x p)⟩, c2, h2_1, by omega, hL, hf⟩ rfl rfl
theorem C7_trim {G : ze_G} {l : Launch} {w : ze_W} {a L : Nat} {f : Nat → Nat} {n : Nat} {sg : Int} (hb : bg G w a L f n sg) : ze_C G l 0 0 0 M7_trim [.ref a] w (ze_qv (fun w' => ∃ n', n' ≤ n ∧ bnz f n' ∧ (∀ j, n' ≤ j → j < n → f j = 0) ∧ bfr w w' a ∧ bg G w' a L f n' (if n' = 0 then 0 else sg))) := by
  obtain ⟨h0a, h0b, hn, hL, hf⟩ := hb
  refine ze_enter (by decide +kernel) rfl ?_
  generalize hQ : (ze_Q G (ze_qv (fun w' => ∃ n', n' ≤ n ∧ bnz f n' ∧ (∀ j, n' ≤ j → j < n → f j = 0) ∧ bfr w w' a ∧ bg G w' a L f n' (if n' = 0 then 0 else sg))) 0 0) = Z
  have tail : ∀ (n1 : Nat) (w1 : ze_W), n1 ≤ n → bnz f n1 → (∀ j, n1 ≤ j → j < n → f j = 0) → w1.1 = w.1 → (∀ x, x ≠ a → w1.2 x = w.2 x) → w1.2 a = some (ze_ob 7 [.ref (a + 1), ze_i (n1 : Nat), ze_i sg]) → ze_V G l (ze_rm 0 0 0) M7_trim Z 34 [(0, .ref a)] [] w1 0 0 := by
    intro n1 w1 hn1 hnz hz hw1 ho ga
    have gb := (ho (a + 1) (by omega)).trans h0b
    rw [← hQ]
    refine ze_aload_n dX7_trim_34 rfl ?_
    refine ze_aload_n dX7_trim_35 rfl ?_
    refine ze_getf dX7_trim_36 fl_X7_13 ga rfl ?_
    refine ze_if_ne 46 dX7_trim_39 (by decide) (by omega) (fun q => ?_) (fun q => ?_)
    · refine ze_aload_n dX7_trim_46 rfl ?_
      refine ze_getf dX7_trim_47 fl_X7_17 ga rfl ?_
      refine ze_putfW (fs' := [.ref (a + 1), ze_i ((n1 : Nat)), ze_i (sg)]) dX7_trim_50 fl_X7_17 (Or.inl rfl) ga rfl rfl (Nat.le_of_ble_eq_true rfl) rfl (fun w1 z1 c1 o1 => ?_)
      have h1_1 := (o1 (a + 1) (by omega)).trans gb
      exact ze_return rfl dX7_trim_53 ⟨rfl, n1, hn1, hnz, hz, ⟨z1.trans hw1, fun x p q => (o1 x p).trans (ho x p)⟩, by rw [if_neg (by omega)]; exact ⟨c1, h1_1, by omega, hL, hf⟩⟩ rfl rfl
    · refine ze_iconst dX7_trim_42 ?_
      refine ze_goto 50 dX7_trim_43 (by decide) ?_
      refine ze_putfW (fs' := [.ref (a + 1), ze_i ((n1 : Nat)), ze_i (0)]) dX7_trim_50 fl_X7_17 (Or.inl rfl) ga rfl rfl (Nat.le_of_ble_eq_true rfl) rfl (fun w1 z1 c1 o1 => ?_)
      have h1_1 := (o1 (a + 1) (by omega)).trans gb
      exact ze_return rfl dX7_trim_53 ⟨rfl, n1, hn1, hnz, hz, ⟨z1.trans hw1, fun x p q => (o1 x p).trans (ho x p)⟩, by rw [if_pos (by omega)]; exact ⟨c1, h1_1, by omega, hL, hf⟩⟩ rfl rfl
  have loop : ∀ (n1 : Nat) (w1 : ze_W), n1 ≤ n → (∀ j, n1 ≤ j → j < n → f j = 0) → w1.1 = w.1 → (∀ x, x ≠ a → w1.2 x = w.2 x) → w1.2 a = some (ze_ob 7 [.ref (a + 1), ze_i (n1 : Nat), ze_i sg]) → ze_V G l (ze_rm 0 0 0) M7_trim Z 0 [(0, .ref a)] [] w1 0 0 := by
    intro n1
    induction n1 with
    | zero =>
      intro w1 hn1 hz hw1 ho ga
      refine ze_aload_n dX7_trim_0 rfl ?_
      refine ze_getf dX7_trim_1 fl_X7_13 ga rfl ?_
      refine ze_if_le 34 dX7_trim_4 (by decide) (by omega) (fun q => ?_) (fun q => ?_)
      · exact tail 0 w1 hn1 (Or.inl rfl) hz hw1 ho ga
      · omega
    | succ n1 ih =>
      intro w1 hn1 hz hw1 ho ga
      have gb := (ho (a + 1) (by omega)).trans h0b
      have hfk := hf n1
      refine ze_aload_n dX7_trim_0 rfl ?_
      refine ze_getf dX7_trim_1 fl_X7_13 ga rfl ?_
      refine ze_if_le 34 dX7_trim_4 (by decide) (by omega) (fun q => ?_) (fun q => ?_)
      · omega
      · refine ze_aload_n dX7_trim_7 rfl ?_
        refine ze_getf dX7_trim_8 fl_X7_7 ga rfl ?_
        refine ze_aload_n dX7_trim_11 rfl ?_
        refine ze_getf dX7_trim_12 fl_X7_13 ga rfl ?_
        refine ze_iconst dX7_trim_15 ?_
        refine ze_isub dX7_trim_16 ?_
        refine ze_iald (j := n1) dX7_trim_17 gb (by omega) (by omega) (by omega) ?_
        refine ze_ifu_ne 34 dX7_trim_18 (by decide) (by omega) (fun q => ?_) (fun q => ?_)
        · exact tail (n1 + 1) w1 hn1 (Or.inr (by simp; omega)) hz hw1 ho ga
        · have hz2 : ∀ j, n1 ≤ j → j < n → f j = 0 := by
            intro j h1 h2
            rcases Nat.lt_or_ge j (n1 + 1) with h | h
            · have hjn : j = n1 := by omega
              rw [hjn]
              omega
            · exact hz j h h2
          refine ze_aload_n dX7_trim_21 rfl ?_
          refine ze_dup dX7_trim_22 rfl ?_
          refine ze_getf dX7_trim_23 fl_X7_13 ga rfl ?_
          refine ze_iconst dX7_trim_26 ?_
          refine ze_isub dX7_trim_27 ?_
          refine ze_ti (b := (n1 : Nat)) (by omega) ?_
          refine ze_putfW (fs' := [.ref (a + 1), ze_i ((n1 : Nat)), ze_i (sg)]) dX7_trim_28 fl_X7_13 (Or.inl rfl) ga rfl rfl (Nat.le_of_ble_eq_true rfl) rfl (fun w1 z1 c1 o1 => ?_)
          have h1_1 := (o1 (a + 1) (by omega)).trans gb
          refine ze_goto 0 dX7_trim_31 (by decide) ?_
          exact ih _ (by omega) hz2 (z1.trans hw1) (fun x p => (o1 x p).trans (ho x p)) c1
  exact loop n w (Nat.le_refl _) (fun j h1 h2 => by omega) rfl (fun _ _ => rfl) h0a
