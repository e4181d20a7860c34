/-! Teller: its picture, the rest, the difference behind a sign -/
def til (k : Nat) : Nat := if k = 1 ∨ k = 4 then 256 else if k = 2 then 96 else if k = 3 ∨ k = 5 ∨ k = 8 ∨ k = 11 then 16 else 0
def tll (k : Nat) : Nat := if k = 6 ∨ k = 7 then 256 else if k = 9 ∨ k = 10 then 16 else 0
theorem til_ne {k : Nat} (h : til k ≠ 0) : (1 ≤ k ∧ k ≤ 5) ∨ k = 8 ∨ k = 11 := by
  unfold til at h
  repeat' (split at h)
  all_goals omega
theorem tll_ne {k : Nat} (h : tll k ≠ 0) : k = 6 ∨ k = 7 ∨ k = 9 ∨ k = 10 := by
  unfold tll at h
  repeat' (split at h)
  all_goals omega
def tfs (E N K q F : Nat) : List Value := [ze_i (N : Nat), ze_i (K : Nat), .ref (E + 1), .ref (E + 2), .ref (E + 3), ze_i (q : Nat), .ref (E + 4), .ref (E + 5), .ref (E + 6), .ref (E + 7), .ref (E + 8), .ref (E + 9), .ref (E + 10), .ref (E + 11), ze_i (F : Nat)]
/-- the teller lies at E, 12 cells; nothing outside of it has changed since w0 -/
def tst (G : ze_G) (w0 w : ze_W) (E N K q F : Nat) (ia la : Nat → Nat → Int) : Prop := (w.1 = w0.1 ∧ ∀ u, u < E ∨ E + 12 ≤ u → w.2 u = w0.2 u) ∧ w.2 E = some (ze_ob 4 (tfs E N K q F)) ∧ (∀ k, til k ≠ 0 → w.2 (E + k) = some (ze_ia G (til k) (ia k))) ∧ ∀ k, tll k ≠ 0 → w.2 (E + k) = some (ze_la G (tll k) (la k))
section TT
variable {G : ze_G} {w0 w w' : ze_W} {E N K q F : Nat} {ia la : Nat → Nat → Int}
theorem tt_o (h : tst G w0 w E N K q F ia la) : w.2 E = some (ze_ob 4 (tfs E N K q F)) := h.2.1
theorem tt_i (h : tst G w0 w E N K q F ia la) (k : Nat) (hk : til k ≠ 0) : w.2 (E + k) = some (ze_ia G (til k) (ia k)) := h.2.2.1 k hk
theorem tt_l (h : tst G w0 w E N K q F ia la) (k : Nat) (hk : tll k ≠ 0) : w.2 (E + k) = some (ze_la G (tll k) (la k)) := h.2.2.2 k hk
theorem tt_rf (h : tst G w0 w E N K q F ia la) : tst G w w E N K q F ia la := ⟨⟨rfl, fun _ _ => rfl⟩, h.2⟩
theorem tt_wi {f : Nat → Int} (h : tst G w0 w E N K q F ia la) (k : Nat) (hk : til k ≠ 0) (z1 : w'.1 = w.1) (c1 : w'.2 (E + k) = some (ze_ia G (til k) f)) (o1 : ∀ u, u ≠ E + k → w'.2 u = w.2 u) : tst G w0 w' E N K q F (va_up ia k f) la := by
  obtain ⟨⟨h1, h2⟩, h3, h4, h5⟩ := h
  have hk2 := til_ne hk
  refine ⟨⟨z1.trans h1, fun u hu => (o1 u (by omega)).trans (h2 u hu)⟩, (o1 E (by omega)).trans h3, fun j hj => ?_, fun j hj => ?_⟩
  · by_cases e : j = k
    · rw [e, va_up_self]; exact c1
    · rw [va_up_ne _ _ e]; exact (o1 _ (by omega)).trans (h4 j hj)
  · have := tll_ne hj
    exact (o1 _ (by omega)).trans (h5 j hj)
theorem tt_wl {f : Nat → Int} (h : tst G w0 w E N K q F ia la) (k : Nat) (hk : tll k ≠ 0) (z1 : w'.1 = w.1) (c1 : w'.2 (E + k) = some (ze_la G (tll k) f)) (o1 : ∀ u, u ≠ E + k → w'.2 u = w.2 u) : tst G w0 w' E N K q F ia (va_up la k f) := by
  obtain ⟨⟨h1, h2⟩, h3, h4, h5⟩ := h
  have hk2 := tll_ne hk
  refine ⟨⟨z1.trans h1, fun u hu => (o1 u (by omega)).trans (h2 u hu)⟩, (o1 E (by omega)).trans h3, fun j hj => ?_, fun j hj => ?_⟩
  · have := til_ne hj
    exact (o1 _ (by omega)).trans (h4 j hj)
  · by_cases e : j = k
    · rw [e, va_up_self]; exact c1
    · rw [va_up_ne _ _ e]; exact (o1 _ (by omega)).trans (h5 j hj)
theorem tt_wo {N' K' q' F' : Nat} (h : tst G w0 w E N K q F ia la) (z1 : w'.1 = w.1) (c1 : w'.2 E = some (ze_ob 4 (tfs E N' K' q' F'))) (o1 : ∀ u, u ≠ E → w'.2 u = w.2 u) : tst G w0 w' E N' K' q' F' ia la := by
  obtain ⟨⟨h1, h2⟩, h3, h4, h5⟩ := h
  refine ⟨⟨z1.trans h1, fun u hu => (o1 u (by omega)).trans (h2 u hu)⟩, c1, fun j hj => ?_, fun j hj => ?_⟩
  · have := til_ne hj
    exact (o1 _ (by omega)).trans (h4 j hj)
  · have := tll_ne hj
    exact (o1 _ (by omega)).trans (h5 j hj)
end TT
theorem tm_tmod {v p : Int} (hp : 0 < p) : (v.tmod p < p ∧ -p < v.tmod p) ∧ v % p = if v.tmod p < 0 then v.tmod p + p else v.tmod p := by
  have h1 := Int.tmod_lt_of_pos v hp
  have h2 := Int.lt_tmod_of_pos v hp
  refine ⟨⟨h1, h2⟩, ?_⟩
  have h3 : v % p = (v.tmod p) % p := by
    have := Int.mul_tdiv_add_tmod v p
    calc v % p = (p * v.tdiv p + v.tmod p) % p := by rw [this]
      _ = v.tmod p % p := by rw [Int.add_comm, Int.add_mul_emod_self_left]
  rw [h3]
  split
  · rw [← Int.add_emod_right]
    exact Int.emod_eq_of_lt (by omega) (by omega)
  · exact Int.emod_eq_of_lt (by omega) (by omega)
theorem C4_restOf {G : ze_G} {l : Launch} {w : ze_W} {v p : Int} (hv : -9223372036854775808 ≤ v ∧ v < 9223372036854775808) (hp : 2 ≤ p ∧ p < 2147483648) : ze_C G l 0 0 0 M4_restOf [ze_l v, ze_i p] w (ze_ql (fun r w' => r = v % p ∧ w' = w)) := by
  obtain ⟨⟨t1, t2⟩, t3⟩ := tm_tmod (v := v) (show 0 < p by omega)
  obtain ⟨t, ht⟩ : ∃ t, t = v.tmod p := ⟨_, rfl⟩
  rw [← ht] at t1 t2 t3
  refine ze_enter (by decide +kernel) rfl ?_
  change ze_V G l (ze_rm 0 0 0) M4_restOf _ 0 [(0, ze_l (v)), (2, ze_i (p))] [] w 0 0
  refine ze_iload_n dX4_restOf_0 rfl ?_
  refine ze_iconst dX4_restOf_1 ?_
  refine ze_icmp_ge 7 dX4_restOf_2 (by decide) (by omega) (by omega) (fun q1 => ?_) (fun q1 => ?_)
  · refine ze_lload_n dX4_restOf_7 rfl ?_
    refine ze_iload_n dX4_restOf_8 rfl ?_
    refine ze_i2l dX4_restOf_9 (by omega) ?_
    refine ze_lrem2 (z := t) dX4_restOf_10 (by omega) hv ht.symm ?_
    refine ze_lstore_n (lv' := [(0, ze_l (v)), (2, ze_i (p)), (3, ze_l (t))]) dX4_restOf_11 rfl rfl ?_
    refine ze_lload_n dX4_restOf_12 rfl ?_
    refine ze_lconst (z := 0) dX4_restOf_13 (by decide) ?_
    refine ze_lc_ge 25 dX4_restOf_14 dX4_restOf_15 (by decide) (by omega) (by omega) (fun q2 => ?_) (fun q2 => ?_)
    · refine ze_lload_n dX4_restOf_25 rfl ?_
      exact ze_lreturn rfl dX4_restOf_26 ⟨_, rfl, by rw [t3]; split <;> omega, rfl⟩ rfl rfl
    · refine ze_lload_n dX4_restOf_18 rfl ?_
      refine ze_iload_n dX4_restOf_19 rfl ?_
      refine ze_i2l dX4_restOf_20 (by omega) ?_
      refine ze_ladd dX4_restOf_21 ?_
      refine ze_goto 26 dX4_restOf_22 (by decide) ?_
      exact ze_lreturn rfl dX4_restOf_26 ⟨_, rfl, by rw [t3]; split <;> omega, rfl⟩ rfl rfl
  · omega
theorem tm_md {p a b : Int} (h : p ∣ a - b) : a % p = b % p := Int.emod_eq_emod_iff_emod_sub_eq_zero.mpr (Int.emod_eq_zero_of_dvd h)
theorem tm_dm (a p : Int) : p ∣ a % p - a := by
  rw [Int.emod_def]
  exact ⟨-(a / p), by rw [Int.mul_neg]; omega⟩
theorem tm_szr {n : Nat} {B : Int} {f : Nat → Int} (h : ∀ j, j < n → 0 ≤ f j ∧ f j ≤ B) : 0 ≤ sz n f ∧ sz n f ≤ n * B := by
  induction n with
  | zero => show (0 : Int) ≤ 0 ∧ (0 : Int) ≤ ((0 : Nat) : Int) * B; rw [Int.natCast_zero, Int.zero_mul]; omega
  | succ n ih =>
    have h1 := ih (fun j hj => h j (by omega))
    have h2 := h n (by omega)
    rw [sz_s, Int.natCast_add, Int.add_mul]
    omega
theorem tm_prod {a b A B : Int} (ha : 0 ≤ a ∧ a ≤ A) (hb : 0 ≤ b ∧ b ≤ B) : 0 ≤ a * b ∧ a * b ≤ A * B := ⟨Int.mul_nonneg ha.1 hb.1, Int.mul_le_mul ha.2 hb.2 hb.1 (Int.le_trans ha.1 ha.2)⟩
theorem C4_showSign {G : ze_G} {l : Launch} {w0 w : ze_W} {E N K q FL : Nat} {ia la : Nat → Nat → Int} {k x : Nat} {p : Int} {D h : Nat → Int} (hS : tst G w0 w E N K q FL ia la) (hN : N ≤ 16) (hk : k < 16) (hx : x < 6) (hp : 2 ≤ p ∧ p < 2147483648) (hD : ∀ s, s < N → la 6 (k * 16 + s) = D s ∧ 0 ≤ D s ∧ D s < p) (hh : ∀ s, s < N → ia 2 (s * 6 + x) = h s ∧ 0 ≤ h s ∧ h s ≤ 1000) : ze_C G l 1 0 0 M4_showSign [.ref E, ze_i (k : Nat), ze_i (x : Nat), ze_i p] w (ze_ql (fun r w' => r = sz N (fun s => D s * h s) % p ∧ ∃ la', tst G w0 w' E N K q FL ia la' ∧ (∀ j, j ≠ 9 → la' j = la j) ∧ ∀ s, s < N → la' 9 s = (D s * h s) % p)) := by
  have hb : ∀ s, s < N → 0 ≤ D s * h s ∧ D s * h s ≤ 2147483648 * 1000 := fun s hs => tm_prod (by have := hD s hs; omega) (hh s hs).2
  have hm : ∀ s, 0 ≤ (D s * h s) % p ∧ (D s * h s) % p < p := fun s => ⟨Int.emod_nonneg _ (by omega), Int.emod_lt_of_pos _ (by omega)⟩
  refine ze_enter (by decide +kernel) rfl ?_
  generalize hQ : (ze_Q G (ze_ql (fun r w' => r = sz N (fun s => D s * h s) % p ∧ ∃ la', tst G w0 w' E N K q FL ia la' ∧ (∀ j, j ≠ 9 → la' j = la j) ∧ ∀ s, s < N → la' 9 s = (D s * h s) % p)) 0 0) = Z
  have loop : ∀ (d s : Nat) (la1 : Nat → Nat → Int) (w1 : ze_W), s + d = N → tst G w0 w1 E N K q FL ia la1 → (∀ j, j ≠ 9 → la1 j = la j) → (∀ u, u < s → la1 9 u = (D u * h u) % p) → ze_V G l (ze_rm 1 0 0) M4_showSign Z 6 [(0, .ref E), (1, ze_i ((k : Nat))), (2, ze_i ((x : Nat))), (3, ze_i (p)), (4, ze_l (sz s (fun u => (D u * h u) % p))), (6, ze_i ((s : Nat)))] [] w1 0 0 := by
    intro d
    induction d with
    | zero =>
      intro s la1 w1 hs hS1 i1 i2
      have hsN : s = N := by omega
      have hsum := tm_szr (n := s) (B := p) (f := fun u => (D u * h u) % p) (fun j _ => by have := hm j; omega)
      have hsum2 : sz s (fun u => (D u * h u) % p) ≤ 16 * 2147483648 := by
        have : (s : Int) * p ≤ 16 * 2147483648 := (tm_prod (a := (s : Int)) (b := p) (A := 16) (B := 2147483648) (by omega) (by omega)).2
        omega
      rw [← hQ]
      refine ze_iload dX4_showSign_6 rfl ?_
      refine ze_aload_n dX4_showSign_8 rfl ?_
      refine ze_getf dX4_showSign_9 fl_X4_9 (tt_o hS1) rfl ?_
      refine ze_icmp_ge 70 dX4_showSign_12 (by decide) (by omega) (by omega) (fun q1 => ?_) (fun q1 => ?_)
      · refine ze_lload dX4_showSign_70 rfl ?_
        refine ze_iload_n dX4_showSign_72 rfl ?_
        refine ze_callS (As := [ze_l (sz s (fun u => (D u * h u) % p)), ze_i (p)]) (rest := []) dX4_showSign_73 (C4_restOf (v := sz s (fun u => (D u * h u) % p)) (p := p) (by omega) hp) mo4_restOf ml_X4_100 st_4_restOf rfl rfl rfl ⟨Nat.le_refl _, Nat.le_refl _⟩ rfl (Nat.le_of_ble_eq_true rfl) ?_
        rintro _ w' ⟨r2, rfl, rfl, rfl⟩
        change ze_V G l (ze_rm 1 0 0) M4_showSign _ 76 [(0, .ref E), (1, ze_i ((k : Nat))), (2, ze_i ((x : Nat))), (3, ze_i (p)), (4, ze_l (sz s (fun u => (D u * h u) % p))), (6, ze_i ((s : Nat)))] [ze_l ((sz s (fun u => (D u * h u) % p)) % p)] w' 0 0
        refine ze_lreturn rfl dX4_showSign_76 ⟨_, rfl, ?_, la1, hS1, i1, fun u hu => i2 u (by omega)⟩ rfl rfl
        rw [hsN]
        exact tm_md (tm_sz_c (fun j _ => tm_dm _ _))
      · omega
    | succ d ih =>
      intro s la1 w1 hs hS1 i1 i2
      obtain ⟨d1, d2⟩ := hD s (by omega)
      obtain ⟨g1, g2⟩ := hh s (by omega)
      have hbs := hb s (by omega)
      refine ze_iload dX4_showSign_6 rfl ?_
      refine ze_aload_n dX4_showSign_8 rfl ?_
      refine ze_getf dX4_showSign_9 fl_X4_9 (tt_o hS1) rfl ?_
      refine ze_icmp_ge 70 dX4_showSign_12 (by decide) (by omega) (by omega) (fun q1 => ?_) (fun q1 => ?_)
      · omega
      · refine ze_aload_n dX4_showSign_15 rfl ?_
        refine ze_getf dX4_showSign_16 fl_X4_47 (tt_o hS1) rfl ?_
        refine ze_iload dX4_showSign_19 rfl ?_
        refine ze_aload_n dX4_showSign_21 rfl ?_
        refine ze_getf dX4_showSign_22 fl_X4_37 (tt_o hS1) rfl ?_
        refine ze_iload_n dX4_showSign_25 rfl ?_
        refine ze_bipush dX4_showSign_26 (by decide) ?_
        refine ze_imul dX4_showSign_28 ?_
        refine ze_iload dX4_showSign_29 rfl ?_
        refine ze_iadd dX4_showSign_31 ?_
        refine ze_lald (j := (k * 16 + s)) dX4_showSign_32 (show w1.2 (E + 6) = some (ze_la G 256 (la1 6)) from tt_l hS1 6 (by decide)) (by omega) (by omega) (by omega) ?_
        rw [i1 6 (by decide), d1]
        refine ze_aload_n dX4_showSign_33 rfl ?_
        refine ze_getf dX4_showSign_34 fl_X4_22 (tt_o hS1) rfl ?_
        refine ze_iload dX4_showSign_37 rfl ?_
        refine ze_bipush dX4_showSign_39 (by decide) ?_
        refine ze_imul dX4_showSign_41 ?_
        refine ze_iload_n dX4_showSign_42 rfl ?_
        refine ze_iadd dX4_showSign_43 ?_
        refine ze_iald (j := (s * 6 + x)) dX4_showSign_44 (show w1.2 (E + 2) = some (ze_ia G 96 (ia 2)) from tt_i hS1 2 (by decide)) (by omega) (by omega) (by omega) ?_
        rw [g1]
        refine ze_i2l dX4_showSign_45 (by omega) ?_
        refine ze_lmul dX4_showSign_46 ?_
        refine ze_iload_n dX4_showSign_47 rfl ?_
        refine ze_callS (As := [ze_l ((D s) * (h s)), ze_i (p)]) (rest := [ze_i ((s : Nat)), .ref (E + 9)]) dX4_showSign_48 (C4_restOf (v := D s * h s) (p := p) (by omega) hp) mo4_restOf ml_X4_100 st_4_restOf rfl rfl rfl ⟨Nat.le_refl _, Nat.le_refl _⟩ rfl (Nat.le_of_ble_eq_true rfl) ?_
        rintro _ w' ⟨r2, rfl, rfl, rfl⟩
        change ze_V G l (ze_rm 1 0 0) M4_showSign _ 51 [(0, .ref E), (1, ze_i ((k : Nat))), (2, ze_i ((x : Nat))), (3, ze_i (p)), (4, ze_l (sz s (fun u => (D u * h u) % p))), (6, ze_i ((s : Nat)))] [ze_l ((D s * h s) % p), ze_i ((s : Nat)), .ref (E + 9)] w' 0 0
        refine ze_lastW (j := s) (f' := va_up (la1 9) s ((D s * h s) % p)) dX4_showSign_51 (show w'.2 (E + 9) = some (ze_la G 16 (la1 9)) from tt_l hS1 9 (by decide)) (by omega) (by omega) (by omega) rfl (fun w3 z3 c3 o3 => ?_)
        have hS3 := tt_wl hS1 9 (by decide) z3 c3 o3
        refine ze_lload dX4_showSign_52 rfl ?_
        refine ze_aload_n dX4_showSign_54 rfl ?_
        refine ze_getf dX4_showSign_55 fl_X4_47 (tt_o hS3) rfl ?_
        refine ze_iload dX4_showSign_58 rfl ?_
        refine ze_lald (j := s) dX4_showSign_60 (show w3.2 (E + 9) = some (ze_la G 16 ((va_up la1 9 (va_up (la1 9) s ((D s * h s) % p))) 9)) from tt_l hS3 9 (by decide)) (by omega) (by omega) (by omega) ?_
        rw [va_up_self, va_up_self]
        refine ze_ladd dX4_showSign_61 ?_
        refine ze_tl (b := sz (s + 1) (fun u => (D u * h u) % p)) rfl ?_
        refine ze_lstore (lv' := [(0, .ref E), (1, ze_i ((k : Nat))), (2, ze_i ((x : Nat))), (3, ze_i (p)), (4, ze_l (sz (s + 1) (fun u => (D u * h u) % p))), (6, ze_i ((s : Nat)))]) dX4_showSign_62 rfl rfl ?_
        refine ze_iinc (b := ((s + 1 : Nat))) (lv' := [(0, .ref E), (1, ze_i ((k : Nat))), (2, ze_i ((x : Nat))), (3, ze_i (p)), (4, ze_l (sz (s + 1) (fun u => (D u * h u) % p))), (6, ze_i (((s + 1 : Nat))))]) dX4_showSign_64 rfl rfl (by omega) rfl ?_
        refine ze_goto 6 dX4_showSign_67 (by decide) ?_
        refine ih (s + 1) _ _ (by omega) hS3 (fun j hj => by rw [va_up_ne _ _ hj]; exact i1 j hj) (fun u hu => ?_)
        rw [va_up_self]
        by_cases e : u = s
        · rw [e, va_up_self]
        · rw [va_up_ne _ _ e]; exact i2 u (by omega)
  change ze_V G l (ze_rm 1 0 0) M4_showSign Z 0 [(0, .ref E), (1, ze_i ((k : Nat))), (2, ze_i ((x : Nat))), (3, ze_i (p))] [] w 0 0
  refine ze_lconst (z := 0) dX4_showSign_0 (by decide) ?_
  refine ze_tl (b := sz 0 (fun u => (D u * h u) % p)) rfl ?_
  refine ze_lstore (lv' := [(0, .ref E), (1, ze_i ((k : Nat))), (2, ze_i ((x : Nat))), (3, ze_i (p)), (4, ze_l (sz 0 (fun u => (D u * h u) % p)))]) dX4_showSign_1 rfl rfl ?_
  refine ze_iconst dX4_showSign_3 ?_
  refine ze_ti (b := ((0 : Nat) : Nat)) rfl ?_
  refine ze_istore (lv' := [(0, .ref E), (1, ze_i ((k : Nat))), (2, ze_i ((x : Nat))), (3, ze_i (p)), (4, ze_l (sz 0 (fun u => (D u * h u) % p))), (6, ze_i (((0 : Nat) : Nat)))]) dX4_showSign_4 rfl rfl ?_
  exact loop N 0 la w (by omega) hS (fun _ _ => rfl) (fun u hu => absurd hu (Nat.not_lt_zero _))
theorem C4_goOn {G : ze_G} {l : Launch} {w0 w : ze_W} {E N K q FL : Nat} {ia la : Nat → Nat → Int} {p : Int} {sh : Nat → Int} {g : Nat → Nat → Int} (hS : tst G w0 w E N K q FL ia la) (hN : N ≤ 16) (hp : 2 ≤ p ∧ p < 2147483648) (hD : ∀ s, s < N → la 9 s = sh s ∧ 0 ≤ sh s ∧ sh s < p) (hg : ∀ s t, s < N → t < N → ia 1 (s * 16 + t) = g s t ∧ 0 ≤ g s t ∧ g s t ≤ 1000) : ze_C G l 1 0 0 M4_goOn [.ref E, ze_i p] w (ze_qv (fun w' => ∃ la', tst G w0 w' E N K q FL ia la' ∧ (∀ j, j ≠ 10 → la' j = la j) ∧ ∀ t, t < N → la' 10 t = sz N (fun s => sh s * g s t) % p)) := by
  have hb : ∀ s t, s < N → t < N → 0 ≤ sh s * g s t ∧ sh s * g s t ≤ 2147483648 * 1000 := fun s t hs ht => tm_prod (by have := hD s hs; omega) (hg s t hs ht).2
  refine ze_enter (by decide +kernel) rfl ?_
  generalize hQ : (ze_Q G (ze_qv (fun w' => ∃ la', tst G w0 w' E N K q FL ia la' ∧ (∀ j, j ≠ 10 → la' j = la j) ∧ ∀ t, t < N → la' 10 t = sz N (fun s => sh s * g s t) % p)) 0 0) = Z
  have loop : ∀ (d t : Nat) (la1 : Nat → Nat → Int) (w1 : ze_W), t + d = N → tst G w0 w1 E N K q FL ia la1 → (∀ j, j ≠ 10 → la1 j = la j) → (∀ u, u < t → la1 10 u = sz N (fun s => sh s * g s u) % p) → ze_V G l (ze_rm 1 0 0) M4_goOn Z 2 [(0, .ref E), (1, ze_i (p)), (2, ze_i ((t : Nat)))] [] w1 0 0 := by
    intro d
    induction d with
    | zero =>
      intro t la1 w1 hs hS1 i1 i2
      rw [← hQ]
      refine ze_iload_n dX4_goOn_2 rfl ?_
      refine ze_aload_n dX4_goOn_3 rfl ?_
      refine ze_getf dX4_goOn_4 fl_X4_9 (tt_o hS1) rfl ?_
      refine ze_icmp_ge 71 dX4_goOn_7 (by decide) (by omega) (by omega) (fun q1 => ?_) (fun q1 => ?_)
      · exact ze_return rfl dX4_goOn_71 ⟨rfl, la1, hS1, i1, fun u hu => i2 u (by omega)⟩ rfl rfl
      · omega
    | succ d ih =>
      intro t la1 w1 hs hS1 i1 i2
      have inn : ∀ (e s : Nat), s + e = N → ze_V G l (ze_rm 1 0 0) M4_goOn Z 15 [(0, .ref E), (1, ze_i (p)), (2, ze_i ((t : Nat))), (3, ze_l (sz s (fun u => sh u * g u t))), (5, ze_i ((s : Nat)))] [] w1 0 0 := by
        intro e
        induction e with
        | zero =>
          intro s hse
          have hsN : s = N := by omega
          have hsum := tm_szr (n := s) (B := 2147483648 * 1000) (f := fun u => sh u * g u t) (fun j hj => hb j t (by omega) (by omega))
          refine ze_iload dX4_goOn_15 rfl ?_
          refine ze_aload_n dX4_goOn_17 rfl ?_
          refine ze_getf dX4_goOn_18 fl_X4_9 (tt_o hS1) rfl ?_
          refine ze_icmp_ge 54 dX4_goOn_21 (by decide) (by omega) (by omega) (fun q1 => ?_) (fun q1 => ?_)
          · refine ze_aload_n dX4_goOn_54 rfl ?_
            refine ze_getf dX4_goOn_55 fl_X4_50 (tt_o hS1) rfl ?_
            refine ze_iload_n dX4_goOn_58 rfl ?_
            refine ze_lload_n dX4_goOn_59 rfl ?_
            refine ze_iload_n dX4_goOn_60 rfl ?_
            refine ze_callS (As := [ze_l (sz s (fun u => sh u * g u t)), ze_i (p)]) (rest := [ze_i ((t : Nat)), .ref (E + 10)]) dX4_goOn_61 (C4_restOf (v := sz s (fun u => sh u * g u t)) (p := p) (by omega) hp) mo4_restOf ml_X4_100 st_4_restOf rfl rfl rfl ⟨Nat.le_refl _, Nat.le_refl _⟩ rfl (Nat.le_of_ble_eq_true rfl) ?_
            rintro _ w' ⟨r2, rfl, rfl, rfl⟩
            change ze_V G l (ze_rm 1 0 0) M4_goOn _ 64 [(0, .ref E), (1, ze_i (p)), (2, ze_i ((t : Nat))), (3, ze_l (sz s (fun u => sh u * g u t))), (5, ze_i ((s : Nat)))] [ze_l ((sz s (fun u => sh u * g u t)) % p), ze_i ((t : Nat)), .ref (E + 10)] w' 0 0
            refine ze_lastW (j := t) (f' := va_up (la1 10) t ((sz s (fun u => sh u * g u t)) % p)) dX4_goOn_64 (show w'.2 (E + 10) = some (ze_la G 16 (la1 10)) from tt_l hS1 10 (by decide)) (by omega) (by omega) (by omega) rfl (fun w3 z3 c3 o3 => ?_)
            have hS3 := tt_wl hS1 10 (by decide) z3 c3 o3
            refine ze_iinc (b := ((t + 1 : Nat))) (lv' := [(0, .ref E), (1, ze_i (p)), (2, ze_i (((t + 1 : Nat)))), (3, ze_l (sz s (fun u => sh u * g u t))), (5, ze_i ((s : Nat)))]) dX4_goOn_65 rfl rfl (by omega) rfl ?_
            refine ze_goto 2 dX4_goOn_68 (by decide) ?_
            refine ze_lv (lv' := [(0, .ref E), (1, ze_i (p)), (2, ze_i (((t + 1 : Nat))))]) [0, 1, 2] rfl ?_
            refine ih (t + 1) _ _ (by omega) hS3 (fun j hj => by rw [va_up_ne _ _ hj]; exact i1 j hj) (fun u hu => ?_)
            rw [va_up_self]
            by_cases e : u = t
            · rw [e, va_up_self, hsN]
            · rw [va_up_ne _ _ e]; exact i2 u (by omega)
          · omega
        | succ e ihe =>
          intro s hse
          obtain ⟨d1, d2⟩ := hD s (by omega)
          obtain ⟨g1, g2⟩ := hg s t (by omega) (by omega)
          refine ze_iload dX4_goOn_15 rfl ?_
          refine ze_aload_n dX4_goOn_17 rfl ?_
          refine ze_getf dX4_goOn_18 fl_X4_9 (tt_o hS1) rfl ?_
          refine ze_icmp_ge 54 dX4_goOn_21 (by decide) (by omega) (by omega) (fun q1 => ?_) (fun q1 => ?_)
          · omega
          · refine ze_lload_n dX4_goOn_24 rfl ?_
            refine ze_aload_n dX4_goOn_25 rfl ?_
            refine ze_getf dX4_goOn_26 fl_X4_47 (tt_o hS1) rfl ?_
            refine ze_iload dX4_goOn_29 rfl ?_
            refine ze_lald (j := s) dX4_goOn_31 (show w1.2 (E + 9) = some (ze_la G 16 (la1 9)) from tt_l hS1 9 (by decide)) (by omega) (by omega) (by omega) ?_
            rw [i1 9 (by decide), d1]
            refine ze_aload_n dX4_goOn_32 rfl ?_
            refine ze_getf dX4_goOn_33 fl_X4_18 (tt_o hS1) rfl ?_
            refine ze_iload dX4_goOn_36 rfl ?_
            refine ze_bipush dX4_goOn_38 (by decide) ?_
            refine ze_imul dX4_goOn_40 ?_
            refine ze_iload_n dX4_goOn_41 rfl ?_
            refine ze_iadd dX4_goOn_42 ?_
            refine ze_iald (j := (s * 16 + t)) dX4_goOn_43 (show w1.2 (E + 1) = some (ze_ia G 256 (ia 1)) from tt_i hS1 1 (by decide)) (by omega) (by omega) (by omega) ?_
            rw [g1]
            refine ze_i2l dX4_goOn_44 (by omega) ?_
            refine ze_lmul dX4_goOn_45 ?_
            refine ze_ladd dX4_goOn_46 ?_
            refine ze_tl (b := sz (s + 1) (fun u => sh u * g u t)) rfl ?_
            refine ze_lstore_n (lv' := [(0, .ref E), (1, ze_i (p)), (2, ze_i ((t : Nat))), (3, ze_l (sz (s + 1) (fun u => sh u * g u t))), (5, ze_i ((s : Nat)))]) dX4_goOn_47 rfl rfl ?_
            refine ze_iinc (b := ((s + 1 : Nat))) (lv' := [(0, .ref E), (1, ze_i (p)), (2, ze_i ((t : Nat))), (3, ze_l (sz (s + 1) (fun u => sh u * g u t))), (5, ze_i (((s + 1 : Nat))))]) dX4_goOn_48 rfl rfl (by omega) rfl ?_
            refine ze_goto 15 dX4_goOn_51 (by decide) ?_
            exact ihe (s + 1) (by omega)
      refine ze_iload_n dX4_goOn_2 rfl ?_
      refine ze_aload_n dX4_goOn_3 rfl ?_
      refine ze_getf dX4_goOn_4 fl_X4_9 (tt_o hS1) rfl ?_
      refine ze_icmp_ge 71 dX4_goOn_7 (by decide) (by omega) (by omega) (fun q1 => ?_) (fun q1 => ?_)
      · omega
      · refine ze_lconst (z := 0) dX4_goOn_10 (by decide) ?_
        refine ze_tl (b := sz 0 (fun u => sh u * g u t)) rfl ?_
        refine ze_lstore_n (lv' := [(0, .ref E), (1, ze_i (p)), (2, ze_i ((t : Nat))), (3, ze_l (sz 0 (fun u => sh u * g u t)))]) dX4_goOn_11 rfl rfl ?_
        refine ze_iconst dX4_goOn_12 ?_
        refine ze_ti (b := ((0 : Nat) : Nat)) rfl ?_
        refine ze_istore (lv' := [(0, .ref E), (1, ze_i (p)), (2, ze_i ((t : Nat))), (3, ze_l (sz 0 (fun u => sh u * g u t))), (5, ze_i (((0 : Nat) : Nat)))]) dX4_goOn_13 rfl rfl ?_
        exact inn N 0 (by omega)
  change ze_V G l (ze_rm 1 0 0) M4_goOn Z 0 [(0, .ref E), (1, ze_i (p))] [] w 0 0
  refine ze_iconst dX4_goOn_0 ?_
  refine ze_ti (b := ((0 : Nat) : Nat)) rfl ?_
  refine ze_istore_n (lv' := [(0, .ref E), (1, ze_i (p)), (2, ze_i (((0 : Nat) : Nat)))]) dX4_goOn_1 rfl rfl ?_
  exact loop N 0 la w (by omega) hS (fun _ _ => rfl) (fun u hu => absurd hu (Nat.not_lt_zero _))
