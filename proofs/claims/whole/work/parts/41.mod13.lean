/-! the reference: shorten -/
def gz (z : Nat → Int) : Nat → Nat
  | 0 => 0
  | k + 1 => Nat.gcd (gz z k) (z k).natAbs
theorem gz_s (z : Nat → Int) (k : Nat) : gz z (k + 1) = Nat.gcd (gz z k) (z k).natAbs := rfl
theorem gz_dvd {z : Nat → Int} {n k : Nat} (h : k < n) : (gz z n : Int) ∣ z k := by
  induction n with
  | zero => exact absurd h (Nat.not_lt_zero _)
  | succ n ih =>
    rw [gz_s]
    by_cases e : k = n
    · rw [e]
      exact Int.ofNat_dvd_left.2 (Nat.gcd_dvd_right _ _)
    · exact Int.dvd_trans (Int.natCast_dvd_natCast.2 (Nat.gcd_dvd_left _ _)) (ih (by omega))
theorem gz_mul {z z' : Nat → Int} {g : Nat} {n : Nat} (h : ∀ k, k < n → z k = (g : Nat) * z' k) : gz z n = g * gz z' n := by
  induction n with
  | zero => rfl
  | succ n ih =>
    rw [gz_s, gz_s, ih (fun k hk => h k (by omega)), h n (by omega), Int.natAbs_mul, Int.natAbs_natCast, Nat.gcd_mul_left]
theorem gz_cong {z z' : Nat → Int} {n : Nat} (h : ∀ k, k < n → z k = z' k) : gz z n = gz z' n := by
  induction n with
  | zero => rfl
  | succ n ih => rw [gz_s, gz_s, ih (fun k hk => h k (by omega)), h n (by omega)]
theorem gz_zero {z : Nat → Int} {n : Nat} (h : gz z n = 0) : ∀ k, k < n → z k = 0 := by
  intro k hk
  have := gz_dvd (z := z) hk
  rw [h] at this
  exact Int.zero_dvd.1 this
theorem gz_le {z : Nat → Int} {n B : Nat} (h : ∀ k, k < n → (z k).natAbs < B) (hB : 0 < B) : gz z n < B := by
  induction n with
  | zero => exact hB
  | succ n ih =>
    rw [gz_s]
    rcases Nat.eq_zero_or_pos (gz z n) with h0 | h0
    · rw [h0, Nat.gcd_zero_left]
      exact h n (by omega)
    · exact Nat.lt_of_le_of_lt (Nat.gcd_le_left _ h0) (ih (fun k hk => h k (by omega)))
/-- a Big's sign is made a plus -/
theorem ms_abs {G : ze_G} {w0 w : ze_W} {m C P F : Nat} {ar : Nat → Nat → Int} {bz : Nat → Int} (hM : mst G w0 w m C P F ar bz) {o : Nat} (ho : mcap o ≠ 0) : ∃ (n : Nat) (sg : Int), w.2 (m + o) = some (ze_ob 7 [.ref (m + o + 1), ze_i (n : Nat), ze_i sg]) ∧ (sg = 0 ∨ sg = 1 ∨ sg = -1) ∧ (sg = 0 ↔ bz o = 0) ∧ ∀ (w' : ze_W) (s' : Int), w'.1 = w.1 → w'.2 (m + o) = some (ze_ob 7 [.ref (m + o + 1), ze_i (n : Nat), ze_i s']) → (∀ x, x ≠ m + o → w'.2 x = w.2 x) → ((sg = 0 ∧ s' = 0) ∨ (sg ≠ 0 ∧ s' = 1)) → mst G w0 w' m C P F ar (va_up bz o ((bz o).natAbs : Nat)) := by
  obtain ⟨f, n, sg, h1, h2, h3, h4⟩ := ms_b hM ho
  have e : (bz o).natAbs = nv 4294967296 f n := by
    rcases h4 with ⟨g1, g2⟩ | ⟨g1, g2 | g2⟩ <;> rw [h3, g2]
    · rw [g1]; rfl
    · rw [Int.one_mul]; rfl
    · rw [Int.neg_mul, Int.one_mul, Int.natAbs_neg]; rfl
  refine ⟨n, sg, h1.1, ?_, ?_, ?_⟩
  · rcases h4 with ⟨g1, g2⟩ | ⟨g1, g2⟩
    · left; exact g2
    · right; exact g2
  · constructor
    · intro h; rw [h3, h, Int.zero_mul]
    · intro h
      rcases h4 with ⟨g1, g2⟩ | ⟨g1, g2⟩
      · exact g2
      · have := bnz_pos h2 g1
        rw [h] at e
        have e : 0 = nv 4294967296 f n := e
        omega
  · intro w' s' z1 c1 o1 hs
    refine ms_wb hM ho ⟨z1, fun x p q => o1 x p⟩ ⟨f, n, s', ⟨c1, (o1 _ (by omega)).trans h1.2.1, h1.2.2⟩, h2, ?_, ?_⟩
    · rw [e]
      rcases hs with ⟨g1, g2⟩ | ⟨g1, g2⟩
      · rw [g2, Int.zero_mul]
        rcases h4 with ⟨k1, k2⟩ | ⟨k1, k2⟩
        · rw [k1]; rfl
        · omega
      · rw [g2, Int.one_mul]
    · rcases hs with ⟨g1, g2⟩ | ⟨g1, g2⟩
      · rcases h4 with ⟨k1, k2⟩ | ⟨k1, k2⟩
        · left; exact ⟨k1, g2⟩
        · omega
      · rcases h4 with ⟨k1, k2⟩ | ⟨k1, k2⟩
        · omega
        · right; exact ⟨k1, Or.inl g2⟩
theorem C8_shorten {G : ze_G} {l : Launch} {w0 w : ze_W} {m C P F : Nat} {ar : Nat → Nat → Int} {bz : Nat → Int} (hM : mst G w0 w m C P F ar bz) {z : Nat → Int} {K : Nat} (hz : ∀ k, k < 16 → bz (22244 + 2 * k) = z k) (hfz : ∀ k, k < 16 → fit (z k) K) (hK : K ≤ 400) : ze_C G l 5 0 0 M8_shorten [.ref m] w (ze_qv (fun w' => ∃ bz' z' g, mst G w0 w' m C P F ar bz' ∧ (∀ k, k < 16 → bz' (22244 + 2 * k) = z' k) ∧ 0 < g ∧ (∀ k, k < 16 → z k = ((g : Nat) : Int) * z' k) ∧ (gz z' 16 = 0 ∨ gz z' 16 = 1) ∧ (∀ o, o < 22244 → o ≠ 24 → o ≠ 26 → o ≠ 28 → o ≠ 32 → bz' o = bz o))) := by
  have hB0 : 0 < 4294967296 ^ K := Nat.pow_pos (by decide)
  have hgB : ∀ n, n ≤ 16 → gz z n < 4294967296 ^ K := fun n hn => gz_le (fun k hk => hfz k (by omega)) hB0
  refine ze_enter (by decide +kernel) rfl ?_
  generalize hQ : (ze_Q G (ze_qv (fun w' => ∃ bz' z' g, mst G w0 w' m C P F ar bz' ∧ (∀ k, k < 16 → bz' (22244 + 2 * k) = z' k) ∧ 0 < g ∧ (∀ k, k < 16 → z k = ((g : Nat) : Int) * z' k) ∧ (gz z' 16 = 0 ∨ gz z' 16 = 1) ∧ (∀ o, o < 22244 → o ≠ 24 → o ≠ 26 → o ≠ 28 → o ≠ 32 → bz' o = bz o))) 0 0) = Z
  have divs : ∀ (g : Nat) (z' : Nat → Int), 1 < g → g = gz z 16 → (∀ k, k < 16 → z k = ((g : Nat) : Int) * z' k) → ∀ (d k : Nat) (bz1 : Nat → Int) (w1 : ze_W), k + d = 16 → mst G w0 w1 m C P F ar bz1 → bz1 32 = (g : Nat) → (∀ j, j < k → bz1 (22244 + 2 * j) = z' j) → (∀ j, k ≤ j → j < 16 → bz1 (22244 + 2 * j) = z j) → (∀ o, o < 22244 → o ≠ 24 → o ≠ 26 → o ≠ 28 → o ≠ 32 → bz1 o = bz o) → ze_V G l (ze_rm 5 0 0) M8_shorten Z 124 [(0, .ref m), (1, ze_i ((k : Nat)))] [] w1 0 0 := by
    intro g z' hg hgz hz' d
    induction d with
    | zero =>
      intro k bz1 w1 hk hM1 h32 hd hr hf
      refine ze_iload_n dX8_shorten_124 rfl ?_
      refine ze_bipush dX8_shorten_125 (by decide) ?_
      refine ze_icmp_ge 170 dX8_shorten_127 (by decide) (by omega) (by omega) (fun q1 => ?_) (fun q1 => ?_)
      · rw [← hQ]
        refine ze_return rfl dX8_shorten_170 ⟨rfl, bz1, z', g, hM1, fun j hj => hd j (by omega), by omega, hz', Or.inr ?_, hf⟩ rfl rfl
        have h1 := gz_mul hz'
        rw [← hgz] at h1
        have h2 : g * 1 = g * gz z' 16 := by rw [Nat.mul_one]; exact h1
        exact (Nat.eq_of_mul_eq_mul_left (by omega) h2).symm
      · omega
    | succ d ih =>
      intro k bz1 w1 hk hM1 h32 hd hr hf
      have ek := hr k (Nat.le_refl _) (by omega)
      have hfk : fit (bz1 (22244 + 2 * k)) K := by rw [ek]; exact hfz k (by omega)
      refine ze_iload_n dX8_shorten_124 rfl ?_
      refine ze_bipush dX8_shorten_125 (by decide) ?_
      refine ze_icmp_ge 170 dX8_shorten_127 (by decide) (by omega) (by omega) (fun q1 => ?_) (fun q1 => ?_)
      · omega
      · refine ze_aload_n dX8_shorten_130 rfl ?_
        refine ze_getf dX8_shorten_131 fl_X8_83 (ms_o hM1) rfl ?_
        refine ze_aload_n dX8_shorten_134 rfl ?_
        refine ze_getf dX8_shorten_135 fl_X8_80 (ms_o hM1) rfl ?_
        refine ze_iload_n dX8_shorten_138 rfl ?_
        refine ze_aald (j := k) (b := (m + (22244 + 2 * k))) dX8_shorten_139 (show w1.2 (m + 23) = some (ze_ra G 4 16 (fun j => some (m + mro 23 j))) from ms_r hM1 23 (by decide)) rfl (by omega) (by omega) (by omega) rfl ?_
        refine ze_aload_n dX8_shorten_140 rfl ?_
        refine ze_getf dX8_shorten_141 fl_X8_95 (ms_o hM1) rfl ?_
        refine ze_aload_n dX8_shorten_144 rfl ?_
        refine ze_getf dX8_shorten_145 fl_X8_86 (ms_o hM1) rfl ?_
        refine ze_callV (As := [.ref (m + (22244 + 2 * k)), .ref (m + 32), .ref (m + 26)]) (rest := []) dX8_shorten_148 (E7_over hM1 (o1 := 24) (o2 := 22244 + 2 * k) (o3 := 32) (o4 := 26) (K := K) (by decide) (mc_23 (by omega)) (by decide) (by decide) (by omega) (by decide) (by decide) (by omega) (by decide) (by rw [h32]; omega) hfk (by show K ≤ 420; omega) (by show K + 2 ≤ 420; omega)) mo7_over ml_X8_196 in_7_over se_7_over (ms_bx hM1 (by decide)).choose_spec rfl rfl rfl rfl rfl ⟨Nat.le_refl _, Nat.le_refl _⟩ rfl (Nat.le_of_ble_eq_true rfl) ?_
        rintro _ w2 ⟨rfl, hM2⟩
        change ze_V G l (ze_rm 5 0 0) M8_shorten _ 151 [(0, .ref m), (1, ze_i ((k : Nat)))] [] w2 0 0
        have e24 : (va_up (va_up bz1 24 ((bz1 (22244 + 2 * k)).tdiv (bz1 32))) 26 ((bz1 (22244 + 2 * k)).tmod (bz1 32))) 24 = z' k := by
          rw [va_up_ne _ _ (by decide), va_up_self, ek, h32, hz' k (by omega)]
          exact Int.mul_tdiv_cancel_left _ (by omega)
        have eo : ∀ o, o ≠ 24 → o ≠ 26 → (va_up (va_up bz1 24 ((bz1 (22244 + 2 * k)).tdiv (bz1 32))) 26 ((bz1 (22244 + 2 * k)).tmod (bz1 32))) o = bz1 o := fun o g1 g2 => by rw [va_up_ne _ _ g2, va_up_ne _ _ g1]
        generalize va_up (va_up bz1 24 ((bz1 (22244 + 2 * k)).tdiv (bz1 32))) 26 ((bz1 (22244 + 2 * k)).tmod (bz1 32)) = bz2 at *
        refine ze_aload_n dX8_shorten_151 rfl ?_
        refine ze_getf dX8_shorten_152 fl_X8_80 (ms_o hM2) rfl ?_
        refine ze_iload_n dX8_shorten_155 rfl ?_
        refine ze_aald (j := k) (b := (m + (22244 + 2 * k))) dX8_shorten_156 (show w2.2 (m + 23) = some (ze_ra G 4 16 (fun j => some (m + mro 23 j))) from ms_r hM2 23 (by decide)) rfl (by omega) (by omega) (by omega) rfl ?_
        refine ze_aload_n dX8_shorten_157 rfl ?_
        refine ze_getf dX8_shorten_158 fl_X8_83 (ms_o hM2) rfl ?_
        refine ze_callV (As := [.ref (m + 24)]) (rest := []) dX8_shorten_161 (E7_copy hM2 (o1 := 22244 + 2 * k) (o2 := 24) (mc_23 (by omega)) (by decide) (by omega) (by rw [mv_420 (by omega) (by omega) (by omega)]; exact bgz_cap (ms_b hM2 (o := 24) (by decide)))) mo7_copy ml_X8_143 in_7_copy se_7_copy (ms_bx hM2 (mc_23 (by omega))).choose_spec rfl rfl rfl rfl rfl ⟨Nat.le_refl _, Nat.le_refl _⟩ rfl (Nat.le_of_ble_eq_true rfl) ?_
        rintro _ w3 ⟨rfl, hM3⟩
        change ze_V G l (ze_rm 5 0 0) M8_shorten _ 164 [(0, .ref m), (1, ze_i ((k : Nat)))] [] w3 0 0
        refine ze_iinc (b := ((k + 1 : Nat))) (lv' := [(0, .ref m), (1, ze_i (((k + 1 : Nat))))]) dX8_shorten_164 rfl rfl (by omega) rfl ?_
        refine ze_goto 124 dX8_shorten_167 (by decide) ?_
        refine ih (k + 1) _ _ (by omega) hM3 (by rw [va_up_ne _ _ (by omega), eo 32 (by decide) (by decide), h32]) (fun j hj => ?_) (fun j h1 h2 => ?_) (fun o g0 g1 g2 g3 g4 => ?_)
        · by_cases e : j = k
          · rw [e, va_up_self, e24]
          · rw [va_up_ne _ _ (by omega), eo _ (by omega) (by omega)]; exact hd j (by omega)
        · rw [va_up_ne _ _ (by omega), eo _ (by omega) (by omega)]; exact hr j (by omega) h2
        · rw [va_up_ne _ _ (by omega), eo o g1 g2]; exact hf o g0 g1 g2 g3 g4
  have gcds : ∀ (d k : Nat) (bz1 : Nat → Int) (w1 : ze_W), k + d = 16 → mst G w0 w1 m C P F ar bz1 → bz1 32 = (gz z k : Nat) → (∀ j, j < 16 → bz1 (22244 + 2 * j) = z j) → (∀ o, o < 22244 → o ≠ 24 → o ≠ 26 → o ≠ 28 → o ≠ 32 → bz1 o = bz o) → ze_V G l (ze_rm 5 0 0) M8_shorten Z 9 [(0, .ref m), (1, ze_i ((k : Nat)))] [] w1 0 0 := by
    intro d
    induction d with
    | zero =>
      intro k bz1 w1 hk hM1 h32 hn hf
      have hk16 : k = 16 := by omega
      rw [hk16] at h32
      refine ze_iload_n dX8_shorten_9 rfl ?_
      refine ze_bipush dX8_shorten_10 (by decide) ?_
      refine ze_icmp_ge 110 dX8_shorten_12 (by decide) (by omega) (by omega) (fun q1 => ?_) (fun q1 => ?_)
      · refine ze_aload_n dX8_shorten_110 rfl ?_
        refine ze_getf dX8_shorten_111 fl_X8_95 (ms_o hM1) rfl ?_
        refine ze_callV (As := []) (rest := []) dX8_shorten_114 (E7_bits hM1 (o1 := 32) (by decide)) mo7_bits ml_X8_200 in_7_bits se_7_bits (ms_bx hM1 (by decide)).choose_spec rfl rfl rfl rfl rfl ⟨Nat.le_refl _, Nat.le_refl _⟩ rfl (Nat.le_of_ble_eq_true rfl) ?_
        rintro _ w' ⟨rb, rfl, hb1, hb2, rfl⟩
        rw [h32, Int.natAbs_natCast] at hb1
        change ze_V G l (ze_rm 5 0 0) M8_shorten _ 117 [(0, .ref m), (1, ze_i ((k : Nat)))] [ze_i (rb)] w' 0 0
        refine ze_iconst dX8_shorten_117 ?_
        refine ze_icmp_ge 122 dX8_shorten_118 (by decide) (by omega) (by omega) (fun q2 => ?_) (fun q2 => ?_)
        · have hg2 : 1 < gz z 16 := by
            rcases Nat.lt_or_ge 1 (gz z 16) with h | h
            · exact h
            · have := hb1.2 (by omega)
              omega
          have hex : ∀ j, ∃ q, j < 16 → z j = ((gz z 16 : Nat) : Int) * q := fun j => by
            by_cases h : j < 16
            · obtain ⟨q, hq⟩ := gz_dvd (z := z) h
              exact ⟨q, fun _ => hq⟩
            · exact ⟨0, fun h2 => absurd h2 h⟩
          refine ze_iconst dX8_shorten_122 ?_
          refine ze_ti (b := ((0 : Nat) : Nat)) rfl ?_
          refine ze_istore_n (lv' := [(0, .ref m), (1, ze_i (((0 : Nat) : Nat)))]) dX8_shorten_123 rfl rfl ?_
          exact divs (gz z 16) (fun j => (hex j).choose) hg2 rfl (fun j hj => (hex j).choose_spec hj) 16 0 bz1 _ (by omega) hM1 h32 (fun j hj => absurd hj (Nat.not_lt_zero _)) (fun j _ h2 => hn j h2) hf
        · rw [← hQ]
          have hg2 : gz z 16 < 2 := hb1.1 q2
          exact ze_return rfl dX8_shorten_121 ⟨rfl, bz1, z, 1, hM1, hn, by decide, fun j _ => by rw [show ((1 : Nat) : Int) = 1 from rfl, Int.one_mul], by omega, hf⟩ rfl rfl
      · omega
    | succ d ih =>
      intro k bz0 w0' hk hM0 h320 hn0 hf0
      have hgk := hgB (k + 1) (by omega)
      have euc : ∀ (fu A B : Nat) (bz1 : Nat → Int) (w1 : ze_W), B ≤ fu → A < 4294967296 ^ K → B < 4294967296 ^ K → Nat.gcd A B = gz z (k + 1) → mst G w0 w1 m C P F ar bz1 → bz1 32 = (A : Nat) → bz1 28 = (B : Nat) → (∀ j, j < 16 → bz1 (22244 + 2 * j) = z j) → (∀ o, o < 22244 → o ≠ 24 → o ≠ 26 → o ≠ 28 → o ≠ 32 → bz1 o = bz o) → ze_V G l (ze_rm 5 0 0) M8_shorten Z 50 [(0, .ref m), (1, ze_i ((k : Nat)))] [] w1 0 0 := by
        intro fu
        induction fu with
        | zero =>
          intro A B bz1 w1 hB hAb hBb hg hM1 h32 h28 hn hf
          obtain ⟨bn, bs, hbo, hb0, hb1, -⟩ := ms_bo hM1 (o := 28) (by decide)
          refine ze_aload_n dX8_shorten_50 rfl ?_
          refine ze_getf dX8_shorten_51 fl_X8_89 (ms_o hM1) rfl ?_
          refine ze_getN rfl dX8_shorten_54 inX7 hbo rfl ?_
          refine ze_if_eq 104 dX8_shorten_57 (by decide) (by omega) (fun q1 => ?_) (fun q1 => ?_)
          · refine ze_iinc (b := ((k + 1 : Nat))) (lv' := [(0, .ref m), (1, ze_i (((k + 1 : Nat))))]) dX8_shorten_104 rfl rfl (by omega) rfl ?_
            refine ze_goto 9 dX8_shorten_107 (by decide) ?_
            have hB0 : B = 0 := by have := hb0.1 q1; rw [h28] at this; omega
            rw [hB0, Nat.gcd_zero_right] at hg
            exact ih (k + 1) bz1 w1 (by omega) hM1 (by rw [h32, hg]) hn hf
          · have hBne : B ≠ 0 := fun h => q1 (hb0.2 (by rw [h28, h]; rfl))
            omega
        | succ fu ihf =>
          intro A B bz1 w1 hB hAb hBb hg hM1 h32 h28 hn hf
          obtain ⟨bn, bs, hbo, hb0, hb1, -⟩ := ms_bo hM1 (o := 28) (by decide)
          refine ze_aload_n dX8_shorten_50 rfl ?_
          refine ze_getf dX8_shorten_51 fl_X8_89 (ms_o hM1) rfl ?_
          refine ze_getN rfl dX8_shorten_54 inX7 hbo rfl ?_
          refine ze_if_eq 104 dX8_shorten_57 (by decide) (by omega) (fun q1 => ?_) (fun q1 => ?_)
          · refine ze_iinc (b := ((k + 1 : Nat))) (lv' := [(0, .ref m), (1, ze_i (((k + 1 : Nat))))]) dX8_shorten_104 rfl rfl (by omega) rfl ?_
            refine ze_goto 9 dX8_shorten_107 (by decide) ?_
            have hB0 : B = 0 := by have := hb0.1 q1; rw [h28] at this; omega
            rw [hB0, Nat.gcd_zero_right] at hg
            exact ih (k + 1) bz1 w1 (by omega) hM1 (by rw [h32, hg]) hn hf
          · refine ze_aload_n dX8_shorten_60 rfl ?_
            refine ze_getf dX8_shorten_61 fl_X8_83 (ms_o hM1) rfl ?_
            refine ze_aload_n dX8_shorten_64 rfl ?_
            refine ze_getf dX8_shorten_65 fl_X8_95 (ms_o hM1) rfl ?_
            refine ze_aload_n dX8_shorten_68 rfl ?_
            refine ze_getf dX8_shorten_69 fl_X8_89 (ms_o hM1) rfl ?_
            refine ze_aload_n dX8_shorten_72 rfl ?_
            refine ze_getf dX8_shorten_73 fl_X8_86 (ms_o hM1) rfl ?_
            have hBne : B ≠ 0 := fun h => q1 (hb0.2 (by rw [h28, h]; rfl))
            refine ze_callV (As := [.ref (m + 32), .ref (m + 28), .ref (m + 26)]) (rest := []) dX8_shorten_76 (E7_over hM1 (o1 := 24) (o2 := 32) (o3 := 28) (o4 := 26) (K := K) (by decide) (by decide) (by decide) (by decide) (by decide) (by decide) (by decide) (by decide) (by decide) (by rw [h28]; omega) (by rw [h32]; exact hAb) (by show K ≤ 420; omega) (by show K + 2 ≤ 420; omega)) mo7_over ml_X8_196 in_7_over se_7_over (ms_bx hM1 (by decide)).choose_spec rfl rfl rfl rfl rfl ⟨Nat.le_refl _, Nat.le_refl _⟩ rfl (Nat.le_of_ble_eq_true rfl) ?_
            rintro _ w2 ⟨rfl, hM2⟩
            change ze_V G l (ze_rm 5 0 0) M8_shorten _ 79 [(0, .ref m), (1, ze_i ((k : Nat)))] [] w2 0 0
            have e26 : (va_up (va_up bz1 24 ((bz1 32).tdiv (bz1 28))) 26 ((bz1 32).tmod (bz1 28))) 26 = (A % B : Nat) := by rw [va_up_self, h32, h28]; exact (Int.ofNat_tmod _ _).symm
            have eo : ∀ o, o ≠ 24 → o ≠ 26 → (va_up (va_up bz1 24 ((bz1 32).tdiv (bz1 28))) 26 ((bz1 32).tmod (bz1 28))) o = bz1 o := fun o g1 g2 => by rw [va_up_ne _ _ g2, va_up_ne _ _ g1]
            generalize va_up (va_up bz1 24 ((bz1 32).tdiv (bz1 28))) 26 ((bz1 32).tmod (bz1 28)) = bz2 at *
            refine ze_aload_n dX8_shorten_79 rfl ?_
            refine ze_getf dX8_shorten_80 fl_X8_95 (ms_o hM2) rfl ?_
            refine ze_aload_n dX8_shorten_83 rfl ?_
            refine ze_getf dX8_shorten_84 fl_X8_89 (ms_o hM2) rfl ?_
            refine ze_callV (As := [.ref (m + 28)]) (rest := []) dX8_shorten_87 (E7_copy hM2 (o1 := 32) (o2 := 28) (by decide) (by decide) (by decide) (bgz_cap (ms_b hM2 (o := 28) (by decide)))) mo7_copy ml_X8_143 in_7_copy se_7_copy (ms_bx hM2 (by decide)).choose_spec rfl rfl rfl rfl rfl ⟨Nat.le_refl _, Nat.le_refl _⟩ rfl (Nat.le_of_ble_eq_true rfl) ?_
            rintro _ w3 ⟨rfl, hM3⟩
            change ze_V G l (ze_rm 5 0 0) M8_shorten _ 90 [(0, .ref m), (1, ze_i ((k : Nat)))] [] w3 0 0
            have e32 : (va_up bz2 32 (bz2 28)) 32 = (B : Nat) := by rw [va_up_self, eo 28 (by decide) (by decide), h28]
            have e26b : (va_up bz2 32 (bz2 28)) 26 = (A % B : Nat) := by rw [va_up_ne _ _ (by decide), e26]
            have eo2 : ∀ o, o ≠ 24 → o ≠ 26 → o ≠ 32 → (va_up bz2 32 (bz2 28)) o = bz1 o := fun o g1 g2 g3 => by rw [va_up_ne _ _ g3, eo o g1 g2]
            generalize va_up bz2 32 (bz2 28) = bz3 at *
            refine ze_aload_n dX8_shorten_90 rfl ?_
            refine ze_getf dX8_shorten_91 fl_X8_89 (ms_o hM3) rfl ?_
            refine ze_aload_n dX8_shorten_94 rfl ?_
            refine ze_getf dX8_shorten_95 fl_X8_86 (ms_o hM3) rfl ?_
            refine ze_callV (As := [.ref (m + 26)]) (rest := []) dX8_shorten_98 (E7_copy hM3 (o1 := 28) (o2 := 26) (by decide) (by decide) (by decide) (bgz_cap (ms_b hM3 (o := 26) (by decide)))) mo7_copy ml_X8_143 in_7_copy se_7_copy (ms_bx hM3 (by decide)).choose_spec rfl rfl rfl rfl rfl ⟨Nat.le_refl _, Nat.le_refl _⟩ rfl (Nat.le_of_ble_eq_true rfl) ?_
            rintro _ w4 ⟨rfl, hM4⟩
            change ze_V G l (ze_rm 5 0 0) M8_shorten _ 101 [(0, .ref m), (1, ze_i ((k : Nat)))] [] w4 0 0
            refine ze_goto 50 dX8_shorten_101 (by decide) ?_
            have hm : A % B < B := Nat.mod_lt _ (by omega)
            exact ihf B (A % B) _ _ (by omega) hBb (by omega) (by rw [← hg, Nat.gcd_comm A B, Nat.gcd_rec B A, Nat.gcd_comm]) hM4 (by rw [va_up_ne _ _ (by decide), e32]) (by rw [va_up_self, e26b]) (fun j hj => by rw [va_up_ne _ _ (by omega), eo2 _ (by omega) (by omega) (by omega)]; exact hn j hj) (fun o g0 g1 g2 g3 g4 => by rw [va_up_ne _ _ g3, eo2 o g1 g2 g4]; exact hf o g0 g1 g2 g3 g4)
      refine ze_iload_n dX8_shorten_9 rfl ?_
      refine ze_bipush dX8_shorten_10 (by decide) ?_
      refine ze_icmp_ge 110 dX8_shorten_12 (by decide) (by omega) (by omega) (fun q1 => ?_) (fun q1 => ?_)
      · omega
      · refine ze_aload_n dX8_shorten_15 rfl ?_
        refine ze_getf dX8_shorten_16 fl_X8_89 (ms_o hM0) rfl ?_
        refine ze_aload_n dX8_shorten_19 rfl ?_
        refine ze_getf dX8_shorten_20 fl_X8_80 (ms_o hM0) rfl ?_
        refine ze_iload_n dX8_shorten_23 rfl ?_
        refine ze_aald (j := k) (b := (m + (22244 + 2 * k))) dX8_shorten_24 (show w0'.2 (m + 23) = some (ze_ra G 4 16 (fun j => some (m + mro 23 j))) from ms_r hM0 23 (by decide)) rfl (by omega) (by omega) (by omega) rfl ?_
        refine ze_callV (As := [.ref (m + (22244 + 2 * k))]) (rest := []) dX8_shorten_25 (E7_copy hM0 (o1 := 28) (o2 := 22244 + 2 * k) (by decide) (mc_23 (by omega)) (by omega) (by rw [hn0 k (by omega)]; exact fit_le (hfz k (by omega)) (by show K ≤ 420; omega))) mo7_copy ml_X8_143 in_7_copy se_7_copy (ms_bx hM0 (by decide)).choose_spec rfl rfl rfl rfl rfl ⟨Nat.le_refl _, Nat.le_refl _⟩ rfl (Nat.le_of_ble_eq_true rfl) ?_
        rintro _ w2 ⟨rfl, hM2⟩
        change ze_V G l (ze_rm 5 0 0) M8_shorten _ 28 [(0, .ref m), (1, ze_i ((k : Nat)))] [] w2 0 0
        have e28 : (va_up bz0 28 (bz0 (22244 + 2 * k))) 28 = z k := by rw [va_up_self, hn0 k (by omega)]
        have eo : ∀ o, o ≠ 28 → (va_up bz0 28 (bz0 (22244 + 2 * k))) o = bz0 o := fun o g => va_up_ne _ _ g
        generalize va_up bz0 28 (bz0 (22244 + 2 * k)) = bz2 at *
        obtain ⟨bn, bs, hbo, hb1, hb0, habs⟩ := ms_abs hM2 (o := 28) (by decide)
        refine ze_aload_n dX8_shorten_28 rfl ?_
        refine ze_getf dX8_shorten_29 fl_X8_89 (ms_o hM2) rfl ?_
        refine ze_aload_n dX8_shorten_32 rfl ?_
        refine ze_getf dX8_shorten_33 fl_X8_89 (ms_o hM2) rfl ?_
        refine ze_getN rfl dX8_shorten_36 inX7 hbo rfl ?_
        refine ze_if_ne 46 dX8_shorten_39 (by decide) (by omega) (fun q3 => ?_) (fun q3 => ?_)
        · refine ze_iconst dX8_shorten_46 ?_
          refine ze_putNW (fs' := [.ref (m + 28 + 1), ze_i ((bn : Nat)), ze_i (1)]) rfl dX8_shorten_47 inX7 hbo (Nat.le_of_ble_eq_true rfl) rfl (fun w4 zP cP oP => ?_)
          have hMP := habs w4 1 zP cP oP (by omega)
          rw [e28] at hMP
          refine euc (z k).natAbs (gz z k) (z k).natAbs _ _ (Nat.le_refl _) (hgB k (by omega)) (hfz k (by omega)) rfl hMP (by rw [va_up_ne _ _ (by decide), eo 32 (by decide), h320]) (va_up_self _ _ _) (fun j hj => by rw [va_up_ne _ _ (by omega), eo _ (by omega)]; exact hn0 j hj) (fun o g0 g1 g2 g3 g4 => by rw [va_up_ne _ _ g3, eo o g3]; exact hf0 o g0 g1 g2 g3 g4)
        · refine ze_iconst dX8_shorten_42 ?_
          refine ze_goto 47 dX8_shorten_43 (by decide) ?_
          refine ze_putNW (fs' := [.ref (m + 28 + 1), ze_i ((bn : Nat)), ze_i (0)]) rfl dX8_shorten_47 inX7 hbo (Nat.le_of_ble_eq_true rfl) rfl (fun w5 zP cP oP => ?_)
          have hMP := habs w5 0 zP cP oP (by omega)
          rw [e28] at hMP
          refine euc (z k).natAbs (gz z k) (z k).natAbs _ _ (Nat.le_refl _) (hgB k (by omega)) (hfz k (by omega)) rfl hMP (by rw [va_up_ne _ _ (by decide), eo 32 (by decide), h320]) (va_up_self _ _ _) (fun j hj => by rw [va_up_ne _ _ (by omega), eo _ (by omega)]; exact hn0 j hj) (fun o g0 g1 g2 g3 g4 => by rw [va_up_ne _ _ g3, eo o g3]; exact hf0 o g0 g1 g2 g3 g4)
  change ze_V G l (ze_rm 5 0 0) M8_shorten Z 0 [(0, .ref m)] [] w 0 0
  refine ze_aload_n dX8_shorten_0 rfl ?_
  refine ze_getf dX8_shorten_1 fl_X8_95 (ms_o hM) rfl ?_
  refine ze_callV (As := []) (rest := []) dX8_shorten_4 (E7_clear hM (o1 := 32) (by decide)) mo7_clear ml_X8_147 in_7_clear se_7_clear (ms_bx hM (by decide)).choose_spec rfl rfl rfl rfl rfl ⟨Nat.le_refl _, Nat.le_refl _⟩ rfl (Nat.le_of_ble_eq_true rfl) ?_
  rintro _ w1 ⟨rfl, hM1⟩
  change ze_V G l (ze_rm 5 0 0) M8_shorten _ 7 [(0, .ref m)] [] w1 0 0
  refine ze_iconst dX8_shorten_7 ?_
  refine ze_ti (b := ((0 : Nat) : Nat)) rfl ?_
  refine ze_istore_n (lv' := [(0, .ref m), (1, ze_i (((0 : Nat) : Nat)))]) dX8_shorten_8 rfl rfl ?_
  exact gcds 16 0 _ _ (by omega) hM1 (by rw [va_up_self]; rfl) (fun j hj => by rw [va_up_ne _ _ (by omega)]; exact hz j hj) (fun o g0 g1 g2 g3 g4 => by rw [va_up_ne _ _ g4])
