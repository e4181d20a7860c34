/-! Big's methods on the reference's picture -/
theorem mo_ne {m o o' : Nat} (h : o ≠ o') : m + o ≠ m + o' := by omega
theorem E7_clear {G : ze_G} {l : Launch} {w0 w : ze_W} {m C P F : Nat} {ar : Nat → Nat → Int} {bz : Nat → Int} (hM : mst G w0 w m C P F ar bz) {o1 : Nat} (h1 : mcap o1 ≠ 0) : ze_C G l 0 0 0 M7_clear [.ref (m + o1)] w (ze_qv (fun w' => mst G w0 w' m C P F ar (va_up bz o1 (0)))) := by
  obtain ⟨f, n, sg, hb, -⟩ := ms_b hM h1
  refine ze_wk (C7_clear hb) ?_
  rintro _ w' ⟨rfl, fr, hb2⟩
  exact ⟨rfl, ms_wb hM h1 fr ⟨f, 0, 0, hb2, Or.inl rfl, by rw [Int.zero_mul], Or.inl ⟨rfl, rfl⟩⟩⟩
theorem E7_copy {G : ze_G} {l : Launch} {w0 w : ze_W} {m C P F : Nat} {ar : Nat → Nat → Int} {bz : Nat → Int} (hM : mst G w0 w m C P F ar bz) {o1 o2 : Nat} (h1 : mcap o1 ≠ 0) (h2 : mcap o2 ≠ 0) (hne : o1 ≠ o2) (hf : fit (bz o2) (mcap o1)) : ze_C G l 1 0 0 M7_copy [.ref (m + o1), .ref (m + o2)] w (ze_qv (fun w' => mst G w0 w' m C P F ar (va_up bz o1 (bz o2)))) := by
  obtain ⟨f, n, sg, hb, -⟩ := ms_b hM h1
  obtain ⟨f2, n2, sg2, hb2, z2, e2, g2, k2, -⟩ := bgz_o (ms_b hM h2) hf
  refine ze_wk (C7_copy hb hb2 (mo_ne hne) k2) ?_
  rintro _ w' ⟨rfl, fr, hb3⟩
  exact ⟨rfl, ms_wb hM h1 fr (by rw [e2]; exact bgz_cp hb3 z2 g2)⟩
theorem E7_of {G : ze_G} {l : Launch} {w0 w : ze_W} {m C P F : Nat} {ar : Nat → Nat → Int} {bz : Nat → Int} (hM : mst G w0 w m C P F ar bz) {o1 : Nat} {v : Int} (h1 : mcap o1 ≠ 0) (hv : -4611686018427387904 < v ∧ v < 4611686018427387904) : ze_C G l 1 0 0 M7_of [.ref (m + o1), ze_l v] w (ze_qv (fun w' => mst G w0 w' m C P F ar (va_up bz o1 (v)))) := by
  obtain ⟨f, n, sg, hb, -⟩ := ms_b hM h1
  have hc : 2 ≤ mcap o1 := by
    obtain ⟨x, hx⟩ : ∃ x, mcap o1 = x := ⟨_, rfl⟩
    rw [hx] at h1 ⊢
    unfold mcap at hx
    repeat' (split at hx)
    all_goals omega
  refine ze_wk (C7_of hb hc hv) ?_
  rintro _ w' ⟨rfl, fr, hb3⟩
  exact ⟨rfl, ms_wb hM h1 fr hb3⟩
theorem E7_add {G : ze_G} {l : Launch} {w0 w : ze_W} {m C P F : Nat} {ar : Nat → Nat → Int} {bz : Nat → Int} (hM : mst G w0 w m C P F ar bz) {o1 o2 o3 K : Nat} (h1 : mcap o1 ≠ 0) (h2 : mcap o2 ≠ 0) (h3 : mcap o3 ≠ 0) (n2 : o1 ≠ o2) (n3 : o1 ≠ o3) (f2 : fit (bz o2) K) (f3 : fit (bz o3) K) (hK : K + 1 ≤ mcap o1) : ze_C G l 4 0 0 M7_add [.ref (m + o1), .ref (m + o2), .ref (m + o3)] w (ze_qv (fun w' => mst G w0 w' m C P F ar (va_up bz o1 (bz o2 + bz o3)))) := by
  obtain ⟨f, n, sg, hb, -⟩ := ms_b hM h1
  refine ze_wk (C7_add hb (ms_b hM h2) (ms_b hM h3) (mo_ne n2) (mo_ne n3) f2 f3 hK) ?_
  rintro _ w' ⟨rfl, fr, hb3⟩
  exact ⟨rfl, ms_wb hM h1 fr hb3⟩
theorem E7_less {G : ze_G} {l : Launch} {w0 w : ze_W} {m C P F : Nat} {ar : Nat → Nat → Int} {bz : Nat → Int} (hM : mst G w0 w m C P F ar bz) {o1 o2 o3 K : Nat} (h1 : mcap o1 ≠ 0) (h2 : mcap o2 ≠ 0) (h3 : mcap o3 ≠ 0) (n2 : o1 ≠ o2) (n3 : o1 ≠ o3) (f2 : fit (bz o2) K) (f3 : fit (bz o3) K) (hK : K + 1 ≤ mcap o1) : ze_C G l 4 0 0 M7_less [.ref (m + o1), .ref (m + o2), .ref (m + o3)] w (ze_qv (fun w' => mst G w0 w' m C P F ar (va_up bz o1 (bz o2 - bz o3)))) := by
  obtain ⟨f, n, sg, hb, -⟩ := ms_b hM h1
  refine ze_wk (C7_less hb (ms_b hM h2) (ms_b hM h3) (mo_ne n2) (mo_ne n3) f2 f3 hK) ?_
  rintro _ w' ⟨rfl, fr, hb3⟩
  exact ⟨rfl, ms_wb hM h1 fr hb3⟩
theorem E7_times {G : ze_G} {l : Launch} {w0 w : ze_W} {m C P F : Nat} {ar : Nat → Nat → Int} {bz : Nat → Int} (hM : mst G w0 w m C P F ar bz) {o1 o2 o3 K1 K2 : Nat} (h1 : mcap o1 ≠ 0) (h2 : mcap o2 ≠ 0) (h3 : mcap o3 ≠ 0) (n2 : o1 ≠ o2) (n3 : o1 ≠ o3) (f2 : fit (bz o2) K1) (f3 : fit (bz o3) K2) (hK : K1 + K2 ≤ mcap o1) : ze_C G l 1 0 0 M7_times [.ref (m + o1), .ref (m + o2), .ref (m + o3)] w (ze_qv (fun w' => mst G w0 w' m C P F ar (va_up bz o1 (bz o2 * bz o3)))) := by
  obtain ⟨f, n, sg, hb, -⟩ := ms_b hM h1
  refine ze_wk (C7_times hb (ms_b hM h2) (ms_b hM h3) (mo_ne n2) (mo_ne n3) f2 f3 hK) ?_
  rintro _ w' ⟨rfl, fr, hb3⟩
  exact ⟨rfl, ms_wb hM h1 fr hb3⟩
theorem E7_over {G : ze_G} {l : Launch} {w0 w : ze_W} {m C P F : Nat} {ar : Nat → Nat → Int} {bz : Nat → Int} (hM : mst G w0 w m C P F ar bz) {o1 o2 o3 o4 K : Nat} (h1 : mcap o1 ≠ 0) (h2 : mcap o2 ≠ 0) (h3 : mcap o3 ≠ 0) (h4 : mcap o4 ≠ 0) (n2 : o1 ≠ o2) (n3 : o1 ≠ o3) (n4 : o1 ≠ o4) (n5 : o4 ≠ o2) (n6 : o4 ≠ o3) (hy : bz o3 ≠ 0) (f2 : fit (bz o2) K) (hK : K ≤ mcap o1) (hK2 : K + 2 ≤ mcap o4) : ze_C G l 4 0 0 M7_over [.ref (m + o1), .ref (m + o2), .ref (m + o3), .ref (m + o4)] w (ze_qv (fun w' => mst G w0 w' m C P F ar (va_up (va_up bz o1 ((bz o2).tdiv (bz o3))) o4 ((bz o2).tmod (bz o3))))) := by
  obtain ⟨f, n, sg, hb, -⟩ := ms_b hM h1
  obtain ⟨f4, n4', sg4, hb4, -⟩ := ms_b hM h4
  refine ze_wk (C7_over hb (ms_b hM h2) (ms_b hM h3) hb4 (mo_ne n2) (mo_ne n3) (mo_ne n4) (mo_ne n5) (mo_ne n6) hy f2 hK hK2) ?_
  rintro _ w' ⟨rfl, ⟨z1, oo⟩, hb3, hb5⟩
  refine ⟨rfl, ?_⟩
  obtain ⟨⟨g1, g2⟩, g3, g4, g5, g6⟩ := hM
  have k1 := mcap_ne h1
  have k4 := mcap_ne h4
  refine ⟨⟨z1.trans g1, fun x hx => (oo x (by omega) (by omega) (by omega) (by omega)).trans (g2 x hx)⟩, (oo m (by omega) (by omega) (by omega) (by omega)).trans g3, fun q hq => ?_, fun q hq => ?_, fun q hq => ?_⟩
  · have := mil_ne hq
    rw [oo _ (by omega) (by omega) (by omega) (by omega)]; exact g4 q hq
  · have := mrl_ne hq
    rw [oo _ (by omega) (by omega) (by omega) (by omega)]; exact g5 q hq
  · have := mcap_ne hq
    by_cases e : q = o4
    · rw [e, va_up_self]; exact hb5
    · rw [va_up_ne _ _ e]
      by_cases e2 : q = o1
      · rw [e2, va_up_self]; exact hb3
      · rw [va_up_ne _ _ e2]
        exact bgz_sm (g6 q hq) (oo _ (by omega) (by omega) (by omega) (by omega)) (oo _ (by omega) (by omega) (by omega) (by omega))
theorem E7_overSmall {G : ze_G} {l : Launch} {w0 w : ze_W} {m C P F : Nat} {ar : Nat → Nat → Int} {bz : Nat → Int} (hM : mst G w0 w m C P F ar bz) {o1 : Nat} {by' : Int} (h1 : mcap o1 ≠ 0) (hx : 0 ≤ bz o1) (hb : 0 < by' ∧ by' < 2147483648) : ze_C G l 1 0 0 M7_overSmall [.ref (m + o1), ze_i by'] w (ze_qi (fun q w' => q = bz o1 % by' ∧ mst G w0 w' m C P F ar (va_up bz o1 (bz o1 / by')))) := by
  refine ze_wk (C7_overSmall (ms_b hM h1) hx hb) ?_
  rintro _ w' ⟨r, rfl, hr, fr, hb3⟩
  exact ⟨_, rfl, hr, ms_wb hM h1 fr hb3⟩
theorem E7_compare {G : ze_G} {l : Launch} {w0 w : ze_W} {m C P F : Nat} {ar : Nat → Nat → Int} {bz : Nat → Int} (hM : mst G w0 w m C P F ar bz) {o1 o2 : Nat} (h1 : mcap o1 ≠ 0) (h2 : mcap o2 ≠ 0) : ze_C G l 3 0 0 M7_compare [.ref (m + o1), .ref (m + o2)] w (ze_qi (fun r w' => r = cmp3 (bz o1) (bz o2) ∧ w' = w)) := C7_compare (ms_b hM h1) (ms_b hM h2)
theorem E7_bits {G : ze_G} {l : Launch} {w0 w : ze_W} {m C P F : Nat} {ar : Nat → Nat → Int} {bz : Nat → Int} (hM : mst G w0 w m C P F ar bz) {o1 : Nat} (h1 : mcap o1 ≠ 0) : ze_C G l 1 0 0 M7_bits [.ref (m + o1)] w (ze_qi (fun q w' => (q < 2 ↔ (bz o1).natAbs < 2) ∧ (0 ≤ q ∧ q < 2147483648) ∧ w' = w)) := C7_bits (ms_b hM h1)
/-- the object of a Big of the picture -/
theorem ms_bo {G : ze_G} {w0 w : ze_W} {m C P F : Nat} {ar : Nat → Nat → Int} {bz : Nat → Int} (hM : mst G w0 w m C P F ar bz) {o : Nat} (ho : mcap o ≠ 0) : ∃ (n : Nat) (sg : Int), w.2 (m + o) = some (ze_ob 7 [.ref (m + o + 1), ze_i (n : Nat), ze_i sg]) ∧ (sg = 0 ↔ bz o = 0) ∧ (sg = 0 ∨ sg = 1 ∨ sg = -1) ∧ (0 ≤ bz o → 0 ≤ sg) := by
  obtain ⟨f, n, sg, h1, h2, h3, h4⟩ := ms_b hM ho
  refine ⟨n, sg, h1.1, ?_, ?_, ?_⟩
  · constructor
    · intro h; rw [h3, h, Int.zero_mul]
    · intro h
      rcases h4 with ⟨g1, g2⟩ | ⟨g1, g2 | g2⟩
      · exact g2
      · have := bnz_pos h2 g1
        rw [g2] at h3
        omega
      · have := bnz_pos h2 g1
        rw [g2] at h3
        omega
  · rcases h4 with ⟨g1, g2⟩ | ⟨g1, g2⟩
    · left; exact g2
    · right; exact g2
  · intro h
    rcases h4 with ⟨g1, g2⟩ | ⟨g1, g2 | g2⟩
    · omega
    · omega
    · have := bnz_pos h2 g1
      rw [g2] at h3
      omega
