/-! the reference: two chains side by side -/
/-- what goes with sign x from place j to place k of the two chains' states -/
def jm (ar : Nat → Nat → Int) (a b x k j : Nat) : Nat := if j < 8 then (if j < cn ar a ∧ k < cn ar a then cw ar a j x * cg ar a j k else 0) else (if j - 8 < cn ar b ∧ 8 ≤ k ∧ k - 8 < cn ar b then cw ar b (j - 8) x * cg ar b (j - 8) (k - 8) else 0)
def jst (ar : Nat → Nat → Int) (a b x : Nat) (v : Nat → Nat) (k : Nat) : Nat := sm 16 (fun j => v j * jm ar a b x k j)
theorem sm_ext {f : Nat → Nat} {n : Nat} (d : Nat) (h : ∀ j, n ≤ j → j < n + d → f j = 0) : sm (n + d) f = sm n f := by
  induction d with
  | zero => rfl
  | succ d ih => rw [← Nat.add_assoc, sm_s, ih (fun j h1 h2 => h j h1 (by omega)), h (n + d) (by omega) (by omega), Nat.add_zero]
theorem sm_sh {f : Nat → Nat} {n : Nat} (m : Nat) (h : ∀ j, j < n → f j = 0) : sm (n + m) f = sm m (fun j => f (n + j)) := by
  induction m with
  | zero =>
    rw [Nat.add_zero]
    have := sm_ext (f := f) (n := 0) n (fun j _ h2 => h j (by omega))
    rw [Nat.zero_add] at this
    exact this
  | succ m ih => rw [← Nat.add_assoc, sm_s, ih, sm_s]
theorem jst_a {ar : Nat → Nat → Int} {a b x t : Nat} {v : Nat → Nat} (h8 : cn ar a ≤ 8) (ht : t < cn ar a) : jst ar a b x v t = sm (cn ar a) (fun s => v s * (cw ar a s x * cg ar a s t)) := by
  unfold jst
  have e : sm 16 (fun j => v j * jm ar a b x t j) = sm (cn ar a) (fun j => v j * jm ar a b x t j) := by
    have := sm_ext (f := fun j => v j * jm ar a b x t j) (n := cn ar a) (16 - cn ar a) (fun j h1 h2 => by
      show v j * jm ar a b x t j = 0
      unfold jm
      split
      · rw [if_neg (by omega), Nat.mul_zero]
      · rw [if_neg (by omega), Nat.mul_zero])
    rw [show cn ar a + (16 - cn ar a) = 16 by omega] at this
    exact this
  rw [e]
  apply sm_congr
  intro s hs
  show v s * jm ar a b x t s = _
  unfold jm
  rw [if_pos (by omega), if_pos (by omega)]
theorem jst_a0 {ar : Nat → Nat → Int} {a b x t : Nat} {v : Nat → Nat} (h1 : cn ar a ≤ t) (ht : t < 8) : jst ar a b x v t = 0 := by
  unfold jst
  rw [show (16 : Nat) = 0 + 16 from rfl, sm_ext (n := 0) 16 (fun j _ h2 => by
    show v j * jm ar a b x t j = 0
    unfold jm
    split
    · rw [if_neg (by omega), Nat.mul_zero]
    · rw [if_neg (by omega), Nat.mul_zero])]
  rfl
theorem jst_b {ar : Nat → Nat → Int} {a b x t : Nat} {v : Nat → Nat} (h8a : cn ar a ≤ 8) (h8 : cn ar b ≤ 8) (ht : t < cn ar b) : jst ar a b x v (8 + t) = sm (cn ar b) (fun s => v (8 + s) * (cw ar b s x * cg ar b s t)) := by
  unfold jst
  rw [show (16 : Nat) = 8 + 8 from rfl, sm_sh (n := 8) 8 (fun j hj => by
    show v j * jm ar a b x (8 + t) j = 0
    unfold jm
    rw [if_pos (by omega), if_neg (by omega), Nat.mul_zero])]
  have := sm_ext (f := fun j => v (8 + j) * jm ar a b x (8 + t) (8 + j)) (n := cn ar b) (8 - cn ar b) (fun j h1 h2 => by
      show v (8 + j) * jm ar a b x (8 + t) (8 + j) = 0
      unfold jm
      rw [if_neg (by omega), if_neg (by omega), Nat.mul_zero])
  rw [show cn ar b + (8 - cn ar b) = 8 by omega] at this
  rw [this]
  apply sm_congr
  intro s hs
  show v (8 + s) * jm ar a b x (8 + t) (8 + s) = _
  unfold jm
  rw [if_neg (by omega), if_pos (by omega), Nat.add_sub_cancel_left, Nat.add_sub_cancel_left]
theorem jst_b0 {ar : Nat → Nat → Int} {a b x t : Nat} {v : Nat → Nat} (h8a : cn ar a ≤ 8) (h1 : cn ar b ≤ t) : jst ar a b x v (8 + t) = 0 := by
  unfold jst
  rw [show (16 : Nat) = 0 + 16 from rfl, sm_ext (n := 0) 16 (fun j _ h2 => by
    show v j * jm ar a b x (8 + t) j = 0
    unfold jm
    split
    · rw [if_neg (by omega), Nat.mul_zero]
    · rw [if_neg (by omega), Nat.mul_zero])]
  rfl
theorem jm_le {ar : Nat → Nat → Int} {a b x k j : Nat} (ha : mch ar a) (hb : mch ar b) (hx : x < 6) : jm ar a b x k j ≤ 1000000 := by
  have na := mch_n ha
  have nb := mch_n hb
  unfold jm
  split
  · split
    · have h1 := (mch_w ha (show j < 8 by omega) hx).2
      have h2 := (mch_g ha (show j < 8 by omega) (show k < 8 by omega)).2
      exact Nat.mul_le_mul h1 h2
    · exact Nat.zero_le _
  · split
    · have h1 := (mch_w hb (show j - 8 < 8 by omega) hx).2
      have h2 := (mch_g hb (show j - 8 < 8 by omega) (show k - 8 < 8 by omega)).2
      exact Nat.mul_le_mul h1 h2
    · exact Nat.zero_le _
theorem jst_le {ar : Nat → Nat → Int} {a b x k B : Nat} {v : Nat → Nat} (ha : mch ar a) (hb : mch ar b) (hx : x < 6) (hv : ∀ j, j < 16 → v j ≤ B) : jst ar a b x v k ≤ 16 * (B * 1000000) := by
  unfold jst
  exact sm_le (fun j hj => Nat.mul_le_mul (hv j hj) (jm_le ha hb hx))
theorem fit_w {x B : Nat} (h : x ≤ 16 * (B * 1000000)) (hB : B ≤ 10 ^ 102) : fit (x : Nat) 46 := by
  have h1 : x ≤ 16 * (10 ^ 102 * 1000000) := Nat.le_trans h (Nat.mul_le_mul_left _ (Nat.mul_le_mul_right _ hB))
  exact Nat.lt_of_le_of_lt h1 (by decide +kernel)
theorem C8_goOn {G : ze_G} {l : Launch} {w0 w : ze_W} {m C P F : Nat} {ar : Nat → Nat → Int} {bz : Nat → Int} (hM : mst G w0 w m C P F ar bz) {a b n x q B : Nat} {v : Nat → Nat} (hca : a < 6) (hcb : b < 6) (ha : mch ar a) (hb : mch ar b) (hx : x < 6) (hn : n < 18) (hq : q < 18) (hnq : n ≠ q) (hv : ∀ k, k < 16 → bz (21156 + 2 * (n * 16 + k)) = (v k : Nat)) (hvB : ∀ k, k < 16 → v k ≤ B) (hB : B ≤ 10 ^ 102) : ze_C G l 6 0 0 M8_goOn [.ref m, ze_i (a : Nat), ze_i (b : Nat), ze_i (n : Nat), ze_i (x : Nat), ze_i (q : Nat)] w (ze_qv (fun w' => ∃ bz', mst G w0 w' m C P F ar bz' ∧ (∀ k, k < 16 → bz' (21156 + 2 * (q * 16 + k)) = (jst ar a b x v k : Nat)) ∧ (∀ o, o ≠ 24 → o ≠ 26 → o ≠ 34 → o < 21156 + 2 * (q * 16) ∨ 21156 + 2 * (q * 16 + 16) ≤ o → bz' o = bz o))) := by
  obtain ⟨ena, na1, na8⟩ := mch_n ha
  obtain ⟨enb, nb1, nb8⟩ := mch_n hb
  have hjl := fun k => jst_le (k := k) ha hb hx hvB
  have hfv : ∀ k, k < 16 → fit (v k : Nat) 46 := fun k hk => fit_w (Nat.le_trans (hvB k hk) (by omega)) hB
  refine ze_enter (by decide +kernel) rfl ?_
  generalize hQ : (ze_Q G (ze_qv (fun w' => ∃ bz', mst G w0 w' m C P F ar bz' ∧ (∀ k, k < 16 → bz' (21156 + 2 * (q * 16 + k)) = (jst ar a b x v k : Nat)) ∧ (∀ o, o ≠ 24 → o ≠ 26 → o ≠ 34 → o < 21156 + 2 * (q * 16) ∨ 21156 + 2 * (q * 16 + 16) ≤ o → bz' o = bz o))) 0 0) = Z
  have blkB : ∀ (d t : Nat) (bz1 : Nat → Int) (w1 : ze_W), t + d = cn ar b → mst G w0 w1 m C P F ar bz1 → (∀ k, k < 8 + t → bz1 (21156 + 2 * (q * 16 + k)) = (jst ar a b x v k : Nat)) → (∀ k, 8 + t ≤ k → k < 16 → bz1 (21156 + 2 * (q * 16 + k)) = 0) → (∀ o, o ≠ 24 → o ≠ 26 → o ≠ 34 → o < 21156 + 2 * (q * 16) ∨ 21156 + 2 * (q * 16 + 16) ≤ o → bz1 o = bz o) → ze_V G l (ze_rm 6 0 0) M8_goOn Z 123 [(0, .ref m), (1, ze_i ((a : Nat))), (2, ze_i ((b : Nat))), (3, ze_i ((n : Nat))), (4, ze_i ((x : Nat))), (5, ze_i ((q : Nat))), (6, ze_i ((t : Nat)))] [] w1 0 0 := by
    intro d
    induction d with
    | zero =>
      intro t bz1 w1 ht hM1 hd h0 hf
      have htn : t = cn ar b := by omega
      refine ze_iload dX8_goOn_123 rfl ?_
      refine ze_aload_n dX8_goOn_125 rfl ?_
      refine ze_getf dX8_goOn_126 fl_X8_9 (ms_o hM1) rfl ?_
      refine ze_iload_n dX8_goOn_129 rfl ?_
      refine ze_iald (j := b) dX8_goOn_130 (show w1.2 (m + 1) = some (ze_ia G 6 (ar 1)) from ms_i hM1 1 (by decide)) (by omega) (by omega) (by omega) ?_
      rw [enb]
      refine ze_icmp_ge 214 dX8_goOn_131 (by decide) (by omega) (by omega) (fun q1 => ?_) (fun q1 => ?_)
      · rw [← hQ]
        refine ze_return rfl dX8_goOn_214 ⟨rfl, bz1, hM1, fun k hk => ?_, hf⟩ rfl rfl
        by_cases h : k < 8 + t
        · exact hd k h
        · rw [h0 k (by omega) hk, show k = 8 + (k - 8) by omega, jst_b0 na8 (by omega)]
          rfl
      · omega
    | succ d ih =>
      intro t bz0 w0' ht hM0 hd0 h00 hf0
      have htn : t < cn ar b := by omega
      have ejs := jst_b (x := x) (v := v) na8 nb8 htn
      have inn : ∀ (e s : Nat) (bz1 : Nat → Int) (w1 : ze_W), s + e = cn ar b → mst G w0 w1 m C P F ar bz1 → bz1 (21156 + 2 * (q * 16 + (8 + t))) = (sm s (fun s => v (8 + s) * (cw ar b s x * cg ar b s t)) : Nat) → (∀ k, k < 8 + t → bz1 (21156 + 2 * (q * 16 + k)) = (jst ar a b x v k : Nat)) → (∀ k, 8 + t < k → k < 16 → bz1 (21156 + 2 * (q * 16 + k)) = 0) → (∀ o, o ≠ 24 → o ≠ 26 → o ≠ 34 → o < 21156 + 2 * (q * 16) ∨ 21156 + 2 * (q * 16 + 16) ≤ o → bz1 o = bz o) → ze_V G l (ze_rm 6 0 0) M8_goOn Z 137 [(0, .ref m), (1, ze_i ((a : Nat))), (2, ze_i ((b : Nat))), (3, ze_i ((n : Nat))), (4, ze_i ((x : Nat))), (5, ze_i ((q : Nat))), (6, ze_i ((t : Nat))), (7, ze_i ((s : Nat)))] [] w1 0 0 := by
        intro e
        induction e with
        | zero =>
          intro s bz1 w1 hs hM1 hval hd h0 hf
          have hsn : s = cn ar b := by omega
          refine ze_iload dX8_goOn_137 rfl ?_
          refine ze_aload_n dX8_goOn_139 rfl ?_
          refine ze_getf dX8_goOn_140 fl_X8_9 (ms_o hM1) rfl ?_
          refine ze_iload_n dX8_goOn_143 rfl ?_
          refine ze_iald (j := b) dX8_goOn_144 (show w1.2 (m + 1) = some (ze_ia G 6 (ar 1)) from ms_i hM1 1 (by decide)) (by omega) (by omega) (by omega) ?_
          rw [enb]
          refine ze_icmp_ge 208 dX8_goOn_145 (by decide) (by omega) (by omega) (fun q1 => ?_) (fun q1 => ?_)
          · refine ze_iinc (b := ((t + 1 : Nat))) (lv' := [(0, .ref m), (1, ze_i ((a : Nat))), (2, ze_i ((b : Nat))), (3, ze_i ((n : Nat))), (4, ze_i ((x : Nat))), (5, ze_i ((q : Nat))), (6, ze_i (((t + 1 : Nat)))), (7, ze_i ((s : Nat)))]) dX8_goOn_208 rfl rfl (by omega) rfl ?_
            refine ze_goto 123 dX8_goOn_211 (by decide) ?_
            refine ze_lv (lv' := [(0, .ref m), (1, ze_i ((a : Nat))), (2, ze_i ((b : Nat))), (3, ze_i ((n : Nat))), (4, ze_i ((x : Nat))), (5, ze_i ((q : Nat))), (6, ze_i (((t + 1 : Nat))))]) [0, 1, 2, 3, 4, 5, 6] rfl ?_
            refine ih (t + 1) bz1 w1 (by omega) hM1 (fun k hk => ?_) (fun k h1 h2 => h0 k (by omega) h2) hf
            by_cases h : k = 8 + t
            · rw [h, hval, hsn, ejs]
            · exact hd k (by omega)
          · omega
        | succ e ihe =>
          intro s bz1 w1 hs hM1 hval hd h0 hf
          have hs8 : s < 8 := by omega
          obtain ⟨eg, eg2⟩ := mch_g hb hs8 (show t < 8 by omega)
          obtain ⟨ew, ew2⟩ := mch_w hb hs8 hx
          have esh : shx ar b s ((x : Nat) : Int) = (cw ar b s x : Nat) := by unfold shx; rw [if_neg (by omega), Int.toNat_natCast, ew]
          obtain ⟨D, hD⟩ : ∃ D, D = cw ar b s x * cg ar b s t := ⟨_, rfl⟩
          have hDb : D ≤ 1000 * 1000 := by rw [hD]; exact Nat.mul_le_mul ew2 eg2
          have hb2 : bz1 (21156 + 2 * (n * 16 + (8 + s))) = (v (8 + s) : Nat) := by rw [hf _ (by omega) (by omega) (by omega) (by omega)]; exact hv _ (by omega)
          have hs1 : sm (s + 1) (fun s => v (8 + s) * (cw ar b s x * cg ar b s t)) ≤ 16 * (B * 1000000) := Nat.le_trans (sm_mono (m := cn ar b) (by omega)) (by rw [← ejs]; exact hjl _)
          have hs0 : sm s (fun s => v (8 + s) * (cw ar b s x * cg ar b s t)) ≤ 16 * (B * 1000000) := Nat.le_trans (sm_mono (by omega)) hs1
          have hsum : bz1 (21156 + 2 * (q * 16 + (8 + t))) + bz1 (21156 + 2 * (n * 16 + (8 + s))) * ((D : Nat) : Int) = (sm (s + 1) (fun s => v (8 + s) * (cw ar b s x * cg ar b s t)) : Nat) := by
            rw [hval, hb2, sm_s, ← hD]
            push_cast
            rfl
          refine ze_iload dX8_goOn_137 rfl ?_
          refine ze_aload_n dX8_goOn_139 rfl ?_
          refine ze_getf dX8_goOn_140 fl_X8_9 (ms_o hM1) rfl ?_
          refine ze_iload_n dX8_goOn_143 rfl ?_
          refine ze_iald (j := b) dX8_goOn_144 (show w1.2 (m + 1) = some (ze_ia G 6 (ar 1)) from ms_i hM1 1 (by decide)) (by omega) (by omega) (by omega) ?_
          rw [enb]
          refine ze_icmp_ge 208 dX8_goOn_145 (by decide) (by omega) (by omega) (fun q1 => ?_) (fun q1 => ?_)
          · omega
          · refine ze_aload_n dX8_goOn_148 rfl ?_
            refine ze_aload_n dX8_goOn_149 rfl ?_
            refine ze_getf dX8_goOn_150 fl_X8_65 (ms_o hM1) rfl ?_
            refine ze_iload dX8_goOn_153 rfl ?_
            refine ze_bipush dX8_goOn_155 (by decide) ?_
            refine ze_imul dX8_goOn_157 ?_
            refine ze_bipush dX8_goOn_158 (by decide) ?_
            refine ze_iadd dX8_goOn_160 ?_
            refine ze_iload dX8_goOn_161 rfl ?_
            refine ze_iadd dX8_goOn_163 ?_
            refine ze_aald (j := q * 16 + (8 + t)) (b := (m + (21156 + 2 * (q * 16 + (8 + t))))) dX8_goOn_164 (show w1.2 (m + 18) = some (ze_ra G 4 288 (fun j => some (m + mro 18 j))) from ms_r hM1 18 (by decide)) rfl (by omega) (by omega) (by omega) rfl ?_
            refine ze_aload_n dX8_goOn_165 rfl ?_
            refine ze_getf dX8_goOn_166 fl_X8_65 (ms_o hM1) rfl ?_
            refine ze_iload_n dX8_goOn_169 rfl ?_
            refine ze_bipush dX8_goOn_170 (by decide) ?_
            refine ze_imul dX8_goOn_172 ?_
            refine ze_bipush dX8_goOn_173 (by decide) ?_
            refine ze_iadd dX8_goOn_175 ?_
            refine ze_iload dX8_goOn_176 rfl ?_
            refine ze_iadd dX8_goOn_178 ?_
            refine ze_aald (j := n * 16 + (8 + s)) (b := (m + (21156 + 2 * (n * 16 + (8 + s))))) dX8_goOn_179 (show w1.2 (m + 18) = some (ze_ra G 4 288 (fun j => some (m + mro 18 j))) from ms_r hM1 18 (by decide)) rfl (by omega) (by omega) (by omega) rfl ?_
            refine ze_aload_n dX8_goOn_180 rfl ?_
            refine ze_iload_n dX8_goOn_181 rfl ?_
            refine ze_iload dX8_goOn_182 rfl ?_
            refine ze_iload dX8_goOn_184 rfl ?_
            refine ze_callV (As := [ze_i ((b : Nat)), ze_i ((s : Nat)), ze_i ((x : Nat))]) (rest := [.ref (m + (21156 + 2 * (n * 16 + (8 + s)))), .ref (m + (21156 + 2 * (q * 16 + (8 + t)))), .ref m]) dX8_goOn_186 (C8_showOf hM1 (c := b) (s := s) (x := ((x : Nat) : Int)) hcb hs8 (by omega)) mo8_showOf ml_X8_120 in_8_showOf se_8_showOf (ms_o hM1) rfl rfl rfl rfl rfl ⟨Nat.le_refl _, Nat.le_refl _⟩ rfl (Nat.le_of_ble_eq_true rfl) ?_
            rintro _ w' ⟨r2, rfl, rfl, rfl⟩
            change ze_V G l (ze_rm 6 0 0) M8_goOn _ 189 [(0, .ref m), (1, ze_i ((a : Nat))), (2, ze_i ((b : Nat))), (3, ze_i ((n : Nat))), (4, ze_i ((x : Nat))), (5, ze_i ((q : Nat))), (6, ze_i ((t : Nat))), (7, ze_i ((s : Nat)))] [ze_i (shx ar b s ((x : Nat) : Int)), .ref (m + (21156 + 2 * (n * 16 + (8 + s)))), .ref (m + (21156 + 2 * (q * 16 + (8 + t)))), .ref m] w' 0 0
            rw [esh]
            refine ze_aload_n dX8_goOn_189 rfl ?_
            refine ze_iload_n dX8_goOn_190 rfl ?_
            refine ze_iload dX8_goOn_191 rfl ?_
            refine ze_iload dX8_goOn_193 rfl ?_
            refine ze_callV (As := [ze_i ((b : Nat)), ze_i ((s : Nat)), ze_i ((t : Nat))]) (rest := [ze_i ((cw ar b s x : Nat)), .ref (m + (21156 + 2 * (n * 16 + (8 + s)))), .ref (m + (21156 + 2 * (q * 16 + (8 + t)))), .ref m]) dX8_goOn_195 (C8_goOf hM1 (c := b) (s := s) (t := t) hcb hs8 (by omega)) mo8_goOf ml_X8_116 in_8_goOf se_8_goOf (ms_o hM1) rfl rfl rfl rfl rfl ⟨Nat.le_refl _, Nat.le_refl _⟩ rfl (Nat.le_of_ble_eq_true rfl) ?_
            rintro _ w' ⟨r3, rfl, rfl, rfl⟩
            change ze_V G l (ze_rm 6 0 0) M8_goOn _ 198 [(0, .ref m), (1, ze_i ((a : Nat))), (2, ze_i ((b : Nat))), (3, ze_i ((n : Nat))), (4, ze_i ((x : Nat))), (5, ze_i ((q : Nat))), (6, ze_i ((t : Nat))), (7, ze_i ((s : Nat)))] [ze_i (ar 5 ((b * 8 + s) * 8 + t)), ze_i ((cw ar b s x : Nat)), .ref (m + (21156 + 2 * (n * 16 + (8 + s)))), .ref (m + (21156 + 2 * (q * 16 + (8 + t)))), .ref m] w' 0 0
            rw [eg]
            refine ze_imul dX8_goOn_198 ?_
            refine ze_ti (b := (D : Nat)) (by rw [hD]; push_cast; rfl) ?_
            refine ze_callV (As := [.ref (m + (21156 + 2 * (q * 16 + (8 + t)))), .ref (m + (21156 + 2 * (n * 16 + (8 + s)))), ze_i ((D : Nat))]) (rest := []) dX8_goOn_199 (C8_addTimes hM1 (o1 := 21156 + 2 * (q * 16 + (8 + t))) (o2 := 21156 + 2 * (n * 16 + (8 + s))) (v := ((D : Nat) : Int)) (mc_18 (by omega)) (mc_18 (by omega)) (by omega) (by omega) (by omega) (by rw [hval]; exact fit_le (fit_w hs0 hB) (by decide)) (by rw [hb2]; exact fit_le (hfv _ (by omega)) (by decide)) (by rw [hsum, mv_48 (by omega) (by omega) (by omega)]; exact fit_le (fit_w hs1 hB) (by decide))) mo8_addTimes ml_X8_150 in_8_addTimes se_8_addTimes (ms_o hM1) rfl rfl rfl rfl rfl ⟨Nat.le_refl _, Nat.le_refl _⟩ rfl (Nat.le_of_ble_eq_true rfl) ?_
            rintro _ w3 ⟨rfl, bz3, hM3, hz3, hf3⟩
            change ze_V G l (ze_rm 6 0 0) M8_goOn _ 202 [(0, .ref m), (1, ze_i ((a : Nat))), (2, ze_i ((b : Nat))), (3, ze_i ((n : Nat))), (4, ze_i ((x : Nat))), (5, ze_i ((q : Nat))), (6, ze_i ((t : Nat))), (7, ze_i ((s : Nat)))] [] w3 0 0
            refine ze_iinc (b := ((s + 1 : Nat))) (lv' := [(0, .ref m), (1, ze_i ((a : Nat))), (2, ze_i ((b : Nat))), (3, ze_i ((n : Nat))), (4, ze_i ((x : Nat))), (5, ze_i ((q : Nat))), (6, ze_i ((t : Nat))), (7, ze_i (((s + 1 : Nat))))]) dX8_goOn_202 rfl rfl (by omega) rfl ?_
            refine ze_goto 137 dX8_goOn_205 (by decide) ?_
            refine ihe (s + 1) bz3 w3 (by omega) hM3 (by rw [hz3, hsum]) (fun k hk => ?_) (fun k h1 h2 => ?_) (fun o g1 g2 g3 g4 => ?_)
            · rw [hf3 _ (by omega) (by omega) (by omega) (by omega)]; exact hd k hk
            · rw [hf3 _ (by omega) (by omega) (by omega) (by omega)]; exact h0 k h1 h2
            · rw [hf3 o (by omega) g1 g2 g3]; exact hf o g1 g2 g3 g4
      refine ze_iload dX8_goOn_123 rfl ?_
      refine ze_aload_n dX8_goOn_125 rfl ?_
      refine ze_getf dX8_goOn_126 fl_X8_9 (ms_o hM0) rfl ?_
      refine ze_iload_n dX8_goOn_129 rfl ?_
      refine ze_iald (j := b) dX8_goOn_130 (show w0'.2 (m + 1) = some (ze_ia G 6 (ar 1)) from ms_i hM0 1 (by decide)) (by omega) (by omega) (by omega) ?_
      rw [enb]
      refine ze_icmp_ge 214 dX8_goOn_131 (by decide) (by omega) (by omega) (fun q1 => ?_) (fun q1 => ?_)
      · omega
      · refine ze_iconst dX8_goOn_134 ?_
        refine ze_ti (b := ((0 : Nat) : Nat)) rfl ?_
        refine ze_istore (lv' := [(0, .ref m), (1, ze_i ((a : Nat))), (2, ze_i ((b : Nat))), (3, ze_i ((n : Nat))), (4, ze_i ((x : Nat))), (5, ze_i ((q : Nat))), (6, ze_i ((t : Nat))), (7, ze_i (((0 : Nat) : Nat)))]) dX8_goOn_135 rfl rfl ?_
        exact inn (cn ar b) 0 bz0 _ (by omega) hM0 (by rw [h00 _ (by omega) (by omega)]; rfl) hd0 (fun k h1 h2 => h00 k (by omega) h2) hf0
  have blkA : ∀ (d t : Nat) (bz1 : Nat → Int) (w1 : ze_W), t + d = cn ar a → mst G w0 w1 m C P F ar bz1 → (∀ k, k < t → bz1 (21156 + 2 * (q * 16 + k)) = (jst ar a b x v k : Nat)) → (∀ k, t ≤ k → k < 16 → bz1 (21156 + 2 * (q * 16 + k)) = 0) → (∀ o, o ≠ 24 → o ≠ 26 → o ≠ 34 → o < 21156 + 2 * (q * 16) ∨ 21156 + 2 * (q * 16 + 16) ≤ o → bz1 o = bz o) → ze_V G l (ze_rm 6 0 0) M8_goOn Z 35 [(0, .ref m), (1, ze_i ((a : Nat))), (2, ze_i ((b : Nat))), (3, ze_i ((n : Nat))), (4, ze_i ((x : Nat))), (5, ze_i ((q : Nat))), (6, ze_i ((t : Nat)))] [] w1 0 0 := by
    intro d
    induction d with
    | zero =>
      intro t bz1 w1 ht hM1 hd h0 hf
      have htn : t = cn ar a := by omega
      refine ze_iload dX8_goOn_35 rfl ?_
      refine ze_aload_n dX8_goOn_37 rfl ?_
      refine ze_getf dX8_goOn_38 fl_X8_9 (ms_o hM1) rfl ?_
      refine ze_iload_n dX8_goOn_41 rfl ?_
      refine ze_iald (j := a) dX8_goOn_42 (show w1.2 (m + 1) = some (ze_ia G 6 (ar 1)) from ms_i hM1 1 (by decide)) (by omega) (by omega) (by omega) ?_
      rw [ena]
      refine ze_icmp_ge 120 dX8_goOn_43 (by decide) (by omega) (by omega) (fun q1 => ?_) (fun q1 => ?_)
      · refine ze_iconst dX8_goOn_120 ?_
        refine ze_ti (b := ((0 : Nat) : Nat)) rfl ?_
        refine ze_istore (lv' := [(0, .ref m), (1, ze_i ((a : Nat))), (2, ze_i ((b : Nat))), (3, ze_i ((n : Nat))), (4, ze_i ((x : Nat))), (5, ze_i ((q : Nat))), (6, ze_i (((0 : Nat) : Nat)))]) dX8_goOn_121 rfl rfl ?_
        refine blkB (cn ar b) 0 bz1 w1 (by omega) hM1 (fun k hk => ?_) (fun k h1 h2 => h0 k (by omega) h2) hf
        by_cases h : k < t
        · exact hd k h
        · rw [h0 k (by omega) (by omega), jst_a0 (by omega) (by omega)]
          rfl
      · omega
    | succ d ih =>
      intro t bz0 w0' ht hM0 hd0 h00 hf0
      have htn : t < cn ar a := by omega
      have ejs := jst_a (b := b) (x := x) (v := v) na8 htn
      have inn : ∀ (e s : Nat) (bz1 : Nat → Int) (w1 : ze_W), s + e = cn ar a → mst G w0 w1 m C P F ar bz1 → bz1 (21156 + 2 * (q * 16 + t)) = (sm s (fun s => v s * (cw ar a s x * cg ar a s t)) : Nat) → (∀ k, k < t → bz1 (21156 + 2 * (q * 16 + k)) = (jst ar a b x v k : Nat)) → (∀ k, t < k → k < 16 → bz1 (21156 + 2 * (q * 16 + k)) = 0) → (∀ o, o ≠ 24 → o ≠ 26 → o ≠ 34 → o < 21156 + 2 * (q * 16) ∨ 21156 + 2 * (q * 16 + 16) ≤ o → bz1 o = bz o) → ze_V G l (ze_rm 6 0 0) M8_goOn Z 49 [(0, .ref m), (1, ze_i ((a : Nat))), (2, ze_i ((b : Nat))), (3, ze_i ((n : Nat))), (4, ze_i ((x : Nat))), (5, ze_i ((q : Nat))), (6, ze_i ((t : Nat))), (7, ze_i ((s : Nat)))] [] w1 0 0 := by
        intro e
        induction e with
        | zero =>
          intro s bz1 w1 hs hM1 hval hd h0 hf
          have hsn : s = cn ar a := by omega
          refine ze_iload dX8_goOn_49 rfl ?_
          refine ze_aload_n dX8_goOn_51 rfl ?_
          refine ze_getf dX8_goOn_52 fl_X8_9 (ms_o hM1) rfl ?_
          refine ze_iload_n dX8_goOn_55 rfl ?_
          refine ze_iald (j := a) dX8_goOn_56 (show w1.2 (m + 1) = some (ze_ia G 6 (ar 1)) from ms_i hM1 1 (by decide)) (by omega) (by omega) (by omega) ?_
          rw [ena]
          refine ze_icmp_ge 114 dX8_goOn_57 (by decide) (by omega) (by omega) (fun q1 => ?_) (fun q1 => ?_)
          · refine ze_iinc (b := ((t + 1 : Nat))) (lv' := [(0, .ref m), (1, ze_i ((a : Nat))), (2, ze_i ((b : Nat))), (3, ze_i ((n : Nat))), (4, ze_i ((x : Nat))), (5, ze_i ((q : Nat))), (6, ze_i (((t + 1 : Nat)))), (7, ze_i ((s : Nat)))]) dX8_goOn_114 rfl rfl (by omega) rfl ?_
            refine ze_goto 35 dX8_goOn_117 (by decide) ?_
            refine ze_lv (lv' := [(0, .ref m), (1, ze_i ((a : Nat))), (2, ze_i ((b : Nat))), (3, ze_i ((n : Nat))), (4, ze_i ((x : Nat))), (5, ze_i ((q : Nat))), (6, ze_i (((t + 1 : Nat))))]) [0, 1, 2, 3, 4, 5, 6] rfl ?_
            refine ih (t + 1) bz1 w1 (by omega) hM1 (fun k hk => ?_) (fun k h1 h2 => h0 k (by omega) h2) hf
            by_cases h : k = t
            · rw [h, hval, hsn, ejs]
            · exact hd k (by omega)
          · omega
        | succ e ihe =>
          intro s bz1 w1 hs hM1 hval hd h0 hf
          have hs8 : s < 8 := by omega
          obtain ⟨eg, eg2⟩ := mch_g ha hs8 (show t < 8 by omega)
          obtain ⟨ew, ew2⟩ := mch_w ha hs8 hx
          have esh : shx ar a s ((x : Nat) : Int) = (cw ar a s x : Nat) := by unfold shx; rw [if_neg (by omega), Int.toNat_natCast, ew]
          obtain ⟨D, hD⟩ : ∃ D, D = cw ar a s x * cg ar a s t := ⟨_, rfl⟩
          have hDb : D ≤ 1000 * 1000 := by rw [hD]; exact Nat.mul_le_mul ew2 eg2
          have hb2 : bz1 (21156 + 2 * (n * 16 + s)) = (v (s) : Nat) := by rw [hf _ (by omega) (by omega) (by omega) (by omega)]; exact hv _ (by omega)
          have hs1 : sm (s + 1) (fun s => v s * (cw ar a s x * cg ar a s t)) ≤ 16 * (B * 1000000) := Nat.le_trans (sm_mono (m := cn ar a) (by omega)) (by rw [← ejs]; exact hjl _)
          have hs0 : sm s (fun s => v s * (cw ar a s x * cg ar a s t)) ≤ 16 * (B * 1000000) := Nat.le_trans (sm_mono (by omega)) hs1
          have hsum : bz1 (21156 + 2 * (q * 16 + t)) + bz1 (21156 + 2 * (n * 16 + s)) * ((D : Nat) : Int) = (sm (s + 1) (fun s => v s * (cw ar a s x * cg ar a s t)) : Nat) := by
            rw [hval, hb2, sm_s, ← hD]
            push_cast
            rfl
          refine ze_iload dX8_goOn_49 rfl ?_
          refine ze_aload_n dX8_goOn_51 rfl ?_
          refine ze_getf dX8_goOn_52 fl_X8_9 (ms_o hM1) rfl ?_
          refine ze_iload_n dX8_goOn_55 rfl ?_
          refine ze_iald (j := a) dX8_goOn_56 (show w1.2 (m + 1) = some (ze_ia G 6 (ar 1)) from ms_i hM1 1 (by decide)) (by omega) (by omega) (by omega) ?_
          rw [ena]
          refine ze_icmp_ge 114 dX8_goOn_57 (by decide) (by omega) (by omega) (fun q1 => ?_) (fun q1 => ?_)
          · omega
          · refine ze_aload_n dX8_goOn_60 rfl ?_
            refine ze_aload_n dX8_goOn_61 rfl ?_
            refine ze_getf dX8_goOn_62 fl_X8_65 (ms_o hM1) rfl ?_
            refine ze_iload dX8_goOn_65 rfl ?_
            refine ze_bipush dX8_goOn_67 (by decide) ?_
            refine ze_imul dX8_goOn_69 ?_
            refine ze_iload dX8_goOn_70 rfl ?_
            refine ze_iadd dX8_goOn_72 ?_
            refine ze_aald (j := q * 16 + t) (b := (m + (21156 + 2 * (q * 16 + t)))) dX8_goOn_73 (show w1.2 (m + 18) = some (ze_ra G 4 288 (fun j => some (m + mro 18 j))) from ms_r hM1 18 (by decide)) rfl (by omega) (by omega) (by omega) rfl ?_
            refine ze_aload_n dX8_goOn_74 rfl ?_
            refine ze_getf dX8_goOn_75 fl_X8_65 (ms_o hM1) rfl ?_
            refine ze_iload_n dX8_goOn_78 rfl ?_
            refine ze_bipush dX8_goOn_79 (by decide) ?_
            refine ze_imul dX8_goOn_81 ?_
            refine ze_iload dX8_goOn_82 rfl ?_
            refine ze_iadd dX8_goOn_84 ?_
            refine ze_aald (j := n * 16 + s) (b := (m + (21156 + 2 * (n * 16 + s)))) dX8_goOn_85 (show w1.2 (m + 18) = some (ze_ra G 4 288 (fun j => some (m + mro 18 j))) from ms_r hM1 18 (by decide)) rfl (by omega) (by omega) (by omega) rfl ?_
            refine ze_aload_n dX8_goOn_86 rfl ?_
            refine ze_iload_n dX8_goOn_87 rfl ?_
            refine ze_iload dX8_goOn_88 rfl ?_
            refine ze_iload dX8_goOn_90 rfl ?_
            refine ze_callV (As := [ze_i ((a : Nat)), ze_i ((s : Nat)), ze_i ((x : Nat))]) (rest := [.ref (m + (21156 + 2 * (n * 16 + s))), .ref (m + (21156 + 2 * (q * 16 + t))), .ref m]) dX8_goOn_92 (C8_showOf hM1 (c := a) (s := s) (x := ((x : Nat) : Int)) hca hs8 (by omega)) mo8_showOf ml_X8_120 in_8_showOf se_8_showOf (ms_o hM1) rfl rfl rfl rfl rfl ⟨Nat.le_refl _, Nat.le_refl _⟩ rfl (Nat.le_of_ble_eq_true rfl) ?_
            rintro _ w' ⟨r2, rfl, rfl, rfl⟩
            change ze_V G l (ze_rm 6 0 0) M8_goOn _ 95 [(0, .ref m), (1, ze_i ((a : Nat))), (2, ze_i ((b : Nat))), (3, ze_i ((n : Nat))), (4, ze_i ((x : Nat))), (5, ze_i ((q : Nat))), (6, ze_i ((t : Nat))), (7, ze_i ((s : Nat)))] [ze_i (shx ar a s ((x : Nat) : Int)), .ref (m + (21156 + 2 * (n * 16 + s))), .ref (m + (21156 + 2 * (q * 16 + t))), .ref m] w' 0 0
            rw [esh]
            refine ze_aload_n dX8_goOn_95 rfl ?_
            refine ze_iload_n dX8_goOn_96 rfl ?_
            refine ze_iload dX8_goOn_97 rfl ?_
            refine ze_iload dX8_goOn_99 rfl ?_
            refine ze_callV (As := [ze_i ((a : Nat)), ze_i ((s : Nat)), ze_i ((t : Nat))]) (rest := [ze_i ((cw ar a s x : Nat)), .ref (m + (21156 + 2 * (n * 16 + s))), .ref (m + (21156 + 2 * (q * 16 + t))), .ref m]) dX8_goOn_101 (C8_goOf hM1 (c := a) (s := s) (t := t) hca hs8 (by omega)) mo8_goOf ml_X8_116 in_8_goOf se_8_goOf (ms_o hM1) rfl rfl rfl rfl rfl ⟨Nat.le_refl _, Nat.le_refl _⟩ rfl (Nat.le_of_ble_eq_true rfl) ?_
            rintro _ w' ⟨r3, rfl, rfl, rfl⟩
            change ze_V G l (ze_rm 6 0 0) M8_goOn _ 104 [(0, .ref m), (1, ze_i ((a : Nat))), (2, ze_i ((b : Nat))), (3, ze_i ((n : Nat))), (4, ze_i ((x : Nat))), (5, ze_i ((q : Nat))), (6, ze_i ((t : Nat))), (7, ze_i ((s : Nat)))] [ze_i (ar 5 ((a * 8 + s) * 8 + t)), ze_i ((cw ar a s x : Nat)), .ref (m + (21156 + 2 * (n * 16 + s))), .ref (m + (21156 + 2 * (q * 16 + t))), .ref m] w' 0 0
            rw [eg]
            refine ze_imul dX8_goOn_104 ?_
            refine ze_ti (b := (D : Nat)) (by rw [hD]; push_cast; rfl) ?_
            refine ze_callV (As := [.ref (m + (21156 + 2 * (q * 16 + t))), .ref (m + (21156 + 2 * (n * 16 + s))), ze_i ((D : Nat))]) (rest := []) dX8_goOn_105 (C8_addTimes hM1 (o1 := 21156 + 2 * (q * 16 + t)) (o2 := 21156 + 2 * (n * 16 + s)) (v := ((D : Nat) : Int)) (mc_18 (by omega)) (mc_18 (by omega)) (by omega) (by omega) (by omega) (by rw [hval]; exact fit_le (fit_w hs0 hB) (by decide)) (by rw [hb2]; exact fit_le (hfv _ (by omega)) (by decide)) (by rw [hsum, mv_48 (by omega) (by omega) (by omega)]; exact fit_le (fit_w hs1 hB) (by decide))) mo8_addTimes ml_X8_150 in_8_addTimes se_8_addTimes (ms_o hM1) rfl rfl rfl rfl rfl ⟨Nat.le_refl _, Nat.le_refl _⟩ rfl (Nat.le_of_ble_eq_true rfl) ?_
            rintro _ w3 ⟨rfl, bz3, hM3, hz3, hf3⟩
            change ze_V G l (ze_rm 6 0 0) M8_goOn _ 108 [(0, .ref m), (1, ze_i ((a : Nat))), (2, ze_i ((b : Nat))), (3, ze_i ((n : Nat))), (4, ze_i ((x : Nat))), (5, ze_i ((q : Nat))), (6, ze_i ((t : Nat))), (7, ze_i ((s : Nat)))] [] w3 0 0
            refine ze_iinc (b := ((s + 1 : Nat))) (lv' := [(0, .ref m), (1, ze_i ((a : Nat))), (2, ze_i ((b : Nat))), (3, ze_i ((n : Nat))), (4, ze_i ((x : Nat))), (5, ze_i ((q : Nat))), (6, ze_i ((t : Nat))), (7, ze_i (((s + 1 : Nat))))]) dX8_goOn_108 rfl rfl (by omega) rfl ?_
            refine ze_goto 49 dX8_goOn_111 (by decide) ?_
            refine ihe (s + 1) bz3 w3 (by omega) hM3 (by rw [hz3, hsum]) (fun k hk => ?_) (fun k h1 h2 => ?_) (fun o g1 g2 g3 g4 => ?_)
            · rw [hf3 _ (by omega) (by omega) (by omega) (by omega)]; exact hd k hk
            · rw [hf3 _ (by omega) (by omega) (by omega) (by omega)]; exact h0 k h1 h2
            · rw [hf3 o (by omega) g1 g2 g3]; exact hf o g1 g2 g3 g4
      refine ze_iload dX8_goOn_35 rfl ?_
      refine ze_aload_n dX8_goOn_37 rfl ?_
      refine ze_getf dX8_goOn_38 fl_X8_9 (ms_o hM0) rfl ?_
      refine ze_iload_n dX8_goOn_41 rfl ?_
      refine ze_iald (j := a) dX8_goOn_42 (show w0'.2 (m + 1) = some (ze_ia G 6 (ar 1)) from ms_i hM0 1 (by decide)) (by omega) (by omega) (by omega) ?_
      rw [ena]
      refine ze_icmp_ge 120 dX8_goOn_43 (by decide) (by omega) (by omega) (fun q1 => ?_) (fun q1 => ?_)
      · omega
      · refine ze_iconst dX8_goOn_46 ?_
        refine ze_ti (b := ((0 : Nat) : Nat)) rfl ?_
        refine ze_istore (lv' := [(0, .ref m), (1, ze_i ((a : Nat))), (2, ze_i ((b : Nat))), (3, ze_i ((n : Nat))), (4, ze_i ((x : Nat))), (5, ze_i ((q : Nat))), (6, ze_i ((t : Nat))), (7, ze_i (((0 : Nat) : Nat)))]) dX8_goOn_47 rfl rfl ?_
        exact inn (cn ar a) 0 bz0 _ (by omega) hM0 (by rw [h00 _ (by omega) (by omega)]; rfl) hd0 (fun k h1 h2 => h00 k (by omega) h2) hf0
  have clr : ∀ (d k : Nat) (bz1 : Nat → Int) (w1 : ze_W), k + d = 16 → mst G w0 w1 m C P F ar bz1 → (∀ j, j < k → bz1 (21156 + 2 * (q * 16 + j)) = 0) → (∀ o, o ≠ 24 → o ≠ 26 → o ≠ 34 → o < 21156 + 2 * (q * 16) ∨ 21156 + 2 * (q * 16 + 16) ≤ o → bz1 o = bz o) → ze_V G l (ze_rm 6 0 0) M8_goOn Z 3 [(0, .ref m), (1, ze_i ((a : Nat))), (2, ze_i ((b : Nat))), (3, ze_i ((n : Nat))), (4, ze_i ((x : Nat))), (5, ze_i ((q : Nat))), (6, ze_i ((k : Nat)))] [] w1 0 0 := by
    intro d
    induction d with
    | zero =>
      intro k bz1 w1 hk hM1 h0 hf
      refine ze_iload dX8_goOn_3 rfl ?_
      refine ze_bipush dX8_goOn_5 (by decide) ?_
      refine ze_icmp_ge 32 dX8_goOn_7 (by decide) (by omega) (by omega) (fun q1 => ?_) (fun q1 => ?_)
      · refine ze_iconst dX8_goOn_32 ?_
        refine ze_ti (b := ((0 : Nat) : Nat)) rfl ?_
        refine ze_istore (lv' := [(0, .ref m), (1, ze_i ((a : Nat))), (2, ze_i ((b : Nat))), (3, ze_i ((n : Nat))), (4, ze_i ((x : Nat))), (5, ze_i ((q : Nat))), (6, ze_i (((0 : Nat) : Nat)))]) dX8_goOn_33 rfl rfl ?_
        exact blkA (cn ar a) 0 bz1 w1 (by omega) hM1 (fun k hk => absurd hk (Nat.not_lt_zero _)) (fun j h1 h2 => h0 j (by omega)) hf
      · omega
    | succ d ih =>
      intro k bz1 w1 hk hM1 h0 hf
      refine ze_iload dX8_goOn_3 rfl ?_
      refine ze_bipush dX8_goOn_5 (by decide) ?_
      refine ze_icmp_ge 32 dX8_goOn_7 (by decide) (by omega) (by omega) (fun q1 => ?_) (fun q1 => ?_)
      · omega
      · refine ze_aload_n dX8_goOn_10 rfl ?_
        refine ze_getf dX8_goOn_11 fl_X8_65 (ms_o hM1) rfl ?_
        refine ze_iload dX8_goOn_14 rfl ?_
        refine ze_bipush dX8_goOn_16 (by decide) ?_
        refine ze_imul dX8_goOn_18 ?_
        refine ze_iload dX8_goOn_19 rfl ?_
        refine ze_iadd dX8_goOn_21 ?_
        refine ze_aald (j := q * 16 + k) (b := (m + (21156 + 2 * (q * 16 + k)))) dX8_goOn_22 (show w1.2 (m + 18) = some (ze_ra G 4 288 (fun j => some (m + mro 18 j))) from ms_r hM1 18 (by decide)) rfl (by omega) (by omega) (by omega) rfl ?_
        refine ze_callV (As := []) (rest := []) dX8_goOn_23 (E7_clear hM1 (o1 := 21156 + 2 * (q * 16 + k)) (mc_18 (by omega))) mo7_clear ml_X8_147 in_7_clear se_7_clear (ms_bx hM1 (mc_18 (by omega))).choose_spec rfl rfl rfl rfl rfl ⟨Nat.le_refl _, Nat.le_refl _⟩ rfl (Nat.le_of_ble_eq_true rfl) ?_
        rintro _ w2 ⟨rfl, hM2⟩
        change ze_V G l (ze_rm 6 0 0) M8_goOn _ 26 [(0, .ref m), (1, ze_i ((a : Nat))), (2, ze_i ((b : Nat))), (3, ze_i ((n : Nat))), (4, ze_i ((x : Nat))), (5, ze_i ((q : Nat))), (6, ze_i ((k : Nat)))] [] w2 0 0
        refine ze_iinc (b := ((k + 1 : Nat))) (lv' := [(0, .ref m), (1, ze_i ((a : Nat))), (2, ze_i ((b : Nat))), (3, ze_i ((n : Nat))), (4, ze_i ((x : Nat))), (5, ze_i ((q : Nat))), (6, ze_i (((k + 1 : Nat))))]) dX8_goOn_26 rfl rfl (by omega) rfl ?_
        refine ze_goto 3 dX8_goOn_29 (by decide) ?_
        refine ih (k + 1) _ _ (by omega) hM2 (fun j hj => ?_) (fun o g1 g2 g3 g4 => ?_)
        · by_cases h : j = k
          · rw [h, va_up_self]
          · rw [va_up_ne _ _ (by omega)]; exact h0 j (by omega)
        · rw [va_up_ne _ _ (by omega)]; exact hf o g1 g2 g3 g4
  change ze_V G l (ze_rm 6 0 0) M8_goOn Z 0 [(0, .ref m), (1, ze_i ((a : Nat))), (2, ze_i ((b : Nat))), (3, ze_i ((n : Nat))), (4, ze_i ((x : Nat))), (5, ze_i ((q : Nat)))] [] w 0 0
  refine ze_iconst dX8_goOn_0 ?_
  refine ze_ti (b := ((0 : Nat) : Nat)) rfl ?_
  refine ze_istore (lv' := [(0, .ref m), (1, ze_i ((a : Nat))), (2, ze_i ((b : Nat))), (3, ze_i ((n : Nat))), (4, ze_i ((x : Nat))), (5, ze_i ((q : Nat))), (6, ze_i (((0 : Nat) : Nat)))]) dX8_goOn_1 rfl rfl ?_
  exact clr 16 0 bz w (by omega) hM (fun j hj => absurd hj (Nat.not_lt_zero _)) (fun o _ _ _ _ => rfl)
theorem cmp3_eq0 {a b : Int} (h : cmp3 a b = 0) : a = b := by
  unfold cmp3 at h
  split at h
  · omega
  · split at h
    · assumption
    · omega
theorem fit_s {x B : Nat} (h : x ≤ 8 * B) (hB : B ≤ 16 * (10 ^ 102 * 1000000)) : fit (x : Nat) 46 := by
  have h1 : x ≤ 8 * (16 * (10 ^ 102 * 1000000)) := Nat.le_trans h (Nat.mul_le_mul_left _ hB)
  exact Nat.lt_of_le_of_lt h1 (by decide +kernel)
theorem C8_isAlike {G : ze_G} {l : Launch} {w0 w : ze_W} {m C P F : Nat} {ar : Nat → Nat → Int} {bz : Nat → Int} (hM : mst G w0 w m C P F ar bz) {n B : Nat} {v : Nat → Nat} (hn : n < 18) (hv : ∀ k, k < 16 → bz (21156 + 2 * (n * 16 + k)) = (v k : Nat)) (hvB : ∀ k, k < 16 → v k ≤ B) (hB : B ≤ 16 * (10 ^ 102 * 1000000)) : ze_C G l 5 0 0 M8_isAlike [.ref m, ze_i (n : Nat)] w (ze_qi (fun r w' => ∃ bz', mst G w0 w' m C P F ar bz' ∧ tf r (sm 8 v = sm 8 (fun k => v (8 + k))) ∧ (∀ o, o ≠ 24 → o ≠ 28 → o ≠ 30 → bz' o = bz o))) := by
  have hA : ∀ k, k ≤ 8 → fit (sm k v : Nat) 46 := fun k hk => fit_s (Nat.le_trans (sm_le (fun j hj => hvB j (by omega))) (Nat.mul_le_mul_right _ hk)) hB
  have hBb : ∀ k, k ≤ 8 → fit (sm k (fun k => v (8 + k)) : Nat) 46 := fun k hk => fit_s (Nat.le_trans (sm_le (fun j hj => hvB (8 + j) (by omega))) (Nat.mul_le_mul_right _ hk)) hB
  have hfv : ∀ k, k < 16 → fit (v k : Nat) 46 := fun k hk => fit_s (Nat.le_trans (hvB k hk) (by omega)) hB
  refine ze_enter (by decide +kernel) rfl ?_
  generalize hQ : (ze_Q G (ze_qi (fun r w' => ∃ bz', mst G w0 w' m C P F ar bz' ∧ tf r (sm 8 v = sm 8 (fun k => v (8 + k))) ∧ (∀ o, o ≠ 24 → o ≠ 28 → o ≠ 30 → bz' o = bz o))) 0 0) = Z
  have loop : ∀ (d k : Nat) (bz1 : Nat → Int) (w1 : ze_W), k + d = 8 → mst G w0 w1 m C P F ar bz1 → bz1 28 = (sm k v : Nat) → bz1 30 = (sm k (fun k => v (8 + k)) : Nat) → (∀ o, o ≠ 24 → o ≠ 28 → o ≠ 30 → bz1 o = bz o) → ze_V G l (ze_rm 5 0 0) M8_isAlike Z 16 [(0, .ref m), (1, ze_i ((n : Nat))), (2, ze_i ((k : Nat)))] [] w1 0 0 := by
    intro d
    induction d with
    | zero =>
      intro k bz1 w1 hk hM1 h28 h30 hf
      have hk8 : k = 8 := by omega
      rw [hk8] at h28 h30
      refine ze_iload_n dX8_isAlike_16 rfl ?_
      refine ze_bipush dX8_isAlike_17 (by decide) ?_
      refine ze_icmp_ge 97 dX8_isAlike_19 (by decide) (by omega) (by omega) (fun q1 => ?_) (fun q1 => ?_)
      · refine ze_aload_n dX8_isAlike_97 rfl ?_
        refine ze_getf dX8_isAlike_98 fl_X8_89 (ms_o hM1) rfl ?_
        refine ze_aload_n dX8_isAlike_101 rfl ?_
        refine ze_getf dX8_isAlike_102 fl_X8_92 (ms_o hM1) rfl ?_
        refine ze_callV (As := [.ref (m + 30)]) (rest := []) dX8_isAlike_105 (E7_compare hM1 (o1 := 28) (o2 := 30) (by decide) (by decide)) mo7_compare ml_X8_178 in_7_compare se_7_compare (ms_bx hM1 (by decide)).choose_spec rfl rfl rfl rfl rfl ⟨Nat.le_refl _, Nat.le_refl _⟩ rfl (Nat.le_of_ble_eq_true rfl) ?_
        rintro _ w' ⟨rc, rfl, hrc, rfl⟩
        rw [h28, h30] at hrc
        change ze_V G l (ze_rm 5 0 0) M8_isAlike _ 108 [(0, .ref m), (1, ze_i ((n : Nat))), (2, ze_i ((k : Nat)))] [ze_i (rc)] w' 0 0
        refine ze_if_ne 115 dX8_isAlike_108 (by decide) (by rw [hrc]; exact cmp3_rng _ _) (fun q2 => ?_) (fun q2 => ?_)
        · refine ze_iconst dX8_isAlike_115 ?_
          rw [← hQ]
          exact ze_zreturn rfl dX8_isAlike_116 (by decide) ⟨_, rfl, bz1, hM1, Or.inr ⟨rfl, fun h => q2 (by rw [hrc, h]; exact cmp3_eq rfl)⟩, hf⟩ rfl rfl
        · refine ze_iconst dX8_isAlike_111 ?_
          refine ze_goto 116 dX8_isAlike_112 (by decide) ?_
          rw [← hQ]
          exact ze_zreturn rfl dX8_isAlike_116 (by decide) ⟨_, rfl, bz1, hM1, Or.inl ⟨rfl, Int.ofNat_inj.1 (cmp3_eq0 (by rw [← hrc]; exact q2))⟩, hf⟩ rfl rfl
      · omega
    | succ d ih =>
      intro k bz1 w1 hk hM1 h28 h30 hf
      refine ze_iload_n dX8_isAlike_16 rfl ?_
      refine ze_bipush dX8_isAlike_17 (by decide) ?_
      refine ze_icmp_ge 97 dX8_isAlike_19 (by decide) (by omega) (by omega) (fun q1 => ?_) (fun q1 => ?_)
      · omega
      · refine ze_aload_n dX8_isAlike_22 rfl ?_
        refine ze_getf dX8_isAlike_23 fl_X8_83 (ms_o hM1) rfl ?_
        refine ze_aload_n dX8_isAlike_26 rfl ?_
        refine ze_getf dX8_isAlike_27 fl_X8_89 (ms_o hM1) rfl ?_
        refine ze_aload_n dX8_isAlike_30 rfl ?_
        refine ze_getf dX8_isAlike_31 fl_X8_65 (ms_o hM1) rfl ?_
        refine ze_iload_n dX8_isAlike_34 rfl ?_
        refine ze_bipush dX8_isAlike_35 (by decide) ?_
        refine ze_imul dX8_isAlike_37 ?_
        refine ze_iload_n dX8_isAlike_38 rfl ?_
        refine ze_iadd dX8_isAlike_39 ?_
        refine ze_aald (j := n * 16 + k) (b := (m + (21156 + 2 * (n * 16 + k)))) dX8_isAlike_40 (show w1.2 (m + 18) = some (ze_ra G 4 288 (fun j => some (m + mro 18 j))) from ms_r hM1 18 (by decide)) rfl (by omega) (by omega) (by omega) rfl ?_
        have ev : bz1 (21156 + 2 * (n * 16 + k)) = (v k : Nat) := by rw [hf _ (by omega) (by omega) (by omega)]; exact hv k (by omega)
        have ev2 : bz1 (21156 + 2 * (n * 16 + (8 + k))) = (v (8 + k) : Nat) := by rw [hf _ (by omega) (by omega) (by omega)]; exact hv (8 + k) (by omega)
        refine ze_callV (As := [.ref (m + 28), .ref (m + (21156 + 2 * (n * 16 + k)))]) (rest := []) dX8_isAlike_41 (E7_add hM1 (o1 := 24) (o2 := 28) (o3 := 21156 + 2 * (n * 16 + k)) (K := 46) (by decide) (by decide) (mc_18 (by omega)) (by decide) (by omega) (by rw [h28]; exact hA k (by omega)) (by rw [ev]; exact hfv k (by omega)) (by decide)) mo7_add ml_X8_140 in_7_add se_7_add (ms_bx hM1 (by decide)).choose_spec rfl rfl rfl rfl rfl ⟨Nat.le_refl _, Nat.le_refl _⟩ rfl (Nat.le_of_ble_eq_true rfl) ?_
        rintro _ w2 ⟨rfl, hM2⟩
        change ze_V G l (ze_rm 5 0 0) M8_isAlike _ 44 [(0, .ref m), (1, ze_i ((n : Nat))), (2, ze_i ((k : Nat)))] [] w2 0 0
        have e24 : (va_up bz1 24 (bz1 28 + bz1 (21156 + 2 * (n * 16 + k)))) 24 = (sm (k + 1) v : Nat) := by rw [va_up_self, h28, ev, sm_s]; rfl
        have eo : ∀ o, o ≠ 24 → (va_up bz1 24 (bz1 28 + bz1 (21156 + 2 * (n * 16 + k)))) o = bz1 o := fun o g => va_up_ne _ _ g
        generalize va_up bz1 24 (bz1 28 + bz1 (21156 + 2 * (n * 16 + k))) = bz2 at *
        refine ze_aload_n dX8_isAlike_44 rfl ?_
        refine ze_getf dX8_isAlike_45 fl_X8_89 (ms_o hM2) rfl ?_
        refine ze_aload_n dX8_isAlike_48 rfl ?_
        refine ze_getf dX8_isAlike_49 fl_X8_83 (ms_o hM2) rfl ?_
        refine ze_callV (As := [.ref (m + 24)]) (rest := []) dX8_isAlike_52 (E7_copy hM2 (o1 := 28) (o2 := 24) (by decide) (by decide) (by decide) (by rw [e24]; exact fit_le (hA (k + 1) (by omega)) (by decide))) mo7_copy ml_X8_143 in_7_copy se_7_copy (ms_bx hM2 (by decide)).choose_spec rfl rfl rfl rfl rfl ⟨Nat.le_refl _, Nat.le_refl _⟩ rfl (Nat.le_of_ble_eq_true rfl) ?_
        rintro _ w3 ⟨rfl, hM3⟩
        change ze_V G l (ze_rm 5 0 0) M8_isAlike _ 55 [(0, .ref m), (1, ze_i ((n : Nat))), (2, ze_i ((k : Nat)))] [] w3 0 0
        have e28 : (va_up bz2 28 (bz2 24)) 28 = (sm (k + 1) v : Nat) := by rw [va_up_self, e24]
        have eo2 : ∀ o, o ≠ 24 → o ≠ 28 → (va_up bz2 28 (bz2 24)) o = bz1 o := fun o g g2 => by rw [va_up_ne _ _ g2, eo o g]
        generalize va_up bz2 28 (bz2 24) = bz3 at *
        refine ze_aload_n dX8_isAlike_55 rfl ?_
        refine ze_getf dX8_isAlike_56 fl_X8_83 (ms_o hM3) rfl ?_
        refine ze_aload_n dX8_isAlike_59 rfl ?_
        refine ze_getf dX8_isAlike_60 fl_X8_92 (ms_o hM3) rfl ?_
        refine ze_aload_n dX8_isAlike_63 rfl ?_
        refine ze_getf dX8_isAlike_64 fl_X8_65 (ms_o hM3) rfl ?_
        refine ze_iload_n dX8_isAlike_67 rfl ?_
        refine ze_bipush dX8_isAlike_68 (by decide) ?_
        refine ze_imul dX8_isAlike_70 ?_
        refine ze_bipush dX8_isAlike_71 (by decide) ?_
        refine ze_iadd dX8_isAlike_73 ?_
        refine ze_iload_n dX8_isAlike_74 rfl ?_
        refine ze_iadd dX8_isAlike_75 ?_
        refine ze_aald (j := n * 16 + (8 + k)) (b := (m + (21156 + 2 * (n * 16 + (8 + k))))) dX8_isAlike_76 (show w3.2 (m + 18) = some (ze_ra G 4 288 (fun j => some (m + mro 18 j))) from ms_r hM3 18 (by decide)) rfl (by omega) (by omega) (by omega) rfl ?_
        have e30 : bz3 30 = (sm k (fun k => v (8 + k)) : Nat) := by rw [eo2 30 (by decide) (by decide), h30]
        have ev3 : bz3 (21156 + 2 * (n * 16 + (8 + k))) = (v (8 + k) : Nat) := by rw [eo2 _ (by omega) (by omega)]; exact ev2
        refine ze_callV (As := [.ref (m + 30), .ref (m + (21156 + 2 * (n * 16 + (8 + k))))]) (rest := []) dX8_isAlike_77 (E7_add hM3 (o1 := 24) (o2 := 30) (o3 := 21156 + 2 * (n * 16 + (8 + k))) (K := 46) (by decide) (by decide) (mc_18 (by omega)) (by decide) (by omega) (by rw [e30]; exact hBb k (by omega)) (by rw [ev3]; exact hfv (8 + k) (by omega)) (by decide)) mo7_add ml_X8_140 in_7_add se_7_add (ms_bx hM3 (by decide)).choose_spec rfl rfl rfl rfl rfl ⟨Nat.le_refl _, Nat.le_refl _⟩ rfl (Nat.le_of_ble_eq_true rfl) ?_
        rintro _ w4 ⟨rfl, hM4⟩
        change ze_V G l (ze_rm 5 0 0) M8_isAlike _ 80 [(0, .ref m), (1, ze_i ((n : Nat))), (2, ze_i ((k : Nat)))] [] w4 0 0
        have e24b : (va_up bz3 24 (bz3 30 + bz3 (21156 + 2 * (n * 16 + (8 + k))))) 24 = (sm (k + 1) (fun k => v (8 + k)) : Nat) := by rw [va_up_self, e30, ev3, sm_s]; rfl
        have e28b : (va_up bz3 24 (bz3 30 + bz3 (21156 + 2 * (n * 16 + (8 + k))))) 28 = (sm (k + 1) v : Nat) := by rw [va_up_ne _ _ (by decide), e28]
        have eo3 : ∀ o, o ≠ 24 → o ≠ 28 → (va_up bz3 24 (bz3 30 + bz3 (21156 + 2 * (n * 16 + (8 + k))))) o = bz1 o := fun o g g2 => by rw [va_up_ne _ _ g, eo2 o g g2]
        generalize va_up bz3 24 (bz3 30 + bz3 (21156 + 2 * (n * 16 + (8 + k)))) = bz4 at *
        refine ze_aload_n dX8_isAlike_80 rfl ?_
        refine ze_getf dX8_isAlike_81 fl_X8_92 (ms_o hM4) rfl ?_
        refine ze_aload_n dX8_isAlike_84 rfl ?_
        refine ze_getf dX8_isAlike_85 fl_X8_83 (ms_o hM4) rfl ?_
        refine ze_callV (As := [.ref (m + 24)]) (rest := []) dX8_isAlike_88 (E7_copy hM4 (o1 := 30) (o2 := 24) (by decide) (by decide) (by decide) (by rw [e24b]; exact fit_le (hBb (k + 1) (by omega)) (by decide))) mo7_copy ml_X8_143 in_7_copy se_7_copy (ms_bx hM4 (by decide)).choose_spec rfl rfl rfl rfl rfl ⟨Nat.le_refl _, Nat.le_refl _⟩ rfl (Nat.le_of_ble_eq_true rfl) ?_
        rintro _ w5 ⟨rfl, hM5⟩
        change ze_V G l (ze_rm 5 0 0) M8_isAlike _ 91 [(0, .ref m), (1, ze_i ((n : Nat))), (2, ze_i ((k : Nat)))] [] w5 0 0
        refine ze_iinc (b := ((k + 1 : Nat))) (lv' := [(0, .ref m), (1, ze_i ((n : Nat))), (2, ze_i (((k + 1 : Nat))))]) dX8_isAlike_91 rfl rfl (by omega) rfl ?_
        refine ze_goto 16 dX8_isAlike_94 (by decide) ?_
        exact ih (k + 1) _ _ (by omega) hM5 (by rw [va_up_ne _ _ (by decide), e28b]) (by rw [va_up_self, e24b]) (fun o g1 g2 g3 => by rw [va_up_ne _ _ g3, eo3 o g1 g2]; exact hf o g1 g2 g3)
  change ze_V G l (ze_rm 5 0 0) M8_isAlike Z 0 [(0, .ref m), (1, ze_i ((n : Nat)))] [] w 0 0
  refine ze_aload_n dX8_isAlike_0 rfl ?_
  refine ze_getf dX8_isAlike_1 fl_X8_89 (ms_o hM) rfl ?_
  refine ze_callV (As := []) (rest := []) dX8_isAlike_4 (E7_clear hM (o1 := 28) (by decide)) mo7_clear ml_X8_147 in_7_clear se_7_clear (ms_bx hM (by decide)).choose_spec rfl rfl rfl rfl rfl ⟨Nat.le_refl _, Nat.le_refl _⟩ rfl (Nat.le_of_ble_eq_true rfl) ?_
  rintro _ w1 ⟨rfl, hM1⟩
  change ze_V G l (ze_rm 5 0 0) M8_isAlike _ 7 [(0, .ref m), (1, ze_i ((n : Nat)))] [] w1 0 0
  refine ze_aload_n dX8_isAlike_7 rfl ?_
  refine ze_getf dX8_isAlike_8 fl_X8_92 (ms_o hM1) rfl ?_
  refine ze_callV (As := []) (rest := []) dX8_isAlike_11 (E7_clear hM1 (o1 := 30) (by decide)) mo7_clear ml_X8_147 in_7_clear se_7_clear (ms_bx hM1 (by decide)).choose_spec rfl rfl rfl rfl rfl ⟨Nat.le_refl _, Nat.le_refl _⟩ rfl (Nat.le_of_ble_eq_true rfl) ?_
  rintro _ w2 ⟨rfl, hM2⟩
  change ze_V G l (ze_rm 5 0 0) M8_isAlike _ 14 [(0, .ref m), (1, ze_i ((n : Nat)))] [] w2 0 0
  refine ze_iconst dX8_isAlike_14 ?_
  refine ze_ti (b := ((0 : Nat) : Nat)) rfl ?_
  refine ze_istore_n (lv' := [(0, .ref m), (1, ze_i ((n : Nat))), (2, ze_i (((0 : Nat) : Nat)))]) dX8_isAlike_15 rfl rfl ?_
  exact loop 8 0 _ _ (by omega) hM2 (by rw [va_up_ne _ _ (by decide), va_up_self]; rfl) (by rw [va_up_self]; rfl) (fun o g1 g2 g3 => by rw [va_up_ne _ _ g3, va_up_ne _ _ g2])
