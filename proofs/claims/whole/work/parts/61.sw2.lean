/-! Sweep: its picture -/
def sok (k i : Nat) : Prop := (k < 3 ∧ i < 8) ∨ (k = 3 ∧ i < 2)
def sfs (S x y z : Nat) : List Value := [.ref (S + 1 + 17 * x), .ref (S + 1 + 17 * y), .ref (S + 1 + 17 * z), .ref (S + 52), .ref (S + 53), .ref (S + 55)]
def spm (x y z : Nat) : Prop := x < 3 ∧ y < 3 ∧ z < 3 ∧ x ≠ y ∧ x ≠ z ∧ y ≠ z
/-- the sweep lies at S, 57 cells; nothing outside of it has changed since w0 -/
def sst (G : ze_G) (w0 w : ze_W) (S x y z : Nat) (g : Nat → Nat) (v : Nat → Nat → Nat) : Prop := (w.1 = w0.1 ∧ ∀ u, u < S ∨ S + 57 ≤ u → w.2 u = w0.2 u) ∧ spm x y z ∧ w.2 S = some (ze_ob 3 (sfs S x y z)) ∧ (∀ k, k < 3 → w.2 (S + 1 + 17 * k) = some (ze_ra G 2 8 (fun i => some (S + 2 + 17 * k + 2 * i)))) ∧ w.2 (S + 52) = some (ze_la G 8 (fun j => ((g j : Nat) : Int))) ∧ ∀ k i, sok k i → whz G w (S + 2 + 17 * k + 2 * i) 42 (v k i)
section SS
variable {G : ze_G} {w0 w w' : ze_W} {S x y z : Nat} {g : Nat → Nat} {v : Nat → Nat → Nat}
theorem ss_p (h : sst G w0 w S x y z g v) : x < 3 ∧ y < 3 ∧ z < 3 ∧ x ≠ y ∧ x ≠ z ∧ y ≠ z := h.2.1
theorem ss_o (h : sst G w0 w S x y z g v) : w.2 S = some (ze_ob 3 (sfs S x y z)) := h.2.2.1
theorem ss_r (h : sst G w0 w S x y z g v) {k : Nat} (hk : k < 3) : w.2 (S + 1 + 17 * k) = some (ze_ra G 2 8 (fun i => some (S + 2 + 17 * k + 2 * i))) := h.2.2.2.1 k hk
theorem ss_f (h : sst G w0 w S x y z g v) : w.2 (S + 52) = some (ze_la G 8 (fun j => ((g j : Nat) : Int))) := h.2.2.2.2.1
theorem ss_w (h : sst G w0 w S x y z g v) {k i : Nat} (hk : sok k i) : whz G w (S + 2 + 17 * k + 2 * i) 42 (v k i) := h.2.2.2.2.2 k i hk
theorem whz_o {a L n : Nat} (h : whz G w a L n) : ∃ fs, w.2 a = some (ze_ob 5 fs) := by
  obtain ⟨f, n, g1, -⟩ := h
  exact ⟨_, g1.1⟩
theorem up_nc (g : Nat → Nat) (j val : Nat) : va_up (fun j => ((g j : Nat) : Int)) j ((val : Nat) : Int) = fun q => ((va_up g j val q : Nat) : Int) := by
  funext q
  by_cases e : q = j
  · rw [e, va_up_self, va_up_self]
  · rw [va_up_ne _ _ e, va_up_ne _ _ e]
theorem ss_wb (h : sst G w0 w S x y z g v) {k i n : Nat} (hk : sok k i) (fr : bfr w w' (S + 2 + 17 * k + 2 * i)) (c1 : whz G w' (S + 2 + 17 * k + 2 * i) 42 n) : sst G w0 w' S x y z g (va_up v k (va_up (v k) i n)) := by
  obtain ⟨⟨h1, h2⟩, h3, h4, h5, h6, h7⟩ := h
  obtain ⟨z1, o1⟩ := fr
  unfold sok at hk
  refine ⟨⟨z1.trans h1, fun u hu => (o1 u (by omega) (by omega)).trans (h2 u hu)⟩, h3, (o1 S (by omega) (by omega)).trans h4, fun q hq => (o1 _ (by omega) (by omega)).trans (h5 q hq), (o1 _ (by omega) (by omega)).trans h6, fun q r hq => ?_⟩
  have hq2 := hq
  unfold sok at hq2
  by_cases e : q = k
  · rw [e, va_up_self]
    by_cases e2 : r = i
    · rw [e2, va_up_self]; exact c1
    · rw [va_up_ne _ _ e2]
      have := h7 q r hq
      rw [e] at this
      exact whz_sm this (o1 _ (by omega) (by omega)) (o1 _ (by omega) (by omega))
  · rw [va_up_ne _ _ e]
    exact whz_sm (h7 q r hq) (o1 _ (by omega) (by omega)) (o1 _ (by omega) (by omega))
theorem ss_wf {g' : Nat → Nat} (h : sst G w0 w S x y z g v) (z1 : w'.1 = w.1) (c1 : w'.2 (S + 52) = some (ze_la G 8 (fun j => ((g' j : Nat) : Int)))) (o1 : ∀ u, u ≠ S + 52 → w'.2 u = w.2 u) : sst G w0 w' S x y z g' v := by
  obtain ⟨⟨h1, h2⟩, h3, h4, h5, h6, h7⟩ := h
  refine ⟨⟨z1.trans h1, fun u hu => (o1 u (by omega)).trans (h2 u hu)⟩, h3, (o1 S (by omega)).trans h4, fun q hq => (o1 _ (by omega)).trans (h5 q hq), c1, fun q r hq => ?_⟩
  have hq2 := hq
  unfold sok at hq2
  exact whz_sm (h7 q r hq) (o1 _ (by omega)) (o1 _ (by omega))
theorem ss_wo {x' y' z' : Nat} (h : sst G w0 w S x y z g v) (z1 : w'.1 = w.1) (c1 : w'.2 S = some (ze_ob 3 (sfs S x' y' z'))) (o1 : ∀ u, u ≠ S → w'.2 u = w.2 u) (hp : spm x' y' z') : sst G w0 w' S x' y' z' g v := by
  obtain ⟨⟨h1, h2⟩, h3, h4, h5, h6, h7⟩ := h
  refine ⟨⟨z1.trans h1, fun u hu => (o1 u (by omega)).trans (h2 u hu)⟩, hp, c1, fun q hq => (o1 _ (by omega)).trans (h5 q hq), (o1 _ (by omega)).trans h6, fun q r hq => ?_⟩
  have hq2 := hq
  unfold sok at hq2
  exact whz_sm (h7 q r hq) (o1 _ (by omega)) (o1 _ (by omega))
theorem ss_rf (h : sst G w0 w S x y z g v) : sst G w w S x y z g v := ⟨⟨rfl, fun _ _ => rfl⟩, h.2⟩
theorem chr_sm {ar : Nat → Nat → Int} {c p : Nat} (h : chr G w ar c p) (hx : ∀ u, p ≤ u → u < p + 4 → w'.2 u = w.2 u) : chr G w' ar c p := by
  obtain ⟨h1, h2, bf, gf, sf, h3, h4, h5, h6⟩ := h
  exact ⟨h1, (hx p (by omega) (by omega)).trans h2, bf, gf, sf, (hx _ (by omega) (by omega)).trans h3, (hx _ (by omega) (by omega)).trans h4, (hx _ (by omega) (by omega)).trans h5, h6⟩
theorem srw_sm {ar : Nat → Nat → Int} {P p : Nat} (h : srw G w ar P p) (hx : ∀ u, p ≤ u → u < p + 2 → w'.2 u = w.2 u) : srw G w' ar P p := by
  obtain ⟨h1, h2, rf, h3, h4⟩ := h
  exact ⟨h1, (hx p (by omega) (by omega)).trans h2, rf, (hx _ (by omega) (by omega)).trans h3, h4⟩
theorem w_lt {d n : Nat} (h : n ≤ 1000000 ^ d) (hd : d ≤ 61) : n < 1000000000 ^ 41 := Nat.lt_of_le_of_lt (Nat.le_trans h (Nat.pow_le_pow_right (by decide) hd)) (by decide +kernel)
end SS
theorem C3_sweepAhead {G : ze_G} {l : Launch} {w0 w : ze_W} {S x y z : Nat} {g : Nat → Nat} {v : Nat → Nat → Nat} {ar : Nat → Nat → Int} {c p P q : Nat} {i : Nat} (hS : sst G w0 w S x y z g v) (hch : chr G w0 ar c p) (hrw : srw G w0 ar P q) (hpo : p + 4 ≤ S ∨ S + 57 ≤ p) (hqo : q + 2 ≤ S ∨ S + 57 ≤ q) (hR : rok ar c P) (hi : i < P) : ze_C G l 3 0 0 M3_sweepAhead [.ref S, .ref p, .ref q, ze_i (i : Nat)] w (ze_qv (fun w' => ∃ x' z' g' v', sst G w0 w' S x' y z' g' v' ∧ (∀ s, s < cn ar c → v' x' s = fk ar c i s) ∧ v' y = v y ∧ v' 3 = v 3)) := by
  have hC : ∀ {w1 : ze_W} {x1 y1 z1 : Nat} {g1 : Nat → Nat} {v1 : Nat → Nat → Nat}, sst G w0 w1 S x1 y1 z1 g1 v1 → chr G w1 ar c p := fun h => chr_sm hch (fun u h1 h2 => h.1.2 u (by omega))
  have hRw : ∀ {w1 : ze_W} {x1 y1 z1 : Nat} {g1 : Nat → Nat} {v1 : Nat → Nat → Nat}, sst G w0 w1 S x1 y1 z1 g1 v1 → srw G w1 ar P q := fun h => srw_sm hrw (fun u h1 h2 => h.1.2 u (by omega))
  obtain ⟨en, n1, n8⟩ := mch_n hR.1
  obtain ⟨et, t1, t1000⟩ := mch_t hR.1
  have hP := hR.2.2.1
  have h1M : ∀ {a b : Nat}, a ≤ 1000 → b ≤ ct ar c → a * b ≤ 1000000 := fun h1 h2 => Nat.le_trans (Nat.mul_le_mul h1 (Nat.le_trans h2 t1000)) (by decide)
  refine ze_enter (by decide +kernel) rfl ?_
  generalize hQ : (ze_Q G (ze_qv (fun w' => ∃ x' z' g' v', sst G w0 w' S x' y z' g' v' ∧ (∀ s, s < cn ar c → v' x' s = fk ar c i s) ∧ v' y = v y ∧ v' 3 = v 3)) 0 0) = Z
  have outer : ∀ (d j x1 z1 : Nat) (g1 : Nat → Nat) (v1 : Nat → Nat → Nat) (w1 : ze_W), j + d = i → sst G w0 w1 S x1 y z1 g1 v1 → (∀ s, s < cn ar c → v1 x1 s = fk ar c j s) → v1 y = v y → v1 3 = v 3 → ze_V G l (ze_rm 3 0 0) M3_sweepAhead Z 54 [(0, .ref S), (1, .ref p), (2, .ref q), (3, ze_i ((i : Nat))), (4, ze_i ((cn ar c : Nat))), (5, ze_i (((j + 1 : Nat))))] [] w1 0 0 := by
    intro d
    induction d with
    | zero =>
      intro j x1 z1 g1 v1 w1 hj hS1 hv1 hy h3
      have hji : j = i := by omega
      rw [← hQ]
      refine ze_iload dX3_sweepAhead_54 rfl ?_
      refine ze_iload_n dX3_sweepAhead_56 rfl ?_
      refine ze_icmp_gt 159 dX3_sweepAhead_57 (by decide) (by omega) (by omega) (fun q1 => ?_) (fun q1 => ?_)
      · exact ze_return rfl dX3_sweepAhead_159 ⟨rfl, x1, z1, g1, v1, hS1, fun s hs => by rw [← hji]; exact hv1 s hs, hy, h3⟩ rfl rfl
      · omega
    | succ d ih =>
      intro j x1 z1 g1 v1 w1 hj hS1 hv1 hy h3
      have hjP : j + 1 < P := by omega
      have hpm := ss_p hS1
      have mid : ∀ (d t : Nat) (g2 : Nat → Nat) (v2 : Nat → Nat → Nat) (w2 : ze_W), t + d = cn ar c → sst G w0 w2 S x1 y z1 g2 v2 → (∀ s, s < t → v2 z1 s = fk ar c (j + 1) s) → (∀ k, k ≠ z1 → v2 k = v1 k) → ze_V G l (ze_rm 3 0 0) M3_sweepAhead Z 63 [(0, .ref S), (1, .ref p), (2, .ref q), (3, ze_i ((i : Nat))), (4, ze_i ((cn ar c : Nat))), (5, ze_i (((j + 1 : Nat)))), (6, ze_i ((t : Nat)))] [] w2 0 0 := by
        intro d
        induction d with
        | zero =>
          intro t g2 v2 w2 ht hS2 hz hk
          refine ze_iload dX3_sweepAhead_63 rfl ?_
          refine ze_iload dX3_sweepAhead_65 rfl ?_
          refine ze_icmp_ge 133 dX3_sweepAhead_67 (by decide) (by omega) (by omega) (fun q1 => ?_) (fun q1 => ?_)
          · refine ze_aload_n dX3_sweepAhead_133 rfl ?_
            refine ze_getf dX3_sweepAhead_134 fl_X3_13 (ss_o hS2) rfl ?_
            refine ze_astore (lv' := [(0, .ref S), (1, .ref p), (2, .ref q), (3, ze_i ((i : Nat))), (4, ze_i ((cn ar c : Nat))), (5, ze_i (((j + 1 : Nat)))), (6, .ref (S + 1 + 17 * x1))]) dX3_sweepAhead_137 rfl rfl ?_
            refine ze_aload_n dX3_sweepAhead_139 rfl ?_
            refine ze_aload_n dX3_sweepAhead_140 rfl ?_
            refine ze_getf dX3_sweepAhead_141 fl_X3_22 (ss_o hS2) rfl ?_
            refine ze_putfW (fs' := [.ref (S + 1 + 17 * z1), .ref (S + 1 + 17 * y), .ref (S + 1 + 17 * z1), .ref (S + 52), .ref (S + 53), .ref (S + 55)]) dX3_sweepAhead_144 fl_X3_13 (Or.inl rfl) (ss_o hS2) rfl rfl (Nat.le_of_ble_eq_true rfl) rfl (fun w4 z4 c4 o4 => ?_)
            refine ze_aload_n dX3_sweepAhead_147 rfl ?_
            refine ze_aload dX3_sweepAhead_148 rfl ?_
            refine ze_putfW (fs' := [.ref (S + 1 + 17 * z1), .ref (S + 1 + 17 * y), .ref (S + 1 + 17 * x1), .ref (S + 52), .ref (S + 53), .ref (S + 55)]) dX3_sweepAhead_150 fl_X3_22 (Or.inl rfl) c4 rfl rfl (Nat.le_of_ble_eq_true rfl) rfl (fun w5 z5 c5 o5 => ?_)
            have hS5 := ss_wo (x' := z1) (y' := y) (z' := x1) hS2 (z5.trans z4) c5 (fun u hu => (o5 u hu).trans (o4 u hu)) (by unfold spm; omega)
            refine ze_iinc (b := ((j + 1 + 1 : Nat))) (lv' := [(0, .ref S), (1, .ref p), (2, .ref q), (3, ze_i ((i : Nat))), (4, ze_i ((cn ar c : Nat))), (5, ze_i (((j + 1 + 1 : Nat)))), (6, .ref (S + 1 + 17 * x1))]) dX3_sweepAhead_153 rfl rfl (by omega) rfl ?_
            refine ze_goto 54 dX3_sweepAhead_156 (by decide) ?_
            refine ze_lv (lv' := [(0, .ref S), (1, .ref p), (2, .ref q), (3, ze_i ((i : Nat))), (4, ze_i ((cn ar c : Nat))), (5, ze_i (((j + 1 + 1 : Nat))))]) [0, 1, 2, 3, 4, 5] rfl ?_
            exact ih (j + 1) z1 x1 g2 v2 w5 (by omega) hS5 (fun s hs => hz s (by omega)) (by rw [hk y (by omega)]; exact hy) (by rw [hk 3 (by omega)]; exact h3)
          · omega
        | succ d ihm =>
          intro t g2 v2 w2 ht hS2 hz hk
          have ht8 : t < 8 := by omega
          obtain ⟨ee, ee2⟩ := rok_e hR ht8 hjP
          have inn : ∀ (d s : Nat) (g3 : Nat → Nat) (w3 : ze_W), s + d = cn ar c → sst G w0 w3 S x1 y z1 g3 v2 → (∀ u, u < s → g3 u = cg ar c u t * ce ar c t (j + 1)) → ze_V G l (ze_rm 3 0 0) M3_sweepAhead Z 73 [(0, .ref S), (1, .ref p), (2, .ref q), (3, ze_i ((i : Nat))), (4, ze_i ((cn ar c : Nat))), (5, ze_i (((j + 1 : Nat)))), (6, ze_i ((t : Nat))), (7, ze_i ((s : Nat)))] [] w3 0 0 := by
            intro d
            induction d with
            | zero =>
              intro s g3 w3 hs hS3 hg
              refine ze_iload dX3_sweepAhead_73 rfl ?_
              refine ze_iload dX3_sweepAhead_75 rfl ?_
              refine ze_icmp_ge 107 dX3_sweepAhead_77 (by decide) (by omega) (by omega) (fun q1 => ?_) (fun q1 => ?_)
              · refine ze_aload_n dX3_sweepAhead_107 rfl ?_
                refine ze_getf dX3_sweepAhead_108 fl_X3_22 (ss_o hS3) rfl ?_
                refine ze_iload dX3_sweepAhead_111 rfl ?_
                refine ze_aald (j := t) (b := (S + 2 + 17 * z1 + 2 * t)) dX3_sweepAhead_113 (ss_r hS3 (k := z1) (by omega)) rfl (by omega) (by omega) (by omega) rfl ?_
                refine ze_aload_n dX3_sweepAhead_114 rfl ?_
                refine ze_getf dX3_sweepAhead_115 fl_X3_13 (ss_o hS3) rfl ?_
                refine ze_aload_n dX3_sweepAhead_118 rfl ?_
                refine ze_getf dX3_sweepAhead_119 fl_X3_25 (ss_o hS3) rfl ?_
                refine ze_iload dX3_sweepAhead_122 rfl ?_
                have hmx : sm (cn ar c) (fun u => v2 x1 u * g3 u) = fk ar c (j + 1) t := by
                  show _ = sm (cn ar c) (fun u => fk ar c j u * (cg ar c u t * ce ar c t (j + 1)))
                  apply sm_congr
                  intro u hu
                  show v2 x1 u * g3 u = _
                  rw [hk x1 (by omega), hv1 u hu, hg u (by omega)]
                refine ze_callV (As := [.ref (S + 1 + 17 * x1), .ref (S + 52), ze_i ((cn ar c : Nat))]) (rest := []) dX3_sweepAhead_124 (C5_setMix (Lc := 42) (N := 8) (NF := 8) (Lt := 42) (ta := (fun i => S + 2 + 17 * x1 + 2 * i)) (v := fun u => v2 x1 u) (g := g3) (ss_w hS3 (k := z1) (i := t) (Or.inl ⟨by omega, ht8⟩)) (ss_r hS3 (k := x1) (by omega)) (ss_f hS3) n8 ⟨n8, by omega⟩ ⟨n8, by omega⟩ (fun u hu => rfl) (fun u hu => ⟨ss_w hS3 (k := x1) (i := u) (Or.inl ⟨by omega, by omega⟩), by rw [hk x1 (by omega), hv1 u hu]; exact w_lt (fk_le hR (by omega) hu) (by omega), by omega, by rw [hg u (by omega)]; exact h1M (mch_g hR.1 (by omega) ht8).2 ee2⟩)) mo5_setMix ml_X3_69 in_5_setMix se_5_setMix (whz_o (ss_w hS3 (k := z1) (i := t) (Or.inl ⟨by omega, by omega⟩))).choose_spec rfl rfl rfl rfl rfl ⟨Nat.le_refl _, Nat.le_refl _⟩ rfl (Nat.le_of_ble_eq_true rfl) ?_
                rintro _ w2 ⟨rfl, fr2, hz2⟩
                have hS2 := ss_wb hS3 (k := z1) (i := t) (Or.inl ⟨by omega, ht8⟩) fr2 hz2
                change ze_V G l (ze_rm 3 0 0) M3_sweepAhead _ 127 [(0, .ref S), (1, .ref p), (2, .ref q), (3, ze_i ((i : Nat))), (4, ze_i ((cn ar c : Nat))), (5, ze_i (((j + 1 : Nat)))), (6, ze_i ((t : Nat))), (7, ze_i ((s : Nat)))] [] w2 0 0
                refine ze_iinc (b := ((t + 1 : Nat))) (lv' := [(0, .ref S), (1, .ref p), (2, .ref q), (3, ze_i ((i : Nat))), (4, ze_i ((cn ar c : Nat))), (5, ze_i (((j + 1 : Nat)))), (6, ze_i (((t + 1 : Nat)))), (7, ze_i ((s : Nat)))]) dX3_sweepAhead_127 rfl rfl (by omega) rfl ?_
                refine ze_goto 63 dX3_sweepAhead_130 (by decide) ?_
                refine ze_lv (lv' := [(0, .ref S), (1, .ref p), (2, .ref q), (3, ze_i ((i : Nat))), (4, ze_i ((cn ar c : Nat))), (5, ze_i (((j + 1 : Nat)))), (6, ze_i (((t + 1 : Nat))))]) [0, 1, 2, 3, 4, 5, 6] rfl ?_
                refine ihm (t + 1) g3 _ _ (by omega) hS2 (fun u hu => ?_) (fun k hk2 => by rw [va_up_ne _ _ hk2]; exact hk k hk2)
                rw [va_up_self]
                by_cases e : u = t
                · rw [e, va_up_self, hmx]
                · rw [va_up_ne _ _ e]; exact hz u (by omega)
              · omega
            | succ d ihi =>
              intro s g3 w3 hs hS3 hg
              have hs8 : s < 8 := by omega
              refine ze_iload dX3_sweepAhead_73 rfl ?_
              refine ze_iload dX3_sweepAhead_75 rfl ?_
              refine ze_icmp_ge 107 dX3_sweepAhead_77 (by decide) (by omega) (by omega) (fun q1 => ?_) (fun q1 => ?_)
              · omega
              · refine ze_aload_n dX3_sweepAhead_80 rfl ?_
                refine ze_getf dX3_sweepAhead_81 fl_X3_25 (ss_o hS3) rfl ?_
                refine ze_iload dX3_sweepAhead_84 rfl ?_
                refine ze_aload_n dX3_sweepAhead_86 rfl ?_
                refine ze_iload dX3_sweepAhead_87 rfl ?_
                refine ze_iload dX3_sweepAhead_89 rfl ?_
                refine ze_aload_n dX3_sweepAhead_91 rfl ?_
                refine ze_iload dX3_sweepAhead_92 rfl ?_
                refine ze_callV (As := [ze_i (((j + 1 : Nat)))]) (rest := [ze_i ((t : Nat)), ze_i ((s : Nat)), .ref p, ze_i ((s : Nat)), .ref (S + 52)]) dX3_sweepAhead_94 (C2_signAt (i := j + 1) (hRw hS3) (by omega)) mo2_signAt ml_X3_53 in_2_signAt se_2_signAt (hRw hS3).2.1 rfl rfl rfl rfl rfl ⟨Nat.le_refl _, Nat.le_refl _⟩ rfl (Nat.le_of_ble_eq_true rfl) ?_
                rintro _ w' ⟨r2, rfl, rfl, rfl⟩
                change ze_V G l (ze_rm 3 0 0) M3_sweepAhead _ 97 [(0, .ref S), (1, .ref p), (2, .ref q), (3, ze_i ((i : Nat))), (4, ze_i ((cn ar c : Nat))), (5, ze_i (((j + 1 : Nat)))), (6, ze_i ((t : Nat))), (7, ze_i ((s : Nat)))] [ze_i (ar 7 (j + 1)), ze_i ((t : Nat)), ze_i ((s : Nat)), .ref p, ze_i ((s : Nat)), .ref (S + 52)] w' 0 0
                refine ze_callV (As := [ze_i ((s : Nat)), ze_i ((t : Nat)), ze_i (ar 7 (j + 1))]) (rest := [ze_i ((s : Nat)), .ref (S + 52)]) dX3_sweepAhead_97 (C0_stepWeight (s := s) (t := t) (hC hS3) (by omega) (by omega) (hR.2.2.2 (j + 1) hjP)) mo0_stepWeight ml_X3_65 in_0_stepWeight se_0_stepWeight (hC hS3).2.1 rfl rfl rfl rfl rfl ⟨Nat.le_refl _, Nat.le_refl _⟩ rfl (Nat.le_of_ble_eq_true rfl) ?_
                rintro _ w' ⟨r3, rfl, rfl, rfl⟩
                change ze_V G l (ze_rm 3 0 0) M3_sweepAhead _ 100 [(0, .ref S), (1, .ref p), (2, .ref q), (3, ze_i ((i : Nat))), (4, ze_i ((cn ar c : Nat))), (5, ze_i (((j + 1 : Nat)))), (6, ze_i ((t : Nat))), (7, ze_i ((s : Nat)))] [ze_l ((cg ar c s t * (shx ar c t (ar 7 (j + 1))).toNat : Nat)), ze_i ((s : Nat)), .ref (S + 52)] w' 0 0
                refine ze_lastW (j := s) (f' := fun jj => (((va_up g3 s (cg ar c s t * ce ar c t (j + 1))) jj : Nat) : Int)) dX3_sweepAhead_100 (ss_f hS3) (by omega) (by omega) (by omega) (up_nc g3 s (cg ar c s t * ce ar c t (j + 1))) (fun w4 z4 c4 o4 => ?_)
                have hS4 := ss_wf hS3 z4 c4 o4
                refine ze_iinc (b := ((s + 1 : Nat))) (lv' := [(0, .ref S), (1, .ref p), (2, .ref q), (3, ze_i ((i : Nat))), (4, ze_i ((cn ar c : Nat))), (5, ze_i (((j + 1 : Nat)))), (6, ze_i ((t : Nat))), (7, ze_i (((s + 1 : Nat))))]) dX3_sweepAhead_101 rfl rfl (by omega) rfl ?_
                refine ze_goto 73 dX3_sweepAhead_104 (by decide) ?_
                exact ihi (s + 1) _ _ (by omega) hS4 (fun u hu => by
                  by_cases e : u = s
                  · rw [e, va_up_self]
                  · rw [va_up_ne _ _ e]; exact hg u (by omega))
          refine ze_iload dX3_sweepAhead_63 rfl ?_
          refine ze_iload dX3_sweepAhead_65 rfl ?_
          refine ze_icmp_ge 133 dX3_sweepAhead_67 (by decide) (by omega) (by omega) (fun q1 => ?_) (fun q1 => ?_)
          · omega
          · refine ze_iconst dX3_sweepAhead_70 ?_
            refine ze_ti (b := ((0 : Nat) : Nat)) rfl ?_
            refine ze_istore (lv' := [(0, .ref S), (1, .ref p), (2, .ref q), (3, ze_i ((i : Nat))), (4, ze_i ((cn ar c : Nat))), (5, ze_i (((j + 1 : Nat)))), (6, ze_i ((t : Nat))), (7, ze_i (((0 : Nat) : Nat)))]) dX3_sweepAhead_71 rfl rfl ?_
            exact inn (cn ar c) 0 g2 w2 (by omega) hS2 (fun u hu => absurd hu (Nat.not_lt_zero _))
      refine ze_iload dX3_sweepAhead_54 rfl ?_
      refine ze_iload_n dX3_sweepAhead_56 rfl ?_
      refine ze_icmp_gt 159 dX3_sweepAhead_57 (by decide) (by omega) (by omega) (fun q1 => ?_) (fun q1 => ?_)
      · omega
      · refine ze_iconst dX3_sweepAhead_60 ?_
        refine ze_ti (b := ((0 : Nat) : Nat)) rfl ?_
        refine ze_istore (lv' := [(0, .ref S), (1, .ref p), (2, .ref q), (3, ze_i ((i : Nat))), (4, ze_i ((cn ar c : Nat))), (5, ze_i (((j + 1 : Nat)))), (6, ze_i (((0 : Nat) : Nat)))]) dX3_sweepAhead_61 rfl rfl ?_
        exact mid (cn ar c) 0 g1 v1 w1 (by omega) hS1 (fun u hu => absurd hu (Nat.not_lt_zero _)) (fun _ _ => rfl)
  have hpm := ss_p hS
  have fst : ∀ (d s : Nat) (v1 : Nat → Nat → Nat) (w1 : ze_W), s + d = cn ar c → sst G w0 w1 S x y z g v1 → (∀ u, u < s → v1 x u = fk ar c 0 u) → (∀ k, k ≠ x → v1 k = v k) → ze_V G l (ze_rm 3 0 0) M3_sweepAhead Z 17 [(0, .ref S), (1, .ref p), (2, .ref q), (3, ze_i ((i : Nat))), (4, ze_i ((cn ar c : Nat))), (5, ze_i ((s : Nat)))] [] w1 0 0 := by
    intro d
    induction d with
    | zero =>
      intro s v1 w1 hs hS1 hv hk
      refine ze_iload dX3_sweepAhead_17 rfl ?_
      refine ze_iload dX3_sweepAhead_19 rfl ?_
      refine ze_icmp_ge 51 dX3_sweepAhead_21 (by decide) (by omega) (by omega) (fun q1 => ?_) (fun q1 => ?_)
      · refine ze_iconst dX3_sweepAhead_51 ?_
        refine ze_ti (b := ((0 + 1 : Nat))) rfl ?_
        refine ze_istore (lv' := [(0, .ref S), (1, .ref p), (2, .ref q), (3, ze_i ((i : Nat))), (4, ze_i ((cn ar c : Nat))), (5, ze_i (((0 + 1 : Nat))))]) dX3_sweepAhead_52 rfl rfl ?_
        exact outer i 0 x z g v1 w1 (by omega) hS1 (fun u hu => hv u (by omega)) (hk y (by omega)) (hk 3 (by omega))
      · omega
    | succ d ih =>
      intro s v1 w1 hs hS1 hv hk
      have hs8 : s < 8 := by omega
      obtain ⟨ee, ee2⟩ := rok_e hR hs8 (show 0 < P by omega)
      refine ze_iload dX3_sweepAhead_17 rfl ?_
      refine ze_iload dX3_sweepAhead_19 rfl ?_
      refine ze_icmp_ge 51 dX3_sweepAhead_21 (by decide) (by omega) (by omega) (fun q1 => ?_) (fun q1 => ?_)
      · omega
      · refine ze_aload_n dX3_sweepAhead_24 rfl ?_
        refine ze_getf dX3_sweepAhead_25 fl_X3_13 (ss_o hS1) rfl ?_
        refine ze_iload dX3_sweepAhead_28 rfl ?_
        refine ze_aald (j := s) (b := (S + 2 + 17 * x + 2 * s)) dX3_sweepAhead_30 (ss_r hS1 (k := x) (by omega)) rfl (by omega) (by omega) (by omega) rfl ?_
        refine ze_aload_n dX3_sweepAhead_31 rfl ?_
        refine ze_iload dX3_sweepAhead_32 rfl ?_
        refine ze_aload_n dX3_sweepAhead_34 rfl ?_
        refine ze_iconst dX3_sweepAhead_35 ?_
        refine ze_ti (b := ((0 : Nat) : Nat)) rfl ?_
        refine ze_callV (As := [ze_i (((0 : Nat) : Nat))]) (rest := [ze_i ((s : Nat)), .ref p, .ref (S + 2 + 17 * x + 2 * s)]) dX3_sweepAhead_36 (C2_signAt (i := 0) (hRw hS1) (by omega)) mo2_signAt ml_X3_53 in_2_signAt se_2_signAt (hRw hS1).2.1 rfl rfl rfl rfl rfl ⟨Nat.le_refl _, Nat.le_refl _⟩ rfl (Nat.le_of_ble_eq_true rfl) ?_
        rintro _ w' ⟨r2, rfl, rfl, rfl⟩
        change ze_V G l (ze_rm 3 0 0) M3_sweepAhead _ 39 [(0, .ref S), (1, .ref p), (2, .ref q), (3, ze_i ((i : Nat))), (4, ze_i ((cn ar c : Nat))), (5, ze_i ((s : Nat)))] [ze_i (ar 7 0), ze_i ((s : Nat)), .ref p, .ref (S + 2 + 17 * x + 2 * s)] w' 0 0
        refine ze_callV (As := [ze_i ((s : Nat)), ze_i (ar 7 0)]) (rest := [.ref (S + 2 + 17 * x + 2 * s)]) dX3_sweepAhead_39 (C0_startWeight (s := s) (hC hS1) (by omega) (hR.2.2.2 0 (by omega))) mo0_startWeight ml_X3_59 in_0_startWeight se_0_startWeight (hC hS1).2.1 rfl rfl rfl rfl rfl ⟨Nat.le_refl _, Nat.le_refl _⟩ rfl (Nat.le_of_ble_eq_true rfl) ?_
        rintro _ w' ⟨r3, rfl, rfl, rfl⟩
        change ze_V G l (ze_rm 3 0 0) M3_sweepAhead _ 42 [(0, .ref S), (1, .ref p), (2, .ref q), (3, ze_i ((i : Nat))), (4, ze_i ((cn ar c : Nat))), (5, ze_i ((s : Nat)))] [ze_i ((cb ar c s * (shx ar c s (ar 7 0)).toNat : Nat)), .ref (S + 2 + 17 * x + 2 * s)] w' 0 0
        refine ze_callV (As := [ze_i ((cb ar c s * (shx ar c s (ar 7 0)).toNat : Nat))]) (rest := []) dX3_sweepAhead_42 (C5_setSmall (v := fk ar c 0 s) (ss_w hS1 (k := x) (i := s) (Or.inl ⟨by omega, hs8⟩)) (Nat.lt_of_le_of_lt (h1M (mch_b hR.1 hs8).2 ee2) (by decide))) mo5_setSmall ml_X3_62 in_5_setSmall se_5_setSmall (whz_o (ss_w hS1 (k := x) (i := s) (Or.inl ⟨by omega, by omega⟩))).choose_spec rfl rfl rfl rfl rfl ⟨Nat.le_refl _, Nat.le_refl _⟩ rfl (Nat.le_of_ble_eq_true rfl) ?_
        rintro _ w4 ⟨rfl, fr4, hz4⟩
        have hS4 := ss_wb hS1 (k := x) (i := s) (Or.inl ⟨by omega, hs8⟩) fr4 hz4
        change ze_V G l (ze_rm 3 0 0) M3_sweepAhead _ 45 [(0, .ref S), (1, .ref p), (2, .ref q), (3, ze_i ((i : Nat))), (4, ze_i ((cn ar c : Nat))), (5, ze_i ((s : Nat)))] [] w4 0 0
        refine ze_iinc (b := ((s + 1 : Nat))) (lv' := [(0, .ref S), (1, .ref p), (2, .ref q), (3, ze_i ((i : Nat))), (4, ze_i ((cn ar c : Nat))), (5, ze_i (((s + 1 : Nat))))]) dX3_sweepAhead_45 rfl rfl (by omega) rfl ?_
        refine ze_goto 17 dX3_sweepAhead_48 (by decide) ?_
        refine ih (s + 1) _ _ (by omega) hS4 (fun u hu => ?_) (fun k hk2 => by rw [va_up_ne _ _ hk2]; exact hk k hk2)
        rw [va_up_self]
        by_cases e : u = s
        · rw [e, va_up_self]
        · rw [va_up_ne _ _ e]; exact hv u (by omega)
  change ze_V G l (ze_rm 3 0 0) M3_sweepAhead Z 0 [(0, .ref S), (1, .ref p), (2, .ref q), (3, ze_i ((i : Nat)))] [] w 0 0
  refine ze_aload_n dX3_sweepAhead_0 rfl ?_
  refine ze_getf dX3_sweepAhead_1 fl_X3_41 (hC hS).2.1 rfl ?_
  refine ze_aload_n dX3_sweepAhead_4 rfl ?_
  refine ze_getf dX3_sweepAhead_5 fl_X3_13 (ss_o hS) rfl ?_
  refine ze_alen dX3_sweepAhead_8 (ss_r hS (k := x) (by omega)) rfl ?_
  refine ze_mmin dX3_sweepAhead_9 ml_X3_47 st_Lib_Math_min_name n_J9 cd_Lib_Math_min_name rfl rfl ⟨Nat.le_refl _, Nat.le_refl _⟩ (by omega) (by omega) ?_
  refine ze_ti (b := (cn ar c : Nat)) (by omega) ?_
  refine ze_istore (lv' := [(0, .ref S), (1, .ref p), (2, .ref q), (3, ze_i ((i : Nat))), (4, ze_i ((cn ar c : Nat)))]) dX3_sweepAhead_12 rfl rfl ?_
  refine ze_iconst dX3_sweepAhead_14 ?_
  refine ze_ti (b := ((0 : Nat) : Nat)) rfl ?_
  refine ze_istore (lv' := [(0, .ref S), (1, .ref p), (2, .ref q), (3, ze_i ((i : Nat))), (4, ze_i ((cn ar c : Nat))), (5, ze_i (((0 : Nat) : Nat)))]) dX3_sweepAhead_15 rfl rfl ?_
  exact fst (cn ar c) 0 v w (by omega) hS (fun u hu => absurd hu (Nat.not_lt_zero _)) (fun _ _ => rfl)
theorem C3_sweepBehind {G : ze_G} {l : Launch} {w0 w : ze_W} {S x y z : Nat} {g : Nat → Nat} {v : Nat → Nat → Nat} {ar : Nat → Nat → Int} {c p P q : Nat} {i : Nat} (hS : sst G w0 w S x y z g v) (hch : chr G w0 ar c p) (hrw : srw G w0 ar P q) (hpo : p + 4 ≤ S ∨ S + 57 ≤ p) (hqo : q + 2 ≤ S ∨ S + 57 ≤ q) (hR : rok ar c P) (hi : i < P) : ze_C G l 3 0 0 M3_sweepBehind [.ref S, .ref p, .ref q, ze_i (i : Nat)] w (ze_qv (fun w' => ∃ y' z' g' v', sst G w0 w' S x y' z' g' v' ∧ (∀ s, s < cn ar c → v' y' s = bk ar c P (P - 1 - i) s) ∧ v' x = v x ∧ v' 3 = v 3)) := by
  have hC : ∀ {w1 : ze_W} {x1 y1 z1 : Nat} {g1 : Nat → Nat} {v1 : Nat → Nat → Nat}, sst G w0 w1 S x1 y1 z1 g1 v1 → chr G w1 ar c p := fun h => chr_sm hch (fun u h1 h2 => h.1.2 u (by omega))
  have hRw : ∀ {w1 : ze_W} {x1 y1 z1 : Nat} {g1 : Nat → Nat} {v1 : Nat → Nat → Nat}, sst G w0 w1 S x1 y1 z1 g1 v1 → srw G w1 ar P q := fun h => srw_sm hrw (fun u h1 h2 => h.1.2 u (by omega))
  obtain ⟨en, n1, n8⟩ := mch_n hR.1
  obtain ⟨et, t1, t1000⟩ := mch_t hR.1
  have hP := hR.2.2.1
  have h1M : ∀ {a b : Nat}, a ≤ 1000 → b ≤ ct ar c → a * b ≤ 1000000 := fun h1 h2 => Nat.le_trans (Nat.mul_le_mul h1 (Nat.le_trans h2 t1000)) (by decide)
  refine ze_enter (by decide +kernel) rfl ?_
  generalize hQ : (ze_Q G (ze_qv (fun w' => ∃ y' z' g' v', sst G w0 w' S x y' z' g' v' ∧ (∀ s, s < cn ar c → v' y' s = bk ar c P (P - 1 - i) s) ∧ v' x = v x ∧ v' 3 = v 3)) 0 0) = Z
  have outer : ∀ (d j y1 z1 : Nat) (g1 : Nat → Nat) (v1 : Nat → Nat → Nat) (w1 : ze_W), j = i + d → j < P → sst G w0 w1 S x y1 z1 g1 v1 → (∀ s, s < cn ar c → v1 y1 s = bk ar c P (P - 1 - j) s) → v1 x = v x → v1 3 = v 3 → ze_V G l (ze_rm 3 0 0) M3_sweepBehind Z 49 [(0, .ref S), (1, .ref p), (2, .ref q), (3, ze_i ((i : Nat))), (4, ze_i ((cn ar c : Nat))), (5, ze_i ((j : Nat)))] [] w1 0 0 := by
    intro d
    induction d with
    | zero =>
      intro j y1 z1 g1 v1 w1 hj hjP hS1 hv1 hy h3
      have hji : j = i := by omega
      rw [← hQ]
      refine ze_iload dX3_sweepBehind_49 rfl ?_
      refine ze_iload_n dX3_sweepBehind_51 rfl ?_
      refine ze_icmp_le 154 dX3_sweepBehind_52 (by decide) (by omega) (by omega) (fun q1 => ?_) (fun q1 => ?_)
      · exact ze_return rfl dX3_sweepBehind_154 ⟨rfl, y1, z1, g1, v1, hS1, fun s hs => by rw [← hji]; exact hv1 s hs, hy, h3⟩ rfl rfl
      · omega
    | succ d ih =>
      intro j y1 z1 g1 v1 w1 hj hjP hS1 hv1 hy h3
      have hpm := ss_p hS1
      obtain ⟨D, hD⟩ : ∃ D, D = P - 1 - j := ⟨_, rfl⟩
      have hD2 : P - 1 - D = j := by omega
      have hD3 : P - 1 - (j - 1) = D + 1 := by omega
      rw [← hD] at hv1
      have mid : ∀ (d s : Nat) (g2 : Nat → Nat) (v2 : Nat → Nat → Nat) (w2 : ze_W), s + d = cn ar c → sst G w0 w2 S x y1 z1 g2 v2 → (∀ u, u < s → v2 z1 u = bk ar c P (D + 1) u) → (∀ k, k ≠ z1 → v2 k = v1 k) → ze_V G l (ze_rm 3 0 0) M3_sweepBehind Z 58 [(0, .ref S), (1, .ref p), (2, .ref q), (3, ze_i ((i : Nat))), (4, ze_i ((cn ar c : Nat))), (5, ze_i ((j : Nat))), (6, ze_i ((s : Nat)))] [] w2 0 0 := by
        intro d
        induction d with
        | zero =>
          intro s g2 v2 w2 ht hS2 hz hk
          refine ze_iload dX3_sweepBehind_58 rfl ?_
          refine ze_iload dX3_sweepBehind_60 rfl ?_
          refine ze_icmp_ge 128 dX3_sweepBehind_62 (by decide) (by omega) (by omega) (fun q1 => ?_) (fun q1 => ?_)
          · refine ze_aload_n dX3_sweepBehind_128 rfl ?_
            refine ze_getf dX3_sweepBehind_129 fl_X3_19 (ss_o hS2) rfl ?_
            refine ze_astore (lv' := [(0, .ref S), (1, .ref p), (2, .ref q), (3, ze_i ((i : Nat))), (4, ze_i ((cn ar c : Nat))), (5, ze_i ((j : Nat))), (6, .ref (S + 1 + 17 * y1))]) dX3_sweepBehind_132 rfl rfl ?_
            refine ze_aload_n dX3_sweepBehind_134 rfl ?_
            refine ze_aload_n dX3_sweepBehind_135 rfl ?_
            refine ze_getf dX3_sweepBehind_136 fl_X3_22 (ss_o hS2) rfl ?_
            refine ze_putfW (fs' := [.ref (S + 1 + 17 * x), .ref (S + 1 + 17 * z1), .ref (S + 1 + 17 * z1), .ref (S + 52), .ref (S + 53), .ref (S + 55)]) dX3_sweepBehind_139 fl_X3_19 (Or.inl rfl) (ss_o hS2) rfl rfl (Nat.le_of_ble_eq_true rfl) rfl (fun w4 z4 c4 o4 => ?_)
            refine ze_aload_n dX3_sweepBehind_142 rfl ?_
            refine ze_aload dX3_sweepBehind_143 rfl ?_
            refine ze_putfW (fs' := [.ref (S + 1 + 17 * x), .ref (S + 1 + 17 * z1), .ref (S + 1 + 17 * y1), .ref (S + 52), .ref (S + 53), .ref (S + 55)]) dX3_sweepBehind_145 fl_X3_22 (Or.inl rfl) c4 rfl rfl (Nat.le_of_ble_eq_true rfl) rfl (fun w5 z5 c5 o5 => ?_)
            have hS5 := ss_wo (x' := x) (y' := z1) (z' := y1) hS2 (z5.trans z4) c5 (fun u hu => (o5 u hu).trans (o4 u hu)) (by unfold spm; omega)
            refine ze_iinc (b := ((j - 1 : Nat))) (lv' := [(0, .ref S), (1, .ref p), (2, .ref q), (3, ze_i ((i : Nat))), (4, ze_i ((cn ar c : Nat))), (5, ze_i (((j - 1 : Nat)))), (6, .ref (S + 1 + 17 * y1))]) dX3_sweepBehind_148 rfl rfl (by omega) rfl ?_
            refine ze_goto 49 dX3_sweepBehind_151 (by decide) ?_
            refine ze_lv (lv' := [(0, .ref S), (1, .ref p), (2, .ref q), (3, ze_i ((i : Nat))), (4, ze_i ((cn ar c : Nat))), (5, ze_i (((j - 1 : Nat))))]) [0, 1, 2, 3, 4, 5] rfl ?_
            exact ih (j - 1) z1 y1 g2 v2 w5 (by omega) (by omega) hS5 (fun u hu => by rw [hD3]; exact hz u (by omega)) (by rw [hk x (by omega)]; exact hy) (by rw [hk 3 (by omega)]; exact h3)
          · omega
        | succ d ihm =>
          intro s g2 v2 w2 ht hS2 hz hk
          have hs8 : s < 8 := by omega
          have inn : ∀ (d t : Nat) (g3 : Nat → Nat) (w3 : ze_W), t + d = cn ar c → sst G w0 w3 S x y1 z1 g3 v2 → (∀ u, u < t → g3 u = cg ar c s u * ce ar c u j) → ze_V G l (ze_rm 3 0 0) M3_sweepBehind Z 68 [(0, .ref S), (1, .ref p), (2, .ref q), (3, ze_i ((i : Nat))), (4, ze_i ((cn ar c : Nat))), (5, ze_i ((j : Nat))), (6, ze_i ((s : Nat))), (7, ze_i ((t : Nat)))] [] w3 0 0 := by
            intro d
            induction d with
            | zero =>
              intro t g3 w3 hs hS3 hg
              refine ze_iload dX3_sweepBehind_68 rfl ?_
              refine ze_iload dX3_sweepBehind_70 rfl ?_
              refine ze_icmp_ge 102 dX3_sweepBehind_72 (by decide) (by omega) (by omega) (fun q1 => ?_) (fun q1 => ?_)
              · refine ze_aload_n dX3_sweepBehind_102 rfl ?_
                refine ze_getf dX3_sweepBehind_103 fl_X3_22 (ss_o hS3) rfl ?_
                refine ze_iload dX3_sweepBehind_106 rfl ?_
                refine ze_aald (j := s) (b := (S + 2 + 17 * z1 + 2 * s)) dX3_sweepBehind_108 (ss_r hS3 (k := z1) (by omega)) rfl (by omega) (by omega) (by omega) rfl ?_
                refine ze_aload_n dX3_sweepBehind_109 rfl ?_
                refine ze_getf dX3_sweepBehind_110 fl_X3_19 (ss_o hS3) rfl ?_
                refine ze_aload_n dX3_sweepBehind_113 rfl ?_
                refine ze_getf dX3_sweepBehind_114 fl_X3_25 (ss_o hS3) rfl ?_
                refine ze_iload dX3_sweepBehind_117 rfl ?_
                have hmx : sm (cn ar c) (fun u => v2 y1 u * g3 u) = bk ar c P (D + 1) s := by
                  show _ = sm (cn ar c) (fun u => bk ar c P D u * (cg ar c s u * ce ar c u (P - 1 - D)))
                  rw [hD2]
                  apply sm_congr
                  intro u hu
                  show v2 y1 u * g3 u = _
                  rw [hk y1 (by omega), hv1 u hu, hg u (by omega)]
                refine ze_callV (As := [.ref (S + 1 + 17 * y1), .ref (S + 52), ze_i ((cn ar c : Nat))]) (rest := []) dX3_sweepBehind_119 (C5_setMix (Lc := 42) (N := 8) (NF := 8) (Lt := 42) (ta := (fun i => S + 2 + 17 * y1 + 2 * i)) (v := fun u => v2 y1 u) (g := g3) (ss_w hS3 (k := z1) (i := s) (Or.inl ⟨by omega, hs8⟩)) (ss_r hS3 (k := y1) (by omega)) (ss_f hS3) n8 ⟨n8, by omega⟩ ⟨n8, by omega⟩ (fun u hu => rfl) (fun u hu => ⟨ss_w hS3 (k := y1) (i := u) (Or.inl ⟨by omega, by omega⟩), by rw [hk y1 (by omega), hv1 u hu]; exact w_lt (bk_le hR D u (by omega) hu) (by omega), by omega, by rw [hg u (by omega)]; exact h1M (mch_g hR.1 hs8 (by omega)).2 (rok_e hR (by omega) hjP).2⟩)) mo5_setMix ml_X3_69 in_5_setMix se_5_setMix (whz_o (ss_w hS3 (k := z1) (i := s) (Or.inl ⟨by omega, by omega⟩))).choose_spec rfl rfl rfl rfl rfl ⟨Nat.le_refl _, Nat.le_refl _⟩ rfl (Nat.le_of_ble_eq_true rfl) ?_
                rintro _ w2 ⟨rfl, fr2, hz2⟩
                have hS2 := ss_wb hS3 (k := z1) (i := s) (Or.inl ⟨by omega, hs8⟩) fr2 hz2
                change ze_V G l (ze_rm 3 0 0) M3_sweepBehind _ 122 [(0, .ref S), (1, .ref p), (2, .ref q), (3, ze_i ((i : Nat))), (4, ze_i ((cn ar c : Nat))), (5, ze_i ((j : Nat))), (6, ze_i ((s : Nat))), (7, ze_i ((t : Nat)))] [] w2 0 0
                refine ze_iinc (b := ((s + 1 : Nat))) (lv' := [(0, .ref S), (1, .ref p), (2, .ref q), (3, ze_i ((i : Nat))), (4, ze_i ((cn ar c : Nat))), (5, ze_i ((j : Nat))), (6, ze_i (((s + 1 : Nat)))), (7, ze_i ((t : Nat)))]) dX3_sweepBehind_122 rfl rfl (by omega) rfl ?_
                refine ze_goto 58 dX3_sweepBehind_125 (by decide) ?_
                refine ze_lv (lv' := [(0, .ref S), (1, .ref p), (2, .ref q), (3, ze_i ((i : Nat))), (4, ze_i ((cn ar c : Nat))), (5, ze_i ((j : Nat))), (6, ze_i (((s + 1 : Nat))))]) [0, 1, 2, 3, 4, 5, 6] rfl ?_
                refine ihm (s + 1) g3 _ _ (by omega) hS2 (fun u hu => ?_) (fun k hk2 => by rw [va_up_ne _ _ hk2]; exact hk k hk2)
                rw [va_up_self]
                by_cases e : u = s
                · rw [e, va_up_self, hmx]
                · rw [va_up_ne _ _ e]; exact hz u (by omega)
              · omega
            | succ d ihi =>
              intro t g3 w3 hs hS3 hg
              have ht8 : t < 8 := by omega
              refine ze_iload dX3_sweepBehind_68 rfl ?_
              refine ze_iload dX3_sweepBehind_70 rfl ?_
              refine ze_icmp_ge 102 dX3_sweepBehind_72 (by decide) (by omega) (by omega) (fun q1 => ?_) (fun q1 => ?_)
              · omega
              · refine ze_aload_n dX3_sweepBehind_75 rfl ?_
                refine ze_getf dX3_sweepBehind_76 fl_X3_25 (ss_o hS3) rfl ?_
                refine ze_iload dX3_sweepBehind_79 rfl ?_
                refine ze_aload_n dX3_sweepBehind_81 rfl ?_
                refine ze_iload dX3_sweepBehind_82 rfl ?_
                refine ze_iload dX3_sweepBehind_84 rfl ?_
                refine ze_aload_n dX3_sweepBehind_86 rfl ?_
                refine ze_iload dX3_sweepBehind_87 rfl ?_
                refine ze_callV (As := [ze_i ((j : Nat))]) (rest := [ze_i ((t : Nat)), ze_i ((s : Nat)), .ref p, ze_i ((t : Nat)), .ref (S + 52)]) dX3_sweepBehind_89 (C2_signAt (i := j) (hRw hS3) (by omega)) mo2_signAt ml_X3_53 in_2_signAt se_2_signAt (hRw hS3).2.1 rfl rfl rfl rfl rfl ⟨Nat.le_refl _, Nat.le_refl _⟩ rfl (Nat.le_of_ble_eq_true rfl) ?_
                rintro _ w' ⟨r2, rfl, rfl, rfl⟩
                change ze_V G l (ze_rm 3 0 0) M3_sweepBehind _ 92 [(0, .ref S), (1, .ref p), (2, .ref q), (3, ze_i ((i : Nat))), (4, ze_i ((cn ar c : Nat))), (5, ze_i ((j : Nat))), (6, ze_i ((s : Nat))), (7, ze_i ((t : Nat)))] [ze_i (ar 7 j), ze_i ((t : Nat)), ze_i ((s : Nat)), .ref p, ze_i ((t : Nat)), .ref (S + 52)] w' 0 0
                refine ze_callV (As := [ze_i ((s : Nat)), ze_i ((t : Nat)), ze_i (ar 7 j)]) (rest := [ze_i ((t : Nat)), .ref (S + 52)]) dX3_sweepBehind_92 (C0_stepWeight (s := s) (t := t) (hC hS3) (by omega) (by omega) (hR.2.2.2 j hjP)) mo0_stepWeight ml_X3_65 in_0_stepWeight se_0_stepWeight (hC hS3).2.1 rfl rfl rfl rfl rfl ⟨Nat.le_refl _, Nat.le_refl _⟩ rfl (Nat.le_of_ble_eq_true rfl) ?_
                rintro _ w' ⟨r3, rfl, rfl, rfl⟩
                change ze_V G l (ze_rm 3 0 0) M3_sweepBehind _ 95 [(0, .ref S), (1, .ref p), (2, .ref q), (3, ze_i ((i : Nat))), (4, ze_i ((cn ar c : Nat))), (5, ze_i ((j : Nat))), (6, ze_i ((s : Nat))), (7, ze_i ((t : Nat)))] [ze_l ((cg ar c s t * (shx ar c t (ar 7 j)).toNat : Nat)), ze_i ((t : Nat)), .ref (S + 52)] w' 0 0
                refine ze_lastW (j := t) (f' := fun jj => (((va_up g3 t (cg ar c s t * ce ar c t j)) jj : Nat) : Int)) dX3_sweepBehind_95 (ss_f hS3) (by omega) (by omega) (by omega) (up_nc g3 t (cg ar c s t * ce ar c t j)) (fun w4 z4 c4 o4 => ?_)
                have hS4 := ss_wf hS3 z4 c4 o4
                refine ze_iinc (b := ((t + 1 : Nat))) (lv' := [(0, .ref S), (1, .ref p), (2, .ref q), (3, ze_i ((i : Nat))), (4, ze_i ((cn ar c : Nat))), (5, ze_i ((j : Nat))), (6, ze_i ((s : Nat))), (7, ze_i (((t + 1 : Nat))))]) dX3_sweepBehind_96 rfl rfl (by omega) rfl ?_
                refine ze_goto 68 dX3_sweepBehind_99 (by decide) ?_
                exact ihi (t + 1) _ _ (by omega) hS4 (fun u hu => by
                  by_cases e : u = t
                  · rw [e, va_up_self]
                  · rw [va_up_ne _ _ e]; exact hg u (by omega))
          refine ze_iload dX3_sweepBehind_58 rfl ?_
          refine ze_iload dX3_sweepBehind_60 rfl ?_
          refine ze_icmp_ge 128 dX3_sweepBehind_62 (by decide) (by omega) (by omega) (fun q1 => ?_) (fun q1 => ?_)
          · omega
          · refine ze_iconst dX3_sweepBehind_65 ?_
            refine ze_ti (b := ((0 : Nat) : Nat)) rfl ?_
            refine ze_istore (lv' := [(0, .ref S), (1, .ref p), (2, .ref q), (3, ze_i ((i : Nat))), (4, ze_i ((cn ar c : Nat))), (5, ze_i ((j : Nat))), (6, ze_i ((s : Nat))), (7, ze_i (((0 : Nat) : Nat)))]) dX3_sweepBehind_66 rfl rfl ?_
            exact inn (cn ar c) 0 g2 w2 (by omega) hS2 (fun u hu => absurd hu (Nat.not_lt_zero _))
      refine ze_iload dX3_sweepBehind_49 rfl ?_
      refine ze_iload_n dX3_sweepBehind_51 rfl ?_
      refine ze_icmp_le 154 dX3_sweepBehind_52 (by decide) (by omega) (by omega) (fun q1 => ?_) (fun q1 => ?_)
      · omega
      · refine ze_iconst dX3_sweepBehind_55 ?_
        refine ze_ti (b := ((0 : Nat) : Nat)) rfl ?_
        refine ze_istore (lv' := [(0, .ref S), (1, .ref p), (2, .ref q), (3, ze_i ((i : Nat))), (4, ze_i ((cn ar c : Nat))), (5, ze_i ((j : Nat))), (6, ze_i (((0 : Nat) : Nat)))]) dX3_sweepBehind_56 rfl rfl ?_
        exact mid (cn ar c) 0 g1 v1 w1 (by omega) hS1 (fun u hu => absurd hu (Nat.not_lt_zero _)) (fun _ _ => rfl)
  have hpm := ss_p hS
  have fst : ∀ (d s : Nat) (v1 : Nat → Nat → Nat) (w1 : ze_W), s + d = cn ar c → sst G w0 w1 S x y z g v1 → (∀ u, u < s → v1 y u = 1) → (∀ k, k ≠ y → v1 k = v k) → ze_V G l (ze_rm 3 0 0) M3_sweepBehind Z 17 [(0, .ref S), (1, .ref p), (2, .ref q), (3, ze_i ((i : Nat))), (4, ze_i ((cn ar c : Nat))), (5, ze_i ((s : Nat)))] [] w1 0 0 := by
    intro d
    induction d with
    | zero =>
      intro s v1 w1 hs hS1 hv hk
      refine ze_iload dX3_sweepBehind_17 rfl ?_
      refine ze_iload dX3_sweepBehind_19 rfl ?_
      refine ze_icmp_ge 41 dX3_sweepBehind_21 (by decide) (by omega) (by omega) (fun q1 => ?_) (fun q1 => ?_)
      · refine ze_aload_n dX3_sweepBehind_41 rfl ?_
        refine ze_callV (As := []) (rest := []) dX3_sweepBehind_42 (C2_length (hRw hS1)) mo2_length ml_X3_73 in_2_length se_2_length (hRw hS1).2.1 rfl rfl rfl rfl rfl ⟨Nat.le_refl _, Nat.le_refl _⟩ rfl (Nat.le_of_ble_eq_true rfl) ?_
        rintro _ w' ⟨r2, rfl, rfl, rfl⟩
        change ze_V G l (ze_rm 3 0 0) M3_sweepBehind _ 45 [(0, .ref S), (1, .ref p), (2, .ref q), (3, ze_i ((i : Nat))), (4, ze_i ((cn ar c : Nat))), (5, ze_i ((s : Nat)))] [ze_i ((P : Nat))] w' 0 0
        refine ze_iconst dX3_sweepBehind_45 ?_
        refine ze_isub dX3_sweepBehind_46 ?_
        refine ze_ti (b := ((P - 1 : Nat))) (by omega) ?_
        refine ze_istore (lv' := [(0, .ref S), (1, .ref p), (2, .ref q), (3, ze_i ((i : Nat))), (4, ze_i ((cn ar c : Nat))), (5, ze_i (((P - 1 : Nat))))]) dX3_sweepBehind_47 rfl rfl ?_
        exact outer (P - 1 - i) (P - 1) y z g v1 _ (by omega) (by omega) hS1 (fun u hu => by rw [Nat.sub_self]; exact hv u (by omega)) (hk x (by omega)) (hk 3 (by omega))
      · omega
    | succ d ih =>
      intro s v1 w1 hs hS1 hv hk
      have hs8 : s < 8 := by omega
      refine ze_iload dX3_sweepBehind_17 rfl ?_
      refine ze_iload dX3_sweepBehind_19 rfl ?_
      refine ze_icmp_ge 41 dX3_sweepBehind_21 (by decide) (by omega) (by omega) (fun q1 => ?_) (fun q1 => ?_)
      · omega
      · refine ze_aload_n dX3_sweepBehind_24 rfl ?_
        refine ze_getf dX3_sweepBehind_25 fl_X3_19 (ss_o hS1) rfl ?_
        refine ze_iload dX3_sweepBehind_28 rfl ?_
        refine ze_aald (j := s) (b := (S + 2 + 17 * y + 2 * s)) dX3_sweepBehind_30 (ss_r hS1 (k := y) (by omega)) rfl (by omega) (by omega) (by omega) rfl ?_
        refine ze_iconst dX3_sweepBehind_31 ?_
        refine ze_ti (b := ((1 : Nat) : Nat)) rfl ?_
        refine ze_callV (As := [ze_i (((1 : Nat) : Nat))]) (rest := []) dX3_sweepBehind_32 (C5_setSmall (v := 1) (ss_w hS1 (k := y) (i := s) (Or.inl ⟨by omega, hs8⟩)) (by decide)) mo5_setSmall ml_X3_62 in_5_setSmall se_5_setSmall (whz_o (ss_w hS1 (k := y) (i := s) (Or.inl ⟨by omega, by omega⟩))).choose_spec rfl rfl rfl rfl rfl ⟨Nat.le_refl _, Nat.le_refl _⟩ rfl (Nat.le_of_ble_eq_true rfl) ?_
        rintro _ w2 ⟨rfl, fr2, hz2⟩
        have hS2 := ss_wb hS1 (k := y) (i := s) (Or.inl ⟨by omega, hs8⟩) fr2 hz2
        change ze_V G l (ze_rm 3 0 0) M3_sweepBehind _ 35 [(0, .ref S), (1, .ref p), (2, .ref q), (3, ze_i ((i : Nat))), (4, ze_i ((cn ar c : Nat))), (5, ze_i ((s : Nat)))] [] w2 0 0
        refine ze_iinc (b := ((s + 1 : Nat))) (lv' := [(0, .ref S), (1, .ref p), (2, .ref q), (3, ze_i ((i : Nat))), (4, ze_i ((cn ar c : Nat))), (5, ze_i (((s + 1 : Nat))))]) dX3_sweepBehind_35 rfl rfl (by omega) rfl ?_
        refine ze_goto 17 dX3_sweepBehind_38 (by decide) ?_
        refine ih (s + 1) _ _ (by omega) hS2 (fun u hu => ?_) (fun k hk2 => by rw [va_up_ne _ _ hk2]; exact hk k hk2)
        rw [va_up_self]
        by_cases e : u = s
        · rw [e, va_up_self]
        · rw [va_up_ne _ _ e]; exact hv u (by omega)
  change ze_V G l (ze_rm 3 0 0) M3_sweepBehind Z 0 [(0, .ref S), (1, .ref p), (2, .ref q), (3, ze_i ((i : Nat)))] [] w 0 0
  refine ze_aload_n dX3_sweepBehind_0 rfl ?_
  refine ze_getf dX3_sweepBehind_1 fl_X3_41 (hC hS).2.1 rfl ?_
  refine ze_aload_n dX3_sweepBehind_4 rfl ?_
  refine ze_getf dX3_sweepBehind_5 fl_X3_19 (ss_o hS) rfl ?_
  refine ze_alen dX3_sweepBehind_8 (ss_r hS (k := y) (by omega)) rfl ?_
  refine ze_mmin dX3_sweepBehind_9 ml_X3_47 st_Lib_Math_min_name n_J9 cd_Lib_Math_min_name rfl rfl ⟨Nat.le_refl _, Nat.le_refl _⟩ (by omega) (by omega) ?_
  refine ze_ti (b := (cn ar c : Nat)) (by omega) ?_
  refine ze_istore (lv' := [(0, .ref S), (1, .ref p), (2, .ref q), (3, ze_i ((i : Nat))), (4, ze_i ((cn ar c : Nat)))]) dX3_sweepBehind_12 rfl rfl ?_
  refine ze_iconst dX3_sweepBehind_14 ?_
  refine ze_ti (b := ((0 : Nat) : Nat)) rfl ?_
  refine ze_istore (lv' := [(0, .ref S), (1, .ref p), (2, .ref q), (3, ze_i ((i : Nat))), (4, ze_i ((cn ar c : Nat))), (5, ze_i (((0 : Nat) : Nat)))]) dX3_sweepBehind_15 rfl rfl ?_
  exact fst (cn ar c) 0 v w (by omega) hS (fun u hu => absurd hu (Nat.not_lt_zero _)) (fun _ _ => rfl)
