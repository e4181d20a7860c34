/-! the reference: the lists of best ends -/
theorem lnn_pk {n : Nat} {cnt : Nat → Nat} {val : Nat → Nat → Nat} {wt : Nat → Nat} {K r : Nat} (h : r < lnn n cnt val wt K) : (pk n cnt val wt r).2 ≠ 0 := by
  induction K with
  | zero => exact absurd h (Nat.not_lt_zero _)
  | succ K ih =>
    unfold lnn at h
    split at h
    · rename_i h2
      by_cases e : r = K
      · rw [e]; exact h2.2
      · exact ih (by omega)
    · exact ih h
theorem lnn_stop {n : Nat} {cnt : Nat → Nat} {val : Nat → Nat → Nat} {wt : Nat → Nat} {r : Nat} (h : lnn n cnt val wt r = r) (h0 : (pk n cnt val wt r).2 = 0) (d : Nat) : lnn n cnt val wt (r + d) = r := by
  induction d with
  | zero => exact h
  | succ d ih =>
    show (if lnn n cnt val wt (r + d) = r + d ∧ (pk n cnt val wt (r + d)).2 ≠ 0 then r + d + 1 else lnn n cnt val wt (r + d)) = r
    rw [ih]
    split
    · rename_i h2
      have hd : d = 0 := by omega
      rw [hd] at h2
      exact absurd h0 h2.2
    · rfl
theorem lnn_go {n : Nat} {cnt : Nat → Nat} {val : Nat → Nat → Nat} {wt : Nat → Nat} {r : Nat} (h : lnn n cnt val wt r = r) (h0 : (pk n cnt val wt r).2 ≠ 0) : lnn n cnt val wt (r + 1) = r + 1 := by
  show (if lnn n cnt val wt r = r ∧ (pk n cnt val wt r).2 ≠ 0 then r + 1 else lnn n cnt val wt r) = r + 1
  rw [if_pos ⟨h, h0⟩]
/-- the list of best ends of state s, d places from the end: how many, and their values -/
def el (ar : Nat → Nat → Int) (c L : Nat) : Nat → Nat → Nat × (Nat → Nat)
  | 0, s => (if 0 < ce ar c s (L - 1) then 1 else 0, fun _ => ce ar c s (L - 1))
  | d + 1, s => (lnn (cn ar c) (fun t => (el ar c L d t).1) (fun t => (el ar c L d t).2) (fun t => cg ar c s t * ce ar c s (L - 1 - (d + 1))) 20, fun r => (pk (cn ar c) (fun t => (el ar c L d t).1) (fun t => (el ar c L d t).2) (fun t => cg ar c s t * ce ar c s (L - 1 - (d + 1))) r).2)
/-- the picks of that list, and what was taken before -/
def epk (ar : Nat → Nat → Int) (c L d s r : Nat) : Nat × Nat := pk (cn ar c) (fun t => (el ar c L d t).1) (fun t => (el ar c L d t).2) (fun t => cg ar c s t * ce ar c s (L - 1 - (d + 1))) r
def etk (ar : Nat → Nat → Int) (c L d s r : Nat) : Nat → Nat := tkn (cn ar c) (fun t => (el ar c L d t).1) (fun t => (el ar c L d t).2) (fun t => cg ar c s t * ce ar c s (L - 1 - (d + 1))) r
def eln (ar : Nat → Nat → Int) (c L d s K : Nat) : Nat := lnn (cn ar c) (fun t => (el ar c L d t).1) (fun t => (el ar c L d t).2) (fun t => cg ar c s t * ce ar c s (L - 1 - (d + 1))) K
theorem el_s1 {ar : Nat → Nat → Int} {c L d s : Nat} : (el ar c L (d + 1) s).1 = eln ar c L d s 20 := by rw [el, eln]
theorem el_s2 {ar : Nat → Nat → Int} {c L d s r : Nat} : (el ar c L (d + 1) s).2 r = (epk ar c L d s r).2 := by rw [el, epk]
theorem el_20 {ar : Nat → Nat → Int} {c L d s : Nat} : (el ar c L d s).1 ≤ 20 := by
  cases d with
  | zero => unfold el; show (if _ then 1 else 0) ≤ 20; split <;> decide
  | succ d => rw [el_s1]; unfold eln; exact lnn_le _
theorem el_pos {ar : Nat → Nat → Int} {c L d s r : Nat} (h : r < (el ar c L d s).1) : 0 < (el ar c L d s).2 r := by
  cases d with
  | zero =>
    have h : r < (if 0 < ce ar c s (L - 1) then 1 else 0) := h
    show 0 < ce ar c s (L - 1)
    split at h
    · assumption
    · omega
  | succ d =>
    rw [el_s1] at h
    rw [el_s2]
    unfold eln at h
    exact Nat.pos_of_ne_zero (lnn_pk h)
theorem el_le {ar : Nat → Nat → Int} {c L : Nat} (hR : rok ar c L) (d : Nat) : ∀ s r, d < L → s < 8 → r < (el ar c L d s).1 → (el ar c L d s).2 r ≤ 1000000 ^ (d + 1) := by
  have h8 := mch_n hR.1
  have ht := mch_t hR.1
  induction d with
  | zero =>
    intro s r hdL hs hr
    have := (rok_e hR hs (show L - 1 < L by omega)).2
    show ce ar c s (L - 1) ≤ 1000000 ^ 1
    rw [Nat.pow_one]
    omega
  | succ d ih =>
    intro s r hdL hs hr
    rw [el_s2]
    unfold epk pk
    apply mx_le
    intro t ht2
    unfold hd
    split
    · rename_i hlt
      have e1 := ih t _ (by omega) (by omega) hlt
      have e2 := (rok_e hR hs (show L - 1 - (d + 1) < L by omega)).2
      have e3 := (mch_g hR.1 hs (show t < 8 by omega)).2
      rw [Nat.pow_succ]
      refine Nat.mul_le_mul e1 ?_
      have : cg ar c s t * ce ar c s (L - 1 - (d + 1)) ≤ 1000 * 1000 := Nat.mul_le_mul e3 (by omega)
      exact this
    · exact Nat.zero_le _
/-- the list at place i, state s stands as it should -/
def okc (ar : Nat → Nat → Int) (c P : Nat) (ar1 : Nat → Nat → Int) (bz1 : Nat → Int) (i s : Nat) : Prop := ar1 15 (i * 8 + s) = ((el ar c P (P - 1 - i) s).1 : Nat) ∧ (∀ r, r < (el ar c P (P - 1 - i) s).1 → bz1 (1956 + 2 * ((i * 8 + s) * 20 + r)) = ((el ar c P (P - 1 - i) s).2 r : Nat)) ∧ (i + 1 < P → ∀ r, r < (el ar c P (P - 1 - i) s).1 → ar1 13 ((i * 8 + s) * 20 + r) = ((epk ar c P (P - 2 - i) s r).1 : Nat) ∧ ar1 14 ((i * 8 + s) * 20 + r) = (etk ar c P (P - 2 - i) s r (epk ar c P (P - 2 - i) s r).1 : Nat))
/-- only the list of cell a has changed -/
def dlt (ar0 : Nat → Nat → Int) (bz0 : Nat → Int) (ar1 : Nat → Nat → Int) (bz1 : Nat → Int) (a : Nat) : Prop := (∀ k, k < 13 ∨ 16 < k → ar1 k = ar0 k) ∧ (∀ x, x ≠ a → ar1 15 x = ar0 15 x) ∧ (∀ x, x < a * 20 ∨ a * 20 + 20 ≤ x → ar1 13 x = ar0 13 x ∧ ar1 14 x = ar0 14 x) ∧ (∀ o, o ≠ 24 → o ≠ 34 → o < 1956 + 2 * (a * 20) ∨ 1956 + 2 * (a * 20 + 20) ≤ o → bz1 o = bz0 o)
theorem dlt_ok {ar ar0 ar1 : Nat → Nat → Int} {bz0 bz1 : Nat → Int} {c P a i s : Nat} (h : dlt ar0 bz0 ar1 bz1 a) (hne : i * 8 + s ≠ a) (ho : okc ar c P ar0 bz0 i s) : okc ar c P ar1 bz1 i s := by
  obtain ⟨h1, h2, h3, h4⟩ := h
  obtain ⟨g1, g2, g3⟩ := ho
  have h20 := el_20 (ar := ar) (c := c) (L := P) (d := P - 1 - i) (s := s)
  refine ⟨by rw [h2 _ hne]; exact g1, fun r hr => ?_, fun hi r hr => ?_⟩
  · rw [h4 _ (by omega) (by omega) (by omega)]
    exact g2 r hr
  · rw [(h3 _ (by omega)).1, (h3 _ (by omega)).2]
    exact g3 hi r hr
theorem dlt_r {ar0 : Nat → Nat → Int} {bz0 : Nat → Int} {a : Nat} : dlt ar0 bz0 ar0 bz0 a := ⟨fun _ _ => rfl, fun _ _ => rfl, fun _ _ => ⟨rfl, rfl⟩, fun _ _ _ _ => rfl⟩
theorem dlt_15 {ar0 ar1 : Nat → Nat → Int} {bz0 bz1 : Nat → Int} {a : Nat} {x : Int} (h : dlt ar0 bz0 ar1 bz1 a) : dlt ar0 bz0 (va_up ar1 15 (va_up (ar1 15) a x)) bz1 a := ⟨fun k hk => by rw [va_up_ne _ _ (by omega)]; exact h.1 k hk, fun y hy => by rw [va_up_self, va_up_ne _ _ hy]; exact h.2.1 y hy, fun y hy => by rw [va_up_ne _ _ (by decide), va_up_ne _ _ (by decide)]; exact h.2.2.1 y hy, h.2.2.2⟩
theorem dlt_16 {ar0 ar1 : Nat → Nat → Int} {bz0 bz1 : Nat → Int} {a : Nat} {f : Nat → Int} (h : dlt ar0 bz0 ar1 bz1 a) : dlt ar0 bz0 (va_up ar1 16 f) bz1 a := ⟨fun k hk => by rw [va_up_ne _ _ (by omega)]; exact h.1 k hk, fun y hy => by rw [va_up_ne _ _ (by decide)]; exact h.2.1 y hy, fun y hy => by rw [va_up_ne _ _ (by decide), va_up_ne _ _ (by decide)]; exact h.2.2.1 y hy, h.2.2.2⟩
theorem dlt_13 {ar0 ar1 : Nat → Nat → Int} {bz0 bz1 : Nat → Int} {a r : Nat} {x : Int} (h : dlt ar0 bz0 ar1 bz1 a) (hr : a * 20 ≤ r ∧ r < a * 20 + 20) : dlt ar0 bz0 (va_up ar1 13 (va_up (ar1 13) r x)) bz1 a := ⟨fun k hk => by rw [va_up_ne _ _ (by omega)]; exact h.1 k hk, fun y hy => by rw [va_up_ne _ _ (by decide)]; exact h.2.1 y hy, fun y hy => by rw [va_up_self, va_up_ne _ _ (by omega), va_up_ne _ _ (by decide)]; exact h.2.2.1 y hy, h.2.2.2⟩
theorem dlt_14 {ar0 ar1 : Nat → Nat → Int} {bz0 bz1 : Nat → Int} {a r : Nat} {x : Int} (h : dlt ar0 bz0 ar1 bz1 a) (hr : a * 20 ≤ r ∧ r < a * 20 + 20) : dlt ar0 bz0 (va_up ar1 14 (va_up (ar1 14) r x)) bz1 a := ⟨fun k hk => by rw [va_up_ne _ _ (by omega)]; exact h.1 k hk, fun y hy => by rw [va_up_ne _ _ (by decide)]; exact h.2.1 y hy, fun y hy => by rw [va_up_ne _ _ (by decide), va_up_self, va_up_ne _ _ (by omega)]; exact h.2.2.1 y hy, h.2.2.2⟩
theorem dlt_b {ar0 ar1 : Nat → Nat → Int} {bz0 bz1 bz2 : Nat → Int} {a r : Nat} (h : dlt ar0 bz0 ar1 bz1 a) (hr : a * 20 ≤ r ∧ r < a * 20 + 20) (hb : ∀ o, o ≠ 24 → o ≠ 34 → o ≠ 1956 + 2 * r → bz2 o = bz1 o) : dlt ar0 bz0 ar1 bz2 a := ⟨h.1, h.2.1, h.2.2.1, fun o g1 g2 g3 => by rw [hb o g1 g2 (by omega)]; exact h.2.2.2 o g1 g2 g3⟩
theorem shx_eq {ar ar1 : Nat → Nat → Int} {c s i : Nat} (h : ∀ k, k ≤ 7 → ar1 k = ar k) : shx ar1 c s (ar1 7 i) = shx ar c s (ar 7 i) := by
  unfold shx
  rw [h 3 (by decide), h 6 (by decide), h 7 (by decide)]
theorem C8_workEnds {G : ze_G} {l : Launch} {w0 w : ze_W} {m C P F : Nat} {ar : Nat → Nat → Int} {bz : Nat → Int} (hM : mst G w0 w m C P F ar bz) {c : Nat} (hc : c < 6) (hR : rok ar c P) : ze_C G l 5 0 0 M8_workEnds [.ref m, ze_i (c : Nat)] w (ze_qv (fun w' => ∃ ar' bz', mst G w0 w' m C P F ar' bz' ∧ ((∀ k, k < 13 ∨ 16 < k → ar' k = ar k) ∧ (∀ o, o < 1956 → o ≠ 24 → o ≠ 34 → bz' o = bz o)) ∧ ∀ i s, i < P → s < cn ar c → okc ar c P ar' bz' i s)) := by
  obtain ⟨en, n1, n8⟩ := mch_n hR.1
  have hP := hR.2.2.1
  have hct := (mch_t hR.1).2.2
  refine ze_enter (by decide +kernel) rfl ?_
  generalize hQ : (ze_Q G (ze_qv (fun w' => ∃ ar' bz', mst G w0 w' m C P F ar' bz' ∧ ((∀ k, k < 13 ∨ 16 < k → ar' k = ar k) ∧ (∀ o, o < 1956 → o ≠ 24 → o ≠ 34 → bz' o = bz o)) ∧ ∀ i s, i < P → s < cn ar c → okc ar c P ar' bz' i s)) 0 0) = Z
  have outer : ∀ (j : Nat) (ar1 : Nat → Nat → Int) (bz1 : Nat → Int) (w1 : ze_W), j ≤ P → mst G w0 w1 m C P F ar1 bz1 → ((∀ k, k < 13 ∨ 16 < k → ar1 k = ar k) ∧ (∀ o, o < 1956 → o ≠ 24 → o ≠ 34 → bz1 o = bz o)) → (∀ i y, j ≤ i → i < P → y < cn ar c → okc ar c P ar1 bz1 i y) → ze_V G l (ze_rm 5 0 0) M8_workEnds Z 7 [(0, .ref m), (1, ze_i ((c : Nat))), (2, ze_i ((j : Nat) - 1))] [] w1 0 0 := by
    intro j
    induction j with
    | zero =>
      intro ar1 bz1 w1 hj hM1 hg hd
      rw [← hQ]
      refine ze_iload_n dX8_workEnds_7 rfl ?_
      refine ze_if_lt 188 dX8_workEnds_8 (by decide) (by omega) (fun q1 => ?_) (fun q1 => ?_)
      · exact ze_return rfl dX8_workEnds_188 ⟨rfl, ar1, bz1, hM1, hg, fun i s h1 h2 => hd i s (by omega) h1 h2⟩ rfl rfl
      · omega
    | succ j ih =>
      intro arX bzX wX hj hMX hgX hdX
      have mid : ∀ (d s : Nat) (ar1 : Nat → Nat → Int) (bz1 : Nat → Int) (w1 : ze_W), s + d = cn ar c → mst G w0 w1 m C P F ar1 bz1 → ((∀ k, k < 13 ∨ 16 < k → ar1 k = ar k) ∧ (∀ o, o < 1956 → o ≠ 24 → o ≠ 34 → bz1 o = bz o)) → (∀ i y, i < P → y < cn ar c → (j < i ∨ (i = j ∧ y < s)) → okc ar c P ar1 bz1 i y) → ze_V G l (ze_rm 5 0 0) M8_workEnds Z 13 [(0, .ref m), (1, ze_i ((c : Nat))), (2, ze_i ((j : Nat))), (3, ze_i ((s : Nat)))] [] w1 0 0 := by
        intro d
        induction d with
        | zero =>
          intro s ar1 bz1 w1 hs hM1 hg hd
          refine ze_iload_n dX8_workEnds_13 rfl ?_
          refine ze_aload_n dX8_workEnds_14 rfl ?_
          refine ze_getf dX8_workEnds_15 fl_X8_9 (ms_o hM1) rfl ?_
          refine ze_iload_n dX8_workEnds_18 rfl ?_
          refine ze_iald (j := c) dX8_workEnds_19 (show w1.2 (m + 1) = some (ze_ia G 6 (ar1 1)) from ms_i hM1 1 (by decide)) (by omega) (by omega) (by omega) ?_
          rw [show ar1 1 c = (cn ar c : Nat) by rw [hg.1 1 (by decide)]; exact en]
          refine ze_icmp_ge 182 dX8_workEnds_20 (by decide) (by omega) (by omega) (fun q1 => ?_) (fun q1 => ?_)
          · refine ze_iinc (b := (j : Nat) - 1) (lv' := [(0, .ref m), (1, ze_i ((c : Nat))), (2, ze_i ((j : Nat) - 1)), (3, ze_i ((s : Nat)))]) dX8_workEnds_182 rfl rfl (by omega) rfl ?_
            refine ze_goto 7 dX8_workEnds_185 (by decide) ?_
            refine ze_lv (lv' := [(0, .ref m), (1, ze_i ((c : Nat))), (2, ze_i ((j : Nat) - 1))]) [0, 1, 2] rfl ?_
            exact ih ar1 bz1 w1 (by omega) hM1 hg (fun i q h1 h2 h3 => hd i q h2 h3 (by omega))
          · omega
        | succ d ihm =>
          intro s ar0 bz0 w0' hs hM0 hg0 hd0
          have hs8 : s < 8 := by omega
          have hsn : s < cn ar c := by omega
          obtain ⟨ee, ee2⟩ := rok_e hR hs8 (show j < P by omega)
          obtain ⟨a, ha⟩ : ∃ a, a = j * 8 + s := ⟨_, rfl⟩
          have t176 : ∀ (ar2 : Nat → Nat → Int) (bz2 : Nat → Int) (w2 : ze_W), mst G w0 w2 m C P F ar2 bz2 → dlt ar0 bz0 ar2 bz2 a → okc ar c P ar2 bz2 j s → ze_V G l (ze_rm 5 0 0) M8_workEnds Z 176 [(0, .ref m), (1, ze_i ((c : Nat))), (2, ze_i ((j : Nat))), (3, ze_i ((s : Nat))), (4, ze_i ((a : Nat))), (5, ze_i ((ce ar c s j : Nat)))] [] w2 0 0 := by
            intro ar2 bz2 w2 hM2 hdl hok
            refine ze_iinc (b := ((s + 1 : Nat))) (lv' := [(0, .ref m), (1, ze_i ((c : Nat))), (2, ze_i ((j : Nat))), (3, ze_i (((s + 1 : Nat)))), (4, ze_i ((a : Nat))), (5, ze_i ((ce ar c s j : Nat)))]) dX8_workEnds_176 rfl rfl (by omega) rfl ?_
            refine ze_goto 13 dX8_workEnds_179 (by decide) ?_
            refine ze_lv (lv' := [(0, .ref m), (1, ze_i ((c : Nat))), (2, ze_i ((j : Nat))), (3, ze_i (((s + 1 : Nat))))]) [0, 1, 2, 3] rfl ?_
            refine ihm (s + 1) ar2 bz2 w2 (by omega) hM2 ⟨fun k hk => by rw [hdl.1 k hk]; exact hg0.1 k hk, fun o h1 h2 h3 => by rw [hdl.2.2.2 o h2 h3 (by omega)]; exact hg0.2 o h1 h2 h3⟩ (fun i y h1 h2 h3 => ?_)
            by_cases e : i = j ∧ y = s
            · rw [e.1, e.2]; exact hok
            · exact dlt_ok hdl (by omega) (hd0 i y h1 h2 (by omega))
          have take : j + 1 < P → ∀ (e r : Nat) (ar2 : Nat → Nat → Int) (bz2 : Nat → Int) (w2 : ze_W), r + e = 20 → mst G w0 w2 m C P F ar2 bz2 → dlt ar0 bz0 ar2 bz2 a → ar2 15 a = (r : Nat) → (∀ t, t < cn ar c → ar2 16 t = (etk ar c P (P - 2 - j) s r t : Nat)) → eln ar c P (P - 2 - j) s r = r → (∀ q, q < r → bz2 (1956 + 2 * (a * 20 + q)) = ((epk ar c P (P - 2 - j) s q).2 : Nat) ∧ ar2 13 (a * 20 + q) = ((epk ar c P (P - 2 - j) s q).1 : Nat) ∧ ar2 14 (a * 20 + q) = (etk ar c P (P - 2 - j) s q (epk ar c P (P - 2 - j) s q).1 : Nat)) → ze_V G l (ze_rm 5 0 0) M8_workEnds Z 138 [(0, .ref m), (1, ze_i ((c : Nat))), (2, ze_i ((j : Nat))), (3, ze_i ((s : Nat))), (4, ze_i ((a : Nat))), (5, ze_i ((ce ar c s j : Nat)))] [] w2 0 0 := by
            intro hjP e
            have ed : P - 1 - j = (P - 2 - j) + 1 := by omega
            have fin : ∀ (r : Nat) (ar2 : Nat → Nat → Int) (bz2 : Nat → Int), eln ar c P (P - 2 - j) s 20 = r → ar2 15 a = (r : Nat) → (∀ q, q < r → bz2 (1956 + 2 * (a * 20 + q)) = ((epk ar c P (P - 2 - j) s q).2 : Nat) ∧ ar2 13 (a * 20 + q) = ((epk ar c P (P - 2 - j) s q).1 : Nat) ∧ ar2 14 (a * 20 + q) = (etk ar c P (P - 2 - j) s q (epk ar c P (P - 2 - j) s q).1 : Nat)) → okc ar c P ar2 bz2 j s := by
              intro r ar2 bz2 h1 h2 h3
              have e1 : (el ar c P (P - 1 - j) s).1 = r := by rw [ed, el_s1, h1]
              refine ⟨by rw [← ha, h2, e1], fun q hq => ?_, fun _ q hq => ?_⟩
              · rw [← ha, (h3 q (by omega)).1, ed, el_s2]
              · rw [← ha]
                exact (h3 q (by omega)).2
            induction e with
            | zero =>
              intro r ar2 bz2 w2 hr hM2 hdl h15 h16 hln hq
              have hr20 : r = 20 := by omega
              refine ze_aload_n dX8_workEnds_138 rfl ?_
              refine ze_getf dX8_workEnds_139 fl_X8_56 (ms_o hM2) rfl ?_
              refine ze_iload dX8_workEnds_142 rfl ?_
              refine ze_iald (j := a) dX8_workEnds_144 (show w2.2 (m + 15) = some (ze_ia G 480 (ar2 15)) from ms_i hM2 15 (by decide)) (by omega) (by omega) (by omega) ?_
              rw [h15]
              refine ze_bipush dX8_workEnds_145 (by decide) ?_
              refine ze_icmp_ge 176 dX8_workEnds_147 (by decide) (by omega) (by omega) (fun q1 => ?_) (fun q1 => ?_)
              · exact t176 ar2 bz2 w2 hM2 hdl (fin r ar2 bz2 (by rw [← hln, hr20]) h15 hq)
              · omega
            | succ e ihe =>
              intro r ar2 bz2 w2 hr hM2 hdl h15 h16 hln hq
              have hgk : ∀ k, k ≤ 7 → ar2 k = ar k := fun k hk => by rw [hdl.1 k (by omega)]; exact hg0.1 k (by omega)
              refine ze_aload_n dX8_workEnds_138 rfl ?_
              refine ze_getf dX8_workEnds_139 fl_X8_56 (ms_o hM2) rfl ?_
              refine ze_iload dX8_workEnds_142 rfl ?_
              refine ze_iald (j := a) dX8_workEnds_144 (show w2.2 (m + 15) = some (ze_ia G 480 (ar2 15)) from ms_i hM2 15 (by decide)) (by omega) (by omega) (by omega) ?_
              rw [h15]
              refine ze_bipush dX8_workEnds_145 (by decide) ?_
              refine ze_icmp_ge 176 dX8_workEnds_147 (by decide) (by omega) (by omega) (fun q1 => ?_) (fun q1 => ?_)
              · omega
              · refine ze_aload_n dX8_workEnds_150 rfl ?_
                refine ze_iload_n dX8_workEnds_151 rfl ?_
                refine ze_iload_n dX8_workEnds_152 rfl ?_
                refine ze_iload_n dX8_workEnds_153 rfl ?_
                refine ze_iload dX8_workEnds_154 rfl ?_
                refine ze_callV (As := [ze_i ((c : Nat)), ze_i ((j : Nat)), ze_i ((s : Nat)), ze_i ((ce ar c s j : Nat))]) (rest := []) dX8_workEnds_156 (C8_takeEnd hM2 (ar := ar) (c := c) (i := j) (s := s) (sh := ce ar c s j) (r := r) (B0 := (P - 2 - j) + 1) (cnt := (fun t => (el ar c P (P - 2 - j) t).1)) (val := (fun t => (el ar c P (P - 2 - j) t).2)) (tk := etk ar c P (P - 2 - j) s r) hc hR.1 hgk (by omega) hs8 (by omega) (by omega) (by rw [← ha]; exact h15) (fun t ht => ⟨by have := (dlt_ok hdl (by omega) (hd0 (j + 1) t (by omega) ht (by omega))).1; rw [show P - 1 - (j + 1) = (P - 2 - j) by omega] at this; exact this, el_20⟩) (fun t q ht hq2 => ⟨by have := (dlt_ok hdl (by omega) (hd0 (j + 1) t (by omega) ht (by omega))).2.1; rw [show P - 1 - (j + 1) = (P - 2 - j) by omega] at this; exact this q hq2, el_pos hq2, el_le hR _ _ _ (by omega) (by omega) hq2⟩) (by omega) (fun t ht => ⟨h16 t ht, Nat.le_trans (tkn_le r t) (by omega)⟩)) mo8_takeEnd ml_X8_182 in_8_takeEnd se_8_takeEnd (ms_o hM2) rfl rfl rfl rfl rfl ⟨Nat.le_refl _, Nat.le_refl _⟩ rfl (Nat.le_of_ble_eq_true rfl) ?_
                rintro _ w3 ⟨rr, rfl, ar3, bz3, hM3, hf3, hres⟩
                have epkd : mx (hd (fun t => (el ar c P (P - 2 - j) t).1) (fun t => (el ar c P (P - 2 - j) t).2) (fun t => cg ar c s t * ce ar c s j) (etk ar c P (P - 2 - j) s r)) (cn ar c) = epk ar c P (P - 2 - j) s r := by
                  unfold epk pk etk
                  rw [show P - 1 - ((P - 2 - j) + 1) = j by omega]
                rw [epkd, ← ha] at hres
                rw [← ha] at hf3
                have hrr : -2147483648 ≤ rr ∧ rr < 2147483648 := by rcases hres with ⟨-, h, -⟩ | ⟨-, h, -⟩ <;> omega
                change ze_V G l (ze_rm 5 0 0) M8_workEnds _ 159 [(0, .ref m), (1, ze_i ((c : Nat))), (2, ze_i ((j : Nat))), (3, ze_i ((s : Nat))), (4, ze_i ((a : Nat))), (5, ze_i ((ce ar c s j : Nat)))] [ze_i (rr)] w3 0 0
                refine ze_if_eq 176 dX8_workEnds_159 (by decide) hrr (fun q2 => ?_) (fun q2 => ?_)
                · rcases hres with ⟨-, h, -⟩ | ⟨hz, -, har⟩
                  · omega
                  · subst har
                    exact t176 _ bz3 w3 hM3 (dlt_b hdl (by omega) hf3) (fin r _ bz3 (by have := lnn_stop hln hz (20 - r); rw [show r + (20 - r) = 20 by omega] at this; exact this) h15 (fun q h => by rw [hf3 _ (by omega) (by omega) (by omega)]; exact hq q h))
                · rcases hres with ⟨hnz, -, hbv, har⟩ | ⟨-, h, -⟩
                  case inr => omega
                  have hdl3 : dlt ar0 bz0 ar3 bz3 a := by
                    rw [har]
                    have h1 := dlt_13 (r := a * 20 + r) (x := ((epk ar c P (P - 2 - j) s r).1 : Nat)) (dlt_b hdl (by omega) hf3) (by omega)
                    have h2 := dlt_14 (r := a * 20 + r) (x := (etk ar c P (P - 2 - j) s r (epk ar c P (P - 2 - j) s r).1 : Nat)) h1 (by omega)
                    exact dlt_16 h2
                  have e15 : ar3 15 = ar2 15 := by rw [har, va_up_ne _ _ (by decide), va_up_ne _ _ (by decide), va_up_ne _ _ (by decide)]
                  refine ze_aload_n dX8_workEnds_162 rfl ?_
                  refine ze_getf dX8_workEnds_163 fl_X8_56 (ms_o hM3) rfl ?_
                  refine ze_iload dX8_workEnds_166 rfl ?_
                  refine ze_dup2 dX8_workEnds_168 rfl rfl ?_
                  refine ze_iald (j := a) dX8_workEnds_169 (show w3.2 (m + 15) = some (ze_ia G 480 (ar3 15)) from ms_i hM3 15 (by decide)) (by omega) (by omega) (by omega) ?_
                  rw [e15, h15]
                  refine ze_iconst dX8_workEnds_170 ?_
                  refine ze_iadd dX8_workEnds_171 ?_
                  refine ze_ti (b := ((r + 1 : Nat))) (by omega) ?_
                  refine ze_iastW (j := a) (f' := va_up (ar3 15) a (((r + 1 : Nat) : Int))) dX8_workEnds_172 (show w3.2 (m + 15) = some (ze_ia G 480 (ar3 15)) from ms_i hM3 15 (by decide)) (by omega) (by omega) (by omega) rfl (fun w3 z3 c3 o3 => ?_)
                  have hM3 := ms_wi hM3 15 (by decide) z3 c3 o3
                  refine ze_goto 138 dX8_workEnds_173 (by decide) ?_
                  refine ihe (r + 1) _ bz3 _ (by omega) hM3 (dlt_15 hdl3) (by rw [va_up_self, va_up_self]) (fun t ht => ?_) (lnn_go hln hnz) (fun q h => ?_)
                  · rw [va_up_ne _ _ (by decide), har, va_up_self]
                    show va_up (ar2 16) (epk ar c P (P - 2 - j) s r).1 _ t = ((if (epk ar c P (P - 2 - j) s r).2 = 0 then etk ar c P (P - 2 - j) s r t else va_up (etk ar c P (P - 2 - j) s r) (epk ar c P (P - 2 - j) s r).1 (etk ar c P (P - 2 - j) s r (epk ar c P (P - 2 - j) s r).1 + 1) t : Nat) : Int)
                    rw [if_neg hnz]
                    by_cases e : t = (epk ar c P (P - 2 - j) s r).1
                    · rw [e, va_up_self, va_up_self]
                    · rw [va_up_ne _ _ e, va_up_ne _ _ e]
                      exact h16 t ht
                  · rw [va_up_ne _ _ (by decide), va_up_ne _ _ (by decide), har]
                    by_cases e : q = r
                    · rw [e, hbv]
                      refine ⟨rfl, ?_, ?_⟩
                      · rw [va_up_ne _ _ (by decide), va_up_ne _ _ (by decide), va_up_self, va_up_self]
                      · rw [va_up_ne _ _ (by decide), va_up_self, va_up_self]
                    · have hq3 := hq q (by omega)
                      refine ⟨by rw [hf3 _ (by omega) (by omega) (by omega)]; exact hq3.1, ?_, ?_⟩
                      · rw [va_up_ne _ _ (by decide), va_up_ne _ _ (by decide), va_up_self, va_up_ne _ _ (by omega)]
                        exact hq3.2.1
                      · rw [va_up_ne _ _ (by decide), va_up_self, va_up_ne _ _ (by omega)]
                        exact hq3.2.2
          have zero : j + 1 < P → ∀ (e t : Nat) (ar2 : Nat → Nat → Int) (w2 : ze_W), t + e = cn ar c → mst G w0 w2 m C P F ar2 bz0 → dlt ar0 bz0 ar2 bz0 a → ar2 15 a = ((0 : Nat) : Nat) → (∀ q, q < t → ar2 16 q = ((0 : Nat) : Nat)) → ze_V G l (ze_rm 5 0 0) M8_workEnds Z 113 [(0, .ref m), (1, ze_i ((c : Nat))), (2, ze_i ((j : Nat))), (3, ze_i ((s : Nat))), (4, ze_i ((a : Nat))), (5, ze_i ((ce ar c s j : Nat))), (6, ze_i ((t : Nat)))] [] w2 0 0 := by
            intro hjP e
            induction e with
            | zero =>
              intro t ar2 w2 ht hM2 hdl h15 h16
              have hgk : ∀ k, k ≤ 7 → ar2 k = ar k := fun k hk => by rw [hdl.1 k (by omega)]; exact hg0.1 k (by omega)
              refine ze_iload dX8_workEnds_113 rfl ?_
              refine ze_aload_n dX8_workEnds_115 rfl ?_
              refine ze_getf dX8_workEnds_116 fl_X8_9 (ms_o hM2) rfl ?_
              refine ze_iload_n dX8_workEnds_119 rfl ?_
              refine ze_iald (j := c) dX8_workEnds_120 (show w2.2 (m + 1) = some (ze_ia G 6 (ar2 1)) from ms_i hM2 1 (by decide)) (by omega) (by omega) (by omega) ?_
              rw [show ar2 1 c = (cn ar c : Nat) by rw [hgk 1 (by decide)]; exact en]
              refine ze_icmp_ge 138 dX8_workEnds_121 (by decide) (by omega) (by omega) (fun q1 => ?_) (fun q1 => ?_)
              · refine ze_lv (lv' := [(0, .ref m), (1, ze_i ((c : Nat))), (2, ze_i ((j : Nat))), (3, ze_i ((s : Nat))), (4, ze_i ((a : Nat))), (5, ze_i ((ce ar c s j : Nat)))]) [0, 1, 2, 3, 4, 5] rfl ?_
                exact take hjP 20 0 ar2 bz0 w2 (by omega) hM2 hdl h15 (fun q hq => h16 q (by omega)) rfl (fun q hq => absurd hq (Nat.not_lt_zero _))
              · omega
            | succ e ihe =>
              intro t ar2 w2 ht hM2 hdl h15 h16
              have hgk : ∀ k, k ≤ 7 → ar2 k = ar k := fun k hk => by rw [hdl.1 k (by omega)]; exact hg0.1 k (by omega)
              refine ze_iload dX8_workEnds_113 rfl ?_
              refine ze_aload_n dX8_workEnds_115 rfl ?_
              refine ze_getf dX8_workEnds_116 fl_X8_9 (ms_o hM2) rfl ?_
              refine ze_iload_n dX8_workEnds_119 rfl ?_
              refine ze_iald (j := c) dX8_workEnds_120 (show w2.2 (m + 1) = some (ze_ia G 6 (ar2 1)) from ms_i hM2 1 (by decide)) (by omega) (by omega) (by omega) ?_
              rw [show ar2 1 c = (cn ar c : Nat) by rw [hgk 1 (by decide)]; exact en]
              refine ze_icmp_ge 138 dX8_workEnds_121 (by decide) (by omega) (by omega) (fun q1 => ?_) (fun q1 => ?_)
              · omega
              · refine ze_aload_n dX8_workEnds_124 rfl ?_
                refine ze_getf dX8_workEnds_125 fl_X8_59 (ms_o hM2) rfl ?_
                refine ze_iload dX8_workEnds_128 rfl ?_
                refine ze_iconst dX8_workEnds_130 ?_
                refine ze_iastW (j := t) (f' := va_up (ar2 16) t (0)) dX8_workEnds_131 (show w2.2 (m + 16) = some (ze_ia G 8 (ar2 16)) from ms_i hM2 16 (by decide)) (by omega) (by omega) (by omega) rfl (fun w2 z2 c2 o2 => ?_)
                have hM2 := ms_wi hM2 16 (by decide) z2 c2 o2
                refine ze_iinc (b := ((t + 1 : Nat))) (lv' := [(0, .ref m), (1, ze_i ((c : Nat))), (2, ze_i ((j : Nat))), (3, ze_i ((s : Nat))), (4, ze_i ((a : Nat))), (5, ze_i ((ce ar c s j : Nat))), (6, ze_i (((t + 1 : Nat))))]) dX8_workEnds_132 rfl rfl (by omega) rfl ?_
                refine ze_goto 113 dX8_workEnds_135 (by decide) ?_
                exact ihe (t + 1) _ _ (by omega) hM2 (dlt_16 hdl) (by rw [va_up_ne _ _ (by decide)]; exact h15) (fun q hq => by
                  rw [va_up_self]
                  by_cases e : q = t
                  · rw [e, va_up_self]; rfl
                  · rw [va_up_ne _ _ e]; exact h16 q (by omega))
          have hgk : ∀ k, k ≤ 7 → ar0 k = ar k := fun k hk => hg0.1 k (by omega)
          refine ze_iload_n dX8_workEnds_13 rfl ?_
          refine ze_aload_n dX8_workEnds_14 rfl ?_
          refine ze_getf dX8_workEnds_15 fl_X8_9 (ms_o hM0) rfl ?_
          refine ze_iload_n dX8_workEnds_18 rfl ?_
          refine ze_iald (j := c) dX8_workEnds_19 (show w0'.2 (m + 1) = some (ze_ia G 6 (ar0 1)) from ms_i hM0 1 (by decide)) (by omega) (by omega) (by omega) ?_
          rw [show ar0 1 c = (cn ar c : Nat) by rw [hg0.1 1 (by decide)]; exact en]
          refine ze_icmp_ge 182 dX8_workEnds_20 (by decide) (by omega) (by omega) (fun q1 => ?_) (fun q1 => ?_)
          · omega
          · refine ze_iload_n dX8_workEnds_23 rfl ?_
            refine ze_bipush dX8_workEnds_24 (by decide) ?_
            refine ze_imul dX8_workEnds_26 ?_
            refine ze_iload_n dX8_workEnds_27 rfl ?_
            refine ze_iadd dX8_workEnds_28 ?_
            refine ze_ti (b := (a : Nat)) (by omega) ?_
            refine ze_istore (lv' := [(0, .ref m), (1, ze_i ((c : Nat))), (2, ze_i ((j : Nat))), (3, ze_i ((s : Nat))), (4, ze_i ((a : Nat)))]) dX8_workEnds_29 rfl rfl ?_
            refine ze_aload_n dX8_workEnds_31 rfl ?_
            refine ze_iload_n dX8_workEnds_32 rfl ?_
            refine ze_iload_n dX8_workEnds_33 rfl ?_
            refine ze_aload_n dX8_workEnds_34 rfl ?_
            refine ze_getf dX8_workEnds_35 fl_X8_28 (ms_o hM0) rfl ?_
            refine ze_iload_n dX8_workEnds_38 rfl ?_
            refine ze_iald (j := j) dX8_workEnds_39 (show w0'.2 (m + 7) = some (ze_ia G 60 (ar0 7)) from ms_i hM0 7 (by decide)) (by omega) (by omega) (by omega) ?_
            have hr7 : -1 ≤ ar0 7 j ∧ ar0 7 j < 6 := by rw [hgk 7 (by decide)]; exact rok_r hR (by omega)
            refine ze_callV (As := [ze_i ((c : Nat)), ze_i ((s : Nat)), ze_i (ar0 7 j)]) (rest := []) dX8_workEnds_40 (C8_showOf hM0 (c := c) (s := s) (x := ar0 7 j) hc hs8 hr7) mo8_showOf ml_X8_120 in_8_showOf se_8_showOf (ms_o hM0) rfl rfl rfl rfl rfl ⟨Nat.le_refl _, Nat.le_refl _⟩ rfl (Nat.le_of_ble_eq_true rfl) ?_
            rintro _ w' ⟨r2, rfl, rfl, rfl⟩
            change ze_V G l (ze_rm 5 0 0) M8_workEnds _ 43 [(0, .ref m), (1, ze_i ((c : Nat))), (2, ze_i ((j : Nat))), (3, ze_i ((s : Nat))), (4, ze_i ((a : Nat)))] [ze_i (shx ar0 c s (ar0 7 j))] w' 0 0
            rw [shx_eq hgk, ee]
            refine ze_istore (lv' := [(0, .ref m), (1, ze_i ((c : Nat))), (2, ze_i ((j : Nat))), (3, ze_i ((s : Nat))), (4, ze_i ((a : Nat))), (5, ze_i ((ce ar c s j : Nat)))]) dX8_workEnds_43 rfl rfl ?_
            refine ze_aload_n dX8_workEnds_45 rfl ?_
            refine ze_getf dX8_workEnds_46 fl_X8_56 (ms_o hM0) rfl ?_
            refine ze_iload dX8_workEnds_49 rfl ?_
            refine ze_iconst dX8_workEnds_51 ?_
            refine ze_iastW (j := a) (f' := va_up (ar0 15) a (0)) dX8_workEnds_52 (show w'.2 (m + 15) = some (ze_ia G 480 (ar0 15)) from ms_i hM0 15 (by decide)) (by omega) (by omega) (by omega) rfl (fun w3 z3 c3 o3 => ?_)
            have hM3 := ms_wi hM0 15 (by decide) z3 c3 o3
            refine ze_iload_n dX8_workEnds_53 rfl ?_
            refine ze_aload_n dX8_workEnds_54 rfl ?_
            refine ze_getf dX8_workEnds_55 fl_X8_126 (ms_o hM3) rfl ?_
            refine ze_iconst dX8_workEnds_58 ?_
            refine ze_isub dX8_workEnds_59 ?_
            refine ze_icmp_ne 110 dX8_workEnds_60 (by decide) (by omega) (by omega) (fun q4 => ?_) (fun q4 => ?_)
            · refine ze_iconst dX8_workEnds_110 ?_
              refine ze_ti (b := ((0 : Nat) : Nat)) rfl ?_
              refine ze_istore (lv' := [(0, .ref m), (1, ze_i ((c : Nat))), (2, ze_i ((j : Nat))), (3, ze_i ((s : Nat))), (4, ze_i ((a : Nat))), (5, ze_i ((ce ar c s j : Nat))), (6, ze_i (((0 : Nat) : Nat)))]) dX8_workEnds_111 rfl rfl ?_
              exact zero (by omega) (cn ar c) 0 _ _ (by omega) hM3 (dlt_15 dlt_r) (by rw [va_up_self, va_up_self]; rfl) (fun q hq => absurd hq (Nat.not_lt_zero _))
            · have hjP : j = P - 1 := by omega
              have hd0' : P - 1 - j = 0 := by omega
              refine ze_aload_n dX8_workEnds_63 rfl ?_
              refine ze_getf dX8_workEnds_64 fl_X8_47 (ms_o hM3) rfl ?_
              refine ze_iload dX8_workEnds_67 rfl ?_
              refine ze_bipush dX8_workEnds_69 (by decide) ?_
              refine ze_imul dX8_workEnds_71 ?_
              refine ze_aald (j := a * 20) (b := (m + (1956 + 2 * (a * 20)))) dX8_workEnds_72 (show w3.2 (m + 12) = some (ze_ra G 4 9600 (fun j => some (m + mro 12 j))) from ms_r hM3 12 (by decide)) rfl (by omega) (by omega) (by omega) rfl ?_
              refine ze_iload dX8_workEnds_73 rfl ?_
              refine ze_i2l dX8_workEnds_75 (by omega) ?_
              refine ze_callV (As := [ze_l ((ce ar c s j : Nat))]) (rest := []) dX8_workEnds_76 (E7_of hM3 (o1 := 1956 + 2 * (a * 20)) (v := ((ce ar c s j : Nat) : Int)) (mc_12 (by omega)) (by omega)) mo7_of ml_X8_132 in_7_of se_7_of (ms_bx hM3 (mc_12 (by omega))).choose_spec rfl rfl rfl rfl rfl ⟨Nat.le_refl _, Nat.le_refl _⟩ rfl (Nat.le_of_ble_eq_true rfl) ?_
              rintro _ w5 ⟨rfl, hM5⟩
              change ze_V G l (ze_rm 5 0 0) M8_workEnds _ 79 [(0, .ref m), (1, ze_i ((c : Nat))), (2, ze_i ((j : Nat))), (3, ze_i ((s : Nat))), (4, ze_i ((a : Nat))), (5, ze_i ((ce ar c s j : Nat)))] [] w5 0 0
              refine ze_aload_n dX8_workEnds_79 rfl ?_
              refine ze_getf dX8_workEnds_80 fl_X8_50 (ms_o hM5) rfl ?_
              refine ze_iload dX8_workEnds_83 rfl ?_
              refine ze_bipush dX8_workEnds_85 (by decide) ?_
              refine ze_imul dX8_workEnds_87 ?_
              refine ze_iconst dX8_workEnds_88 ?_
              refine ze_iastW (j := a * 20) (f' := va_up ((va_up ar0 15 (va_up (ar0 15) a (0))) 13) (a * 20) (-1)) dX8_workEnds_89 (show w5.2 (m + 13) = some (ze_ia G 9600 ((va_up ar0 15 (va_up (ar0 15) a (0))) 13)) from ms_i hM5 13 (by decide)) (by omega) (by omega) (by omega) rfl (fun w6 z6 c6 o6 => ?_)
              have hM6 := ms_wi hM5 13 (by decide) z6 c6 o6
              refine ze_aload_n dX8_workEnds_90 rfl ?_
              refine ze_getf dX8_workEnds_91 fl_X8_56 (ms_o hM6) rfl ?_
              refine ze_iload dX8_workEnds_94 rfl ?_
              refine ze_iload dX8_workEnds_96 rfl ?_
              refine ze_if_le 105 dX8_workEnds_98 (by decide) (by omega) (fun q5 => ?_) (fun q5 => ?_)
              · refine ze_iconst dX8_workEnds_105 ?_
                refine ze_iastW (j := a) (f' := va_up ((va_up (va_up ar0 15 (va_up (ar0 15) a (0))) 13 (va_up ((va_up ar0 15 (va_up (ar0 15) a (0))) 13) (a * 20) (-1))) 15) a (0)) dX8_workEnds_106 (show w6.2 (m + 15) = some (ze_ia G 480 ((va_up (va_up ar0 15 (va_up (ar0 15) a (0))) 13 (va_up ((va_up ar0 15 (va_up (ar0 15) a (0))) 13) (a * 20) (-1))) 15)) from ms_i hM6 15 (by decide)) (by omega) (by omega) (by omega) rfl (fun w21 z21 c21 o21 => ?_)
                have hM21 := ms_wi hM6 15 (by decide) z21 c21 o21
                refine ze_goto 176 dX8_workEnds_107 (by decide) ?_
                refine t176 _ _ _ hM21 ?_ ⟨?_, fun r hr => ?_, fun h => by omega⟩
                · exact dlt_15 (dlt_13 (r := a * 20) (dlt_b (r := a * 20) (dlt_15 dlt_r) (by omega) (fun o g1 g2 g3 => va_up_ne _ _ g3)) (by omega))
                · rw [← ha, va_up_self, va_up_self, hd0']
                  show (0 : Int) = ((if 0 < ce ar c s (P - 1) then 1 else 0 : Nat) : Int)
                  rw [← hjP, if_neg (by omega)]
                  rfl
                · have hr0 : r = 0 := by
                    rw [hd0'] at hr
                    have hr : r < (if 0 < ce ar c s (P - 1) then 1 else 0) := hr
                    split at hr <;> omega
                  rw [hr0, ← ha, hd0']
                  show va_up bz0 _ _ (1956 + 2 * (a * 20 + 0)) = ((ce ar c s (P - 1) : Nat) : Int)
                  rw [Nat.add_zero, va_up_self, hjP]
              · refine ze_iconst dX8_workEnds_101 ?_
                refine ze_goto 106 dX8_workEnds_102 (by decide) ?_
                refine ze_iastW (j := a) (f' := va_up ((va_up (va_up ar0 15 (va_up (ar0 15) a (0))) 13 (va_up ((va_up ar0 15 (va_up (ar0 15) a (0))) 13) (a * 20) (-1))) 15) a (1)) dX8_workEnds_106 (show w6.2 (m + 15) = some (ze_ia G 480 ((va_up (va_up ar0 15 (va_up (ar0 15) a (0))) 13 (va_up ((va_up ar0 15 (va_up (ar0 15) a (0))) 13) (a * 20) (-1))) 15)) from ms_i hM6 15 (by decide)) (by omega) (by omega) (by omega) rfl (fun w21 z21 c21 o21 => ?_)
                have hM21 := ms_wi hM6 15 (by decide) z21 c21 o21
                refine ze_goto 176 dX8_workEnds_107 (by decide) ?_
                refine t176 _ _ _ hM21 ?_ ⟨?_, fun r hr => ?_, fun h => by omega⟩
                · exact dlt_15 (dlt_13 (r := a * 20) (dlt_b (r := a * 20) (dlt_15 dlt_r) (by omega) (fun o g1 g2 g3 => va_up_ne _ _ g3)) (by omega))
                · rw [← ha, va_up_self, va_up_self, hd0']
                  show (1 : Int) = ((if 0 < ce ar c s (P - 1) then 1 else 0 : Nat) : Int)
                  rw [← hjP, if_pos (by omega)]
                  rfl
                · have hr0 : r = 0 := by
                    rw [hd0'] at hr
                    have hr : r < (if 0 < ce ar c s (P - 1) then 1 else 0) := hr
                    split at hr <;> omega
                  rw [hr0, ← ha, hd0']
                  show va_up bz0 _ _ (1956 + 2 * (a * 20 + 0)) = ((ce ar c s (P - 1) : Nat) : Int)
                  rw [Nat.add_zero, va_up_self, hjP]
      rw [show ((j + 1 : Nat) : Int) - 1 = (j : Nat) by omega]
      change ze_V G l (ze_rm 5 0 0) M8_workEnds Z 7 [(0, .ref m), (1, ze_i ((c : Nat))), (2, ze_i ((j : Nat)))] [] wX 0 0
      refine ze_iload_n dX8_workEnds_7 rfl ?_
      refine ze_if_lt 188 dX8_workEnds_8 (by decide) (by omega) (fun q1 => ?_) (fun q1 => ?_)
      · omega
      · refine ze_iconst dX8_workEnds_11 ?_
        refine ze_ti (b := ((0 : Nat) : Nat)) rfl ?_
        refine ze_istore_n (lv' := [(0, .ref m), (1, ze_i ((c : Nat))), (2, ze_i ((j : Nat))), (3, ze_i (((0 : Nat) : Nat)))]) dX8_workEnds_12 rfl rfl ?_
        exact mid (cn ar c) 0 arX bzX _ (by omega) hMX hgX (fun i q h1 h2 h3 => hdX i q (by omega) h1 h2)
  change ze_V G l (ze_rm 5 0 0) M8_workEnds Z 0 [(0, .ref m), (1, ze_i ((c : Nat)))] [] w 0 0
  refine ze_aload_n dX8_workEnds_0 rfl ?_
  refine ze_getf dX8_workEnds_1 fl_X8_126 (ms_o hM) rfl ?_
  refine ze_iconst dX8_workEnds_4 ?_
  refine ze_isub dX8_workEnds_5 ?_
  refine ze_istore_n (lv' := [(0, .ref m), (1, ze_i ((c : Nat))), (2, ze_i ((P : Nat) - 1))]) dX8_workEnds_6 rfl rfl ?_
  exact outer P ar bz w (Nat.le_refl _) hM ⟨fun _ _ => rfl, fun _ _ _ _ => rfl⟩ (fun i s h1 h2 => by omega)
