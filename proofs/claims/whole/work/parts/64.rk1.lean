/-! Ranking: its picture -/
def rwk (k i : Nat) : Prop := (k < 2 ∧ i < 160) ∨ (k = 2 ∧ i < 8)
def rfl8 (R a b : Nat) : List Value := [.ref (R + 1 + 322 * a), .ref (R + 322 + 322 * a), .ref (R + 1 + 322 * b), .ref (R + 322 + 322 * b), .ref (R + 645), .ref (R + 662), .ref (R + 663), .ref (R + 664)]
/-- the ranking lies at R, 665 cells; nothing outside of it has changed since w0 -/
def rst (G : ze_G) (w0 w : ze_W) (R a b : Nat) (cv : Nat → Nat → Nat) (hr wt lk : Nat → Nat) (v : Nat → Nat → Nat) : Prop := (w.1 = w0.1 ∧ ∀ u, u < R ∨ R + 665 ≤ u → w.2 u = w0.2 u) ∧ a + b = 1 ∧ w.2 R = some (ze_ob 1 (rfl8 R a b)) ∧ (∀ k, k < 2 → w.2 (R + 1 + 322 * k) = some (ze_ra G 2 160 (fun i => some (R + 2 + 322 * k + 2 * i)))) ∧ w.2 (R + 645) = some (ze_ra G 2 8 (fun i => some (R + 2 + 322 * 2 + 2 * i))) ∧ (∀ k, k < 2 → w.2 (R + 322 + 322 * k) = some (ze_ia G 8 (fun j => ((cv k j : Nat) : Int)))) ∧ w.2 (R + 662) = some (ze_ia G 8 (fun j => ((hr j : Nat) : Int))) ∧ w.2 (R + 663) = some (ze_la G 8 (fun j => ((wt j : Nat) : Int))) ∧ w.2 (R + 664) = some (ze_ia G 9600 (fun j => ((lk j : Nat) : Int))) ∧ ∀ k i, rwk k i → whz G w (R + 2 + 322 * k + 2 * i) 42 (v k i)
section RS
variable {G : ze_G} {w0 w w' : ze_W} {R a b : Nat} {cv : Nat → Nat → Nat} {hr wt lk : Nat → Nat} {v : Nat → Nat → Nat}
theorem rs_p (h : rst G w0 w R a b cv hr wt lk v) : a + b = 1 := h.2.1
theorem rs_o (h : rst G w0 w R a b cv hr wt lk v) : w.2 R = some (ze_ob 1 (rfl8 R a b)) := h.2.2.1
theorem rs_r (h : rst G w0 w R a b cv hr wt lk v) {k : Nat} (hk : k < 2) : w.2 (R + 1 + 322 * k) = some (ze_ra G 2 160 (fun i => some (R + 2 + 322 * k + 2 * i))) := h.2.2.2.1 k hk
theorem rs_2 (h : rst G w0 w R a b cv hr wt lk v) : w.2 (R + 645) = some (ze_ra G 2 8 (fun i => some (R + 2 + 322 * 2 + 2 * i))) := h.2.2.2.2.1
theorem rs_c (h : rst G w0 w R a b cv hr wt lk v) {k : Nat} (hk : k < 2) : w.2 (R + 322 + 322 * k) = some (ze_ia G 8 (fun j => ((cv k j : Nat) : Int))) := h.2.2.2.2.2.1 k hk
theorem rs_h (h : rst G w0 w R a b cv hr wt lk v) : w.2 (R + 662) = some (ze_ia G 8 (fun j => ((hr j : Nat) : Int))) := h.2.2.2.2.2.2.1
theorem rs_l (h : rst G w0 w R a b cv hr wt lk v) : w.2 (R + 663) = some (ze_la G 8 (fun j => ((wt j : Nat) : Int))) := h.2.2.2.2.2.2.2.1
theorem rs_k (h : rst G w0 w R a b cv hr wt lk v) : w.2 (R + 664) = some (ze_ia G 9600 (fun j => ((lk j : Nat) : Int))) := h.2.2.2.2.2.2.2.2.1
theorem rs_w (h : rst G w0 w R a b cv hr wt lk v) {k i : Nat} (hk : rwk k i) : whz G w (R + 2 + 322 * k + 2 * i) 42 (v k i) := h.2.2.2.2.2.2.2.2.2 k i hk
theorem rs_rf (h : rst G w0 w R a b cv hr wt lk v) : rst G w w R a b cv hr wt lk v := ⟨⟨rfl, fun _ _ => rfl⟩, h.2⟩
theorem rs_wc {k : Nat} {f : Nat → Nat} (h : rst G w0 w R a b cv hr wt lk v) (hk : k < 2) (z1 : w'.1 = w.1) (c1 : w'.2 (R + 322 + 322 * k) = some (ze_ia G 8 (fun j => ((f j : Nat) : Int)))) (o1 : ∀ u, u ≠ (R + 322 + 322 * k) → w'.2 u = w.2 u) : rst G w0 w' R a b (va_up cv k f) hr wt lk v := by
  obtain ⟨⟨h1, h2⟩, h3, h4, h5, h6, h7, h8, h9, h10, h11⟩ := h
  refine ⟨⟨z1.trans h1, fun u hu => (o1 u (by omega)).trans (h2 u hu)⟩, h3, (o1 R (by omega)).trans h4, fun q hq => (o1 _ (by omega)).trans (h5 q hq), (o1 _ (by omega)).trans h6, fun q hq => ?_, (o1 _ (by omega)).trans h8, (o1 _ (by omega)).trans h9, (o1 _ (by omega)).trans h10, fun q r hq => ?_⟩
  · by_cases e : q = k
    · rw [e, va_up_self]; exact c1
    · rw [va_up_ne _ _ e]; exact (o1 _ (by omega)).trans (h7 q hq)
  · have hq2 := hq
    unfold rwk at hq2
    exact whz_sm (h11 q r hq) (o1 _ (by omega)) (o1 _ (by omega))
theorem rs_wh {f : Nat → Nat} (h : rst G w0 w R a b cv hr wt lk v) (z1 : w'.1 = w.1) (c1 : w'.2 (R + 662) = some (ze_ia G 8 (fun j => ((f j : Nat) : Int)))) (o1 : ∀ u, u ≠ (R + 662) → w'.2 u = w.2 u) : rst G w0 w' R a b cv f wt lk v := by
  obtain ⟨⟨h1, h2⟩, h3, h4, h5, h6, h7, h8, h9, h10, h11⟩ := h
  refine ⟨⟨z1.trans h1, fun u hu => (o1 u (by omega)).trans (h2 u hu)⟩, h3, (o1 R (by omega)).trans h4, fun q hq => (o1 _ (by omega)).trans (h5 q hq), (o1 _ (by omega)).trans h6, fun q hq => (o1 _ (by omega)).trans (h7 q hq), c1, (o1 _ (by omega)).trans h9, (o1 _ (by omega)).trans h10, fun q r hq => ?_⟩
  · have hq2 := hq
    unfold rwk at hq2
    exact whz_sm (h11 q r hq) (o1 _ (by omega)) (o1 _ (by omega))
theorem rs_wl {f : Nat → Nat} (h : rst G w0 w R a b cv hr wt lk v) (z1 : w'.1 = w.1) (c1 : w'.2 (R + 663) = some (ze_la G 8 (fun j => ((f j : Nat) : Int)))) (o1 : ∀ u, u ≠ (R + 663) → w'.2 u = w.2 u) : rst G w0 w' R a b cv hr f lk v := by
  obtain ⟨⟨h1, h2⟩, h3, h4, h5, h6, h7, h8, h9, h10, h11⟩ := h
  refine ⟨⟨z1.trans h1, fun u hu => (o1 u (by omega)).trans (h2 u hu)⟩, h3, (o1 R (by omega)).trans h4, fun q hq => (o1 _ (by omega)).trans (h5 q hq), (o1 _ (by omega)).trans h6, fun q hq => (o1 _ (by omega)).trans (h7 q hq), (o1 _ (by omega)).trans h8, c1, (o1 _ (by omega)).trans h10, fun q r hq => ?_⟩
  · have hq2 := hq
    unfold rwk at hq2
    exact whz_sm (h11 q r hq) (o1 _ (by omega)) (o1 _ (by omega))
theorem rs_wk {f : Nat → Nat} (h : rst G w0 w R a b cv hr wt lk v) (z1 : w'.1 = w.1) (c1 : w'.2 (R + 664) = some (ze_ia G 9600 (fun j => ((f j : Nat) : Int)))) (o1 : ∀ u, u ≠ (R + 664) → w'.2 u = w.2 u) : rst G w0 w' R a b cv hr wt f v := by
  obtain ⟨⟨h1, h2⟩, h3, h4, h5, h6, h7, h8, h9, h10, h11⟩ := h
  refine ⟨⟨z1.trans h1, fun u hu => (o1 u (by omega)).trans (h2 u hu)⟩, h3, (o1 R (by omega)).trans h4, fun q hq => (o1 _ (by omega)).trans (h5 q hq), (o1 _ (by omega)).trans h6, fun q hq => (o1 _ (by omega)).trans (h7 q hq), (o1 _ (by omega)).trans h8, (o1 _ (by omega)).trans h9, c1, fun q r hq => ?_⟩
  · have hq2 := hq
    unfold rwk at hq2
    exact whz_sm (h11 q r hq) (o1 _ (by omega)) (o1 _ (by omega))
theorem rs_wo {a' b' : Nat} (h : rst G w0 w R a b cv hr wt lk v) (hp : a' + b' = 1) (z1 : w'.1 = w.1) (c1 : w'.2 R = some (ze_ob 1 (rfl8 R a' b'))) (o1 : ∀ u, u ≠ R → w'.2 u = w.2 u) : rst G w0 w' R a' b' cv hr wt lk v := by
  obtain ⟨⟨h1, h2⟩, h3, h4, h5, h6, h7, h8, h9, h10, h11⟩ := h
  refine ⟨⟨z1.trans h1, fun u hu => (o1 u (by omega)).trans (h2 u hu)⟩, hp, c1, fun q hq => (o1 _ (by omega)).trans (h5 q hq), (o1 _ (by omega)).trans h6, fun q hq => (o1 _ (by omega)).trans (h7 q hq), (o1 _ (by omega)).trans h8, (o1 _ (by omega)).trans h9, (o1 _ (by omega)).trans h10, fun q r hq => ?_⟩
  · have hq2 := hq
    unfold rwk at hq2
    exact whz_sm (h11 q r hq) (o1 _ (by omega)) (o1 _ (by omega))
theorem rs_wb (h : rst G w0 w R a b cv hr wt lk v) {k i n : Nat} (hk : rwk k i) (fr : bfr w w' (R + 2 + 322 * k + 2 * i)) (c1 : whz G w' (R + 2 + 322 * k + 2 * i) 42 n) : rst G w0 w' R a b cv hr wt lk (va_up v k (va_up (v k) i n)) := by
  obtain ⟨⟨h1, h2⟩, h3, h4, h5, h6, h7, h8, h9, h10, h11⟩ := h
  obtain ⟨z1, o1⟩ := fr
  unfold rwk at hk
  refine ⟨⟨z1.trans h1, fun u hu => (o1 u (by omega) (by omega)).trans (h2 u hu)⟩, h3, (o1 R (by omega) (by omega)).trans h4, fun q hq => (o1 _ (by omega) (by omega)).trans (h5 q hq), (o1 _ (by omega) (by omega)).trans h6, fun q hq => (o1 _ (by omega) (by omega)).trans (h7 q hq), (o1 _ (by omega) (by omega)).trans h8, (o1 _ (by omega) (by omega)).trans h9, (o1 _ (by omega) (by omega)).trans h10, fun q r hq => ?_⟩
  have hq2 := hq
  unfold rwk at hq2
  by_cases e : q = k
  · rw [e, va_up_self]
    by_cases e2 : r = i
    · rw [e2, va_up_self]; exact c1
    · rw [va_up_ne _ _ e2]
      have := h11 q r hq
      rw [e] at this
      exact whz_sm this (o1 _ (by omega) (by omega)) (o1 _ (by omega) (by omega))
  · rw [va_up_ne _ _ e]
    exact whz_sm (h11 q r hq) (o1 _ (by omega) (by omega)) (o1 _ (by omega) (by omega))
end RS
theorem C1_entry {G : ze_G} {l : Launch} {w : ze_W} {s r : Nat} : ze_C G l 0 0 0 M1_entry [ze_i (s : Nat), ze_i (r : Nat)] w (ze_qi (fun x w' => x = ((s * 20 + r : Nat) : Int) ∧ w' = w)) := by
  refine ze_enter (by decide +kernel) rfl ?_
  change ze_V G l (ze_rm 0 0 0) M1_entry _ 0 [(0, ze_i ((s : Nat))), (1, ze_i ((r : Nat)))] [] w 0 0
  refine ze_iload_n dX1_entry_0 rfl ?_
  refine ze_bipush dX1_entry_1 (by decide) ?_
  refine ze_imul dX1_entry_3 ?_
  refine ze_iload_n dX1_entry_4 rfl ?_
  refine ze_iadd dX1_entry_5 ?_
  exact ze_ireturn rfl dX1_entry_6 ⟨_, rfl, by omega, rfl⟩ rfl rfl
theorem C1_swapLists {G : ze_G} {l : Launch} {w0 w : ze_W} {R a b : Nat} {cv : Nat → Nat → Nat} {hr wt lk : Nat → Nat} {v : Nat → Nat → Nat} (hS : rst G w0 w R a b cv hr wt lk v) : ze_C G l 0 0 0 M1_swapLists [.ref R] w (ze_qv (fun w' => rst G w0 w' R b a cv hr wt lk v)) := by
  have hab := rs_p hS
  refine ze_enter (by decide +kernel) rfl ?_
  change ze_V G l (ze_rm 0 0 0) M1_swapLists _ 0 [(0, .ref R)] [] w 0 0
  refine ze_aload_n dX1_swapLists_0 rfl ?_
  refine ze_getf dX1_swapLists_1 fl_X1_23 (rs_o hS) rfl ?_
  refine ze_astore_n (lv' := [(0, .ref R), (1, .ref (R + 1 + 322 * b))]) dX1_swapLists_4 rfl rfl ?_
  refine ze_aload_n dX1_swapLists_5 rfl ?_
  refine ze_aload_n dX1_swapLists_6 rfl ?_
  refine ze_getf dX1_swapLists_7 fl_X1_13 (rs_o hS) rfl ?_
  refine ze_putfW (fs' := [.ref (R + 1 + 322 * a), .ref (R + 322 + 322 * a), .ref (R + 1 + 322 * a), .ref (R + 322 + 322 * b), .ref (R + 645), .ref (R + 662), .ref (R + 663), .ref (R + 664)]) dX1_swapLists_10 fl_X1_23 (Or.inl rfl) (rs_o hS) rfl rfl (Nat.le_of_ble_eq_true rfl) rfl (fun w1 z1 c1 o1 => ?_)
  refine ze_aload_n dX1_swapLists_13 rfl ?_
  refine ze_aload_n dX1_swapLists_14 rfl ?_
  refine ze_putfW (fs' := [.ref (R + 1 + 322 * b), .ref (R + 322 + 322 * a), .ref (R + 1 + 322 * a), .ref (R + 322 + 322 * b), .ref (R + 645), .ref (R + 662), .ref (R + 663), .ref (R + 664)]) dX1_swapLists_15 fl_X1_13 (Or.inl rfl) c1 rfl rfl (Nat.le_of_ble_eq_true rfl) rfl (fun w2 z2 c2 o2 => ?_)
  refine ze_aload_n dX1_swapLists_18 rfl ?_
  refine ze_getf dX1_swapLists_19 fl_X1_26 c2 rfl ?_
  refine ze_astore_n (lv' := [(0, .ref R), (1, .ref (R + 1 + 322 * b)), (2, .ref (R + 322 + 322 * b))]) dX1_swapLists_22 rfl rfl ?_
  refine ze_aload_n dX1_swapLists_23 rfl ?_
  refine ze_aload_n dX1_swapLists_24 rfl ?_
  refine ze_getf dX1_swapLists_25 fl_X1_19 c2 rfl ?_
  refine ze_putfW (fs' := [.ref (R + 1 + 322 * b), .ref (R + 322 + 322 * a), .ref (R + 1 + 322 * a), .ref (R + 322 + 322 * a), .ref (R + 645), .ref (R + 662), .ref (R + 663), .ref (R + 664)]) dX1_swapLists_28 fl_X1_26 (Or.inl rfl) c2 rfl rfl (Nat.le_of_ble_eq_true rfl) rfl (fun w3 z3 c3 o3 => ?_)
  refine ze_aload_n dX1_swapLists_31 rfl ?_
  refine ze_aload_n dX1_swapLists_32 rfl ?_
  refine ze_putfW (fs' := [.ref (R + 1 + 322 * b), .ref (R + 322 + 322 * b), .ref (R + 1 + 322 * a), .ref (R + 322 + 322 * a), .ref (R + 645), .ref (R + 662), .ref (R + 663), .ref (R + 664)]) dX1_swapLists_33 fl_X1_19 (Or.inl rfl) c3 rfl rfl (Nat.le_of_ble_eq_true rfl) rfl (fun w4 z4 c4 o4 => ?_)
  exact ze_return rfl dX1_swapLists_36 ⟨rfl, rs_wo (a' := b) (b' := a) hS (by omega) (z4.trans (z3.trans (z2.trans z1))) c4 (fun u hu => (o4 u hu).trans ((o3 u hu).trans ((o2 u hu).trans (o1 u hu))))⟩ rfl rfl
theorem C1_weighHead {G : ze_G} {l : Launch} {w0 w : ze_W} {R a b : Nat} {cv : Nat → Nat → Nat} {hr wt lk : Nat → Nat} {v : Nat → Nat → Nat} {t : Nat} (hS : rst G w0 w R a b cv hr wt lk v) (ht : t < 8) (hwt : wt t ≤ 1000000) (hcv : cv a t ≤ 20) (hhr : hr t ≤ 20) (hv : hr t < cv a t → v a (t * 20 + hr t) < 1000000000 ^ 41) : ze_C G l 3 0 0 M1_weighHead [.ref R, ze_i (t : Nat)] w (ze_qv (fun w' => rst G w0 w' R a b cv hr wt lk (va_up v 2 (va_up (v 2) t (if hr t < cv a t then v a (t * 20 + hr t) * wt t else 0))))) := by
  have hab := rs_p hS
  refine ze_enter (by decide +kernel) rfl ?_
  change ze_V G l (ze_rm 3 0 0) M1_weighHead _ 0 [(0, .ref R), (1, ze_i ((t : Nat)))] [] w 0 0
  refine ze_aload_n dX1_weighHead_0 rfl ?_
  refine ze_getf dX1_weighHead_1 fl_X1_32 (rs_o hS) rfl ?_
  refine ze_iload_n dX1_weighHead_4 rfl ?_
  refine ze_iald (j := t) dX1_weighHead_5 (rs_h hS) (by omega) (by omega) (by omega) ?_
  refine ze_istore_n (lv' := [(0, .ref R), (1, ze_i ((t : Nat))), (2, ze_i ((hr t : Nat)))]) dX1_weighHead_6 rfl rfl ?_
  refine ze_aload_n dX1_weighHead_7 rfl ?_
  refine ze_getf dX1_weighHead_8 fl_X1_35 (rs_o hS) rfl ?_
  refine ze_iload_n dX1_weighHead_11 rfl ?_
  refine ze_lald (j := t) dX1_weighHead_12 (rs_l hS) (by omega) (by omega) (by omega) ?_
  refine ze_lconst (z := 0) dX1_weighHead_13 (by decide) ?_
  refine ze_lc_le 62 dX1_weighHead_14 dX1_weighHead_15 (by decide) (by omega) (by omega) (fun q1 => ?_) (fun q1 => ?_)
  · refine ze_aload_n dX1_weighHead_62 rfl ?_
    refine ze_getf dX1_weighHead_63 fl_X1_29 (rs_o hS) rfl ?_
    refine ze_iload_n dX1_weighHead_66 rfl ?_
    refine ze_aald (j := t) (b := (R + 2 + 322 * 2 + 2 * t)) dX1_weighHead_67 (rs_2 hS) rfl (by omega) (by omega) (by omega) rfl ?_
    refine ze_iconst dX1_weighHead_68 ?_
    have eX : (if hr t < cv a t then v a (t * 20 + hr t) * wt t else 0) = 0 := by
      split
      · rw [show wt t = 0 by omega, Nat.mul_zero]
      · rfl
    rw [eX]
    refine ze_ti (b := ((0 : Nat) : Nat)) rfl ?_
    refine ze_callV (As := [ze_i (((0 : Nat) : Nat))]) (rest := []) dX1_weighHead_69 (C5_setSmall (v := 0) (rs_w hS (k := 2) (i := t) (Or.inr ⟨rfl, ht⟩)) (by decide)) mo5_setSmall ml_X1_57 in_5_setSmall se_5_setSmall (whz_o (rs_w hS (k := 2) (i := t) (Or.inr ⟨rfl, by omega⟩))).choose_spec rfl rfl rfl rfl rfl ⟨Nat.le_refl _, Nat.le_refl _⟩ rfl (Nat.le_of_ble_eq_true rfl) ?_
    rintro _ w2 ⟨rfl, fr2, hz2⟩
    have hS2 := rs_wb hS (k := 2) (i := t) (Or.inr ⟨rfl, ht⟩) fr2 hz2
    change ze_V G l (ze_rm 3 0 0) M1_weighHead _ 72 [(0, .ref R), (1, ze_i ((t : Nat))), (2, ze_i ((hr t : Nat)))] [] w2 0 0
    exact ze_return rfl dX1_weighHead_72 ⟨rfl, hS2⟩ rfl rfl
  · refine ze_iload_n dX1_weighHead_18 rfl ?_
    refine ze_aload_n dX1_weighHead_19 rfl ?_
    refine ze_getf dX1_weighHead_20 fl_X1_19 (rs_o hS) rfl ?_
    refine ze_iload_n dX1_weighHead_23 rfl ?_
    refine ze_iald (j := t) dX1_weighHead_24 (rs_c hS (k := a) (by omega)) (by omega) (by omega) (by omega) ?_
    refine ze_icmp_ge 62 dX1_weighHead_25 (by decide) (by omega) (by omega) (fun q3 => ?_) (fun q3 => ?_)
    · refine ze_aload_n dX1_weighHead_62 rfl ?_
      refine ze_getf dX1_weighHead_63 fl_X1_29 (rs_o hS) rfl ?_
      refine ze_iload_n dX1_weighHead_66 rfl ?_
      refine ze_aald (j := t) (b := (R + 2 + 322 * 2 + 2 * t)) dX1_weighHead_67 (rs_2 hS) rfl (by omega) (by omega) (by omega) rfl ?_
      refine ze_iconst dX1_weighHead_68 ?_
      have eX : (if hr t < cv a t then v a (t * 20 + hr t) * wt t else 0) = 0 := by
        split
        · rw [show wt t = 0 by omega, Nat.mul_zero]
        · rfl
      rw [eX]
      refine ze_ti (b := ((0 : Nat) : Nat)) rfl ?_
      refine ze_callV (As := [ze_i (((0 : Nat) : Nat))]) (rest := []) dX1_weighHead_69 (C5_setSmall (v := 0) (rs_w hS (k := 2) (i := t) (Or.inr ⟨rfl, ht⟩)) (by decide)) mo5_setSmall ml_X1_57 in_5_setSmall se_5_setSmall (whz_o (rs_w hS (k := 2) (i := t) (Or.inr ⟨rfl, by omega⟩))).choose_spec rfl rfl rfl rfl rfl ⟨Nat.le_refl _, Nat.le_refl _⟩ rfl (Nat.le_of_ble_eq_true rfl) ?_
      rintro _ w4 ⟨rfl, fr4, hz4⟩
      have hS4 := rs_wb hS (k := 2) (i := t) (Or.inr ⟨rfl, ht⟩) fr4 hz4
      change ze_V G l (ze_rm 3 0 0) M1_weighHead _ 72 [(0, .ref R), (1, ze_i ((t : Nat))), (2, ze_i ((hr t : Nat)))] [] w4 0 0
      exact ze_return rfl dX1_weighHead_72 ⟨rfl, hS4⟩ rfl rfl
    · refine ze_iload_n dX1_weighHead_28 rfl ?_
      refine ze_bipush dX1_weighHead_29 (by decide) ?_
      refine ze_icmp_ge 62 dX1_weighHead_31 (by decide) (by omega) (by omega) (fun q5 => ?_) (fun q5 => ?_)
      · omega
      · refine ze_aload_n dX1_weighHead_34 rfl ?_
        refine ze_getf dX1_weighHead_35 fl_X1_29 (rs_o hS) rfl ?_
        refine ze_iload_n dX1_weighHead_38 rfl ?_
        refine ze_aald (j := t) (b := (R + 2 + 322 * 2 + 2 * t)) dX1_weighHead_39 (rs_2 hS) rfl (by omega) (by omega) (by omega) rfl ?_
        refine ze_aload_n dX1_weighHead_40 rfl ?_
        refine ze_getf dX1_weighHead_41 fl_X1_13 (rs_o hS) rfl ?_
        refine ze_iload_n dX1_weighHead_44 rfl ?_
        refine ze_iload_n dX1_weighHead_45 rfl ?_
        refine ze_callS (As := [ze_i ((t : Nat)), ze_i ((hr t : Nat))]) (rest := [.ref (R + 1 + 322 * a), .ref (R + 2 + 322 * 2 + 2 * t)]) dX1_weighHead_46 (C1_entry (s := t) (r := hr t)) mo1_entry ml_X1_54 st_1_entry rfl rfl rfl ⟨Nat.le_refl _, Nat.le_refl _⟩ rfl (Nat.le_of_ble_eq_true rfl) ?_
        rintro _ w' ⟨r6, rfl, rfl, rfl⟩
        change ze_V G l (ze_rm 3 0 0) M1_weighHead _ 49 [(0, .ref R), (1, ze_i ((t : Nat))), (2, ze_i ((hr t : Nat)))] [ze_i (((t * 20 + hr t : Nat))), .ref (R + 1 + 322 * a), .ref (R + 2 + 322 * 2 + 2 * t)] w' 0 0
        refine ze_aald (j := (t * 20 + hr t)) (b := (R + 2 + 322 * a + 2 * (t * 20 + hr t))) dX1_weighHead_49 (rs_r hS (k := a) (by omega)) rfl (by omega) (by omega) (by omega) rfl ?_
        refine ze_aload_n dX1_weighHead_50 rfl ?_
        refine ze_getf dX1_weighHead_51 fl_X1_35 (rs_o hS) rfl ?_
        refine ze_iload_n dX1_weighHead_54 rfl ?_
        refine ze_lald (j := t) dX1_weighHead_55 (rs_l hS) (by omega) (by omega) (by omega) ?_
        have eX : (if hr t < cv a t then v a (t * 20 + hr t) * wt t else 0) = v a (t * 20 + hr t) * wt t := if_pos (by omega)
        rw [eX]
        refine ze_callV (As := [.ref (R + 2 + 322 * a + 2 * (t * 20 + hr t)), ze_l ((wt t : Nat))]) (rest := []) dX1_weighHead_56 (C5_setScaled (F := wt t) (rs_w hS (k := 2) (i := t) (Or.inr ⟨rfl, ht⟩)) (rs_w hS (k := a) (i := t * 20 + hr t) (Or.inl ⟨by omega, by omega⟩)) (by omega) (hv (by omega)) hwt) mo5_setScaled ml_X1_97 in_5_setScaled se_5_setScaled (whz_o (rs_w hS (k := 2) (i := t) (Or.inr ⟨rfl, by omega⟩))).choose_spec rfl rfl rfl rfl rfl ⟨Nat.le_refl _, Nat.le_refl _⟩ rfl (Nat.le_of_ble_eq_true rfl) ?_
        rintro _ w7 ⟨rfl, fr7, hz7⟩
        have hS7 := rs_wb hS (k := 2) (i := t) (Or.inr ⟨rfl, ht⟩) fr7 hz7
        change ze_V G l (ze_rm 3 0 0) M1_weighHead _ 59 [(0, .ref R), (1, ze_i ((t : Nat))), (2, ze_i ((hr t : Nat)))] [] w7 0 0
        refine ze_goto 72 dX1_weighHead_59 (by decide) ?_
        exact ze_return rfl dX1_weighHead_72 ⟨rfl, hS7⟩ rfl rfl
theorem C1_greatestHead {G : ze_G} {l : Launch} {w0 w : ze_W} {R a b : Nat} {cv : Nat → Nat → Nat} {hr wt lk : Nat → Nat} {v : Nat → Nat → Nat} {n : Nat} (hS : rst G w0 w R a b cv hr wt lk v) (hn : n ≤ 8) : ze_C G l 2 0 0 M1_greatestHead [.ref R, ze_i (n : Nat)] w (ze_qi (fun r w' => r = bst (mx (v 2) n) ∧ w' = w)) := by
  have hab := rs_p hS
  refine ze_enter (by decide +kernel) rfl ?_
  generalize hQ : (ze_Q G (ze_qi (fun r w' => r = bst (mx (v 2) n) ∧ w' = w)) 0 0) = Z
  have loop : ∀ (d t : Nat), t + d = n → ze_V G l (ze_rm 2 0 0) M1_greatestHead Z 4 [(0, .ref R), (1, ze_i ((n : Nat))), (2, ze_i (bst (mx (v 2) t))), (3, ze_i ((t : Nat)))] [] w 0 0 := by
    intro d
    induction d with
    | zero =>
      intro t ht
      have htn : t = n := by omega
      rw [← hQ]
      refine ze_iload_n dX1_greatestHead_4 rfl ?_
      refine ze_iload_n dX1_greatestHead_5 rfl ?_
      refine ze_icmp_ge 51 dX1_greatestHead_6 (by decide) (by omega) (by omega) (fun q1 => ?_) (fun q1 => ?_)
      · refine ze_iload_n dX1_greatestHead_51 rfl ?_
        exact ze_ireturn rfl dX1_greatestHead_52 ⟨_, rfl, by rw [htn], rfl⟩ rfl rfl
      · omega
    | succ d ih =>
      intro t ht
      have hb := bst_rng (f := v 2) (show t ≤ 8 by omega)
      have es := mx_s (v 2) t
      have e0 : bst (mx (v 2) t) < 0 ↔ (mx (v 2) t).2 = 0 := by
        unfold bst
        split <;> omega
      refine ze_iload_n dX1_greatestHead_4 rfl ?_
      refine ze_iload_n dX1_greatestHead_5 rfl ?_
      refine ze_icmp_ge 51 dX1_greatestHead_6 (by decide) (by omega) (by omega) (fun q1 => ?_) (fun q1 => ?_)
      · omega
      · refine ze_aload_n dX1_greatestHead_9 rfl ?_
        refine ze_getf dX1_greatestHead_10 fl_X1_29 (rs_o hS) rfl ?_
        refine ze_iload_n dX1_greatestHead_13 rfl ?_
        refine ze_aald (j := t) (b := (R + 2 + 322 * 2 + 2 * t)) dX1_greatestHead_14 (rs_2 hS) rfl (by omega) (by omega) (by omega) rfl ?_
        refine ze_callV (As := []) (rest := []) dX1_greatestHead_15 (C5_isNought (rs_w hS (k := 2) (i := t) (Or.inr ⟨rfl, by omega⟩))) mo5_isNought ml_X1_101 in_5_isNought se_5_isNought (whz_o (rs_w hS (k := 2) (i := t) (Or.inr ⟨rfl, by omega⟩))).choose_spec rfl rfl rfl rfl rfl ⟨Nat.le_refl _, Nat.le_refl _⟩ rfl (Nat.le_of_ble_eq_true rfl) ?_
        rintro _ w' ⟨r1, rfl, hr1, rfl⟩
        change ze_V G l (ze_rm 2 0 0) M1_greatestHead _ 18 [(0, .ref R), (1, ze_i ((n : Nat))), (2, ze_i (bst (mx (v 2) t))), (3, ze_i ((t : Nat)))] [ze_i (r1)] w' 0 0
        refine ze_if_ne 45 dX1_greatestHead_18 (by decide) (tf_rng hr1) (fun q2 => ?_) (fun q2 => ?_)
        · have hge : ¬ (mx (v 2) t).2 < v 2 t := by
            have := tf_n hr1 q2
            omega
          have eb : bst (mx (v 2) t) = bst (mx (v 2) (t + 1)) := by rw [es, if_neg hge]
          rw [eb]
          refine ze_iinc (b := ((t + 1 : Nat))) (lv' := [(0, .ref R), (1, ze_i ((n : Nat))), (2, ze_i (bst (mx (v 2) (t + 1)))), (3, ze_i (((t + 1 : Nat))))]) dX1_greatestHead_45 rfl rfl (by omega) rfl ?_
          refine ze_goto 4 dX1_greatestHead_48 (by decide) ?_
          exact ih (t + 1) (by omega)
        · have hv0 := tf_z hr1 q2
          refine ze_iload_n dX1_greatestHead_21 rfl ?_
          refine ze_if_lt 43 dX1_greatestHead_22 (by decide) (by omega) (fun q3 => ?_) (fun q3 => ?_)
          · refine ze_iload_n dX1_greatestHead_43 rfl ?_
            refine ze_istore_n (lv' := [(0, .ref R), (1, ze_i ((n : Nat))), (2, ze_i ((t : Nat))), (3, ze_i ((t : Nat)))]) dX1_greatestHead_44 rfl rfl ?_
            have hlt : (mx (v 2) t).2 < v 2 t := by
              have := e0.mp q3
              omega
            have eb : ((t : Nat) : Int) = bst (mx (v 2) (t + 1)) := by rw [es, if_pos hlt]; unfold bst; rw [if_neg (show ¬ v 2 t = 0 by omega)]
            rw [eb]
            refine ze_iinc (b := ((t + 1 : Nat))) (lv' := [(0, .ref R), (1, ze_i ((n : Nat))), (2, ze_i (bst (mx (v 2) (t + 1)))), (3, ze_i (((t + 1 : Nat))))]) dX1_greatestHead_45 rfl rfl (by omega) rfl ?_
            refine ze_goto 4 dX1_greatestHead_48 (by decide) ?_
            exact ih (t + 1) (by omega)
          · refine ze_aload_n dX1_greatestHead_25 rfl ?_
            refine ze_getf dX1_greatestHead_26 fl_X1_29 (rs_o hS) rfl ?_
            refine ze_iload_n dX1_greatestHead_29 rfl ?_
            refine ze_aald (j := t) (b := (R + 2 + 322 * 2 + 2 * t)) dX1_greatestHead_30 (rs_2 hS) rfl (by omega) (by omega) (by omega) rfl ?_
            refine ze_aload_n dX1_greatestHead_31 rfl ?_
            refine ze_getf dX1_greatestHead_32 fl_X1_29 (rs_o hS) rfl ?_
            refine ze_iload_n dX1_greatestHead_35 rfl ?_
            have hne : (mx (v 2) t).2 ≠ 0 := fun k => by have := e0.mpr k; omega
            obtain ⟨y, hy⟩ : ∃ y, y = (mx (v 2) t).1 := ⟨_, rfl⟩
            have hby : bst (mx (v 2) t) = (y : Nat) := by unfold bst; rw [if_neg hne, hy]
            have hyt : y < t := by rw [hy]; exact mx_lt2 hne
            have hyv : v 2 y = (mx (v 2) t).2 := by rw [hy]; exact mx_val hne
            refine ze_aald (j := y) (b := (R + 2 + 322 * 2 + 2 * y)) dX1_greatestHead_36 (rs_2 hS) rfl hby (by omega) (by omega) rfl ?_
            refine ze_callV (As := [.ref (R + 2 + 322 * 2 + 2 * y)]) (rest := []) dX1_greatestHead_37 (C5_orderTo (rs_w hS (k := 2) (i := t) (Or.inr ⟨rfl, by omega⟩)) (rs_w hS (k := 2) (i := y) (Or.inr ⟨rfl, by omega⟩))) mo5_orderTo ml_X1_105 in_5_orderTo se_5_orderTo (whz_o (rs_w hS (k := 2) (i := t) (Or.inr ⟨rfl, by omega⟩))).choose_spec rfl rfl rfl rfl rfl ⟨Nat.le_refl _, Nat.le_refl _⟩ rfl (Nat.le_of_ble_eq_true rfl) ?_
            rintro _ w' ⟨r2, rfl, hr2, rfl⟩
            change ze_V G l (ze_rm 2 0 0) M1_greatestHead _ 40 [(0, .ref R), (1, ze_i ((n : Nat))), (2, ze_i (bst (mx (v 2) t))), (3, ze_i ((t : Nat)))] [ze_i (r2)] w' 0 0
            rw [hyv] at hr2
            unfold cmp3 at hr2
            refine ze_if_le 45 dX1_greatestHead_40 (by decide) (by rw [hr2]; split; decide; split <;> decide) (fun q4 => ?_) (fun q4 => ?_)
            · have hge : ¬ (mx (v 2) t).2 < v 2 t := by
                intro k0
                rw [if_neg (by omega), if_neg (by omega)] at hr2
                omega
              have eb : bst (mx (v 2) t) = bst (mx (v 2) (t + 1)) := by rw [es, if_neg hge]
              rw [eb]
              refine ze_iinc (b := ((t + 1 : Nat))) (lv' := [(0, .ref R), (1, ze_i ((n : Nat))), (2, ze_i (bst (mx (v 2) (t + 1)))), (3, ze_i (((t + 1 : Nat))))]) dX1_greatestHead_45 rfl rfl (by omega) rfl ?_
              refine ze_goto 4 dX1_greatestHead_48 (by decide) ?_
              exact ih (t + 1) (by omega)
            · refine ze_iload_n dX1_greatestHead_43 rfl ?_
              refine ze_istore_n (lv' := [(0, .ref R), (1, ze_i ((n : Nat))), (2, ze_i ((t : Nat))), (3, ze_i ((t : Nat)))]) dX1_greatestHead_44 rfl rfl ?_
              have hlt : (mx (v 2) t).2 < v 2 t := by
                by_cases k1 : ((v 2 t : Nat) : Int) < (((mx (v 2) t).2 : Nat) : Int)
                · rw [if_pos k1] at hr2; omega
                · by_cases k2 : ((v 2 t : Nat) : Int) = (((mx (v 2) t).2 : Nat) : Int)
                  · rw [if_neg k1, if_pos k2] at hr2; omega
                  · omega
              have eb : ((t : Nat) : Int) = bst (mx (v 2) (t + 1)) := by rw [es, if_pos hlt]; unfold bst; rw [if_neg (show ¬ v 2 t = 0 by omega)]
              rw [eb]
              refine ze_iinc (b := ((t + 1 : Nat))) (lv' := [(0, .ref R), (1, ze_i ((n : Nat))), (2, ze_i (bst (mx (v 2) (t + 1)))), (3, ze_i (((t + 1 : Nat))))]) dX1_greatestHead_45 rfl rfl (by omega) rfl ?_
              refine ze_goto 4 dX1_greatestHead_48 (by decide) ?_
              exact ih (t + 1) (by omega)
  change ze_V G l (ze_rm 2 0 0) M1_greatestHead Z 0 [(0, .ref R), (1, ze_i ((n : Nat)))] [] w 0 0
  refine ze_iconst dX1_greatestHead_0 ?_
  refine ze_ti (b := bst (mx (v 2) 0)) rfl ?_
  refine ze_istore_n (lv' := [(0, .ref R), (1, ze_i ((n : Nat))), (2, ze_i (bst (mx (v 2) 0)))]) dX1_greatestHead_1 rfl rfl ?_
  refine ze_iconst dX1_greatestHead_2 ?_
  refine ze_ti (b := ((0 : Nat) : Nat)) rfl ?_
  refine ze_istore_n (lv' := [(0, .ref R), (1, ze_i ((n : Nat))), (2, ze_i (bst (mx (v 2) 0))), (3, ze_i (((0 : Nat) : Nat)))]) dX1_greatestHead_3 rfl rfl ?_
  exact loop n 0 (by omega)
