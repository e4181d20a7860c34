/-! the reference: best -/
def bpk (ar : Nat → Nat → Int) (c P r : Nat) : Nat × Nat := pk (cn ar c) (fun t => (el ar c P (P - 1) t).1) (fun t => (el ar c P (P - 1) t).2) (cb ar c) r
def btk (ar : Nat → Nat → Int) (c P r : Nat) : Nat → Nat := tkn (cn ar c) (fun t => (el ar c P (P - 1) t).1) (fun t => (el ar c P (P - 1) t).2) (cb ar c) r
/-- the states of the k-th best row, with their ranks -/
def btr (ar : Nat → Nat → Int) (c P k : Nat) : Nat → Nat × Nat
  | 0 => ((bpk ar c P k).1, btk ar c P k (bpk ar c P k).1)
  | i + 1 => ((epk ar c P (P - 2 - i) (btr ar c P k i).1 (btr ar c P k i).2).1, etk ar c P (P - 2 - i) (btr ar c P k i).1 (btr ar c P k i).2 (epk ar c P (P - 2 - i) (btr ar c P k i).1 (btr ar c P k i).2).1)
theorem pkk_lt {n : Nat} {cnt : Nat → Nat} {val : Nat → Nat → Nat} {wt : Nat → Nat} {r : Nat} (h : (pk n cnt val wt r).2 ≠ 0) : (pk n cnt val wt r).1 < n ∧ tkn n cnt val wt r (pk n cnt val wt r).1 < cnt (pk n cnt val wt r).1 := by
  refine ⟨mx_lt2 h, ?_⟩
  have h1 := mx_val h
  unfold pk at h ⊢
  rcases Nat.lt_or_ge (tkn n cnt val wt r (mx (hd cnt val wt (tkn n cnt val wt r)) n).1) (cnt (mx (hd cnt val wt (tkn n cnt val wt r)) n).1) with h2 | h2
  · exact h2
  · exfalso
    rw [← h1] at h
    apply h
    show (if _ then _ else 0) = 0
    rw [if_neg (by omega)]
theorem btr_ok {ar : Nat → Nat → Int} {c P k : Nat} (hP : 0 < P) (h : (bpk ar c P k).2 ≠ 0) (i : Nat) : i < P → (btr ar c P k i).1 < cn ar c ∧ (btr ar c P k i).2 < (el ar c P (P - 1 - i) (btr ar c P k i).1).1 := by
  induction i with
  | zero =>
    intro _
    unfold bpk at h
    exact pkk_lt h
  | succ i ih =>
    intro hi
    obtain ⟨h1, h2⟩ := ih (by omega)
    rw [show P - 1 - i = (P - 2 - i) + 1 by omega, el_s1] at h2
    unfold eln at h2
    have h3 := pkk_lt (lnn_pk h2)
    rw [show P - 1 - (i + 1) = P - 2 - i by omega]
    exact h3
theorem C8_best {G : ze_G} {l : Launch} {w0 w : ze_W} {m C P F : Nat} {ar : Nat → Nat → Int} {bz : Nat → Int} (hM : mst G w0 w m C P F ar bz) {c k : Int} (r_c : -2147483648 ≤ c ∧ c < 2147483648) (r_k : -2147483648 ≤ k ∧ k < 2147483648) (hG : mgd C P F ar) : ze_C G l 8 0 0 M8_best [.ref m, ze_i c, ze_i k] w (ze_qi (fun r w' => ∃ ar' bz' F', mst G w0 w' m C P F' ar' bz' ∧ (∀ q, q < 13 ∨ 17 < q → ar' q = ar q) ∧ (((¬ ((0 ≤ c ∧ c < (C : Int)) ∧ (0 ≤ k ∧ k < 20)) ∧ r = -1) ∨ (((0 ≤ c ∧ c < (C : Int)) ∧ (0 ≤ k ∧ k < 20)) ∧ rfs ar P c.toNat r ∧ r ≠ 0) ∨ (((0 ≤ c ∧ c < (C : Int)) ∧ (0 ≤ k ∧ k < 20)) ∧ rfs ar P c.toNat 0 ∧ (∃ q, q ≤ k.toNat ∧ (bpk ar c.toNat P q).2 = 0) ∧ r = 0)) ∧ bz' 8 = bz 8 ∧ ar' 17 = ar 17 ∧ F' = F ∨ ((((0 ≤ c ∧ c < (C : Int)) ∧ (0 ≤ k ∧ k < 20)) ∧ rfs ar P c.toNat 0 ∧ (∀ q, q ≤ k.toNat → (bpk ar c.toNat P q).2 ≠ 0)) ∧ bz' 8 = ((bpk ar c.toNat P k.toNat).2 : Nat) ∧ isd (bpk ar c.toNat P k.toNat).2 r ∧ F' = P ∧ ∀ i, i < P → ar' 17 i = ((btr ar c.toNat P k.toNat i).1 : Nat))))) := by
  have hG1 := hG.1
  refine ze_enter (by decide +kernel) rfl ?_
  generalize hQ : (ze_Q G (ze_qi (fun r w' => ∃ ar' bz' F', mst G w0 w' m C P F' ar' bz' ∧ (∀ q, q < 13 ∨ 17 < q → ar' q = ar q) ∧ (((¬ ((0 ≤ c ∧ c < (C : Int)) ∧ (0 ≤ k ∧ k < 20)) ∧ r = -1) ∨ (((0 ≤ c ∧ c < (C : Int)) ∧ (0 ≤ k ∧ k < 20)) ∧ rfs ar P c.toNat r ∧ r ≠ 0) ∨ (((0 ≤ c ∧ c < (C : Int)) ∧ (0 ≤ k ∧ k < 20)) ∧ rfs ar P c.toNat 0 ∧ (∃ q, q ≤ k.toNat ∧ (bpk ar c.toNat P q).2 = 0) ∧ r = 0)) ∧ bz' 8 = bz 8 ∧ ar' 17 = ar 17 ∧ F' = F ∨ ((((0 ≤ c ∧ c < (C : Int)) ∧ (0 ≤ k ∧ k < 20)) ∧ rfs ar P c.toNat 0 ∧ (∀ q, q ≤ k.toNat → (bpk ar c.toNat P q).2 ≠ 0)) ∧ bz' 8 = ((bpk ar c.toNat P k.toNat).2 : Nat) ∧ isd (bpk ar c.toNat P k.toNat).2 r ∧ F' = P ∧ ∀ i, i < P → ar' 17 i = ((btr ar c.toNat P k.toNat i).1 : Nat))))) 0 0) = Z
  change ze_V G l (ze_rm 8 0 0) M8_best _ 0 [(0, .ref m), (1, ze_i (c)), (2, ze_i (k))] [] w 0 0
  refine ze_aload_n dX8_best_0 rfl ?_
  refine ze_iload_n dX8_best_1 rfl ?_
  refine ze_callV (As := [ze_i (c)]) (rest := []) dX8_best_2 (C8_is hM r_c hG.1.1) mo8_is ml_X8_105 in_8_is se_8_is (ms_o hM) rfl rfl rfl rfl rfl ⟨Nat.le_refl _, Nat.le_refl _⟩ rfl (Nat.le_of_ble_eq_true rfl) ?_
  rintro _ w' ⟨r1, rfl, rfl, rfl⟩
  change ze_V G l (ze_rm 8 0 0) M8_best _ 5 [(0, .ref m), (1, ze_i (c)), (2, ze_i (k))] [ze_i (bi (0 ≤ c ∧ c < (C : Int)))] w' 0 0
  refine ze_if_eq 18 dX8_best_5 (by decide) (bi_rng _) (fun q2 => ?_) (fun q2 => ?_)
  · rw [bi_z] at q2
    refine ze_iconst dX8_best_18 ?_
    rw [← hQ]
    exact ze_ireturn rfl dX8_best_19 ⟨_, rfl, ar, bz, F, hM, fun _ _ => rfl, Or.inl ⟨Or.inl ⟨by omega, rfl⟩, rfl, rfl, rfl⟩⟩ rfl rfl
  · rw [bi_n] at q2
    refine ze_iload_n dX8_best_8 rfl ?_
    refine ze_if_lt 18 dX8_best_9 (by decide) (by omega) (fun q3 => ?_) (fun q3 => ?_)
    · refine ze_iconst dX8_best_18 ?_
      rw [← hQ]
      exact ze_ireturn rfl dX8_best_19 ⟨_, rfl, ar, bz, F, hM, fun _ _ => rfl, Or.inl ⟨Or.inl ⟨by omega, rfl⟩, rfl, rfl, rfl⟩⟩ rfl rfl
    · refine ze_iload_n dX8_best_12 rfl ?_
      refine ze_bipush dX8_best_13 (by decide) ?_
      refine ze_icmp_lt 20 dX8_best_15 (by decide) (by omega) (by omega) (fun q4 => ?_) (fun q4 => ?_)
      · have hcond : (0 ≤ c ∧ c < (C : Int)) ∧ (0 ≤ k ∧ k < 20) := by omega
        obtain ⟨c, rfl⟩ := Int.eq_ofNat_of_zero_le hcond.1.1
        obtain ⟨k, rfl⟩ := Int.eq_ofNat_of_zero_le hcond.2.1
        have hK := hG.2.1 c (by omega)
        change ze_V G l (ze_rm 8 0 0) M8_best _ 20 [(0, .ref m), (1, ze_i ((c : Nat))), (2, ze_i ((k : Nat)))] [] w' 0 0
        refine ze_aload_n dX8_best_20 rfl ?_
        refine ze_iload_n dX8_best_21 rfl ?_
        refine ze_callV (As := [ze_i ((c : Nat))]) (rest := []) dX8_best_22 (C8_refusal hM (c := c) (by omega) hG) mo8_refusal ml_X8_164 in_8_refusal se_8_refusal (ms_o hM) rfl rfl rfl rfl rfl ⟨Nat.le_refl _, Nat.le_refl _⟩ rfl (Nat.le_of_ble_eq_true rfl) ?_
        rintro _ w' ⟨rr, rfl, hrr, rfl⟩
        change ze_V G l (ze_rm 8 0 0) M8_best _ 25 [(0, .ref m), (1, ze_i ((c : Nat))), (2, ze_i ((k : Nat)))] [ze_i (rr)] w' 0 0
        refine ze_istore_n (lv' := [(0, .ref m), (1, ze_i ((c : Nat))), (2, ze_i ((k : Nat))), (3, ze_i (rr))]) dX8_best_25 rfl rfl ?_
        refine ze_iload_n dX8_best_26 rfl ?_
        refine ze_if_eq 32 dX8_best_27 (by decide) (rfs_rng hrr) (fun q2 => ?_) (fun q2 => ?_)
        · obtain ⟨hR, hP0⟩ := rfs_ok hG (by omega) hrr q2
          obtain ⟨en, n1, n8⟩ := mch_n hR.1
          have hr0 : rfs ar P c 0 := by rw [q2] at hrr; exact hrr
          refine ze_aload_n dX8_best_32 rfl ?_
          refine ze_iload_n dX8_best_33 rfl ?_
          refine ze_callV (As := [ze_i ((c : Nat))]) (rest := []) dX8_best_34 (C8_workEnds hM (c := c) (by omega) hR) mo8_workEnds ml_X8_186 in_8_workEnds se_8_workEnds (ms_o hM) rfl rfl rfl rfl rfl ⟨Nat.le_refl _, Nat.le_refl _⟩ rfl (Nat.le_of_ble_eq_true rfl) ?_
          rintro _ w1 ⟨rfl, ar1, bz1, hM1, hg1, hok⟩
          change ze_V G l (ze_rm 8 0 0) M8_best _ 37 [(0, .ref m), (1, ze_i ((c : Nat))), (2, ze_i ((k : Nat))), (3, ze_i (rr))] [] w1 0 0
          have e15 : ∀ t, t < cn ar c → ar1 15 t = ((el ar c P (P - 1) t).1 : Nat) := fun t ht => by
            have := (hok 0 t hP0 ht).1
            rw [Nat.zero_mul, Nat.zero_add, Nat.sub_zero] at this
            exact this
          have eV : ∀ t q, t < cn ar c → q < (el ar c P (P - 1) t).1 → bz1 (1956 + 2 * (t * 20 + q)) = ((el ar c P (P - 1) t).2 q : Nat) := fun t q ht hq => by
            have := (hok 0 t hP0 ht).2.1
            rw [Nat.zero_mul, Nat.zero_add, Nat.sub_zero] at this
            exact this q hq
          have en1 : ar1 1 c = (cn ar c : Nat) := by rw [hg1.1 1 (by decide)]; exact en
          have trace : (∀ q, q ≤ k → (bpk ar c P q).2 ≠ 0) → ∀ (d i : Nat) (st rk x7 : Int) (ar2 : Nat → Nat → Int) (bz3 : Nat → Int) (w2 : ze_W), i + d = P → mst G w0 w2 m C P P ar2 bz3 → bz3 8 = ((bpk ar c P k).2 : Nat) → (∀ q, q ≠ 16 → q ≠ 17 → ar2 q = ar1 q) → (∀ q, q < i → ar2 17 q = ((btr ar c P k q).1 : Nat)) → (i < P → st = ((btr ar c P k i).1 : Nat) ∧ rk = ((btr ar c P k i).2 : Nat)) → ze_V G l (ze_rm 8 0 0) M8_best Z 276 [(0, .ref m), (1, ze_i ((c : Nat))), (2, ze_i ((k : Nat))), (3, ze_i (rr)), (4, ze_i (st)), (5, ze_i (rk)), (6, ze_i ((i : Nat))), (7, ze_i (x7))] [] w2 0 0 := by
            intro hall d
            induction d with
            | zero =>
              intro i st rk x7 ar2 bz3 w2 hi hM2 hb8 ha2 htr hst
              have hiP : i = P := by omega
              refine ze_iload dX8_best_276 rfl ?_
              refine ze_aload_n dX8_best_278 rfl ?_
              refine ze_getf dX8_best_279 fl_X8_126 (ms_o hM2) rfl ?_
              refine ze_icmp_ge 334 dX8_best_282 (by decide) (by omega) (by omega) (fun q1 => ?_) (fun q1 => ?_)
              · refine ze_aload_n dX8_best_334 rfl ?_
                refine ze_callV (As := []) (rest := []) dX8_best_335 (C8_digits hM2 (by rw [hb8]; exact Int.natCast_nonneg _)) mo8_digits ml_X8_171 in_8_digits se_8_digits (ms_o hM2) rfl rfl rfl rfl rfl ⟨Nat.le_refl _, Nat.le_refl _⟩ rfl (Nat.le_of_ble_eq_true rfl) ?_
                rintro _ w9 ⟨rd, rfl, bz9, hM9, hd9, hf9⟩
                rw [hb8, Int.toNat_natCast] at hd9
                change ze_V G l (ze_rm 8 0 0) M8_best _ 338 [(0, .ref m), (1, ze_i ((c : Nat))), (2, ze_i ((k : Nat))), (3, ze_i (rr)), (4, ze_i (st)), (5, ze_i (rk)), (6, ze_i ((i : Nat))), (7, ze_i (x7))] [ze_i (rd)] w9 0 0
                rw [← hQ]
                refine ze_ireturn rfl dX8_best_338 ⟨_, rfl, ar2, bz9, P, hM9, fun q hq => by rw [ha2 q (by omega) (by omega)]; exact hg1.1 q (by omega), Or.inr ⟨⟨hcond, hr0, hall⟩, by rw [hf9 8 (by decide), hb8]; rfl, hd9, rfl, fun q hq => ?_⟩⟩ rfl rfl
                exact htr q (by omega)
              · omega
            | succ d ih =>
              intro i st rk x7 ar2 bz3 w2 hi hM2 hb8 ha2 htr hst
              have hiP : i < P := by omega
              obtain ⟨rfl, rfl⟩ := hst hiP
              have hbo := btr_ok hP0 (hall k (Nat.le_refl _)) i hiP
              obtain ⟨s, hs⟩ : ∃ s, s = (btr ar c P k i).1 := ⟨_, rfl⟩
              obtain ⟨r, hr⟩ : ∃ r, r = (btr ar c P k i).2 := ⟨_, rfl⟩
              rw [← hs, ← hr] at hbo ⊢
              have hr20 := el_20 (ar := ar) (c := c) (L := P) (d := P - 1 - i) (s := s)
              have hP60 := hR.2.2.1
              refine ze_iload dX8_best_276 rfl ?_
              refine ze_aload_n dX8_best_278 rfl ?_
              refine ze_getf dX8_best_279 fl_X8_126 (ms_o hM2) rfl ?_
              refine ze_icmp_ge 334 dX8_best_282 (by decide) (by omega) (by omega) (fun q41 => ?_) (fun q41 => ?_)
              · omega
              · refine ze_aload_n dX8_best_285 rfl ?_
                refine ze_getf dX8_best_286 fl_X8_62 (ms_o hM2) rfl ?_
                refine ze_iload dX8_best_289 rfl ?_
                refine ze_iload dX8_best_291 rfl ?_
                refine ze_iastW (j := i) (f' := va_up (ar2 17) i (((s : Nat) : Int))) dX8_best_293 (show w2.2 (m + 17) = some (ze_ia G 60 (ar2 17)) from ms_i hM2 17 (by decide)) (by omega) (by omega) (by omega) rfl (fun w42 z42 c42 o42 => ?_)
                have hM42 := ms_wi hM2 17 (by decide) z42 c42 o42
                have e13 : (va_up ar2 17 (va_up (ar2 17) i (((s : Nat) : Int)))) 13 = ar1 13 := by rw [va_up_ne _ _ (by decide), ha2 13 (by decide) (by decide)]
                have e14 : (va_up ar2 17 (va_up (ar2 17) i (((s : Nat) : Int)))) 14 = ar1 14 := by rw [va_up_ne _ _ (by decide), ha2 14 (by decide) (by decide)]
                refine ze_iload dX8_best_294 rfl ?_
                refine ze_bipush dX8_best_296 (by decide) ?_
                refine ze_imul dX8_best_298 ?_
                refine ze_iload dX8_best_299 rfl ?_
                refine ze_iadd dX8_best_301 ?_
                refine ze_bipush dX8_best_302 (by decide) ?_
                refine ze_imul dX8_best_304 ?_
                refine ze_iload dX8_best_305 rfl ?_
                refine ze_iadd dX8_best_307 ?_
                refine ze_ti (b := (((i * 8 + s) * 20 + r : Nat))) (by omega) ?_
                refine ze_istore (lv' := [(0, .ref m), (1, ze_i ((c : Nat))), (2, ze_i ((k : Nat))), (3, ze_i (rr)), (4, ze_i ((s : Nat))), (5, ze_i ((r : Nat))), (6, ze_i ((i : Nat))), (7, ze_i ((((i * 8 + s) * 20 + r : Nat))))]) dX8_best_308 rfl rfl ?_
                refine ze_aload_n dX8_best_310 rfl ?_
                refine ze_getf dX8_best_311 fl_X8_50 (ms_o hM42) rfl ?_
                refine ze_iload dX8_best_314 rfl ?_
                refine ze_iald (j := (i * 8 + s) * 20 + r) dX8_best_316 (show w42.2 (m + 13) = some (ze_ia G 9600 ((va_up ar2 17 (va_up (ar2 17) i (((s : Nat) : Int)))) 13)) from ms_i hM42 13 (by decide)) (by omega) (by omega) (by omega) ?_
                refine ze_istore (lv' := [(0, .ref m), (1, ze_i ((c : Nat))), (2, ze_i ((k : Nat))), (3, ze_i (rr)), (4, ze_i ((va_up ar2 17 (va_up (ar2 17) i (((s : Nat) : Int)))) 13 ((i * 8 + s) * 20 + r))), (5, ze_i ((r : Nat))), (6, ze_i ((i : Nat))), (7, ze_i ((((i * 8 + s) * 20 + r : Nat))))]) dX8_best_317 rfl rfl ?_
                refine ze_aload_n dX8_best_319 rfl ?_
                refine ze_getf dX8_best_320 fl_X8_53 (ms_o hM42) rfl ?_
                refine ze_iload dX8_best_323 rfl ?_
                refine ze_iald (j := (i * 8 + s) * 20 + r) dX8_best_325 (show w42.2 (m + 14) = some (ze_ia G 9600 ((va_up ar2 17 (va_up (ar2 17) i (((s : Nat) : Int)))) 14)) from ms_i hM42 14 (by decide)) (by omega) (by omega) (by omega) ?_
                refine ze_istore (lv' := [(0, .ref m), (1, ze_i ((c : Nat))), (2, ze_i ((k : Nat))), (3, ze_i (rr)), (4, ze_i ((va_up ar2 17 (va_up (ar2 17) i (((s : Nat) : Int)))) 13 ((i * 8 + s) * 20 + r))), (5, ze_i ((va_up ar2 17 (va_up (ar2 17) i (((s : Nat) : Int)))) 14 ((i * 8 + s) * 20 + r))), (6, ze_i ((i : Nat))), (7, ze_i ((((i * 8 + s) * 20 + r : Nat))))]) dX8_best_326 rfl rfl ?_
                refine ze_iinc (b := ((i + 1 : Nat))) (lv' := [(0, .ref m), (1, ze_i ((c : Nat))), (2, ze_i ((k : Nat))), (3, ze_i (rr)), (4, ze_i ((va_up ar2 17 (va_up (ar2 17) i (((s : Nat) : Int)))) 13 ((i * 8 + s) * 20 + r))), (5, ze_i ((va_up ar2 17 (va_up (ar2 17) i (((s : Nat) : Int)))) 14 ((i * 8 + s) * 20 + r))), (6, ze_i (((i + 1 : Nat)))), (7, ze_i ((((i * 8 + s) * 20 + r : Nat))))]) dX8_best_328 rfl rfl (by omega) rfl ?_
                refine ze_goto 276 dX8_best_331 (by decide) ?_
                refine ih (i + 1) _ _ _ _ bz3 _ (by omega) hM42 hb8 (fun q h1 h2 => by rw [va_up_ne _ _ h2]; exact ha2 q h1 h2) (fun q hq => ?_) (fun hi2 => ?_)
                · rw [va_up_self]
                  by_cases e : q = i
                  · rw [e, va_up_self, hs]
                  · rw [va_up_ne _ _ e]; exact htr q (by omega)
                · have := (hok i s hiP hbo.1).2.2 (by omega) r hbo.2
                  rw [e13, e14, this.1, this.2]
                  show _ = ((epk ar c P (P - 2 - i) (btr ar c P k i).1 (btr ar c P k i).2).1 : Int) ∧ _ = ((etk ar c P (P - 2 - i) (btr ar c P k i).1 (btr ar c P k i).2 (epk ar c P (P - 2 - i) (btr ar c P k i).1 (btr ar c P k i).2).1 : Nat) : Int)
                  rw [← hs, ← hr]
                  exact ⟨rfl, rfl⟩
          have trace0 : (∀ q, q ≤ k → (bpk ar c P q).2 ≠ 0) → ∀ (st rk : Int) (ar2 : Nat → Nat → Int) (bz3 : Nat → Int) (w2 : ze_W), mst G w0 w2 m C P P ar2 bz3 → bz3 8 = ((bpk ar c P k).2 : Nat) → (∀ q, q ≠ 16 → q ≠ 17 → ar2 q = ar1 q) → (0 < P → st = ((btr ar c P k 0).1 : Nat) ∧ rk = ((btr ar c P k 0).2 : Nat)) → ze_V G l (ze_rm 8 0 0) M8_best Z 276 [(0, .ref m), (1, ze_i ((c : Nat))), (2, ze_i ((k : Nat))), (3, ze_i (rr)), (4, ze_i (st)), (5, ze_i (rk)), (6, ze_i (((0 : Nat) : Nat)))] [] w2 0 0 := by
            intro hall st rk ar2 bz3 w2 hM2 hb8 ha2 hst
            obtain ⟨rfl, rfl⟩ := hst hP0
            have hbo := btr_ok hP0 (hall k (Nat.le_refl _)) 0 hP0
            obtain ⟨s, hs⟩ : ∃ s, s = (btr ar c P k 0).1 := ⟨_, rfl⟩
            obtain ⟨r, hr⟩ : ∃ r, r = (btr ar c P k 0).2 := ⟨_, rfl⟩
            rw [← hs, ← hr] at hbo ⊢
            have hr20 := el_20 (ar := ar) (c := c) (L := P) (d := P - 1 - 0) (s := s)
            have hP60 := hR.2.2.1
            refine ze_iload dX8_best_276 rfl ?_
            refine ze_aload_n dX8_best_278 rfl ?_
            refine ze_getf dX8_best_279 fl_X8_126 (ms_o hM2) rfl ?_
            refine ze_icmp_ge 334 dX8_best_282 (by decide) (by omega) (by omega) (fun q41 => ?_) (fun q41 => ?_)
            · omega
            · refine ze_aload_n dX8_best_285 rfl ?_
              refine ze_getf dX8_best_286 fl_X8_62 (ms_o hM2) rfl ?_
              refine ze_iload dX8_best_289 rfl ?_
              refine ze_iload dX8_best_291 rfl ?_
              refine ze_iastW (j := 0) (f' := va_up (ar2 17) 0 (((s : Nat) : Int))) dX8_best_293 (show w2.2 (m + 17) = some (ze_ia G 60 (ar2 17)) from ms_i hM2 17 (by decide)) (by omega) (by omega) (by omega) rfl (fun w42 z42 c42 o42 => ?_)
              have hM42 := ms_wi hM2 17 (by decide) z42 c42 o42
              have e13 : (va_up ar2 17 (va_up (ar2 17) 0 (((s : Nat) : Int)))) 13 = ar1 13 := by rw [va_up_ne _ _ (by decide), ha2 13 (by decide) (by decide)]
              have e14 : (va_up ar2 17 (va_up (ar2 17) 0 (((s : Nat) : Int)))) 14 = ar1 14 := by rw [va_up_ne _ _ (by decide), ha2 14 (by decide) (by decide)]
              refine ze_iload dX8_best_294 rfl ?_
              refine ze_bipush dX8_best_296 (by decide) ?_
              refine ze_imul dX8_best_298 ?_
              refine ze_iload dX8_best_299 rfl ?_
              refine ze_iadd dX8_best_301 ?_
              refine ze_bipush dX8_best_302 (by decide) ?_
              refine ze_imul dX8_best_304 ?_
              refine ze_iload dX8_best_305 rfl ?_
              refine ze_iadd dX8_best_307 ?_
              refine ze_ti (b := (((0 * 8 + s) * 20 + r : Nat))) (by omega) ?_
              refine ze_istore (lv' := [(0, .ref m), (1, ze_i ((c : Nat))), (2, ze_i ((k : Nat))), (3, ze_i (rr)), (4, ze_i ((s : Nat))), (5, ze_i ((r : Nat))), (6, ze_i (((0 : Nat) : Nat))), (7, ze_i ((((0 * 8 + s) * 20 + r : Nat))))]) dX8_best_308 rfl rfl ?_
              refine ze_aload_n dX8_best_310 rfl ?_
              refine ze_getf dX8_best_311 fl_X8_50 (ms_o hM42) rfl ?_
              refine ze_iload dX8_best_314 rfl ?_
              refine ze_iald (j := (0 * 8 + s) * 20 + r) dX8_best_316 (show w42.2 (m + 13) = some (ze_ia G 9600 ((va_up ar2 17 (va_up (ar2 17) 0 (((s : Nat) : Int)))) 13)) from ms_i hM42 13 (by decide)) (by omega) (by omega) (by omega) ?_
              refine ze_istore (lv' := [(0, .ref m), (1, ze_i ((c : Nat))), (2, ze_i ((k : Nat))), (3, ze_i (rr)), (4, ze_i ((va_up ar2 17 (va_up (ar2 17) 0 (((s : Nat) : Int)))) 13 ((0 * 8 + s) * 20 + r))), (5, ze_i ((r : Nat))), (6, ze_i (((0 : Nat) : Nat))), (7, ze_i ((((0 * 8 + s) * 20 + r : Nat))))]) dX8_best_317 rfl rfl ?_
              refine ze_aload_n dX8_best_319 rfl ?_
              refine ze_getf dX8_best_320 fl_X8_53 (ms_o hM42) rfl ?_
              refine ze_iload dX8_best_323 rfl ?_
              refine ze_iald (j := (0 * 8 + s) * 20 + r) dX8_best_325 (show w42.2 (m + 14) = some (ze_ia G 9600 ((va_up ar2 17 (va_up (ar2 17) 0 (((s : Nat) : Int)))) 14)) from ms_i hM42 14 (by decide)) (by omega) (by omega) (by omega) ?_
              refine ze_istore (lv' := [(0, .ref m), (1, ze_i ((c : Nat))), (2, ze_i ((k : Nat))), (3, ze_i (rr)), (4, ze_i ((va_up ar2 17 (va_up (ar2 17) 0 (((s : Nat) : Int)))) 13 ((0 * 8 + s) * 20 + r))), (5, ze_i ((va_up ar2 17 (va_up (ar2 17) 0 (((s : Nat) : Int)))) 14 ((0 * 8 + s) * 20 + r))), (6, ze_i (((0 : Nat) : Nat))), (7, ze_i ((((0 * 8 + s) * 20 + r : Nat))))]) dX8_best_326 rfl rfl ?_
              refine ze_iinc (b := ((1 : Nat) : Nat)) (lv' := [(0, .ref m), (1, ze_i ((c : Nat))), (2, ze_i ((k : Nat))), (3, ze_i (rr)), (4, ze_i ((va_up ar2 17 (va_up (ar2 17) 0 (((s : Nat) : Int)))) 13 ((0 * 8 + s) * 20 + r))), (5, ze_i ((va_up ar2 17 (va_up (ar2 17) 0 (((s : Nat) : Int)))) 14 ((0 * 8 + s) * 20 + r))), (6, ze_i (((1 : Nat) : Nat))), (7, ze_i ((((0 * 8 + s) * 20 + r : Nat))))]) dX8_best_328 rfl rfl rfl rfl ?_
              refine ze_goto 276 dX8_best_331 (by decide) ?_
              refine trace hall (P - 1) 1 _ _ _ _ bz3 _ (by omega) hM42 hb8 (fun q h1 h2 => by rw [va_up_ne _ _ h2]; exact ha2 q h1 h2) (fun q hq => ?_) (fun hi2 => ?_)
              · rw [va_up_self, show q = 0 by omega, va_up_self, hs]
              · have := (hok 0 s hP0 hbo.1).2.2 (by omega) r hbo.2
                rw [e13, e14, this.1, this.2]
                show _ = ((epk ar c P (P - 2 - 0) (btr ar c P k 0).1 (btr ar c P k 0).2).1 : Int) ∧ _ = ((etk ar c P (P - 2 - 0) (btr ar c P k 0).1 (btr ar c P k 0).2 (epk ar c P (P - 2 - 0) (btr ar c P k 0).1 (btr ar c P k 0).2).1 : Nat) : Int)
                rw [← hs, ← hr]
                exact ⟨rfl, rfl⟩
          have picks : ∀ (d nn : Nat) (st rk : Int) (ar2 : Nat → Nat → Int) (bz2 : Nat → Int) (w2 : ze_W), nn + d = k + 1 → mst G w0 w2 m C P F ar2 bz2 → (∀ q, q ≠ 16 → ar2 q = ar1 q) → (∀ o, o ≠ 24 → o ≠ 28 → o ≠ 34 → bz2 o = bz1 o) → (∀ t, t < cn ar c → ar2 16 t = (btk ar c P nn t : Nat)) → (∀ q, q < nn → (bpk ar c P q).2 ≠ 0) → (0 < nn → st = ((bpk ar c P (nn - 1)).1 : Nat) ∧ rk = (btk ar c P (nn - 1) (bpk ar c P (nn - 1)).1 : Nat) ∧ bz2 28 = ((bpk ar c P (nn - 1)).2 : Nat)) → ze_V G l (ze_rm 8 0 0) M8_best Z 74 [(0, .ref m), (1, ze_i ((c : Nat))), (2, ze_i ((k : Nat))), (3, ze_i (rr)), (4, ze_i (st)), (5, ze_i (rk)), (6, ze_i ((nn : Nat)))] [] w2 0 0 := by
            intro d
            induction d with
            | zero =>
              intro nn st rk ar2 bz2 w2 hn hM2 ha2 hz2 h16 hall hlast
              have hnk : nn = k + 1 := by omega
              obtain ⟨e1, e2, e3⟩ := hlast (by omega)
              rw [hnk, Nat.add_sub_cancel] at e1 e2 e3
              refine ze_iload dX8_best_74 rfl ?_
              refine ze_iload_n dX8_best_76 rfl ?_
              refine ze_icmp_gt 254 dX8_best_77 (by decide) (by omega) (by omega) (fun q1 => ?_) (fun q1 => ?_)
              · refine ze_aload_n dX8_best_254 rfl ?_
                refine ze_getf dX8_best_255 fl_X8_36 (ms_o hM2) rfl ?_
                refine ze_aload_n dX8_best_258 rfl ?_
                refine ze_getf dX8_best_259 fl_X8_89 (ms_o hM2) rfl ?_
                refine ze_callV (As := [.ref (m + 28)]) (rest := []) dX8_best_262 (E7_copy hM2 (o1 := 8) (o2 := 28) (by decide) (by decide) (by decide) (bgz_cap (ms_b hM2 (o := 28) (by decide)))) mo7_copy ml_X8_143 in_7_copy se_7_copy (ms_bx hM2 (by decide)).choose_spec rfl rfl rfl rfl rfl ⟨Nat.le_refl _, Nat.le_refl _⟩ rfl (Nat.le_of_ble_eq_true rfl) ?_
                rintro _ w2 ⟨rfl, hM2⟩
                change ze_V G l (ze_rm 8 0 0) M8_best _ 265 [(0, .ref m), (1, ze_i ((c : Nat))), (2, ze_i ((k : Nat))), (3, ze_i (rr)), (4, ze_i (st)), (5, ze_i (rk)), (6, ze_i ((nn : Nat)))] [] w2 0 0
                refine ze_aload_n dX8_best_265 rfl ?_
                refine ze_aload_n dX8_best_266 rfl ?_
                refine ze_getf dX8_best_267 fl_X8_126 (ms_o hM2) rfl ?_
                refine ze_putfW (fs' := mfs m C P P) dX8_best_270 fl_X8_189 (Or.inl rfl) (ms_o hM2) rfl rfl (Nat.le_of_ble_eq_true rfl) rfl (fun w3 z3 c3 o3 => ?_)
                have hM3 := ms_wo (C' := C) (P' := P) (F' := P) hM2 z3 c3 o3
                refine ze_iconst dX8_best_273 ?_
                refine ze_ti (b := ((0 : Nat) : Nat)) rfl ?_
                refine ze_istore (lv' := [(0, .ref m), (1, ze_i ((c : Nat))), (2, ze_i ((k : Nat))), (3, ze_i (rr)), (4, ze_i (st)), (5, ze_i (rk)), (6, ze_i (((0 : Nat) : Nat)))]) dX8_best_274 rfl rfl ?_
                exact trace0 (fun q hq => hall q (by omega)) st rk ar2 _ _ hM3 (by rw [va_up_self, e3]) (fun q h1 h2 => ha2 q h1) (fun _ => ⟨e1, e2⟩)
              · omega
            | succ d ih =>
              intro nn st rk ar2 bz2 w2 hn hM2 ha2 hz2 h16 hall hlast
              have htk : ∀ t, btk ar c P nn t ≤ 20 := fun t => Nat.le_trans (tkn_le nn t) (by omega)
              have inner : ∀ (e s : Nat) (bz3 : Nat → Int) (w3 : ze_W), s + e = cn ar c → mst G w0 w3 m C P F ar2 bz3 → (∀ o, o ≠ 24 → o ≠ 28 → o ≠ 34 → bz3 o = bz1 o) → ((mx (hd (fun t => (el ar c P (P - 1) t).1) (fun t => (el ar c P (P - 1) t).2) (cb ar c) (btk ar c P nn)) s).2 ≠ 0 → bz3 28 = ((mx (hd (fun t => (el ar c P (P - 1) t).1) (fun t => (el ar c P (P - 1) t).2) (cb ar c) (btk ar c P nn)) s).2 : Nat)) → ze_V G l (ze_rm 8 0 0) M8_best Z 86 [(0, .ref m), (1, ze_i ((c : Nat))), (2, ze_i ((k : Nat))), (3, ze_i (rr)), (4, ze_i (bst (mx (hd (fun t => (el ar c P (P - 1) t).1) (fun t => (el ar c P (P - 1) t).2) (cb ar c) (btk ar c P nn)) s))), (5, ze_i (rk)), (6, ze_i ((nn : Nat))), (7, ze_i ((s : Nat)))] [] w3 0 0 := by
                intro e
                induction e with
                | zero =>
                  intro s bz3 w3 hs hM3 hz3 hb3
                  have hsn : s = cn ar c := by omega
                  have hbr := bst_rng (f := hd (fun t => (el ar c P (P - 1) t).1) (fun t => (el ar c P (P - 1) t).2) (cb ar c) (btk ar c P nn)) (show s ≤ 8 by omega)
                  have epb : mx (hd (fun t => (el ar c P (P - 1) t).1) (fun t => (el ar c P (P - 1) t).2) (cb ar c) (btk ar c P nn)) s = bpk ar c P nn := by rw [hsn]; rfl
                  refine ze_iload dX8_best_86 rfl ?_
                  refine ze_aload_n dX8_best_88 rfl ?_
                  refine ze_getf dX8_best_89 fl_X8_9 (ms_o hM3) rfl ?_
                  refine ze_iload_n dX8_best_92 rfl ?_
                  refine ze_iald (j := c) dX8_best_93 (show w3.2 (m + 1) = some (ze_ia G 6 (ar2 1)) from ms_i hM3 1 (by decide)) (by omega) (by omega) (by omega) ?_
                  rw [show ar2 1 c = (cn ar c : Nat) by rw [ha2 1 (by decide)]; exact en1]
                  refine ze_icmp_ge 221 dX8_best_94 (by decide) (by omega) (by omega) (fun q4 => ?_) (fun q4 => ?_)
                  · refine ze_iload dX8_best_221 rfl ?_
                    refine ze_if_ge 228 dX8_best_223 (by decide) (by omega) (fun q5 => ?_) (fun q5 => ?_)
                    · have hz : (mx (hd (fun t => (el ar c P (P - 1) t).1) (fun t => (el ar c P (P - 1) t).2) (cb ar c) (btk ar c P nn)) s).2 ≠ 0 := by
                        intro h
                        unfold bst at q5
                        rw [if_pos h] at q5
                        omega
                      have hbv := hb3 hz
                      rw [epb] at hz hbv
                      have hp8 : (bpk ar c P nn).1 < cn ar c := (pkk_lt (by unfold bpk at hz; exact hz)).1
                      obtain ⟨p, hp⟩ : ∃ p, p = (bpk ar c P nn).1 := ⟨_, rfl⟩
                      have hbp : bst (mx (hd (fun t => (el ar c P (P - 1) t).1) (fun t => (el ar c P (P - 1) t).2) (cb ar c) (btk ar c P nn)) s) = (p : Nat) := by rw [epb]; unfold bst; rw [if_neg hz, hp]
                      rw [← hp] at hp8
                      rw [hbp]
                      have ht16 := h16 p hp8
                      have htb := htk p
                      change ze_V G l (ze_rm 8 0 0) M8_best _ 228 [(0, .ref m), (1, ze_i ((c : Nat))), (2, ze_i ((k : Nat))), (3, ze_i (rr)), (4, ze_i ((p : Nat))), (5, ze_i (rk)), (6, ze_i ((nn : Nat))), (7, ze_i ((s : Nat)))] [] w3 0 0
                      refine ze_aload_n dX8_best_228 rfl ?_
                      refine ze_getf dX8_best_229 fl_X8_59 (ms_o hM3) rfl ?_
                      refine ze_iload dX8_best_232 rfl ?_
                      refine ze_iald (j := p) dX8_best_234 (show w3.2 (m + 16) = some (ze_ia G 8 (ar2 16)) from ms_i hM3 16 (by decide)) (by omega) (by omega) (by omega) ?_
                      rw [ht16]
                      refine ze_istore (lv' := [(0, .ref m), (1, ze_i ((c : Nat))), (2, ze_i ((k : Nat))), (3, ze_i (rr)), (4, ze_i ((p : Nat))), (5, ze_i ((btk ar c P nn p : Nat))), (6, ze_i ((nn : Nat))), (7, ze_i ((s : Nat)))]) dX8_best_235 rfl rfl ?_
                      refine ze_aload_n dX8_best_237 rfl ?_
                      refine ze_getf dX8_best_238 fl_X8_59 (ms_o hM3) rfl ?_
                      refine ze_iload dX8_best_241 rfl ?_
                      refine ze_dup2 dX8_best_243 rfl rfl ?_
                      refine ze_iald (j := p) dX8_best_244 (show w3.2 (m + 16) = some (ze_ia G 8 (ar2 16)) from ms_i hM3 16 (by decide)) (by omega) (by omega) (by omega) ?_
                      rw [ht16]
                      refine ze_iconst dX8_best_245 ?_
                      refine ze_iadd dX8_best_246 ?_
                      refine ze_ti (b := ((btk ar c P nn p + 1 : Nat))) (by omega) ?_
                      refine ze_iastW (j := p) (f' := va_up (ar2 16) p (((btk ar c P nn p + 1 : Nat) : Int))) dX8_best_247 (show w3.2 (m + 16) = some (ze_ia G 8 (ar2 16)) from ms_i hM3 16 (by decide)) (by omega) (by omega) (by omega) rfl (fun w6 z6 c6 o6 => ?_)
                      have hM6 := ms_wi hM3 16 (by decide) z6 c6 o6
                      refine ze_iinc (b := ((nn + 1 : Nat))) (lv' := [(0, .ref m), (1, ze_i ((c : Nat))), (2, ze_i ((k : Nat))), (3, ze_i (rr)), (4, ze_i ((p : Nat))), (5, ze_i ((btk ar c P nn p : Nat))), (6, ze_i (((nn + 1 : Nat)))), (7, ze_i ((s : Nat)))]) dX8_best_248 rfl rfl (by omega) rfl ?_
                      refine ze_goto 74 dX8_best_251 (by decide) ?_
                      refine ze_lv (lv' := [(0, .ref m), (1, ze_i ((c : Nat))), (2, ze_i ((k : Nat))), (3, ze_i (rr)), (4, ze_i ((p : Nat))), (5, ze_i ((btk ar c P nn p : Nat))), (6, ze_i (((nn + 1 : Nat))))]) [0, 1, 2, 3, 4, 5, 6] rfl ?_
                      refine ih (nn + 1) _ _ _ bz3 _ (by omega) hM6 (fun q h1 => by rw [va_up_ne _ _ h1]; exact ha2 q h1) hz3 (fun t ht => ?_) (fun q hq => ?_) (fun _ => ?_)
                      · rw [va_up_self]
                        show va_up (ar2 16) p _ t = ((if (bpk ar c P nn).2 = 0 then btk ar c P nn t else va_up (btk ar c P nn) (bpk ar c P nn).1 (btk ar c P nn (bpk ar c P nn).1 + 1) t : Nat) : Int)
                        rw [if_neg hz, ← hp]
                        by_cases e : t = p
                        · rw [e, va_up_self, va_up_self]
                        · rw [va_up_ne _ _ e, va_up_ne _ _ e]
                          exact h16 t ht
                      · by_cases e : q = nn
                        · rw [e]; exact hz
                        · exact hall q (by omega)
                      · rw [Nat.add_sub_cancel, ← hp]
                        exact ⟨rfl, rfl, hbv⟩
                    · refine ze_iconst dX8_best_226 ?_
                      have hz : (bpk ar c P nn).2 = 0 := by
                        rw [← epb]
                        rcases Nat.eq_zero_or_pos (mx (hd (fun t => (el ar c P (P - 1) t).1) (fun t => (el ar c P (P - 1) t).2) (cb ar c) (btk ar c P nn)) s).2 with h | h
                        · exact h
                        · unfold bst at q5
                          rw [if_neg (by omega)] at q5
                          omega
                      rw [← hQ]
                      exact ze_ireturn rfl dX8_best_227 ⟨_, rfl, ar2, bz3, F, hM3, fun q hq => by rw [ha2 q (by omega)]; exact hg1.1 q (by omega), Or.inl ⟨Or.inr (Or.inr ⟨hcond, hr0, ⟨nn, by omega, hz⟩, rfl⟩), by rw [hz3 8 (by decide) (by decide) (by decide)]; exact hg1.2 8 (by decide) (by decide) (by decide), by rw [ha2 17 (by decide)]; exact hg1.1 17 (by decide), rfl⟩⟩ rfl rfl
                  · omega
                | succ e ihe =>
                  intro s bz3 w3 hs hM3 hz3 hb3
                  have hsn : s < cn ar c := by omega
                  obtain ⟨eb, eb2⟩ := mch_b hK (show s < 8 by omega)
                  have eb1 : ar2 4 (c * 8 + s) = (cb ar c s : Nat) := by rw [ha2 4 (by decide), hg1.1 4 (by decide)]; exact eb
                  have e15s : ar2 15 s = ((el ar c P (P - 1) s).1 : Nat) := by rw [ha2 15 (by decide)]; exact e15 s hsn
                  have e16s := h16 s hsn
                  have htb := htk s
                  have h20 := el_20 (ar := ar) (c := c) (L := P) (d := P - 1) (s := s)
                  have hbr := bst_rng (f := hd (fun t => (el ar c P (P - 1) t).1) (fun t => (el ar c P (P - 1) t).2) (cb ar c) (btk ar c P nn)) (show s ≤ 8 by omega)
                  have emx := mx_s (hd (fun t => (el ar c P (P - 1) t).1) (fun t => (el ar c P (P - 1) t).2) (cb ar c) (btk ar c P nn)) s
                  obtain ⟨D, hD⟩ : ∃ D, D = cb ar c s := ⟨_, rfl⟩
                  obtain ⟨tks, htks⟩ : ∃ q, q = btk ar c P nn s := ⟨_, rfl⟩
                  rw [← hD] at eb1 eb2
                  rw [← htks] at e16s htb
                  have t215 : ∀ (bz4 : Nat → Int) (w4 : ze_W), mst G w0 w4 m C P F ar2 bz4 → (∀ o, o ≠ 24 → o ≠ 28 → o ≠ 34 → bz4 o = bz1 o) → ((mx (hd (fun t => (el ar c P (P - 1) t).1) (fun t => (el ar c P (P - 1) t).2) (cb ar c) (btk ar c P nn)) (s + 1)).2 ≠ 0 → bz4 28 = ((mx (hd (fun t => (el ar c P (P - 1) t).1) (fun t => (el ar c P (P - 1) t).2) (cb ar c) (btk ar c P nn)) (s + 1)).2 : Nat)) → ze_V G l (ze_rm 8 0 0) M8_best Z 215 [(0, .ref m), (1, ze_i ((c : Nat))), (2, ze_i ((k : Nat))), (3, ze_i (rr)), (4, ze_i (bst (mx (hd (fun t => (el ar c P (P - 1) t).1) (fun t => (el ar c P (P - 1) t).2) (cb ar c) (btk ar c P nn)) (s + 1)))), (5, ze_i (rk)), (6, ze_i ((nn : Nat))), (7, ze_i ((s : Nat)))] [] w4 0 0 := by
                    intro bz4 w4 hM4 hz4 hb4
                    refine ze_iinc (b := ((s + 1 : Nat))) (lv' := [(0, .ref m), (1, ze_i ((c : Nat))), (2, ze_i ((k : Nat))), (3, ze_i (rr)), (4, ze_i (bst (mx (hd (fun t => (el ar c P (P - 1) t).1) (fun t => (el ar c P (P - 1) t).2) (cb ar c) (btk ar c P nn)) (s + 1)))), (5, ze_i (rk)), (6, ze_i ((nn : Nat))), (7, ze_i (((s + 1 : Nat))))]) dX8_best_215 rfl rfl (by omega) rfl ?_
                    refine ze_goto 86 dX8_best_218 (by decide) ?_
                    exact ihe (s + 1) bz4 w4 (by omega) hM4 hz4 hb4
                  refine ze_iload dX8_best_86 rfl ?_
                  refine ze_aload_n dX8_best_88 rfl ?_
                  refine ze_getf dX8_best_89 fl_X8_9 (ms_o hM3) rfl ?_
                  refine ze_iload_n dX8_best_92 rfl ?_
                  refine ze_iald (j := c) dX8_best_93 (show w3.2 (m + 1) = some (ze_ia G 6 (ar2 1)) from ms_i hM3 1 (by decide)) (by omega) (by omega) (by omega) ?_
                  rw [show ar2 1 c = (cn ar c : Nat) by rw [ha2 1 (by decide)]; exact en1]
                  refine ze_icmp_ge 221 dX8_best_94 (by decide) (by omega) (by omega) (fun q1 => ?_) (fun q1 => ?_)
                  · omega
                  · refine ze_aload_n dX8_best_97 rfl ?_
                    refine ze_getf dX8_best_98 fl_X8_59 (ms_o hM3) rfl ?_
                    refine ze_iload dX8_best_101 rfl ?_
                    refine ze_iald (j := s) dX8_best_103 (show w3.2 (m + 16) = some (ze_ia G 8 (ar2 16)) from ms_i hM3 16 (by decide)) (by omega) (by omega) (by omega) ?_
                    rw [e16s]
                    refine ze_aload_n dX8_best_104 rfl ?_
                    refine ze_getf dX8_best_105 fl_X8_56 (ms_o hM3) rfl ?_
                    refine ze_iload dX8_best_108 rfl ?_
                    refine ze_iald (j := s) dX8_best_110 (show w3.2 (m + 15) = some (ze_ia G 480 (ar2 15)) from ms_i hM3 15 (by decide)) (by omega) (by omega) (by omega) ?_
                    rw [e15s]
                    refine ze_icmp_ge 215 dX8_best_111 (by decide) (by omega) (by omega) (fun q2 => ?_) (fun q2 => ?_)
                    · have hh : hd (fun t => (el ar c P (P - 1) t).1) (fun t => (el ar c P (P - 1) t).2) (cb ar c) (btk ar c P nn) s = 0 := by
                        unfold hd
                        show (if btk ar c P nn s < (el ar c P (P - 1) s).1 then _ else 0) = 0; rw [← htks, if_neg (by omega)]
                      rw [hh, if_neg (by omega)] at emx
                      rw [← emx]
                      change ze_V G l (ze_rm 8 0 0) M8_best _ 215 [(0, .ref m), (1, ze_i ((c : Nat))), (2, ze_i ((k : Nat))), (3, ze_i (rr)), (4, ze_i (bst (mx (hd (fun t => (el ar c P (P - 1) t).1) (fun t => (el ar c P (P - 1) t).2) (cb ar c) (btk ar c P nn)) (s + 1)))), (5, ze_i (rk)), (6, ze_i ((nn : Nat))), (7, ze_i ((s : Nat)))] [] w3 0 0
                      exact t215 bz3 _ hM3 hz3 (by rw [emx]; exact hb3)
                    · refine ze_aload_n dX8_best_114 rfl ?_
                      refine ze_getf dX8_best_115 fl_X8_19 (ms_o hM3) rfl ?_
                      refine ze_iload_n dX8_best_118 rfl ?_
                      refine ze_bipush dX8_best_119 (by decide) ?_
                      refine ze_imul dX8_best_121 ?_
                      refine ze_iload dX8_best_122 rfl ?_
                      refine ze_iadd dX8_best_124 ?_
                      refine ze_iald (j := c * 8 + s) dX8_best_125 (show w3.2 (m + 4) = some (ze_ia G 48 (ar2 4)) from ms_i hM3 4 (by decide)) (by omega) (by omega) (by omega) ?_
                      rw [eb1]
                      refine ze_if_ne 132 dX8_best_126 (by decide) (by omega) (fun q3 => ?_) (fun q3 => ?_)
                      · have hav : tks < (el ar c P (P - 1) s).1 := by omega
                        have ev := eV s tks hsn hav
                        have ev0 := el_pos hav
                        have evb := el_le hR (P - 1) s tks (by omega) (by omega) hav
                        have hh : hd (fun t => (el ar c P (P - 1) t).1) (fun t => (el ar c P (P - 1) t).2) (cb ar c) (btk ar c P nn) s = (el ar c P (P - 1) s).2 tks * D := by
                          unfold hd
                          rw [← htks, if_pos hav, hD]
                        have hpos : 0 < (el ar c P (P - 1) s).2 tks * D := Nat.mul_pos ev0 (by omega)
                        have fv : fit (((el ar c P (P - 1) s).2 tks : Nat) : Int) 46 := fit_46 evb (by have := hR.2.2.1; omega)
                        have fp : fit (((el ar c P (P - 1) s).2 tks * D : Nat) : Int) 47 := by
                          rw [Int.natCast_mul]
                          exact fit_mul fv (fit_sm (by omega))
                        rw [hh] at emx
                        refine ze_aload_n dX8_best_132 rfl ?_
                        refine ze_getf dX8_best_133 fl_X8_98 (ms_o hM3) rfl ?_
                        refine ze_aload_n dX8_best_136 rfl ?_
                        refine ze_getf dX8_best_137 fl_X8_19 (ms_o hM3) rfl ?_
                        refine ze_iload_n dX8_best_140 rfl ?_
                        refine ze_bipush dX8_best_141 (by decide) ?_
                        refine ze_imul dX8_best_143 ?_
                        refine ze_iload dX8_best_144 rfl ?_
                        refine ze_iadd dX8_best_146 ?_
                        refine ze_iald (j := c * 8 + s) dX8_best_147 (show w3.2 (m + 4) = some (ze_ia G 48 (ar2 4)) from ms_i hM3 4 (by decide)) (by omega) (by omega) (by omega) ?_
                        rw [eb1]
                        refine ze_i2l dX8_best_148 (by omega) ?_
                        refine ze_callV (As := [ze_l ((D : Nat))]) (rest := []) dX8_best_149 (E7_of hM3 (o1 := 34) (v := ((D : Nat) : Int)) (by decide) (by omega)) mo7_of ml_X8_132 in_7_of se_7_of (ms_bx hM3 (by decide)).choose_spec rfl rfl rfl rfl rfl ⟨Nat.le_refl _, Nat.le_refl _⟩ rfl (Nat.le_of_ble_eq_true rfl) ?_
                        rintro _ w4 ⟨rfl, hM4⟩
                        change ze_V G l (ze_rm 8 0 0) M8_best _ 152 [(0, .ref m), (1, ze_i ((c : Nat))), (2, ze_i ((k : Nat))), (3, ze_i (rr)), (4, ze_i (bst (mx (hd (fun t => (el ar c P (P - 1) t).1) (fun t => (el ar c P (P - 1) t).2) (cb ar c) (btk ar c P nn)) s))), (5, ze_i (rk)), (6, ze_i ((nn : Nat))), (7, ze_i ((s : Nat)))] [] w4 0 0
                        have e34 : (va_up bz3 34 ((D : Nat) : Int)) 34 = (D : Nat) := va_up_self _ _ _
                        have eo : ∀ o, o ≠ 34 → (va_up bz3 34 ((D : Nat) : Int)) o = bz3 o := fun o g => va_up_ne _ _ g
                        generalize va_up bz3 34 ((D : Nat) : Int) = bz5 at *
                        refine ze_aload_n dX8_best_152 rfl ?_
                        refine ze_getf dX8_best_153 fl_X8_83 (ms_o hM4) rfl ?_
                        refine ze_aload_n dX8_best_156 rfl ?_
                        refine ze_getf dX8_best_157 fl_X8_47 (ms_o hM4) rfl ?_
                        refine ze_iload dX8_best_160 rfl ?_
                        refine ze_bipush dX8_best_162 (by decide) ?_
                        refine ze_imul dX8_best_164 ?_
                        refine ze_aload_n dX8_best_165 rfl ?_
                        refine ze_getf dX8_best_166 fl_X8_59 (ms_o hM4) rfl ?_
                        refine ze_iload dX8_best_169 rfl ?_
                        refine ze_iald (j := s) dX8_best_171 (show w4.2 (m + 16) = some (ze_ia G 8 (ar2 16)) from ms_i hM4 16 (by decide)) (by omega) (by omega) (by omega) ?_
                        rw [e16s]
                        refine ze_iadd dX8_best_172 ?_
                        refine ze_aald (j := s * 20 + tks) (b := (m + (1956 + 2 * (s * 20 + tks)))) dX8_best_173 (show w4.2 (m + 12) = some (ze_ra G 4 9600 (fun j => some (m + mro 12 j))) from ms_r hM4 12 (by decide)) rfl (by omega) (by omega) (by omega) rfl ?_
                        refine ze_aload_n dX8_best_174 rfl ?_
                        refine ze_getf dX8_best_175 fl_X8_98 (ms_o hM4) rfl ?_
                        have ev2 : bz5 (1956 + 2 * (s * 20 + tks)) = ((el ar c P (P - 1) s).2 tks : Nat) := by rw [eo _ (by omega), hz3 _ (by omega) (by omega) (by omega)]; exact ev
                        refine ze_callV (As := [.ref (m + (1956 + 2 * (s * 20 + tks))), .ref (m + 34)]) (rest := []) dX8_best_178 (E7_times hM4 (o1 := 24) (o2 := 1956 + 2 * (s * 20 + tks)) (o3 := 34) (K1 := 46) (K2 := 1) (by decide) (mc_12 (by omega)) (by decide) (by omega) (by decide) (by rw [ev2]; exact fv) (by rw [e34]; exact fit_sm (by omega)) (by decide)) mo7_times ml_X8_136 in_7_times se_7_times (ms_bx hM4 (by decide)).choose_spec rfl rfl rfl rfl rfl ⟨Nat.le_refl _, Nat.le_refl _⟩ rfl (Nat.le_of_ble_eq_true rfl) ?_
                        rintro _ w5 ⟨rfl, hM5⟩
                        change ze_V G l (ze_rm 8 0 0) M8_best _ 181 [(0, .ref m), (1, ze_i ((c : Nat))), (2, ze_i ((k : Nat))), (3, ze_i (rr)), (4, ze_i (bst (mx (hd (fun t => (el ar c P (P - 1) t).1) (fun t => (el ar c P (P - 1) t).2) (cb ar c) (btk ar c P nn)) s))), (5, ze_i (rk)), (6, ze_i ((nn : Nat))), (7, ze_i ((s : Nat)))] [] w5 0 0
                        have e24 : (va_up bz5 24 (bz5 (1956 + 2 * (s * 20 + tks)) * bz5 34)) 24 = (((el ar c P (P - 1) s).2 tks * D : Nat) : Int) := by rw [va_up_self, ev2, e34]; exact (Int.natCast_mul _ _).symm
                        have eo2 : ∀ o, o ≠ 24 → o ≠ 34 → (va_up bz5 24 (bz5 (1956 + 2 * (s * 20 + tks)) * bz5 34)) o = bz3 o := fun o g g2 => by rw [va_up_ne _ _ g, eo o g2]
                        generalize va_up bz5 24 (bz5 (1956 + 2 * (s * 20 + tks)) * bz5 34) = bz6 at *
                        refine ze_iload dX8_best_181 rfl ?_
                        refine ze_if_lt 200 dX8_best_183 (by decide) (by omega) (fun q6 => ?_) (fun q6 => ?_)
                        · have hz : (mx (hd (fun t => (el ar c P (P - 1) t).1) (fun t => (el ar c P (P - 1) t).2) (cb ar c) (btk ar c P nn)) s).2 = 0 := by
                            rcases Nat.eq_zero_or_pos (mx (hd (fun t => (el ar c P (P - 1) t).1) (fun t => (el ar c P (P - 1) t).2) (cb ar c) (btk ar c P nn)) s).2 with h | h
                            · exact h
                            · unfold bst at q6
                              rw [if_neg (by omega)] at q6
                              omega
                          have hgt : (mx (hd (fun t => (el ar c P (P - 1) t).1) (fun t => (el ar c P (P - 1) t).2) (cb ar c) (btk ar c P nn)) s).2 < (el ar c P (P - 1) s).2 tks * D := by omega
                          refine ze_iload dX8_best_200 rfl ?_
                          rw [if_pos hgt] at emx
                          refine ze_ti (b := bst (mx (hd (fun t => (el ar c P (P - 1) t).1) (fun t => (el ar c P (P - 1) t).2) (cb ar c) (btk ar c P nn)) (s + 1))) (by rw [emx]; unfold bst; rw [if_neg (by show ¬ (el ar c P (P - 1) s).2 tks * D = 0; omega)]) ?_
                          refine ze_istore (lv' := [(0, .ref m), (1, ze_i ((c : Nat))), (2, ze_i ((k : Nat))), (3, ze_i (rr)), (4, ze_i (bst (mx (hd (fun t => (el ar c P (P - 1) t).1) (fun t => (el ar c P (P - 1) t).2) (cb ar c) (btk ar c P nn)) (s + 1)))), (5, ze_i (rk)), (6, ze_i ((nn : Nat))), (7, ze_i ((s : Nat)))]) dX8_best_202 rfl rfl ?_
                          refine ze_aload_n dX8_best_204 rfl ?_
                          refine ze_getf dX8_best_205 fl_X8_89 (ms_o hM5) rfl ?_
                          refine ze_aload_n dX8_best_208 rfl ?_
                          refine ze_getf dX8_best_209 fl_X8_83 (ms_o hM5) rfl ?_
                          refine ze_callV (As := [.ref (m + 24)]) (rest := []) dX8_best_212 (E7_copy hM5 (o1 := 28) (o2 := 24) (by decide) (by decide) (by decide) (by rw [e24]; exact fit_le fp (by decide))) mo7_copy ml_X8_143 in_7_copy se_7_copy (ms_bx hM5 (by decide)).choose_spec rfl rfl rfl rfl rfl ⟨Nat.le_refl _, Nat.le_refl _⟩ rfl (Nat.le_of_ble_eq_true rfl) ?_
                          rintro _ w7 ⟨rfl, hM7⟩
                          change ze_V G l (ze_rm 8 0 0) M8_best _ 215 [(0, .ref m), (1, ze_i ((c : Nat))), (2, ze_i ((k : Nat))), (3, ze_i (rr)), (4, ze_i (bst (mx (hd (fun t => (el ar c P (P - 1) t).1) (fun t => (el ar c P (P - 1) t).2) (cb ar c) (btk ar c P nn)) (s + 1)))), (5, ze_i (rk)), (6, ze_i ((nn : Nat))), (7, ze_i ((s : Nat)))] [] w7 0 0
                          exact t215 _ _ hM7 (fun o g1 g2 g3 => by rw [va_up_ne _ _ g2, eo2 o g1 g3]; exact hz3 o g1 g2 g3) (by rw [emx]; intro _; rw [va_up_self, e24])
                        · refine ze_aload_n dX8_best_186 rfl ?_
                          refine ze_getf dX8_best_187 fl_X8_83 (ms_o hM5) rfl ?_
                          refine ze_aload_n dX8_best_190 rfl ?_
                          refine ze_getf dX8_best_191 fl_X8_89 (ms_o hM5) rfl ?_
                          have hz : (mx (hd (fun t => (el ar c P (P - 1) t).1) (fun t => (el ar c P (P - 1) t).2) (cb ar c) (btk ar c P nn)) s).2 ≠ 0 := by
                            intro h
                            unfold bst at q6
                            rw [if_pos h] at q6
                            omega
                          have hat := hb3 hz
                          refine ze_callV (As := [.ref (m + 28)]) (rest := []) dX8_best_194 (E7_compare hM5 (o1 := 24) (o2 := 28) (by decide) (by decide)) mo7_compare ml_X8_178 in_7_compare se_7_compare (ms_bx hM5 (by decide)).choose_spec rfl rfl rfl rfl rfl ⟨Nat.le_refl _, Nat.le_refl _⟩ rfl (Nat.le_of_ble_eq_true rfl) ?_
                          rintro _ w' ⟨rc, rfl, hrc, rfl⟩
                          rw [e24, eo2 28 (by decide) (by decide), hat] at hrc
                          change ze_V G l (ze_rm 8 0 0) M8_best _ 197 [(0, .ref m), (1, ze_i ((c : Nat))), (2, ze_i ((k : Nat))), (3, ze_i (rr)), (4, ze_i (bst (mx (hd (fun t => (el ar c P (P - 1) t).1) (fun t => (el ar c P (P - 1) t).2) (cb ar c) (btk ar c P nn)) s))), (5, ze_i (rk)), (6, ze_i ((nn : Nat))), (7, ze_i ((s : Nat)))] [ze_i (rc)] w' 0 0
                          refine ze_if_le 215 dX8_best_197 (by decide) (by rw [hrc]; exact cmp3_rng _ _) (fun q8 => ?_) (fun q8 => ?_)
                          · have hle := cmp3_le0 (show cmp3 _ _ ≤ 0 by rw [← hrc]; exact q8)
                            rw [if_neg (by omega)] at emx
                            rw [← emx]
                            change ze_V G l (ze_rm 8 0 0) M8_best _ 215 [(0, .ref m), (1, ze_i ((c : Nat))), (2, ze_i ((k : Nat))), (3, ze_i (rr)), (4, ze_i (bst (mx (hd (fun t => (el ar c P (P - 1) t).1) (fun t => (el ar c P (P - 1) t).2) (cb ar c) (btk ar c P nn)) (s + 1)))), (5, ze_i (rk)), (6, ze_i ((nn : Nat))), (7, ze_i ((s : Nat)))] [] w' 0 0
                            exact t215 bz6 _ hM5 (fun o g1 g2 g3 => by rw [eo2 o g1 g3]; exact hz3 o g1 g2 g3) (by rw [emx]; intro _; rw [eo2 28 (by decide) (by decide)]; exact hat)
                          · have hgt := cmp3_gt0 (show 0 < cmp3 _ _ by rw [← hrc]; exact q8)
                            refine ze_iload dX8_best_200 rfl ?_
                            rw [if_pos hgt] at emx
                            refine ze_ti (b := bst (mx (hd (fun t => (el ar c P (P - 1) t).1) (fun t => (el ar c P (P - 1) t).2) (cb ar c) (btk ar c P nn)) (s + 1))) (by rw [emx]; unfold bst; rw [if_neg (by show ¬ (el ar c P (P - 1) s).2 tks * D = 0; omega)]) ?_
                            refine ze_istore (lv' := [(0, .ref m), (1, ze_i ((c : Nat))), (2, ze_i ((k : Nat))), (3, ze_i (rr)), (4, ze_i (bst (mx (hd (fun t => (el ar c P (P - 1) t).1) (fun t => (el ar c P (P - 1) t).2) (cb ar c) (btk ar c P nn)) (s + 1)))), (5, ze_i (rk)), (6, ze_i ((nn : Nat))), (7, ze_i ((s : Nat)))]) dX8_best_202 rfl rfl ?_
                            refine ze_aload_n dX8_best_204 rfl ?_
                            refine ze_getf dX8_best_205 fl_X8_89 (ms_o hM5) rfl ?_
                            refine ze_aload_n dX8_best_208 rfl ?_
                            refine ze_getf dX8_best_209 fl_X8_83 (ms_o hM5) rfl ?_
                            refine ze_callV (As := [.ref (m + 24)]) (rest := []) dX8_best_212 (E7_copy hM5 (o1 := 28) (o2 := 24) (by decide) (by decide) (by decide) (by rw [e24]; exact fit_le fp (by decide))) mo7_copy ml_X8_143 in_7_copy se_7_copy (ms_bx hM5 (by decide)).choose_spec rfl rfl rfl rfl rfl ⟨Nat.le_refl _, Nat.le_refl _⟩ rfl (Nat.le_of_ble_eq_true rfl) ?_
                            rintro _ w9 ⟨rfl, hM9⟩
                            change ze_V G l (ze_rm 8 0 0) M8_best _ 215 [(0, .ref m), (1, ze_i ((c : Nat))), (2, ze_i ((k : Nat))), (3, ze_i (rr)), (4, ze_i (bst (mx (hd (fun t => (el ar c P (P - 1) t).1) (fun t => (el ar c P (P - 1) t).2) (cb ar c) (btk ar c P nn)) (s + 1)))), (5, ze_i (rk)), (6, ze_i ((nn : Nat))), (7, ze_i ((s : Nat)))] [] w9 0 0
                            exact t215 _ _ hM9 (fun o g1 g2 g3 => by rw [va_up_ne _ _ g2, eo2 o g1 g3]; exact hz3 o g1 g2 g3) (by rw [emx]; intro _; rw [va_up_self, e24])
                      · refine ze_goto 215 dX8_best_129 (by decide) ?_
                        have hh : hd (fun t => (el ar c P (P - 1) t).1) (fun t => (el ar c P (P - 1) t).2) (cb ar c) (btk ar c P nn) s = 0 := by
                          unfold hd
                          rw [← hD, show D = 0 by omega, Nat.mul_zero]; split <;> rfl
                        rw [hh, if_neg (by omega)] at emx
                        rw [← emx]
                        change ze_V G l (ze_rm 8 0 0) M8_best _ 215 [(0, .ref m), (1, ze_i ((c : Nat))), (2, ze_i ((k : Nat))), (3, ze_i (rr)), (4, ze_i (bst (mx (hd (fun t => (el ar c P (P - 1) t).1) (fun t => (el ar c P (P - 1) t).2) (cb ar c) (btk ar c P nn)) (s + 1)))), (5, ze_i (rk)), (6, ze_i ((nn : Nat))), (7, ze_i ((s : Nat)))] [] w3 0 0
                        exact t215 bz3 _ hM3 hz3 (by rw [emx]; exact hb3)
              refine ze_iload dX8_best_74 rfl ?_
              refine ze_iload_n dX8_best_76 rfl ?_
              refine ze_icmp_gt 254 dX8_best_77 (by decide) (by omega) (by omega) (fun q1 => ?_) (fun q1 => ?_)
              · omega
              · refine ze_iconst dX8_best_80 ?_
                refine ze_ti (b := bst (mx (hd (fun t => (el ar c P (P - 1) t).1) (fun t => (el ar c P (P - 1) t).2) (cb ar c) (btk ar c P nn)) 0)) rfl ?_
                refine ze_istore (lv' := [(0, .ref m), (1, ze_i ((c : Nat))), (2, ze_i ((k : Nat))), (3, ze_i (rr)), (4, ze_i (bst (mx (hd (fun t => (el ar c P (P - 1) t).1) (fun t => (el ar c P (P - 1) t).2) (cb ar c) (btk ar c P nn)) 0))), (5, ze_i (rk)), (6, ze_i ((nn : Nat)))]) dX8_best_81 rfl rfl ?_
                refine ze_iconst dX8_best_83 ?_
                refine ze_ti (b := ((0 : Nat) : Nat)) rfl ?_
                refine ze_istore (lv' := [(0, .ref m), (1, ze_i ((c : Nat))), (2, ze_i ((k : Nat))), (3, ze_i (rr)), (4, ze_i (bst (mx (hd (fun t => (el ar c P (P - 1) t).1) (fun t => (el ar c P (P - 1) t).2) (cb ar c) (btk ar c P nn)) 0))), (5, ze_i (rk)), (6, ze_i ((nn : Nat))), (7, ze_i (((0 : Nat) : Nat)))]) dX8_best_84 rfl rfl ?_
                exact inner (cn ar c) 0 bz2 _ (by omega) hM2 hz2 (fun h => absurd rfl h)
          have zero : ∀ (d t : Nat) (ar2 : Nat → Nat → Int) (w2 : ze_W), t + d = cn ar c → mst G w0 w2 m C P F ar2 bz1 → (∀ q, q ≠ 16 → ar2 q = ar1 q) → (∀ q, q < t → ar2 16 q = ((0 : Nat) : Nat)) → ze_V G l (ze_rm 8 0 0) M8_best Z 40 [(0, .ref m), (1, ze_i ((c : Nat))), (2, ze_i ((k : Nat))), (3, ze_i (rr)), (4, ze_i ((t : Nat)))] [] w2 0 0 := by
            intro d
            induction d with
            | zero =>
              intro t ar2 w2 ht hM2 ha2 h16
              refine ze_iload dX8_best_40 rfl ?_
              refine ze_aload_n dX8_best_42 rfl ?_
              refine ze_getf dX8_best_43 fl_X8_9 (ms_o hM2) rfl ?_
              refine ze_iload_n dX8_best_46 rfl ?_
              refine ze_iald (j := c) dX8_best_47 (show w2.2 (m + 1) = some (ze_ia G 6 (ar2 1)) from ms_i hM2 1 (by decide)) (by omega) (by omega) (by omega) ?_
              rw [show ar2 1 c = (cn ar c : Nat) by rw [ha2 1 (by decide)]; exact en1]
              refine ze_icmp_ge 65 dX8_best_48 (by decide) (by omega) (by omega) (fun q1 => ?_) (fun q1 => ?_)
              · refine ze_iconst dX8_best_65 ?_
                refine ze_istore (lv' := [(0, .ref m), (1, ze_i ((c : Nat))), (2, ze_i ((k : Nat))), (3, ze_i (rr)), (4, ze_i (-1))]) dX8_best_66 rfl rfl ?_
                refine ze_iconst dX8_best_68 ?_
                refine ze_istore (lv' := [(0, .ref m), (1, ze_i ((c : Nat))), (2, ze_i ((k : Nat))), (3, ze_i (rr)), (4, ze_i (-1)), (5, ze_i (0))]) dX8_best_69 rfl rfl ?_
                refine ze_iconst dX8_best_71 ?_
                refine ze_ti (b := ((0 : Nat) : Nat)) rfl ?_
                refine ze_istore (lv' := [(0, .ref m), (1, ze_i ((c : Nat))), (2, ze_i ((k : Nat))), (3, ze_i (rr)), (4, ze_i (-1)), (5, ze_i (0)), (6, ze_i (((0 : Nat) : Nat)))]) dX8_best_72 rfl rfl ?_
                exact picks (k + 1) 0 _ _ ar2 bz1 _ (by omega) hM2 ha2 (fun o _ _ _ => rfl) (fun q hq => h16 q (by omega)) (fun q hq => absurd hq (Nat.not_lt_zero _)) (fun h => absurd h (Nat.lt_irrefl _))
              · omega
            | succ d ih =>
              intro t ar2 w2 ht hM2 ha2 h16
              refine ze_iload dX8_best_40 rfl ?_
              refine ze_aload_n dX8_best_42 rfl ?_
              refine ze_getf dX8_best_43 fl_X8_9 (ms_o hM2) rfl ?_
              refine ze_iload_n dX8_best_46 rfl ?_
              refine ze_iald (j := c) dX8_best_47 (show w2.2 (m + 1) = some (ze_ia G 6 (ar2 1)) from ms_i hM2 1 (by decide)) (by omega) (by omega) (by omega) ?_
              rw [show ar2 1 c = (cn ar c : Nat) by rw [ha2 1 (by decide)]; exact en1]
              refine ze_icmp_ge 65 dX8_best_48 (by decide) (by omega) (by omega) (fun q1 => ?_) (fun q1 => ?_)
              · omega
              · refine ze_aload_n dX8_best_51 rfl ?_
                refine ze_getf dX8_best_52 fl_X8_59 (ms_o hM2) rfl ?_
                refine ze_iload dX8_best_55 rfl ?_
                refine ze_iconst dX8_best_57 ?_
                refine ze_iastW (j := t) (f' := va_up (ar2 16) t (0)) dX8_best_58 (show w2.2 (m + 16) = some (ze_ia G 8 (ar2 16)) from ms_i hM2 16 (by decide)) (by omega) (by omega) (by omega) rfl (fun w2 z2 c2 o2 => ?_)
                have hM2 := ms_wi hM2 16 (by decide) z2 c2 o2
                refine ze_iinc (b := ((t + 1 : Nat))) (lv' := [(0, .ref m), (1, ze_i ((c : Nat))), (2, ze_i ((k : Nat))), (3, ze_i (rr)), (4, ze_i (((t + 1 : Nat))))]) dX8_best_59 rfl rfl (by omega) rfl ?_
                refine ze_goto 40 dX8_best_62 (by decide) ?_
                exact ih (t + 1) _ _ (by omega) hM2 (fun q h1 => by rw [va_up_ne _ _ h1]; exact ha2 q h1) (fun q hq => by
                  rw [va_up_self]
                  by_cases e : q = t
                  · rw [e, va_up_self]; rfl
                  · rw [va_up_ne _ _ e]; exact h16 q (by omega))
          refine ze_iconst dX8_best_37 ?_
          refine ze_ti (b := ((0 : Nat) : Nat)) rfl ?_
          refine ze_istore (lv' := [(0, .ref m), (1, ze_i ((c : Nat))), (2, ze_i ((k : Nat))), (3, ze_i (rr)), (4, ze_i (((0 : Nat) : Nat)))]) dX8_best_38 rfl rfl ?_
          exact zero (cn ar c) 0 ar1 _ (by omega) hM1 (fun _ _ => rfl) (fun q hq => absurd hq (Nat.not_lt_zero _))
        · refine ze_iload_n dX8_best_30 rfl ?_
          rw [← hQ]
          exact ze_ireturn rfl dX8_best_31 ⟨_, rfl, ar, bz, F, hM, fun _ _ => rfl, Or.inl ⟨Or.inr (Or.inl ⟨hcond, hrr, q2⟩), rfl, rfl, rfl⟩⟩ rfl rfl
      · refine ze_iconst dX8_best_18 ?_
        rw [← hQ]
        exact ze_ireturn rfl dX8_best_19 ⟨_, rfl, ar, bz, F, hM, fun _ _ => rfl, Or.inl ⟨Or.inl ⟨by omega, rfl⟩, rfl, rfl, rfl⟩⟩ rfl rfl
