/-! Teller: the rows that are kept -/
/-- the tables are those of the system S -/
def tbl (S : tm_S) (K : Nat) (ia : Nat → Nat → Int) : Prop := (∀ s t, s < S.1 → t < S.1 → ia 1 (s * 16 + t) = S.2.2.1 s t ∧ 0 ≤ S.2.2.1 s t ∧ S.2.2.1 s t ≤ 1000) ∧ (∀ s x, s < S.1 → x < K → ia 2 (s * 6 + x) = S.2.1 s x ∧ 0 ≤ S.2.1 s x ∧ S.2.1 s x ≤ 1000) ∧ ∀ s, s < S.1 → ia 3 s = S.2.2.2 s ∧ -1000 ≤ S.2.2.2 s ∧ S.2.2.2 s ≤ 1000
/-- q rows are kept: their words, differences, echelon lines and pivots -/
def kst (p : Int) (S : tm_S) (K q : Nat) (wd : Nat → List Nat) (e : Nat → Nat → Int) (pv : Nat → Nat) (ia la : Nat → Nat → Int) : Prop := (∀ i, i < q → alw K (wd i) ∧ (wd i).length ≤ i ∧ p ∣ tm_ph S (wd i)) ∧ (∀ i, i < q → ia 5 i = ((wd i).length : Nat) ∧ (∀ j, j < (wd i).length → ia 4 (i * 16 + j) = (tm_rd (wd i) j : Nat)) ∧ ia 8 i = (pv i : Nat)) ∧ (∀ i t, i < q → t < S.1 → la 6 (i * 16 + t) = tm_dv S (wd i) t % p ∧ la 7 (i * 16 + t) = e i t ∧ 0 ≤ e i t ∧ e i t < p) ∧ tm_tri p S.1 e pv q ∧ tm_spn p S.1 (fun i => tm_dv S (wd i)) e q
theorem kst_lt {p : Int} {S : tm_S} {K q : Nat} {wd : Nat → List Nat} {e : Nat → Nat → Int} {pv : Nat → Nat} {ia la : Nat → Nat → Int} (h : kst p S K q wd e pv ia la) (hN : 1 ≤ S.1) : q + 1 ≤ S.1 := tm_lt hN h.2.2.2.1 h.2.2.2.2 (fun i hi => (h.1 i hi).2.2)
theorem C4_keepGrown0 {G : ze_G} {l : Launch} {w0 w : ze_W} {E K q FL : Nat} {ia la : Nat → Nat → Int} {S : tm_S} {x : Nat} {p : Int} {z : List Nat} {wd : Nat → List Nat} {e : Nat → Nat → Int} {pv : Nat → Nat} (hS : tst G w0 w E S.1 K q FL ia la) (hN : 1 ≤ S.1 ∧ S.1 ≤ 16) (hp : 2 ≤ p ∧ p < 2147483648) (hpp : tm_prm p) (hk : kst p S K q wd e pv ia la) (hq0 : q = 0) (hz : z = []) (hzp : p ∣ tm_ph S z) (hgr : ∀ t, t < S.1 → la 10 t = tm_dv S z t % p) : ze_C G l 2 0 0 M4_keepGrown [.ref E, ze_i (-1), ze_i (x : Nat), ze_i p] w (ze_qv (fun w' => ∃ ia' la' q' wd' e' pv', tst G w0 w' E S.1 K q' FL ia' la' ∧ kst p S K q' wd' e' pv' ia' la' ∧ (∀ j, j ≠ 4 → j ≠ 5 → j ≠ 8 → ia' j = ia j) ∧ ((q' = q ∧ wd' = wd ∧ ∀ f, (∀ j, j < q → p ∣ tm_dz S.1 f (tm_dv S (wd j))) → p ∣ tm_dz S.1 f (tm_dv S z)) ∨ (q' = q + 1 ∧ wd' = va_up wd q z)))) := by
  have hq := kst_lt hk hN.1
  have hzl : alw K z ∧ z.length ≤ q := by
    rw [hz]; exact ⟨True.intro, Nat.zero_le _⟩
  refine ze_enter (by decide +kernel) rfl ?_
  generalize hQ : (ze_Q G (ze_qv (fun w' => ∃ ia' la' q' wd' e' pv', tst G w0 w' E S.1 K q' FL ia' la' ∧ kst p S K q' wd' e' pv' ia' la' ∧ (∀ j, j ≠ 4 → j ≠ 5 → j ≠ 8 → ia' j = ia j) ∧ ((q' = q ∧ wd' = wd ∧ ∀ f, (∀ j, j < q → p ∣ tm_dz S.1 f (tm_dv S (wd j))) → p ∣ tm_dz S.1 f (tm_dv S z)) ∨ (q' = q + 1 ∧ wd' = va_up wd q z)))) 0 0) = Z
  have loop : ∀ (d t : Nat) (la1 : Nat → Nat → Int) (w1 : ze_W), t + d = S.1 → tst G w0 w1 E S.1 K q FL ia la1 → (∀ j, j ≠ 6 → j ≠ 7 → la1 j = la j) → (∀ y, y < q * 16 ∨ q * 16 + 16 ≤ y → la1 6 y = la 6 y ∧ la1 7 y = la 7 y) → (∀ u, u < t → la1 6 (q * 16 + u) = tm_dv S z u % p ∧ la1 7 (q * 16 + u) = tm_dv S z u % p) → ze_V G l (ze_rm 2 0 0) M4_keepGrown Z 22 [(0, .ref E), (1, ze_i (-1)), (2, ze_i ((x : Nat))), (3, ze_i (p)), (4, ze_i (((q * 16 : Nat)))), (5, ze_i ((t : Nat)))] [] w1 0 0 := by
    intro d
    induction d with
    | zero =>
      intro t la1 w1 hd hS1 i1 i2 i3
      have hm : ∀ u, 0 ≤ tm_dv S z u % p ∧ tm_dv S z u % p < p := fun u => ⟨Int.emod_nonneg _ (by omega), Int.emod_lt_of_pos _ (by omega)⟩
      have hk3 : ∀ i u, i < q → u < S.1 → la1 7 (i * 16 + u) = e i u ∧ 0 ≤ e i u ∧ e i u < p := fun i u hi hu => by
        rw [(i2 _ (by omega)).2]
        exact (hk.2.2.1 i u hi hu).2
      rw [← hQ]
      refine ze_iload dX4_keepGrown_22 rfl ?_
      refine ze_aload_n dX4_keepGrown_24 rfl ?_
      refine ze_getf dX4_keepGrown_25 fl_X4_9 (tt_o hS1) rfl ?_
      refine ze_icmp_ge 71 dX4_keepGrown_28 (by decide) (by omega) (by omega) (fun q1 => ?_) (fun q1 => ?_)
      · refine ze_aload_n dX4_keepGrown_71 rfl ?_
        refine ze_iload_n dX4_keepGrown_72 rfl ?_
        refine ze_callV (As := [ze_i (p)]) (rest := []) dX4_keepGrown_73 (C4_reduceLast (e := e) (y := fun u => tm_dv S z u % p) (pv := pv) hS1 hN.2 (by omega) hp hpp hk3 (fun u hu => ⟨(i3 u (by omega)).2, hm u⟩) (fun i hi => (hk.2.1 i hi).2.2) hk.2.2.2.1) mo4_reduceLast ml_X4_118 in_4_reduceLast se_4_reduceLast (tt_o hS1) rfl rfl rfl rfl rfl ⟨Nat.le_refl _, Nat.le_refl _⟩ rfl (Nat.le_of_ble_eq_true rfl) ?_
        rintro _ w2 ⟨r, rfl, la2, y2, hS2, r1, r2, r3, r4, r5, r6⟩
        change ze_V G l (ze_rm 2 0 0) M4_keepGrown _ 76 [(0, .ref E), (1, ze_i (-1)), (2, ze_i ((x : Nat))), (3, ze_i (p)), (4, ze_i (((q * 16 : Nat)))), (5, ze_i ((t : Nat)))] [ze_i (r)] w2 0 0
        have hfz : ∀ f, (∀ j, j < q → p ∣ tm_dz S.1 f (tm_dv S (wd j))) → (p ∣ tm_dz S.1 f y2 ↔ p ∣ tm_dz S.1 f (tm_dv S z)) := fun f hf => by
          rw [r5 f (hk.2.2.2.2 f hf)]
          exact tm_iff (tm_dz_c (fun u _ => tm_dm _ _))
        have hk6 : ∀ i u, i < q → u < S.1 → la2 6 (i * 16 + u) = tm_dv S (wd i) u % p ∧ la2 7 (i * 16 + u) = e i u ∧ 0 ≤ e i u ∧ e i u < p := fun i u hi hu => by
          rw [r1 6 (by decide), (i2 _ (by omega)).1, r2 _ (by omega)]
          exact ⟨(hk.2.2.1 i u hi hu).1, hk3 i u hi hu⟩
        rcases r6 with ⟨rfl, r7⟩ | ⟨k, rfl, hkN, r7⟩
        · change ze_V G l (ze_rm 2 0 0) M4_keepGrown _ 76 [(0, .ref E), (1, ze_i (-1)), (2, ze_i ((x : Nat))), (3, ze_i (p)), (4, ze_i (((q * 16 : Nat)))), (5, ze_i ((t : Nat)))] [ze_i (-1)] w2 0 0
          refine ze_istore (lv' := [(0, .ref E), (1, ze_i (-1)), (2, ze_i ((x : Nat))), (3, ze_i (p)), (4, ze_i (((q * 16 : Nat)))), (5, ze_i (-1))]) dX4_keepGrown_76 rfl rfl ?_
          refine ze_iload dX4_keepGrown_78 rfl ?_
          refine ze_if_ge 84 dX4_keepGrown_80 (by decide) (by omega) (fun q2 => ?_) (fun q2 => ?_)
          · omega
          · exact ze_return rfl dX4_keepGrown_83 ⟨rfl, ia, la2, q, wd, e, pv, hS2, ⟨hk.1, hk.2.1, hk6, hk.2.2.2⟩, fun _ _ _ _ => rfl, Or.inl ⟨rfl, rfl, fun f hf => (hfz f hf).mp (tm_dvd_sz (fun u hu => by rw [r7 u hu, Int.mul_zero]; exact Int.dvd_zero p))⟩⟩ rfl rfl
        · change ze_V G l (ze_rm 2 0 0) M4_keepGrown _ 76 [(0, .ref E), (1, ze_i (-1)), (2, ze_i ((x : Nat))), (3, ze_i (p)), (4, ze_i (((q * 16 : Nat)))), (5, ze_i ((t : Nat)))] [ze_i ((k : Nat))] w2 0 0
          have hnz : ¬ p ∣ y2 k := fun h => r7 (Int.eq_zero_of_dvd_of_natAbs_lt_natAbs h (by have := (r3 k hkN).2; omega))
          have hfin : ∀ ia3 : Nat → Nat → Int, (∀ j, j ≠ 4 → j ≠ 5 → j ≠ 8 → ia3 j = ia j) → (∀ i, i < q → ia3 5 i = ia 5 i ∧ (∀ j, j < 16 → ia3 4 (i * 16 + j) = ia 4 (i * 16 + j)) ∧ ia3 8 i = ia 8 i) → ia3 5 q = (z.length : Nat) → (∀ j, j < z.length → ia3 4 (q * 16 + j) = (tm_rd z j : Nat)) → ia3 8 q = (k : Nat) → kst p S K (q + 1) (va_up wd q z) (va_up e q y2) (va_up pv q k) ia3 la2 := by
            intro ia3 _ g2 g3 g4 g5
            refine ⟨fun i hi => ?_, fun i hi => ?_, fun i u hi hu => ?_, fun j hj => ?_, fun f hf j hj => ?_⟩
            · by_cases h : i = q
              · rw [h, va_up_self]; exact ⟨hzl.1, hzl.2, hzp⟩
              · rw [va_up_ne _ _ h]; exact hk.1 i (by omega)
            · by_cases h : i = q
              · rw [h, va_up_self, va_up_self]; exact ⟨g3, g4, g5⟩
              · rw [va_up_ne _ _ h, va_up_ne _ _ h]
                obtain ⟨g6, g7, g8⟩ := g2 i (by omega)
                obtain ⟨k1, k2, k3⟩ := hk.2.1 i (by omega)
                have hli := (hk.1 i (by omega)).2.1
                exact ⟨g6.trans k1, fun j hj => (g7 j (by omega)).trans (k2 j hj), g8.trans k3⟩
            · by_cases h : i = q
              · rw [h, va_up_self, va_up_self]
                exact ⟨by rw [r1 6 (by decide)]; exact (i3 u (by omega)).1, r3 u hu⟩
              · rw [va_up_ne _ _ h, va_up_ne _ _ h]; exact hk6 i u (by omega) hu
            · by_cases h : j = q
              · rw [h, va_up_self, va_up_self]
                refine ⟨hkN, hnz, fun i hi => ?_⟩
                rw [va_up_ne _ _ (by omega)]
                exact r4 i hi
              · rw [va_up_ne _ _ h, va_up_ne _ _ h]
                obtain ⟨k1, k2, k3⟩ := hk.2.2.2.1 j (by omega)
                refine ⟨k1, k2, fun i hi => ?_⟩
                rw [va_up_ne _ _ (by omega)]
                exact k3 i hi
            · have hf2 : ∀ t, t < q → p ∣ tm_dz S.1 f (tm_dv S (wd t)) := fun t ht2 => by
                have this : p ∣ tm_dz S.1 f (tm_dv S (va_up wd q z t)) := hf t (by omega)
                rw [va_up_ne _ _ (by omega)] at this
                exact this
              by_cases h : j = q
              · rw [h, va_up_self]
                refine (hfz f hf2).mpr ?_
                have this : p ∣ tm_dz S.1 f (tm_dv S (va_up wd q z q)) := hf q (by omega)
                rw [va_up_self] at this
                exact this
              · rw [va_up_ne _ _ h]; exact hk.2.2.2.2 f hf2 j (by omega)
          refine ze_istore (lv' := [(0, .ref E), (1, ze_i (-1)), (2, ze_i ((x : Nat))), (3, ze_i (p)), (4, ze_i (((q * 16 : Nat)))), (5, ze_i ((k : Nat)))]) dX4_keepGrown_76 rfl rfl ?_
          refine ze_iload dX4_keepGrown_78 rfl ?_
          refine ze_if_ge 84 dX4_keepGrown_80 (by decide) (by omega) (fun q3 => ?_) (fun q3 => ?_)
          · refine ze_aload_n dX4_keepGrown_84 rfl ?_
            refine ze_getf dX4_keepGrown_85 fl_X4_44 (tt_o hS2) rfl ?_
            refine ze_aload_n dX4_keepGrown_88 rfl ?_
            refine ze_getf dX4_keepGrown_89 fl_X4_28 (tt_o hS2) rfl ?_
            refine ze_iload dX4_keepGrown_92 rfl ?_
            refine ze_iastW (j := q) (f' := va_up (ia 8) q ((k : Nat))) dX4_keepGrown_94 (show w2.2 (E + 8) = some (ze_ia G 16 (ia 8)) from tt_i hS2 8 (by decide)) (by omega) (by omega) (by omega) rfl (fun w4 z4 c4 o4 => ?_)
            have hS4 := tt_wi hS2 8 (by decide) z4 c4 o4
            refine ze_aload_n dX4_keepGrown_95 rfl ?_
            refine ze_getf dX4_keepGrown_96 fl_X4_34 (tt_o hS4) rfl ?_
            refine ze_aload_n dX4_keepGrown_99 rfl ?_
            refine ze_getf dX4_keepGrown_100 fl_X4_28 (tt_o hS4) rfl ?_
            refine ze_iconst dX4_keepGrown_103 ?_
            refine ze_ti (b := ((0 : Nat) : Nat)) rfl ?_
            refine ze_iastW (j := q) (f' := va_up ((va_up ia 8 (va_up (ia 8) q ((k : Nat)))) 5) q (((0 : Nat) : Nat))) dX4_keepGrown_104 (show w4.2 (E + 5) = some (ze_ia G 16 ((va_up ia 8 (va_up (ia 8) q ((k : Nat)))) 5)) from tt_i hS4 5 (by decide)) (by omega) (by omega) (by omega) rfl (fun w5 z5 c5 o5 => ?_)
            have hS5 := tt_wi hS4 5 (by decide) z5 c5 o5
            refine ze_iload_n dX4_keepGrown_105 rfl ?_
            refine ze_if_lt 130 dX4_keepGrown_106 (by decide) (by omega) (fun q6 => ?_) (fun q6 => ?_)
            · refine ze_aload_n dX4_keepGrown_130 rfl ?_
              refine ze_dup dX4_keepGrown_131 rfl ?_
              refine ze_getf dX4_keepGrown_132 fl_X4_28 (tt_o hS5) rfl ?_
              refine ze_iconst dX4_keepGrown_135 ?_
              refine ze_iadd dX4_keepGrown_136 ?_
              refine ze_ti (b := ((q + 1 : Nat))) (by omega) ?_
              refine ze_putfW (fs' := tfs E S.1 K (q + 1) FL) dX4_keepGrown_137 fl_X4_28 (Or.inl rfl) (tt_o hS5) rfl rfl (Nat.le_of_ble_eq_true rfl) rfl (fun w7 z7 c7 o7 => ?_)
              have hS7 := tt_wo (N' := S.1) (K' := K) (q' := (q + 1)) (F' := FL) hS5 z7 c7 o7
              refine ze_return rfl dX4_keepGrown_140 ⟨rfl, _, la2, q + 1, _, _, _, hS7, hfin _ (fun j g1 g2 g3 => by rw [va_up_ne _ _ g2, va_up_ne _ _ g3]) (fun i hi => by omega) ?_ (fun j hj => by rw [hz] at hj; exact absurd hj (Nat.not_lt_zero _)) ?_, fun j g1 g2 g3 => by rw [va_up_ne _ _ g2, va_up_ne _ _ g3], Or.inr ⟨rfl, rfl⟩⟩ rfl rfl
              · rw [va_up_self, va_up_self, hz]; rfl
              · rw [va_up_ne _ _ (by decide), va_up_self, va_up_self]
            · omega
          · omega
      · omega
    | succ d ih =>
      intro t la1 w1 hd hS1 i1 i2 i3
      refine ze_iload dX4_keepGrown_22 rfl ?_
      refine ze_aload_n dX4_keepGrown_24 rfl ?_
      refine ze_getf dX4_keepGrown_25 fl_X4_9 (tt_o hS1) rfl ?_
      refine ze_icmp_ge 71 dX4_keepGrown_28 (by decide) (by omega) (by omega) (fun q1 => ?_) (fun q1 => ?_)
      · omega
      · refine ze_aload_n dX4_keepGrown_31 rfl ?_
        refine ze_getf dX4_keepGrown_32 fl_X4_37 (tt_o hS1) rfl ?_
        refine ze_iload dX4_keepGrown_35 rfl ?_
        refine ze_iload dX4_keepGrown_37 rfl ?_
        refine ze_iadd dX4_keepGrown_39 ?_
        refine ze_aload_n dX4_keepGrown_40 rfl ?_
        refine ze_getf dX4_keepGrown_41 fl_X4_50 (tt_o hS1) rfl ?_
        refine ze_iload dX4_keepGrown_44 rfl ?_
        refine ze_lald (j := t) dX4_keepGrown_46 (show w1.2 (E + 10) = some (ze_la G 16 (la1 10)) from tt_l hS1 10 (by decide)) (by omega) (by omega) (by omega) ?_
        rw [i1 10 (by decide) (by decide), hgr t (by omega)]
        refine ze_lastW (j := (q * 16 + t)) (f' := va_up (la1 6) (q * 16 + t) (tm_dv S z t % p)) dX4_keepGrown_47 (show w1.2 (E + 6) = some (ze_la G 256 (la1 6)) from tt_l hS1 6 (by decide)) (by omega) (by omega) (by omega) rfl (fun w2 z2 c2 o2 => ?_)
        have hS2 := tt_wl hS1 6 (by decide) z2 c2 o2
        refine ze_aload_n dX4_keepGrown_48 rfl ?_
        refine ze_getf dX4_keepGrown_49 fl_X4_41 (tt_o hS2) rfl ?_
        refine ze_iload dX4_keepGrown_52 rfl ?_
        refine ze_iload dX4_keepGrown_54 rfl ?_
        refine ze_iadd dX4_keepGrown_56 ?_
        refine ze_aload_n dX4_keepGrown_57 rfl ?_
        refine ze_getf dX4_keepGrown_58 fl_X4_50 (tt_o hS2) rfl ?_
        refine ze_iload dX4_keepGrown_61 rfl ?_
        refine ze_lald (j := t) dX4_keepGrown_63 (show w2.2 (E + 10) = some (ze_la G 16 ((va_up la1 6 (va_up (la1 6) (q * 16 + t) (tm_dv S z t % p))) 10)) from tt_l hS2 10 (by decide)) (by omega) (by omega) (by omega) ?_
        rw [va_up_ne _ _ (by decide), i1 10 (by decide) (by decide), hgr t (by omega)]
        refine ze_lastW (j := (q * 16 + t)) (f' := va_up ((va_up la1 6 (va_up (la1 6) (q * 16 + t) (tm_dv S z t % p))) 7) (q * 16 + t) (tm_dv S z t % p)) dX4_keepGrown_64 (show w2.2 (E + 7) = some (ze_la G 256 ((va_up la1 6 (va_up (la1 6) (q * 16 + t) (tm_dv S z t % p))) 7)) from tt_l hS2 7 (by decide)) (by omega) (by omega) (by omega) rfl (fun w3 z3 c3 o3 => ?_)
        have hS3 := tt_wl hS2 7 (by decide) z3 c3 o3
        refine ze_iinc (b := ((t + 1 : Nat))) (lv' := [(0, .ref E), (1, ze_i (-1)), (2, ze_i ((x : Nat))), (3, ze_i (p)), (4, ze_i (((q * 16 : Nat)))), (5, ze_i (((t + 1 : Nat))))]) dX4_keepGrown_65 rfl rfl (by omega) rfl ?_
        refine ze_goto 22 dX4_keepGrown_68 (by decide) ?_
        refine ih (t + 1) _ _ (by omega) hS3 (fun j g1 g2 => by rw [va_up_ne _ _ g2, va_up_ne _ _ g1]; exact i1 j g1 g2) (fun y hy => ?_) (fun u hu => ?_)
        · rw [va_up_ne _ _ (by decide), va_up_self, va_up_self, va_up_ne _ _ (by omega), va_up_ne _ _ (by omega), va_up_ne _ _ (by decide)]
          exact i2 y hy
        · rw [va_up_ne _ _ (by decide), va_up_self, va_up_self]
          by_cases h : u = t
          · rw [h, va_up_self, va_up_self]; exact ⟨rfl, rfl⟩
          · rw [va_up_ne _ _ (by omega), va_up_ne _ _ (by omega), va_up_ne _ _ (by decide)]; exact i3 u (by omega)
  change ze_V G l (ze_rm 2 0 0) M4_keepGrown Z 0 [(0, .ref E), (1, ze_i (-1)), (2, ze_i ((x : Nat))), (3, ze_i (p))] [] w 0 0
  refine ze_aload_n dX4_keepGrown_0 rfl ?_
  refine ze_getf dX4_keepGrown_1 fl_X4_28 (tt_o hS) rfl ?_
  refine ze_bipush dX4_keepGrown_4 (by decide) ?_
  refine ze_icmp_lt 10 dX4_keepGrown_6 (by decide) (by omega) (by omega) (fun q1 => ?_) (fun q1 => ?_)
  · refine ze_aload_n dX4_keepGrown_10 rfl ?_
    refine ze_getf dX4_keepGrown_11 fl_X4_28 (tt_o hS) rfl ?_
    refine ze_bipush dX4_keepGrown_14 (by decide) ?_
    refine ze_imul dX4_keepGrown_16 ?_
    refine ze_ti (b := ((q * 16 : Nat))) (by omega) ?_
    refine ze_istore (lv' := [(0, .ref E), (1, ze_i (-1)), (2, ze_i ((x : Nat))), (3, ze_i (p)), (4, ze_i (((q * 16 : Nat))))]) dX4_keepGrown_17 rfl rfl ?_
    refine ze_iconst dX4_keepGrown_19 ?_
    refine ze_ti (b := ((0 : Nat) : Nat)) rfl ?_
    refine ze_istore (lv' := [(0, .ref E), (1, ze_i (-1)), (2, ze_i ((x : Nat))), (3, ze_i (p)), (4, ze_i (((q * 16 : Nat)))), (5, ze_i (((0 : Nat) : Nat)))]) dX4_keepGrown_20 rfl rfl ?_
    exact loop S.1 0 la w (by omega) hS (fun _ _ _ => rfl) (fun _ _ => ⟨rfl, rfl⟩) (fun u hu => absurd hu (Nat.not_lt_zero _))
  · omega
theorem C4_keepGrown {G : ze_G} {l : Launch} {w0 w : ze_W} {E K q FL : Nat} {ia la : Nat → Nat → Int} {S : tm_S} {pr : Nat} {x : Nat} {p : Int} {z : List Nat} {wd : Nat → List Nat} {e : Nat → Nat → Int} {pv : Nat → Nat} (hS : tst G w0 w E S.1 K q FL ia la) (hN : 1 ≤ S.1 ∧ S.1 ≤ 16) (hp : 2 ≤ p ∧ p < 2147483648) (hpp : tm_prm p) (hk : kst p S K q wd e pv ia la) (hpr : pr < q) (hx : x < K) (hz : z = x :: wd pr) (hzp : p ∣ tm_ph S z) (hgr : ∀ t, t < S.1 → la 10 t = tm_dv S z t % p) : ze_C G l 2 0 0 M4_keepGrown [.ref E, ze_i ((pr : Nat)), ze_i (x : Nat), ze_i p] w (ze_qv (fun w' => ∃ ia' la' q' wd' e' pv', tst G w0 w' E S.1 K q' FL ia' la' ∧ kst p S K q' wd' e' pv' ia' la' ∧ (∀ j, j ≠ 4 → j ≠ 5 → j ≠ 8 → ia' j = ia j) ∧ ((q' = q ∧ wd' = wd ∧ ∀ f, (∀ j, j < q → p ∣ tm_dz S.1 f (tm_dv S (wd j))) → p ∣ tm_dz S.1 f (tm_dv S z)) ∨ (q' = q + 1 ∧ wd' = va_up wd q z)))) := by
  have hq := kst_lt hk hN.1
  have hzl : alw K z ∧ z.length ≤ q := by
    have := hk.1 pr hpr; rw [hz]; exact ⟨⟨hx, this.1⟩, show (wd pr).length + 1 ≤ q by omega⟩
  refine ze_enter (by decide +kernel) rfl ?_
  generalize hQ : (ze_Q G (ze_qv (fun w' => ∃ ia' la' q' wd' e' pv', tst G w0 w' E S.1 K q' FL ia' la' ∧ kst p S K q' wd' e' pv' ia' la' ∧ (∀ j, j ≠ 4 → j ≠ 5 → j ≠ 8 → ia' j = ia j) ∧ ((q' = q ∧ wd' = wd ∧ ∀ f, (∀ j, j < q → p ∣ tm_dz S.1 f (tm_dv S (wd j))) → p ∣ tm_dz S.1 f (tm_dv S z)) ∨ (q' = q + 1 ∧ wd' = va_up wd q z)))) 0 0) = Z
  have loop : ∀ (d t : Nat) (la1 : Nat → Nat → Int) (w1 : ze_W), t + d = S.1 → tst G w0 w1 E S.1 K q FL ia la1 → (∀ j, j ≠ 6 → j ≠ 7 → la1 j = la j) → (∀ y, y < q * 16 ∨ q * 16 + 16 ≤ y → la1 6 y = la 6 y ∧ la1 7 y = la 7 y) → (∀ u, u < t → la1 6 (q * 16 + u) = tm_dv S z u % p ∧ la1 7 (q * 16 + u) = tm_dv S z u % p) → ze_V G l (ze_rm 2 0 0) M4_keepGrown Z 22 [(0, .ref E), (1, ze_i ((pr : Nat))), (2, ze_i ((x : Nat))), (3, ze_i (p)), (4, ze_i (((q * 16 : Nat)))), (5, ze_i ((t : Nat)))] [] w1 0 0 := by
    intro d
    induction d with
    | zero =>
      intro t la1 w1 hd hS1 i1 i2 i3
      have hm : ∀ u, 0 ≤ tm_dv S z u % p ∧ tm_dv S z u % p < p := fun u => ⟨Int.emod_nonneg _ (by omega), Int.emod_lt_of_pos _ (by omega)⟩
      have hk3 : ∀ i u, i < q → u < S.1 → la1 7 (i * 16 + u) = e i u ∧ 0 ≤ e i u ∧ e i u < p := fun i u hi hu => by
        rw [(i2 _ (by omega)).2]
        exact (hk.2.2.1 i u hi hu).2
      rw [← hQ]
      refine ze_iload dX4_keepGrown_22 rfl ?_
      refine ze_aload_n dX4_keepGrown_24 rfl ?_
      refine ze_getf dX4_keepGrown_25 fl_X4_9 (tt_o hS1) rfl ?_
      refine ze_icmp_ge 71 dX4_keepGrown_28 (by decide) (by omega) (by omega) (fun q1 => ?_) (fun q1 => ?_)
      · refine ze_aload_n dX4_keepGrown_71 rfl ?_
        refine ze_iload_n dX4_keepGrown_72 rfl ?_
        refine ze_callV (As := [ze_i (p)]) (rest := []) dX4_keepGrown_73 (C4_reduceLast (e := e) (y := fun u => tm_dv S z u % p) (pv := pv) hS1 hN.2 (by omega) hp hpp hk3 (fun u hu => ⟨(i3 u (by omega)).2, hm u⟩) (fun i hi => (hk.2.1 i hi).2.2) hk.2.2.2.1) mo4_reduceLast ml_X4_118 in_4_reduceLast se_4_reduceLast (tt_o hS1) rfl rfl rfl rfl rfl ⟨Nat.le_refl _, Nat.le_refl _⟩ rfl (Nat.le_of_ble_eq_true rfl) ?_
        rintro _ w2 ⟨r, rfl, la2, y2, hS2, r1, r2, r3, r4, r5, r6⟩
        change ze_V G l (ze_rm 2 0 0) M4_keepGrown _ 76 [(0, .ref E), (1, ze_i ((pr : Nat))), (2, ze_i ((x : Nat))), (3, ze_i (p)), (4, ze_i (((q * 16 : Nat)))), (5, ze_i ((t : Nat)))] [ze_i (r)] w2 0 0
        have hfz : ∀ f, (∀ j, j < q → p ∣ tm_dz S.1 f (tm_dv S (wd j))) → (p ∣ tm_dz S.1 f y2 ↔ p ∣ tm_dz S.1 f (tm_dv S z)) := fun f hf => by
          rw [r5 f (hk.2.2.2.2 f hf)]
          exact tm_iff (tm_dz_c (fun u _ => tm_dm _ _))
        have hk6 : ∀ i u, i < q → u < S.1 → la2 6 (i * 16 + u) = tm_dv S (wd i) u % p ∧ la2 7 (i * 16 + u) = e i u ∧ 0 ≤ e i u ∧ e i u < p := fun i u hi hu => by
          rw [r1 6 (by decide), (i2 _ (by omega)).1, r2 _ (by omega)]
          exact ⟨(hk.2.2.1 i u hi hu).1, hk3 i u hi hu⟩
        rcases r6 with ⟨rfl, r7⟩ | ⟨k, rfl, hkN, r7⟩
        · change ze_V G l (ze_rm 2 0 0) M4_keepGrown _ 76 [(0, .ref E), (1, ze_i ((pr : Nat))), (2, ze_i ((x : Nat))), (3, ze_i (p)), (4, ze_i (((q * 16 : Nat)))), (5, ze_i ((t : Nat)))] [ze_i (-1)] w2 0 0
          refine ze_istore (lv' := [(0, .ref E), (1, ze_i ((pr : Nat))), (2, ze_i ((x : Nat))), (3, ze_i (p)), (4, ze_i (((q * 16 : Nat)))), (5, ze_i (-1))]) dX4_keepGrown_76 rfl rfl ?_
          refine ze_iload dX4_keepGrown_78 rfl ?_
          refine ze_if_ge 84 dX4_keepGrown_80 (by decide) (by omega) (fun q2 => ?_) (fun q2 => ?_)
          · omega
          · exact ze_return rfl dX4_keepGrown_83 ⟨rfl, ia, la2, q, wd, e, pv, hS2, ⟨hk.1, hk.2.1, hk6, hk.2.2.2⟩, fun _ _ _ _ => rfl, Or.inl ⟨rfl, rfl, fun f hf => (hfz f hf).mp (tm_dvd_sz (fun u hu => by rw [r7 u hu, Int.mul_zero]; exact Int.dvd_zero p))⟩⟩ rfl rfl
        · change ze_V G l (ze_rm 2 0 0) M4_keepGrown _ 76 [(0, .ref E), (1, ze_i ((pr : Nat))), (2, ze_i ((x : Nat))), (3, ze_i (p)), (4, ze_i (((q * 16 : Nat)))), (5, ze_i ((t : Nat)))] [ze_i ((k : Nat))] w2 0 0
          have hnz : ¬ p ∣ y2 k := fun h => r7 (Int.eq_zero_of_dvd_of_natAbs_lt_natAbs h (by have := (r3 k hkN).2; omega))
          have hfin : ∀ ia3 : Nat → Nat → Int, (∀ j, j ≠ 4 → j ≠ 5 → j ≠ 8 → ia3 j = ia j) → (∀ i, i < q → ia3 5 i = ia 5 i ∧ (∀ j, j < 16 → ia3 4 (i * 16 + j) = ia 4 (i * 16 + j)) ∧ ia3 8 i = ia 8 i) → ia3 5 q = (z.length : Nat) → (∀ j, j < z.length → ia3 4 (q * 16 + j) = (tm_rd z j : Nat)) → ia3 8 q = (k : Nat) → kst p S K (q + 1) (va_up wd q z) (va_up e q y2) (va_up pv q k) ia3 la2 := by
            intro ia3 _ g2 g3 g4 g5
            refine ⟨fun i hi => ?_, fun i hi => ?_, fun i u hi hu => ?_, fun j hj => ?_, fun f hf j hj => ?_⟩
            · by_cases h : i = q
              · rw [h, va_up_self]; exact ⟨hzl.1, hzl.2, hzp⟩
              · rw [va_up_ne _ _ h]; exact hk.1 i (by omega)
            · by_cases h : i = q
              · rw [h, va_up_self, va_up_self]; exact ⟨g3, g4, g5⟩
              · rw [va_up_ne _ _ h, va_up_ne _ _ h]
                obtain ⟨g6, g7, g8⟩ := g2 i (by omega)
                obtain ⟨k1, k2, k3⟩ := hk.2.1 i (by omega)
                have hli := (hk.1 i (by omega)).2.1
                exact ⟨g6.trans k1, fun j hj => (g7 j (by omega)).trans (k2 j hj), g8.trans k3⟩
            · by_cases h : i = q
              · rw [h, va_up_self, va_up_self]
                exact ⟨by rw [r1 6 (by decide)]; exact (i3 u (by omega)).1, r3 u hu⟩
              · rw [va_up_ne _ _ h, va_up_ne _ _ h]; exact hk6 i u (by omega) hu
            · by_cases h : j = q
              · rw [h, va_up_self, va_up_self]
                refine ⟨hkN, hnz, fun i hi => ?_⟩
                rw [va_up_ne _ _ (by omega)]
                exact r4 i hi
              · rw [va_up_ne _ _ h, va_up_ne _ _ h]
                obtain ⟨k1, k2, k3⟩ := hk.2.2.2.1 j (by omega)
                refine ⟨k1, k2, fun i hi => ?_⟩
                rw [va_up_ne _ _ (by omega)]
                exact k3 i hi
            · have hf2 : ∀ t, t < q → p ∣ tm_dz S.1 f (tm_dv S (wd t)) := fun t ht2 => by
                have this : p ∣ tm_dz S.1 f (tm_dv S (va_up wd q z t)) := hf t (by omega)
                rw [va_up_ne _ _ (by omega)] at this
                exact this
              by_cases h : j = q
              · rw [h, va_up_self]
                refine (hfz f hf2).mpr ?_
                have this : p ∣ tm_dz S.1 f (tm_dv S (va_up wd q z q)) := hf q (by omega)
                rw [va_up_self] at this
                exact this
              · rw [va_up_ne _ _ h]; exact hk.2.2.2.2 f hf2 j (by omega)
          refine ze_istore (lv' := [(0, .ref E), (1, ze_i ((pr : Nat))), (2, ze_i ((x : Nat))), (3, ze_i (p)), (4, ze_i (((q * 16 : Nat)))), (5, ze_i ((k : Nat)))]) dX4_keepGrown_76 rfl rfl ?_
          refine ze_iload dX4_keepGrown_78 rfl ?_
          refine ze_if_ge 84 dX4_keepGrown_80 (by decide) (by omega) (fun q3 => ?_) (fun q3 => ?_)
          · refine ze_aload_n dX4_keepGrown_84 rfl ?_
            refine ze_getf dX4_keepGrown_85 fl_X4_44 (tt_o hS2) rfl ?_
            refine ze_aload_n dX4_keepGrown_88 rfl ?_
            refine ze_getf dX4_keepGrown_89 fl_X4_28 (tt_o hS2) rfl ?_
            refine ze_iload dX4_keepGrown_92 rfl ?_
            refine ze_iastW (j := q) (f' := va_up (ia 8) q ((k : Nat))) dX4_keepGrown_94 (show w2.2 (E + 8) = some (ze_ia G 16 (ia 8)) from tt_i hS2 8 (by decide)) (by omega) (by omega) (by omega) rfl (fun w4 z4 c4 o4 => ?_)
            have hS4 := tt_wi hS2 8 (by decide) z4 c4 o4
            refine ze_aload_n dX4_keepGrown_95 rfl ?_
            refine ze_getf dX4_keepGrown_96 fl_X4_34 (tt_o hS4) rfl ?_
            refine ze_aload_n dX4_keepGrown_99 rfl ?_
            refine ze_getf dX4_keepGrown_100 fl_X4_28 (tt_o hS4) rfl ?_
            refine ze_iconst dX4_keepGrown_103 ?_
            refine ze_ti (b := ((0 : Nat) : Nat)) rfl ?_
            refine ze_iastW (j := q) (f' := va_up ((va_up ia 8 (va_up (ia 8) q ((k : Nat)))) 5) q (((0 : Nat) : Nat))) dX4_keepGrown_104 (show w4.2 (E + 5) = some (ze_ia G 16 ((va_up ia 8 (va_up (ia 8) q ((k : Nat)))) 5)) from tt_i hS4 5 (by decide)) (by omega) (by omega) (by omega) rfl (fun w5 z5 c5 o5 => ?_)
            have hS5 := tt_wi hS4 5 (by decide) z5 c5 o5
            refine ze_iload_n dX4_keepGrown_105 rfl ?_
            refine ze_if_lt 130 dX4_keepGrown_106 (by decide) (by omega) (fun q6 => ?_) (fun q6 => ?_)
            · omega
            · refine ze_aload_n dX4_keepGrown_109 rfl ?_
              refine ze_getf dX4_keepGrown_110 fl_X4_34 (tt_o hS5) rfl ?_
              refine ze_aload_n dX4_keepGrown_113 rfl ?_
              refine ze_getf dX4_keepGrown_114 fl_X4_28 (tt_o hS5) rfl ?_
              refine ze_aload_n dX4_keepGrown_117 rfl ?_
              refine ze_aload_n dX4_keepGrown_118 rfl ?_
              refine ze_getf dX4_keepGrown_119 fl_X4_31 (tt_o hS5) rfl ?_
              refine ze_iload dX4_keepGrown_122 rfl ?_
              refine ze_iload_n dX4_keepGrown_124 rfl ?_
              refine ze_iload_n dX4_keepGrown_125 rfl ?_
              obtain ⟨k1, k2, k3⟩ := hk.2.1 pr hpr
              have hlp := (hk.1 pr hpr).2.1
              refine ze_callV (As := [.ref (E + 4), ze_i (((q * 16 : Nat))), ze_i ((pr : Nat)), ze_i ((x : Nat))]) (rest := [ze_i ((q : Nat)), .ref (E + 5)]) dX4_keepGrown_126 (C4_writeWord4 (fm := q * 16) (pr := pr) (x := x) (u := wd pr) hS5 (by omega) (by rw [va_up_self, va_up_ne _ _ (by omega), va_up_ne _ _ (by decide)]; exact k1) (by omega) (by omega) (by omega) (fun j hj => by rw [va_up_ne _ _ (by decide), va_up_ne _ _ (by decide)]; exact k2 j hj)) mo4_writeWord ml_X4_121 in_4_writeWord se_4_writeWord (tt_o hS5) rfl rfl rfl rfl rfl ⟨Nat.le_refl _, Nat.le_refl _⟩ rfl (Nat.le_of_ble_eq_true rfl) ?_
              rintro _ w5 ⟨r0, rfl, rfl, f5, hS5, q1, q2⟩
              change ze_V G l (ze_rm 2 0 0) M4_keepGrown _ 129 [(0, .ref E), (1, ze_i ((pr : Nat))), (2, ze_i ((x : Nat))), (3, ze_i (p)), (4, ze_i (((q * 16 : Nat)))), (5, ze_i ((k : Nat)))] [ze_i ((((wd pr).length + 1 : Nat))), ze_i ((q : Nat)), .ref (E + 5)] w5 0 0
              refine ze_iastW (j := q) (f' := va_up ((va_up (va_up (va_up ia 8 (va_up (ia 8) q ((k : Nat)))) 5 (va_up ((va_up ia 8 (va_up (ia 8) q ((k : Nat)))) 5) q (((0 : Nat) : Nat)))) 4 f5) 5) q ((((wd pr).length + 1 : Nat)))) dX4_keepGrown_129 (show w5.2 (E + 5) = some (ze_ia G 16 ((va_up (va_up (va_up ia 8 (va_up (ia 8) q ((k : Nat)))) 5 (va_up ((va_up ia 8 (va_up (ia 8) q ((k : Nat)))) 5) q (((0 : Nat) : Nat)))) 4 f5) 5)) from tt_i hS5 5 (by decide)) (by omega) (by omega) (by omega) rfl (fun w7 z7 c7 o7 => ?_)
              have hS7 := tt_wi hS5 5 (by decide) z7 c7 o7
              refine ze_aload_n dX4_keepGrown_130 rfl ?_
              refine ze_dup dX4_keepGrown_131 rfl ?_
              refine ze_getf dX4_keepGrown_132 fl_X4_28 (tt_o hS7) rfl ?_
              refine ze_iconst dX4_keepGrown_135 ?_
              refine ze_iadd dX4_keepGrown_136 ?_
              refine ze_ti (b := ((q + 1 : Nat))) (by omega) ?_
              refine ze_putfW (fs' := tfs E S.1 K (q + 1) FL) dX4_keepGrown_137 fl_X4_28 (Or.inl rfl) (tt_o hS7) rfl rfl (Nat.le_of_ble_eq_true rfl) rfl (fun w8 z8 c8 o8 => ?_)
              have hS8 := tt_wo (N' := S.1) (K' := K) (q' := (q + 1)) (F' := FL) hS7 z8 c8 o8
              refine ze_return rfl dX4_keepGrown_140 ⟨rfl, _, la2, q + 1, _, _, _, hS8, hfin _ (fun j g1 g2 g3 => by rw [va_up_ne _ _ g2, va_up_ne _ _ g1, va_up_ne _ _ g2, va_up_ne _ _ g3]) (fun i hi => ⟨?_, fun j hj => ?_, ?_⟩) ?_ (fun j hj => ?_) ?_, fun j g1 g2 g3 => by rw [va_up_ne _ _ g2, va_up_ne _ _ g1, va_up_ne _ _ g2, va_up_ne _ _ g3], Or.inr ⟨rfl, rfl⟩⟩ rfl rfl
              · rw [va_up_self, va_up_ne _ _ (by omega), va_up_ne _ _ (by decide), va_up_self, va_up_ne _ _ (by omega), va_up_ne _ _ (by decide)]
              · rw [va_up_ne _ _ (by decide), va_up_self, q2 _ (Or.inl (by omega)), va_up_ne _ _ (by decide), va_up_ne _ _ (by decide)]
              · rw [va_up_ne _ _ (by decide), va_up_ne _ _ (by decide), va_up_ne _ _ (by decide), va_up_self, va_up_ne _ _ (by omega)]
              · rw [va_up_self, va_up_self, hz]; rfl
              · rw [va_up_ne _ _ (by decide), va_up_self]
                rw [hz] at hj ⊢
                have hj : j < (wd pr).length + 1 := hj
                exact q1 j (by omega)
              · rw [va_up_ne _ _ (by decide), va_up_ne _ _ (by decide), va_up_ne _ _ (by decide), va_up_self, va_up_self]
          · omega
      · omega
    | succ d ih =>
      intro t la1 w1 hd hS1 i1 i2 i3
      refine ze_iload dX4_keepGrown_22 rfl ?_
      refine ze_aload_n dX4_keepGrown_24 rfl ?_
      refine ze_getf dX4_keepGrown_25 fl_X4_9 (tt_o hS1) rfl ?_
      refine ze_icmp_ge 71 dX4_keepGrown_28 (by decide) (by omega) (by omega) (fun q1 => ?_) (fun q1 => ?_)
      · omega
      · refine ze_aload_n dX4_keepGrown_31 rfl ?_
        refine ze_getf dX4_keepGrown_32 fl_X4_37 (tt_o hS1) rfl ?_
        refine ze_iload dX4_keepGrown_35 rfl ?_
        refine ze_iload dX4_keepGrown_37 rfl ?_
        refine ze_iadd dX4_keepGrown_39 ?_
        refine ze_aload_n dX4_keepGrown_40 rfl ?_
        refine ze_getf dX4_keepGrown_41 fl_X4_50 (tt_o hS1) rfl ?_
        refine ze_iload dX4_keepGrown_44 rfl ?_
        refine ze_lald (j := t) dX4_keepGrown_46 (show w1.2 (E + 10) = some (ze_la G 16 (la1 10)) from tt_l hS1 10 (by decide)) (by omega) (by omega) (by omega) ?_
        rw [i1 10 (by decide) (by decide), hgr t (by omega)]
        refine ze_lastW (j := (q * 16 + t)) (f' := va_up (la1 6) (q * 16 + t) (tm_dv S z t % p)) dX4_keepGrown_47 (show w1.2 (E + 6) = some (ze_la G 256 (la1 6)) from tt_l hS1 6 (by decide)) (by omega) (by omega) (by omega) rfl (fun w2 z2 c2 o2 => ?_)
        have hS2 := tt_wl hS1 6 (by decide) z2 c2 o2
        refine ze_aload_n dX4_keepGrown_48 rfl ?_
        refine ze_getf dX4_keepGrown_49 fl_X4_41 (tt_o hS2) rfl ?_
        refine ze_iload dX4_keepGrown_52 rfl ?_
        refine ze_iload dX4_keepGrown_54 rfl ?_
        refine ze_iadd dX4_keepGrown_56 ?_
        refine ze_aload_n dX4_keepGrown_57 rfl ?_
        refine ze_getf dX4_keepGrown_58 fl_X4_50 (tt_o hS2) rfl ?_
        refine ze_iload dX4_keepGrown_61 rfl ?_
        refine ze_lald (j := t) dX4_keepGrown_63 (show w2.2 (E + 10) = some (ze_la G 16 ((va_up la1 6 (va_up (la1 6) (q * 16 + t) (tm_dv S z t % p))) 10)) from tt_l hS2 10 (by decide)) (by omega) (by omega) (by omega) ?_
        rw [va_up_ne _ _ (by decide), i1 10 (by decide) (by decide), hgr t (by omega)]
        refine ze_lastW (j := (q * 16 + t)) (f' := va_up ((va_up la1 6 (va_up (la1 6) (q * 16 + t) (tm_dv S z t % p))) 7) (q * 16 + t) (tm_dv S z t % p)) dX4_keepGrown_64 (show w2.2 (E + 7) = some (ze_la G 256 ((va_up la1 6 (va_up (la1 6) (q * 16 + t) (tm_dv S z t % p))) 7)) from tt_l hS2 7 (by decide)) (by omega) (by omega) (by omega) rfl (fun w3 z3 c3 o3 => ?_)
        have hS3 := tt_wl hS2 7 (by decide) z3 c3 o3
        refine ze_iinc (b := ((t + 1 : Nat))) (lv' := [(0, .ref E), (1, ze_i ((pr : Nat))), (2, ze_i ((x : Nat))), (3, ze_i (p)), (4, ze_i (((q * 16 : Nat)))), (5, ze_i (((t + 1 : Nat))))]) dX4_keepGrown_65 rfl rfl (by omega) rfl ?_
        refine ze_goto 22 dX4_keepGrown_68 (by decide) ?_
        refine ih (t + 1) _ _ (by omega) hS3 (fun j g1 g2 => by rw [va_up_ne _ _ g2, va_up_ne _ _ g1]; exact i1 j g1 g2) (fun y hy => ?_) (fun u hu => ?_)
        · rw [va_up_ne _ _ (by decide), va_up_self, va_up_self, va_up_ne _ _ (by omega), va_up_ne _ _ (by omega), va_up_ne _ _ (by decide)]
          exact i2 y hy
        · rw [va_up_ne _ _ (by decide), va_up_self, va_up_self]
          by_cases h : u = t
          · rw [h, va_up_self, va_up_self]; exact ⟨rfl, rfl⟩
          · rw [va_up_ne _ _ (by omega), va_up_ne _ _ (by omega), va_up_ne _ _ (by decide)]; exact i3 u (by omega)
  change ze_V G l (ze_rm 2 0 0) M4_keepGrown Z 0 [(0, .ref E), (1, ze_i ((pr : Nat))), (2, ze_i ((x : Nat))), (3, ze_i (p))] [] w 0 0
  refine ze_aload_n dX4_keepGrown_0 rfl ?_
  refine ze_getf dX4_keepGrown_1 fl_X4_28 (tt_o hS) rfl ?_
  refine ze_bipush dX4_keepGrown_4 (by decide) ?_
  refine ze_icmp_lt 10 dX4_keepGrown_6 (by decide) (by omega) (by omega) (fun q1 => ?_) (fun q1 => ?_)
  · refine ze_aload_n dX4_keepGrown_10 rfl ?_
    refine ze_getf dX4_keepGrown_11 fl_X4_28 (tt_o hS) rfl ?_
    refine ze_bipush dX4_keepGrown_14 (by decide) ?_
    refine ze_imul dX4_keepGrown_16 ?_
    refine ze_ti (b := ((q * 16 : Nat))) (by omega) ?_
    refine ze_istore (lv' := [(0, .ref E), (1, ze_i ((pr : Nat))), (2, ze_i ((x : Nat))), (3, ze_i (p)), (4, ze_i (((q * 16 : Nat))))]) dX4_keepGrown_17 rfl rfl ?_
    refine ze_iconst dX4_keepGrown_19 ?_
    refine ze_ti (b := ((0 : Nat) : Nat)) rfl ?_
    refine ze_istore (lv' := [(0, .ref E), (1, ze_i ((pr : Nat))), (2, ze_i ((x : Nat))), (3, ze_i (p)), (4, ze_i (((q * 16 : Nat)))), (5, ze_i (((0 : Nat) : Nat)))]) dX4_keepGrown_20 rfl rfl ?_
    exact loop S.1 0 la w (by omega) hS (fun _ _ _ => rfl) (fun _ _ => ⟨rfl, rfl⟩) (fun u hu => absurd hu (Nat.not_lt_zero _))
  · omega
