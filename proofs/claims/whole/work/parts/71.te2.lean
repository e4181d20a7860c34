/-! Teller: a line is reduced; words are written and compared -/
theorem C4_reduceLast {G : ze_G} {l : Launch} {w0 w : ze_W} {E N K q FL : Nat} {ia la : Nat → Nat → Int} {p : Int} {e : Nat → Nat → Int} {y : Nat → Int} {pv : Nat → Nat} (hS : tst G w0 w E N K q FL ia la) (hN : N ≤ 16) (hq : q < 16) (hp : 2 ≤ p ∧ p < 2147483648) (hpp : tm_prm p) (he : ∀ i t, i < q → t < N → la 7 (i * 16 + t) = e i t ∧ 0 ≤ e i t ∧ e i t < p) (hy : ∀ t, t < N → la 7 (q * 16 + t) = y t ∧ 0 ≤ y t ∧ y t < p) (hpv : ∀ i, i < q → ia 8 i = (pv i : Nat)) (ht : tm_tri p N e pv q) : ze_C G l 1 0 0 M4_reduceLast [.ref E, ze_i p] w (ze_qi (fun r w' => ∃ la' y', tst G w0 w' E N K q FL ia la' ∧ (∀ j, j ≠ 7 → la' j = la j) ∧ (∀ x, x < q * 16 ∨ q * 16 + 16 ≤ x → la' 7 x = la 7 x) ∧ (∀ t, t < N → la' 7 (q * 16 + t) = y' t ∧ 0 ≤ y' t ∧ y' t < p) ∧ (∀ j, j < q → p ∣ y' (pv j)) ∧ (∀ f, (∀ i, i < q → p ∣ tm_dz N f (e i)) → (p ∣ tm_dz N f y' ↔ p ∣ tm_dz N f y)) ∧ ((r = -1 ∧ ∀ t, t < N → y' t = 0) ∨ ∃ k : Nat, r = (k : Nat) ∧ k < N ∧ y' k ≠ 0))) := by
  refine ze_enter (by decide +kernel) rfl ?_
  generalize hQ : (ze_Q G (ze_qi (fun r w' => ∃ la' y', tst G w0 w' E N K q FL ia la' ∧ (∀ j, j ≠ 7 → la' j = la j) ∧ (∀ x, x < q * 16 ∨ q * 16 + 16 ≤ x → la' 7 x = la 7 x) ∧ (∀ t, t < N → la' 7 (q * 16 + t) = y' t ∧ 0 ≤ y' t ∧ y' t < p) ∧ (∀ j, j < q → p ∣ y' (pv j)) ∧ (∀ f, (∀ i, i < q → p ∣ tm_dz N f (e i)) → (p ∣ tm_dz N f y' ↔ p ∣ tm_dz N f y)) ∧ ((r = -1 ∧ ∀ t, t < N → y' t = 0) ∨ ∃ k : Nat, r = (k : Nat) ∧ k < N ∧ y' k ≠ 0))) 0 0) = Z
  have last : ∀ (d t k : Nat) (y1 : Nat → Int) (la1 : Nat → Nat → Int) (w1 : ze_W), t + d = N → k = q → tst G w0 w1 E N K q FL ia la1 → (∀ j, j ≠ 7 → la1 j = la j) → (∀ x, x < q * 16 ∨ q * 16 + 16 ≤ x → la1 7 x = la 7 x) → (∀ t, t < N → la1 7 (q * 16 + t) = y1 t ∧ 0 ≤ y1 t ∧ y1 t < p) → (∀ j, j < k → p ∣ y1 (pv j)) → (∀ f, (∀ i, i < q → p ∣ tm_dz N f (e i)) → (p ∣ tm_dz N f y1 ↔ p ∣ tm_dz N f y)) → (∀ u, u < t → y1 u = 0) → ze_V G l (ze_rm 1 0 0) M4_reduceLast Z 127 [(0, .ref E), (1, ze_i (p)), (2, ze_i (((q * 16 : Nat)))), (3, ze_i ((t : Nat)))] [] w1 0 0 := by
    intro d
    induction d with
    | zero =>
      intro t k y1 la1 w1 hd hk hS1 i1 i2 i3 i4 i5 i6
      rw [hk] at i4
      rw [← hQ]
      refine ze_iload_n dX4_reduceLast_127 rfl ?_
      refine ze_aload_n dX4_reduceLast_128 rfl ?_
      refine ze_getf dX4_reduceLast_129 fl_X4_9 (tt_o hS1) rfl ?_
      refine ze_icmp_ge 156 dX4_reduceLast_132 (by decide) (by omega) (by omega) (fun q1 => ?_) (fun q1 => ?_)
      · refine ze_iconst dX4_reduceLast_156 ?_
        exact ze_ireturn rfl dX4_reduceLast_157 ⟨_, rfl, la1, y1, hS1, i1, i2, i3, i4, i5, Or.inl ⟨rfl, fun u hu => i6 u (by omega)⟩⟩ rfl rfl
      · omega
    | succ d ih =>
      intro t k y1 la1 w1 hd hk hS1 i1 i2 i3 i4 i5 i6
      obtain ⟨y0, yr⟩ := i3 t (by omega)
      refine ze_iload_n dX4_reduceLast_127 rfl ?_
      refine ze_aload_n dX4_reduceLast_128 rfl ?_
      refine ze_getf dX4_reduceLast_129 fl_X4_9 (tt_o hS1) rfl ?_
      refine ze_icmp_ge 156 dX4_reduceLast_132 (by decide) (by omega) (by omega) (fun q1 => ?_) (fun q1 => ?_)
      · omega
      · refine ze_aload_n dX4_reduceLast_135 rfl ?_
        refine ze_getf dX4_reduceLast_136 fl_X4_41 (tt_o hS1) rfl ?_
        refine ze_iload_n dX4_reduceLast_139 rfl ?_
        refine ze_iload_n dX4_reduceLast_140 rfl ?_
        refine ze_iadd dX4_reduceLast_141 ?_
        refine ze_lald (j := (q * 16 + t)) dX4_reduceLast_142 (show w1.2 (E + 7) = some (ze_la G 256 (la1 7)) from tt_l hS1 7 (by decide)) (by omega) (by omega) (by omega) ?_
        rw [y0]
        refine ze_lconst (z := 0) dX4_reduceLast_143 (by decide) ?_
        refine ze_lc_eq 150 dX4_reduceLast_144 dX4_reduceLast_145 (by decide) (by omega) (by omega) (fun q2 => ?_) (fun q2 => ?_)
        · refine ze_iinc (b := ((t + 1 : Nat))) (lv' := [(0, .ref E), (1, ze_i (p)), (2, ze_i (((q * 16 : Nat)))), (3, ze_i (((t + 1 : Nat))))]) dX4_reduceLast_150 rfl rfl (by omega) rfl ?_
          refine ze_goto 127 dX4_reduceLast_153 (by decide) ?_
          exact ih (t + 1) k y1 la1 w1 (by omega) hk hS1 i1 i2 i3 i4 i5 (fun u hu => by
            by_cases h : u = t
            · rw [h]; omega
            · exact i6 u (by omega))
        · refine ze_iload_n dX4_reduceLast_148 rfl ?_
          rw [hk] at i4
          rw [← hQ]
          exact ze_ireturn rfl dX4_reduceLast_149 ⟨_, rfl, la1, y1, hS1, i1, i2, i3, i4, i5, Or.inr ⟨t, rfl, by omega, by omega⟩⟩ rfl rfl
  have outer : ∀ (d k : Nat) (y1 : Nat → Int) (la1 : Nat → Nat → Int) (w1 : ze_W), k + d = q → tst G w0 w1 E N K q FL ia la1 → (∀ j, j ≠ 7 → la1 j = la j) → (∀ x, x < q * 16 ∨ q * 16 + 16 ≤ x → la1 7 x = la 7 x) → (∀ t, t < N → la1 7 (q * 16 + t) = y1 t ∧ 0 ≤ y1 t ∧ y1 t < p) → (∀ j, j < k → p ∣ y1 (pv j)) → (∀ f, (∀ i, i < q → p ∣ tm_dz N f (e i)) → (p ∣ tm_dz N f y1 ↔ p ∣ tm_dz N f y)) → ze_V G l (ze_rm 1 0 0) M4_reduceLast Z 10 [(0, .ref E), (1, ze_i (p)), (2, ze_i (((q * 16 : Nat)))), (3, ze_i ((k : Nat)))] [] w1 0 0 := by
    intro d
    induction d with
    | zero =>
      intro k y1 la1 w1 hd hS1 i1 i2 i3 i4 i5
      refine ze_iload_n dX4_reduceLast_10 rfl ?_
      refine ze_aload_n dX4_reduceLast_11 rfl ?_
      refine ze_getf dX4_reduceLast_12 fl_X4_28 (tt_o hS1) rfl ?_
      refine ze_icmp_ge 125 dX4_reduceLast_15 (by decide) (by omega) (by omega) (fun q1 => ?_) (fun q1 => ?_)
      · refine ze_iconst dX4_reduceLast_125 ?_
        refine ze_ti (b := ((0 : Nat) : Nat)) rfl ?_
        refine ze_istore_n (lv' := [(0, .ref E), (1, ze_i (p)), (2, ze_i (((q * 16 : Nat)))), (3, ze_i (((0 : Nat) : Nat)))]) dX4_reduceLast_126 rfl rfl ?_
        exact last N 0 k y1 la1 w1 (by omega) (by omega) hS1 i1 i2 i3 i4 i5 (fun u hu => absurd hu (Nat.not_lt_zero _))
      · omega
    | succ d ih =>
      intro k y1 la1 w1 hd hS1 i1 i2 i3 i4 i5
      obtain ⟨t1, t2, t3⟩ := ht k (by omega)
      have hpk := hpv k (by omega)
      obtain ⟨c, hc⟩ : ∃ c, c = e k (pv k) := ⟨_, rfl⟩
      obtain ⟨f0, hf0⟩ : ∃ f0, f0 = y1 (pv k) := ⟨_, rfl⟩
      obtain ⟨ya, yb⟩ := i3 (pv k) t1
      obtain ⟨ea, eb⟩ := he k (pv k) (by omega) t1
      rw [← hf0] at ya yb
      rw [← hc] at ea eb t2
      have nxt : ∀ (y2 : Nat → Int) (la2 : Nat → Nat → Int) (w2 : ze_W), tst G w0 w2 E N K q FL ia la2 → (∀ j, j ≠ 7 → la2 j = la j) → (∀ x, x < q * 16 ∨ q * 16 + 16 ≤ x → la2 7 x = la 7 x) → (∀ t, t < N → la2 7 (q * 16 + t) = y2 t ∧ 0 ≤ y2 t ∧ y2 t < p) → (∀ j, j < k + 1 → p ∣ y2 (pv j)) → (∀ f, (∀ i, i < q → p ∣ tm_dz N f (e i)) → (p ∣ tm_dz N f y2 ↔ p ∣ tm_dz N f y)) → ∀ t : Nat, ze_V G l (ze_rm 1 0 0) M4_reduceLast Z 119 [(0, .ref E), (1, ze_i (p)), (2, ze_i (((q * 16 : Nat)))), (3, ze_i ((k : Nat))), (4, ze_i (((k * 16 : Nat)))), (5, ze_l (f0)), (7, ze_l (c)), (9, ze_i ((t : Nat)))] [] w2 0 0 := by
        intro y2 la2 w2 hS2 j1 j2 j3 j4 j5 t
        refine ze_iinc (b := ((k + 1 : Nat))) (lv' := [(0, .ref E), (1, ze_i (p)), (2, ze_i (((q * 16 : Nat)))), (3, ze_i (((k + 1 : Nat)))), (4, ze_i (((k * 16 : Nat)))), (5, ze_l (f0)), (7, ze_l (c)), (9, ze_i ((t : Nat)))]) dX4_reduceLast_119 rfl rfl (by omega) rfl ?_
        refine ze_goto 10 dX4_reduceLast_122 (by decide) ?_
        refine ze_lv (lv' := [(0, .ref E), (1, ze_i (p)), (2, ze_i (((q * 16 : Nat)))), (3, ze_i (((k + 1 : Nat))))]) [0, 1, 2, 3] rfl ?_
        exact ih (k + 1) y2 la2 w2 (by omega) hS2 j1 j2 j3 j4 j5
      have inn : f0 ≠ 0 → ∀ (g t : Nat) (la2 : Nat → Nat → Int) (w2 : ze_W), t + g = N → tst G w0 w2 E N K q FL ia la2 → (∀ j, j ≠ 7 → la2 j = la j) → (∀ x, x < q * 16 ∨ q * 16 + 16 ≤ x → la2 7 x = la 7 x) → (∀ u, u < t → la2 7 (q * 16 + u) = (y1 u * c - e k u * f0) % p) → (∀ u, t ≤ u → u < N → la2 7 (q * 16 + u) = y1 u) → ze_V G l (ze_rm 1 0 0) M4_reduceLast Z 58 [(0, .ref E), (1, ze_i (p)), (2, ze_i (((q * 16 : Nat)))), (3, ze_i ((k : Nat))), (4, ze_i (((k * 16 : Nat)))), (5, ze_l (f0)), (7, ze_l (c)), (9, ze_i ((t : Nat)))] [] w2 0 0 := by
        intro hf00 g
        induction g with
        | zero =>
          intro t la2 w2 htg hS2 j1 j2 j3 j4
          refine ze_lload dX4_reduceLast_58 rfl ?_
          refine ze_lconst (z := 0) dX4_reduceLast_60 (by decide) ?_
          refine ze_lc_eq 119 dX4_reduceLast_61 dX4_reduceLast_62 (by decide) (by omega) (by omega) (fun q1 => ?_) (fun q1 => ?_)
          · omega
          · refine ze_iload dX4_reduceLast_65 rfl ?_
            refine ze_aload_n dX4_reduceLast_67 rfl ?_
            refine ze_getf dX4_reduceLast_68 fl_X4_9 (tt_o hS2) rfl ?_
            refine ze_icmp_ge 119 dX4_reduceLast_71 (by decide) (by omega) (by omega) (fun q2 => ?_) (fun q2 => ?_)
            · refine nxt (fun u => (y1 u * c - e k u * f0) % p) la2 w2 hS2 j1 j2 (fun u hu => ⟨j3 u (by omega), Int.emod_nonneg _ (by omega), Int.emod_lt_of_pos _ (by omega)⟩) (fun j hj => ?_) (fun f hf => ?_) t
              · rw [tm_iff (tm_dm _ _)]
                by_cases h : j = k
                · rw [h, ← hf0, ← hc, Int.mul_comm, Int.sub_self]
                  exact Int.dvd_zero p
                · exact Int.dvd_sub (Int.dvd_trans (i4 j (by omega)) (Int.dvd_mul_right _ _)) (Int.dvd_trans (t3 j (by omega)) (Int.dvd_mul_right _ _))
              · rw [← i5 f hf]
                exact tm_red1 hpp t2 (fun u _ => tm_dm _ _) (hf k (by omega))
            · omega
        | succ g ihg =>
          intro t la2 w2 htg hS2 j1 j2 j3 j4
          obtain ⟨y0, yr⟩ := i3 t (by omega)
          obtain ⟨e0, er⟩ := he k t (by omega) (by omega)
          have hm1 := tm_prod (a := y1 t) (b := c) (A := 2147483647) (B := 2147483647) (by omega) (by omega)
          have hm2 := tm_prod (a := e k t) (b := f0) (A := 2147483647) (B := 2147483647) (by omega) (by omega)
          refine ze_lload dX4_reduceLast_58 rfl ?_
          refine ze_lconst (z := 0) dX4_reduceLast_60 (by decide) ?_
          refine ze_lc_eq 119 dX4_reduceLast_61 dX4_reduceLast_62 (by decide) (by omega) (by omega) (fun q1 => ?_) (fun q1 => ?_)
          · omega
          · refine ze_iload dX4_reduceLast_65 rfl ?_
            refine ze_aload_n dX4_reduceLast_67 rfl ?_
            refine ze_getf dX4_reduceLast_68 fl_X4_9 (tt_o hS2) rfl ?_
            refine ze_icmp_ge 119 dX4_reduceLast_71 (by decide) (by omega) (by omega) (fun q2 => ?_) (fun q2 => ?_)
            · omega
            · refine ze_aload_n dX4_reduceLast_74 rfl ?_
              refine ze_getf dX4_reduceLast_75 fl_X4_41 (tt_o hS2) rfl ?_
              refine ze_iload_n dX4_reduceLast_78 rfl ?_
              refine ze_iload dX4_reduceLast_79 rfl ?_
              refine ze_iadd dX4_reduceLast_81 ?_
              refine ze_aload_n dX4_reduceLast_82 rfl ?_
              refine ze_getf dX4_reduceLast_83 fl_X4_41 (tt_o hS2) rfl ?_
              refine ze_iload_n dX4_reduceLast_86 rfl ?_
              refine ze_iload dX4_reduceLast_87 rfl ?_
              refine ze_iadd dX4_reduceLast_89 ?_
              refine ze_lald (j := (q * 16 + t)) dX4_reduceLast_90 (show w2.2 (E + 7) = some (ze_la G 256 (la2 7)) from tt_l hS2 7 (by decide)) (by omega) (by omega) (by omega) ?_
              rw [j4 t (Nat.le_refl _) (by omega)]
              refine ze_lload dX4_reduceLast_91 rfl ?_
              refine ze_lmul dX4_reduceLast_93 ?_
              refine ze_aload_n dX4_reduceLast_94 rfl ?_
              refine ze_getf dX4_reduceLast_95 fl_X4_41 (tt_o hS2) rfl ?_
              refine ze_iload dX4_reduceLast_98 rfl ?_
              refine ze_iload dX4_reduceLast_100 rfl ?_
              refine ze_iadd dX4_reduceLast_102 ?_
              refine ze_lald (j := (k * 16 + t)) dX4_reduceLast_103 (show w2.2 (E + 7) = some (ze_la G 256 (la2 7)) from tt_l hS2 7 (by decide)) (by omega) (by omega) (by omega) ?_
              rw [j2 _ (by omega), e0]
              refine ze_lload dX4_reduceLast_104 rfl ?_
              refine ze_lmul dX4_reduceLast_106 ?_
              refine ze_lsub dX4_reduceLast_107 ?_
              refine ze_iload_n dX4_reduceLast_108 rfl ?_
              refine ze_callS (As := [ze_l (((y1 t) * c) - ((e k t) * f0)), ze_i (p)]) (rest := [ze_i (((q * 16 : Nat)) + (t : Nat)), .ref (E + 7)]) dX4_reduceLast_109 (C4_restOf (v := y1 t * c - e k t * f0) (p := p) (by omega) hp) mo4_restOf ml_X4_100 st_4_restOf rfl rfl rfl ⟨Nat.le_refl _, Nat.le_refl _⟩ rfl (Nat.le_of_ble_eq_true rfl) ?_
              rintro _ w' ⟨r3, rfl, rfl, rfl⟩
              change ze_V G l (ze_rm 1 0 0) M4_reduceLast _ 112 [(0, .ref E), (1, ze_i (p)), (2, ze_i (((q * 16 : Nat)))), (3, ze_i ((k : Nat))), (4, ze_i (((k * 16 : Nat)))), (5, ze_l (f0)), (7, ze_l (c)), (9, ze_i ((t : Nat)))] [ze_l ((y1 t * c - e k t * f0) % p), ze_i (((q * 16 : Nat)) + (t : Nat)), .ref (E + 7)] w' 0 0
              refine ze_lastW (j := (q * 16 + t)) (f' := va_up (la2 7) (q * 16 + t) ((y1 t * c - e k t * f0) % p)) dX4_reduceLast_112 (show w'.2 (E + 7) = some (ze_la G 256 (la2 7)) from tt_l hS2 7 (by decide)) (by omega) (by omega) (by omega) rfl (fun w4 z4 c4 o4 => ?_)
              have hS4 := tt_wl hS2 7 (by decide) z4 c4 o4
              refine ze_iinc (b := ((t + 1 : Nat))) (lv' := [(0, .ref E), (1, ze_i (p)), (2, ze_i (((q * 16 : Nat)))), (3, ze_i ((k : Nat))), (4, ze_i (((k * 16 : Nat)))), (5, ze_l (f0)), (7, ze_l (c)), (9, ze_i (((t + 1 : Nat))))]) dX4_reduceLast_113 rfl rfl (by omega) rfl ?_
              refine ze_goto 58 dX4_reduceLast_116 (by decide) ?_
              refine ihg (t + 1) _ _ (by omega) hS4 (fun j hj => by rw [va_up_ne _ _ hj]; exact j1 j hj) (fun x hx => by rw [va_up_self, va_up_ne _ _ (by omega)]; exact j2 x hx) (fun u hu => ?_) (fun u hu hu2 => by rw [va_up_self, va_up_ne _ _ (by omega)]; exact j4 u (by omega) hu2)
              rw [va_up_self]
              by_cases h : u = t
              · rw [h, va_up_self]
              · rw [va_up_ne _ _ (by omega)]; exact j3 u (by omega)
      refine ze_iload_n dX4_reduceLast_10 rfl ?_
      refine ze_aload_n dX4_reduceLast_11 rfl ?_
      refine ze_getf dX4_reduceLast_12 fl_X4_28 (tt_o hS1) rfl ?_
      refine ze_icmp_ge 125 dX4_reduceLast_15 (by decide) (by omega) (by omega) (fun q1 => ?_) (fun q1 => ?_)
      · omega
      · refine ze_iload_n dX4_reduceLast_18 rfl ?_
        refine ze_bipush dX4_reduceLast_19 (by decide) ?_
        refine ze_imul dX4_reduceLast_21 ?_
        refine ze_ti (b := ((k * 16 : Nat))) (by omega) ?_
        refine ze_istore (lv' := [(0, .ref E), (1, ze_i (p)), (2, ze_i (((q * 16 : Nat)))), (3, ze_i ((k : Nat))), (4, ze_i (((k * 16 : Nat))))]) dX4_reduceLast_22 rfl rfl ?_
        refine ze_aload_n dX4_reduceLast_24 rfl ?_
        refine ze_getf dX4_reduceLast_25 fl_X4_41 (tt_o hS1) rfl ?_
        refine ze_iload_n dX4_reduceLast_28 rfl ?_
        refine ze_aload_n dX4_reduceLast_29 rfl ?_
        refine ze_getf dX4_reduceLast_30 fl_X4_44 (tt_o hS1) rfl ?_
        refine ze_iload_n dX4_reduceLast_33 rfl ?_
        refine ze_iald (j := k) dX4_reduceLast_34 (show w1.2 (E + 8) = some (ze_ia G 16 (ia 8)) from tt_i hS1 8 (by decide)) (by omega) (by omega) (by omega) ?_
        rw [hpk]
        refine ze_iadd dX4_reduceLast_35 ?_
        refine ze_lald (j := (q * 16 + pv k)) dX4_reduceLast_36 (show w1.2 (E + 7) = some (ze_la G 256 (la1 7)) from tt_l hS1 7 (by decide)) (by omega) (by omega) (by omega) ?_
        rw [ya]
        refine ze_lstore (lv' := [(0, .ref E), (1, ze_i (p)), (2, ze_i (((q * 16 : Nat)))), (3, ze_i ((k : Nat))), (4, ze_i (((k * 16 : Nat)))), (5, ze_l (f0))]) dX4_reduceLast_37 rfl rfl ?_
        refine ze_aload_n dX4_reduceLast_39 rfl ?_
        refine ze_getf dX4_reduceLast_40 fl_X4_41 (tt_o hS1) rfl ?_
        refine ze_iload dX4_reduceLast_43 rfl ?_
        refine ze_aload_n dX4_reduceLast_45 rfl ?_
        refine ze_getf dX4_reduceLast_46 fl_X4_44 (tt_o hS1) rfl ?_
        refine ze_iload_n dX4_reduceLast_49 rfl ?_
        refine ze_iald (j := k) dX4_reduceLast_50 (show w1.2 (E + 8) = some (ze_ia G 16 (ia 8)) from tt_i hS1 8 (by decide)) (by omega) (by omega) (by omega) ?_
        rw [hpk]
        refine ze_iadd dX4_reduceLast_51 ?_
        refine ze_lald (j := (k * 16 + pv k)) dX4_reduceLast_52 (show w1.2 (E + 7) = some (ze_la G 256 (la1 7)) from tt_l hS1 7 (by decide)) (by omega) (by omega) (by omega) ?_
        rw [i2 _ (by omega), ea]
        refine ze_lstore (lv' := [(0, .ref E), (1, ze_i (p)), (2, ze_i (((q * 16 : Nat)))), (3, ze_i ((k : Nat))), (4, ze_i (((k * 16 : Nat)))), (5, ze_l (f0)), (7, ze_l (c))]) dX4_reduceLast_53 rfl rfl ?_
        refine ze_iconst dX4_reduceLast_55 ?_
        refine ze_ti (b := ((0 : Nat) : Nat)) rfl ?_
        refine ze_istore (lv' := [(0, .ref E), (1, ze_i (p)), (2, ze_i (((q * 16 : Nat)))), (3, ze_i ((k : Nat))), (4, ze_i (((k * 16 : Nat)))), (5, ze_l (f0)), (7, ze_l (c)), (9, ze_i (((0 : Nat) : Nat)))]) dX4_reduceLast_56 rfl rfl ?_
        by_cases hf00 : f0 = 0
        · refine ze_lload dX4_reduceLast_58 rfl ?_
          refine ze_lconst (z := 0) dX4_reduceLast_60 (by decide) ?_
          refine ze_lc_eq 119 dX4_reduceLast_61 dX4_reduceLast_62 (by decide) (by omega) (by omega) (fun q2 => ?_) (fun q2 => ?_)
          · exact nxt y1 la1 w1 hS1 i1 i2 i3 (fun j hj => by
              by_cases h : j = k
              · rw [h, ← hf0, hf00]; exact Int.dvd_zero p
              · exact i4 j (by omega)) i5 0
          · omega
        · exact inn hf00 N 0 la1 w1 (by omega) hS1 i1 i2 (fun u hu => absurd hu (Nat.not_lt_zero _)) (fun u _ hu => (i3 u hu).1)
  change ze_V G l (ze_rm 1 0 0) M4_reduceLast Z 0 [(0, .ref E), (1, ze_i (p))] [] w 0 0
  refine ze_aload_n dX4_reduceLast_0 rfl ?_
  refine ze_getf dX4_reduceLast_1 fl_X4_28 (tt_o hS) rfl ?_
  refine ze_bipush dX4_reduceLast_4 (by decide) ?_
  refine ze_imul dX4_reduceLast_6 ?_
  refine ze_ti (b := ((q * 16 : Nat))) (by omega) ?_
  refine ze_istore_n (lv' := [(0, .ref E), (1, ze_i (p)), (2, ze_i (((q * 16 : Nat))))]) dX4_reduceLast_7 rfl rfl ?_
  refine ze_iconst dX4_reduceLast_8 ?_
  refine ze_ti (b := ((0 : Nat) : Nat)) rfl ?_
  refine ze_istore_n (lv' := [(0, .ref E), (1, ze_i (p)), (2, ze_i (((q * 16 : Nat)))), (3, ze_i (((0 : Nat) : Nat)))]) dX4_reduceLast_9 rfl rfl ?_
  exact outer q 0 y la w (by omega) hS (fun _ _ => rfl) (fun _ _ => rfl) hy (fun j hj => absurd hj (Nat.not_lt_zero _)) (fun _ _ => Iff.rfl)
theorem C4_writeWord4 {G : ze_G} {l : Launch} {w0 w : ze_W} {E N K q FL : Nat} {ia la : Nat → Nat → Int} {fm pr x : Nat} {u : List Nat} (hS : tst G w0 w E N K q FL ia la) (hpr : pr < 16) (hlen : ia 5 pr = (u.length : Nat)) (hl : u.length < 16) (hfm : fm + u.length < 256) (hsep : pr * 16 + 16 ≤ fm) (hwd : ∀ j, j < u.length → ia 4 (pr * 16 + j) = (tm_rd u j : Nat)) : ze_C G l 0 0 0 M4_writeWord [.ref E, .ref (E + 4), ze_i (fm : Nat), ze_i (pr : Nat), ze_i (x : Nat)] w (ze_qi (fun r w' => r = ((u.length + 1 : Nat) : Int) ∧ ∃ f', tst G w0 w' E N K q FL (va_up ia 4 f') la ∧ (∀ j, j ≤ u.length → f' (fm + j) = (tm_rd (x :: u) j : Nat)) ∧ ∀ j, j < fm ∨ fm + u.length < j → f' j = ia 4 j)) := by
  refine ze_enter (by decide +kernel) rfl ?_
  generalize hQ : (ze_Q G (ze_qi (fun r w' => r = ((u.length + 1 : Nat) : Int) ∧ ∃ f', tst G w0 w' E N K q FL (va_up ia 4 f') la ∧ (∀ j, j ≤ u.length → f' (fm + j) = (tm_rd (x :: u) j : Nat)) ∧ ∀ j, j < fm ∨ fm + u.length < j → f' j = ia 4 j)) 0 0) = Z
  have loop : ∀ (d i : Nat) (f1 : Nat → Int) (w1 : ze_W), i + d = u.length → tst G w0 w1 E N K q FL (va_up ia 4 f1) la → (∀ j, j < i → f1 (fm + j) = (tm_rd u j : Nat)) → (∀ j, j < fm ∨ fm + u.length < j → f1 j = ia 4 j) → ze_V G l (ze_rm 0 0 0) M4_writeWord Z 11 [(0, .ref E), (1, .ref (E + 4)), (2, ze_i ((fm : Nat))), (3, ze_i ((pr : Nat))), (4, ze_i ((x : Nat))), (5, ze_i ((u.length : Nat))), (6, ze_i ((i : Nat)))] [] w1 0 0 := by
    intro d
    induction d with
    | zero =>
      intro i f1 w1 hi hS1 i1 i2
      rw [← hQ]
      refine ze_iload dX4_writeWord_11 rfl ?_
      refine ze_iload dX4_writeWord_13 rfl ?_
      refine ze_icmp_ge 51 dX4_writeWord_15 (by decide) (by omega) (by omega) (fun q1 => ?_) (fun q1 => ?_)
      · refine ze_iload_n dX4_writeWord_51 rfl ?_
        refine ze_iload dX4_writeWord_52 rfl ?_
        refine ze_iadd dX4_writeWord_54 ?_
        refine ze_aload_n dX4_writeWord_55 rfl ?_
        refine ze_alen dX4_writeWord_56 (show w1.2 (E + 4) = some (ze_ia G 256 ((va_up ia 4 f1) 4)) from tt_i hS1 4 (by decide)) rfl ?_
        refine ze_icmp_ge 68 dX4_writeWord_57 (by decide) (by omega) (by omega) (fun q2 => ?_) (fun q2 => ?_)
        · omega
        · refine ze_aload_n dX4_writeWord_60 rfl ?_
          refine ze_iload_n dX4_writeWord_61 rfl ?_
          refine ze_iload dX4_writeWord_62 rfl ?_
          refine ze_iadd dX4_writeWord_64 ?_
          refine ze_iload dX4_writeWord_65 rfl ?_
          refine ze_iastW (j := (fm + u.length)) (f' := va_up ((va_up ia 4 f1) 4) (fm + u.length) ((x : Nat))) dX4_writeWord_67 (show w1.2 (E + 4) = some (ze_ia G 256 ((va_up ia 4 f1) 4)) from tt_i hS1 4 (by decide)) (by omega) (by omega) (by omega) rfl (fun w3 z3 c3 o3 => ?_)
          have hS3 := tt_wi hS1 4 (by decide) z3 c3 o3
          rw [va_up_self] at hS3
          rw [show va_up (va_up ia 4 f1) 4 (va_up f1 (fm + u.length) ((x : Nat) : Int)) = va_up ia 4 (va_up f1 (fm + u.length) ((x : Nat) : Int)) from by funext j; by_cases h : j = 4; (rw [h, va_up_self, va_up_self]); (rw [va_up_ne _ _ h, va_up_ne _ _ h, va_up_ne _ _ h])] at hS3
          refine ze_iload dX4_writeWord_68 rfl ?_
          refine ze_iconst dX4_writeWord_70 ?_
          refine ze_iadd dX4_writeWord_71 ?_
          refine ze_ireturn rfl dX4_writeWord_72 ⟨_, rfl, by omega, _, hS3, fun j hj => ?_, fun j hj => by rw [va_up_ne _ _ (by omega)]; exact i2 j hj⟩ rfl rfl
          by_cases h : j = u.length
          · rw [h, va_up_self, tm_rd_l]
          · rw [va_up_ne _ _ (by omega), tm_rd_n h]; exact i1 j (by omega)
      · omega
    | succ d ih =>
      intro i f1 w1 hi hS1 i1 i2
      refine ze_iload dX4_writeWord_11 rfl ?_
      refine ze_iload dX4_writeWord_13 rfl ?_
      refine ze_icmp_ge 51 dX4_writeWord_15 (by decide) (by omega) (by omega) (fun q1 => ?_) (fun q1 => ?_)
      · omega
      · refine ze_iload_n dX4_writeWord_18 rfl ?_
        refine ze_iload dX4_writeWord_19 rfl ?_
        refine ze_iadd dX4_writeWord_21 ?_
        refine ze_aload_n dX4_writeWord_22 rfl ?_
        refine ze_alen dX4_writeWord_23 (show w1.2 (E + 4) = some (ze_ia G 256 ((va_up ia 4 f1) 4)) from tt_i hS1 4 (by decide)) rfl ?_
        refine ze_icmp_ge 51 dX4_writeWord_24 (by decide) (by omega) (by omega) (fun q2 => ?_) (fun q2 => ?_)
        · omega
        · refine ze_aload_n dX4_writeWord_27 rfl ?_
          refine ze_iload_n dX4_writeWord_28 rfl ?_
          refine ze_iload dX4_writeWord_29 rfl ?_
          refine ze_iadd dX4_writeWord_31 ?_
          refine ze_aload_n dX4_writeWord_32 rfl ?_
          refine ze_getf dX4_writeWord_33 fl_X4_31 (tt_o hS1) rfl ?_
          refine ze_iload_n dX4_writeWord_36 rfl ?_
          refine ze_bipush dX4_writeWord_37 (by decide) ?_
          refine ze_imul dX4_writeWord_39 ?_
          refine ze_iload dX4_writeWord_40 rfl ?_
          refine ze_iadd dX4_writeWord_42 ?_
          refine ze_iald (j := (pr * 16 + i)) dX4_writeWord_43 (show w1.2 (E + 4) = some (ze_ia G 256 ((va_up ia 4 f1) 4)) from tt_i hS1 4 (by decide)) (by omega) (by omega) (by omega) ?_
          rw [va_up_self, i2 _ (by omega), hwd i (by omega)]
          refine ze_iastW (j := (fm + i)) (f' := va_up ((va_up ia 4 f1) 4) (fm + i) ((tm_rd u i : Nat))) dX4_writeWord_44 (show w1.2 (E + 4) = some (ze_ia G 256 ((va_up ia 4 f1) 4)) from tt_i hS1 4 (by decide)) (by omega) (by omega) (by omega) rfl (fun w3 z3 c3 o3 => ?_)
          have hS3 := tt_wi hS1 4 (by decide) z3 c3 o3
          rw [va_up_self] at hS3
          rw [show va_up (va_up ia 4 f1) 4 (va_up f1 (fm + i) ((tm_rd u i : Nat) : Int)) = va_up ia 4 (va_up f1 (fm + i) ((tm_rd u i : Nat) : Int)) from by funext j; by_cases h : j = 4; (rw [h, va_up_self, va_up_self]); (rw [va_up_ne _ _ h, va_up_ne _ _ h, va_up_ne _ _ h])] at hS3
          refine ze_iinc (b := ((i + 1 : Nat))) (lv' := [(0, .ref E), (1, .ref (E + 4)), (2, ze_i ((fm : Nat))), (3, ze_i ((pr : Nat))), (4, ze_i ((x : Nat))), (5, ze_i ((u.length : Nat))), (6, ze_i (((i + 1 : Nat))))]) dX4_writeWord_45 rfl rfl (by omega) rfl ?_
          refine ze_goto 11 dX4_writeWord_48 (by decide) ?_
          refine ih (i + 1) _ _ (by omega) hS3 (fun j hj => ?_) (fun j hj => by rw [va_up_ne _ _ (by omega)]; exact i2 j hj)
          by_cases h : j = i
          · rw [h, va_up_self]
          · rw [va_up_ne _ _ (by omega)]; exact i1 j (by omega)
  change ze_V G l (ze_rm 0 0 0) M4_writeWord Z 0 [(0, .ref E), (1, .ref (E + 4)), (2, ze_i ((fm : Nat))), (3, ze_i ((pr : Nat))), (4, ze_i ((x : Nat)))] [] w 0 0
  refine ze_aload_n dX4_writeWord_0 rfl ?_
  refine ze_getf dX4_writeWord_1 fl_X4_34 (tt_o hS) rfl ?_
  refine ze_iload_n dX4_writeWord_4 rfl ?_
  refine ze_iald (j := pr) dX4_writeWord_5 (show w.2 (E + 5) = some (ze_ia G 16 (ia 5)) from tt_i hS 5 (by decide)) (by omega) (by omega) (by omega) ?_
  rw [hlen]
  refine ze_istore (lv' := [(0, .ref E), (1, .ref (E + 4)), (2, ze_i ((fm : Nat))), (3, ze_i ((pr : Nat))), (4, ze_i ((x : Nat))), (5, ze_i ((u.length : Nat)))]) dX4_writeWord_6 rfl rfl ?_
  refine ze_iconst dX4_writeWord_8 ?_
  refine ze_ti (b := ((0 : Nat) : Nat)) rfl ?_
  refine ze_istore (lv' := [(0, .ref E), (1, .ref (E + 4)), (2, ze_i ((fm : Nat))), (3, ze_i ((pr : Nat))), (4, ze_i ((x : Nat))), (5, ze_i ((u.length : Nat))), (6, ze_i (((0 : Nat) : Nat)))]) dX4_writeWord_9 rfl rfl ?_
  exact loop u.length 0 (ia 4) w (by omega) (by rw [show va_up ia 4 (ia 4) = ia from by funext j; by_cases h : j = 4; (rw [h, va_up_self]); (rw [va_up_ne _ _ h])]; exact hS) (fun j hj => absurd hj (Nat.not_lt_zero _)) (fun _ _ => rfl)
theorem C4_writeWord11 {G : ze_G} {l : Launch} {w0 w : ze_W} {E N K q FL : Nat} {ia la : Nat → Nat → Int} {fm pr x : Nat} {u : List Nat} (hS : tst G w0 w E N K q FL ia la) (hpr : pr < 16) (hlen : ia 5 pr = (u.length : Nat)) (hl : u.length < 16) (hfm : fm + u.length < 16)  (hwd : ∀ j, j < u.length → ia 4 (pr * 16 + j) = (tm_rd u j : Nat)) : ze_C G l 0 0 0 M4_writeWord [.ref E, .ref (E + 11), ze_i (fm : Nat), ze_i (pr : Nat), ze_i (x : Nat)] w (ze_qi (fun r w' => r = ((u.length + 1 : Nat) : Int) ∧ ∃ f', tst G w0 w' E N K q FL (va_up ia 11 f') la ∧ (∀ j, j ≤ u.length → f' (fm + j) = (tm_rd (x :: u) j : Nat)) ∧ ∀ j, j < fm ∨ fm + u.length < j → f' j = ia 11 j)) := by
  refine ze_enter (by decide +kernel) rfl ?_
  generalize hQ : (ze_Q G (ze_qi (fun r w' => r = ((u.length + 1 : Nat) : Int) ∧ ∃ f', tst G w0 w' E N K q FL (va_up ia 11 f') la ∧ (∀ j, j ≤ u.length → f' (fm + j) = (tm_rd (x :: u) j : Nat)) ∧ ∀ j, j < fm ∨ fm + u.length < j → f' j = ia 11 j)) 0 0) = Z
  have loop : ∀ (d i : Nat) (f1 : Nat → Int) (w1 : ze_W), i + d = u.length → tst G w0 w1 E N K q FL (va_up ia 11 f1) la → (∀ j, j < i → f1 (fm + j) = (tm_rd u j : Nat)) → (∀ j, j < fm ∨ fm + u.length < j → f1 j = ia 11 j) → ze_V G l (ze_rm 0 0 0) M4_writeWord Z 11 [(0, .ref E), (1, .ref (E + 11)), (2, ze_i ((fm : Nat))), (3, ze_i ((pr : Nat))), (4, ze_i ((x : Nat))), (5, ze_i ((u.length : Nat))), (6, ze_i ((i : Nat)))] [] w1 0 0 := by
    intro d
    induction d with
    | zero =>
      intro i f1 w1 hi hS1 i1 i2
      rw [← hQ]
      refine ze_iload dX4_writeWord_11 rfl ?_
      refine ze_iload dX4_writeWord_13 rfl ?_
      refine ze_icmp_ge 51 dX4_writeWord_15 (by decide) (by omega) (by omega) (fun q1 => ?_) (fun q1 => ?_)
      · refine ze_iload_n dX4_writeWord_51 rfl ?_
        refine ze_iload dX4_writeWord_52 rfl ?_
        refine ze_iadd dX4_writeWord_54 ?_
        refine ze_aload_n dX4_writeWord_55 rfl ?_
        refine ze_alen dX4_writeWord_56 (show w1.2 (E + 11) = some (ze_ia G 16 ((va_up ia 11 f1) 11)) from tt_i hS1 11 (by decide)) rfl ?_
        refine ze_icmp_ge 68 dX4_writeWord_57 (by decide) (by omega) (by omega) (fun q2 => ?_) (fun q2 => ?_)
        · omega
        · refine ze_aload_n dX4_writeWord_60 rfl ?_
          refine ze_iload_n dX4_writeWord_61 rfl ?_
          refine ze_iload dX4_writeWord_62 rfl ?_
          refine ze_iadd dX4_writeWord_64 ?_
          refine ze_iload dX4_writeWord_65 rfl ?_
          refine ze_iastW (j := (fm + u.length)) (f' := va_up ((va_up ia 11 f1) 11) (fm + u.length) ((x : Nat))) dX4_writeWord_67 (show w1.2 (E + 11) = some (ze_ia G 16 ((va_up ia 11 f1) 11)) from tt_i hS1 11 (by decide)) (by omega) (by omega) (by omega) rfl (fun w3 z3 c3 o3 => ?_)
          have hS3 := tt_wi hS1 11 (by decide) z3 c3 o3
          rw [va_up_self] at hS3
          rw [show va_up (va_up ia 11 f1) 11 (va_up f1 (fm + u.length) ((x : Nat) : Int)) = va_up ia 11 (va_up f1 (fm + u.length) ((x : Nat) : Int)) from by funext j; by_cases h : j = 11; (rw [h, va_up_self, va_up_self]); (rw [va_up_ne _ _ h, va_up_ne _ _ h, va_up_ne _ _ h])] at hS3
          refine ze_iload dX4_writeWord_68 rfl ?_
          refine ze_iconst dX4_writeWord_70 ?_
          refine ze_iadd dX4_writeWord_71 ?_
          refine ze_ireturn rfl dX4_writeWord_72 ⟨_, rfl, by omega, _, hS3, fun j hj => ?_, fun j hj => by rw [va_up_ne _ _ (by omega)]; exact i2 j hj⟩ rfl rfl
          by_cases h : j = u.length
          · rw [h, va_up_self, tm_rd_l]
          · rw [va_up_ne _ _ (by omega), tm_rd_n h]; exact i1 j (by omega)
      · omega
    | succ d ih =>
      intro i f1 w1 hi hS1 i1 i2
      refine ze_iload dX4_writeWord_11 rfl ?_
      refine ze_iload dX4_writeWord_13 rfl ?_
      refine ze_icmp_ge 51 dX4_writeWord_15 (by decide) (by omega) (by omega) (fun q1 => ?_) (fun q1 => ?_)
      · omega
      · refine ze_iload_n dX4_writeWord_18 rfl ?_
        refine ze_iload dX4_writeWord_19 rfl ?_
        refine ze_iadd dX4_writeWord_21 ?_
        refine ze_aload_n dX4_writeWord_22 rfl ?_
        refine ze_alen dX4_writeWord_23 (show w1.2 (E + 11) = some (ze_ia G 16 ((va_up ia 11 f1) 11)) from tt_i hS1 11 (by decide)) rfl ?_
        refine ze_icmp_ge 51 dX4_writeWord_24 (by decide) (by omega) (by omega) (fun q2 => ?_) (fun q2 => ?_)
        · omega
        · refine ze_aload_n dX4_writeWord_27 rfl ?_
          refine ze_iload_n dX4_writeWord_28 rfl ?_
          refine ze_iload dX4_writeWord_29 rfl ?_
          refine ze_iadd dX4_writeWord_31 ?_
          refine ze_aload_n dX4_writeWord_32 rfl ?_
          refine ze_getf dX4_writeWord_33 fl_X4_31 (tt_o hS1) rfl ?_
          refine ze_iload_n dX4_writeWord_36 rfl ?_
          refine ze_bipush dX4_writeWord_37 (by decide) ?_
          refine ze_imul dX4_writeWord_39 ?_
          refine ze_iload dX4_writeWord_40 rfl ?_
          refine ze_iadd dX4_writeWord_42 ?_
          refine ze_iald (j := (pr * 16 + i)) dX4_writeWord_43 (show w1.2 (E + 4) = some (ze_ia G 256 ((va_up ia 11 f1) 4)) from tt_i hS1 4 (by decide)) (by omega) (by omega) (by omega) ?_
          rw [va_up_ne _ _ (by decide), hwd i (by omega)]
          refine ze_iastW (j := (fm + i)) (f' := va_up ((va_up ia 11 f1) 11) (fm + i) ((tm_rd u i : Nat))) dX4_writeWord_44 (show w1.2 (E + 11) = some (ze_ia G 16 ((va_up ia 11 f1) 11)) from tt_i hS1 11 (by decide)) (by omega) (by omega) (by omega) rfl (fun w3 z3 c3 o3 => ?_)
          have hS3 := tt_wi hS1 11 (by decide) z3 c3 o3
          rw [va_up_self] at hS3
          rw [show va_up (va_up ia 11 f1) 11 (va_up f1 (fm + i) ((tm_rd u i : Nat) : Int)) = va_up ia 11 (va_up f1 (fm + i) ((tm_rd u i : Nat) : Int)) from by funext j; by_cases h : j = 11; (rw [h, va_up_self, va_up_self]); (rw [va_up_ne _ _ h, va_up_ne _ _ h, va_up_ne _ _ h])] at hS3
          refine ze_iinc (b := ((i + 1 : Nat))) (lv' := [(0, .ref E), (1, .ref (E + 11)), (2, ze_i ((fm : Nat))), (3, ze_i ((pr : Nat))), (4, ze_i ((x : Nat))), (5, ze_i ((u.length : Nat))), (6, ze_i (((i + 1 : Nat))))]) dX4_writeWord_45 rfl rfl (by omega) rfl ?_
          refine ze_goto 11 dX4_writeWord_48 (by decide) ?_
          refine ih (i + 1) _ _ (by omega) hS3 (fun j hj => ?_) (fun j hj => by rw [va_up_ne _ _ (by omega)]; exact i2 j hj)
          by_cases h : j = i
          · rw [h, va_up_self]
          · rw [va_up_ne _ _ (by omega)]; exact i1 j (by omega)
  change ze_V G l (ze_rm 0 0 0) M4_writeWord Z 0 [(0, .ref E), (1, .ref (E + 11)), (2, ze_i ((fm : Nat))), (3, ze_i ((pr : Nat))), (4, ze_i ((x : Nat)))] [] w 0 0
  refine ze_aload_n dX4_writeWord_0 rfl ?_
  refine ze_getf dX4_writeWord_1 fl_X4_34 (tt_o hS) rfl ?_
  refine ze_iload_n dX4_writeWord_4 rfl ?_
  refine ze_iald (j := pr) dX4_writeWord_5 (show w.2 (E + 5) = some (ze_ia G 16 (ia 5)) from tt_i hS 5 (by decide)) (by omega) (by omega) (by omega) ?_
  rw [hlen]
  refine ze_istore (lv' := [(0, .ref E), (1, .ref (E + 11)), (2, ze_i ((fm : Nat))), (3, ze_i ((pr : Nat))), (4, ze_i ((x : Nat))), (5, ze_i ((u.length : Nat)))]) dX4_writeWord_6 rfl rfl ?_
  refine ze_iconst dX4_writeWord_8 ?_
  refine ze_ti (b := ((0 : Nat) : Nat)) rfl ?_
  refine ze_istore (lv' := [(0, .ref E), (1, .ref (E + 11)), (2, ze_i ((fm : Nat))), (3, ze_i ((pr : Nat))), (4, ze_i ((x : Nat))), (5, ze_i ((u.length : Nat))), (6, ze_i (((0 : Nat) : Nat)))]) dX4_writeWord_9 rfl rfl ?_
  exact loop u.length 0 (ia 11) w (by omega) (by rw [show va_up ia 11 (ia 11) = ia from by funext j; by_cases h : j = 11; (rw [h, va_up_self]); (rw [va_up_ne _ _ h])]; exact hS) (fun j hj => absurd hj (Nat.not_lt_zero _)) (fun _ _ => rfl)
/-- the word that is found so far, none if it is empty -/
def fdw (K F : Nat) (ia : Nat → Nat → Int) (z : List Nat) : Prop := F = z.length ∧ alw K z ∧ z.length < 16 ∧ ∀ j, j < z.length → ia 11 j = (tm_rd z j : Nat)
theorem C4_comesBeforeFound {G : ze_G} {l : Launch} {w0 w : ze_W} {E N K q FL : Nat} {ia la : Nat → Nat → Int} {pr x : Nat} {u z : List Nat} (hS : tst G w0 w E N K q FL ia la) (hK : K ≤ 6) (hpr : pr < 16) (hx : x < K) (hu : alw K u) (hlen : ia 5 pr = (u.length : Nat)) (hl : u.length < 16) (hwd : ∀ j, j < u.length → ia 4 (pr * 16 + j) = (tm_rd u j : Nat)) (hz : fdw K FL ia z) : ze_C G l 0 0 0 M4_comesBeforeFound [.ref E, ze_i (pr : Nat), ze_i (x : Nat)] w (ze_qi (fun r w' => tf r (wcd (x :: u) < wcd z) ∧ w' = w)) := by
  obtain ⟨z1, z2, z3, z4⟩ := hz
  have hxu : alw K (x :: u) := ⟨hx, hu⟩
  have hrd : ∀ j, tm_rd u j < 6 := fun j => Nat.lt_of_lt_of_le (tm_rd_lt (by omega) u hu j) hK
  have hrz : ∀ j, tm_rd z j < 6 := fun j => Nat.lt_of_lt_of_le (tm_rd_lt (by omega) z z2 j) hK
  refine ze_enter (by decide +kernel) rfl ?_
  generalize hQ : (ze_Q G (ze_qi (fun r w' => tf r (wcd (x :: u) < wcd z) ∧ w' = w)) 0 0) = Z
  have loop : u.length + 1 = z.length → ∀ (d i : Nat), i + d = u.length → (∀ j, j < i → tm_rd u j = tm_rd z j) → ze_V G l (ze_rm 0 0 0) M4_comesBeforeFound Z 36 [(0, .ref E), (1, ze_i ((pr : Nat))), (2, ze_i ((x : Nat))), (3, ze_i ((u.length : Nat))), (4, ze_i ((i : Nat)))] [] w 0 0 := by
    intro hlz d
    induction d with
    | zero =>
      intro i hi i1
      have h4 := z4 u.length (by omega)
      have hr1 := hrz u.length
      rw [← hQ]
      refine ze_iload dX4_comesBeforeFound_36 rfl ?_
      refine ze_iload_n dX4_comesBeforeFound_38 rfl ?_
      refine ze_icmp_ge 92 dX4_comesBeforeFound_39 (by decide) (by omega) (by omega) (fun q1 => ?_) (fun q1 => ?_)
      · refine ze_iload_n dX4_comesBeforeFound_92 rfl ?_
        refine ze_aload_n dX4_comesBeforeFound_93 rfl ?_
        refine ze_getf dX4_comesBeforeFound_94 fl_X4_53 (tt_o hS) rfl ?_
        refine ze_iload_n dX4_comesBeforeFound_97 rfl ?_
        refine ze_iald (j := u.length) dX4_comesBeforeFound_98 (show w.2 (E + 11) = some (ze_ia G 16 (ia 11)) from tt_i hS 11 (by decide)) (by omega) (by omega) (by omega) ?_
        rw [h4]
        refine ze_icmp_ge 106 dX4_comesBeforeFound_99 (by decide) (by omega) (by omega) (fun q2 => ?_) (fun q2 => ?_)
        · refine ze_iconst dX4_comesBeforeFound_106 ?_
          refine ze_zreturn rfl dX4_comesBeforeFound_107 (by decide) ⟨_, rfl, Or.inr ⟨rfl, ?_⟩, rfl⟩ rfl rfl
          by_cases hxe : x = tm_rd z u.length
          · rw [tm_same (x :: u) z hlz (fun j hj => by
              have hj : j < u.length + 1 := hj
              by_cases h : j = u.length
              · rw [h, tm_rd_l]; exact hxe
              · rw [tm_rd_n h]; exact i1 j (by omega))]
            exact Nat.lt_irrefl _
          · have := tm_lex hK z (x :: u) u.length z2 hlz.symm (by omega) (fun j hj => by rw [tm_rd_n (by omega)]; exact (i1 j (by omega)).symm) (by rw [tm_rd_l]; omega)
            omega
        · refine ze_iconst dX4_comesBeforeFound_102 ?_
          refine ze_goto 107 dX4_comesBeforeFound_103 (by decide) ?_
          exact ze_zreturn rfl dX4_comesBeforeFound_107 (by decide) ⟨_, rfl, Or.inl ⟨rfl, tm_lex hK (x :: u) z u.length hxu hlz (Nat.lt_succ_self _) (fun j hj => by rw [tm_rd_n (by omega)]; exact i1 j (by omega)) (by rw [tm_rd_l]; omega)⟩, rfl⟩ rfl rfl
      · omega
    | succ d ih =>
      intro i hi i1
      have h4 := z4 i (by omega)
      have h5 := hwd i (by omega)
      have hr1 := hrz i
      have hr2 := hrd i
      refine ze_iload dX4_comesBeforeFound_36 rfl ?_
      refine ze_iload_n dX4_comesBeforeFound_38 rfl ?_
      refine ze_icmp_ge 92 dX4_comesBeforeFound_39 (by decide) (by omega) (by omega) (fun q1 => ?_) (fun q1 => ?_)
      · omega
      · refine ze_aload_n dX4_comesBeforeFound_42 rfl ?_
        refine ze_getf dX4_comesBeforeFound_43 fl_X4_31 (tt_o hS) rfl ?_
        refine ze_iload_n dX4_comesBeforeFound_46 rfl ?_
        refine ze_bipush dX4_comesBeforeFound_47 (by decide) ?_
        refine ze_imul dX4_comesBeforeFound_49 ?_
        refine ze_iload dX4_comesBeforeFound_50 rfl ?_
        refine ze_iadd dX4_comesBeforeFound_52 ?_
        refine ze_iald (j := (pr * 16 + i)) dX4_comesBeforeFound_53 (show w.2 (E + 4) = some (ze_ia G 256 (ia 4)) from tt_i hS 4 (by decide)) (by omega) (by omega) (by omega) ?_
        rw [h5]
        refine ze_istore (lv' := [(0, .ref E), (1, ze_i ((pr : Nat))), (2, ze_i ((x : Nat))), (3, ze_i ((u.length : Nat))), (4, ze_i ((i : Nat))), (5, ze_i ((tm_rd u i : Nat)))]) dX4_comesBeforeFound_54 rfl rfl ?_
        refine ze_iload dX4_comesBeforeFound_56 rfl ?_
        refine ze_aload_n dX4_comesBeforeFound_58 rfl ?_
        refine ze_getf dX4_comesBeforeFound_59 fl_X4_53 (tt_o hS) rfl ?_
        refine ze_iload dX4_comesBeforeFound_62 rfl ?_
        refine ze_iald (j := i) dX4_comesBeforeFound_64 (show w.2 (E + 11) = some (ze_ia G 16 (ia 11)) from tt_i hS 11 (by decide)) (by omega) (by omega) (by omega) ?_
        rw [h4]
        refine ze_icmp_eq 86 dX4_comesBeforeFound_65 (by decide) (by omega) (by omega) (fun q2 => ?_) (fun q2 => ?_)
        · refine ze_iinc (b := ((i + 1 : Nat))) (lv' := [(0, .ref E), (1, ze_i ((pr : Nat))), (2, ze_i ((x : Nat))), (3, ze_i ((u.length : Nat))), (4, ze_i (((i + 1 : Nat)))), (5, ze_i ((tm_rd u i : Nat)))]) dX4_comesBeforeFound_86 rfl rfl (by omega) rfl ?_
          refine ze_goto 36 dX4_comesBeforeFound_89 (by decide) ?_
          refine ze_lv (lv' := [(0, .ref E), (1, ze_i ((pr : Nat))), (2, ze_i ((x : Nat))), (3, ze_i ((u.length : Nat))), (4, ze_i (((i + 1 : Nat))))]) [0, 1, 2, 3, 4] rfl ?_
          exact ih (i + 1) (by omega) (fun j hj => by
            by_cases h : j = i
            · rw [h]; omega
            · exact i1 j (by omega))
        · refine ze_iload dX4_comesBeforeFound_68 rfl ?_
          refine ze_aload_n dX4_comesBeforeFound_70 rfl ?_
          refine ze_getf dX4_comesBeforeFound_71 fl_X4_53 (tt_o hS) rfl ?_
          refine ze_iload dX4_comesBeforeFound_74 rfl ?_
          refine ze_iald (j := i) dX4_comesBeforeFound_76 (show w.2 (E + 11) = some (ze_ia G 16 (ia 11)) from tt_i hS 11 (by decide)) (by omega) (by omega) (by omega) ?_
          rw [h4]
          refine ze_icmp_ge 84 dX4_comesBeforeFound_77 (by decide) (by omega) (by omega) (fun q3 => ?_) (fun q3 => ?_)
          · refine ze_iconst dX4_comesBeforeFound_84 ?_
            rw [← hQ]
            refine ze_zreturn rfl dX4_comesBeforeFound_85 (by decide) ⟨_, rfl, Or.inr ⟨rfl, ?_⟩, rfl⟩ rfl rfl
            have := tm_lex hK z (x :: u) i z2 hlz.symm (by omega) (fun j hj => by rw [tm_rd_n (by omega)]; exact (i1 j hj).symm) (by rw [tm_rd_n (by omega)]; omega)
            omega
          · refine ze_iconst dX4_comesBeforeFound_80 ?_
            refine ze_goto 85 dX4_comesBeforeFound_81 (by decide) ?_
            rw [← hQ]
            exact ze_zreturn rfl dX4_comesBeforeFound_85 (by decide) ⟨_, rfl, Or.inl ⟨rfl, tm_lex hK (x :: u) z i hxu hlz (by show i < u.length + 1; omega) (fun j hj => by rw [tm_rd_n (by omega)]; exact i1 j hj) (by rw [tm_rd_n (by omega)]; omega)⟩, rfl⟩ rfl rfl
  change ze_V G l (ze_rm 0 0 0) M4_comesBeforeFound Z 0 [(0, .ref E), (1, ze_i ((pr : Nat))), (2, ze_i ((x : Nat)))] [] w 0 0
  refine ze_aload_n dX4_comesBeforeFound_0 rfl ?_
  refine ze_getf dX4_comesBeforeFound_1 fl_X4_34 (tt_o hS) rfl ?_
  refine ze_iload_n dX4_comesBeforeFound_4 rfl ?_
  refine ze_iald (j := pr) dX4_comesBeforeFound_5 (show w.2 (E + 5) = some (ze_ia G 16 (ia 5)) from tt_i hS 5 (by decide)) (by omega) (by omega) (by omega) ?_
  rw [hlen]
  refine ze_istore_n (lv' := [(0, .ref E), (1, ze_i ((pr : Nat))), (2, ze_i ((x : Nat))), (3, ze_i ((u.length : Nat)))]) dX4_comesBeforeFound_6 rfl rfl ?_
  refine ze_iload_n dX4_comesBeforeFound_7 rfl ?_
  refine ze_iconst dX4_comesBeforeFound_8 ?_
  refine ze_iadd dX4_comesBeforeFound_9 ?_
  refine ze_aload_n dX4_comesBeforeFound_10 rfl ?_
  refine ze_getf dX4_comesBeforeFound_11 fl_X4_56 (tt_o hS) rfl ?_
  refine ze_icmp_eq 33 dX4_comesBeforeFound_14 (by decide) (by omega) (by omega) (fun q1 => ?_) (fun q1 => ?_)
  · refine ze_iconst dX4_comesBeforeFound_33 ?_
    refine ze_ti (b := ((0 : Nat) : Nat)) rfl ?_
    refine ze_istore (lv' := [(0, .ref E), (1, ze_i ((pr : Nat))), (2, ze_i ((x : Nat))), (3, ze_i ((u.length : Nat))), (4, ze_i (((0 : Nat) : Nat)))]) dX4_comesBeforeFound_34 rfl rfl ?_
    exact loop (by omega) u.length 0 (by omega) (fun j hj => absurd hj (Nat.not_lt_zero _))
  · refine ze_iload_n dX4_comesBeforeFound_17 rfl ?_
    refine ze_iconst dX4_comesBeforeFound_18 ?_
    refine ze_iadd dX4_comesBeforeFound_19 ?_
    refine ze_aload_n dX4_comesBeforeFound_20 rfl ?_
    refine ze_getf dX4_comesBeforeFound_21 fl_X4_56 (tt_o hS) rfl ?_
    refine ze_icmp_ge 31 dX4_comesBeforeFound_24 (by decide) (by omega) (by omega) (fun q2 => ?_) (fun q2 => ?_)
    · refine ze_iconst dX4_comesBeforeFound_31 ?_
      rw [← hQ]
      exact ze_zreturn rfl dX4_comesBeforeFound_32 (by decide) ⟨_, rfl, Or.inr ⟨rfl, fun hc => by have := tm_len_lt (v := x :: u) hK z2 (show z.length < u.length + 1 by omega); omega⟩, rfl⟩ rfl rfl
    · refine ze_iconst dX4_comesBeforeFound_27 ?_
      refine ze_goto 32 dX4_comesBeforeFound_28 (by decide) ?_
      rw [← hQ]
      exact ze_zreturn rfl dX4_comesBeforeFound_32 (by decide) ⟨_, rfl, Or.inl ⟨rfl, tm_len_lt hK hxu (show u.length + 1 < z.length by omega)⟩, rfl⟩ rfl rfl
theorem C4_offerFound {G : ze_G} {l : Launch} {w0 w : ze_W} {E N K q FL : Nat} {ia la : Nat → Nat → Int} {pr x : Nat} {u z : List Nat} (hS : tst G w0 w E N K q FL ia la) (hK : K ≤ 6) (hpr : pr < 16) (hx : x < K) (hu : alw K u) (hlen : ia 5 pr = (u.length : Nat)) (hl : u.length < 15) (hwd : ∀ j, j < u.length → ia 4 (pr * 16 + j) = (tm_rd u j : Nat)) (hz : fdw K FL ia z) : ze_C G l 1 0 0 M4_offerFound [.ref E, ze_i (pr : Nat), ze_i (x : Nat)] w (ze_qv (fun w' => ∃ ia' F' z', tst G w0 w' E N K q F' ia' la ∧ (∀ j, j ≠ 11 → ia' j = ia j) ∧ fdw K F' ia' z' ∧ (((z = [] ∨ wcd (x :: u) < wcd z) ∧ z' = x :: u) ∨ (z ≠ [] ∧ ¬ wcd (x :: u) < wcd z ∧ z' = z)))) := by
  have hz0 := hz
  obtain ⟨z1, z2, z3, z4⟩ := hz
  refine ze_enter (by decide +kernel) rfl ?_
  change ze_V G l (ze_rm 1 0 0) M4_offerFound _ 0 [(0, .ref E), (1, ze_i ((pr : Nat))), (2, ze_i ((x : Nat)))] [] w 0 0
  refine ze_aload_n dX4_offerFound_0 rfl ?_
  refine ze_getf dX4_offerFound_1 fl_X4_56 (tt_o hS) rfl ?_
  refine ze_if_eq 16 dX4_offerFound_4 (by decide) (by omega) (fun q1 => ?_) (fun q1 => ?_)
  · refine ze_aload_n dX4_offerFound_16 rfl ?_
    refine ze_aload_n dX4_offerFound_17 rfl ?_
    refine ze_aload_n dX4_offerFound_18 rfl ?_
    refine ze_getf dX4_offerFound_19 fl_X4_53 (tt_o hS) rfl ?_
    refine ze_iconst dX4_offerFound_22 ?_
    refine ze_iload_n dX4_offerFound_23 rfl ?_
    refine ze_iload_n dX4_offerFound_24 rfl ?_
    change ze_V G l (ze_rm 1 0 0) M4_offerFound _ 25 [(0, .ref E), (1, ze_i ((pr : Nat))), (2, ze_i ((x : Nat)))] [ze_i ((x : Nat)), ze_i ((pr : Nat)), ze_i (((0 : Nat) : Nat)), .ref (E + 11), .ref E, .ref E] w 0 0
    refine ze_callV (As := [.ref (E + 11), ze_i (((0 : Nat) : Nat)), ze_i ((pr : Nat)), ze_i ((x : Nat))]) (rest := [.ref E]) dX4_offerFound_25 (C4_writeWord11 (fm := 0) (pr := pr) (x := x) (u := u) hS hpr hlen (by omega) (by omega) hwd) mo4_writeWord ml_X4_121 in_4_writeWord se_4_writeWord (tt_o hS) rfl rfl rfl rfl rfl ⟨Nat.le_refl _, Nat.le_refl _⟩ rfl (Nat.le_of_ble_eq_true rfl) ?_
    rintro _ w2 ⟨r2, rfl, rfl, f2, hS2, k1, k2⟩
    change ze_V G l (ze_rm 1 0 0) M4_offerFound _ 28 [(0, .ref E), (1, ze_i ((pr : Nat))), (2, ze_i ((x : Nat)))] [ze_i (((u.length + 1 : Nat))), .ref E] w2 0 0
    refine ze_putfW (fs' := tfs E N K q (u.length + 1)) dX4_offerFound_28 fl_X4_56 (Or.inl rfl) (tt_o hS2) rfl rfl (Nat.le_of_ble_eq_true rfl) rfl (fun w2 z2 c2 o2 => ?_)
    have hS2 := tt_wo (N' := N) (K' := K) (q' := q) (F' := (u.length + 1)) hS2 z2 c2 o2
    exact ze_return rfl dX4_offerFound_31 ⟨rfl, _, _, x :: u, hS2, fun j hj => va_up_ne _ _ hj, ⟨rfl, ⟨hx, hu⟩, show u.length + 1 < 16 by omega, fun j hj => by have hj : j < u.length + 1 := hj; rw [va_up_self]; have := k1 j (by omega); rw [Nat.zero_add] at this; exact this⟩, Or.inl ⟨Or.inl (List.length_eq_zero_iff.mp (by omega)), rfl⟩⟩ rfl rfl
  · refine ze_aload_n dX4_offerFound_7 rfl ?_
    refine ze_iload_n dX4_offerFound_8 rfl ?_
    refine ze_iload_n dX4_offerFound_9 rfl ?_
    refine ze_callV (As := [ze_i ((pr : Nat)), ze_i ((x : Nat))]) (rest := []) dX4_offerFound_10 (C4_comesBeforeFound hS hK hpr hx hu hlen (by omega) hwd hz0) mo4_comesBeforeFound ml_X4_125 in_4_comesBeforeFound se_4_comesBeforeFound (tt_o hS) rfl rfl rfl rfl rfl ⟨Nat.le_refl _, Nat.le_refl _⟩ rfl (Nat.le_of_ble_eq_true rfl) ?_
    rintro _ w' ⟨r1, rfl, hr1, rfl⟩
    change ze_V G l (ze_rm 1 0 0) M4_offerFound _ 13 [(0, .ref E), (1, ze_i ((pr : Nat))), (2, ze_i ((x : Nat)))] [ze_i (r1)] w' 0 0
    refine ze_if_eq 31 dX4_offerFound_13 (by decide) (tf_rng hr1) (fun q3 => ?_) (fun q3 => ?_)
    · exact ze_return rfl dX4_offerFound_31 ⟨rfl, ia, FL, z, hS, fun _ _ => rfl, hz0, Or.inr ⟨fun hz => by rw [hz] at z1; have z1 : FL = 0 := z1; omega, tf_z hr1 q3, rfl⟩⟩ rfl rfl
    · refine ze_aload_n dX4_offerFound_16 rfl ?_
      refine ze_aload_n dX4_offerFound_17 rfl ?_
      refine ze_aload_n dX4_offerFound_18 rfl ?_
      refine ze_getf dX4_offerFound_19 fl_X4_53 (tt_o hS) rfl ?_
      refine ze_iconst dX4_offerFound_22 ?_
      refine ze_iload_n dX4_offerFound_23 rfl ?_
      refine ze_iload_n dX4_offerFound_24 rfl ?_
      change ze_V G l (ze_rm 1 0 0) M4_offerFound _ 25 [(0, .ref E), (1, ze_i ((pr : Nat))), (2, ze_i ((x : Nat)))] [ze_i ((x : Nat)), ze_i ((pr : Nat)), ze_i (((0 : Nat) : Nat)), .ref (E + 11), .ref E, .ref E] w' 0 0
      refine ze_callV (As := [.ref (E + 11), ze_i (((0 : Nat) : Nat)), ze_i ((pr : Nat)), ze_i ((x : Nat))]) (rest := [.ref E]) dX4_offerFound_25 (C4_writeWord11 (fm := 0) (pr := pr) (x := x) (u := u) hS hpr hlen (by omega) (by omega) hwd) mo4_writeWord ml_X4_121 in_4_writeWord se_4_writeWord (tt_o hS) rfl rfl rfl rfl rfl ⟨Nat.le_refl _, Nat.le_refl _⟩ rfl (Nat.le_of_ble_eq_true rfl) ?_
      rintro _ w2 ⟨r2, rfl, rfl, f2, hS2, k1, k2⟩
      change ze_V G l (ze_rm 1 0 0) M4_offerFound _ 28 [(0, .ref E), (1, ze_i ((pr : Nat))), (2, ze_i ((x : Nat)))] [ze_i (((u.length + 1 : Nat))), .ref E] w2 0 0
      refine ze_putfW (fs' := tfs E N K q (u.length + 1)) dX4_offerFound_28 fl_X4_56 (Or.inl rfl) (tt_o hS2) rfl rfl (Nat.le_of_ble_eq_true rfl) rfl (fun w4 z4 c4 o4 => ?_)
      have hS4 := tt_wo (N' := N) (K' := K) (q' := q) (F' := (u.length + 1)) hS2 z4 c4 o4
      exact ze_return rfl dX4_offerFound_31 ⟨rfl, _, _, x :: u, hS4, fun j hj => va_up_ne _ _ hj, ⟨rfl, ⟨hx, hu⟩, show u.length + 1 < 16 by omega, fun j hj => by have hj : j < u.length + 1 := hj; rw [va_up_self]; have := k1 j (by omega); rw [Nat.zero_add] at this; exact this⟩, Or.inl ⟨Or.inr (tf_n hr1 q3), rfl⟩⟩ rfl rfl
