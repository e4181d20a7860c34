/-! the reference: chain -/
def zr (f g : Nat → Int) (a b : Nat) : Prop := ∀ j, g j = if a ≤ j ∧ j < b then 0 else f j
theorem zr_0 {f : Nat → Int} {a : Nat} : zr f f a a := fun j => by rw [if_neg (by omega)]
theorem zr_s {f g : Nat → Int} {a b : Nat} (h : zr f g a b) (hab : a ≤ b) : zr f (va_up g b 0) a (b + 1) := by
  intro j
  by_cases e : j = b
  · rw [e, va_up_self, if_pos (by omega)]
  · rw [va_up_ne _ _ e, h j]
    by_cases e2 : a ≤ j ∧ j < b
    · rw [if_pos e2, if_pos (by omega)]
    · rw [if_neg e2, if_neg (by omega)]
/-- a new chain's rows, so far -/
def chi (ar ar' : Nat → Nat → Int) (C : Nat) (n k t : Int) (p4 p5 p6 : Nat) : Prop := ar' 1 = va_up (ar 1) C n ∧ ar' 2 = va_up (ar 2) C k ∧ ar' 3 = va_up (ar 3) C t ∧ zr (ar 4) (ar' 4) (C * 8) p4 ∧ zr (ar 5) (ar' 5) (C * 64) p5 ∧ zr (ar 6) (ar' 6) (C * 48) p6 ∧ ∀ q, 6 < q → ar' q = ar q
theorem chi_4 {ar ar' : Nat → Nat → Int} {C : Nat} {n k t : Int} {p4 p5 p6 : Nat} (h : chi ar ar' C n k t p4 p5 p6) (hp : C * 8 ≤ p4) : chi ar (va_up ar' 4 (va_up (ar' 4) p4 0)) C n k t (p4 + 1) p5 p6 := ⟨h.1, h.2.1, h.2.2.1, zr_s h.2.2.2.1 hp, h.2.2.2.2.1, h.2.2.2.2.2.1, fun q hq => by rw [va_up_ne _ _ (by omega)]; exact h.2.2.2.2.2.2 q hq⟩
theorem chi_5 {ar ar' : Nat → Nat → Int} {C : Nat} {n k t : Int} {p4 p5 p6 : Nat} (h : chi ar ar' C n k t p4 p5 p6) (hp : C * 64 ≤ p5) : chi ar (va_up ar' 5 (va_up (ar' 5) p5 0)) C n k t p4 (p5 + 1) p6 := ⟨h.1, h.2.1, h.2.2.1, h.2.2.2.1, zr_s h.2.2.2.2.1 hp, h.2.2.2.2.2.1, fun q hq => by rw [va_up_ne _ _ (by omega)]; exact h.2.2.2.2.2.2 q hq⟩
theorem chi_6 {ar ar' : Nat → Nat → Int} {C : Nat} {n k t : Int} {p4 p5 p6 : Nat} (h : chi ar ar' C n k t p4 p5 p6) (hp : C * 48 ≤ p6) : chi ar (va_up ar' 6 (va_up (ar' 6) p6 0)) C n k t p4 p5 (p6 + 1) := ⟨h.1, h.2.1, h.2.2.1, h.2.2.2.1, h.2.2.2.2.1, zr_s h.2.2.2.2.2.1 hp, fun q hq => by rw [va_up_ne _ _ (by omega)]; exact h.2.2.2.2.2.2 q hq⟩
theorem C8_chain {G : ze_G} {l : Launch} {w0 w : ze_W} {m C P F : Nat} {ar : Nat → Nat → Int} {bz : Nat → Int} (hM : mst G w0 w m C P F ar bz) {n k t : Int} (r_n : -2147483648 ≤ n ∧ n < 2147483648) (r_k : -2147483648 ≤ k ∧ k < 2147483648) (r_t : -2147483648 ≤ t ∧ t < 2147483648) (hC6 : C ≤ 6) : ze_C G l 0 0 0 M8_chain [.ref m, ze_i n, ze_i k, ze_i t] w (ze_qi (fun r w' => ∃ ar' C', mst G w0 w' m C' P F ar' bz ∧ ((¬ ((1 ≤ n ∧ n ≤ 8) ∧ (1 ≤ k ∧ k ≤ 6) ∧ (1 ≤ t ∧ t ≤ 1000)) ∧ r = -1 ∧ ar' = ar ∧ C' = C) ∨ (((1 ≤ n ∧ n ≤ 8) ∧ (1 ≤ k ∧ k ≤ 6) ∧ (1 ≤ t ∧ t ≤ 1000)) ∧ C = 6 ∧ r = -6 ∧ ar' = ar ∧ C' = C) ∨ (((1 ≤ n ∧ n ≤ 8) ∧ (1 ≤ k ∧ k ≤ 6) ∧ (1 ≤ t ∧ t ≤ 1000)) ∧ C < 6 ∧ r = (C : Nat) ∧ C' = C + 1 ∧ chi ar ar' C n k t (C * 8 + 8) (C * 64 + 64) (C * 48 + 48))))) := by
  refine ze_enter (by decide +kernel) rfl ?_
  generalize hQ : (ze_Q G (ze_qi (fun r w' => ∃ ar' C', mst G w0 w' m C' P F ar' bz ∧ ((¬ ((1 ≤ n ∧ n ≤ 8) ∧ (1 ≤ k ∧ k ≤ 6) ∧ (1 ≤ t ∧ t ≤ 1000)) ∧ r = -1 ∧ ar' = ar ∧ C' = C) ∨ (((1 ≤ n ∧ n ≤ 8) ∧ (1 ≤ k ∧ k ≤ 6) ∧ (1 ≤ t ∧ t ≤ 1000)) ∧ C = 6 ∧ r = -6 ∧ ar' = ar ∧ C' = C) ∨ (((1 ≤ n ∧ n ≤ 8) ∧ (1 ≤ k ∧ k ≤ 6) ∧ (1 ≤ t ∧ t ≤ 1000)) ∧ C < 6 ∧ r = (C : Nat) ∧ C' = C + 1 ∧ chi ar ar' C n k t (C * 8 + 8) (C * 64 + 64) (C * 48 + 48))))) 0 0) = Z
  have outer : ((1 ≤ n ∧ n ≤ 8) ∧ (1 ≤ k ∧ k ≤ 6) ∧ (1 ≤ t ∧ t ≤ 1000)) → C < 6 → ∀ (d s : Nat) (ar1 : Nat → Nat → Int) (w1 : ze_W), s + d = 8 → mst G w0 w1 m C P F ar1 bz → chi ar ar1 C n k t (C * 8 + s) (C * 64 + s * 8) (C * 48 + s * 6) → ze_V G l (ze_rm 0 0 0) M8_chain Z 81 [(0, .ref m), (1, ze_i (n)), (2, ze_i (k)), (3, ze_i (t)), (4, ze_i ((C : Nat))), (5, ze_i ((s : Nat)))] [] w1 0 0 := by
    intro hco hC d
    induction d with
    | zero =>
      intro s ar1 w1 hs hM1 hi
      have hs8 : s = 8 := by omega
      rw [hs8] at hi
      rw [← hQ]
      refine ze_iload dX8_chain_81 rfl ?_
      refine ze_bipush dX8_chain_83 (by decide) ?_
      refine ze_icmp_ge 180 dX8_chain_85 (by decide) (by omega) (by omega) (fun q1 => ?_) (fun q1 => ?_)
      · refine ze_aload_n dX8_chain_180 rfl ?_
        refine ze_dup dX8_chain_181 rfl ?_
        refine ze_getf dX8_chain_182 fl_X8_101 (ms_o hM1) rfl ?_
        refine ze_iconst dX8_chain_185 ?_
        refine ze_iadd dX8_chain_186 ?_
        refine ze_ti (b := ((C + 1 : Nat))) (by omega) ?_
        refine ze_putfW (fs' := mfs m (C + 1) P F) dX8_chain_187 fl_X8_101 (Or.inl rfl) (ms_o hM1) rfl rfl (Nat.le_of_ble_eq_true rfl) rfl (fun w2 z2 c2 o2 => ?_)
        have hM2 := ms_wo (C' := C + 1) (P' := P) (F' := F) hM1 z2 c2 o2
        refine ze_iload dX8_chain_190 rfl ?_
        exact ze_ireturn rfl dX8_chain_192 ⟨_, rfl, ar1, _, hM2, Or.inr (Or.inr ⟨hco, hC, rfl, rfl, hi⟩)⟩ rfl rfl
      · omega
    | succ d ih =>
      intro s ar0 w0' hs hM0 hi0
      have in2 : ∀ (e q : Nat) (ar1 : Nat → Nat → Int) (w1 : ze_W), q + e = 6 → mst G w0 w1 m C P F ar1 bz → chi ar ar1 C n k t (C * 8 + s + 1) (C * 64 + s * 8 + 8) (C * 48 + s * 6 + q) → ze_V G l (ze_rm 0 0 0) M8_chain Z 141 [(0, .ref m), (1, ze_i (n)), (2, ze_i (k)), (3, ze_i (t)), (4, ze_i ((C : Nat))), (5, ze_i ((s : Nat))), (6, ze_i ((q : Nat)))] [] w1 0 0 := by
        intro e
        induction e with
        | zero =>
          intro q ar1 w1 hq hM1 hi
          have hq6 : q = 6 := by omega
          rw [hq6] at hi
          refine ze_iload dX8_chain_141 rfl ?_
          refine ze_bipush dX8_chain_143 (by decide) ?_
          refine ze_icmp_ge 174 dX8_chain_145 (by decide) (by omega) (by omega) (fun q1 => ?_) (fun q1 => ?_)
          · refine ze_iinc (b := ((s + 1 : Nat))) (lv' := [(0, .ref m), (1, ze_i (n)), (2, ze_i (k)), (3, ze_i (t)), (4, ze_i ((C : Nat))), (5, ze_i (((s + 1 : Nat)))), (6, ze_i ((q : Nat)))]) dX8_chain_174 rfl rfl (by omega) rfl ?_
            refine ze_goto 81 dX8_chain_177 (by decide) ?_
            refine ze_lv (lv' := [(0, .ref m), (1, ze_i (n)), (2, ze_i (k)), (3, ze_i (t)), (4, ze_i ((C : Nat))), (5, ze_i (((s + 1 : Nat))))]) [0, 1, 2, 3, 4, 5] rfl ?_
            exact ih (s + 1) ar1 w1 (by omega) hM1 (by rw [show C * 8 + (s + 1) = C * 8 + s + 1 by omega, show C * 64 + (s + 1) * 8 = C * 64 + s * 8 + 8 by omega, show C * 48 + (s + 1) * 6 = C * 48 + s * 6 + 6 by omega]; exact hi)
          · omega
        | succ e ihe =>
          intro q ar1 w1 hq hM1 hi
          refine ze_iload dX8_chain_141 rfl ?_
          refine ze_bipush dX8_chain_143 (by decide) ?_
          refine ze_icmp_ge 174 dX8_chain_145 (by decide) (by omega) (by omega) (fun q1 => ?_) (fun q1 => ?_)
          · omega
          · refine ze_aload_n dX8_chain_148 rfl ?_
            refine ze_getf dX8_chain_149 fl_X8_25 (ms_o hM1) rfl ?_
            refine ze_iload dX8_chain_152 rfl ?_
            refine ze_bipush dX8_chain_154 (by decide) ?_
            refine ze_imul dX8_chain_156 ?_
            refine ze_iload dX8_chain_157 rfl ?_
            refine ze_iadd dX8_chain_159 ?_
            refine ze_bipush dX8_chain_160 (by decide) ?_
            refine ze_imul dX8_chain_162 ?_
            refine ze_iload dX8_chain_163 rfl ?_
            refine ze_iadd dX8_chain_165 ?_
            refine ze_iconst dX8_chain_166 ?_
            refine ze_iastW (j := C * 48 + s * 6 + q) (f' := va_up (ar1 6) (C * 48 + s * 6 + q) (0)) dX8_chain_167 (show w1.2 (m + 6) = some (ze_ia G 288 (ar1 6)) from ms_i hM1 6 (by decide)) (by omega) (by omega) (by omega) rfl (fun w2 z2 c2 o2 => ?_)
            have hM2 := ms_wi hM1 6 (by decide) z2 c2 o2
            refine ze_iinc (b := ((q + 1 : Nat))) (lv' := [(0, .ref m), (1, ze_i (n)), (2, ze_i (k)), (3, ze_i (t)), (4, ze_i ((C : Nat))), (5, ze_i ((s : Nat))), (6, ze_i (((q + 1 : Nat))))]) dX8_chain_168 rfl rfl (by omega) rfl ?_
            refine ze_goto 141 dX8_chain_171 (by decide) ?_
            exact ihe (q + 1) _ _ (by omega) hM2 (chi_6 hi (by omega))
      have in1 : ∀ (e q : Nat) (ar1 : Nat → Nat → Int) (w1 : ze_W), q + e = 8 → mst G w0 w1 m C P F ar1 bz → chi ar ar1 C n k t (C * 8 + s + 1) (C * 64 + s * 8 + q) (C * 48 + s * 6) → ze_V G l (ze_rm 0 0 0) M8_chain Z 105 [(0, .ref m), (1, ze_i (n)), (2, ze_i (k)), (3, ze_i (t)), (4, ze_i ((C : Nat))), (5, ze_i ((s : Nat))), (6, ze_i ((q : Nat)))] [] w1 0 0 := by
        intro e
        induction e with
        | zero =>
          intro q ar1 w1 hq hM1 hi
          have hq6 : q = 8 := by omega
          rw [hq6] at hi
          refine ze_iload dX8_chain_105 rfl ?_
          refine ze_bipush dX8_chain_107 (by decide) ?_
          refine ze_icmp_ge 138 dX8_chain_109 (by decide) (by omega) (by omega) (fun q1 => ?_) (fun q1 => ?_)
          · refine ze_iconst dX8_chain_138 ?_
            refine ze_ti (b := ((0 : Nat) : Nat)) rfl ?_
            refine ze_istore (lv' := [(0, .ref m), (1, ze_i (n)), (2, ze_i (k)), (3, ze_i (t)), (4, ze_i ((C : Nat))), (5, ze_i ((s : Nat))), (6, ze_i (((0 : Nat) : Nat)))]) dX8_chain_139 rfl rfl ?_
            exact in2 6 0 ar1 w1 (by omega) hM1 hi
          · omega
        | succ e ihe =>
          intro q ar1 w1 hq hM1 hi
          refine ze_iload dX8_chain_105 rfl ?_
          refine ze_bipush dX8_chain_107 (by decide) ?_
          refine ze_icmp_ge 138 dX8_chain_109 (by decide) (by omega) (by omega) (fun q1 => ?_) (fun q1 => ?_)
          · omega
          · refine ze_aload_n dX8_chain_112 rfl ?_
            refine ze_getf dX8_chain_113 fl_X8_22 (ms_o hM1) rfl ?_
            refine ze_iload dX8_chain_116 rfl ?_
            refine ze_bipush dX8_chain_118 (by decide) ?_
            refine ze_imul dX8_chain_120 ?_
            refine ze_iload dX8_chain_121 rfl ?_
            refine ze_iadd dX8_chain_123 ?_
            refine ze_bipush dX8_chain_124 (by decide) ?_
            refine ze_imul dX8_chain_126 ?_
            refine ze_iload dX8_chain_127 rfl ?_
            refine ze_iadd dX8_chain_129 ?_
            refine ze_iconst dX8_chain_130 ?_
            refine ze_iastW (j := C * 64 + s * 8 + q) (f' := va_up (ar1 5) (C * 64 + s * 8 + q) (0)) dX8_chain_131 (show w1.2 (m + 5) = some (ze_ia G 384 (ar1 5)) from ms_i hM1 5 (by decide)) (by omega) (by omega) (by omega) rfl (fun w2 z2 c2 o2 => ?_)
            have hM2 := ms_wi hM1 5 (by decide) z2 c2 o2
            refine ze_iinc (b := ((q + 1 : Nat))) (lv' := [(0, .ref m), (1, ze_i (n)), (2, ze_i (k)), (3, ze_i (t)), (4, ze_i ((C : Nat))), (5, ze_i ((s : Nat))), (6, ze_i (((q + 1 : Nat))))]) dX8_chain_132 rfl rfl (by omega) rfl ?_
            refine ze_goto 105 dX8_chain_135 (by decide) ?_
            exact ihe (q + 1) _ _ (by omega) hM2 (chi_5 hi (by omega))
      refine ze_iload dX8_chain_81 rfl ?_
      refine ze_bipush dX8_chain_83 (by decide) ?_
      refine ze_icmp_ge 180 dX8_chain_85 (by decide) (by omega) (by omega) (fun q1 => ?_) (fun q1 => ?_)
      · omega
      · refine ze_aload_n dX8_chain_88 rfl ?_
        refine ze_getf dX8_chain_89 fl_X8_19 (ms_o hM0) rfl ?_
        refine ze_iload dX8_chain_92 rfl ?_
        refine ze_bipush dX8_chain_94 (by decide) ?_
        refine ze_imul dX8_chain_96 ?_
        refine ze_iload dX8_chain_97 rfl ?_
        refine ze_iadd dX8_chain_99 ?_
        refine ze_iconst dX8_chain_100 ?_
        refine ze_iastW (j := C * 8 + s) (f' := va_up (ar0 4) (C * 8 + s) (0)) dX8_chain_101 (show w0'.2 (m + 4) = some (ze_ia G 48 (ar0 4)) from ms_i hM0 4 (by decide)) (by omega) (by omega) (by omega) rfl (fun w2 z2 c2 o2 => ?_)
        have hM2 := ms_wi hM0 4 (by decide) z2 c2 o2
        refine ze_iconst dX8_chain_102 ?_
        refine ze_ti (b := ((0 : Nat) : Nat)) rfl ?_
        refine ze_istore (lv' := [(0, .ref m), (1, ze_i (n)), (2, ze_i (k)), (3, ze_i (t)), (4, ze_i ((C : Nat))), (5, ze_i ((s : Nat))), (6, ze_i (((0 : Nat) : Nat)))]) dX8_chain_103 rfl rfl ?_
        exact in1 8 0 _ _ (by omega) hM2 (chi_4 hi0 (by omega))
  change ze_V G l (ze_rm 0 0 0) M8_chain Z 0 [(0, .ref m), (1, ze_i (n)), (2, ze_i (k)), (3, ze_i (t))] [] w 0 0
  refine ze_iload_n dX8_chain_0 rfl ?_
  refine ze_iconst dX8_chain_1 ?_
  refine ze_icmp_lt 34 dX8_chain_2 (by decide) (by omega) (by omega) (fun q1 => ?_) (fun q1 => ?_)
  · refine ze_iconst dX8_chain_34 ?_
    rw [← hQ]
    exact ze_ireturn rfl dX8_chain_35 ⟨_, rfl, ar, C, hM, Or.inl ⟨by omega, rfl, rfl, rfl⟩⟩ rfl rfl
  · refine ze_iload_n dX8_chain_5 rfl ?_
    refine ze_bipush dX8_chain_6 (by decide) ?_
    refine ze_icmp_gt 34 dX8_chain_8 (by decide) (by omega) (by omega) (fun q2 => ?_) (fun q2 => ?_)
    · refine ze_iconst dX8_chain_34 ?_
      rw [← hQ]
      exact ze_ireturn rfl dX8_chain_35 ⟨_, rfl, ar, C, hM, Or.inl ⟨by omega, rfl, rfl, rfl⟩⟩ rfl rfl
    · refine ze_iload_n dX8_chain_11 rfl ?_
      refine ze_iconst dX8_chain_12 ?_
      refine ze_icmp_lt 34 dX8_chain_13 (by decide) (by omega) (by omega) (fun q3 => ?_) (fun q3 => ?_)
      · refine ze_iconst dX8_chain_34 ?_
        rw [← hQ]
        exact ze_ireturn rfl dX8_chain_35 ⟨_, rfl, ar, C, hM, Or.inl ⟨by omega, rfl, rfl, rfl⟩⟩ rfl rfl
      · refine ze_iload_n dX8_chain_16 rfl ?_
        refine ze_bipush dX8_chain_17 (by decide) ?_
        refine ze_icmp_gt 34 dX8_chain_19 (by decide) (by omega) (by omega) (fun q4 => ?_) (fun q4 => ?_)
        · refine ze_iconst dX8_chain_34 ?_
          rw [← hQ]
          exact ze_ireturn rfl dX8_chain_35 ⟨_, rfl, ar, C, hM, Or.inl ⟨by omega, rfl, rfl, rfl⟩⟩ rfl rfl
        · refine ze_iload_n dX8_chain_22 rfl ?_
          refine ze_iconst dX8_chain_23 ?_
          refine ze_icmp_lt 34 dX8_chain_24 (by decide) (by omega) (by omega) (fun q5 => ?_) (fun q5 => ?_)
          · refine ze_iconst dX8_chain_34 ?_
            rw [← hQ]
            exact ze_ireturn rfl dX8_chain_35 ⟨_, rfl, ar, C, hM, Or.inl ⟨by omega, rfl, rfl, rfl⟩⟩ rfl rfl
          · refine ze_iload_n dX8_chain_27 rfl ?_
            refine ze_sipush dX8_chain_28 (by decide) ?_
            refine ze_icmp_le 36 dX8_chain_31 (by decide) (by omega) (by omega) (fun q6 => ?_) (fun q6 => ?_)
            · refine ze_aload_n dX8_chain_36 rfl ?_
              refine ze_getf dX8_chain_37 fl_X8_101 (ms_o hM) rfl ?_
              refine ze_bipush dX8_chain_40 (by decide) ?_
              refine ze_icmp_ne 48 dX8_chain_42 (by decide) (by omega) (by omega) (fun q7 => ?_) (fun q7 => ?_)
              · refine ze_aload_n dX8_chain_48 rfl ?_
                refine ze_getf dX8_chain_49 fl_X8_101 (ms_o hM) rfl ?_
                refine ze_istore (lv' := [(0, .ref m), (1, ze_i (n)), (2, ze_i (k)), (3, ze_i (t)), (4, ze_i ((C : Nat)))]) dX8_chain_52 rfl rfl ?_
                refine ze_aload_n dX8_chain_54 rfl ?_
                refine ze_getf dX8_chain_55 fl_X8_9 (ms_o hM) rfl ?_
                refine ze_iload dX8_chain_58 rfl ?_
                refine ze_iload_n dX8_chain_60 rfl ?_
                refine ze_iastW (j := C) (f' := va_up (ar 1) C (n)) dX8_chain_61 (show w.2 (m + 1) = some (ze_ia G 6 (ar 1)) from ms_i hM 1 (by decide)) (by omega) (by omega) (by omega) rfl (fun w8 z8 c8 o8 => ?_)
                have hM8 := ms_wi hM 1 (by decide) z8 c8 o8
                refine ze_aload_n dX8_chain_62 rfl ?_
                refine ze_getf dX8_chain_63 fl_X8_13 (ms_o hM8) rfl ?_
                refine ze_iload dX8_chain_66 rfl ?_
                refine ze_iload_n dX8_chain_68 rfl ?_
                refine ze_iastW (j := C) (f' := va_up ((va_up ar 1 (va_up (ar 1) C (n))) 2) C (k)) dX8_chain_69 (show w8.2 (m + 2) = some (ze_ia G 6 ((va_up ar 1 (va_up (ar 1) C (n))) 2)) from ms_i hM8 2 (by decide)) (by omega) (by omega) (by omega) rfl (fun w9 z9 c9 o9 => ?_)
                have hM9 := ms_wi hM8 2 (by decide) z9 c9 o9
                refine ze_aload_n dX8_chain_70 rfl ?_
                refine ze_getf dX8_chain_71 fl_X8_16 (ms_o hM9) rfl ?_
                refine ze_iload dX8_chain_74 rfl ?_
                refine ze_iload_n dX8_chain_76 rfl ?_
                refine ze_iastW (j := C) (f' := va_up ((va_up (va_up ar 1 (va_up (ar 1) C (n))) 2 (va_up ((va_up ar 1 (va_up (ar 1) C (n))) 2) C (k))) 3) C (t)) dX8_chain_77 (show w9.2 (m + 3) = some (ze_ia G 6 ((va_up (va_up ar 1 (va_up (ar 1) C (n))) 2 (va_up ((va_up ar 1 (va_up (ar 1) C (n))) 2) C (k))) 3)) from ms_i hM9 3 (by decide)) (by omega) (by omega) (by omega) rfl (fun w10 z10 c10 o10 => ?_)
                have hM10 := ms_wi hM9 3 (by decide) z10 c10 o10
                refine ze_iconst dX8_chain_78 ?_
                refine ze_ti (b := ((0 : Nat) : Nat)) rfl ?_
                refine ze_istore (lv' := [(0, .ref m), (1, ze_i (n)), (2, ze_i (k)), (3, ze_i (t)), (4, ze_i ((C : Nat))), (5, ze_i (((0 : Nat) : Nat)))]) dX8_chain_79 rfl rfl ?_
                exact outer (by omega) (by omega) 8 0 _ _ (by omega) hM10 ⟨rfl, rfl, rfl, zr_0, zr_0, zr_0, fun q hq => by rw [va_up_ne _ _ (by omega), va_up_ne _ _ (by omega), va_up_ne _ _ (by omega)]⟩
              · refine ze_bipush dX8_chain_45 (by decide) ?_
                rw [← hQ]
                exact ze_ireturn rfl dX8_chain_47 ⟨_, rfl, ar, C, hM, Or.inr (Or.inl ⟨by omega, by omega, rfl, rfl, rfl⟩)⟩ rfl rfl
            · refine ze_iconst dX8_chain_34 ?_
              rw [← hQ]
              exact ze_ireturn rfl dX8_chain_35 ⟨_, rfl, ar, C, hM, Or.inl ⟨by omega, rfl, rfl, rfl⟩⟩ rfl rfl
