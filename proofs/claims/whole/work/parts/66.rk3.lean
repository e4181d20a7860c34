/-! Ranking: the best rows -/
/-- the links of the places before which d places have been done -/
def lks (ar : Nat → Nat → Int) (c P K d : Nat) (lk : Nat → Nat) : Prop := ∀ d' s r, d' < d → s < cn ar c → r < (cl ar c P K (d' + 1) s).1 → lk ((P - 1 - d') * 160 + s * 20 + r) = lnk ((cpk ar c P K d' s r).1, ctk ar c P K d' s r (cpk ar c P K d' s r).1)
/-- the lists stand in the row that is done -/
def lsts (ar : Nat → Nat → Int) (c P K d : Nat) (cv : Nat → Nat) (v : Nat → Nat) (n : Nat) : Prop := (∀ t, t < n → cv t = (cl ar c P K d t).1) ∧ ∀ t q, t < n → q < (cl ar c P K d t).1 → v (t * 20 + q) = (cl ar c P K d t).2 q
/-- what a ranking leaves -/
def rkd (ar : Nat → Nat → Int) (c P K : Nat) (cv v lk : Nat → Nat) : Prop := cv 0 = fln ar c P K ∧ (∀ r, r < fln ar c P K → v r = (fpk ar c P K r).2) ∧ (∀ r, r < fln ar c P K → lk r = lnk ((fpk ar c P K r).1, ftk ar c P K r (fpk ar c P K r).1)) ∧ lks ar c P K (P - 1) lk
theorem C1_rankRows {G : ze_G} {l : Launch} {w0 w : ze_W} {R a b : Nat} {cv : Nat → Nat → Nat} {hr wt lk : Nat → Nat} {v : Nat → Nat → Nat} {ar : Nat → Nat → Int} {c p P q K : Nat} (hS : rst G w0 w R a b cv hr wt lk v) (hch : chr G w0 ar c p) (hrw : srw G w0 ar P q) (hpo : p + 4 ≤ R ∨ R + 665 ≤ p) (hqo : q + 2 ≤ R ∨ R + 665 ≤ q) (hR : rok ar c P) (hP0 : 0 < P) (hK : 1 ≤ K ∧ K ≤ 20) : ze_C G l 5 0 0 M1_rankRows [.ref R, .ref p, .ref q, ze_i (K : Nat)] w (ze_qi (fun r w' => r = (fln ar c P K : Nat) ∧ ∃ a' b' cv' hr' wt' lk' v', rst G w0 w' R a' b' cv' hr' wt' lk' v' ∧ rkd ar c P K (cv' a') (v' a') lk')) := by
  have hC : ∀ {w1 : ze_W} {a1 b1 : Nat} {cv1 : Nat → Nat → Nat} {hr1 wt1 lk1 : Nat → Nat} {v1 : Nat → Nat → Nat}, rst G w0 w1 R a1 b1 cv1 hr1 wt1 lk1 v1 → chr G w1 ar c p := fun h => chr_sm hch (fun u h1 h2 => h.1.2 u (by omega))
  have hRw : ∀ {w1 : ze_W} {a1 b1 : Nat} {cv1 : Nat → Nat → Nat} {hr1 wt1 lk1 : Nat → Nat} {v1 : Nat → Nat → Nat}, rst G w0 w1 R a1 b1 cv1 hr1 wt1 lk1 v1 → srw G w1 ar P q := fun h => srw_sm hrw (fun u h1 h2 => h.1.2 u (by omega))
  obtain ⟨en, n1, n8⟩ := mch_n hR.1
  obtain ⟨et, t1, t1000⟩ := mch_t hR.1
  have hP := hR.2.2.1
  have h1M : ∀ {a b : Nat}, a ≤ 1000 → b ≤ ct ar c → a * b ≤ 1000000 := fun h1 h2 => Nat.le_trans (Nat.mul_le_mul h1 (Nat.le_trans h2 t1000)) (by decide)
  have hcK : ∀ d s, (cl ar c P K d s).1 ≤ 20 := fun d s => Nat.le_trans (cl_K (by omega)) hK.2
  refine ze_enter (by decide +kernel) rfl ?_
  generalize hQ : (ze_Q G (ze_qi (fun r w' => r = (fln ar c P K : Nat) ∧ ∃ a' b' cv' hr' wt' lk' v', rst G w0 w' R a' b' cv' hr' wt' lk' v' ∧ rkd ar c P K (cv' a') (v' a') lk')) 0 0) = Z
  have last : ∀ (a1 b1 : Nat) (cv1 : Nat → Nat → Nat) (hr1 lk1 : Nat → Nat) (v1 : Nat → Nat → Nat), lsts ar c P K (P - 1) (cv1 a1) (v1 a1) (cn ar c) → lks ar c P K (P - 1) lk1 → ∀ (d t : Nat) (wt2 : Nat → Nat) (w2 : ze_W), t + d = cn ar c → rst G w0 w2 R a1 b1 cv1 hr1 wt2 lk1 v1 → (∀ u, u < t → wt2 u = cb ar c u * ce ar c u 0) → ze_V G l (ze_rm 5 0 0) M1_rankRows Z 149 [(0, .ref R), (1, .ref p), (2, .ref q), (3, ze_i ((K : Nat))), (4, ze_i ((cn ar c : Nat))), (5, ze_i ((K : Nat))), (6, ze_i ((t : Nat)))] [] w2 0 0 := by
    intro a1 b1 cv1 hr1 lk1 v1 hl hk d
    induction d with
    | zero =>
      intro t wt2 w2 htd hS2 hw
      have hab := rs_p hS2
      rw [← hQ]
      refine ze_iload dX1_rankRows_149 rfl ?_
      refine ze_iload dX1_rankRows_151 rfl ?_
      refine ze_icmp_ge 181 dX1_rankRows_153 (by decide) (by omega) (by omega) (fun q1 => ?_) (fun q1 => ?_)
      · refine ze_aload_n dX1_rankRows_181 rfl ?_
        refine ze_iconst dX1_rankRows_182 ?_
        refine ze_iconst dX1_rankRows_183 ?_
        refine ze_iload dX1_rankRows_184 rfl ?_
        refine ze_iload dX1_rankRows_186 rfl ?_
        have hw2 : ∀ u, u < cn ar c → wt2 u = cb ar c u * ce ar c u 0 ∧ cb ar c u * ce ar c u 0 ≤ 1000000 := fun u hu => ⟨hw u (by omega), h1M (mch_b hR.1 (by omega)).2 (rok_e hR (by omega) hP0).2⟩
        change ze_V G l (ze_rm 5 0 0) M1_rankRows _ 188 [(0, .ref R), (1, .ref p), (2, .ref q), (3, ze_i ((K : Nat))), (4, ze_i ((cn ar c : Nat))), (5, ze_i ((K : Nat))), (6, ze_i ((t : Nat)))] [ze_i ((K : Nat)), ze_i ((cn ar c : Nat)), ze_i (((0 : Nat) : Nat)), ze_i (((0 : Nat) : Nat)), .ref R] w2 0 0
        refine ze_callV (As := [ze_i (((0 : Nat) : Nat)), ze_i (((0 : Nat) : Nat)), ze_i ((cn ar c : Nat)), ze_i ((K : Nat))]) (rest := []) dX1_rankRows_188 (C1_mergeLists (step := 0) (s := 0) (n := cn ar c) (K := K) (B := P - 1) (cnt := fun t => (cl ar c P K (P - 1) t).1) (wf := fun t => cb ar c t * ce ar c t 0) (val := fun t => (cl ar c P K (P - 1) t).2) hS2 (by omega) (by omega) ⟨n1, n8⟩ hK.2 (fun t ht => ⟨hl.1 t ht, hcK _ _⟩) (fun t q ht hq => ⟨hl.2 t q ht hq, cl_le hR (P - 1) t q (by omega) (by omega) hq⟩) (by omega) hw2) mo1_mergeLists ml_X1_77 in_1_mergeLists se_1_mergeLists (rs_o hS2) rfl rfl rfl rfl rfl ⟨Nat.le_refl _, Nat.le_refl _⟩ rfl (Nat.le_of_ble_eq_true rfl) ?_
        rintro _ w3 ⟨rfl, cv3, hr3, lk3, v3, hS3, ⟨m1, m2, m3⟩, ⟨m4, m5, m6⟩, m7, m8⟩
        change ze_V G l (ze_rm 5 0 0) M1_rankRows _ 191 [(0, .ref R), (1, .ref p), (2, .ref q), (3, ze_i ((K : Nat))), (4, ze_i ((cn ar c : Nat))), (5, ze_i ((K : Nat))), (6, ze_i ((t : Nat)))] [] w3 0 0
        refine ze_aload_n dX1_rankRows_191 rfl ?_
        refine ze_callV (As := []) (rest := []) dX1_rankRows_192 (C1_swapLists hS3) mo1_swapLists ml_X1_81 in_1_swapLists se_1_swapLists (rs_o hS3) rfl rfl rfl rfl rfl ⟨Nat.le_refl _, Nat.le_refl _⟩ rfl (Nat.le_of_ble_eq_true rfl) ?_
        rintro _ w4 ⟨rfl, hS4⟩
        change ze_V G l (ze_rm 5 0 0) M1_rankRows _ 195 [(0, .ref R), (1, .ref p), (2, .ref q), (3, ze_i ((K : Nat))), (4, ze_i ((cn ar c : Nat))), (5, ze_i ((K : Nat))), (6, ze_i ((t : Nat)))] [] w4 0 0
        refine ze_aload_n dX1_rankRows_195 rfl ?_
        refine ze_getf dX1_rankRows_196 fl_X1_19 (rs_o hS4) rfl ?_
        refine ze_iconst dX1_rankRows_199 ?_
        refine ze_iald (j := 0) dX1_rankRows_200 (rs_c hS4 (k := b1) (by omega)) (by omega) (by omega) (by omega) ?_
        refine ze_ireturn rfl dX1_rankRows_201 ⟨_, rfl, by rw [m3]; rfl, b1, a1, cv3, hr3, wt2, lk3, v3, hS4, m3, fun r hr => ?_, fun r hr => ?_, fun d' s r g1 g2 g3 => ?_⟩ rfl rfl
        · have := m6 r hr
          rw [Nat.zero_mul, Nat.zero_add] at this
          exact this
        · have := m8 r hr
          rw [show 0 * 160 + 0 * 20 + r = r by omega] at this
          exact this
        · rw [m7 _ (Or.inr (by omega))]
          exact hk d' s r g1 g2 g3
      · omega
    | succ d ih =>
      intro t wt2 w2 htd hS2 hw
      have ht8 : t < 8 := by omega
      have hsb := h1M (mch_b hR.1 ht8).2 (rok_e hR ht8 hP0).2
      refine ze_iload dX1_rankRows_149 rfl ?_
      refine ze_iload dX1_rankRows_151 rfl ?_
      refine ze_icmp_ge 181 dX1_rankRows_153 (by decide) (by omega) (by omega) (fun q1 => ?_) (fun q1 => ?_)
      · omega
      · refine ze_aload_n dX1_rankRows_156 rfl ?_
        refine ze_getf dX1_rankRows_157 fl_X1_35 (rs_o hS2) rfl ?_
        refine ze_iload dX1_rankRows_160 rfl ?_
        refine ze_aload_n dX1_rankRows_162 rfl ?_
        refine ze_iload dX1_rankRows_163 rfl ?_
        refine ze_aload_n dX1_rankRows_165 rfl ?_
        refine ze_iconst dX1_rankRows_166 ?_
        refine ze_ti (b := ((0 : Nat) : Nat)) rfl ?_
        refine ze_callV (As := [ze_i (((0 : Nat) : Nat))]) (rest := [ze_i ((t : Nat)), .ref p, ze_i ((t : Nat)), .ref (R + 663)]) dX1_rankRows_167 (C2_signAt (i := 0) (hRw hS2) (by omega)) mo2_signAt ml_X1_69 in_2_signAt se_2_signAt (hRw hS2).2.1 rfl rfl rfl rfl rfl ⟨Nat.le_refl _, Nat.le_refl _⟩ rfl (Nat.le_of_ble_eq_true rfl) ?_
        rintro _ w' ⟨r2, rfl, rfl, rfl⟩
        change ze_V G l (ze_rm 5 0 0) M1_rankRows _ 170 [(0, .ref R), (1, .ref p), (2, .ref q), (3, ze_i ((K : Nat))), (4, ze_i ((cn ar c : Nat))), (5, ze_i ((K : Nat))), (6, ze_i ((t : Nat)))] [ze_i (ar 7 0), ze_i ((t : Nat)), .ref p, ze_i ((t : Nat)), .ref (R + 663)] w' 0 0
        refine ze_callV (As := [ze_i ((t : Nat)), ze_i (ar 7 0)]) (rest := [ze_i ((t : Nat)), .ref (R + 663)]) dX1_rankRows_170 (C0_startWeight (s := t) (hC hS2) (by omega) (hR.2.2.2 0 (by omega))) mo0_startWeight ml_X1_84 in_0_startWeight se_0_startWeight (hC hS2).2.1 rfl rfl rfl rfl rfl ⟨Nat.le_refl _, Nat.le_refl _⟩ rfl (Nat.le_of_ble_eq_true rfl) ?_
        rintro _ w' ⟨r3, rfl, rfl, rfl⟩
        change ze_V G l (ze_rm 5 0 0) M1_rankRows _ 173 [(0, .ref R), (1, .ref p), (2, .ref q), (3, ze_i ((K : Nat))), (4, ze_i ((cn ar c : Nat))), (5, ze_i ((K : Nat))), (6, ze_i ((t : Nat)))] [ze_i ((cb ar c t * (shx ar c t (ar 7 0)).toNat : Nat)), ze_i ((t : Nat)), .ref (R + 663)] w' 0 0
        change ze_V G l (ze_rm 5 0 0) M1_rankRows _ 173 [(0, .ref R), (1, .ref p), (2, .ref q), (3, ze_i ((K : Nat))), (4, ze_i ((cn ar c : Nat))), (5, ze_i ((K : Nat))), (6, ze_i ((t : Nat)))] [ze_i ((cb ar c t * ce ar c t 0 : Nat)), ze_i ((t : Nat)), .ref (R + 663)] w' 0 0
        refine ze_i2l dX1_rankRows_173 (by omega) ?_
        refine ze_lastW (j := t) (f' := fun jj => (((va_up wt2 t (cb ar c t * ce ar c t 0)) jj : Nat) : Int)) dX1_rankRows_174 (rs_l hS2) (by omega) (by omega) (by omega) (up_nc wt2 t (cb ar c t * ce ar c t 0)) (fun w4 z4 c4 o4 => ?_)
        have hS4 := rs_wl hS2 z4 c4 o4
        refine ze_iinc (b := ((t + 1 : Nat))) (lv' := [(0, .ref R), (1, .ref p), (2, .ref q), (3, ze_i ((K : Nat))), (4, ze_i ((cn ar c : Nat))), (5, ze_i ((K : Nat))), (6, ze_i (((t + 1 : Nat))))]) dX1_rankRows_175 rfl rfl (by omega) rfl ?_
        refine ze_goto 149 dX1_rankRows_178 (by decide) ?_
        exact ih (t + 1) _ _ (by omega) hS4 (fun u hu => by
          by_cases e : u = t
          · rw [e, va_up_self]
          · rw [va_up_ne _ _ e]; exact hw u (by omega))
  have outer : ∀ (e d a1 b1 : Nat) (cv1 : Nat → Nat → Nat) (hr1 wt1 lk1 : Nat → Nat) (v1 : Nat → Nat → Nat) (w1 : ze_W), d + e = P - 1 → rst G w0 w1 R a1 b1 cv1 hr1 wt1 lk1 v1 → lsts ar c P K d (cv1 a1) (v1 a1) (cn ar c) → lks ar c P K d lk1 → ze_V G l (ze_rm 5 0 0) M1_rankRows Z 66 [(0, .ref R), (1, .ref p), (2, .ref q), (3, ze_i ((K : Nat))), (4, ze_i ((cn ar c : Nat))), (5, ze_i ((K : Nat))), (6, ze_i ((e : Nat)))] [] w1 0 0 := by
    intro e
    induction e with
    | zero =>
      intro d a1 b1 cv1 hr1 wt1 lk1 v1 w1 hd hS1 hl hk
      have hdP : d = P - 1 := by omega
      rw [hdP] at hl hk
      refine ze_iload dX1_rankRows_66 rfl ?_
      refine ze_if_le 146 dX1_rankRows_68 (by decide) (by omega) (fun q1 => ?_) (fun q1 => ?_)
      · refine ze_iconst dX1_rankRows_146 ?_
        refine ze_ti (b := ((0 : Nat) : Nat)) rfl ?_
        refine ze_istore (lv' := [(0, .ref R), (1, .ref p), (2, .ref q), (3, ze_i ((K : Nat))), (4, ze_i ((cn ar c : Nat))), (5, ze_i ((K : Nat))), (6, ze_i (((0 : Nat) : Nat)))]) dX1_rankRows_147 rfl rfl ?_
        exact last a1 b1 cv1 hr1 lk1 v1 hl hk (cn ar c) 0 wt1 w1 (by omega) hS1 (fun u hu => absurd hu (Nat.not_lt_zero _))
      · omega
    | succ e ih =>
      intro d a1 b1 cv1 hr1 wt1 lk1 v1 w1 hd hS1 hl hk
      have hab := rs_p hS1
      have heP : P - 1 - d = e + 1 := by omega
      have mid : ∀ (f s : Nat) (cv2 : Nat → Nat → Nat) (hr2 wt2 lk2 : Nat → Nat) (v2 : Nat → Nat → Nat) (w2 : ze_W), s + f = cn ar c → rst G w0 w2 R a1 b1 cv2 hr2 wt2 lk2 v2 → cv2 a1 = cv1 a1 → v2 a1 = v1 a1 → lks ar c P K d lk2 → lsts ar c P K (d + 1) (cv2 b1) (v2 b1) s → (∀ u r, u < s → r < (cl ar c P K (d + 1) u).1 → lk2 ((e + 1) * 160 + u * 20 + r) = lnk ((cpk ar c P K d u r).1, ctk ar c P K d u r (cpk ar c P K d u r).1)) → ze_V G l (ze_rm 5 0 0) M1_rankRows Z 74 [(0, .ref R), (1, .ref p), (2, .ref q), (3, ze_i ((K : Nat))), (4, ze_i ((cn ar c : Nat))), (5, ze_i ((K : Nat))), (6, ze_i (((e + 1 : Nat)))), (7, ze_i ((s : Nat)))] [] w2 0 0 := by
        intro f
        induction f with
        | zero =>
          intro s cv2 hr2 wt2 lk2 v2 w2 hs hS2 k1 k2 k3 k4 k5
          have hsn : s = cn ar c := by omega
          rw [hsn] at k4 k5
          refine ze_iload dX1_rankRows_74 rfl ?_
          refine ze_iload dX1_rankRows_76 rfl ?_
          refine ze_icmp_ge 136 dX1_rankRows_78 (by decide) (by omega) (by omega) (fun q1 => ?_) (fun q1 => ?_)
          · refine ze_aload_n dX1_rankRows_136 rfl ?_
            refine ze_callV (As := []) (rest := []) dX1_rankRows_137 (C1_swapLists hS2) mo1_swapLists ml_X1_81 in_1_swapLists se_1_swapLists (rs_o hS2) rfl rfl rfl rfl rfl ⟨Nat.le_refl _, Nat.le_refl _⟩ rfl (Nat.le_of_ble_eq_true rfl) ?_
            rintro _ w3 ⟨rfl, hS3⟩
            change ze_V G l (ze_rm 5 0 0) M1_rankRows _ 140 [(0, .ref R), (1, .ref p), (2, .ref q), (3, ze_i ((K : Nat))), (4, ze_i ((cn ar c : Nat))), (5, ze_i ((K : Nat))), (6, ze_i (((e + 1 : Nat)))), (7, ze_i ((s : Nat)))] [] w3 0 0
            refine ze_iinc (b := (e : Nat)) (lv' := [(0, .ref R), (1, .ref p), (2, .ref q), (3, ze_i ((K : Nat))), (4, ze_i ((cn ar c : Nat))), (5, ze_i ((K : Nat))), (6, ze_i ((e : Nat))), (7, ze_i ((s : Nat)))]) dX1_rankRows_140 rfl rfl (by omega) rfl ?_
            refine ze_goto 66 dX1_rankRows_143 (by decide) ?_
            refine ze_lv (lv' := [(0, .ref R), (1, .ref p), (2, .ref q), (3, ze_i ((K : Nat))), (4, ze_i ((cn ar c : Nat))), (5, ze_i ((K : Nat))), (6, ze_i ((e : Nat)))]) [0, 1, 2, 3, 4, 5, 6] rfl ?_
            refine ih (d + 1) b1 a1 cv2 hr2 wt2 lk2 v2 w3 (by omega) hS3 k4 (fun d' u r g1 g2 g3 => ?_)
            by_cases h : d' = d
            · rw [h, heP]
              rw [h] at g3
              exact k5 u r g2 g3
            · exact k3 d' u r (by omega) g2 g3
          · omega
        | succ f ihm =>
          intro s cv2 hr2 wt2 lk2 v2 w2 hs hS2 k1 k2 k3 k4 k5
          have hs8 : s < 8 := by omega
          have inn : ∀ (g t : Nat) (wt3 : Nat → Nat) (w3 : ze_W), t + g = cn ar c → rst G w0 w3 R a1 b1 cv2 hr2 wt3 lk2 v2 → (∀ u, u < t → wt3 u = cg ar c s u * ce ar c u (P - 1 - d)) → ze_V G l (ze_rm 5 0 0) M1_rankRows Z 84 [(0, .ref R), (1, .ref p), (2, .ref q), (3, ze_i ((K : Nat))), (4, ze_i ((cn ar c : Nat))), (5, ze_i ((K : Nat))), (6, ze_i (((e + 1 : Nat)))), (7, ze_i ((s : Nat))), (8, ze_i ((t : Nat)))] [] w3 0 0 := by
            intro g
            induction g with
            | zero =>
              intro t wt3 w3 ht hS3 hw
              refine ze_iload dX1_rankRows_84 rfl ?_
              refine ze_iload dX1_rankRows_86 rfl ?_
              refine ze_icmp_ge 118 dX1_rankRows_88 (by decide) (by omega) (by omega) (fun q1 => ?_) (fun q1 => ?_)
              · refine ze_aload_n dX1_rankRows_118 rfl ?_
                refine ze_iload dX1_rankRows_119 rfl ?_
                refine ze_iload dX1_rankRows_121 rfl ?_
                refine ze_iload dX1_rankRows_123 rfl ?_
                refine ze_iload dX1_rankRows_125 rfl ?_
                have hw2 : ∀ u, u < cn ar c → wt3 u = cg ar c s u * ce ar c u (P - 1 - d) ∧ cg ar c s u * ce ar c u (P - 1 - d) ≤ 1000000 := fun u hu => ⟨hw u (by omega), h1M (mch_g hR.1 hs8 (by omega)).2 (rok_e hR (by omega) (by omega)).2⟩
                refine ze_callV (As := [ze_i (((e + 1 : Nat))), ze_i ((s : Nat)), ze_i ((cn ar c : Nat)), ze_i ((K : Nat))]) (rest := []) dX1_rankRows_127 (C1_mergeLists (step := e + 1) (s := s) (n := cn ar c) (K := K) (B := d) (cnt := fun t => (cl ar c P K d t).1) (wf := fun t => cg ar c s t * ce ar c t (P - 1 - d)) (val := fun t => (cl ar c P K d t).2) hS3 (by omega) hs8 ⟨n1, n8⟩ hK.2 (fun t ht => ⟨by rw [k1]; exact hl.1 t ht, hcK _ _⟩) (fun t q ht hq => ⟨by rw [k2]; exact hl.2 t q ht hq, cl_le hR d t q (by omega) (by omega) hq⟩) (by omega) hw2) mo1_mergeLists ml_X1_77 in_1_mergeLists se_1_mergeLists (rs_o hS3) rfl rfl rfl rfl rfl ⟨Nat.le_refl _, Nat.le_refl _⟩ rfl (Nat.le_of_ble_eq_true rfl) ?_
                rintro _ w4 ⟨rfl, cv4, hr4, lk4, v4, hS4, ⟨m1, m2, m3⟩, ⟨m4, m5, m6⟩, m7, m8⟩
                change ze_V G l (ze_rm 5 0 0) M1_rankRows _ 130 [(0, .ref R), (1, .ref p), (2, .ref q), (3, ze_i ((K : Nat))), (4, ze_i ((cn ar c : Nat))), (5, ze_i ((K : Nat))), (6, ze_i (((e + 1 : Nat)))), (7, ze_i ((s : Nat))), (8, ze_i ((t : Nat)))] [] w4 0 0
                refine ze_iinc (b := ((s + 1 : Nat))) (lv' := [(0, .ref R), (1, .ref p), (2, .ref q), (3, ze_i ((K : Nat))), (4, ze_i ((cn ar c : Nat))), (5, ze_i ((K : Nat))), (6, ze_i (((e + 1 : Nat)))), (7, ze_i (((s + 1 : Nat)))), (8, ze_i ((t : Nat)))]) dX1_rankRows_130 rfl rfl (by omega) rfl ?_
                refine ze_goto 74 dX1_rankRows_133 (by decide) ?_
                refine ze_lv (lv' := [(0, .ref R), (1, .ref p), (2, .ref q), (3, ze_i ((K : Nat))), (4, ze_i ((cn ar c : Nat))), (5, ze_i ((K : Nat))), (6, ze_i (((e + 1 : Nat)))), (7, ze_i (((s + 1 : Nat))))]) [0, 1, 2, 3, 4, 5, 6, 7] rfl ?_
                have e1 : (cl ar c P K (d + 1) s).1 = lnn (cn ar c) (fun t => (cl ar c P K d t).1) (fun t => (cl ar c P K d t).2) (fun t => cg ar c s t * ce ar c t (P - 1 - d)) K := cl_s1
                refine ihm (s + 1) cv4 hr4 wt3 lk4 v4 w4 (by omega) hS4 (m1.trans k1) (m4.trans k2) (fun d' u r g1 g2 g3 => ?_) ⟨fun u hu => ?_, fun u r hu hr => ?_⟩ (fun u r hu hr => ?_)
                · have g4 : r < 20 := Nat.lt_of_lt_of_le g3 (hcK _ _)
                  rw [m7 _ (by omega)]
                  exact k3 d' u r g1 g2 g3
                · by_cases h : u = s
                  · rw [h, m3, e1]
                  · rw [m2 u h]; exact k4.1 u (by omega)
                · have g4 : r < 20 := Nat.lt_of_lt_of_le hr (hcK _ _)
                  by_cases h : u = s
                  · rw [h] at hr ⊢
                    rw [m6 r (by rw [← e1]; exact hr), cl_s2]
                    rfl
                  · rw [m5 _ (by omega)]; exact k4.2 u r (by omega) hr
                · have g4 : r < 20 := Nat.lt_of_lt_of_le hr (hcK _ _)
                  by_cases h : u = s
                  · rw [h] at hr ⊢
                    exact m8 r (by rw [← e1]; exact hr)
                  · rw [m7 _ (by omega)]; exact k5 u r (by omega) hr
              · omega
            | succ g ihi =>
              intro t wt3 w3 ht hS3 hw
              have ht8 : t < 8 := by omega
              refine ze_iload dX1_rankRows_84 rfl ?_
              refine ze_iload dX1_rankRows_86 rfl ?_
              refine ze_icmp_ge 118 dX1_rankRows_88 (by decide) (by omega) (by omega) (fun q1 => ?_) (fun q1 => ?_)
              · omega
              · refine ze_aload_n dX1_rankRows_91 rfl ?_
                refine ze_getf dX1_rankRows_92 fl_X1_35 (rs_o hS3) rfl ?_
                refine ze_iload dX1_rankRows_95 rfl ?_
                refine ze_aload_n dX1_rankRows_97 rfl ?_
                refine ze_iload dX1_rankRows_98 rfl ?_
                refine ze_iload dX1_rankRows_100 rfl ?_
                refine ze_aload_n dX1_rankRows_102 rfl ?_
                refine ze_iload dX1_rankRows_103 rfl ?_
                refine ze_callV (As := [ze_i (((e + 1 : Nat)))]) (rest := [ze_i ((t : Nat)), ze_i ((s : Nat)), .ref p, ze_i ((t : Nat)), .ref (R + 663)]) dX1_rankRows_105 (C2_signAt (i := e + 1) (hRw hS3) (by omega)) mo2_signAt ml_X1_69 in_2_signAt se_2_signAt (hRw hS3).2.1 rfl rfl rfl rfl rfl ⟨Nat.le_refl _, Nat.le_refl _⟩ rfl (Nat.le_of_ble_eq_true rfl) ?_
                rintro _ w' ⟨r2, rfl, rfl, rfl⟩
                change ze_V G l (ze_rm 5 0 0) M1_rankRows _ 108 [(0, .ref R), (1, .ref p), (2, .ref q), (3, ze_i ((K : Nat))), (4, ze_i ((cn ar c : Nat))), (5, ze_i ((K : Nat))), (6, ze_i (((e + 1 : Nat)))), (7, ze_i ((s : Nat))), (8, ze_i ((t : Nat)))] [ze_i (ar 7 (e + 1)), ze_i ((t : Nat)), ze_i ((s : Nat)), .ref p, ze_i ((t : Nat)), .ref (R + 663)] w' 0 0
                refine ze_callV (As := [ze_i ((s : Nat)), ze_i ((t : Nat)), ze_i (ar 7 (e + 1))]) (rest := [ze_i ((t : Nat)), .ref (R + 663)]) dX1_rankRows_108 (C0_stepWeight (s := s) (t := t) (hC hS3) (by omega) (by omega) (hR.2.2.2 (e + 1) (by omega))) mo0_stepWeight ml_X1_73 in_0_stepWeight se_0_stepWeight (hC hS3).2.1 rfl rfl rfl rfl rfl ⟨Nat.le_refl _, Nat.le_refl _⟩ rfl (Nat.le_of_ble_eq_true rfl) ?_
                rintro _ w' ⟨r3, rfl, rfl, rfl⟩
                change ze_V G l (ze_rm 5 0 0) M1_rankRows _ 111 [(0, .ref R), (1, .ref p), (2, .ref q), (3, ze_i ((K : Nat))), (4, ze_i ((cn ar c : Nat))), (5, ze_i ((K : Nat))), (6, ze_i (((e + 1 : Nat)))), (7, ze_i ((s : Nat))), (8, ze_i ((t : Nat)))] [ze_l ((cg ar c s t * (shx ar c t (ar 7 (e + 1))).toNat : Nat)), ze_i ((t : Nat)), .ref (R + 663)] w' 0 0
                refine ze_lastW (j := t) (f' := fun jj => (((va_up wt3 t (cg ar c s t * ce ar c t (e + 1))) jj : Nat) : Int)) dX1_rankRows_111 (rs_l hS3) (by omega) (by omega) (by omega) (up_nc wt3 t (cg ar c s t * ce ar c t (e + 1))) (fun w4 z4 c4 o4 => ?_)
                have hS4 := rs_wl hS3 z4 c4 o4
                refine ze_iinc (b := ((t + 1 : Nat))) (lv' := [(0, .ref R), (1, .ref p), (2, .ref q), (3, ze_i ((K : Nat))), (4, ze_i ((cn ar c : Nat))), (5, ze_i ((K : Nat))), (6, ze_i (((e + 1 : Nat)))), (7, ze_i ((s : Nat))), (8, ze_i (((t + 1 : Nat))))]) dX1_rankRows_112 rfl rfl (by omega) rfl ?_
                refine ze_goto 84 dX1_rankRows_115 (by decide) ?_
                exact ihi (t + 1) _ _ (by omega) hS4 (fun u hu => by
                  by_cases h : u = t
                  · rw [h, va_up_self, heP]
                  · rw [va_up_ne _ _ h]; exact hw u (by omega))
          refine ze_iload dX1_rankRows_74 rfl ?_
          refine ze_iload dX1_rankRows_76 rfl ?_
          refine ze_icmp_ge 136 dX1_rankRows_78 (by decide) (by omega) (by omega) (fun q1 => ?_) (fun q1 => ?_)
          · omega
          · refine ze_iconst dX1_rankRows_81 ?_
            refine ze_ti (b := ((0 : Nat) : Nat)) rfl ?_
            refine ze_istore (lv' := [(0, .ref R), (1, .ref p), (2, .ref q), (3, ze_i ((K : Nat))), (4, ze_i ((cn ar c : Nat))), (5, ze_i ((K : Nat))), (6, ze_i (((e + 1 : Nat)))), (7, ze_i ((s : Nat))), (8, ze_i (((0 : Nat) : Nat)))]) dX1_rankRows_82 rfl rfl ?_
            exact inn (cn ar c) 0 wt2 w2 (by omega) hS2 (fun u hu => absurd hu (Nat.not_lt_zero _))
      refine ze_iload dX1_rankRows_66 rfl ?_
      refine ze_if_le 146 dX1_rankRows_68 (by decide) (by omega) (fun q1 => ?_) (fun q1 => ?_)
      · omega
      · refine ze_iconst dX1_rankRows_71 ?_
        refine ze_ti (b := ((0 : Nat) : Nat)) rfl ?_
        refine ze_istore (lv' := [(0, .ref R), (1, .ref p), (2, .ref q), (3, ze_i ((K : Nat))), (4, ze_i ((cn ar c : Nat))), (5, ze_i ((K : Nat))), (6, ze_i (((e + 1 : Nat)))), (7, ze_i (((0 : Nat) : Nat)))]) dX1_rankRows_72 rfl rfl ?_
        exact mid (cn ar c) 0 cv1 hr1 wt1 lk1 v1 w1 (by omega) hS1 rfl rfl hk ⟨fun u hu => absurd hu (Nat.not_lt_zero _), fun u r hu => absurd hu (Nat.not_lt_zero _)⟩ (fun u r hu => absurd hu (Nat.not_lt_zero _))
  have hab := rs_p hS
  have fst : ∀ (d s : Nat) (cv1 v1 : Nat → Nat → Nat) (w1 : ze_W), s + d = cn ar c → rst G w0 w1 R a b cv1 hr wt lk v1 → (∀ u, u < s → cv1 a u = 1) → (∀ u, u < s → v1 a (u * 20) = 1) → ze_V G l (ze_rm 5 0 0) M1_rankRows Z 22 [(0, .ref R), (1, .ref p), (2, .ref q), (3, ze_i ((K : Nat))), (4, ze_i ((cn ar c : Nat))), (5, ze_i ((K : Nat))), (6, ze_i ((s : Nat)))] [] w1 0 0 := by
    intro d
    induction d with
    | zero =>
      intro s cv1 v1 w1 hs hS1 i1 i2
      refine ze_iload dX1_rankRows_22 rfl ?_
      refine ze_iload dX1_rankRows_24 rfl ?_
      refine ze_icmp_ge 58 dX1_rankRows_26 (by decide) (by omega) (by omega) (fun q1 => ?_) (fun q1 => ?_)
      · refine ze_aload_n dX1_rankRows_58 rfl ?_
        refine ze_callV (As := []) (rest := []) dX1_rankRows_59 (C2_length (hRw hS1)) mo2_length ml_X1_63 in_2_length se_2_length (hRw hS1).2.1 rfl rfl rfl rfl rfl ⟨Nat.le_refl _, Nat.le_refl _⟩ rfl (Nat.le_of_ble_eq_true rfl) ?_
        rintro _ w' ⟨r2, rfl, rfl, rfl⟩
        change ze_V G l (ze_rm 5 0 0) M1_rankRows _ 62 [(0, .ref R), (1, .ref p), (2, .ref q), (3, ze_i ((K : Nat))), (4, ze_i ((cn ar c : Nat))), (5, ze_i ((K : Nat))), (6, ze_i ((s : Nat)))] [ze_i ((P : Nat))] w' 0 0
        refine ze_iconst dX1_rankRows_62 ?_
        refine ze_isub dX1_rankRows_63 ?_
        refine ze_ti (b := ((P - 1 : Nat))) (by omega) ?_
        refine ze_istore (lv' := [(0, .ref R), (1, .ref p), (2, .ref q), (3, ze_i ((K : Nat))), (4, ze_i ((cn ar c : Nat))), (5, ze_i ((K : Nat))), (6, ze_i (((P - 1 : Nat))))]) dX1_rankRows_64 rfl rfl ?_
        exact outer (P - 1) 0 a b cv1 hr wt lk v1 _ (by omega) hS1 ⟨fun t ht => i1 t (by omega), fun t q ht hq => by
          have hq0 : q = 0 := by
            rw [cl] at hq
            omega
          rw [hq0, Nat.add_zero]
          exact i2 t (by omega)⟩ (fun d' u r g1 => absurd g1 (Nat.not_lt_zero _))
      · omega
    | succ d ih =>
      intro s cv1 v1 w1 hs hS1 i1 i2
      have hs8 : s < 8 := by omega
      refine ze_iload dX1_rankRows_22 rfl ?_
      refine ze_iload dX1_rankRows_24 rfl ?_
      refine ze_icmp_ge 58 dX1_rankRows_26 (by decide) (by omega) (by omega) (fun q1 => ?_) (fun q1 => ?_)
      · omega
      · refine ze_aload_n dX1_rankRows_29 rfl ?_
        refine ze_getf dX1_rankRows_30 fl_X1_13 (rs_o hS1) rfl ?_
        refine ze_iload dX1_rankRows_33 rfl ?_
        refine ze_iconst dX1_rankRows_35 ?_
        refine ze_ti (b := ((0 : Nat) : Nat)) rfl ?_
        refine ze_callS (As := [ze_i ((s : Nat)), ze_i (((0 : Nat) : Nat))]) (rest := [.ref (R + 1 + 322 * a)]) dX1_rankRows_36 (C1_entry (s := s) (r := 0)) mo1_entry ml_X1_54 st_1_entry rfl rfl rfl ⟨Nat.le_refl _, Nat.le_refl _⟩ rfl (Nat.le_of_ble_eq_true rfl) ?_
        rintro _ w' ⟨r2, rfl, rfl, rfl⟩
        change ze_V G l (ze_rm 5 0 0) M1_rankRows _ 39 [(0, .ref R), (1, .ref p), (2, .ref q), (3, ze_i ((K : Nat))), (4, ze_i ((cn ar c : Nat))), (5, ze_i ((K : Nat))), (6, ze_i ((s : Nat)))] [ze_i (((s * 20 + 0 : Nat))), .ref (R + 1 + 322 * a)] w' 0 0
        refine ze_aald (j := (s * 20 + 0)) (b := (R + 2 + 322 * a + 2 * (s * 20 + 0))) dX1_rankRows_39 (rs_r hS1 (k := a) (by omega)) rfl (by omega) (by omega) (by omega) rfl ?_
        refine ze_iconst dX1_rankRows_40 ?_
        refine ze_ti (b := ((1 : Nat) : Nat)) rfl ?_
        refine ze_callV (As := [ze_i (((1 : Nat) : Nat))]) (rest := []) dX1_rankRows_41 (C5_setSmall (v := 1) (rs_w hS1 (k := a) (i := s * 20 + 0) (Or.inl ⟨by omega, by omega⟩)) (by decide)) mo5_setSmall ml_X1_57 in_5_setSmall se_5_setSmall (whz_o (rs_w hS1 (k := a) (i := (s * 20 + 0)) (Or.inl ⟨by omega, by omega⟩))).choose_spec rfl rfl rfl rfl rfl ⟨Nat.le_refl _, Nat.le_refl _⟩ rfl (Nat.le_of_ble_eq_true rfl) ?_
        rintro _ w3 ⟨rfl, fr3, hz3⟩
        have hS3 := rs_wb hS1 (k := a) (i := s * 20 + 0) (Or.inl ⟨by omega, by omega⟩) fr3 hz3
        change ze_V G l (ze_rm 5 0 0) M1_rankRows _ 44 [(0, .ref R), (1, .ref p), (2, .ref q), (3, ze_i ((K : Nat))), (4, ze_i ((cn ar c : Nat))), (5, ze_i ((K : Nat))), (6, ze_i ((s : Nat)))] [] w3 0 0
        refine ze_aload_n dX1_rankRows_44 rfl ?_
        refine ze_getf dX1_rankRows_45 fl_X1_19 (rs_o hS3) rfl ?_
        refine ze_iload dX1_rankRows_48 rfl ?_
        refine ze_iconst dX1_rankRows_50 ?_
        refine ze_ti (b := ((1 : Nat) : Nat)) rfl ?_
        refine ze_iastW (j := s) (f' := fun jj => (((va_up (cv1 a) s 1) jj : Nat) : Int)) dX1_rankRows_51 (rs_c hS3 (k := a) (by omega)) (by omega) (by omega) (by omega) (up_nc (cv1 a) s 1) (fun w4 z4 c4 o4 => ?_)
        have hS4 := rs_wc (k := a) hS3 (by omega) z4 c4 o4
        refine ze_iinc (b := ((s + 1 : Nat))) (lv' := [(0, .ref R), (1, .ref p), (2, .ref q), (3, ze_i ((K : Nat))), (4, ze_i ((cn ar c : Nat))), (5, ze_i ((K : Nat))), (6, ze_i (((s + 1 : Nat))))]) dX1_rankRows_52 rfl rfl (by omega) rfl ?_
        refine ze_goto 22 dX1_rankRows_55 (by decide) ?_
        refine ih (s + 1) _ _ _ (by omega) hS4 (fun u hu => ?_) (fun u hu => ?_)
        · rw [va_up_self]
          by_cases h : u = s
          · rw [h, va_up_self]
          · rw [va_up_ne _ _ h]; exact i1 u (by omega)
        · rw [va_up_self]
          by_cases h : u = s
          · rw [h, Nat.add_zero, va_up_self]
          · rw [va_up_ne _ _ (by omega)]; exact i2 u (by omega)
  change ze_V G l (ze_rm 5 0 0) M1_rankRows Z 0 [(0, .ref R), (1, .ref p), (2, .ref q), (3, ze_i ((K : Nat)))] [] w 0 0
  refine ze_aload_n dX1_rankRows_0 rfl ?_
  refine ze_getf dX1_rankRows_1 fl_X1_42 (hC hS).2.1 rfl ?_
  refine ze_bipush dX1_rankRows_4 (by decide) ?_
  refine ze_mmin dX1_rankRows_6 ml_X1_48 st_Lib_Math_min_name n_J9 cd_Lib_Math_min_name rfl rfl ⟨Nat.le_refl _, Nat.le_refl _⟩ (by omega) (by omega) ?_
  refine ze_ti (b := (cn ar c : Nat)) (by omega) ?_
  refine ze_istore (lv' := [(0, .ref R), (1, .ref p), (2, .ref q), (3, ze_i ((K : Nat))), (4, ze_i ((cn ar c : Nat)))]) dX1_rankRows_9 rfl rfl ?_
  refine ze_iload_n dX1_rankRows_11 rfl ?_
  refine ze_bipush dX1_rankRows_12 (by decide) ?_
  refine ze_mmin dX1_rankRows_14 ml_X1_48 st_Lib_Math_min_name n_J9 cd_Lib_Math_min_name rfl rfl ⟨Nat.le_refl _, Nat.le_refl _⟩ (by omega) (by omega) ?_
  refine ze_ti (b := (K : Nat)) (by omega) ?_
  refine ze_istore (lv' := [(0, .ref R), (1, .ref p), (2, .ref q), (3, ze_i ((K : Nat))), (4, ze_i ((cn ar c : Nat))), (5, ze_i ((K : Nat)))]) dX1_rankRows_17 rfl rfl ?_
  refine ze_iconst dX1_rankRows_19 ?_
  refine ze_ti (b := ((0 : Nat) : Nat)) rfl ?_
  refine ze_istore (lv' := [(0, .ref R), (1, .ref p), (2, .ref q), (3, ze_i ((K : Nat))), (4, ze_i ((cn ar c : Nat))), (5, ze_i ((K : Nat))), (6, ze_i (((0 : Nat) : Nat)))]) dX1_rankRows_20 rfl rfl ?_
  exact fst (cn ar c) 0 cv v w (by omega) hS (fun u hu => absurd hu (Nat.not_lt_zero _)) (fun u hu => absurd hu (Nat.not_lt_zero _))
