/-! Big: long division -/
theorem ze_land32 {a : Int} (ha : 0 ≤ a ∧ a < 18446744073709551616) : Int64.ofInt a &&& Int64.ofInt 4294967295 = Int64.ofInt (a % 4294967296) := by
  obtain ⟨n, rfl⟩ := Int.eq_ofNat_of_zero_le ha.1
  apply Int64.toBitVec_inj.1
  rw [Int64.toBitVec_and, Int64.toBitVec_ofInt, Int64.toBitVec_ofInt, Int64.toBitVec_ofInt]
  apply BitVec.eq_of_toNat_eq
  rw [BitVec.toNat_and]
  have e1 : (BitVec.ofInt 64 (n : Int)).toNat = n := by
    rw [BitVec.ofInt_natCast, BitVec.toNat_ofNat]
    exact Nat.mod_eq_of_lt (by omega)
  have e2 : (BitVec.ofInt 64 4294967295).toNat = 2 ^ 32 - 1 := rfl
  have e3 : (BitVec.ofInt 64 ((n : Int) % 4294967296)).toNat = n % 4294967296 := by
    rw [show (n : Int) % 4294967296 = ((n % 4294967296 : Nat) : Int) by omega, BitVec.ofInt_natCast, BitVec.toNat_ofNat]
    exact Nat.mod_eq_of_lt (by omega)
  rw [e1, e2, e3, Nat.and_two_pow_sub_one_eq_mod]
theorem tk1 {R g V F cy bo P U X y : Nat} (hV : 0 < V) (h : R + g * V = F + (cy + bo) * P) (hU : U = F + X * P) (hy : y + cy + bo = X) (hg : U / V ≤ g) : g = U / V ∧ R + y * P = U % V := by
  have e1 : (cy + bo) * P + y * P = X * P := by rw [← Nat.add_mul]; congr 1; omega
  have e2 : R + y * P + g * V = U := by omega
  have e3 : g ≤ U / V := (Nat.le_div_iff_mul_le hV).2 (by omega)
  have e4 : g = U / V := by omega
  have e5 := Nat.div_add_mod U V
  rw [← e4, Nat.mul_comm V g] at e5
  exact ⟨e4, by omega⟩
theorem tk2 {R g V F cy bo P U X : Nat} (hV : 0 < V) (hVP : V < P) (hR : R < P) (h : R + g * V = F + (cy + bo) * P) (hU : U = F + X * P) (hy : X < cy + bo) (hg : g ≤ U / V + 1) : g = U / V + 1 ∧ cy + bo = X + 1 ∧ R + V = P + U % V := by
  have e1 : (X + 1) * P ≤ (cy + bo) * P := Nat.mul_le_mul_right _ hy
  rw [Nat.add_mul, Nat.one_mul] at e1
  have e5 := Nat.div_add_mod U V
  have e2 : g = U / V + 1 := by
    rcases Nat.lt_or_ge (U / V) g with h1 | h1
    · omega
    · have : g * V ≤ U / V * V := Nat.mul_le_mul_right _ h1
      rw [Nat.mul_comm (U / V) V] at this
      omega
  have e3 : g * V = V * (U / V) + V := by rw [e2, Nat.add_mul, Nat.one_mul, Nat.mul_comm]
  have e4 : cy + bo = X + 1 := by
    rcases Nat.lt_or_ge (X + 1) (cy + bo) with h1 | h1
    · have : (X + 2) * P ≤ (cy + bo) * P := Nat.mul_le_mul_right _ h1
      rw [Nat.add_mul] at this
      omega
    · omega
  have e6 : (cy + bo) * P = X * P + P := by rw [e4, Nat.add_mul, Nat.one_mul]
  exact ⟨e2, e4, by omega⟩
theorem ze_mdb {y b : Int} : (y - b * 4294967296) % 4294967296 = y % 4294967296 := by omega
/-- the sums at limb k of a row that begins at j -/
theorem nv_at {B : Nat} {r : Nat → Nat} {j k y : Nat} : nv B (fun i => va_up r (j + k) y (j + i)) (k + 1) = nv B (fun i => r (j + i)) k + y * B ^ k := by
  rw [nv_s, va_up_self]
  congr 1
  exact nv_congr (fun i hi => va_up_ne _ _ (by omega))
theorem C7_takeAway {G : ze_G} {l : Launch} {w : ze_W} {c Lc : Nat} {fc : Nat → Nat} {nc : Nat} {sc : Int} {b Lb : Nat} {fb : Nat → Nat} {nb : Nat} {sb : Int} {j s g : Nat} (hc : bg G w c Lc fc nc sc) (hb : bg G w b Lb fb nb sb) (hcb : c ≠ b) (hs : s ≤ 31) (hj : j + nb < Lc) (hV : 0 < nv 4294967296 (lf fb nb s) nb) (hg : g < 4294967296) (hg1 : nv 4294967296 (fun i => fc (j + i)) (nb + 1) / (nv 4294967296 (lf fb nb s) nb) ≤ g) (hg2 : g ≤ nv 4294967296 (fun i => fc (j + i)) (nb + 1) / (nv 4294967296 (lf fb nb s) nb) + 1) : ze_C G l 2 0 0 M7_takeAway [.ref c, .ref b, ze_i (j : Nat), ze_i (nb : Nat), ze_i (s : Nat), ze_l (g : Nat)] w (ze_ql (fun q w' => q = (nv 4294967296 (fun i => fc (j + i)) (nb + 1) / nv 4294967296 (lf fb nb s) nb : Nat) ∧ bfr w w' c ∧ ∃ r, bg G w' c Lc r nc sc ∧ (∀ i, i < j ∨ j + nb < i → r i = fc i) ∧ nv 4294967296 (fun i => r (j + i)) (nb + 1) = nv 4294967296 (fun i => fc (j + i)) (nb + 1) % (nv 4294967296 (lf fb nb s) nb))) := by
  have x1 := bg_x hc hb
  have x2 := bg_x hb hc
  have cL := hc.2.2.2.1
  have bL := hb.2.2.2.1
  have bn := hb.2.2.1
  have cn := hc.2.2.1
  have bf := hb.2.2.2.2
  have cf := hc.2.2.2.2
  have lL := fun k => lf_lt (n := nb) (s := s) (k := k) bf hs
  refine ze_enter (by decide +kernel) rfl ?_
  generalize hQ : (ze_Q G (ze_ql (fun q w' => q = (nv 4294967296 (fun i => fc (j + i)) (nb + 1) / nv 4294967296 (lf fb nb s) nb : Nat) ∧ bfr w w' c ∧ ∃ r, bg G w' c Lc r nc sc ∧ (∀ i, i < j ∨ j + nb < i → r i = fc i) ∧ nv 4294967296 (fun i => r (j + i)) (nb + 1) = nv 4294967296 (fun i => fc (j + i)) (nb + 1) % (nv 4294967296 (lf fb nb s) nb))) 0 0) = Z
  obtain ⟨VV, hVV⟩ : ∃ VV, VV = nv 4294967296 (lf fb nb s) nb := ⟨_, rfl⟩
  obtain ⟨UU, hUU⟩ : ∃ UU, UU = nv 4294967296 (fun i => fc (j + i)) (nb + 1) := ⟨_, rfl⟩
  rw [← hVV] at hV
  rw [← hVV, ← hUU] at hg1 hg2
  rw [← hVV, ← hUU] at hQ
  have hVP : VV < 4294967296 ^ nb := by rw [hVV]; exact nv_lt (fun k _ => lL k)
  have back : ∀ (r1 : Nat → Nat) (bo cy : Nat) (v : Int), r1 (j + nb) = 4294967295 → (∀ q, q < j ∨ j + nb < q → r1 q = fc q) → g = UU / VV + 1 → nv 4294967296 (fun i => r1 (j + i)) nb + VV = 4294967296 ^ nb + UU % VV → ∀ (d k mo : Nat) (r : Nat → Nat) (w1 : ze_W), k + d = nb → mo < 2 → bfr w w1 c → w1.2 c = some (ze_ob 7 [.ref (c + 1), ze_i (nc : Nat), ze_i sc]) → w1.2 (c + 1) = some (ze_ia G Lc (fun j => (r j : Nat))) → (∀ j, r j < 4294967296) → (∀ q, q < j ∨ j + k ≤ q → r q = r1 q) → nv 4294967296 (fun i => r (j + i)) k + mo * 4294967296 ^ k = nv 4294967296 (fun i => r1 (j + i)) k + nv 4294967296 (lf fb nb s) k → ze_V G l (ze_rm 2 0 0) M7_takeAway Z 144 [(0, .ref c), (1, .ref b), (2, ze_i ((j : Nat))), (3, ze_i ((nb : Nat))), (4, ze_i ((s : Nat))), (5, ze_l ((g : Nat))), (7, ze_l ((bo : Nat))), (9, ze_l ((cy : Nat))), (11, ze_l (v)), (13, ze_l ((mo : Nat))), (15, ze_i ((k : Nat)))] [] w1 0 0 := by
    intro r1 bo cy v hr1 he1 hgq hrv d
    induction d with
    | zero =>
      intro k mo r w1 hk hmo fr ca cb rf he hv
      have hb1 := bg_fr fr hc hb hcb
      obtain ⟨ba, bb, -, -, -⟩ := id hb1
      have hkn : k = nb := by omega
      rw [hkn] at hv
      rw [← hVV, hrv] at hv
      have hUV : UU % VV < VV := Nat.mod_lt _ hV
      have hrl : nv 4294967296 (fun i => r (j + i)) nb < 4294967296 ^ nb := nv_lt (fun i _ => rf _)
      have hmo1 : mo = 1 := by
        rcases Nat.lt_or_ge mo 1 with h | h
        · have : mo = 0 := by omega
          rw [this, Nat.zero_mul] at hv
          omega
        · omega
      rw [hmo1, Nat.one_mul] at hv
      have hrn : r (j + nb) = 4294967295 := by rw [he _ (by omega), hr1]
      rw [← hQ]
      refine ze_iload dX7_takeAway_144 rfl ?_
      refine ze_iload_n dX7_takeAway_146 rfl ?_
      refine ze_icmp_ge 203 dX7_takeAway_147 (by decide) (by omega) (by omega) (fun q => ?_) (fun q => ?_)
      · refine ze_aload_n dX7_takeAway_203 rfl ?_
        refine ze_getf dX7_takeAway_204 fl_X7_7 ca rfl ?_
        refine ze_iload_n dX7_takeAway_207 rfl ?_
        refine ze_iload_n dX7_takeAway_208 rfl ?_
        refine ze_iadd dX7_takeAway_209 ?_
        refine ze_dup2 dX7_takeAway_210 rfl rfl ?_
        refine ze_iald (j := j + nb) dX7_takeAway_211 cb (by omega) (by omega) (by omega) ?_
        rw [hrn]
        refine ze_lload dX7_takeAway_212 rfl ?_
        refine ze_l2i dX7_takeAway_214 ?_
        refine ze_iadd dX7_takeAway_215 ?_
        refine ze_iastM (j := j + nb) (y := ((0 : Nat) : Nat)) (f' := fun q => ((va_up r (j + nb) 0 q : Nat) : Int)) dX7_takeAway_216 cb (by omega) (by omega) (by omega) (ze_mod (by rw [hmo1]; rfl)) (ze_vu _ _ _) (fun w1 z1 c1 o1 => ?_)
        have h1_0 := (o1 c (by omega)).trans ca
        have h1_2 := (o1 b (by omega)).trans ba
        have h1_3 := (o1 (b + 1) (by omega)).trans bb
        refine ze_lload dX7_takeAway_217 rfl ?_
        refine ze_lconst (z := 1) dX7_takeAway_219 (by decide) ?_
        refine ze_lsub dX7_takeAway_220 ?_
        refine ze_lreturn rfl dX7_takeAway_221 ⟨_, rfl, by rw [hgq]; omega, ⟨z1.trans fr.1, fun x p q => (o1 x q).trans (fr.2 x p q)⟩, va_up r (j + nb) 0, ⟨h1_0, c1, cn, cL, up_lt rf (by decide)⟩, fun i hi => ?_, ?_⟩ rfl rfl
        · rw [va_up_ne _ _ (by omega), he i (by omega)]
          exact he1 i hi
        · rw [nv_at, Nat.zero_mul]
          omega
      · omega
    | succ d ih =>
      intro k mo r w1 hk hmo fr ca cb rf he hv
      have hb1 := bg_fr fr hc hb hcb
      obtain ⟨ba, bb, -, -, -⟩ := id hb1
      obtain ⟨Y, hY⟩ : ∃ Y, Y = lf fb nb s k := ⟨_, rfl⟩
      have hYb : Y < 4294967296 := by rw [hY]; exact lL k
      obtain ⟨X, hX⟩ : ∃ X, X = r (j + k) := ⟨_, rfl⟩
      have hXb : X < 4294967296 := by rw [hX]; exact rf _
      refine ze_iload dX7_takeAway_144 rfl ?_
      refine ze_iload_n dX7_takeAway_146 rfl ?_
      refine ze_icmp_ge 203 dX7_takeAway_147 (by decide) (by omega) (by omega) (fun q => ?_) (fun q => ?_)
      · omega
      · refine ze_lload dX7_takeAway_150 rfl ?_
        refine ze_aload_n dX7_takeAway_152 rfl ?_
        refine ze_getf dX7_takeAway_153 fl_X7_7 ca rfl ?_
        refine ze_iload_n dX7_takeAway_156 rfl ?_
        refine ze_iload dX7_takeAway_157 rfl ?_
        refine ze_iadd dX7_takeAway_159 ?_
        refine ze_iald (j := j + k) dX7_takeAway_160 cb (by omega) (by omega) (by omega) ?_
        rw [← hX]
        refine ze_msk dX7_takeAway_161 dX7_takeAway_162 dX7_takeAway_165 ct_X7_29 (by omega) ?_
        refine ze_aload_n dX7_takeAway_166 rfl ?_
        refine ze_iload dX7_takeAway_167 rfl ?_
        refine ze_iload dX7_takeAway_169 rfl ?_
        refine ze_callS (As := [.ref b, ze_i ((k : Nat)), ze_i ((s : Nat))]) (rest := [ze_l ((X : Nat)), ze_l ((mo : Nat))]) dX7_takeAway_171 (C7_lifted (k := k) hb1 (by omega) hs) mo7_lifted ml_X7_93 st_7_lifted rfl rfl rfl ⟨Nat.le_refl _, Nat.le_refl _⟩ rfl (Nat.le_of_ble_eq_true rfl) ?_
        rintro _ w' ⟨r', rfl, rfl, rfl⟩
        rw [← hY]
        change ze_V G l (ze_rm 2 0 0) M7_takeAway _ 174 [(0, .ref c), (1, .ref b), (2, ze_i ((j : Nat))), (3, ze_i ((nb : Nat))), (4, ze_i ((s : Nat))), (5, ze_l ((g : Nat))), (7, ze_l ((bo : Nat))), (9, ze_l ((cy : Nat))), (11, ze_l (v)), (13, ze_l ((mo : Nat))), (15, ze_i ((k : Nat)))] [ze_l ((Y : Nat)), ze_l ((X : Nat)), ze_l ((mo : Nat))] w' 0 0
        refine ze_ladd dX7_takeAway_174 ?_
        refine ze_ladd dX7_takeAway_175 ?_
        refine ze_tl (b := ((mo + X + Y : Nat))) (by omega) ?_
        refine ze_lstore (lv' := [(0, .ref c), (1, .ref b), (2, ze_i ((j : Nat))), (3, ze_i ((nb : Nat))), (4, ze_i ((s : Nat))), (5, ze_l ((g : Nat))), (7, ze_l ((bo : Nat))), (9, ze_l ((cy : Nat))), (11, ze_l (v)), (13, ze_l (((mo + X + Y : Nat)))), (15, ze_i ((k : Nat)))]) dX7_takeAway_176 rfl rfl ?_
        refine ze_aload_n dX7_takeAway_178 rfl ?_
        refine ze_getf dX7_takeAway_179 fl_X7_7 ca rfl ?_
        refine ze_iload_n dX7_takeAway_182 rfl ?_
        refine ze_iload dX7_takeAway_183 rfl ?_
        refine ze_iadd dX7_takeAway_185 ?_
        refine ze_lload dX7_takeAway_186 rfl ?_
        refine ze_l2i dX7_takeAway_188 ?_
        refine ze_iastM (j := j + k) (y := (((mo + X + Y) % 4294967296 : Nat))) (f' := fun q => ((va_up r (j + k) ((mo + X + Y) % 4294967296) q : Nat) : Int)) dX7_takeAway_189 cb (by omega) (by omega) (by omega) (ze_mdn rfl) (ze_vu _ _ _) (fun w1 z1 c1 o1 => ?_)
        have h1_0 := (o1 c (by omega)).trans ca
        have h1_2 := (o1 b (by omega)).trans ba
        have h1_3 := (o1 (b + 1) (by omega)).trans bb
        refine ze_lload dX7_takeAway_190 rfl ?_
        refine ze_bipush dX7_takeAway_192 (by decide) ?_
        refine ze_lushr (z := (((mo + X + Y) / 4294967296 : Nat))) dX7_takeAway_194 (ze_u32 (by omega) (by omega)) ?_
        refine ze_lstore (lv' := [(0, .ref c), (1, .ref b), (2, ze_i ((j : Nat))), (3, ze_i ((nb : Nat))), (4, ze_i ((s : Nat))), (5, ze_l ((g : Nat))), (7, ze_l ((bo : Nat))), (9, ze_l ((cy : Nat))), (11, ze_l (v)), (13, ze_l ((((mo + X + Y) / 4294967296 : Nat)))), (15, ze_i ((k : Nat)))]) dX7_takeAway_195 rfl rfl ?_
        refine ze_iinc (b := ((k + 1 : Nat))) (lv' := [(0, .ref c), (1, .ref b), (2, ze_i ((j : Nat))), (3, ze_i ((nb : Nat))), (4, ze_i ((s : Nat))), (5, ze_l ((g : Nat))), (7, ze_l ((bo : Nat))), (9, ze_l ((cy : Nat))), (11, ze_l (v)), (13, ze_l ((((mo + X + Y) / 4294967296 : Nat)))), (15, ze_i (((k + 1 : Nat))))]) dX7_takeAway_197 rfl rfl (by omega) rfl ?_
        refine ze_goto 144 dX7_takeAway_200 (by decide) ?_
        refine ih (k + 1) ((mo + X + Y) / 4294967296) (va_up r (j + k) ((mo + X + Y) % 4294967296)) _ (by omega) (by omega) ⟨z1.trans fr.1, fun x p q => (o1 x q).trans (fr.2 x p q)⟩ h1_0 c1 (up_lt rf (Nat.mod_lt _ (by decide))) (fun q hq => by rw [va_up_ne _ _ (by omega)]; exact he q (by omega)) ?_
        rw [nv_at, nv_s, nv_s, ← he (j + k) (by omega), ← hX, ← hY, Nat.pow_succ]
        have e3 : (mo + X + Y) % 4294967296 * 4294967296 ^ k + (mo + X + Y) / 4294967296 * (4294967296 ^ k * 4294967296) = (mo + X + Y) * 4294967296 ^ k := by
          rw [Nat.mul_comm (4294967296 ^ k) 4294967296, ← Nat.mul_assoc, ← Nat.add_mul]
          congr 1
          omega
        rw [Nat.add_mul, Nat.add_mul] at e3
        omega
  have loop : ∀ (d k cy bo : Nat) (r : Nat → Nat) (w1 : ze_W), k + d = nb → cy < 4294967296 → bo < 2 → bfr w w1 c → w1.2 c = some (ze_ob 7 [.ref (c + 1), ze_i (nc : Nat), ze_i sc]) → w1.2 (c + 1) = some (ze_ia G Lc (fun j => (r j : Nat))) → (∀ j, r j < 4294967296) → (∀ q, q < j ∨ j + k ≤ q → r q = fc q) → nv 4294967296 (fun i => r (j + i)) k + g * nv 4294967296 (lf fb nb s) k = nv 4294967296 (fun i => fc (j + i)) k + (cy + bo) * 4294967296 ^ k → ze_V G l (ze_rm 2 0 0) M7_takeAway Z 9 [(0, .ref c), (1, .ref b), (2, ze_i ((j : Nat))), (3, ze_i ((nb : Nat))), (4, ze_i ((s : Nat))), (5, ze_l ((g : Nat))), (7, ze_l ((bo : Nat))), (9, ze_l ((cy : Nat))), (11, ze_i ((k : Nat)))] [] w1 0 0 := by
    intro d
    induction d with
    | zero =>
      intro k cy bo r w1 hk hcy hbo fr ca cb rf he hv
      have hb1 := bg_fr fr hc hb hcb
      obtain ⟨ba, bb, -, -, -⟩ := id hb1
      have hkn : k = nb := by omega
      rw [hkn, ← hVV] at hv
      obtain ⟨X, hX⟩ : ∃ X, X = r (j + nb) := ⟨_, rfl⟩
      have hXb : X < 4294967296 := by rw [hX]; exact rf _
      have hU2 : UU = nv 4294967296 (fun i => fc (j + i)) nb + X * 4294967296 ^ nb := by rw [hUU, nv_s, hX, he _ (by omega)]
      have hrl : nv 4294967296 (fun i => r (j + i)) nb < 4294967296 ^ nb := nv_lt (fun i _ => rf _)
      refine ze_iload dX7_takeAway_9 rfl ?_
      refine ze_iload_n dX7_takeAway_11 rfl ?_
      refine ze_icmp_ge 96 dX7_takeAway_12 (by decide) (by omega) (by omega) (fun q => ?_) (fun q => ?_)
      · refine ze_aload_n dX7_takeAway_96 rfl ?_
        refine ze_getf dX7_takeAway_97 fl_X7_7 ca rfl ?_
        refine ze_iload_n dX7_takeAway_100 rfl ?_
        refine ze_iload_n dX7_takeAway_101 rfl ?_
        refine ze_iadd dX7_takeAway_102 ?_
        refine ze_iald (j := j + nb) dX7_takeAway_103 cb (by omega) (by omega) (by omega) ?_
        rw [← hX]
        refine ze_msk dX7_takeAway_104 dX7_takeAway_105 dX7_takeAway_108 ct_X7_29 (by omega) ?_
        refine ze_lload dX7_takeAway_109 rfl ?_
        refine ze_lsub dX7_takeAway_111 ?_
        refine ze_lload dX7_takeAway_112 rfl ?_
        refine ze_lsub dX7_takeAway_114 ?_
        obtain ⟨v, hv2⟩ : ∃ v : Int, v = (X : Nat) - (cy : Nat) - (bo : Nat) := ⟨_, rfl⟩
        rw [← hv2]
        refine ze_lstore (lv' := [(0, .ref c), (1, .ref b), (2, ze_i ((j : Nat))), (3, ze_i ((nb : Nat))), (4, ze_i ((s : Nat))), (5, ze_l ((g : Nat))), (7, ze_l ((bo : Nat))), (9, ze_l ((cy : Nat))), (11, ze_l (v))]) dX7_takeAway_115 rfl rfl ?_
        refine ze_aload_n dX7_takeAway_117 rfl ?_
        refine ze_getf dX7_takeAway_118 fl_X7_7 ca rfl ?_
        refine ze_iload_n dX7_takeAway_121 rfl ?_
        refine ze_iload_n dX7_takeAway_122 rfl ?_
        refine ze_iadd dX7_takeAway_123 ?_
        refine ze_lload dX7_takeAway_124 rfl ?_
        refine ze_l2i dX7_takeAway_126 ?_
        obtain ⟨y, hy, hyb⟩ : ∃ y : Nat, v % 4294967296 = (y : Nat) ∧ y < 4294967296 := ⟨(v % 4294967296).toNat, by omega, by omega⟩
        refine ze_iastM (j := j + nb) (y := ((y : Nat))) (f' := fun q => ((va_up r (j + nb) y q : Nat) : Int)) dX7_takeAway_127 cb (by omega) (by omega) (by omega) (ze_mod (by omega)) (ze_vu _ _ _) (fun w1 z1 c1 o1 => ?_)
        have h1_0 := (o1 c (by omega)).trans ca
        have h1_2 := (o1 b (by omega)).trans ba
        have h1_3 := (o1 (b + 1) (by omega)).trans bb
        refine ze_lload dX7_takeAway_128 rfl ?_
        refine ze_lconst (z := 0) dX7_takeAway_130 (by decide) ?_
        refine ze_lc_lt 138 dX7_takeAway_131 dX7_takeAway_132 (by decide) (by omega) (by omega) (fun q1 => ?_) (fun q1 => ?_)
        · refine ze_lconst (z := 0) dX7_takeAway_138 (by decide) ?_
          refine ze_tl (b := ((0 : Nat) : Nat)) rfl ?_
          refine ze_lstore (lv' := [(0, .ref c), (1, .ref b), (2, ze_i ((j : Nat))), (3, ze_i ((nb : Nat))), (4, ze_i ((s : Nat))), (5, ze_l ((g : Nat))), (7, ze_l ((bo : Nat))), (9, ze_l ((cy : Nat))), (11, ze_l (v)), (13, ze_l (((0 : Nat) : Nat)))]) dX7_takeAway_139 rfl rfl ?_
          refine ze_iconst dX7_takeAway_141 ?_
          refine ze_ti (b := ((0 : Nat) : Nat)) rfl ?_
          refine ze_istore (lv' := [(0, .ref c), (1, .ref b), (2, ze_i ((j : Nat))), (3, ze_i ((nb : Nat))), (4, ze_i ((s : Nat))), (5, ze_l ((g : Nat))), (7, ze_l ((bo : Nat))), (9, ze_l ((cy : Nat))), (11, ze_l (v)), (13, ze_l (((0 : Nat) : Nat))), (15, ze_i (((0 : Nat) : Nat)))]) dX7_takeAway_142 rfl rfl ?_
          obtain ⟨e1, e2, e3⟩ := tk2 hV hVP hrl hv hU2 (by omega) hg2
          refine back (va_up r (j + nb) y) bo cy v (by rw [va_up_self]; omega) (fun q hq => by rw [va_up_ne _ _ (by omega)]; exact he q (by omega)) e1 ?_ nb 0 0 (va_up r (j + nb) y) _ (by omega) (by decide) ⟨z1.trans fr.1, fun x p q => (o1 x q).trans (fr.2 x p q)⟩ h1_0 c1 (up_lt rf hyb) (fun q _ => rfl) rfl
          rw [nv_congr (g := fun i => r (j + i)) (fun i hi => va_up_ne _ _ (by omega))]
          exact e3
        · refine ze_lload dX7_takeAway_135 rfl ?_
          obtain ⟨e1, e2⟩ := tk1 (y := y) hV hv hU2 (by omega) hg1
          rw [← hQ]
          refine ze_lreturn rfl dX7_takeAway_137 ⟨_, rfl, by rw [← e1], ⟨z1.trans fr.1, fun x p q => (o1 x q).trans (fr.2 x p q)⟩, va_up r (j + nb) y, ⟨h1_0, c1, cn, cL, up_lt rf hyb⟩, fun i hi => ?_, ?_⟩ rfl rfl
          · rw [va_up_ne _ _ (by omega), he i (by omega)]
          · rw [nv_at]
            exact e2
      · omega
    | succ d ih =>
      intro k cy bo r w1 hk hcy hbo fr ca cb rf he hv
      have hb1 := bg_fr fr hc hb hcb
      obtain ⟨ba, bb, -, -, -⟩ := id hb1
      obtain ⟨Y, hY⟩ : ∃ Y, Y = lf fb nb s k := ⟨_, rfl⟩
      have hYb : Y < 4294967296 := by rw [hY]; exact lL k
      obtain ⟨X, hX⟩ : ∃ X, X = r (j + k) := ⟨_, rfl⟩
      have hXb : X < 4294967296 := by rw [hX]; exact rf _
      obtain ⟨D, hD⟩ : ∃ D, D = g * Y := ⟨_, rfl⟩
      have hDb : D ≤ 4294967295 * 4294967295 := by rw [hD]; exact Nat.mul_le_mul (by omega) (by omega)
      have hD2 : ((g : Nat) : Int) * (Y : Nat) = (D : Nat) := by rw [hD]; push_cast; rfl
      obtain ⟨M, hM⟩ : ∃ M, M = (cy + D) % 4294967296 := ⟨_, rfl⟩
      have hMb : M < 4294967296 := by omega
      obtain ⟨y, bo2, hyb, hbo2, hyv⟩ : ∃ y bo2 : Nat, y < 4294967296 ∧ bo2 < 2 ∧ y + M + bo = X + bo2 * 4294967296 := by
        rcases Nat.lt_or_ge X (M + bo) with h | h
        · exact ⟨X + 4294967296 - M - bo, 1, by omega, by decide, by omega⟩
        · exact ⟨X - M - bo, 0, by omega, by decide, by omega⟩
      have t81 : ∀ w2, w2.1 = w1.1 → (∀ x, x ≠ c + 1 → w2.2 x = w1.2 x) → w2.2 (c + 1) = some (ze_ia G Lc (fun q => ((va_up r (j + k) y q : Nat) : Int))) → ze_V G l (ze_rm 2 0 0) M7_takeAway Z 81 [(0, .ref c), (1, .ref b), (2, ze_i ((j : Nat))), (3, ze_i ((nb : Nat))), (4, ze_i ((s : Nat))), (5, ze_l ((g : Nat))), (7, ze_l ((bo : Nat))), (9, ze_l (((cy + D : Nat)))), (11, ze_i ((k : Nat))), (12, ze_l (((y : Nat)) - ((bo2 : Nat)) * 4294967296))] [ze_l ((bo2 : Nat))] w2 0 0 := by
        intro w2 z1 o1 c1
        refine ze_lstore (lv' := [(0, .ref c), (1, .ref b), (2, ze_i ((j : Nat))), (3, ze_i ((nb : Nat))), (4, ze_i ((s : Nat))), (5, ze_l ((g : Nat))), (7, ze_l ((bo2 : Nat))), (9, ze_l (((cy + D : Nat)))), (11, ze_i ((k : Nat))), (12, ze_l (((y : Nat)) - ((bo2 : Nat)) * 4294967296))]) dX7_takeAway_81 rfl rfl ?_
        refine ze_lload dX7_takeAway_83 rfl ?_
        refine ze_bipush dX7_takeAway_85 (by decide) ?_
        refine ze_lushr (z := (((cy + D) / 4294967296 : Nat))) dX7_takeAway_87 (ze_u32 (by omega) (by omega)) ?_
        refine ze_lstore (lv' := [(0, .ref c), (1, .ref b), (2, ze_i ((j : Nat))), (3, ze_i ((nb : Nat))), (4, ze_i ((s : Nat))), (5, ze_l ((g : Nat))), (7, ze_l ((bo2 : Nat))), (9, ze_l ((((cy + D) / 4294967296 : Nat)))), (11, ze_i ((k : Nat))), (12, ze_l (((y : Nat)) - ((bo2 : Nat)) * 4294967296))]) dX7_takeAway_88 rfl rfl ?_
        refine ze_iinc (b := ((k + 1 : Nat))) (lv' := [(0, .ref c), (1, .ref b), (2, ze_i ((j : Nat))), (3, ze_i ((nb : Nat))), (4, ze_i ((s : Nat))), (5, ze_l ((g : Nat))), (7, ze_l ((bo2 : Nat))), (9, ze_l ((((cy + D) / 4294967296 : Nat)))), (11, ze_i (((k + 1 : Nat)))), (12, ze_l (((y : Nat)) - ((bo2 : Nat)) * 4294967296))]) dX7_takeAway_90 rfl rfl (by omega) rfl ?_
        refine ze_goto 9 dX7_takeAway_93 (by decide) ?_
        refine ze_lv (lv' := [(0, .ref c), (1, .ref b), (2, ze_i ((j : Nat))), (3, ze_i ((nb : Nat))), (4, ze_i ((s : Nat))), (5, ze_l ((g : Nat))), (7, ze_l ((bo2 : Nat))), (9, ze_l ((((cy + D) / 4294967296 : Nat)))), (11, ze_i (((k + 1 : Nat))))]) [0, 1, 2, 3, 4, 5, 6, 7, 8] rfl ?_
        refine ih (k + 1) ((cy + D) / 4294967296) bo2 (va_up r (j + k) y) _ (by omega) (by omega) hbo2 ⟨z1.trans fr.1, fun x p q => (o1 x q).trans (fr.2 x p q)⟩ ((o1 c (by omega)).trans ca) c1 (up_lt rf hyb) (fun q hq => by rw [va_up_ne _ _ (by omega)]; exact he q (by omega)) ?_
        rw [nv_at, nv_s, nv_s, ← he (j + k) (by omega), ← hX, ← hY, Nat.pow_succ, Nat.mul_add, ← Nat.mul_assoc g Y, ← hD]
        have e3 : (y + D + cy + bo) * 4294967296 ^ k = X * 4294967296 ^ k + ((cy + D) / 4294967296 + bo2) * (4294967296 ^ k * 4294967296) := by
          rw [Nat.mul_comm (4294967296 ^ k) 4294967296, ← Nat.mul_assoc, ← Nat.add_mul]
          congr 1
          omega
        rw [Nat.add_mul, Nat.add_mul, Nat.add_mul] at e3
        rw [Nat.add_mul] at hv
        omega
      refine ze_iload dX7_takeAway_9 rfl ?_
      refine ze_iload_n dX7_takeAway_11 rfl ?_
      refine ze_icmp_ge 96 dX7_takeAway_12 (by decide) (by omega) (by omega) (fun q => ?_) (fun q => ?_)
      · omega
      · refine ze_lload dX7_takeAway_15 rfl ?_
        refine ze_lload dX7_takeAway_17 rfl ?_
        refine ze_aload_n dX7_takeAway_19 rfl ?_
        refine ze_iload dX7_takeAway_20 rfl ?_
        refine ze_iload dX7_takeAway_22 rfl ?_
        refine ze_callS (As := [.ref b, ze_i ((k : Nat)), ze_i ((s : Nat))]) (rest := [ze_l ((g : Nat)), ze_l ((cy : Nat))]) dX7_takeAway_24 (C7_lifted (k := k) hb1 (by omega) hs) mo7_lifted ml_X7_93 st_7_lifted rfl rfl rfl ⟨Nat.le_refl _, Nat.le_refl _⟩ rfl (Nat.le_of_ble_eq_true rfl) ?_
        rintro _ w' ⟨r', rfl, rfl, rfl⟩
        rw [← hY]
        change ze_V G l (ze_rm 2 0 0) M7_takeAway _ 27 [(0, .ref c), (1, .ref b), (2, ze_i ((j : Nat))), (3, ze_i ((nb : Nat))), (4, ze_i ((s : Nat))), (5, ze_l ((g : Nat))), (7, ze_l ((bo : Nat))), (9, ze_l ((cy : Nat))), (11, ze_i ((k : Nat)))] [ze_l ((Y : Nat)), ze_l ((g : Nat)), ze_l ((cy : Nat))] w' 0 0
        refine ze_lmul dX7_takeAway_27 ?_
        refine ze_tl (b := (D : Nat)) hD2 ?_
        refine ze_ladd dX7_takeAway_28 ?_
        refine ze_tl (b := ((cy + D : Nat))) (by omega) ?_
        refine ze_lstore (lv' := [(0, .ref c), (1, .ref b), (2, ze_i ((j : Nat))), (3, ze_i ((nb : Nat))), (4, ze_i ((s : Nat))), (5, ze_l ((g : Nat))), (7, ze_l ((bo : Nat))), (9, ze_l (((cy + D : Nat)))), (11, ze_i ((k : Nat)))]) dX7_takeAway_29 rfl rfl ?_
        refine ze_aload_n dX7_takeAway_31 rfl ?_
        refine ze_getf dX7_takeAway_32 fl_X7_7 ca rfl ?_
        refine ze_iload_n dX7_takeAway_35 rfl ?_
        refine ze_iload dX7_takeAway_36 rfl ?_
        refine ze_iadd dX7_takeAway_38 ?_
        refine ze_iald (j := j + k) dX7_takeAway_39 cb (by omega) (by omega) (by omega) ?_
        rw [← hX]
        refine ze_msk dX7_takeAway_40 dX7_takeAway_41 dX7_takeAway_44 ct_X7_29 (by omega) ?_
        refine ze_lload dX7_takeAway_45 rfl ?_
        refine ze_ldc2 (z := 4294967295) dX7_takeAway_47 ct_X7_29 (by decide) ?_
        refine ze_land (z := (M : Nat)) dX7_takeAway_50 ((ze_land32 (by omega)).trans (by rw [hM]; rfl)) ?_
        refine ze_lsub dX7_takeAway_51 ?_
        refine ze_lload dX7_takeAway_52 rfl ?_
        refine ze_lsub dX7_takeAway_54 ?_
        refine ze_tl (b := ((y : Nat)) - ((bo2 : Nat)) * 4294967296) (by omega) ?_
        refine ze_lstore (lv' := [(0, .ref c), (1, .ref b), (2, ze_i ((j : Nat))), (3, ze_i ((nb : Nat))), (4, ze_i ((s : Nat))), (5, ze_l ((g : Nat))), (7, ze_l ((bo : Nat))), (9, ze_l (((cy + D : Nat)))), (11, ze_i ((k : Nat))), (12, ze_l (((y : Nat)) - ((bo2 : Nat)) * 4294967296))]) dX7_takeAway_55 rfl rfl ?_
        refine ze_aload_n dX7_takeAway_57 rfl ?_
        refine ze_getf dX7_takeAway_58 fl_X7_7 ca rfl ?_
        refine ze_iload_n dX7_takeAway_61 rfl ?_
        refine ze_iload dX7_takeAway_62 rfl ?_
        refine ze_iadd dX7_takeAway_64 ?_
        refine ze_lload dX7_takeAway_65 rfl ?_
        refine ze_l2i dX7_takeAway_67 ?_
        refine ze_iastM (j := j + k) (y := ((y : Nat))) (f' := fun q => ((va_up r (j + k) y q : Nat) : Int)) dX7_takeAway_68 cb (by omega) (by omega) (by omega) (ze_mod ze_mdb) (ze_vu _ _ _) (fun w1 z1 c1 o1 => ?_)
        have h1_0 := (o1 c (by omega)).trans ca
        have h1_2 := (o1 b (by omega)).trans ba
        have h1_3 := (o1 (b + 1) (by omega)).trans bb
        refine ze_lload dX7_takeAway_69 rfl ?_
        refine ze_lconst (z := 0) dX7_takeAway_71 (by decide) ?_
        refine ze_lc_ge 80 dX7_takeAway_72 dX7_takeAway_73 (by decide) (by omega) (by omega) (fun q1 => ?_) (fun q1 => ?_)
        · refine ze_lconst (z := 0) dX7_takeAway_80 (by decide) ?_
          refine ze_tl (b := (bo2 : Nat)) (by omega) ?_
          exact t81 _ z1 o1 c1
        · refine ze_lconst (z := 1) dX7_takeAway_76 (by decide) ?_
          refine ze_goto 81 dX7_takeAway_77 (by decide) ?_
          refine ze_tl (b := (bo2 : Nat)) (by omega) ?_
          exact t81 _ z1 o1 c1
  obtain ⟨ca, cb, -, -, -⟩ := id hc
  obtain ⟨ba, bb, -, -, -⟩ := id hb
  change ze_V G l (ze_rm 2 0 0) M7_takeAway Z 0 [(0, .ref c), (1, .ref b), (2, ze_i ((j : Nat))), (3, ze_i ((nb : Nat))), (4, ze_i ((s : Nat))), (5, ze_l ((g : Nat)))] [] w 0 0
  refine ze_lconst (z := 0) dX7_takeAway_0 (by decide) ?_
  refine ze_tl (b := ((0 : Nat) : Nat)) rfl ?_
  refine ze_lstore (lv' := [(0, .ref c), (1, .ref b), (2, ze_i ((j : Nat))), (3, ze_i ((nb : Nat))), (4, ze_i ((s : Nat))), (5, ze_l ((g : Nat))), (7, ze_l (((0 : Nat) : Nat)))]) dX7_takeAway_1 rfl rfl ?_
  refine ze_lconst (z := 0) dX7_takeAway_3 (by decide) ?_
  refine ze_tl (b := ((0 : Nat) : Nat)) rfl ?_
  refine ze_lstore (lv' := [(0, .ref c), (1, .ref b), (2, ze_i ((j : Nat))), (3, ze_i ((nb : Nat))), (4, ze_i ((s : Nat))), (5, ze_l ((g : Nat))), (7, ze_l (((0 : Nat) : Nat))), (9, ze_l (((0 : Nat) : Nat)))]) dX7_takeAway_4 rfl rfl ?_
  refine ze_iconst dX7_takeAway_6 ?_
  refine ze_ti (b := ((0 : Nat) : Nat)) rfl ?_
  refine ze_istore (lv' := [(0, .ref c), (1, .ref b), (2, ze_i ((j : Nat))), (3, ze_i ((nb : Nat))), (4, ze_i ((s : Nat))), (5, ze_l ((g : Nat))), (7, ze_l (((0 : Nat) : Nat))), (9, ze_l (((0 : Nat) : Nat))), (11, ze_i (((0 : Nat) : Nat)))]) dX7_takeAway_7 rfl rfl ?_
  exact loop nb 0 0 0 fc w (by omega) (by decide) (by decide) (bfr.rf _ _) ca cb cf (fun _ _ => rfl) (by simp [nv])
