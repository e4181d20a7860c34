/-! Big: the whole division -/
theorem kd_init {F S D v0 u0 up r2 V U B : Nat} (hF : 0 < F) (hV : V = (F * B + S) * D + v0) (hU : U = (up * B + r2) * D + u0) (hu : u0 < D) (hr : r2 < B) : U / V ≤ up / F := by
  rcases Nat.lt_or_ge (up / F) (U / V) with h | h
  · exfalso
    have h1 : up < U / V * F := (Nat.div_lt_iff_lt_mul hF).1 h
    have h2 : U / V * V ≤ U := Nat.div_mul_le_self _ _
    generalize U / V = q at *
    have h3 : (up + 1) * (B * D) ≤ q * F * (B * D) := Nat.mul_le_mul_right _ h1
    have h4 : q * V = q * F * (B * D) + q * (S * D + v0) := by
      rw [hV, Nat.add_mul, Nat.add_assoc, Nat.mul_add, Nat.mul_assoc F, ← Nat.mul_assoc q F]
    have h5 : (r2 + 1) * D ≤ B * D := Nat.mul_le_mul_right _ hr
    rw [Nat.add_mul, Nat.one_mul] at h5
    rw [Nat.add_mul, Nat.one_mul, ← Nat.mul_assoc] at h3
    rw [Nat.add_mul] at hU
    have := Nat.zero_le (q * (S * D + v0))
    omega
  · exact h
theorem kd_dec {F S D v0 u0 up r2 V U B g lt : Nat} (hV : V = (F * B + S) * D + v0) (hU : U = (up * B + r2) * D + u0) (hu : u0 < D) (hg : g * F + lt = up) (h : lt * B + r2 < g * S) : U / V < g := by
  apply Nat.div_lt_of_lt_mul
  have h1 : up * B + r2 + 1 ≤ g * (F * B + S) := by
    rw [← hg, Nat.add_mul, Nat.mul_add, ← Nat.mul_assoc]
    omega
  have h2 : (up * B + r2 + 1) * D ≤ g * (F * B + S) * D := Nat.mul_le_mul_right _ h1
  have h3 : V * g = g * (F * B + S) * D + g * v0 := by rw [Nat.mul_comm, hV, Nat.mul_add, ← Nat.mul_assoc]
  rw [Nat.add_mul, Nat.one_mul] at h2
  omega
theorem kd_exit {F S D v0 u0 up r2 V U B g lt : Nat} (hF : 0 < F) (hV0 : 0 < V) (hV : V = (F * B + S) * D + v0) (hv : v0 < D) (hU : U = (up * B + r2) * D + u0) (hg : g * F + lt = up) (hgB : g < B) (h : g * S ≤ lt * B + r2) : g ≤ U / V + 1 := by
  cases g with
  | zero => exact Nat.zero_le _
  | succ k =>
    have h0 : k ≤ U / V := by
      rw [Nat.le_div_iff_mul_le hV0]
      have h1 : (k + 1) * (F * B + S) ≤ up * B + r2 := by
        rw [← hg, Nat.add_mul ((k + 1) * F), Nat.mul_add, ← Nat.mul_assoc]
        omega
      have h2 : 1 * B ≤ F * B := Nat.mul_le_mul_right _ hF
      have h3 : k * (F * B + S + 1) ≤ up * B + r2 := by
        rw [Nat.add_mul, Nat.one_mul] at h1
        rw [Nat.mul_add, Nat.mul_one]
        omega
      have h4 : k * (F * B + S + 1) * D ≤ (up * B + r2) * D := Nat.mul_le_mul_right _ h3
      have h5 : k * V ≤ k * ((F * B + S + 1) * D) := by
        apply Nat.mul_le_mul_left
        rw [hV, Nat.add_mul (F * B + S), Nat.one_mul]
        omega
      rw [← Nat.mul_assoc] at h5
      omega
    omega
theorem kd_top {F S D v0 u0 up r2 V U B g lt : Nat} (hS : S < B) (hD : 0 < D) (hB : 0 < B) (hV : V = (F * B + S) * D + v0) (hv : v0 < D) (hU : U = (up * B + r2) * D + u0) (hUV : U < V * B) (hg : g * F + lt = up) (hl : B ≤ lt) : g < B := by
  have h1 : (S + 1) * D ≤ B * D := Nat.mul_le_mul_right _ hS
  rw [Nat.add_mul, Nat.one_mul] at h1
  have h2 : V ≤ (F + 1) * (B * D) := by
    rw [hV, Nat.add_mul, Nat.add_mul F, Nat.one_mul, Nat.mul_assoc]
    omega
  have h3 : V * B ≤ (F + 1) * (B * D) * B := Nat.mul_le_mul_right _ h2
  have h4 : up * (B * D) < (F + 1) * B * (B * D) := by
    have : up * (B * D) ≤ U := by rw [hU, Nat.add_mul, ← Nat.mul_assoc]; omega
    have e : (F + 1) * (B * D) * B = (F + 1) * B * (B * D) := Nat.mul_right_comm _ _ _
    omega
  have h5 : up < (F + 1) * B := Nat.lt_of_mul_lt_mul_right h4
  rw [Nat.add_mul, Nat.one_mul] at h5
  have h6 : g * F < B * F := by rw [Nat.mul_comm B F]; omega
  exact Nat.lt_of_mul_lt_mul_right h6
theorem kd_three {N a b c B D : Nat} : N + c * D + b * (D * B) + a * (D * B * B) = ((a * B + b) * B + c) * D + N := by
  have h1 : a * B * B * D = a * (D * B * B) := by ac_rfl
  have h2 : b * B * D = b * (D * B) := by ac_rfl
  rw [Nat.add_mul, Nat.add_mul, Nat.add_mul, h1, h2]
  omega
theorem cmp3_rng (a b : Int) : -2147483648 ≤ cmp3 a b ∧ cmp3 a b < 2147483648 := by
  unfold cmp3
  split
  · omega
  · split <;> omega
theorem cmp3_le0 {a b : Nat} (h : cmp3 (a : Nat) (b : Nat) ≤ 0) : a ≤ b := by
  unfold cmp3 at h
  split at h
  · omega
  · split at h <;> omega
theorem cmp3_gt0 {a b : Nat} (h : 0 < cmp3 (a : Nat) (b : Nat)) : b < a := by
  unfold cmp3 at h
  split at h
  · omega
  · split at h <;> omega
theorem kd_pack {F S D v0 u0 up r2 V U : Nat} (hF : 0 < F) (hS : S < 4294967296) (hD : 0 < D) (hV0 : 0 < V) (hV : V = (F * 4294967296 + S) * D + v0) (hv : v0 < D) (hU : U = (up * 4294967296 + r2) * D + u0) (hu : u0 < D) (hr : r2 < 4294967296) (hUV : U < V * 4294967296) : ∃ qd, (∀ _ : Unit, U / V = qd) ∧ qd < 4294967296 ∧ (∀ _ : Unit, qd ≤ up / F) ∧ (∀ g lt, g * F + lt = up → lt * 4294967296 + r2 < g * S → qd < g) ∧ (∀ g lt, g * F + lt = up → g < 4294967296 → g * S ≤ lt * 4294967296 + r2 → g ≤ qd + 1) ∧ (∀ g lt, g * F + lt = up → 4294967296 ≤ lt → g < 4294967296 ∧ g ≤ qd + 1) := by
  refine ⟨U / V, fun _ => rfl, Nat.div_lt_of_lt_mul hUV, fun _ => kd_init hF hV hU hu hr, fun g lt h1 h2 => kd_dec hV hU hu h1 h2, fun g lt h1 h2 h3 => kd_exit hF hV0 hV hv hU h1 h2 h3, fun g lt h1 h2 => ?_⟩
  have h3 : g < 4294967296 := kd_top hS hD (by decide) hV hv hU hUV h1 h2
  refine ⟨h3, kd_exit hF hV0 hV hv hU h1 h3 ?_⟩
  have h4 : g * S ≤ 4294967296 * 4294967296 := Nat.mul_le_mul (Nat.le_of_lt h3) (Nat.le_of_lt hS)
  have h5 : 4294967296 * 4294967296 ≤ lt * 4294967296 := Nat.mul_le_mul_right _ h2
  exact Nat.le_trans h4 (Nat.le_trans h5 (Nat.le_add_right _ _))
theorem kd_end {R V Q A Bv P : Nat} (hP : 0 < P) (hB : 0 < Bv) (hV : V = Bv * P) (hR : R < V) (h : R + V * Q = A * P) : Q = A / Bv ∧ R / P = A % Bv := by
  have e1 : Q = A / Bv := by
    have : (R + V * Q) / V = Q := by rw [Nat.add_mul_div_left _ _ (by omega), Nat.div_eq_of_lt hR, Nat.zero_add]
    rw [← this, h, hV, Nat.mul_div_mul_right _ _ hP]
  refine ⟨e1, ?_⟩
  have e2 : (R + V * Q) % V = R := by rw [Nat.add_mul_mod_self_left, Nat.mod_eq_of_lt hR]
  rw [← e2, h, hV, Nat.mul_mod_mul_right, Nat.mul_div_cancel _ hP]
theorem hdq (up F : Nat) (h : up < 18446744073709551616) (hF : 2147483648 ≤ F) : up / F < 8589934592 * 2 := by
  apply Nat.div_lt_of_lt_mul
  have : 2147483648 * (8589934592 * 2) ≤ F * (8589934592 * 2) := Nat.mul_le_mul_right _ hF
  omega
/-- nothing but the Bigs at a and b has changed -/
def bfr2 (w w' : ze_W) (a b : Nat) : Prop := w'.1 = w.1 ∧ ∀ x, x ≠ a → x ≠ a + 1 → x ≠ b → x ≠ b + 1 → w'.2 x = w.2 x
theorem bg_fr2 {G : ze_G} {w w' : ze_W} {a b e L La Lb : Nat} {f fa fb : Nat → Nat} {n na nb : Nat} {sg sa sb : Int} (hr : bfr2 w w' a b) (ha : bg G w a La fa na sa) (hb : bg G w b Lb fb nb sb) (h : bg G w e L f n sg) (hne : a ≠ e) (hne2 : b ≠ e) : bg G w' e L f n sg := by
  have h1 := bg_x ha h
  have h2 := bg_x h ha
  have h3 := bg_x hb h
  have h4 := bg_x h hb
  exact bg_keep (a := a) h (hr.2 e (Ne.symm hne) h2 (Ne.symm hne2) h4) (hr.2 (e + 1) (Ne.symm h1) (by omega) (Ne.symm h3) (by omega))
theorem lo_guess {G : ze_G} {l : Launch} {w1 : ze_W} {Z : List Frame → Array Value → State → State → Prop} {a b c d j nb Ld qn m s F S up qd X3 : Nat} {rd : Nat → Nat} (da : w1.2 d = some (ze_ob 7 [.ref (d + 1), ze_i (m : Nat), ze_i 1])) (db : w1.2 (d + 1) = some (ze_ia G Ld (fun j => (rd j : Nat)))) (hX3 : rd (j + nb - 2) = X3) (hX3b : X3 < 4294967296) (hFb : F < 4294967296) (hSb : S < 4294967296) (hj : j + nb < Ld) (hnb : 2 ≤ nb) (hL : Ld < 100000) (hqB : qd < 4294967296) (kdec : ∀ g lt, g * F + lt = up → lt * 4294967296 + X3 < g * S → qd < g) (kexit : ∀ g lt, g * F + lt = up → g < 4294967296 → g * S ≤ lt * 4294967296 + X3 → g ≤ qd + 1) (ktop : ∀ g lt, g * F + lt = up → 4294967296 ≤ lt → g < 4294967296 ∧ g ≤ qd + 1) (t251 : ∀ g lt : Nat, g < 4294967296 → qd ≤ g → g ≤ qd + 1 → ze_V G l (ze_rm 3 0 0) M7_longOver Z 251 [(0, .ref c), (1, .ref a), (2, .ref b), (3, .ref d), (4, ze_i ((s : Nat))), (5, ze_i ((nb : Nat))), (6, ze_i ((m : Nat))), (7, ze_l ((F : Nat))), (9, ze_l ((S : Nat))), (11, ze_i ((qn : Nat))), (12, ze_i ((j : Nat))), (13, ze_l ((up : Nat))), (15, ze_l ((g : Nat))), (17, ze_l ((lt : Nat)))] [] w1 0 0) : ∀ g lt : Nat, g < 8589934592 * 2 → lt < 8589934592 → (∀ _ : Unit, g * F + lt = up) → qd ≤ g → ze_V G l (ze_rm 3 0 0) M7_longOver Z 181 [(0, .ref c), (1, .ref a), (2, .ref b), (3, .ref d), (4, ze_i ((s : Nat))), (5, ze_i ((nb : Nat))), (6, ze_i ((m : Nat))), (7, ze_l ((F : Nat))), (9, ze_l ((S : Nat))), (11, ze_i ((qn : Nat))), (12, ze_i ((j : Nat))), (13, ze_l ((up : Nat))), (15, ze_l ((g : Nat))), (17, ze_l ((lt : Nat)))] [] w1 0 0 := by
  intro g
  induction g with
  | zero =>
    intro lt hgb hlb hgl hge
    refine ze_lload dX7_longOver_181 rfl ?_
    refine ze_bipush dX7_longOver_183 (by decide) ?_
    refine ze_lushr (z := ((lt / 4294967296 : Nat))) dX7_longOver_185 (ze_u32 (by omega) (by omega)) ?_
    refine ze_lconst (z := 0) dX7_longOver_186 (by decide) ?_
    refine ze_lc_ne 251 dX7_longOver_187 dX7_longOver_188 (by decide) (by omega) (by omega) (fun q1 => ?_) (fun q1 => ?_)
    · have hg3 := ktop 0 lt (hgl ()) (by omega)
      exact t251 _ lt hg3.1 hge hg3.2
    · refine ze_lload dX7_longOver_191 rfl ?_
      refine ze_bipush dX7_longOver_193 (by decide) ?_
      refine ze_lushr (z := ((0 / 4294967296 : Nat))) dX7_longOver_195 (ze_u32 (by omega) (by omega)) ?_
      refine ze_lconst (z := 0) dX7_longOver_196 (by decide) ?_
      refine ze_lc_ne 235 dX7_longOver_197 dX7_longOver_198 (by decide) (by omega) (by omega) (fun q2 => ?_) (fun q2 => ?_)
      · have hh : qd < 0 := (by omega)
        exact absurd hh (Nat.not_lt_zero _)
      · have hg4 : 0 < 4294967296 := by omega
        obtain ⟨D2, hD2⟩ : ∃ D2, ∀ _ : Unit, D2 = 0 * S := ⟨_, fun _ => rfl⟩
        have hD2b : D2 < 18446744073709551616 := by
          have : 0 * S ≤ 4294967295 * 4294967295 := Nat.mul_le_mul (by omega) (by omega)
          rw [hD2 ()]
          omega
        refine ze_lload dX7_longOver_201 rfl ?_
        refine ze_lload dX7_longOver_203 rfl ?_
        refine ze_lmul dX7_longOver_205 ?_
        refine ze_tl (b := (D2 : Nat)) (by rw [hD2 ()]; push_cast; rfl) ?_
        refine ze_lload dX7_longOver_206 rfl ?_
        refine ze_bipush dX7_longOver_208 (by decide) ?_
        refine ze_lshl (z := (lt : Nat) * 4294967296) dX7_longOver_210 ze_s32 ?_
        refine ze_aload_n dX7_longOver_211 rfl ?_
        refine ze_getf dX7_longOver_212 fl_X7_7 da rfl ?_
        refine ze_iload dX7_longOver_215 rfl ?_
        refine ze_iload dX7_longOver_217 rfl ?_
        refine ze_iadd dX7_longOver_219 ?_
        refine ze_iconst dX7_longOver_220 ?_
        refine ze_isub dX7_longOver_221 ?_
        refine ze_iald (j := j + nb - 2) dX7_longOver_222 db (by omega) (by omega) (by omega) ?_
        rw [hX3]
        refine ze_msk dX7_longOver_223 dX7_longOver_224 dX7_longOver_227 ct_X7_29 (by omega) ?_
        refine ze_lor (z := (lt : Nat) * 4294967296 + (X3 : Nat)) dX7_longOver_228 (ze_o32 (by omega) (by omega)) ?_
        refine ze_tl (b := ((lt * 4294967296 + X3 : Nat))) (by omega) ?_
        refine ze_callS (As := [ze_l ((D2 : Nat)), ze_l (((lt * 4294967296 + X3 : Nat)))]) (rest := []) dX7_longOver_229 (CJ_lcmpu (by omega) (by omega)) moJ13_compareUnsigned ml_X7_97 st_J13_compareUnsigned rfl rfl rfl ⟨Nat.le_refl _, Nat.le_refl _⟩ rfl (Nat.le_of_ble_eq_true rfl) ?_
        rintro _ w' ⟨cc, rfl, rfl, rfl⟩
        change ze_V G l (ze_rm 3 0 0) M7_longOver _ 232 [(0, .ref c), (1, .ref a), (2, .ref b), (3, .ref d), (4, ze_i ((s : Nat))), (5, ze_i ((nb : Nat))), (6, ze_i ((m : Nat))), (7, ze_l ((F : Nat))), (9, ze_l ((S : Nat))), (11, ze_i ((qn : Nat))), (12, ze_i ((j : Nat))), (13, ze_l ((up : Nat))), (15, ze_l (((0 : Nat)))), (17, ze_l ((lt : Nat)))] [ze_i (cmp3 ((D2 : Nat)) ((lt * 4294967296 + X3 : Nat)))] w' 0 0
        refine ze_if_le 251 dX7_longOver_232 (by decide) (cmp3_rng _ _) (fun q3 => ?_) (fun q3 => ?_)
        · exact t251 _ lt hg4 hge (kexit _ lt (hgl ()) hg4 (by rw [← hD2 ()]; exact cmp3_le0 q3))
        · have q4 := cmp3_gt0 q3
          clear q3
          have hh : qd < 0 := kdec _ lt (hgl ()) (by rw [← hD2 ()]; exact q4)
          exact absurd hh (Nat.not_lt_zero _)
  | succ g ihg =>
    intro lt hgb hlb hgl hge
    refine ze_lload dX7_longOver_181 rfl ?_
    refine ze_bipush dX7_longOver_183 (by decide) ?_
    refine ze_lushr (z := ((lt / 4294967296 : Nat))) dX7_longOver_185 (ze_u32 (by omega) (by omega)) ?_
    refine ze_lconst (z := 0) dX7_longOver_186 (by decide) ?_
    refine ze_lc_ne 251 dX7_longOver_187 dX7_longOver_188 (by decide) (by omega) (by omega) (fun q1 => ?_) (fun q1 => ?_)
    · have hg3 := ktop (g + 1) lt (hgl ()) (by omega)
      exact t251 _ lt hg3.1 hge hg3.2
    · refine ze_lload dX7_longOver_191 rfl ?_
      refine ze_bipush dX7_longOver_193 (by decide) ?_
      refine ze_lushr (z := (((g + 1) / 4294967296 : Nat))) dX7_longOver_195 (ze_u32 (by omega) (by omega)) ?_
      refine ze_lconst (z := 0) dX7_longOver_196 (by decide) ?_
      refine ze_lc_ne 235 dX7_longOver_197 dX7_longOver_198 (by decide) (by omega) (by omega) (fun q2 => ?_) (fun q2 => ?_)
      · have hh : qd < g + 1 := (by omega)
        refine ze_lload dX7_longOver_235 rfl ?_
        refine ze_lconst (z := 1) dX7_longOver_237 (by decide) ?_
        refine ze_lsub dX7_longOver_238 ?_
        refine ze_tl (b := (g : Nat)) (by omega) ?_
        refine ze_lstore (lv' := [(0, .ref c), (1, .ref a), (2, .ref b), (3, .ref d), (4, ze_i ((s : Nat))), (5, ze_i ((nb : Nat))), (6, ze_i ((m : Nat))), (7, ze_l ((F : Nat))), (9, ze_l ((S : Nat))), (11, ze_i ((qn : Nat))), (12, ze_i ((j : Nat))), (13, ze_l ((up : Nat))), (15, ze_l ((g : Nat))), (17, ze_l ((lt : Nat)))]) dX7_longOver_239 rfl rfl ?_
        refine ze_lload dX7_longOver_241 rfl ?_
        refine ze_lload dX7_longOver_243 rfl ?_
        refine ze_ladd dX7_longOver_245 ?_
        refine ze_tl (b := ((lt + F : Nat))) (by omega) ?_
        refine ze_lstore (lv' := [(0, .ref c), (1, .ref a), (2, .ref b), (3, .ref d), (4, ze_i ((s : Nat))), (5, ze_i ((nb : Nat))), (6, ze_i ((m : Nat))), (7, ze_l ((F : Nat))), (9, ze_l ((S : Nat))), (11, ze_i ((qn : Nat))), (12, ze_i ((j : Nat))), (13, ze_l ((up : Nat))), (15, ze_l ((g : Nat))), (17, ze_l (((lt + F : Nat))))]) dX7_longOver_246 rfl rfl ?_
        refine ze_goto 181 dX7_longOver_248 (by decide) ?_
        exact ihg (lt + F) (by omega) (by omega) (fun _ => by have := hgl (); rw [Nat.add_mul, Nat.one_mul] at this; omega) (by omega)
      · have hg4 : (g + 1) < 4294967296 := by omega
        obtain ⟨D2, hD2⟩ : ∃ D2, ∀ _ : Unit, D2 = (g + 1) * S := ⟨_, fun _ => rfl⟩
        have hD2b : D2 < 18446744073709551616 := by
          have : (g + 1) * S ≤ 4294967295 * 4294967295 := Nat.mul_le_mul (by omega) (by omega)
          rw [hD2 ()]
          omega
        refine ze_lload dX7_longOver_201 rfl ?_
        refine ze_lload dX7_longOver_203 rfl ?_
        refine ze_lmul dX7_longOver_205 ?_
        refine ze_tl (b := (D2 : Nat)) (by rw [hD2 ()]; push_cast; rfl) ?_
        refine ze_lload dX7_longOver_206 rfl ?_
        refine ze_bipush dX7_longOver_208 (by decide) ?_
        refine ze_lshl (z := (lt : Nat) * 4294967296) dX7_longOver_210 ze_s32 ?_
        refine ze_aload_n dX7_longOver_211 rfl ?_
        refine ze_getf dX7_longOver_212 fl_X7_7 da rfl ?_
        refine ze_iload dX7_longOver_215 rfl ?_
        refine ze_iload dX7_longOver_217 rfl ?_
        refine ze_iadd dX7_longOver_219 ?_
        refine ze_iconst dX7_longOver_220 ?_
        refine ze_isub dX7_longOver_221 ?_
        refine ze_iald (j := j + nb - 2) dX7_longOver_222 db (by omega) (by omega) (by omega) ?_
        rw [hX3]
        refine ze_msk dX7_longOver_223 dX7_longOver_224 dX7_longOver_227 ct_X7_29 (by omega) ?_
        refine ze_lor (z := (lt : Nat) * 4294967296 + (X3 : Nat)) dX7_longOver_228 (ze_o32 (by omega) (by omega)) ?_
        refine ze_tl (b := ((lt * 4294967296 + X3 : Nat))) (by omega) ?_
        refine ze_callS (As := [ze_l ((D2 : Nat)), ze_l (((lt * 4294967296 + X3 : Nat)))]) (rest := []) dX7_longOver_229 (CJ_lcmpu (by omega) (by omega)) moJ13_compareUnsigned ml_X7_97 st_J13_compareUnsigned rfl rfl rfl ⟨Nat.le_refl _, Nat.le_refl _⟩ rfl (Nat.le_of_ble_eq_true rfl) ?_
        rintro _ w' ⟨cc, rfl, rfl, rfl⟩
        change ze_V G l (ze_rm 3 0 0) M7_longOver _ 232 [(0, .ref c), (1, .ref a), (2, .ref b), (3, .ref d), (4, ze_i ((s : Nat))), (5, ze_i ((nb : Nat))), (6, ze_i ((m : Nat))), (7, ze_l ((F : Nat))), (9, ze_l ((S : Nat))), (11, ze_i ((qn : Nat))), (12, ze_i ((j : Nat))), (13, ze_l ((up : Nat))), (15, ze_l (((g + 1 : Nat)))), (17, ze_l ((lt : Nat)))] [ze_i (cmp3 ((D2 : Nat)) ((lt * 4294967296 + X3 : Nat)))] w' 0 0
        refine ze_if_le 251 dX7_longOver_232 (by decide) (cmp3_rng _ _) (fun q3 => ?_) (fun q3 => ?_)
        · exact t251 _ lt hg4 hge (kexit _ lt (hgl ()) hg4 (by rw [← hD2 ()]; exact cmp3_le0 q3))
        · have q4 := cmp3_gt0 q3
          clear q3
          have hh : qd < g + 1 := kdec _ lt (hgl ()) (by rw [← hD2 ()]; exact q4)
          refine ze_lload dX7_longOver_235 rfl ?_
          refine ze_lconst (z := 1) dX7_longOver_237 (by decide) ?_
          refine ze_lsub dX7_longOver_238 ?_
          refine ze_tl (b := (g : Nat)) (by omega) ?_
          refine ze_lstore (lv' := [(0, .ref c), (1, .ref a), (2, .ref b), (3, .ref d), (4, ze_i ((s : Nat))), (5, ze_i ((nb : Nat))), (6, ze_i ((m : Nat))), (7, ze_l ((F : Nat))), (9, ze_l ((S : Nat))), (11, ze_i ((qn : Nat))), (12, ze_i ((j : Nat))), (13, ze_l ((up : Nat))), (15, ze_l ((g : Nat))), (17, ze_l ((lt : Nat)))]) dX7_longOver_239 rfl rfl ?_
          refine ze_lload dX7_longOver_241 rfl ?_
          refine ze_lload dX7_longOver_243 rfl ?_
          refine ze_ladd dX7_longOver_245 ?_
          refine ze_tl (b := ((lt + F : Nat))) (by omega) ?_
          refine ze_lstore (lv' := [(0, .ref c), (1, .ref a), (2, .ref b), (3, .ref d), (4, ze_i ((s : Nat))), (5, ze_i ((nb : Nat))), (6, ze_i ((m : Nat))), (7, ze_l ((F : Nat))), (9, ze_l ((S : Nat))), (11, ze_i ((qn : Nat))), (12, ze_i ((j : Nat))), (13, ze_l ((up : Nat))), (15, ze_l ((g : Nat))), (17, ze_l (((lt + F : Nat))))]) dX7_longOver_246 rfl rfl ?_
          refine ze_goto 181 dX7_longOver_248 (by decide) ?_
          exact ihg (lt + F) (by omega) (by omega) (fun _ => by have := hgl (); rw [Nat.add_mul, Nat.one_mul] at this; omega) (by omega)
theorem C7_longOver {G : ze_G} {l : Launch} {w : ze_W} {c Lc : Nat} {fc : Nat → Nat} {nc : Nat} {sc : Int} {a La : Nat} {fa : Nat → Nat} {na : Nat} {sa : Int} {b Lb : Nat} {fb : Nat → Nat} {nb : Nat} {sb : Int} {d Ld : Nat} {fd : Nat → Nat} {nd : Nat} {sd : Int} (hc : bg G w c Lc fc nc sc) (ha : bg G w a La fa na sa) (hb : bg G w b Lb fb nb sb) (hd : bg G w d Ld fd nd sd) (hca : c ≠ a) (hcb : c ≠ b) (hcd : c ≠ d) (hda : d ≠ a) (hdb : d ≠ b) (za : bnz fa na) (zb : bnz fb nb) (hn2 : 2 ≤ nb) (hle : nv 4294967296 fb nb ≤ nv 4294967296 fa na) (hLc : na ≤ Lc) (hLd : na + 2 ≤ Ld) : ze_C G l 3 0 0 M7_longOver [.ref c, .ref a, .ref b, .ref d] w (ze_qv (fun w' => bfr2 w w' c d ∧ (∃ r, bg G w' c Lc r (na + 1 - nb) sc ∧ nv 4294967296 r (na + 1 - nb) = nv 4294967296 fa na / nv 4294967296 fb nb) ∧ bgz G w' d Ld (nv 4294967296 fa na % nv 4294967296 fb nb : Nat))) := by
  have x1 := bg_x hc ha
  have x2 := bg_x ha hc
  have x3 := bg_x hc hb
  have x4 := bg_x hb hc
  have x5 := bg_x hd ha
  have x6 := bg_x ha hd
  have x7 := bg_x hd hb
  have x8 := bg_x hb hd
  have x9 := bg_x hc hd
  have x10 := bg_x hd hc
  have aL := ha.2.2.2.1
  have bL := hb.2.2.2.1
  have cL := hc.2.2.2.1
  have dL := hd.2.2.2.1
  have an := ha.2.2.1
  have bn := hb.2.2.1
  have af := ha.2.2.2.2
  have bf := hb.2.2.2.2
  have cf := hc.2.2.2.2
  have df := hd.2.2.2.2
  have hnn : nb ≤ na := by
    rcases Nat.lt_or_ge na nb with h | h
    · have := nv_lt_many af zb h
      omega
    · exact h
  refine ze_enter (by decide +kernel) rfl ?_
  generalize hQ : (ze_Q G (ze_qv (fun w' => bfr2 w w' c d ∧ (∃ r, bg G w' c Lc r (na + 1 - nb) sc ∧ nv 4294967296 r (na + 1 - nb) = nv 4294967296 fa na / nv 4294967296 fb nb) ∧ bgz G w' d Ld (nv 4294967296 fa na % nv 4294967296 fb nb : Nat))) 0 0) = Z
  obtain ⟨A, hA⟩ : ∃ A, A = nv 4294967296 fa na := ⟨_, rfl⟩
  obtain ⟨Bv, hBv⟩ : ∃ Bv, Bv = nv 4294967296 fb nb := ⟨_, rfl⟩
  rw [← hA, ← hBv] at hQ
  obtain ⟨qn, hq⟩ : ∃ qn, qn = na + 1 - nb := ⟨_, rfl⟩
  rw [← hq] at hQ
  have hB0 : 0 < Bv := by rw [hBv]; exact bnz_pos zb (by omega)
  obtain ⟨k1, hk1⟩ : ∃ k1, nb = k1 + 2 := ⟨nb - 2, by omega⟩
  have hbt : 0 < fb (nb - 1) := by rcases zb with h | h <;> omega
  have main : ∀ (s m : Nat) (F S : Nat), s ≤ 31 → m ≤ Ld → F = lf fb nb s (nb - 1) → S = lf fb nb s (nb - 2) → 2147483648 ≤ F → nv 4294967296 (lf fb nb s) nb = Bv * 2 ^ s → ∀ (jj : Nat) (rc rd : Nat → Nat) (w1 : ze_W), jj ≤ qn → bfr2 w w1 c d → w1.2 c = some (ze_ob 7 [.ref (c + 1), ze_i (qn : Nat), ze_i sc]) → w1.2 (c + 1) = some (ze_ia G Lc (fun j => (rc j : Nat))) → (∀ j, rc j < 4294967296) → w1.2 d = some (ze_ob 7 [.ref (d + 1), ze_i (m : Nat), ze_i 1]) → w1.2 (d + 1) = some (ze_ia G Ld (fun j => (rd j : Nat))) → (∀ j, rd j < 4294967296) → nv 4294967296 rd (jj + nb) < nv 4294967296 (lf fb nb s) nb * 4294967296 ^ jj → nv 4294967296 rd (jj + nb) + nv 4294967296 (lf fb nb s) nb * (4294967296 ^ jj * nv 4294967296 (fun i => rc (jj + i)) (qn - jj)) = A * 2 ^ s → ze_V G l (ze_rm 3 0 0) M7_longOver Z 120 [(0, .ref c), (1, .ref a), (2, .ref b), (3, .ref d), (4, ze_i ((s : Nat))), (5, ze_i ((nb : Nat))), (6, ze_i ((m : Nat))), (7, ze_l ((F : Nat))), (9, ze_l ((S : Nat))), (11, ze_i ((qn : Nat))), (12, ze_i ((jj : Nat) - 1))] [] w1 0 0 := by
    intro s m F S hs hmL hF hS hF31 hVB jj
    have hF0 : 0 < F := by omega
    have lL := fun k => lf_lt (n := nb) (s := s) (k := k) bf hs
    have hFb : F < 4294967296 := by rw [hF]; exact lL _
    have hSb : S < 4294967296 := by rw [hS]; exact lL _
    obtain ⟨V, hV⟩ : ∃ V, V = nv 4294967296 (lf fb nb s) nb := ⟨_, rfl⟩
    rw [← hV] at hVB ⊢
    have hP0 : 0 < 2 ^ s := Nat.pow_pos (by decide)
    have hV0 : 0 < V := by rw [hVB]; exact Nat.mul_pos hB0 hP0
    have hVP : V < 4294967296 ^ nb := by rw [hV]; exact nv_lt (fun k _ => lL k)
    induction jj with
    | zero =>
      intro rc rd w1 hjj fr ca cb cf1 da db df1 hlt hsum
      have ha1 := bg_fr2 fr hc hd ha hca hda
      have hb1 := bg_fr2 fr hc hd hb hcb hdb
      obtain ⟨aa, ab, -, -, -⟩ := id ha1
      obtain ⟨ba, bb, -, -, -⟩ := id hb1
      rw [← hQ]
      refine ze_iload dX7_longOver_120 rfl ?_
      refine ze_if_lt 278 dX7_longOver_122 (by decide) (by omega) (fun q => ?_) (fun q => ?_)
      · refine ze_aload_n dX7_longOver_278 rfl ?_
        refine ze_iload dX7_longOver_279 rfl ?_
        refine ze_putfW (fs' := [.ref (d + 1), ze_i ((nb : Nat)), ze_i (1)]) dX7_longOver_281 fl_X7_13 (Or.inl rfl) da rfl rfl (Nat.le_of_ble_eq_true rfl) rfl (fun w1 z1 c1 o1 => ?_)
        have h1_0 := (o1 c (by omega)).trans ca
        have h1_1 := (o1 (c + 1) (by omega)).trans cb
        have h1_3 := (o1 (d + 1) (by omega)).trans db
        have h1_4 := (o1 a (by omega)).trans aa
        have h1_5 := (o1 (a + 1) (by omega)).trans ab
        have h1_6 := (o1 b (by omega)).trans ba
        have h1_7 := (o1 (b + 1) (by omega)).trans bb
        refine ze_aload_n dX7_longOver_284 rfl ?_
        refine ze_callV (As := []) (rest := []) dX7_longOver_285 (C7_trim (a := d) (f := rd) (n := nb) (L := Ld) (sg := 1) ⟨c1, h1_3, by omega, dL, df1⟩) mo7_trim ml_X7_26 in_7_trim se_7_trim c1 rfl rfl rfl rfl rfl ⟨Nat.le_refl _, Nat.le_refl _⟩ rfl (Nat.le_of_ble_eq_true rfl) ?_
        rintro _ w' ⟨rfl, n', hn', hnz, hz, fr2, hb2⟩
        obtain ⟨ga2, gb2, -, -, -⟩ := id hb2
        have ca2 := (fr2.2 c (by omega) (by omega)).trans h1_0
        have cb2 := (fr2.2 (c + 1) (by omega) (by omega)).trans h1_1
        change ze_V G l (ze_rm 3 0 0) M7_longOver _ 288 [(0, .ref c), (1, .ref a), (2, .ref b), (3, .ref d), (4, ze_i ((s : Nat))), (5, ze_i ((nb : Nat))), (6, ze_i ((m : Nat))), (7, ze_l ((F : Nat))), (9, ze_l ((S : Nat))), (11, ze_i ((qn : Nat))), (12, ze_i (((0 : Nat)) - 1))] [] w' 0 0
        refine ze_aload_n dX7_longOver_288 rfl ?_
        refine ze_aload_n dX7_longOver_289 rfl ?_
        refine ze_getf dX7_longOver_290 fl_X7_13 ga2 rfl ?_
        have hRn : nv 4294967296 rd n' = nv 4294967296 rd nb := by
          obtain ⟨dd, hdd⟩ := Nat.exists_eq_add_of_le hn'
          rw [hdd]
          exact (nv_ext dd (fun j h1 h2 => hz j h1 (by omega))).symm
        rw [Nat.zero_add, Nat.pow_zero, Nat.one_mul] at hsum
        rw [Nat.zero_add, Nat.pow_zero, Nat.mul_one] at hlt
        have e0 : nv 4294967296 (fun i => rc (0 + i)) (qn - 0) = nv 4294967296 rc qn := nv_congr (fun i _ => by rw [Nat.zero_add])
        rw [e0] at hsum
        obtain ⟨e1, e2⟩ := kd_end hP0 hB0 hVB hlt hsum
        have fr3 : bfr2 w w' c d := ⟨fr2.1.trans (z1.trans fr.1), fun x p1 p2 p3 p4 => (fr2.2 x p3 p4).trans ((o1 x p3).trans (fr.2 x p1 p2 p3 p4))⟩
        refine ze_if_ne 300 dX7_longOver_293 (by decide) (by omega) (fun q1 => ?_) (fun q1 => ?_)
        · refine ze_iconst dX7_longOver_300 ?_
          refine ze_putfW (fs' := [.ref (d + 1), ze_i ((n' : Nat)), ze_i (1)]) dX7_longOver_301 fl_X7_17 (Or.inl rfl) ga2 rfl rfl (Nat.le_of_ble_eq_true rfl) rfl (fun w2 z2 c2 o2 => ?_)
          have h2_1 := (o2 (d + 1) (by omega)).trans gb2
          have h2_2 := (o2 c (by omega)).trans ca2
          have h2_3 := (o2 (c + 1) (by omega)).trans cb2
          refine ze_aload_n dX7_longOver_304 rfl ?_
          refine ze_iload dX7_longOver_305 rfl ?_
          refine ze_callV (As := [ze_i ((s : Nat))]) (rest := []) dX7_longOver_307 (C7_down (a := d) (f := rd) (n := n') (L := Ld) (sg := 1) (s := s) ⟨c2, h2_1, hb2.2.2.1, dL, df1⟩ (Or.inr ⟨by omega, Or.inl rfl⟩) hs) mo7_down ml_X7_104 in_7_down se_7_down c2 rfl rfl rfl rfl rfl ⟨Nat.le_refl _, Nat.le_refl _⟩ rfl (Nat.le_of_ble_eq_true rfl) ?_
          rintro _ w3 ⟨rfl, fr4, hz4⟩
          change ze_V G l (ze_rm 3 0 0) M7_longOver _ 310 [(0, .ref c), (1, .ref a), (2, .ref b), (3, .ref d), (4, ze_i ((s : Nat))), (5, ze_i ((nb : Nat))), (6, ze_i ((m : Nat))), (7, ze_l ((F : Nat))), (9, ze_l ((S : Nat))), (11, ze_i ((qn : Nat))), (12, ze_i (((0 : Nat)) - 1))] [] w3 0 0
          refine ze_return rfl dX7_longOver_310 ⟨rfl, ⟨fr4.1.trans (z2.trans fr3.1), fun x p1 p2 p3 p4 => (fr4.2 x p3 p4).trans ((o2 x p3).trans (fr3.2 x p1 p2 p3 p4))⟩, ⟨rc, ⟨(fr4.2 c (by omega) (by omega)).trans h2_2, (fr4.2 (c + 1) (by omega) (by omega)).trans h2_3, by omega, cL, cf1⟩, e1⟩, ?_⟩ rfl rfl
          rw [hRn, e2] at hz4
          rw [Int.one_mul] at hz4
          exact hz4
        · refine ze_iconst dX7_longOver_296 ?_
          refine ze_goto 301 dX7_longOver_297 (by decide) ?_
          refine ze_putfW (fs' := [.ref (d + 1), ze_i ((n' : Nat)), ze_i (0)]) dX7_longOver_301 fl_X7_17 (Or.inl rfl) ga2 rfl rfl (Nat.le_of_ble_eq_true rfl) rfl (fun w2 z2 c2 o2 => ?_)
          have h2_1 := (o2 (d + 1) (by omega)).trans gb2
          have h2_2 := (o2 c (by omega)).trans ca2
          have h2_3 := (o2 (c + 1) (by omega)).trans cb2
          refine ze_aload_n dX7_longOver_304 rfl ?_
          refine ze_iload dX7_longOver_305 rfl ?_
          refine ze_callV (As := [ze_i ((s : Nat))]) (rest := []) dX7_longOver_307 (C7_down (a := d) (f := rd) (n := n') (L := Ld) (sg := 0) (s := s) ⟨c2, h2_1, hb2.2.2.1, dL, df1⟩ (Or.inl ⟨by omega, rfl⟩) hs) mo7_down ml_X7_104 in_7_down se_7_down c2 rfl rfl rfl rfl rfl ⟨Nat.le_refl _, Nat.le_refl _⟩ rfl (Nat.le_of_ble_eq_true rfl) ?_
          rintro _ w3 ⟨rfl, fr4, hz4⟩
          change ze_V G l (ze_rm 3 0 0) M7_longOver _ 310 [(0, .ref c), (1, .ref a), (2, .ref b), (3, .ref d), (4, ze_i ((s : Nat))), (5, ze_i ((nb : Nat))), (6, ze_i ((m : Nat))), (7, ze_l ((F : Nat))), (9, ze_l ((S : Nat))), (11, ze_i ((qn : Nat))), (12, ze_i (((0 : Nat)) - 1))] [] w3 0 0
          refine ze_return rfl dX7_longOver_310 ⟨rfl, ⟨fr4.1.trans (z2.trans fr3.1), fun x p1 p2 p3 p4 => (fr4.2 x p3 p4).trans ((o2 x p3).trans (fr3.2 x p1 p2 p3 p4))⟩, ⟨rc, ⟨(fr4.2 c (by omega) (by omega)).trans h2_2, (fr4.2 (c + 1) (by omega) (by omega)).trans h2_3, by omega, cL, cf1⟩, e1⟩, ?_⟩ rfl rfl
          rw [hRn, e2] at hz4
          have hn0 : n' = 0 := by omega
          rw [hn0] at hRn
          have hR0 : nv 4294967296 rd nb = 0 := hRn.symm
          rw [hR0, Nat.zero_div] at e2
          rw [← e2] at hz4 ⊢
          exact hz4
      · omega
    | succ j ih =>
      intro rc rd w1 hjj fr ca cb cf1 da db df1 hlt hsum
      have ha1 := bg_fr2 fr hc hd ha hca hda
      have hb1 := bg_fr2 fr hc hd hb hcb hdb
      obtain ⟨aa, ab, -, -, -⟩ := id ha1
      obtain ⟨ba, bb, -, -, -⟩ := id hb1
      obtain ⟨U, hU⟩ : ∃ U, U = nv 4294967296 (fun i => rd (j + i)) (nb + 1) := ⟨_, rfl⟩
      have hsp : nv 4294967296 rd (j + 1 + nb) = nv 4294967296 rd j + 4294967296 ^ j * U := by
        rw [show j + 1 + nb = j + (nb + 1) by omega, nv_split, ← hU]
      have hrj : nv 4294967296 rd j < 4294967296 ^ j := nv_lt (fun i _ => df1 i)
      have hUV : U < V * 4294967296 := by
        rw [hsp, Nat.pow_succ, Nat.mul_comm (4294967296 ^ j) 4294967296, ← Nat.mul_assoc] at hlt
        have : U * 4294967296 ^ j < V * 4294967296 * 4294967296 ^ j := by rw [Nat.mul_comm U]; omega
        exact Nat.lt_of_mul_lt_mul_right this
      obtain ⟨X1, hX1⟩ : ∃ X1, X1 = rd (j + nb) := ⟨_, rfl⟩
      obtain ⟨X2, hX2⟩ : ∃ X2, X2 = rd (j + nb - 1) := ⟨_, rfl⟩
      obtain ⟨X3, hX3⟩ : ∃ X3, X3 = rd (j + nb - 2) := ⟨_, rfl⟩
      have hX1b : X1 < 4294967296 := by rw [hX1]; exact df1 _
      have hX2b : X2 < 4294967296 := by rw [hX2]; exact df1 _
      have hX3b : X3 < 4294967296 := by rw [hX3]; exact df1 _
      obtain ⟨up, hup⟩ : ∃ up, up = X1 * 4294967296 + X2 := ⟨_, rfl⟩
      obtain ⟨D, hD⟩ : ∃ D, D = 4294967296 ^ k1 := ⟨_, rfl⟩
      have hD0 : 0 < D := by rw [hD]; exact Nat.pow_pos (by decide)
      obtain ⟨v0, hv0, hVe⟩ : ∃ v0, v0 < D ∧ V = (F * 4294967296 + S) * D + v0 := by
        refine ⟨nv 4294967296 (lf fb nb s) k1, by rw [hD]; exact nv_lt (fun k _ => lL k), ?_⟩
        rw [hV, hF, hS, show nb - 1 = k1 + 1 by omega, show nb - 2 = k1 by omega]
        have : nv 4294967296 (lf fb nb s) nb = nv 4294967296 (lf fb nb s) (k1 + 1 + 1) := by rw [hk1]
        rw [this, nv_s, nv_s, hD, Nat.pow_succ, Nat.add_mul, Nat.mul_comm (4294967296 ^ k1) 4294967296, ← Nat.mul_assoc]
        omega
      obtain ⟨u0, hu0, hUe⟩ : ∃ u0, u0 < D ∧ U = (up * 4294967296 + X3) * D + u0 := by
        refine ⟨nv 4294967296 (fun i => rd (j + i)) k1, by rw [hD]; exact nv_lt (fun k _ => df1 _), ?_⟩
        have : U = nv 4294967296 (fun i => rd (j + i)) (k1 + 1 + 1 + 1) := by rw [hU, hk1]
        rw [this, nv_s, nv_s, nv_s, hup, hX1, hX2, hX3, show j + nb = j + (k1 + 1 + 1) by omega, show j + (k1 + 1 + 1) - 1 = j + (k1 + 1) by omega, show j + (k1 + 1 + 1) - 2 = j + k1 by omega, hD, Nat.pow_succ, Nat.pow_succ]
        exact kd_three
      obtain ⟨qd, hqd, hqB, kinit, kdec, kexit, ktop⟩ := kd_pack hF0 hSb hD0 hV0 hVe hv0 hUe hu0 hX3b hUV
      have t251 : ∀ g lt : Nat, g < 4294967296 → qd ≤ g → g ≤ qd + 1 → ze_V G l (ze_rm 3 0 0) M7_longOver Z 251 [(0, .ref c), (1, .ref a), (2, .ref b), (3, .ref d), (4, ze_i ((s : Nat))), (5, ze_i ((nb : Nat))), (6, ze_i ((m : Nat))), (7, ze_l ((F : Nat))), (9, ze_l ((S : Nat))), (11, ze_i ((qn : Nat))), (12, ze_i ((j : Nat))), (13, ze_l ((up : Nat))), (15, ze_l ((g : Nat))), (17, ze_l ((lt : Nat)))] [] w1 0 0 := by
        intro g lt hgB hg1 hg2
        refine ze_aload_n dX7_longOver_251 rfl ?_
        refine ze_getf dX7_longOver_252 fl_X7_7 ca rfl ?_
        refine ze_iload dX7_longOver_255 rfl ?_
        refine ze_aload_n dX7_longOver_257 rfl ?_
        refine ze_aload_n dX7_longOver_258 rfl ?_
        refine ze_iload dX7_longOver_259 rfl ?_
        refine ze_iload dX7_longOver_261 rfl ?_
        refine ze_iload dX7_longOver_263 rfl ?_
        refine ze_lload dX7_longOver_265 rfl ?_
        refine ze_callS (As := [.ref d, .ref b, ze_i ((j : Nat)), ze_i ((nb : Nat)), ze_i ((s : Nat)), ze_l ((g : Nat))]) (rest := [ze_i ((j : Nat)), .ref (c + 1)]) dX7_longOver_267 (C7_takeAway (c := d) (b := b) (j := j) (s := s) (g := g) (fc := rd) (nc := m) (sc := 1) (Lc := Ld) ⟨da, db, hmL, dL, df1⟩ hb1 (by omega) hs (by omega) (by rw [← hV]; exact hV0) hgB (by rw [← hV, ← hU, hqd ()]; exact hg1) (by rw [← hV, ← hU, hqd ()]; exact hg2)) mo7_takeAway ml_X7_100 st_7_takeAway rfl rfl rfl ⟨Nat.le_refl _, Nat.le_refl _⟩ rfl (Nat.le_of_ble_eq_true rfl) ?_
        rintro _ w' ⟨r', rfl, rfl, fr2, rd', hd2, hrd, hnv⟩
        rw [← hV, ← hU, hqd ()]
        rw [← hV, ← hU] at hnv
        obtain ⟨da2, db2, -, -, df2⟩ := hd2
        have ca2 := (fr2.2 c (by omega) (by omega)).trans ca
        have cb2 := (fr2.2 (c + 1) (by omega) (by omega)).trans cb
        change ze_V G l (ze_rm 3 0 0) M7_longOver _ 270 [(0, .ref c), (1, .ref a), (2, .ref b), (3, .ref d), (4, ze_i ((s : Nat))), (5, ze_i ((nb : Nat))), (6, ze_i ((m : Nat))), (7, ze_l ((F : Nat))), (9, ze_l ((S : Nat))), (11, ze_i ((qn : Nat))), (12, ze_i ((j : Nat))), (13, ze_l ((up : Nat))), (15, ze_l ((g : Nat))), (17, ze_l ((lt : Nat)))] [ze_l ((qd : Nat)), ze_i ((j : Nat)), .ref (c + 1)] w' 0 0
        refine ze_l2i dX7_longOver_270 ?_
        refine ze_iastM (j := j) (y := ((qd : Nat))) (f' := fun i => ((va_up rc j qd i : Nat) : Int)) dX7_longOver_271 cb2 (by omega) (by omega) (by omega) rfl (ze_vu _ _ _) (fun w1 z1 c1 o1 => ?_)
        have h1_0 := (o1 d (by omega)).trans da2
        have h1_1 := (o1 (d + 1) (by omega)).trans db2
        have h1_2 := (o1 c (by omega)).trans ca2
        refine ze_iinc (b := (j : Nat) - 1) (lv' := [(0, .ref c), (1, .ref a), (2, .ref b), (3, .ref d), (4, ze_i ((s : Nat))), (5, ze_i ((nb : Nat))), (6, ze_i ((m : Nat))), (7, ze_l ((F : Nat))), (9, ze_l ((S : Nat))), (11, ze_i ((qn : Nat))), (12, ze_i ((j : Nat) - 1)), (13, ze_l ((up : Nat))), (15, ze_l ((g : Nat))), (17, ze_l ((lt : Nat)))]) dX7_longOver_272 rfl rfl (by omega) rfl ?_
        refine ze_goto 120 dX7_longOver_275 (by decide) ?_
        refine ze_lv (lv' := [(0, .ref c), (1, .ref a), (2, .ref b), (3, .ref d), (4, ze_i ((s : Nat))), (5, ze_i ((nb : Nat))), (6, ze_i ((m : Nat))), (7, ze_l ((F : Nat))), (9, ze_l ((S : Nat))), (11, ze_i ((qn : Nat))), (12, ze_i ((j : Nat) - 1))]) [0, 1, 2, 3, 4, 5, 6, 7, 8, 9, 10] rfl ?_
        have hm : U % V < V := Nat.mod_lt _ hV0
        have htop : rd' (j + nb) = 0 := by
          rcases Nat.eq_zero_or_pos (rd' (j + nb)) with h | h
          · exact h
          · have h1 := nv_ge (B := 4294967296) (f := fun i => rd' (j + i)) (n := nb) (by show rd' (j + nb) ≠ 0; omega)
            rw [hnv] at h1
            omega
        have hnv2 : nv 4294967296 rd' (j + nb) = nv 4294967296 rd j + 4294967296 ^ j * (U % V) := by
          rw [nv_split, ← hnv, nv_s (n := nb), htop, Nat.zero_mul, Nat.add_zero]
          congr 1
          exact nv_congr (fun i hi => hrd i (by omega))
        refine ih (va_up rc j qd) rd' _ (by omega) ⟨z1.trans (fr2.1.trans fr.1), fun x p1 p2 p3 p4 => (o1 x p2).trans ((fr2.2 x p3 p4).trans (fr.2 x p1 p2 p3 p4))⟩ h1_2 c1 (up_lt cf1 hqB) h1_0 h1_1 df2 ?_ ?_
        · rw [hnv2]
          have h1 : 4294967296 ^ j * (U % V + 1) ≤ 4294967296 ^ j * V := Nat.mul_le_mul_left _ hm
          rw [Nat.mul_add, Nat.mul_one] at h1
          rw [Nat.mul_comm V]
          omega
        · rw [hnv2, ← hsum, hsp, show qn - j = (qn - (j + 1)) + 1 by omega, nv_cons, va_up_self]
          have e1 : nv 4294967296 (fun i => va_up rc j qd (j + 1 + i)) (qn - (j + 1)) = nv 4294967296 (fun i => rc (j + 1 + i)) (qn - (j + 1)) := nv_congr (fun i _ => va_up_ne _ _ (by omega))
          rw [e1]
          generalize nv 4294967296 (fun i => rc (j + 1 + i)) (qn - (j + 1)) = N at *
          have e2 : 4294967296 ^ j * U = 4294967296 ^ j * (U % V) + V * (4294967296 ^ j * qd) := by
            rw [← hqd (), Nat.mul_left_comm, ← Nat.mul_add, Nat.add_comm, Nat.div_add_mod]
          rw [Nat.pow_succ, Nat.mul_add (4294967296 ^ j), Nat.mul_add V, e2, ← Nat.mul_assoc (4294967296 ^ j) 4294967296 N]
          omega
      rw [show ((j + 1 : Nat) : Int) - 1 = (j : Nat) by omega]
      change ze_V G l (ze_rm 3 0 0) M7_longOver Z 120 [(0, .ref c), (1, .ref a), (2, .ref b), (3, .ref d), (4, ze_i ((s : Nat))), (5, ze_i ((nb : Nat))), (6, ze_i ((m : Nat))), (7, ze_l ((F : Nat))), (9, ze_l ((S : Nat))), (11, ze_i ((qn : Nat))), (12, ze_i ((j : Nat)))] [] w1 0 0
      refine ze_iload dX7_longOver_120 rfl ?_
      refine ze_if_lt 278 dX7_longOver_122 (by decide) (by omega) (fun q => ?_) (fun q => ?_)
      · omega
      · refine ze_aload_n dX7_longOver_125 rfl ?_
        refine ze_getf dX7_longOver_126 fl_X7_7 da rfl ?_
        refine ze_iload dX7_longOver_129 rfl ?_
        refine ze_iload dX7_longOver_131 rfl ?_
        refine ze_iadd dX7_longOver_133 ?_
        refine ze_iald (j := j + nb) dX7_longOver_134 db (by omega) (by omega) (by omega) ?_
        rw [← hX1]
        refine ze_msk dX7_longOver_135 dX7_longOver_136 dX7_longOver_139 ct_X7_29 (by omega) ?_
        refine ze_bipush dX7_longOver_140 (by decide) ?_
        refine ze_lshl (z := (X1 : Nat) * 4294967296) dX7_longOver_142 ze_s32 ?_
        refine ze_aload_n dX7_longOver_143 rfl ?_
        refine ze_getf dX7_longOver_144 fl_X7_7 da rfl ?_
        refine ze_iload dX7_longOver_147 rfl ?_
        refine ze_iload dX7_longOver_149 rfl ?_
        refine ze_iadd dX7_longOver_151 ?_
        refine ze_iconst dX7_longOver_152 ?_
        refine ze_isub dX7_longOver_153 ?_
        refine ze_iald (j := j + nb - 1) dX7_longOver_154 db (by omega) (by omega) (by omega) ?_
        rw [← hX2]
        refine ze_msk dX7_longOver_155 dX7_longOver_156 dX7_longOver_159 ct_X7_29 (by omega) ?_
        refine ze_lor (z := (X1 : Nat) * 4294967296 + (X2 : Nat)) dX7_longOver_160 (ze_o32 (by omega) (by omega)) ?_
        refine ze_tl (b := (up : Nat)) (by omega) ?_
        refine ze_lstore (lv' := [(0, .ref c), (1, .ref a), (2, .ref b), (3, .ref d), (4, ze_i ((s : Nat))), (5, ze_i ((nb : Nat))), (6, ze_i ((m : Nat))), (7, ze_l ((F : Nat))), (9, ze_l ((S : Nat))), (11, ze_i ((qn : Nat))), (12, ze_i ((j : Nat))), (13, ze_l ((up : Nat)))]) dX7_longOver_161 rfl rfl ?_
        refine ze_lload dX7_longOver_163 rfl ?_
        refine ze_lload dX7_longOver_165 rfl ?_
        refine ze_callS (As := [ze_l ((up : Nat)), ze_l ((F : Nat))]) (rest := []) dX7_longOver_167 (CJ_divu (x := (up : Nat)) (y := (F : Nat)) (by omega) (by omega)) moJ13_divideUnsigned ml_X7_72 st_J13_divideUnsigned rfl rfl rfl ⟨Nat.le_refl _, Nat.le_refl _⟩ rfl (Nat.le_of_ble_eq_true rfl) ?_
        rintro _ w' ⟨r', rfl, rfl, rfl⟩
        change ze_V G l (ze_rm 3 0 0) M7_longOver _ 170 [(0, .ref c), (1, .ref a), (2, .ref b), (3, .ref d), (4, ze_i ((s : Nat))), (5, ze_i ((nb : Nat))), (6, ze_i ((m : Nat))), (7, ze_l ((F : Nat))), (9, ze_l ((S : Nat))), (11, ze_i ((qn : Nat))), (12, ze_i ((j : Nat))), (13, ze_l ((up : Nat)))] [ze_l (((up : Nat)) / ((F : Nat)))] w' 0 0
        refine ze_tl (b := ((up / F : Nat))) (Int.natCast_ediv _ _).symm ?_
        refine ze_lstore (lv' := [(0, .ref c), (1, .ref a), (2, .ref b), (3, .ref d), (4, ze_i ((s : Nat))), (5, ze_i ((nb : Nat))), (6, ze_i ((m : Nat))), (7, ze_l ((F : Nat))), (9, ze_l ((S : Nat))), (11, ze_i ((qn : Nat))), (12, ze_i ((j : Nat))), (13, ze_l ((up : Nat))), (15, ze_l (((up / F : Nat))))]) dX7_longOver_170 rfl rfl ?_
        refine ze_lload dX7_longOver_172 rfl ?_
        refine ze_lload dX7_longOver_174 rfl ?_
        refine ze_callS (As := [ze_l ((up : Nat)), ze_l ((F : Nat))]) (rest := []) dX7_longOver_176 (CJ_remu (x := (up : Nat)) (y := (F : Nat)) (by omega) (by omega)) moJ13_remainderUnsigned ml_X7_78 st_J13_remainderUnsigned rfl rfl rfl ⟨Nat.le_refl _, Nat.le_refl _⟩ rfl (Nat.le_of_ble_eq_true rfl) ?_
        rintro _ w' ⟨r', rfl, rfl, rfl⟩
        change ze_V G l (ze_rm 3 0 0) M7_longOver _ 179 [(0, .ref c), (1, .ref a), (2, .ref b), (3, .ref d), (4, ze_i ((s : Nat))), (5, ze_i ((nb : Nat))), (6, ze_i ((m : Nat))), (7, ze_l ((F : Nat))), (9, ze_l ((S : Nat))), (11, ze_i ((qn : Nat))), (12, ze_i ((j : Nat))), (13, ze_l ((up : Nat))), (15, ze_l (((up / F : Nat))))] [ze_l (((up : Nat)) % ((F : Nat)))] w' 0 0
        refine ze_tl (b := ((up % F : Nat))) (Int.natCast_emod _ _).symm ?_
        refine ze_lstore (lv' := [(0, .ref c), (1, .ref a), (2, .ref b), (3, .ref d), (4, ze_i ((s : Nat))), (5, ze_i ((nb : Nat))), (6, ze_i ((m : Nat))), (7, ze_l ((F : Nat))), (9, ze_l ((S : Nat))), (11, ze_i ((qn : Nat))), (12, ze_i ((j : Nat))), (13, ze_l ((up : Nat))), (15, ze_l (((up / F : Nat)))), (17, ze_l (((up % F : Nat))))]) dX7_longOver_179 rfl rfl ?_
        exact lo_guess da db hX3.symm hX3b hFb hSb (by omega) hn2 dL hqB kdec kexit ktop t251 (up / F) (up % F) (hdq up F (by omega) hF31) (Nat.lt_trans (Nat.mod_lt _ hF0) (by omega)) (fun _ => by rw [Nat.mul_comm]; exact Nat.div_add_mod _ _) (kinit ())
  have zero : ∀ (s m : Nat), s ≤ 31 → m ≤ na + 1 → 2147483648 ≤ lf fb nb s (nb - 1) → nv 4294967296 (lf fb nb s) nb = Bv * 2 ^ s → ∀ (e k : Nat) (r : Nat → Nat) (w1 : ze_W), k + e = na + 2 → m ≤ k → bfr w w1 d → w1.2 d = some (ze_ob 7 [.ref (d + 1), ze_i (m : Nat), ze_i 1]) → w1.2 (d + 1) = some (ze_ia G Ld (fun j => (r j : Nat))) → (∀ j, r j < 4294967296) → nv 4294967296 r m = A * 2 ^ s → (∀ j, m ≤ j → j < k → r j = 0) → ze_V G l (ze_rm 3 0 0) M7_longOver Z 48 [(0, .ref c), (1, .ref a), (2, .ref b), (3, .ref d), (4, ze_i ((s : Nat))), (5, ze_i ((nb : Nat))), (6, ze_i ((m : Nat))), (7, ze_i ((k : Nat)))] [] w1 0 0 := by
    intro s m hs hm hF31 hVB e
    induction e with
    | zero =>
      intro k r w1 hk hmk fr da db df1 hv hz
      have hc1 := bg_fr fr hd hc (by omega)
      obtain ⟨ca, cb, -, -, -⟩ := id hc1
      have ha1 := bg_fr fr hd ha hda
      have hb1 := bg_fr fr hd hb hdb
      obtain ⟨aa, ab, -, -, -⟩ := id ha1
      obtain ⟨ba, bb, -, -, -⟩ := id hb1
      refine ze_iload dX7_longOver_48 rfl ?_
      refine ze_aload_n dX7_longOver_50 rfl ?_
      refine ze_getf dX7_longOver_51 fl_X7_13 aa rfl ?_
      refine ze_iconst dX7_longOver_54 ?_
      refine ze_iadd dX7_longOver_55 ?_
      refine ze_icmp_gt 73 dX7_longOver_56 (by decide) (by omega) (by omega) (fun q => ?_) (fun q => ?_)
      · refine ze_aload_n dX7_longOver_73 rfl ?_
        refine ze_iload dX7_longOver_74 rfl ?_
        refine ze_iconst dX7_longOver_76 ?_
        refine ze_isub dX7_longOver_77 ?_
        refine ze_ti (b := ((nb - 1 : Nat))) (by omega) ?_
        refine ze_iload dX7_longOver_78 rfl ?_
        refine ze_callS (As := [.ref b, ze_i (((nb - 1 : Nat))), ze_i ((s : Nat))]) (rest := []) dX7_longOver_80 (C7_lifted (k := nb - 1) hb1 (by omega) hs) mo7_lifted ml_X7_93 st_7_lifted rfl rfl rfl ⟨Nat.le_refl _, Nat.le_refl _⟩ rfl (Nat.le_of_ble_eq_true rfl) ?_
        rintro _ w' ⟨r', rfl, rfl, rfl⟩
        change ze_V G l (ze_rm 3 0 0) M7_longOver _ 83 [(0, .ref c), (1, .ref a), (2, .ref b), (3, .ref d), (4, ze_i ((s : Nat))), (5, ze_i ((nb : Nat))), (6, ze_i ((m : Nat))), (7, ze_i ((k : Nat)))] [ze_l ((lf fb nb s (nb - 1) : Nat))] w' 0 0
        refine ze_lstore (lv' := [(0, .ref c), (1, .ref a), (2, .ref b), (3, .ref d), (4, ze_i ((s : Nat))), (5, ze_i ((nb : Nat))), (6, ze_i ((m : Nat))), (7, ze_l ((lf fb nb s (nb - 1) : Nat)))]) dX7_longOver_83 rfl rfl ?_
        refine ze_aload_n dX7_longOver_85 rfl ?_
        refine ze_iload dX7_longOver_86 rfl ?_
        refine ze_iconst dX7_longOver_88 ?_
        refine ze_isub dX7_longOver_89 ?_
        refine ze_ti (b := ((nb - 2 : Nat))) (by omega) ?_
        refine ze_iload dX7_longOver_90 rfl ?_
        refine ze_callS (As := [.ref b, ze_i (((nb - 2 : Nat))), ze_i ((s : Nat))]) (rest := []) dX7_longOver_92 (C7_lifted (k := nb - 2) hb1 (by omega) hs) mo7_lifted ml_X7_93 st_7_lifted rfl rfl rfl ⟨Nat.le_refl _, Nat.le_refl _⟩ rfl (Nat.le_of_ble_eq_true rfl) ?_
        rintro _ w' ⟨r', rfl, rfl, rfl⟩
        change ze_V G l (ze_rm 3 0 0) M7_longOver _ 95 [(0, .ref c), (1, .ref a), (2, .ref b), (3, .ref d), (4, ze_i ((s : Nat))), (5, ze_i ((nb : Nat))), (6, ze_i ((m : Nat))), (7, ze_l ((lf fb nb s (nb - 1) : Nat)))] [ze_l ((lf fb nb s (nb - 2) : Nat))] w' 0 0
        refine ze_lstore (lv' := [(0, .ref c), (1, .ref a), (2, .ref b), (3, .ref d), (4, ze_i ((s : Nat))), (5, ze_i ((nb : Nat))), (6, ze_i ((m : Nat))), (7, ze_l ((lf fb nb s (nb - 1) : Nat))), (9, ze_l ((lf fb nb s (nb - 2) : Nat)))]) dX7_longOver_95 rfl rfl ?_
        refine ze_aload_n dX7_longOver_97 rfl ?_
        refine ze_getf dX7_longOver_98 fl_X7_13 aa rfl ?_
        refine ze_iconst dX7_longOver_101 ?_
        refine ze_iadd dX7_longOver_102 ?_
        refine ze_iload dX7_longOver_103 rfl ?_
        refine ze_isub dX7_longOver_105 ?_
        refine ze_ti (b := (qn : Nat)) (by omega) ?_
        refine ze_istore (lv' := [(0, .ref c), (1, .ref a), (2, .ref b), (3, .ref d), (4, ze_i ((s : Nat))), (5, ze_i ((nb : Nat))), (6, ze_i ((m : Nat))), (7, ze_l ((lf fb nb s (nb - 1) : Nat))), (9, ze_l ((lf fb nb s (nb - 2) : Nat))), (11, ze_i ((qn : Nat)))]) dX7_longOver_106 rfl rfl ?_
        refine ze_aload_n dX7_longOver_108 rfl ?_
        refine ze_iload dX7_longOver_109 rfl ?_
        refine ze_putfW (fs' := [.ref (c + 1), ze_i ((qn : Nat)), ze_i (sc)]) dX7_longOver_111 fl_X7_13 (Or.inl rfl) ca rfl rfl (Nat.le_of_ble_eq_true rfl) rfl (fun w1 z1 c1 o1 => ?_)
        have h1_1 := (o1 (c + 1) (by omega)).trans cb
        have h1_2 := (o1 d (by omega)).trans da
        have h1_3 := (o1 (d + 1) (by omega)).trans db
        have h1_4 := (o1 a (by omega)).trans aa
        have h1_5 := (o1 (a + 1) (by omega)).trans ab
        have h1_6 := (o1 b (by omega)).trans ba
        have h1_7 := (o1 (b + 1) (by omega)).trans bb
        refine ze_iload dX7_longOver_114 rfl ?_
        refine ze_iconst dX7_longOver_116 ?_
        refine ze_isub dX7_longOver_117 ?_
        refine ze_istore (lv' := [(0, .ref c), (1, .ref a), (2, .ref b), (3, .ref d), (4, ze_i ((s : Nat))), (5, ze_i ((nb : Nat))), (6, ze_i ((m : Nat))), (7, ze_l ((lf fb nb s (nb - 1) : Nat))), (9, ze_l ((lf fb nb s (nb - 2) : Nat))), (11, ze_i ((qn : Nat))), (12, ze_i ((qn : Nat) - 1))]) dX7_longOver_118 rfl rfl ?_
        refine main s m _ _ hs (by omega) rfl rfl hF31 hVB qn fc r _ (Nat.le_refl _) ⟨z1.trans fr.1, fun x p1 p2 p3 p4 => (o1 x p1).trans (fr.2 x p3 p4)⟩ c1 h1_1 cf h1_2 h1_3 df1 ?_ ?_
        all_goals
          have e1 : nv 4294967296 r (qn + nb) = A * 2 ^ s := by
            rw [← hv, show qn + nb = m + (qn + nb - m) by omega]
            exact nv_ext _ (fun j h1 h2 => hz j h1 (by omega))
          rw [e1]
        · rw [hVB, Nat.mul_right_comm]
          apply Nat.mul_lt_mul_of_pos_right _ (Nat.pow_pos (by decide))
          have h1 : A < 4294967296 ^ na := by rw [hA]; exact nv_lt (fun j _ => af j)
          have h2 : 4294967296 ^ (nb - 1) ≤ Bv := by
            have := nv_ge (B := 4294967296) (f := fb) (n := nb - 1) (by omega)
            rw [show nb - 1 + 1 = nb by omega, ← hBv] at this
            exact this
          have h3 : 4294967296 ^ (nb - 1) * 4294967296 ^ qn ≤ Bv * 4294967296 ^ qn := Nat.mul_le_mul_right _ h2
          rw [← Nat.pow_add, show nb - 1 + qn = na by omega] at h3
          omega
        · rw [Nat.sub_self]
          show _ + _ * (_ * 0) = _
          rw [Nat.mul_zero, Nat.mul_zero, Nat.add_zero]
      · omega
    | succ e ih =>
      intro k r w1 hk hmk fr da db df1 hv hz
      have ha1 := bg_fr fr hd ha hda
      obtain ⟨aa, ab, -, -, -⟩ := id ha1
      refine ze_iload dX7_longOver_48 rfl ?_
      refine ze_aload_n dX7_longOver_50 rfl ?_
      refine ze_getf dX7_longOver_51 fl_X7_13 aa rfl ?_
      refine ze_iconst dX7_longOver_54 ?_
      refine ze_iadd dX7_longOver_55 ?_
      refine ze_icmp_gt 73 dX7_longOver_56 (by decide) (by omega) (by omega) (fun q => ?_) (fun q => ?_)
      · omega
      · refine ze_aload_n dX7_longOver_59 rfl ?_
        refine ze_getf dX7_longOver_60 fl_X7_7 da rfl ?_
        refine ze_iload dX7_longOver_63 rfl ?_
        refine ze_iconst dX7_longOver_65 ?_
        refine ze_iastM (j := k) (y := ((0 : Nat) : Nat)) (f' := fun j => ((va_up r k 0 j : Nat) : Int)) dX7_longOver_66 db (by omega) (by omega) (by omega) rfl (ze_vu _ _ _) (fun w1 z1 c1 o1 => ?_)
        have h1_0 := (o1 d (by omega)).trans da
        have h1_2 := (o1 a (by omega)).trans aa
        have h1_3 := (o1 (a + 1) (by omega)).trans ab
        refine ze_iinc (b := ((k + 1 : Nat))) (lv' := [(0, .ref c), (1, .ref a), (2, .ref b), (3, .ref d), (4, ze_i ((s : Nat))), (5, ze_i ((nb : Nat))), (6, ze_i ((m : Nat))), (7, ze_i (((k + 1 : Nat))))]) dX7_longOver_67 rfl rfl (by omega) rfl ?_
        refine ze_goto 48 dX7_longOver_70 (by decide) ?_
        exact ih (k + 1) (va_up r k 0) _ (by omega) (by omega) ⟨z1.trans fr.1, fun x p q => (o1 x q).trans (fr.2 x p q)⟩ h1_0 c1 (up_lt df1 (by decide)) (by rw [nv_up hmk]; exact hv) (fun j h1 h2 => by
          by_cases h : j = k
          · rw [h, va_up_self]
          · rw [va_up_ne _ _ h]; exact hz j h1 (by omega))
  obtain ⟨aa, ab, -, -, -⟩ := id ha
  obtain ⟨ba, bb, -, -, -⟩ := id hb
  obtain ⟨da, db, -, -, -⟩ := id hd
  change ze_V G l (ze_rm 3 0 0) M7_longOver Z 0 [(0, .ref c), (1, .ref a), (2, .ref b), (3, .ref d)] [] w 0 0
  refine ze_aload_n dX7_longOver_0 rfl ?_
  refine ze_getf dX7_longOver_1 fl_X7_7 ba rfl ?_
  refine ze_aload_n dX7_longOver_4 rfl ?_
  refine ze_getf dX7_longOver_5 fl_X7_13 ba rfl ?_
  refine ze_iconst dX7_longOver_8 ?_
  refine ze_isub dX7_longOver_9 ?_
  refine ze_iald (j := nb - 1) dX7_longOver_10 bb (by omega) (by omega) (by omega) ?_
  refine ze_callS (As := [ze_i ((fb (nb - 1) : Nat))]) (rest := []) dX7_longOver_11 (CJ_nlz (bf _)) moJ6_numberOfLeadingZeros ml_X7_31 st_J6_numberOfLeadingZeros rfl rfl rfl ⟨Nat.le_refl _, Nat.le_refl _⟩ rfl (Nat.le_of_ble_eq_true rfl) ?_
  rintro _ w' ⟨r', rfl, ⟨s, rfl, hnl⟩, rfl⟩
  have hnl2 : s ≤ 31 ∧ 2 ^ (31 - s) ≤ fb (nb - 1) ∧ fb (nb - 1) < 2 ^ (32 - s) := by
    rcases hnl with ⟨h1, h2⟩ | ⟨h1, h2, h3, h4⟩
    · omega
    · exact ⟨h2, h3, h4⟩
  obtain ⟨hs, hs1, hs2⟩ := hnl2
  have hbt2 : bt fb nb (nb - 1) = fb (nb - 1) := by unfold bt; rw [if_pos (by omega)]
  have hF31 : 2147483648 ≤ lf fb nb s (nb - 1) := by
    have h1 : 2 ^ (31 - s) * 2 ^ s ≤ fb (nb - 1) * 2 ^ s := Nat.mul_le_mul_right _ hs1
    rw [← Nat.pow_add, show 31 - s + s = 31 by omega] at h1
    have h2 : fb (nb - 1) * 2 ^ s < 2 ^ (32 - s) * 2 ^ s := Nat.mul_lt_mul_of_pos_right hs2 (Nat.pow_pos (by decide))
    rw [← Nat.pow_add, show 32 - s + s = 32 by omega] at h2
    unfold lf
    rw [hbt2]
    generalize fb (nb - 1) * 2 ^ s = x at *
    omega
  have hVB : nv 4294967296 (lf fb nb s) nb = Bv * 2 ^ s := by
    have h := nv_lf (n := nb) (s := s) bf nb
    have h2 : fb (nb - 1) * 2 ^ s < 2 ^ (32 - s) * 2 ^ s := Nat.mul_lt_mul_of_pos_right hs2 (Nat.pow_pos (by decide))
    rw [← Nat.pow_add, show 32 - s + s = 32 by omega] at h2
    rw [if_neg (by omega), hbt2, Nat.div_eq_of_lt h2, Nat.zero_mul, Nat.add_zero, nv_bt (Nat.le_refl _), ← hBv] at h
    exact h
  change ze_V G l (ze_rm 3 0 0) M7_longOver _ 14 [(0, .ref c), (1, .ref a), (2, .ref b), (3, .ref d)] [ze_i ((s : Nat))] w' 0 0
  refine ze_istore (lv' := [(0, .ref c), (1, .ref a), (2, .ref b), (3, .ref d), (4, ze_i ((s : Nat)))]) dX7_longOver_14 rfl rfl ?_
  refine ze_aload_n dX7_longOver_16 rfl ?_
  refine ze_getf dX7_longOver_17 fl_X7_13 ba rfl ?_
  refine ze_istore (lv' := [(0, .ref c), (1, .ref a), (2, .ref b), (3, .ref d), (4, ze_i ((s : Nat))), (5, ze_i ((nb : Nat)))]) dX7_longOver_20 rfl rfl ?_
  refine ze_aload_n dX7_longOver_22 rfl ?_
  refine ze_aload_n dX7_longOver_23 rfl ?_
  refine ze_callV (As := [.ref a]) (rest := []) dX7_longOver_24 (C7_copy (a := d) (b := a) hd ha hda (by omega)) mo7_copy ml_X7_54 in_7_copy se_7_copy da rfl rfl rfl rfl rfl ⟨Nat.le_refl _, Nat.le_refl _⟩ rfl (Nat.le_of_ble_eq_true rfl) ?_
  rintro _ w1 ⟨rfl, fr1, hd1⟩
  obtain ⟨da1, db1, -, -, df1⟩ := id hd1
  change ze_V G l (ze_rm 3 0 0) M7_longOver _ 27 [(0, .ref c), (1, .ref a), (2, .ref b), (3, .ref d), (4, ze_i ((s : Nat))), (5, ze_i ((nb : Nat)))] [] w1 0 0
  refine ze_aload_n dX7_longOver_27 rfl ?_
  refine ze_iconst dX7_longOver_28 ?_
  refine ze_putfW (fs' := [.ref (d + 1), ze_i ((na : Nat)), ze_i (1)]) dX7_longOver_29 fl_X7_17 (Or.inl rfl) da1 rfl rfl (Nat.le_of_ble_eq_true rfl) rfl (fun w11 z11 c11 o11 => ?_)
  have h11_1 := (o11 (d + 1) (by omega)).trans db1
  refine ze_aload_n dX7_longOver_32 rfl ?_
  refine ze_iload dX7_longOver_33 rfl ?_
  refine ze_callV (As := [ze_i ((s : Nat))]) (rest := []) dX7_longOver_35 (C7_up (a := d) (s := s) (L := Ld) (n := na) (f := fun q => if q < na then fa q else fd q) ⟨c11, h11_1, by omega, dL, df1⟩ (by rcases za with h | h; (left; exact h); (right; show (if na - 1 < na then fa (na - 1) else fd (na - 1)) ≠ 0; rw [if_pos (by omega)]; exact h)) (by omega) (by omega) hs) mo7_up ml_X7_89 in_7_up se_7_up c11 rfl rfl rfl rfl rfl ⟨Nat.le_refl _, Nat.le_refl _⟩ rfl (Nat.le_of_ble_eq_true rfl) ?_
  rintro _ w2 ⟨rfl, r, m, hm, fr2, hd2, hv2⟩
  obtain ⟨da2, db2, -, -, df2⟩ := id hd2
  have hv3 : nv 4294967296 r m = A * 2 ^ s := by
    rw [hv2, hA]
    congr 1
    exact nv_congr (fun j hj => if_pos hj)
  change ze_V G l (ze_rm 3 0 0) M7_longOver _ 38 [(0, .ref c), (1, .ref a), (2, .ref b), (3, .ref d), (4, ze_i ((s : Nat))), (5, ze_i ((nb : Nat)))] [] w2 0 0
  refine ze_aload_n dX7_longOver_38 rfl ?_
  refine ze_getf dX7_longOver_39 fl_X7_13 da2 rfl ?_
  refine ze_istore (lv' := [(0, .ref c), (1, .ref a), (2, .ref b), (3, .ref d), (4, ze_i ((s : Nat))), (5, ze_i ((nb : Nat))), (6, ze_i ((m : Nat)))]) dX7_longOver_42 rfl rfl ?_
  refine ze_iload dX7_longOver_44 rfl ?_
  refine ze_istore (lv' := [(0, .ref c), (1, .ref a), (2, .ref b), (3, .ref d), (4, ze_i ((s : Nat))), (5, ze_i ((nb : Nat))), (6, ze_i ((m : Nat))), (7, ze_i ((m : Nat)))]) dX7_longOver_46 rfl rfl ?_
  exact zero s m hs hm hF31 hVB (na + 2 - m) m r _ (by omega) (Nat.le_refl _) ⟨fr2.1.trans (z11.trans fr1.1), fun x p q => (fr2.2 x p q).trans ((o11 x p).trans (fr1.2 x p q))⟩ da2 db2 df2 hv3 (fun j h1 h2 => by omega)
