/-! the reference: is a row free of the rows kept -/
theorem tri_16 {fr : Nat → Nat → Int} {ow : Nat → Nat} {g : Nat} (h : tri fr ow g) : g ≤ 16 := by
  rcases Nat.lt_or_ge 16 g with h1 | h1
  · exfalso
    obtain ⟨i, j, h2, h3, h4⟩ := php ow h1 (fun i hi => (h i hi).1)
    have h5 := (h j h3).2.2 i h2
    rw [h4] at h5
    exact (h j h3).2.1 h5
  · exact h1
/-- the new row by the first f rows and the rest -/
def rpn (u : Nat → Nat) (fr : Nat → Nat → Int) (z : Nat → Int) (f : Nat) : Prop := ∃ (N c : Int) (b : Nat → Int), N ≠ 0 ∧ c ≠ 0 ∧ ∀ k, k < 16 → N * (u k : Nat) = sz f (fun j => b j * fr j k) + c * z k
theorem rpn_skip {u : Nat → Nat} {fr : Nat → Nat → Int} {z : Nat → Int} {f : Nat} (h : rpn u fr z f) : rpn u fr z (f + 1) := by
  obtain ⟨N, c, b, h1, h2, h3⟩ := h
  refine ⟨N, c, fun j => if j < f then b j else 0, h1, h2, fun k hk => ?_⟩
  rw [h3 k hk, sz_s]
  dsimp only
  rw [if_neg (Nat.lt_irrefl f), Int.zero_mul, Int.add_zero]
  congr 1
  exact sz_congr (fun j hj => by rw [if_pos hj])
theorem rpn_take {u : Nat → Nat} {fr : Nat → Nat → Int} {z z' : Nat → Int} {f g : Nat} {A B : Int} (h : rpn u fr z f) (hA : A ≠ 0) (hg : 0 < g) (hz : ∀ k, k < 16 → z k * A - fr f k * B = ((g : Nat) : Int) * z' k) : rpn u fr z' (f + 1) := by
  obtain ⟨N, c, b, h1, h2, h3⟩ := h
  refine ⟨A * N, c * ((g : Nat) : Int), fun j => if j < f then A * b j else c * B, Int.mul_ne_zero hA h1, Int.mul_ne_zero h2 (by omega), fun k hk => ?_⟩
  have e1 : sz (f + 1) (fun j => (if j < f then A * b j else c * B) * fr j k) = A * sz f (fun j => b j * fr j k) + c * B * fr f k := by
    rw [sz_s, if_neg (Nat.lt_irrefl f), ← sz_mul]
    congr 1
    exact sz_congr (fun j hj => by rw [if_pos hj, Int.mul_assoc])
  have e2 := hz k hk
  rw [Int.mul_assoc A N, h3 k hk, e1, Int.mul_add, Int.mul_assoc c ((g : Nat) : Int), ← e2, Int.mul_sub]
  have e3 : A * (c * z k) = c * (z k * A) := by rw [Int.mul_left_comm, Int.mul_comm A]
  have e4 : c * B * fr f k = c * (fr f k * B) := by rw [Int.mul_assoc, Int.mul_comm B]
  rw [e3, e4]
  omega
/-- the rows that are kept, and their echelon -/
def fre (ar : Nat → Nat → Int) (bz : Nat → Int) (wv : Nat → Nat → Nat) (fr : Nat → Nat → Int) (ow : Nat → Nat) (q : Nat) : Prop := (∀ f, f < q → ar 20 f = (ow f : Nat)) ∧ (∀ f k, f < q → k < 16 → bz (21732 + 2 * (f * 16 + k)) = fr f k ∧ fit (fr f k) 170) ∧ tri fr ow q ∧ ∀ i, i < q → rep (fun i k => (wv i k : Nat)) fr i
theorem v_pow {f V : Nat} (hf : f + 1 ≤ 16) (hV0 : 1 ≤ V) (hV : V ≤ 10 ^ 100) : ((f + 1) * V) ^ (f + 1) < 4294967296 ^ 170 := by
  have h1 : (f + 1) * V ≤ 16 * 10 ^ 100 := Nat.mul_le_mul hf hV
  have h2 : ((f + 1) * V) ^ (f + 1) ≤ (16 * 10 ^ 100) ^ (f + 1) := Nat.pow_le_pow_left h1 _
  have h3 : (16 * 10 ^ 100) ^ (f + 1) ≤ (16 * 10 ^ 100) ^ 16 := Nat.pow_le_pow_right (by decide) hf
  exact Nat.lt_of_le_of_lt (Nat.le_trans h2 h3) (by decide +kernel)
/-- the rest of the new row, once it is shortened, is small -/
theorem rest_fit {wv : Nat → Nat → Nat} {fr : Nat → Nat → Int} {ow : Nat → Nat} {z : Nat → Int} {q f V : Nat} (hV0 : 1 ≤ V) (hV : V ≤ 10 ^ 100) (hb : ∀ i k, i ≤ q → k < 16 → wv i k ≤ V) (hfq : f ≤ q) (ht : tri fr ow f) (hr : ∀ i, i < f → rep (fun i k => (wv i k : Nat)) fr i) (hn : rpn (wv q) fr z f) (hz : ∀ j, j < f → z (ow j) = 0) (hg : gz z 16 = 0 ∨ gz z 16 = 1) : ∀ k, k < 16 → fit (z k) 170 := by
  intro k hk
  rcases hg with hg | hg
  · rw [gz_zero hg k hk]
    exact Nat.pow_pos (by decide)
  · have hex : ∃ p, p < 16 ∧ z p ≠ 0 := by
      apply Classical.byContradiction
      intro hno
      have h0 : ∀ j, j < 16 → z j = (0 : Nat) * z j := fun j hj => by
        rw [show ((0 : Nat) : Int) = 0 from rfl, Int.zero_mul]
        apply Classical.byContradiction
        intro h1
        exact hno ⟨j, hj, h1⟩
      have := gz_mul h0
      rw [Nat.zero_mul] at this
      omega
    obtain ⟨p, hp, hzp⟩ := hex
    have ht2 : tri (va_up fr f z) (va_up ow f p) (f + 1) := by
      intro j hj
      by_cases e : j = f
      · rw [e, va_up_self, va_up_self]
        exact ⟨hp, hzp, fun i hi => by rw [va_up_ne _ _ (by omega)]; exact hz i hi⟩
      · have h1 := ht j (by omega)
        rw [va_up_ne _ _ e, va_up_ne _ _ e]
        exact ⟨h1.1, h1.2.1, fun i hi => by rw [va_up_ne _ _ (by omega)]; exact h1.2.2 i hi⟩
    have hf16 := tri_16 ht2
    have hr2 : ∀ i, i < f + 1 → rep (fun i k => (((va_up wv f (wv q)) i k : Nat) : Int)) (va_up fr f z) i := by
      intro i hi
      by_cases e : i = f
      · obtain ⟨N, c, b, h1, h2, h3⟩ := hn
        refine ⟨N, fun j => if j < f then b j else c, h1, ?_, fun k hk => ?_⟩
        · rw [e]
          show (if f < f then b f else c) ≠ 0
          rw [if_neg (Nat.lt_irrefl f)]
          exact h2
        · rw [e]
          show N * (((va_up wv f (wv q)) f k : Nat) : Int) = _
          rw [va_up_self, h3 k hk, sz_s, va_up_self]
          dsimp only
          rw [if_neg (Nat.lt_irrefl f)]
          congr 1
          exact sz_congr (fun j hj => by rw [if_pos hj, va_up_ne _ _ (by omega)])
      · obtain ⟨N, b, h1, h2, h3⟩ := hr i (by omega)
        refine ⟨N, b, h1, h2, fun k hk => ?_⟩
        show N * (((va_up wv f (wv q)) i k : Nat) : Int) = _
        rw [va_up_ne _ _ e]
        have h4 := h3 k hk
        rw [h4]
        exact sz_congr (fun j hj => by rw [va_up_ne _ _ (by omega)])
    have hX : ∀ i k, i < f + 1 → k < 16 → (va_up wv f (wv q)) i k ≤ V := by
      intro i k hi hk
      by_cases e : i = f
      · rw [e, va_up_self]; exact hb q k (Nat.le_refl _) hk
      · rw [va_up_ne _ _ e]; exact hb i k (by omega) hk
    have h5 := prim_le hV0 hX ht2 hr2 (by rw [va_up_self]; exact hg) k hk
    rw [va_up_self] at h5
    exact Nat.lt_of_le_of_lt h5 (v_pow hf16 hV0 hV)
/-- a functional that is 0 on the rows kept is 0 on their echelon -/
theorem sz_dot {n : Nat} {b psi : Nat → Int} {fr : Nat → Nat → Int} : sz 16 (fun k => psi k * sz n (fun j => b j * fr j k)) = sz n (fun j => b j * sz 16 (fun k => psi k * fr j k)) := by
  have e1 : sz 16 (fun k => psi k * sz n (fun j => b j * fr j k)) = sz 16 (fun k => sz n (fun j => b j * (psi k * fr j k))) := sz_congr (fun k _ => by rw [← sz_mul]; exact sz_congr (fun j _ => by rw [Int.mul_left_comm]))
  rw [e1, sz_swap]
  exact sz_congr (fun j _ => sz_mul _)
theorem rep_kill {X fr : Nat → Nat → Int} {psi : Nat → Int} {g : Nat} (hr : ∀ i, i < g → rep X fr i) (h : ∀ i, i < g → sz 16 (fun k => psi k * X i k) = 0) (j : Nat) : j < g → sz 16 (fun k => psi k * fr j k) = 0 := by
  induction j using Nat.strongRecOn with
  | _ j ih =>
    intro hj
    obtain ⟨N, b, h1, h2, h3⟩ := hr j hj
    have e1 : sz 16 (fun k => psi k * (N * X j k)) = 0 := by
      have : sz 16 (fun k => psi k * (N * X j k)) = N * sz 16 (fun k => psi k * X j k) := by
        rw [← sz_mul]
        exact sz_congr (fun k _ => by rw [Int.mul_left_comm])
      rw [this, h j hj, Int.mul_zero]
    rw [sz_congr (g := fun k => psi k * sz (j + 1) (fun i => b i * fr i k)) (fun k hk => by rw [h3 k hk]), sz_dot, sz_s, sz_zero (fun i hi => by rw [ih i hi (by omega), Int.mul_zero]), Int.zero_add] at e1
    rcases Int.mul_eq_zero.1 e1 with h4 | h4
    · exact absurd h4 h2
    · exact h4
theorem dep_kill {wv : Nat → Nat → Nat} {fr : Nat → Nat → Int} {z psi : Nat → Int} {q : Nat} (hr : ∀ i, i < q → rep (fun i k => (wv i k : Nat)) fr i) (hn : rpn (wv q) fr z q) (hz : ∀ k, k < 16 → z k = 0) (h : ∀ i, i < q → sz 16 (fun k => psi k * (wv i k : Nat)) = 0) : sz 16 (fun k => psi k * (wv q k : Nat)) = 0 := by
  obtain ⟨N, c, b, h1, h2, h3⟩ := hn
  have hk := rep_kill hr h
  have e1 : N * sz 16 (fun k => psi k * (wv q k : Nat)) = sz 16 (fun k => psi k * sz q (fun j => b j * fr j k)) := by
    rw [← sz_mul]
    exact sz_congr (fun k hk2 => by rw [Int.mul_left_comm, h3 k hk2, hz k hk2, Int.mul_zero, Int.add_zero])
  rw [sz_dot, sz_zero (n := q) (fun j hj => by rw [hk j hj, Int.mul_zero])] at e1
  rcases Int.mul_eq_zero.1 e1 with h4 | h4
  · exact absurd h4 h1
  · exact h4
theorem fit_dif {x y u v : Int} (hx : fit x 170) (hy : fit y 170) (hu : fit u 170) (hv : fit v 170) : fit (x * y - u * v) 341 := by
  have h1 := fit_mul hx hy
  have h2 := fit_mul hu hv
  unfold fit at *
  have h3 : 4294967296 ^ 341 = 4294967296 ^ 340 * 4294967296 := Nat.pow_succ _ _
  rw [h3]
  have h1 : (x * y).natAbs < 4294967296 ^ 340 := h1
  have h2 : (u * v).natAbs < 4294967296 ^ 340 := h2
  generalize 4294967296 ^ 340 = Q at *
  generalize x * y = s at *
  generalize u * v = t at *
  omega
theorem C8_isFree {G : ze_G} {l : Launch} {w0 w : ze_W} {m C P F : Nat} {ar : Nat → Nat → Int} {bz : Nat → Int} (hM : mst G w0 w m C P F ar bz) {q V : Nat} {wv : Nat → Nat → Nat} {fr : Nat → Nat → Int} {ow : Nat → Nat} (hq : q ≤ 16) (hw : ∀ i k, i ≤ q → k < 16 → bz (21156 + 2 * (i * 16 + k)) = (wv i k : Nat)) (hV0 : 1 ≤ V) (hV : V ≤ 10 ^ 100) (hwb : ∀ i k, i ≤ q → k < 16 → wv i k ≤ V) (hF : fre ar bz wv fr ow q) : ze_C G l 6 0 0 M8_isFree [.ref m, ze_i (q : Nat), ze_i (q : Nat)] w (ze_qi (fun r w' => ∃ ar' bz' fr' ow', mst G w0 w' m C P F ar' bz' ∧ (∀ o, o < 21732 → o ≠ 24 → o ≠ 26 → o ≠ 28 → o ≠ 30 → o ≠ 32 → bz' o = bz o) ∧ (∀ k, k ≠ 20 → ar' k = ar k) ∧ ((r = 0 ∧ (∀ psi : Nat → Int, (∀ i, i < q → sz 16 (fun k => psi k * (wv i k : Nat)) = 0) → sz 16 (fun k => psi k * (wv q k : Nat)) = 0) ∧ fre ar' bz' wv fr' ow' q) ∨ (r = 1 ∧ q < 16 ∧ fre ar' bz' wv fr' ow' (q + 1))))) := by
  obtain ⟨hF1, hF2, hF3, hF4⟩ := hF
  refine ze_enter (by decide +kernel) rfl ?_
  generalize hQ : (ze_Q G (ze_qi (fun r w' => ∃ ar' bz' fr' ow', mst G w0 w' m C P F ar' bz' ∧ (∀ o, o < 21732 → o ≠ 24 → o ≠ 26 → o ≠ 28 → o ≠ 30 → o ≠ 32 → bz' o = bz o) ∧ (∀ k, k ≠ 20 → ar' k = ar k) ∧ ((r = 0 ∧ (∀ psi : Nat → Int, (∀ i, i < q → sz 16 (fun k => psi k * (wv i k : Nat)) = 0) → sz 16 (fun k => psi k * (wv q k : Nat)) = 0) ∧ fre ar' bz' wv fr' ow' q) ∨ (r = 1 ∧ q < 16 ∧ fre ar' bz' wv fr' ow' (q + 1))))) 0 0) = Z
  have fill : ∀ (z : Nat → Int) (p : Nat) (ar1 : Nat → Nat → Int), q < 16 → p < 16 → z p ≠ 0 → (∀ j, j < q → z (ow j) = 0) → (∀ k, k < 16 → fit (z k) 170) → rpn (wv q) fr z q → ar1 = va_up ar 20 (va_up (ar 20) q ((p : Nat) : Int)) → ∀ (d k : Nat) (bz1 : Nat → Int) (w1 : ze_W), k + d = 16 → mst G w0 w1 m C P F ar1 bz1 → (∀ o, o < 21732 → o ≠ 24 → o ≠ 26 → o ≠ 28 → o ≠ 30 → o ≠ 32 → bz1 o = bz o) → (∀ f k, f < q → k < 16 → bz1 (21732 + 2 * (f * 16 + k)) = fr f k) → (∀ j, j < 16 → bz1 (22244 + 2 * j) = z j) → (∀ j, j < k → bz1 (21732 + 2 * (q * 16 + j)) = z j) → ze_V G l (ze_rm 6 0 0) M8_isFree Z 220 [(0, .ref m), (1, ze_i ((q : Nat))), (2, ze_i ((q : Nat))), (3, ze_i ((p : Nat))), (4, ze_i ((k : Nat)))] [] w1 0 0 := by
    intro z p ar1 hq16 hp hzp hz0 hfz hrp har d
    induction d with
    | zero =>
      intro k bz1 w1 hk hM1 hf hfr hn hd
      refine ze_iload dX8_isFree_220 rfl ?_
      refine ze_bipush dX8_isFree_222 (by decide) ?_
      refine ze_icmp_ge 255 dX8_isFree_224 (by decide) (by omega) (by omega) (fun q1 => ?_) (fun q1 => ?_)
      · refine ze_iconst dX8_isFree_255 ?_
        rw [← hQ]
        refine ze_zreturn rfl dX8_isFree_256 (by decide) ⟨_, rfl, ar1, bz1, va_up fr q z, va_up ow q p, hM1, hf, fun k hk => by rw [har, va_up_ne _ _ hk], Or.inr ⟨rfl, hq16, ?_, ?_, ?_, ?_⟩⟩ rfl rfl
        · intro f hf2
          rw [har, va_up_self]
          by_cases e : f = q
          · rw [e, va_up_self, va_up_self]
          · rw [va_up_ne _ _ e, va_up_ne _ _ e]
            exact hF1 f (by omega)
        · intro f k2 hf2 hk2
          by_cases e : f = q
          · rw [e, va_up_self]
            exact ⟨hd k2 (by omega), hfz k2 hk2⟩
          · rw [va_up_ne _ _ e]
            exact ⟨hfr f k2 (by omega) hk2, (hF2 f k2 (by omega) hk2).2⟩
        · intro j hj
          by_cases e : j = q
          · rw [e, va_up_self, va_up_self]
            exact ⟨hp, hzp, fun i hi => by rw [va_up_ne _ _ (by omega)]; exact hz0 i hi⟩
          · have h1 := hF3 j (by omega)
            rw [va_up_ne _ _ e, va_up_ne _ _ e]
            exact ⟨h1.1, h1.2.1, fun i hi => by rw [va_up_ne _ _ (by omega)]; exact h1.2.2 i hi⟩
        · intro i hi
          by_cases e : i = q
          · obtain ⟨N, c, b, h1, h2, h3⟩ := hrp
            refine ⟨N, fun j => if j < q then b j else c, h1, ?_, fun k2 hk2 => ?_⟩
            · rw [e]
              show (if q < q then b q else c) ≠ 0
              rw [if_neg (Nat.lt_irrefl q)]
              exact h2
            · rw [e]
              show N * ((wv q k2 : Nat) : Int) = _
              rw [h3 k2 hk2, sz_s, va_up_self]
              dsimp only
              rw [if_neg (Nat.lt_irrefl q)]
              congr 1
              exact sz_congr (fun j hj => by rw [if_pos hj, va_up_ne _ _ (by omega)])
          · obtain ⟨N, b, h1, h2, h3⟩ := hF4 i (by omega)
            refine ⟨N, b, h1, h2, fun k2 hk2 => ?_⟩
            rw [h3 k2 hk2]
            exact sz_congr (fun j hj => by rw [va_up_ne _ _ (by omega)])
      · omega
    | succ d ih =>
      intro k bz1 w1 hk hM1 hf hfr hn hd
      refine ze_iload dX8_isFree_220 rfl ?_
      refine ze_bipush dX8_isFree_222 (by decide) ?_
      refine ze_icmp_ge 255 dX8_isFree_224 (by decide) (by omega) (by omega) (fun q1 => ?_) (fun q1 => ?_)
      · omega
      · refine ze_aload_n dX8_isFree_227 rfl ?_
        refine ze_getf dX8_isFree_228 fl_X8_68 (ms_o hM1) rfl ?_
        refine ze_iload_n dX8_isFree_231 rfl ?_
        refine ze_bipush dX8_isFree_232 (by decide) ?_
        refine ze_imul dX8_isFree_234 ?_
        refine ze_iload dX8_isFree_235 rfl ?_
        refine ze_iadd dX8_isFree_237 ?_
        refine ze_aald (j := q * 16 + k) (b := (m + (21732 + 2 * (q * 16 + k)))) dX8_isFree_238 (show w1.2 (m + 19) = some (ze_ra G 4 256 (fun j => some (m + mro 19 j))) from ms_r hM1 19 (by decide)) rfl (by omega) (by omega) (by omega) rfl ?_
        refine ze_aload_n dX8_isFree_239 rfl ?_
        refine ze_getf dX8_isFree_240 fl_X8_80 (ms_o hM1) rfl ?_
        refine ze_iload dX8_isFree_243 rfl ?_
        refine ze_aald (j := k) (b := (m + (22244 + 2 * k))) dX8_isFree_245 (show w1.2 (m + 23) = some (ze_ra G 4 16 (fun j => some (m + mro 23 j))) from ms_r hM1 23 (by decide)) rfl (by omega) (by omega) (by omega) rfl ?_
        refine ze_callV (As := [.ref (m + (22244 + 2 * k))]) (rest := []) dX8_isFree_246 (E7_copy hM1 (o1 := 21732 + 2 * (q * 16 + k)) (o2 := 22244 + 2 * k) (mc_19 (by omega)) (mc_23 (by omega)) (by omega) (by rw [hn k (by omega), mv_420 (by omega) (by omega) (by omega)]; exact fit_le (hfz k (by omega)) (by decide))) mo7_copy ml_X8_143 in_7_copy se_7_copy (ms_bx hM1 (mc_19 (by omega))).choose_spec rfl rfl rfl rfl rfl ⟨Nat.le_refl _, Nat.le_refl _⟩ rfl (Nat.le_of_ble_eq_true rfl) ?_
        rintro _ w2 ⟨rfl, hM2⟩
        change ze_V G l (ze_rm 6 0 0) M8_isFree _ 249 [(0, .ref m), (1, ze_i ((q : Nat))), (2, ze_i ((q : Nat))), (3, ze_i ((p : Nat))), (4, ze_i ((k : Nat)))] [] w2 0 0
        refine ze_iinc (b := ((k + 1 : Nat))) (lv' := [(0, .ref m), (1, ze_i ((q : Nat))), (2, ze_i ((q : Nat))), (3, ze_i ((p : Nat))), (4, ze_i (((k + 1 : Nat))))]) dX8_isFree_249 rfl rfl (by omega) rfl ?_
        refine ze_goto 220 dX8_isFree_252 (by decide) ?_
        refine ih (k + 1) _ _ (by omega) hM2 (fun o g0 g1 g2 g3 g4 g5 => ?_) (fun f j h1 h2 => ?_) (fun j hj => ?_) (fun j hj => ?_)
        · rw [va_up_ne _ _ (by omega)]; exact hf o g0 g1 g2 g3 g4 g5
        · rw [va_up_ne _ _ (by omega)]; exact hfr f j h1 h2
        · rw [va_up_ne _ _ (by omega)]; exact hn j hj
        · by_cases e : j = k
          · rw [e, va_up_self]; exact hn k (by omega)
          · rw [va_up_ne _ _ (by omega)]; exact hd j (by omega)
  have pick : ∀ (z : Nat → Int), (∀ j, j < q → z (ow j) = 0) → (∀ k, k < 16 → fit (z k) 170) → rpn (wv q) fr z q → ∀ (d p : Nat) (bz1 : Nat → Int) (w1 : ze_W), p + d = 16 → mst G w0 w1 m C P F ar bz1 → (∀ o, o < 21732 → o ≠ 24 → o ≠ 26 → o ≠ 28 → o ≠ 30 → o ≠ 32 → bz1 o = bz o) → (∀ f k, f < q → k < 16 → bz1 (21732 + 2 * (f * 16 + k)) = fr f k) → (∀ j, j < 16 → bz1 (22244 + 2 * j) = z j) → (∀ j, j < p → z j = 0) → ze_V G l (ze_rm 6 0 0) M8_isFree Z 178 [(0, .ref m), (1, ze_i ((q : Nat))), (2, ze_i ((q : Nat))), (3, ze_i ((p : Nat)))] [] w1 0 0 := by
    intro z hz0 hfz hrp d
    induction d with
    | zero =>
      intro p bz1 w1 hp hM1 hf hfr hn hd
      have hp16 : p = 16 := by omega
      refine ze_iload_n dX8_isFree_178 rfl ?_
      refine ze_bipush dX8_isFree_179 (by decide) ?_
      refine ze_icmp_ge 202 dX8_isFree_181 (by decide) (by omega) (by omega) (fun q1 => ?_) (fun q1 => ?_)
      · refine ze_iload_n dX8_isFree_202 rfl ?_
        refine ze_bipush dX8_isFree_203 (by decide) ?_
        refine ze_icmp_ne 210 dX8_isFree_205 (by decide) (by omega) (by omega) (fun q2 => ?_) (fun q2 => ?_)
        · omega
        · refine ze_iconst dX8_isFree_208 ?_
          rw [← hQ]
          exact ze_zreturn rfl dX8_isFree_209 (by decide) ⟨_, rfl, ar, bz1, fr, ow, hM1, hf, fun _ _ => rfl, Or.inl ⟨rfl, fun psi h => dep_kill hF4 hrp (fun k hk => hd k (by omega)) h, hF1, fun f k h1 h2 => ⟨hfr f k h1 h2, (hF2 f k h1 h2).2⟩, hF3, hF4⟩⟩ rfl rfl
      · omega
    | succ d ih =>
      intro p bz1 w1 hp hM1 hf hfr hn hd
      obtain ⟨bn, bs, hbo, hb0, hb1, -⟩ := ms_bo hM1 (o := 22244 + 2 * p) (mc_23 (by omega))
      rw [hn p (by omega)] at hb0
      refine ze_iload_n dX8_isFree_178 rfl ?_
      refine ze_bipush dX8_isFree_179 (by decide) ?_
      refine ze_icmp_ge 202 dX8_isFree_181 (by decide) (by omega) (by omega) (fun q1 => ?_) (fun q1 => ?_)
      · omega
      · refine ze_aload_n dX8_isFree_184 rfl ?_
        refine ze_getf dX8_isFree_185 fl_X8_80 (ms_o hM1) rfl ?_
        refine ze_iload_n dX8_isFree_188 rfl ?_
        refine ze_aald (j := p) (b := (m + (22244 + 2 * p))) dX8_isFree_189 (show w1.2 (m + 23) = some (ze_ra G 4 16 (fun j => some (m + mro 23 j))) from ms_r hM1 23 (by decide)) rfl (by omega) (by omega) (by omega) rfl ?_
        refine ze_getN rfl dX8_isFree_190 inX7 hbo rfl ?_
        refine ze_if_ne 202 dX8_isFree_193 (by decide) (by omega) (fun q2 => ?_) (fun q2 => ?_)
        · refine ze_iload_n dX8_isFree_202 rfl ?_
          refine ze_bipush dX8_isFree_203 (by decide) ?_
          refine ze_icmp_ne 210 dX8_isFree_205 (by decide) (by omega) (by omega) (fun q3 => ?_) (fun q3 => ?_)
          · have hzp : z p ≠ 0 := fun h => q2 (hb0.2 h)
            have hq16 : q < 16 := by
              have ht2 : tri (va_up fr q z) (va_up ow q p) (q + 1) := by
                intro j hj
                by_cases e : j = q
                · rw [e, va_up_self, va_up_self]
                  exact ⟨by omega, hzp, fun i hi => by rw [va_up_ne _ _ (by omega)]; exact hz0 i hi⟩
                · have h1 := hF3 j (by omega)
                  rw [va_up_ne _ _ e, va_up_ne _ _ e]
                  exact ⟨h1.1, h1.2.1, fun i hi => by rw [va_up_ne _ _ (by omega)]; exact h1.2.2 i hi⟩
              have := tri_16 ht2
              omega
            refine ze_aload_n dX8_isFree_210 rfl ?_
            refine ze_getf dX8_isFree_211 fl_X8_71 (ms_o hM1) rfl ?_
            refine ze_iload_n dX8_isFree_214 rfl ?_
            refine ze_iload_n dX8_isFree_215 rfl ?_
            refine ze_iastW (j := q) (f' := va_up (ar 20) q (((p : Nat) : Int))) dX8_isFree_216 (show w1.2 (m + 20) = some (ze_ia G 16 (ar 20)) from ms_i hM1 20 (by decide)) (by omega) (by omega) (by omega) rfl (fun w4 z4 c4 o4 => ?_)
            have hM4 := ms_wi hM1 20 (by decide) z4 c4 o4
            refine ze_iconst dX8_isFree_217 ?_
            refine ze_ti (b := ((0 : Nat) : Nat)) rfl ?_
            refine ze_istore (lv' := [(0, .ref m), (1, ze_i ((q : Nat))), (2, ze_i ((q : Nat))), (3, ze_i ((p : Nat))), (4, ze_i (((0 : Nat) : Nat)))]) dX8_isFree_218 rfl rfl ?_
            exact fill z p _ hq16 (by omega) hzp hz0 hfz hrp rfl 16 0 bz1 _ (by omega) hM4 hf hfr hn (fun j hj => absurd hj (Nat.not_lt_zero _))
          · omega
        · refine ze_iinc (b := ((p + 1 : Nat))) (lv' := [(0, .ref m), (1, ze_i ((q : Nat))), (2, ze_i ((q : Nat))), (3, ze_i (((p + 1 : Nat))))]) dX8_isFree_196 rfl rfl (by omega) rfl ?_
          refine ze_goto 178 dX8_isFree_199 (by decide) ?_
          exact ih (p + 1) bz1 w1 (by omega) hM1 hf hfr hn (fun j hj => by
            by_cases e : j = p
            · rw [e]; exact hb0.1 q2
            · exact hd j (by omega))
  have elim : ∀ (d f : Nat) (z : Nat → Int) (bz1 : Nat → Int) (w1 : ze_W), f + d = q → mst G w0 w1 m C P F ar bz1 → (∀ o, o < 21732 → o ≠ 24 → o ≠ 26 → o ≠ 28 → o ≠ 30 → o ≠ 32 → bz1 o = bz o) → (∀ f k, f < q → k < 16 → bz1 (21732 + 2 * (f * 16 + k)) = fr f k) → (∀ j, j < 16 → bz1 (22244 + 2 * j) = z j) → (∀ j, j < f → z (ow j) = 0) → (∀ k, k < 16 → fit (z k) 170) → rpn (wv q) fr z f → (gz z 16 = 0 ∨ gz z 16 = 1) → ze_V G l (ze_rm 6 0 0) M8_isFree Z 40 [(0, .ref m), (1, ze_i ((q : Nat))), (2, ze_i ((q : Nat))), (3, ze_i ((f : Nat)))] [] w1 0 0 := by
    intro d
    induction d with
    | zero =>
      intro f z bz1 w1 hfd hM1 hf hfr hn hz0 hfz hrp hg
      have hfq : f = q := by omega
      rw [hfq] at hz0 hrp
      refine ze_iload_n dX8_isFree_40 rfl ?_
      refine ze_iload_n dX8_isFree_41 rfl ?_
      refine ze_icmp_ge 176 dX8_isFree_42 (by decide) (by omega) (by omega) (fun q1 => ?_) (fun q1 => ?_)
      · refine ze_iconst dX8_isFree_176 ?_
        refine ze_ti (b := ((0 : Nat) : Nat)) rfl ?_
        refine ze_istore_n (lv' := [(0, .ref m), (1, ze_i ((q : Nat))), (2, ze_i ((q : Nat))), (3, ze_i (((0 : Nat) : Nat)))]) dX8_isFree_177 rfl rfl ?_
        exact pick z hz0 hfz hrp 16 0 bz1 w1 (by omega) hM1 hf hfr hn (fun j hj => absurd hj (Nat.not_lt_zero _))
      · omega
    | succ d ih =>
      intro f z bz0 w0' hfd hM0 hf0 hfr0 hn0 hz0 hfz hrp hg
      have e20 := hF1 f (by omega)
      obtain ⟨p, hpo⟩ : ∃ p, p = ow f := ⟨_, rfl⟩
      obtain ⟨hp16, hfp, hft⟩ := hF3 f (by omega)
      rw [← hpo] at e20 hp16 hfp
      obtain ⟨bn, bs, hbo, hb0, hb1, -⟩ := ms_bo hM0 (o := 22244 + 2 * p) (mc_23 (by omega))
      rw [hn0 p hp16] at hb0
      have hbsr : -2147483648 ≤ bs ∧ bs < 2147483648 := by omega
      have mulk : z p ≠ 0 → ∀ (e k : Nat) (bz1 : Nat → Int) (w1 : ze_W), k + e = 16 → mst G w0 w1 m C P F ar bz1 → (∀ o, o < 21732 → o ≠ 24 → o ≠ 26 → o ≠ 28 → o ≠ 30 → o ≠ 32 → bz1 o = bz o) → (∀ f k, f < q → k < 16 → bz1 (21732 + 2 * (f * 16 + k)) = fr f k) → bz1 30 = z p → (∀ j, j < k → bz1 (22244 + 2 * j) = (z j * fr f p - fr f j * z p)) → (∀ j, k ≤ j → j < 16 → bz1 (22244 + 2 * j) = z j) → ze_V G l (ze_rm 6 0 0) M8_isFree Z 86 [(0, .ref m), (1, ze_i ((q : Nat))), (2, ze_i ((q : Nat))), (3, ze_i ((f : Nat))), (4, ze_i ((p : Nat))), (5, ze_i ((k : Nat)))] [] w1 0 0 := by
        intro hzp e
        induction e with
        | zero =>
          intro k bz1 w1 hk hM1 hf hfr h30 hd hr
          refine ze_iload dX8_isFree_86 rfl ?_
          refine ze_bipush dX8_isFree_88 (by decide) ?_
          refine ze_icmp_ge 166 dX8_isFree_90 (by decide) (by omega) (by omega) (fun q1 => ?_) (fun q1 => ?_)
          · refine ze_aload_n dX8_isFree_166 rfl ?_
            refine ze_callV (As := []) (rest := []) dX8_isFree_167 (C8_shorten hM1 (z := fun j => (z j * fr f p - fr f j * z p)) (K := 341) (fun j hj => hd j (by omega)) (fun j hj => fit_dif (hfz j hj) (hF2 f p (by omega) hp16).2 (hF2 f j (by omega) hj).2 (hfz p hp16)) (by decide)) mo8_shorten ml_X8_203 in_8_shorten se_8_shorten (ms_o hM1) rfl rfl rfl rfl rfl ⟨Nat.le_refl _, Nat.le_refl _⟩ rfl (Nat.le_of_ble_eq_true rfl) ?_
            rintro _ w3 ⟨rfl, bz3, z3, g, hM3, hn3, hg0, hz3, hg3, hf3⟩
            change ze_V G l (ze_rm 6 0 0) M8_isFree _ 170 [(0, .ref m), (1, ze_i ((q : Nat))), (2, ze_i ((q : Nat))), (3, ze_i ((f : Nat))), (4, ze_i ((p : Nat))), (5, ze_i ((k : Nat)))] [] w3 0 0
            refine ze_iinc (b := ((f + 1 : Nat))) (lv' := [(0, .ref m), (1, ze_i ((q : Nat))), (2, ze_i ((q : Nat))), (3, ze_i (((f + 1 : Nat)))), (4, ze_i ((p : Nat))), (5, ze_i ((k : Nat)))]) dX8_isFree_170 rfl rfl (by omega) rfl ?_
            refine ze_goto 40 dX8_isFree_173 (by decide) ?_
            refine ze_lv (lv' := [(0, .ref m), (1, ze_i ((q : Nat))), (2, ze_i ((q : Nat))), (3, ze_i (((f + 1 : Nat))))]) [0, 1, 2, 3] rfl ?_
            have hrp3 : rpn (wv q) fr z3 (f + 1) := rpn_take (A := fr f p) (B := z p) hrp hfp hg0 (fun k hk => hz3 k hk)
            have hz03 : ∀ j, j < f + 1 → z3 (ow j) = 0 := by
              intro j hj
              have h1 := hz3 (ow j) (hF3 j (by omega)).1
              have h2 : z (ow j) * fr f p - fr f (ow j) * z p = 0 := by
                by_cases e : j = f
                · rw [e, ← hpo, Int.mul_comm]
                  omega
                · rw [hz0 j (by omega), hft j (by omega), Int.zero_mul, Int.zero_mul]
                  rfl
              have h1 : z (ow j) * fr f p - fr f (ow j) * z p = ((g : Nat) : Int) * z3 (ow j) := h1
              rw [h2] at h1
              rcases Int.mul_eq_zero.1 h1.symm with h3 | h3
              · omega
              · exact h3
            exact ih (f + 1) z3 bz3 w3 (by omega) hM3 (fun o g0 g1 g2 g3 g4 g5 => by rw [hf3 o (by omega) g1 g2 g3 g5]; exact hf o g0 g1 g2 g3 g4 g5) (fun f2 k2 h1 h2 => by rw [hf3 _ (by omega) (by omega) (by omega) (by omega) (by omega)]; exact hfr f2 k2 h1 h2) hn3 hz03 (rest_fit hV0 hV hwb (by omega) (tri_le hF3 (by omega)) (fun i hi => hF4 i (by omega)) hrp3 hz03 hg3) hrp3 hg3
          · omega
        | succ e ihe =>
          intro k bz1 w1 hk hM1 hf hfr h30 hd hr
          have ek := hr k (Nat.le_refl _) (by omega)
          have efp := hfr f p (by omega) hp16
          have efk := hfr f k (by omega) (by omega)
          have fk_ := (hF2 f k (by omega) (by omega)).2
          have fp_ := (hF2 f p (by omega) hp16).2
          refine ze_iload dX8_isFree_86 rfl ?_
          refine ze_bipush dX8_isFree_88 (by decide) ?_
          refine ze_icmp_ge 166 dX8_isFree_90 (by decide) (by omega) (by omega) (fun q1 => ?_) (fun q1 => ?_)
          · omega
          · refine ze_aload_n dX8_isFree_93 rfl ?_
            refine ze_getf dX8_isFree_94 fl_X8_83 (ms_o hM1) rfl ?_
            refine ze_aload_n dX8_isFree_97 rfl ?_
            refine ze_getf dX8_isFree_98 fl_X8_80 (ms_o hM1) rfl ?_
            refine ze_iload dX8_isFree_101 rfl ?_
            refine ze_aald (j := k) (b := (m + (22244 + 2 * k))) dX8_isFree_103 (show w1.2 (m + 23) = some (ze_ra G 4 16 (fun j => some (m + mro 23 j))) from ms_r hM1 23 (by decide)) rfl (by omega) (by omega) (by omega) rfl ?_
            refine ze_aload_n dX8_isFree_104 rfl ?_
            refine ze_getf dX8_isFree_105 fl_X8_68 (ms_o hM1) rfl ?_
            refine ze_iload_n dX8_isFree_108 rfl ?_
            refine ze_bipush dX8_isFree_109 (by decide) ?_
            refine ze_imul dX8_isFree_111 ?_
            refine ze_iload dX8_isFree_112 rfl ?_
            refine ze_iadd dX8_isFree_114 ?_
            refine ze_aald (j := f * 16 + p) (b := (m + (21732 + 2 * (f * 16 + p)))) dX8_isFree_115 (show w1.2 (m + 19) = some (ze_ra G 4 256 (fun j => some (m + mro 19 j))) from ms_r hM1 19 (by decide)) rfl (by omega) (by omega) (by omega) rfl ?_
            refine ze_callV (As := [.ref (m + (22244 + 2 * k)), .ref (m + (21732 + 2 * (f * 16 + p)))]) (rest := []) dX8_isFree_116 (E7_times hM1 (o1 := 24) (o2 := 22244 + 2 * k) (o3 := 21732 + 2 * (f * 16 + p)) (K1 := 170) (K2 := 170) (by decide) (mc_23 (by omega)) (mc_19 (by omega)) (by omega) (by omega) (by rw [ek]; exact hfz k (by omega)) (by rw [efp]; exact fp_) (by decide)) mo7_times ml_X8_136 in_7_times se_7_times (ms_bx hM1 (by decide)).choose_spec rfl rfl rfl rfl rfl ⟨Nat.le_refl _, Nat.le_refl _⟩ rfl (Nat.le_of_ble_eq_true rfl) ?_
            rintro _ w2 ⟨rfl, hM2⟩
            change ze_V G l (ze_rm 6 0 0) M8_isFree _ 119 [(0, .ref m), (1, ze_i ((q : Nat))), (2, ze_i ((q : Nat))), (3, ze_i ((f : Nat))), (4, ze_i ((p : Nat))), (5, ze_i ((k : Nat)))] [] w2 0 0
            have e24 : (va_up bz1 24 (bz1 (22244 + 2 * k) * bz1 (21732 + 2 * (f * 16 + p)))) 24 = z k * fr f p := by rw [va_up_self, ek, efp]
            have eo : ∀ o, o ≠ 24 → (va_up bz1 24 (bz1 (22244 + 2 * k) * bz1 (21732 + 2 * (f * 16 + p)))) o = bz1 o := fun o g => va_up_ne _ _ g
            generalize va_up bz1 24 (bz1 (22244 + 2 * k) * bz1 (21732 + 2 * (f * 16 + p))) = bz2 at *
            refine ze_aload_n dX8_isFree_119 rfl ?_
            refine ze_getf dX8_isFree_120 fl_X8_86 (ms_o hM2) rfl ?_
            refine ze_aload_n dX8_isFree_123 rfl ?_
            refine ze_getf dX8_isFree_124 fl_X8_68 (ms_o hM2) rfl ?_
            refine ze_iload_n dX8_isFree_127 rfl ?_
            refine ze_bipush dX8_isFree_128 (by decide) ?_
            refine ze_imul dX8_isFree_130 ?_
            refine ze_iload dX8_isFree_131 rfl ?_
            refine ze_iadd dX8_isFree_133 ?_
            refine ze_aald (j := f * 16 + k) (b := (m + (21732 + 2 * (f * 16 + k)))) dX8_isFree_134 (show w2.2 (m + 19) = some (ze_ra G 4 256 (fun j => some (m + mro 19 j))) from ms_r hM2 19 (by decide)) rfl (by omega) (by omega) (by omega) rfl ?_
            refine ze_aload_n dX8_isFree_135 rfl ?_
            refine ze_getf dX8_isFree_136 fl_X8_92 (ms_o hM2) rfl ?_
            have efk2 : bz2 (21732 + 2 * (f * 16 + k)) = fr f k := by rw [eo _ (by omega)]; exact efk
            have e30 : bz2 30 = z p := by rw [eo 30 (by decide)]; exact h30
            refine ze_callV (As := [.ref (m + (21732 + 2 * (f * 16 + k))), .ref (m + 30)]) (rest := []) dX8_isFree_139 (E7_times hM2 (o1 := 26) (o2 := 21732 + 2 * (f * 16 + k)) (o3 := 30) (K1 := 170) (K2 := 170) (by decide) (mc_19 (by omega)) (by decide) (by omega) (by decide) (by rw [efk2]; exact fk_) (by rw [e30]; exact hfz p hp16) (by decide)) mo7_times ml_X8_136 in_7_times se_7_times (ms_bx hM2 (by decide)).choose_spec rfl rfl rfl rfl rfl ⟨Nat.le_refl _, Nat.le_refl _⟩ rfl (Nat.le_of_ble_eq_true rfl) ?_
            rintro _ w3 ⟨rfl, hM3⟩
            change ze_V G l (ze_rm 6 0 0) M8_isFree _ 142 [(0, .ref m), (1, ze_i ((q : Nat))), (2, ze_i ((q : Nat))), (3, ze_i ((f : Nat))), (4, ze_i ((p : Nat))), (5, ze_i ((k : Nat)))] [] w3 0 0
            have e26 : (va_up bz2 26 (bz2 (21732 + 2 * (f * 16 + k)) * bz2 30)) 26 = fr f k * z p := by rw [va_up_self, efk2, e30]
            have e24b : (va_up bz2 26 (bz2 (21732 + 2 * (f * 16 + k)) * bz2 30)) 24 = z k * fr f p := by rw [va_up_ne _ _ (by decide), e24]
            have eo2 : ∀ o, o ≠ 24 → o ≠ 26 → (va_up bz2 26 (bz2 (21732 + 2 * (f * 16 + k)) * bz2 30)) o = bz1 o := fun o g g2 => by rw [va_up_ne _ _ g2, eo o g]
            generalize va_up bz2 26 (bz2 (21732 + 2 * (f * 16 + k)) * bz2 30) = bz3 at *
            refine ze_aload_n dX8_isFree_142 rfl ?_
            refine ze_getf dX8_isFree_143 fl_X8_80 (ms_o hM3) rfl ?_
            refine ze_iload dX8_isFree_146 rfl ?_
            refine ze_aald (j := k) (b := (m + (22244 + 2 * k))) dX8_isFree_148 (show w3.2 (m + 23) = some (ze_ra G 4 16 (fun j => some (m + mro 23 j))) from ms_r hM3 23 (by decide)) rfl (by omega) (by omega) (by omega) rfl ?_
            refine ze_aload_n dX8_isFree_149 rfl ?_
            refine ze_getf dX8_isFree_150 fl_X8_83 (ms_o hM3) rfl ?_
            refine ze_aload_n dX8_isFree_153 rfl ?_
            refine ze_getf dX8_isFree_154 fl_X8_86 (ms_o hM3) rfl ?_
            refine ze_callV (As := [.ref (m + 24), .ref (m + 26)]) (rest := []) dX8_isFree_157 (E7_less hM3 (o1 := 22244 + 2 * k) (o2 := 24) (o3 := 26) (K := 340) (mc_23 (by omega)) (by decide) (by decide) (by omega) (by omega) (by rw [e24b]; exact fit_mul (hfz k (by omega)) fp_) (by rw [e26]; exact fit_mul fk_ (hfz p hp16)) (by rw [mv_420 (by omega) (by omega) (by omega)]; decide)) mo7_less ml_X8_206 in_7_less se_7_less (ms_bx hM3 (mc_23 (by omega))).choose_spec rfl rfl rfl rfl rfl ⟨Nat.le_refl _, Nat.le_refl _⟩ rfl (Nat.le_of_ble_eq_true rfl) ?_
            rintro _ w4 ⟨rfl, hM4⟩
            change ze_V G l (ze_rm 6 0 0) M8_isFree _ 160 [(0, .ref m), (1, ze_i ((q : Nat))), (2, ze_i ((q : Nat))), (3, ze_i ((f : Nat))), (4, ze_i ((p : Nat))), (5, ze_i ((k : Nat)))] [] w4 0 0
            refine ze_iinc (b := ((k + 1 : Nat))) (lv' := [(0, .ref m), (1, ze_i ((q : Nat))), (2, ze_i ((q : Nat))), (3, ze_i ((f : Nat))), (4, ze_i ((p : Nat))), (5, ze_i (((k + 1 : Nat))))]) dX8_isFree_160 rfl rfl (by omega) rfl ?_
            refine ze_goto 86 dX8_isFree_163 (by decide) ?_
            refine ihe (k + 1) _ _ (by omega) hM4 (fun o g0 g1 g2 g3 g4 g5 => ?_) (fun f2 k2 h1 h2 => ?_) ?_ (fun j hj => ?_) (fun j h1 h2 => ?_)
            · rw [va_up_ne _ _ (by omega), eo2 o g1 g2]; exact hf o g0 g1 g2 g3 g4 g5
            · rw [va_up_ne _ _ (by omega), eo2 _ (by omega) (by omega)]; exact hfr f2 k2 h1 h2
            · rw [va_up_ne _ _ (by omega), eo2 30 (by decide) (by decide)]; exact h30
            · by_cases e : j = k
              · rw [e, va_up_self, e24b, e26]
              · rw [va_up_ne _ _ (by omega), eo2 _ (by omega) (by omega)]; exact hd j (by omega)
            · rw [va_up_ne _ _ (by omega), eo2 _ (by omega) (by omega)]; exact hr j (by omega) h2
      refine ze_iload_n dX8_isFree_40 rfl ?_
      refine ze_iload_n dX8_isFree_41 rfl ?_
      refine ze_icmp_ge 176 dX8_isFree_42 (by decide) (by omega) (by omega) (fun q1 => ?_) (fun q1 => ?_)
      · omega
      · refine ze_aload_n dX8_isFree_45 rfl ?_
        refine ze_getf dX8_isFree_46 fl_X8_71 (ms_o hM0) rfl ?_
        refine ze_iload_n dX8_isFree_49 rfl ?_
        refine ze_iald (j := f) dX8_isFree_50 (show w0'.2 (m + 20) = some (ze_ia G 16 (ar 20)) from ms_i hM0 20 (by decide)) (by omega) (by omega) (by omega) ?_
        rw [e20]
        refine ze_istore (lv' := [(0, .ref m), (1, ze_i ((q : Nat))), (2, ze_i ((q : Nat))), (3, ze_i ((f : Nat))), (4, ze_i ((p : Nat)))]) dX8_isFree_51 rfl rfl ?_
        refine ze_aload_n dX8_isFree_53 rfl ?_
        refine ze_getf dX8_isFree_54 fl_X8_80 (ms_o hM0) rfl ?_
        refine ze_iload dX8_isFree_57 rfl ?_
        refine ze_aald (j := p) (b := (m + (22244 + 2 * p))) dX8_isFree_59 (show w0'.2 (m + 23) = some (ze_ra G 4 16 (fun j => some (m + mro 23 j))) from ms_r hM0 23 (by decide)) rfl (by omega) (by omega) (by omega) rfl ?_
        refine ze_getN rfl dX8_isFree_60 inX7 hbo rfl ?_
        refine ze_if_ne 69 dX8_isFree_63 (by decide) hbsr (fun q2 => ?_) (fun q2 => ?_)
        · have hzp : z p ≠ 0 := fun h => q2 (hb0.2 h)
          refine ze_aload_n dX8_isFree_69 rfl ?_
          refine ze_getf dX8_isFree_70 fl_X8_92 (ms_o hM0) rfl ?_
          refine ze_aload_n dX8_isFree_73 rfl ?_
          refine ze_getf dX8_isFree_74 fl_X8_80 (ms_o hM0) rfl ?_
          refine ze_iload dX8_isFree_77 rfl ?_
          refine ze_aald (j := p) (b := (m + (22244 + 2 * p))) dX8_isFree_79 (show w0'.2 (m + 23) = some (ze_ra G 4 16 (fun j => some (m + mro 23 j))) from ms_r hM0 23 (by decide)) rfl (by omega) (by omega) (by omega) rfl ?_
          refine ze_callV (As := [.ref (m + (22244 + 2 * p))]) (rest := []) dX8_isFree_80 (E7_copy hM0 (o1 := 30) (o2 := 22244 + 2 * p) (by decide) (mc_23 (by omega)) (by omega) (by rw [hn0 p hp16]; exact fit_le (hfz p hp16) (by decide))) mo7_copy ml_X8_143 in_7_copy se_7_copy (ms_bx hM0 (by decide)).choose_spec rfl rfl rfl rfl rfl ⟨Nat.le_refl _, Nat.le_refl _⟩ rfl (Nat.le_of_ble_eq_true rfl) ?_
          rintro _ w3 ⟨rfl, hM3⟩
          change ze_V G l (ze_rm 6 0 0) M8_isFree _ 83 [(0, .ref m), (1, ze_i ((q : Nat))), (2, ze_i ((q : Nat))), (3, ze_i ((f : Nat))), (4, ze_i ((p : Nat)))] [] w3 0 0
          refine ze_iconst dX8_isFree_83 ?_
          refine ze_ti (b := ((0 : Nat) : Nat)) rfl ?_
          refine ze_istore (lv' := [(0, .ref m), (1, ze_i ((q : Nat))), (2, ze_i ((q : Nat))), (3, ze_i ((f : Nat))), (4, ze_i ((p : Nat))), (5, ze_i (((0 : Nat) : Nat)))]) dX8_isFree_84 rfl rfl ?_
          exact mulk hzp 16 0 _ _ (by omega) hM3 (fun o g0 g1 g2 g3 g4 g5 => by rw [va_up_ne _ _ g4]; exact hf0 o g0 g1 g2 g3 g4 g5) (fun f2 k2 h1 h2 => by rw [va_up_ne _ _ (by omega)]; exact hfr0 f2 k2 h1 h2) (by rw [va_up_self]; exact hn0 p hp16) (fun j hj => absurd hj (Nat.not_lt_zero _)) (fun j _ h2 => by rw [va_up_ne _ _ (by omega)]; exact hn0 j h2)
        · refine ze_goto 170 dX8_isFree_66 (by decide) ?_
          refine ze_iinc (b := ((f + 1 : Nat))) (lv' := [(0, .ref m), (1, ze_i ((q : Nat))), (2, ze_i ((q : Nat))), (3, ze_i (((f + 1 : Nat)))), (4, ze_i ((p : Nat)))]) dX8_isFree_170 rfl rfl (by omega) rfl ?_
          refine ze_goto 40 dX8_isFree_173 (by decide) ?_
          refine ze_lv (lv' := [(0, .ref m), (1, ze_i ((q : Nat))), (2, ze_i ((q : Nat))), (3, ze_i (((f + 1 : Nat))))]) [0, 1, 2, 3] rfl ?_
          exact ih (f + 1) z bz0 _ (by omega) hM0 hf0 hfr0 hn0 (fun j hj => by
            by_cases e : j = f
            · rw [e, ← hpo]; exact hb0.1 q2
            · exact hz0 j (by omega)) hfz (rpn_skip hrp) hg
  have cpy : ∀ (d k : Nat) (bz1 : Nat → Int) (w1 : ze_W), k + d = 16 → mst G w0 w1 m C P F ar bz1 → (∀ o, o < 22244 → bz1 o = bz o) → (∀ j, j < k → bz1 (22244 + 2 * j) = (wv q j : Nat)) → ze_V G l (ze_rm 6 0 0) M8_isFree Z 2 [(0, .ref m), (1, ze_i ((q : Nat))), (2, ze_i ((q : Nat))), (3, ze_i ((k : Nat)))] [] w1 0 0 := by
    intro d
    induction d with
    | zero =>
      intro k bz1 w1 hk hM1 hf hd
      refine ze_iload_n dX8_isFree_2 rfl ?_
      refine ze_bipush dX8_isFree_3 (by decide) ?_
      refine ze_icmp_ge 34 dX8_isFree_5 (by decide) (by omega) (by omega) (fun q1 => ?_) (fun q1 => ?_)
      · refine ze_aload_n dX8_isFree_34 rfl ?_
        refine ze_callV (As := []) (rest := []) dX8_isFree_35 (C8_shorten hM1 (z := fun j => (wv q j : Nat)) (K := 11) (fun j hj => hd j (by omega)) (fun j hj => Nat.lt_of_le_of_lt (Nat.le_trans (hwb q j (Nat.le_refl _) hj) hV) (by decide +kernel)) (by decide)) mo8_shorten ml_X8_203 in_8_shorten se_8_shorten (ms_o hM1) rfl rfl rfl rfl rfl ⟨Nat.le_refl _, Nat.le_refl _⟩ rfl (Nat.le_of_ble_eq_true rfl) ?_
        rintro _ w3 ⟨rfl, bz3, z3, g, hM3, hn3, hg0, hz3, hg3, hf3⟩
        change ze_V G l (ze_rm 6 0 0) M8_isFree _ 38 [(0, .ref m), (1, ze_i ((q : Nat))), (2, ze_i ((q : Nat))), (3, ze_i ((k : Nat)))] [] w3 0 0
        refine ze_iconst dX8_isFree_38 ?_
        refine ze_ti (b := ((0 : Nat) : Nat)) rfl ?_
        refine ze_istore_n (lv' := [(0, .ref m), (1, ze_i ((q : Nat))), (2, ze_i ((q : Nat))), (3, ze_i (((0 : Nat) : Nat)))]) dX8_isFree_39 rfl rfl ?_
        have hrp3 : rpn (wv q) fr z3 0 := ⟨1, ((g : Nat) : Int), fun _ => 0, by decide, by omega, fun k2 hk2 => by
          have h1 : ((wv q k2 : Nat) : Int) = ((g : Nat) : Int) * z3 k2 := hz3 k2 hk2
          rw [Int.one_mul, h1]
          show _ = 0 + _
          rw [Int.zero_add]⟩
        exact elim q 0 z3 bz3 w3 (by omega) hM3 (fun o g0 g1 g2 g3 g4 g5 => by rw [hf3 o (by omega) g1 g2 g3 g5]; exact hf o (by omega)) (fun f2 k2 h1 h2 => by rw [hf3 _ (by omega) (by omega) (by omega) (by omega) (by omega), hf _ (by omega)]; exact (hF2 f2 k2 h1 h2).1) hn3 (fun j hj => absurd hj (Nat.not_lt_zero _)) (rest_fit hV0 hV hwb (Nat.zero_le _) (tri_le hF3 (Nat.zero_le _)) (fun i hi => absurd hi (Nat.not_lt_zero _)) hrp3 (fun j hj => absurd hj (Nat.not_lt_zero _)) hg3) hrp3 hg3
      · omega
    | succ d ih =>
      intro k bz1 w1 hk hM1 hf hd
      refine ze_iload_n dX8_isFree_2 rfl ?_
      refine ze_bipush dX8_isFree_3 (by decide) ?_
      refine ze_icmp_ge 34 dX8_isFree_5 (by decide) (by omega) (by omega) (fun q1 => ?_) (fun q1 => ?_)
      · omega
      · refine ze_aload_n dX8_isFree_8 rfl ?_
        refine ze_getf dX8_isFree_9 fl_X8_80 (ms_o hM1) rfl ?_
        refine ze_iload_n dX8_isFree_12 rfl ?_
        refine ze_aald (j := k) (b := (m + (22244 + 2 * k))) dX8_isFree_13 (show w1.2 (m + 23) = some (ze_ra G 4 16 (fun j => some (m + mro 23 j))) from ms_r hM1 23 (by decide)) rfl (by omega) (by omega) (by omega) rfl ?_
        refine ze_aload_n dX8_isFree_14 rfl ?_
        refine ze_getf dX8_isFree_15 fl_X8_65 (ms_o hM1) rfl ?_
        refine ze_iload_n dX8_isFree_18 rfl ?_
        refine ze_bipush dX8_isFree_19 (by decide) ?_
        refine ze_imul dX8_isFree_21 ?_
        refine ze_iload_n dX8_isFree_22 rfl ?_
        refine ze_iadd dX8_isFree_23 ?_
        refine ze_aald (j := q * 16 + k) (b := (m + (21156 + 2 * (q * 16 + k)))) dX8_isFree_24 (show w1.2 (m + 18) = some (ze_ra G 4 288 (fun j => some (m + mro 18 j))) from ms_r hM1 18 (by decide)) rfl (by omega) (by omega) (by omega) rfl ?_
        have ew : bz1 (21156 + 2 * (q * 16 + k)) = (wv q k : Nat) := by rw [hf _ (by omega)]; exact hw q k (Nat.le_refl _) (by omega)
        refine ze_callV (As := [.ref (m + (21156 + 2 * (q * 16 + k)))]) (rest := []) dX8_isFree_25 (E7_copy hM1 (o1 := 22244 + 2 * k) (o2 := 21156 + 2 * (q * 16 + k)) (mc_23 (by omega)) (mc_18 (by omega)) (by omega) (by rw [mv_420 (by omega) (by omega) (by omega)]; have := bgz_cap (ms_b hM1 (o := 21156 + 2 * (q * 16 + k)) (mc_18 (by omega))); rw [mv_48 (by omega) (by omega) (by omega)] at this; exact fit_le this (by decide))) mo7_copy ml_X8_143 in_7_copy se_7_copy (ms_bx hM1 (mc_23 (by omega))).choose_spec rfl rfl rfl rfl rfl ⟨Nat.le_refl _, Nat.le_refl _⟩ rfl (Nat.le_of_ble_eq_true rfl) ?_
        rintro _ w2 ⟨rfl, hM2⟩
        change ze_V G l (ze_rm 6 0 0) M8_isFree _ 28 [(0, .ref m), (1, ze_i ((q : Nat))), (2, ze_i ((q : Nat))), (3, ze_i ((k : Nat)))] [] w2 0 0
        refine ze_iinc (b := ((k + 1 : Nat))) (lv' := [(0, .ref m), (1, ze_i ((q : Nat))), (2, ze_i ((q : Nat))), (3, ze_i (((k + 1 : Nat))))]) dX8_isFree_28 rfl rfl (by omega) rfl ?_
        refine ze_goto 2 dX8_isFree_31 (by decide) ?_
        refine ih (k + 1) _ _ (by omega) hM2 (fun o g0 => by rw [va_up_ne _ _ (by omega)]; exact hf o g0) (fun j hj => ?_)
        by_cases e : j = k
        · rw [e, va_up_self, ew]
        · rw [va_up_ne _ _ (by omega)]; exact hd j (by omega)
  change ze_V G l (ze_rm 6 0 0) M8_isFree Z 0 [(0, .ref m), (1, ze_i ((q : Nat))), (2, ze_i ((q : Nat)))] [] w 0 0
  refine ze_iconst dX8_isFree_0 ?_
  refine ze_ti (b := ((0 : Nat) : Nat)) rfl ?_
  refine ze_istore_n (lv' := [(0, .ref m), (1, ze_i ((q : Nat))), (2, ze_i ((q : Nat))), (3, ze_i (((0 : Nat) : Nat)))]) dX8_isFree_1 rfl rfl ?_
  exact cpy 16 0 bz w (by omega) hM (fun _ _ => rfl) (fun j hj => absurd hj (Nat.not_lt_zero _))
