/-! sums of integers, pigeonholes, spans: the room that a primitive vector takes -/
def sz : Nat → (Nat → Int) → Int
  | 0, _ => 0
  | n + 1, f => sz n f + f n
theorem sz_s (n : Nat) (f : Nat → Int) : sz (n + 1) f = sz n f + f n := rfl
theorem sz_congr {n : Nat} {f g : Nat → Int} (h : ∀ j, j < n → f j = g j) : sz n f = sz n g := by
  induction n with
  | zero => rfl
  | succ n ih => rw [sz_s, sz_s, ih (fun j hj => h j (by omega)), h n (by omega)]
theorem sz_add {n : Nat} {f g : Nat → Int} : sz n (fun j => f j + g j) = sz n f + sz n g := by
  induction n with
  | zero => rfl
  | succ n ih => rw [sz_s, sz_s, sz_s, ih]; omega
theorem sz_mul {n : Nat} {f : Nat → Int} (a : Int) : sz n (fun j => a * f j) = a * sz n f := by
  induction n with
  | zero => exact (Int.mul_zero a).symm
  | succ n ih => rw [sz_s, sz_s, ih, Int.mul_add]
theorem sz_zero {n : Nat} {f : Nat → Int} (h : ∀ j, j < n → f j = 0) : sz n f = 0 := by
  induction n with
  | zero => rfl
  | succ n ih => rw [sz_s, ih (fun j hj => h j (by omega)), h n (by omega)]; rfl
theorem sz_one {n i : Nat} {f : Nat → Int} (hi : i < n) (h : ∀ j, j < n → j ≠ i → f j = 0) : sz n f = f i := by
  induction n with
  | zero => omega
  | succ n ih =>
    rw [sz_s]
    by_cases e : i = n
    · rw [sz_zero (fun j hj => h j (by omega) (by omega)), e, Int.zero_add]
    · rw [ih (by omega) (fun j hj hne => h j (by omega) hne), h n (by omega) (by omega), Int.add_zero]
theorem sz_swap {n m : Nat} {f : Nat → Nat → Int} : sz n (fun i => sz m (fun j => f i j)) = sz m (fun j => sz n (fun i => f i j)) := by
  induction n with
  | zero => exact (sz_zero (fun j _ => rfl)).symm
  | succ n ih =>
    rw [sz_s, ih, ← sz_add]
    rfl
theorem sz_abs {n B : Nat} {f : Nat → Int} (h : ∀ j, j < n → (f j).natAbs ≤ B) : (sz n f).natAbs ≤ n * B := by
  induction n with
  | zero => exact Nat.zero_le _
  | succ n ih =>
    have h1 := ih (fun j hj => h j (by omega))
    have h2 := h n (by omega)
    rw [sz_s, Nat.add_mul, Nat.one_mul]
    generalize n * B = q at *
    omega
theorem php {N M : Nat} (f : Nat → Nat) (hM : N < M) (h : ∀ i, i < M → f i < N) : ∃ i j, i < j ∧ j < M ∧ f i = f j := by
  induction N generalizing M f with
  | zero => exact absurd (h 0 (by omega)) (Nat.not_lt_zero _)
  | succ N ih =>
    by_cases hex : ∃ i, i < M - 1 ∧ f i = f (M - 1)
    · obtain ⟨i, h1, h2⟩ := hex
      exact ⟨i, M - 1, h1, by omega, h2⟩
    · have hne : ∀ i, i < M - 1 → f i ≠ f (M - 1) := fun i h1 h2 => hex ⟨i, h1, h2⟩
      have hl := h (M - 1) (by omega)
      obtain ⟨i, j, h1, h2, h3⟩ := ih (M := M - 1) (fun i => if f i = N then f (M - 1) else f i) (by omega) (fun i hi => by
        have a1 := h i (by omega)
        have a2 := hne i hi
        show (if f i = N then f (M - 1) else f i) < N
        split <;> omega)
      refine ⟨i, j, h1, by omega, ?_⟩
      have b1 := hne i (by omega)
      have b2 := hne j h2
      have h3 : (if f i = N then f (M - 1) else f i) = (if f j = N then f (M - 1) else f j) := h3
      split at h3 <;> split at h3 <;> omega
theorem nv_dg {D N : Nat} (m : Nat) : nv D (fun i => N / D ^ i % D) m = N % D ^ m := by
  induction m with
  | zero => rw [Nat.pow_zero, Nat.mod_one]; rfl
  | succ m ih => rw [nv_s, ih, Nat.pow_succ, Nat.mod_mul, Nat.mul_comm (N / D ^ m % D)]
theorem nv_inj {Q n : Nat} {f g : Nat → Nat} (hf : ∀ j, j < n → f j < Q) (hg : ∀ j, j < n → g j < Q) (h : nv Q f n = nv Q g n) : ∀ j, j < n → f j = g j := by
  induction n with
  | zero => intro j hj; omega
  | succ n ih =>
    have h1 := nv_lt (fun j hj => hf j (by omega)) (n := n) (f := f) (B := Q)
    have h2 := nv_lt (fun j hj => hg j (by omega)) (n := n) (f := g) (B := Q)
    rw [nv_s, nv_s] at h
    have e : f n = g n := by
      have a1 : (nv Q f n + f n * Q ^ n) / Q ^ n = f n := by
        rw [Nat.add_mul_div_right _ _ (by omega), Nat.div_eq_of_lt h1, Nat.zero_add]
      have a2 : (nv Q g n + g n * Q ^ n) / Q ^ n = g n := by
        rw [Nat.add_mul_div_right _ _ (by omega), Nat.div_eq_of_lt h2, Nat.zero_add]
      rw [← a1, ← a2, h]
    intro j hj
    by_cases ej : j = n
    · rw [ej]; exact e
    · rw [e] at h
      exact ih (fun j hj => hf j (by omega)) (fun j hj => hg j (by omega)) (by omega) j (by omega)
theorem sm_sz {n : Nat} {f : Nat → Nat} : ((sm n f : Nat) : Int) = sz n (fun j => ((f j : Nat) : Int)) := by
  induction n with
  | zero => rfl
  | succ n ih => rw [sm_s, sz_s, Int.natCast_add, ih]
/-- a small combination that is 0 at f places -/
theorem siegel {f V : Nat} {X : Nat → Nat → Nat} {ow : Nat → Nat} (hV : 1 ≤ V) (hX : ∀ i k, i < f + 1 → k < 16 → X i k ≤ V) (how : ∀ j, j < f → ow j < 16) : ∃ c : Nat → Int, (∃ i, i < f + 1 ∧ c i ≠ 0) ∧ (∀ i, i < f + 1 → (c i).natAbs ≤ ((f + 1) * V) ^ f) ∧ ∀ j, j < f → sz (f + 1) (fun i => c i * (X i (ow j) : Nat)) = 0 := by
  obtain ⟨C, hC⟩ : ∃ C, C = ((f + 1) * V) ^ f := ⟨_, rfl⟩
  obtain ⟨R, hR⟩ : ∃ R, R = (f + 1) * (C * V) := ⟨_, rfl⟩
  have hS : ∀ N j, j < f → sm (f + 1) (fun i => N / (C + 1) ^ i % (C + 1) * X i (ow j)) < R + 1 := by
    intro N j hj
    have : sm (f + 1) (fun i => N / (C + 1) ^ i % (C + 1) * X i (ow j)) ≤ (f + 1) * (C * V) := by
      apply sm_le
      intro i hi
      have h1 : N / (C + 1) ^ i % (C + 1) < C + 1 := Nat.mod_lt _ (by omega)
      exact Nat.mul_le_mul (by omega) (hX i _ hi (how j hj))
    omega
  have hcount : (R + 1) ^ f < (C + 1) ^ (f + 1) := by
    have h1 : R + 1 ≤ (f + 1) * V * (C + 1) := by
      have e : (f + 1) * V * (C + 1) = (f + 1) * (C * V) + (f + 1) * V := by
        rw [Nat.mul_add, Nat.mul_one, Nat.mul_assoc, Nat.mul_comm V C]
      have h2 : 1 * 1 ≤ (f + 1) * V := Nat.mul_le_mul (by omega) hV
      omega
    calc (R + 1) ^ f ≤ ((f + 1) * V * (C + 1)) ^ f := Nat.pow_le_pow_left h1 f
      _ = C * (C + 1) ^ f := by rw [Nat.mul_pow, ← hC]
      _ < (C + 1) ^ f * (C + 1) := by
        rw [Nat.mul_comm]
        exact Nat.mul_lt_mul_of_pos_left (Nat.lt_succ_self C) (Nat.pow_pos (Nat.succ_pos C))
      _ = (C + 1) ^ (f + 1) := (Nat.pow_succ _ _).symm
  obtain ⟨N1, N2, h1, h2, h3⟩ := php (fun N => nv (R + 1) (fun j => sm (f + 1) (fun i => N / (C + 1) ^ i % (C + 1) * X i (ow j))) f) hcount (fun N _ => nv_lt (fun j hj => hS N j hj))
  have h4 := nv_inj (hS N1) (hS N2) h3
  refine ⟨fun i => ((N1 / (C + 1) ^ i % (C + 1) : Nat) : Int) - ((N2 / (C + 1) ^ i % (C + 1) : Nat) : Int), ?_, ?_, ?_⟩
  · apply Classical.byContradiction
    intro hno
    have heq : ∀ i, i < f + 1 → N1 / (C + 1) ^ i % (C + 1) = N2 / (C + 1) ^ i % (C + 1) := by
      intro i hi
      apply Classical.byContradiction
      intro hne
      exact hno ⟨i, hi, fun h0 => hne (by have h0 : (((N1 / (C + 1) ^ i % (C + 1) : Nat) : Int) - ((N2 / (C + 1) ^ i % (C + 1) : Nat) : Int)) = 0 := h0; omega)⟩
    have e1 := nv_dg (D := C + 1) (N := N1) (f + 1)
    have e2 := nv_dg (D := C + 1) (N := N2) (f + 1)
    rw [nv_congr heq, e2, Nat.mod_eq_of_lt h2, Nat.mod_eq_of_lt (by omega)] at e1
    omega
  · intro i hi
    have a1 : N1 / (C + 1) ^ i % (C + 1) < C + 1 := Nat.mod_lt _ (by omega)
    have a2 : N2 / (C + 1) ^ i % (C + 1) < C + 1 := Nat.mod_lt _ (by omega)
    rw [← hC]
    show (((N1 / (C + 1) ^ i % (C + 1) : Nat) : Int) - ((N2 / (C + 1) ^ i % (C + 1) : Nat) : Int)).natAbs ≤ C
    generalize N1 / (C + 1) ^ i % (C + 1) = x1 at *
    generalize N2 / (C + 1) ^ i % (C + 1) = x2 at *
    omega
  · intro j hj
    have e := h4 j hj
    have e1 := congrArg (fun x : Nat => (x : Int)) e
    simp only [sm_sz] at e1
    have e2 : sz (f + 1) (fun i => (((N1 / (C + 1) ^ i % (C + 1) : Nat) : Int) - ((N2 / (C + 1) ^ i % (C + 1) : Nat) : Int)) * (X i (ow j) : Nat)) = sz (f + 1) (fun i => ((N1 / (C + 1) ^ i % (C + 1) * X i (ow j) : Nat) : Int)) + (-1) * sz (f + 1) (fun i => ((N2 / (C + 1) ^ i % (C + 1) * X i (ow j) : Nat) : Int)) := by
      rw [← sz_mul, ← sz_add]
      apply sz_congr
      intro i _
      rw [Int.natCast_mul, Int.natCast_mul, Int.sub_mul, Int.neg_mul, Int.one_mul, Int.sub_eq_add_neg]
    rw [e2, e1]
    omega
/-- rows with pivots -/
def tri (fr : Nat → Nat → Int) (ow : Nat → Nat) (g : Nat) : Prop := ∀ j, j < g → ow j < 16 ∧ fr j (ow j) ≠ 0 ∧ ∀ i, i < j → fr j (ow i) = 0
theorem tri_le {fr : Nat → Nat → Int} {ow : Nat → Nat} {g h : Nat} (ht : tri fr ow g) (hh : h ≤ g) : tri fr ow h := fun j hj => ht j (by omega)
theorem tri_zero {fr : Nat → Nat → Int} {ow : Nat → Nat} {g : Nat} {b : Nat → Int} (ht : tri fr ow g) (h : ∀ j, j < g → sz g (fun i => b i * fr i (ow j)) = 0) (i : Nat) : i < g → b i = 0 := by
  induction i using Nat.strongRecOn with
  | _ i ih =>
    intro hi
    have h1 := h i hi
    rw [sz_one hi (fun j hj hne => by
      rcases Nat.lt_or_ge j i with h2 | h2
      · rw [ih j h2 hj, Int.zero_mul]
      · rw [(ht j hj).2.2 i (by omega), Int.mul_zero])] at h1
    rcases Int.mul_eq_zero.1 h1 with h2 | h2
    · exact h2
    · exact absurd h2 (ht i hi).2.1
/-- row i of X by the first i + 1 rows of fr, the last of them with a factor that isn't 0 -/
def rep (X fr : Nat → Nat → Int) (i : Nat) : Prop := ∃ (N : Int) (b : Nat → Int), N ≠ 0 ∧ b i ≠ 0 ∧ ∀ k, k < 16 → N * X i k = sz (i + 1) (fun j => b j * fr j k)
theorem sz_more {n d : Nat} {f : Nat → Int} (h : ∀ j, n ≤ j → j < n + d → f j = 0) : sz (n + d) f = sz n f := by
  induction d with
  | zero => rfl
  | succ d ih => rw [← Nat.add_assoc, sz_s, ih (fun j h1 h2 => h j h1 (by omega)), h (n + d) (by omega) (by omega), Int.add_zero]
theorem span {X fr : Nat → Nat → Int} {c : Nat → Int} (g : Nat) (hr : ∀ i, i < g → rep X fr i) : ∃ (N : Int) (b : Nat → Int), N ≠ 0 ∧ ∀ k, k < 16 → N * sz g (fun i => c i * X i k) = sz g (fun j => b j * fr j k) := by
  induction g with
  | zero => exact ⟨1, fun _ => 0, by decide, fun k _ => rfl⟩
  | succ g ih =>
    obtain ⟨N, b, hN, hb⟩ := ih (fun i hi => hr i (by omega))
    obtain ⟨N2, b2, hN2, -, hb2⟩ := hr g (by omega)
    refine ⟨N * N2, fun j => (if j < g then N2 * b j else 0) + N * c g * b2 j, Int.mul_ne_zero hN hN2, fun k hk => ?_⟩
    have e1 : sz (g + 1) (fun j => ((if j < g then N2 * b j else 0) + N * c g * b2 j) * fr j k) = sz (g + 1) (fun j => (if j < g then N2 * b j else 0) * fr j k) + N * c g * sz (g + 1) (fun j => b2 j * fr j k) := by
      rw [← sz_mul, ← sz_add]
      apply sz_congr
      intro j _
      rw [Int.add_mul, Int.mul_assoc (N * c g)]
    have e2 : sz (g + 1) (fun j => (if j < g then N2 * b j else 0) * fr j k) = N2 * sz g (fun j => b j * fr j k) := by
      rw [sz_s, if_neg (Nat.lt_irrefl g), Int.zero_mul, Int.add_zero, ← sz_mul]
      apply sz_congr
      intro j hj
      rw [if_pos hj, Int.mul_assoc]
    rw [e1, e2, ← hb k hk, ← hb2 k hk, sz_s, Int.mul_add]
    have a1 : N * N2 * sz g (fun i => c i * X i k) = N2 * (N * sz g (fun i => c i * X i k)) := by
      rw [Int.mul_comm N N2, Int.mul_assoc]
    have a2 : N * N2 * (c g * X g k) = N * c g * (N2 * X g k) := by
      rw [Int.mul_assoc, Int.mul_assoc, Int.mul_left_comm N2]
    rw [a1, a2]
theorem indep {X fr : Nat → Nat → Int} {ow : Nat → Nat} {c : Nat → Int} (g : Nat) (ht : tri fr ow g) (hr : ∀ i, i < g → rep X fr i) (h : ∀ k, k < 16 → sz g (fun i => c i * X i k) = 0) : ∀ i, i < g → c i = 0 := by
  induction g with
  | zero => intro i hi; omega
  | succ g ih =>
    obtain ⟨N, b, hN, hb⟩ := span (c := c) g (fun i hi => hr i (by omega))
    obtain ⟨N2, b2, hN2, hb2g, hb2⟩ := hr g (by omega)
    have hz : ∀ k, k < 16 → sz (g + 1) (fun j => ((if j < g then N2 * b j else 0) + N * c g * b2 j) * fr j k) = 0 := by
      intro k hk
      have e1 : sz (g + 1) (fun j => ((if j < g then N2 * b j else 0) + N * c g * b2 j) * fr j k) = sz (g + 1) (fun j => (if j < g then N2 * b j else 0) * fr j k) + N * c g * sz (g + 1) (fun j => b2 j * fr j k) := by
        rw [← sz_mul, ← sz_add]
        apply sz_congr
        intro j _
        rw [Int.add_mul, Int.mul_assoc (N * c g)]
      have e2 : sz (g + 1) (fun j => (if j < g then N2 * b j else 0) * fr j k) = N2 * sz g (fun j => b j * fr j k) := by
        rw [sz_s, if_neg (Nat.lt_irrefl g), Int.zero_mul, Int.add_zero, ← sz_mul]
        apply sz_congr
        intro j hj
        rw [if_pos hj, Int.mul_assoc]
      rw [e1, e2, ← hb k hk, ← hb2 k hk]
      have h1 := h k hk
      rw [sz_s] at h1
      have a1 : N2 * (N * sz g (fun i => c i * X i k)) + N * c g * (N2 * X g k) = N2 * N * (sz g (fun i => c i * X i k) + c g * X g k) := by
        rw [Int.mul_add, Int.mul_assoc N2 N, Int.mul_comm N2 N, Int.mul_assoc N N2, Int.mul_assoc N (c g), Int.mul_left_comm N2 (c g)]
      rw [a1, h1, Int.mul_zero]
    have hb0 := tri_zero ht (fun j hj => hz _ (ht j hj).1) g (by omega)
    have hb0 : (if g < g then N2 * b g else 0) + N * c g * b2 g = 0 := hb0
    rw [if_neg (Nat.lt_irrefl g), Int.zero_add] at hb0
    have hcg : c g = 0 := by
      rcases Int.mul_eq_zero.1 hb0 with h1 | h1
      · rcases Int.mul_eq_zero.1 h1 with h2 | h2
        · exact absurd h2 hN
        · exact h2
      · exact absurd h1 hb2g
    have h2 : ∀ k, k < 16 → sz g (fun i => c i * X i k) = 0 := by
      intro k hk
      have := h k hk
      rw [sz_s, hcg, Int.zero_mul, Int.add_zero] at this
      exact this
    intro i hi
    by_cases e : i = g
    · rw [e]; exact hcg
    · exact ih (tri_le ht (by omega)) (fun i hi => hr i (by omega)) h2 i (by omega)
theorem gz_all {z : Nat → Int} {N b : Int} {n : Nat} (h : ∀ k, k < n → N ∣ b * z k) : N ∣ b * (gz z n : Nat) := by
  induction n with
  | zero => rw [show ((gz z 0 : Nat) : Int) = 0 from rfl, Int.mul_zero]; exact Int.dvd_zero N
  | succ n ih =>
    have h1 := Int.natAbs_dvd_natAbs.2 (ih (fun k hk => h k (by omega)))
    have h2 := Int.natAbs_dvd_natAbs.2 (h n (by omega))
    rw [Int.natAbs_mul, Int.natAbs_natCast] at h1
    rw [Int.natAbs_mul] at h2
    apply Int.natAbs_dvd_natAbs.1
    rw [Int.natAbs_mul, Int.natAbs_natCast, gz_s, ← Nat.gcd_mul_left]
    exact Nat.dvd_gcd h1 h2
/-- a primitive row that is 0 at the pivots ahead is small -/
theorem prim_le {f V : Nat} {X : Nat → Nat → Nat} {fr : Nat → Nat → Int} {ow : Nat → Nat} (hV : 1 ≤ V) (hX : ∀ i k, i < f + 1 → k < 16 → X i k ≤ V) (ht : tri fr ow (f + 1)) (hr : ∀ i, i < f + 1 → rep (fun i k => (X i k : Nat)) fr i) (hg : gz (fr f) 16 = 1) (k : Nat) (hk : k < 16) : (fr f k).natAbs ≤ ((f + 1) * V) ^ (f + 1) := by
  obtain ⟨c, ⟨i0, hi0, hc0⟩, hcb, hcz⟩ := siegel (f := f) (ow := ow) hV hX (fun j hj => (ht j (by omega)).1)
  obtain ⟨N, b, hN, hb⟩ := span (c := c) (f + 1) hr
  have hb0 : ∀ i, i < f → b i = 0 := tri_zero (tri_le ht (by omega)) (fun j hj => by
    have h1 := hb (ow j) (ht j (by omega)).1
    rw [hcz j hj, Int.mul_zero, sz_s, (ht f (by omega)).2.2 j hj, Int.mul_zero, Int.add_zero] at h1
    exact h1.symm)
  have hu : ∀ q, q < 16 → N * sz (f + 1) (fun i => c i * (X i q : Nat)) = b f * fr f q := by
    intro q hq
    rw [hb q hq, sz_s, sz_zero (fun j hj => by rw [hb0 j hj, Int.zero_mul]), Int.zero_add]
  have hdv : N ∣ b f := by
    have := gz_all (z := fr f) (N := N) (b := b f) (n := 16) (fun q hq => ⟨_, (hu q hq).symm⟩)
    rw [hg] at this
    rw [show ((1 : Nat) : Int) = 1 from rfl, Int.mul_one] at this
    exact this
  obtain ⟨t, ht2⟩ := hdv
  have hut : ∀ q, q < 16 → sz (f + 1) (fun i => c i * (X i q : Nat)) = t * fr f q := by
    intro q hq
    have h1 := hu q hq
    rw [ht2, Int.mul_assoc] at h1
    exact Int.eq_of_mul_eq_mul_left hN h1
  have ht0 : t ≠ 0 := by
    intro h0
    refine hc0 (indep (f + 1) ht hr (fun q hq => ?_) i0 hi0)
    show sz (f + 1) (fun i => c i * (X i q : Nat)) = 0
    rw [hut q hq, h0, Int.zero_mul]
  have h1 := sz_abs (n := f + 1) (B := ((f + 1) * V) ^ f * V) (f := fun i => c i * (X i k : Nat)) (fun i hi => by
    show (c i * (X i k : Nat)).natAbs ≤ _
    rw [Int.natAbs_mul, Int.natAbs_natCast]
    exact Nat.mul_le_mul (hcb i hi) (hX i k hi hk))
  rw [hut k hk, Int.natAbs_mul] at h1
  have h2 : 1 * (fr f k).natAbs ≤ t.natAbs * (fr f k).natAbs := Nat.mul_le_mul_right _ (by omega)
  have h3 : (f + 1) * (((f + 1) * V) ^ f * V) = ((f + 1) * V) ^ (f + 1) := by
    rw [Nat.pow_succ, Nat.mul_left_comm]
  rw [Nat.one_mul] at h2
  rw [← h3]
  exact Nat.le_trans h2 h1
