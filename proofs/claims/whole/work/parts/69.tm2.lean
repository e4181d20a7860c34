/-! Teller: the ten primes -/
def tm_rng (p : Nat) : Nat → Nat → Bool
  | 0, lo => !(Nat.beq (p % (2 * lo + 3)) 0)
  | k + 1, lo => tm_rng p k lo && tm_rng p k (lo + 2 ^ k)
theorem tm_rng_ok {p : Nat} (k : Nat) : ∀ lo, tm_rng p k lo = true → ∀ i, i < 2 ^ k → p % (2 * (lo + i) + 3) ≠ 0 := by
  induction k with
  | zero =>
    intro lo h i hi h2
    have hi0 : i = 0 := by
      rw [Nat.pow_zero] at hi
      omega
    have h3 : p % (2 * lo + 3) = 0 := by rw [hi0] at h2; exact h2
    unfold tm_rng at h
    rw [h3] at h
    exact absurd h (by decide)
  | succ k ih =>
    intro lo h i hi
    unfold tm_rng at h
    rw [Bool.and_eq_true] at h
    by_cases k1 : i < 2 ^ k
    · exact ih lo h.1 i k1
    · have := ih (lo + 2 ^ k) h.2 (i - 2 ^ k) (by rw [Nat.pow_succ] at hi; omega)
      rw [show lo + 2 ^ k + (i - 2 ^ k) = lo + i by omega] at this
      exact this
theorem tm_prime {p : Nat} (h2 : p % 2 ≠ 0) (hp : 2 ≤ p ∧ p < 4294967296) (h : tm_rng p 15 0 = true) (g : Nat) (hg : g ∣ p) : g = 1 ∨ g = p := by
  have aux : ∀ d e : Nat, p = d * e → 2 ≤ d → d < 65536 → False := by
    intro d e hde hd1 hd2
    have hodd : d % 2 ≠ 0 := by
      intro h3
      apply h2
      rw [hde, Nat.mul_mod, h3, Nat.zero_mul]
    have h4 := tm_rng_ok 15 0 h ((d - 3) / 2) (by rw [show (2 : Nat) ^ 15 = 32768 from rfl]; omega)
    rw [show 2 * (0 + (d - 3) / 2) + 3 = d by omega] at h4
    apply h4
    rw [hde]
    exact Nat.mul_mod_right d e
  obtain ⟨k, hk⟩ := hg
  by_cases g1 : g = 1
  · exact Or.inl g1
  · by_cases k1 : k = 1
    · right; rw [hk, k1, Nat.mul_one]
    · exfalso
      have g0 : g ≠ 0 := fun h0 => by rw [h0, Nat.zero_mul] at hk; omega
      have k0 : k ≠ 0 := fun h0 => by rw [h0, Nat.mul_zero] at hk; omega
      by_cases hs : g < 65536
      · exact aux g k hk (by omega) hs
      · by_cases hs2 : k < 65536
        · exact aux k g (by rw [hk, Nat.mul_comm]) (by omega) hs2
        · have := Nat.mul_le_mul (show 65536 ≤ g by omega) (show 65536 ≤ k by omega)
          omega
theorem tm_prm_of {p : Nat} (h2 : p % 2 ≠ 0) (hp : 2 ≤ p ∧ p < 4294967296) (h : tm_rng p 15 0 = true) : tm_prm (p : Int) := by
  refine ⟨fun h1 => ?_, fun a b hab => ?_⟩
  · have h3 : p ∣ 1 := Int.natCast_dvd_natCast.mp h1
    have := Nat.le_of_dvd (by decide) h3
    omega
  · have hab := Int.natCast_dvd_natCast.mp (Int.dvd_natAbs.mpr hab)
    rw [Int.natAbs_mul] at hab
    rcases tm_prime h2 hp h (Nat.gcd p a.natAbs) (Nat.gcd_dvd_left _ _) with hg | hg
    · right
      exact Int.dvd_natAbs.mp (Int.natCast_dvd_natCast.mpr (Nat.Coprime.dvd_of_dvd_mul_left hg hab))
    · left
      refine Int.dvd_natAbs.mp (Int.natCast_dvd_natCast.mpr ?_)
      have := Nat.gcd_dvd_right p a.natAbs
      rw [hg] at this
      exact this
theorem tm_r0 : tm_rng 2147483647 15 0 = true := by decide +kernel
theorem tm_r1 : tm_rng 2147483629 15 0 = true := by decide +kernel
theorem tm_r2 : tm_rng 2147483587 15 0 = true := by decide +kernel
theorem tm_r3 : tm_rng 2147483579 15 0 = true := by decide +kernel
theorem tm_r4 : tm_rng 2147483563 15 0 = true := by decide +kernel
theorem tm_r5 : tm_rng 2147483549 15 0 = true := by decide +kernel
theorem tm_r6 : tm_rng 2147483543 15 0 = true := by decide +kernel
theorem tm_r7 : tm_rng 2147483497 15 0 = true := by decide +kernel
theorem tm_r8 : tm_rng 2147483489 15 0 = true := by decide +kernel
theorem tm_r9 : tm_rng 2147483477 15 0 = true := by decide +kernel
theorem tm_pr (j : Nat) (hj : j < 10) : tm_prm (ze_pr j) ∧ 1000000000 < ze_pr j ∧ ze_pr j < 2147483648 := by
  match j, hj with
  | 0, _ => exact ⟨tm_prm_of (p := 2147483647) (by decide) (by decide) tm_r0, by decide, by decide⟩
  | 1, _ => exact ⟨tm_prm_of (p := 2147483629) (by decide) (by decide) tm_r1, by decide, by decide⟩
  | 2, _ => exact ⟨tm_prm_of (p := 2147483587) (by decide) (by decide) tm_r2, by decide, by decide⟩
  | 3, _ => exact ⟨tm_prm_of (p := 2147483579) (by decide) (by decide) tm_r3, by decide, by decide⟩
  | 4, _ => exact ⟨tm_prm_of (p := 2147483563) (by decide) (by decide) tm_r4, by decide, by decide⟩
  | 5, _ => exact ⟨tm_prm_of (p := 2147483549) (by decide) (by decide) tm_r5, by decide, by decide⟩
  | 6, _ => exact ⟨tm_prm_of (p := 2147483543) (by decide) (by decide) tm_r6, by decide, by decide⟩
  | 7, _ => exact ⟨tm_prm_of (p := 2147483497) (by decide) (by decide) tm_r7, by decide, by decide⟩
  | 8, _ => exact ⟨tm_prm_of (p := 2147483489) (by decide) (by decide) tm_r8, by decide, by decide⟩
  | 9, _ => exact ⟨tm_prm_of (p := 2147483477) (by decide) (by decide) tm_r9, by decide, by decide⟩
  | (k + 10), h => exact absurd h (by omega)
def tm_pp : Nat → Int
  | 0 => 1
  | j + 1 => tm_pp j * ze_pr j
theorem tm_pp_no (j : Nat) (hj : j < 10) : ¬ ze_pr j ∣ tm_pp j := by
  match j, hj with
  | 0, _ => decide +kernel
  | 1, _ => decide +kernel
  | 2, _ => decide +kernel
  | 3, _ => decide +kernel
  | 4, _ => decide +kernel
  | 5, _ => decide +kernel
  | 6, _ => decide +kernel
  | 7, _ => decide +kernel
  | 8, _ => decide +kernel
  | 9, _ => decide +kernel
  | (k + 10), h => exact absurd h (by omega)
theorem tm_pp_big (j : Nat) (hj : j < 10) : 10 ^ (9 * (j + 1)) < (tm_pp (j + 1)).natAbs := by
  match j, hj with
  | 0, _ => decide +kernel
  | 1, _ => decide +kernel
  | 2, _ => decide +kernel
  | 3, _ => decide +kernel
  | 4, _ => decide +kernel
  | 5, _ => decide +kernel
  | 6, _ => decide +kernel
  | 7, _ => decide +kernel
  | 8, _ => decide +kernel
  | 9, _ => decide +kernel
  | (k + 10), h => exact absurd h (by omega)
theorem tm_pp_dvd {D : Int} (i : Nat) (hi : i ≤ 10) (h : ∀ j, j < i → ze_pr j ∣ D) : tm_pp i ∣ D := by
  induction i with
  | zero => exact Int.one_dvd D
  | succ i ih =>
    obtain ⟨E, hE⟩ := ih (by omega) (fun j hj => h j (by omega))
    have h1 := h i (by omega)
    rw [hE] at h1
    rcases (tm_pr i (by omega)).1.2 _ _ h1 with h2 | ⟨E', h2⟩
    · exact absurd h2 (tm_pp_no i (by omega))
    · refine ⟨E', ?_⟩
      rw [hE, h2]
      show _ = tm_pp i * ze_pr i * E'
      rw [Int.mul_assoc]
/-- enough primes divide no number but 0 -/
theorem tm_enough {D : Int} {r i : Nat} (hr : 1 ≤ r) (hi : i ≤ 10 ∧ 2 * r ≤ 3 * i) (hD : D.natAbs ≤ 10 ^ (6 * r)) (h : ∀ j, j < i → ze_pr j ∣ D) : D = 0 := by
  obtain ⟨k, rfl⟩ : ∃ k, i = k + 1 := ⟨i - 1, by omega⟩
  exact Int.eq_zero_of_dvd_of_natAbs_lt_natAbs (tm_pp_dvd (k + 1) hi.1 h) (Nat.lt_of_le_of_lt (Nat.le_trans hD (Nat.pow_le_pow_right (by decide) (by omega))) (tm_pp_big k (by omega)))
/-! words: their signs from the first on, and their order -/
def tm_rd : List Nat → Nat → Nat
  | [], _ => 0
  | x :: u, j => if j = u.length then x else tm_rd u j
theorem tm_rd_l {x : Nat} {u : List Nat} : tm_rd (x :: u) u.length = x := if_pos rfl
theorem tm_rd_n {x j : Nat} {u : List Nat} (h : j ≠ u.length) : tm_rd (x :: u) j = tm_rd u j := if_neg h
theorem tm_rd_lt {K : Nat} (hK : 0 < K) (u : List Nat) (h : alw K u) (j : Nat) : tm_rd u j < K := by
  induction u with
  | nil => exact hK
  | cons x u ih =>
    by_cases k : j = u.length
    · rw [k, tm_rd_l]; exact h.1
    · rw [tm_rd_n k]; exact ih h.2
theorem tm_rd_get (z : List Nat) : ∀ j, j < z.length → tm_rd z (z.length - 1 - j) = z.getD j 0 := by
  induction z with
  | nil => intro j hj; exact absurd hj (Nat.not_lt_zero _)
  | cons x u ih =>
    intro j hj
    have hj : j < u.length + 1 := hj
    show tm_rd (x :: u) (u.length + 1 - 1 - j) = _
    cases j with
    | zero => rw [show u.length + 1 - 1 - 0 = u.length by omega, tm_rd_l]; rfl
    | succ j =>
      rw [tm_rd_n (by omega), show u.length + 1 - 1 - (j + 1) = u.length - 1 - j by omega, ih j (by omega)]
      rfl
def tm_lo : Nat → Nat
  | 0 => 0
  | L + 1 => 7 * tm_lo L + 1
theorem tm_lo_le (z : List Nat) : ∀ L, L ≤ z.length → tm_lo L ≤ wcd z := by
  induction z with
  | nil =>
    intro L hL
    have : L = 0 := Nat.le_zero.mp hL
    rw [this]
    exact Nat.le_refl _
  | cons x u ih =>
    intro L hL
    cases L with
    | zero => exact Nat.zero_le _
    | succ L =>
      have := ih L (Nat.le_of_succ_le_succ hL)
      show 7 * tm_lo L + 1 ≤ 7 * wcd u + (x + 1)
      omega
theorem tm_lt_lo {K : Nat} (hK : K ≤ 6) (z : List Nat) : ∀ L, alw K z → z.length < L → wcd z < tm_lo L := by
  induction z with
  | nil =>
    intro L _ hL
    cases L with
    | zero => exact absurd hL (Nat.not_lt_zero _)
    | succ L => show 0 < 7 * tm_lo L + 1; omega
  | cons x u ih =>
    intro L h hL
    cases L with
    | zero => exact absurd hL (Nat.not_lt_zero _)
    | succ L =>
      have h1 := ih L h.2 (Nat.lt_of_succ_lt_succ hL)
      have h2 := h.1
      show 7 * wcd u + (x + 1) < 7 * tm_lo L + 1
      omega
theorem tm_len_lt {K : Nat} (hK : K ≤ 6) {u v : List Nat} (hu : alw K u) (h : u.length < v.length) : wcd u < wcd v := Nat.lt_of_lt_of_le (tm_lt_lo hK u _ hu h) (tm_lo_le v _ (Nat.le_refl _))
theorem tm_same (u : List Nat) : ∀ v : List Nat, u.length = v.length → (∀ j, j < u.length → tm_rd u j = tm_rd v j) → u = v := by
  induction u with
  | nil => intro v h _; exact (List.length_eq_zero_iff.mp h.symm).symm
  | cons x u ih =>
    intro v h hj
    cases v with
    | nil => exact absurd h (Nat.succ_ne_zero _)
    | cons y v =>
      have hl : u.length = v.length := Nat.succ.inj h
      have h1 := hj u.length (Nat.lt_succ_self _)
      rw [tm_rd_l, hl, tm_rd_l] at h1
      rw [h1, ih v hl (fun j hj2 => by
        have := hj j (Nat.lt_succ_of_lt hj2)
        rw [tm_rd_n (by omega), tm_rd_n (by omega)] at this
        exact this)]
theorem tm_lex {K : Nat} (hK : K ≤ 6) (u : List Nat) : ∀ (v : List Nat) (i : Nat), alw K u → u.length = v.length → i < u.length → (∀ j, j < i → tm_rd u j = tm_rd v j) → tm_rd u i < tm_rd v i → wcd u < wcd v := by
  induction u with
  | nil => intro v i _ _ hi; exact absurd hi (Nat.not_lt_zero _)
  | cons x u ih =>
    intro v i ha h hi hj hlt
    cases v with
    | nil => exact absurd h (Nat.succ_ne_zero _)
    | cons y v =>
      have hl : u.length = v.length := Nat.succ.inj h
      have hi : i < u.length + 1 := hi
      show 7 * wcd u + (x + 1) < 7 * wcd v + (y + 1)
      have hx := ha.1
      by_cases k : i = u.length
      · rw [k, tm_rd_l, hl, tm_rd_l] at hlt
        have e : u = v := tm_same u v hl (fun j hj2 => by
          have := hj j (by omega)
          rw [tm_rd_n (by omega), tm_rd_n (by omega)] at this
          exact this)
        rw [e]
        omega
      · rw [tm_rd_n k, tm_rd_n (by omega)] at hlt
        have := ih v i ha.2 hl (by omega) (fun j hj2 => by
          have := hj j hj2
          rw [tm_rd_n (by omega), tm_rd_n (by omega)] at this
          exact this) hlt
        omega
