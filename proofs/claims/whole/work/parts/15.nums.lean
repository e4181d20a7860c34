/-! numbers by digits -/
def nv (B : Nat) (f : Nat → Nat) : Nat → Nat
  | 0 => 0
  | n + 1 => nv B f n + f n * B ^ n
theorem nv_s (B : Nat) (f : Nat → Nat) (n : Nat) : nv B f (n + 1) = nv B f n + f n * B ^ n := rfl
def bt (f : Nat → Nat) (n j : Nat) : Nat := if j < n then f j else 0
theorem nv_congr {B : Nat} {f g : Nat → Nat} {n : Nat} (h : ∀ j, j < n → f j = g j) : nv B f n = nv B g n := by
  induction n with
  | zero => rfl
  | succ n ih =>
    unfold nv
    rw [ih (fun j hj => h j (by omega)), h n (by omega)]
theorem nv_lt {B : Nat} {f : Nat → Nat} {n : Nat} (h : ∀ j, j < n → f j < B) : nv B f n < B ^ n := by
  induction n with
  | zero => simp [nv]
  | succ n ih =>
    unfold nv
    have h1 := ih (fun j hj => h j (by omega))
    have h2 := h n (by omega)
    have h3 : (f n + 1) * B ^ n ≤ B * B ^ n := Nat.mul_le_mul_right _ h2
    rw [Nat.pow_succ, Nat.mul_comm (B ^ n) B]
    rw [Nat.add_mul] at h3
    omega
theorem nv_ext {B : Nat} {f : Nat → Nat} {n : Nat} (d : Nat) (h : ∀ j, n ≤ j → j < n + d → f j = 0) : nv B f (n + d) = nv B f n := by
  induction d with
  | zero => rfl
  | succ d ih =>
    rw [show n + (d + 1) = (n + d) + 1 by omega, nv_s, ih (fun j h1 h2 => h j h1 (by omega)), h (n + d) (by omega) (by omega)]
    simp
theorem nv_bt {B : Nat} {f : Nat → Nat} {n m : Nat} (h : n ≤ m) : nv B (bt f n) m = nv B f n := by
  obtain ⟨d, rfl⟩ := Nat.exists_eq_add_of_le h
  rw [nv_ext d (fun j h1 _ => by unfold bt; rw [if_neg (by omega)])]
  exact nv_congr (fun j hj => by unfold bt; rw [if_pos hj])
theorem nv_ge {B : Nat} {f : Nat → Nat} {n : Nat} (h : f n ≠ 0) : B ^ n ≤ nv B f (n + 1) := by
  unfold nv
  have : 1 * B ^ n ≤ f n * B ^ n := Nat.mul_le_mul_right _ (Nat.pos_of_ne_zero h)
  omega
theorem bt_lt {f : Nat → Nat} {B n : Nat} (h : ∀ j, f j < B) (j : Nat) : bt f n j < B := by
  unfold bt
  split
  · exact h j
  · exact Nat.lt_of_le_of_lt (Nat.zero_le _) (h 0)
theorem nv_up {B : Nat} {f : Nat → Nat} {n k x : Nat} (h : n ≤ k) : nv B (va_up f k x) n = nv B f n := nv_congr (fun j hj => va_up_ne f x (by omega))
theorem nv_pos {B : Nat} (hB : 0 < B) {f : Nat → Nat} {n : Nat} (h : f n ≠ 0) : 0 < nv B f (n + 1) := Nat.lt_of_lt_of_le (Nat.pow_pos hB) (nv_ge h)
/-- a higher digit string is a greater number -/
theorem nv_lt_of {B : Nat} {f g : Nat → Nat} {n k : Nat} (hf : ∀ j, f j < B) (hk : k < n) (he : ∀ j, k < j → j < n → f j = g j) (hlt : f k < g k) : nv B f n < nv B g n := by
  induction n with
  | zero => omega
  | succ n ih =>
    unfold nv
    by_cases hkn : k = n
    · subst hkn
      have h1 := nv_lt (B := B) (f := f) (n := k) (fun j _ => hf j)
      have h2 : (f k + 1) * B ^ k ≤ g k * B ^ k := Nat.mul_le_mul_right _ hlt
      rw [Nat.add_mul] at h2
      omega
    · have := ih (by omega) (fun j h1 h2 => he j h1 (by omega))
      rw [he n (by omega) (by omega)]
      omega
theorem nv_split {B : Nat} {f : Nat → Nat} (n m : Nat) : nv B f (n + m) = nv B f n + B ^ n * nv B (fun j => f (n + j)) m := by
  induction m with
  | zero => simp [nv]
  | succ m ih =>
    rw [show n + (m + 1) = (n + m) + 1 by omega, nv_s, nv_s, ih, Nat.mul_add, Nat.pow_add]
    have : f (n + m) * (B ^ n * B ^ m) = B ^ n * (f (n + m) * B ^ m) := by
      rw [Nat.mul_left_comm]
    omega
/-- how many digits a number of a given size has -/
theorem nv_many {B : Nat} (hB : 1 < B) {f : Nat → Nat} {n k : Nat} (hn : n = 0 ∨ f (n - 1) ≠ 0) (h : nv B f n < B ^ k) : n ≤ k := by
  rcases hn with rfl | hn
  · omega
  · cases n with
    | zero => omega
    | succ n =>
      have h1 := nv_ge (B := B) (f := f) (n := n) hn
      have h2 : B ^ n < B ^ k := by omega
      exact (Nat.pow_lt_pow_iff_right hB).mp h2
