/-! Teller: counting by rests; p is 0 or a prime -/
def tm_prm (p : Int) : Prop := ¬ p ∣ 1 ∧ ∀ a b : Int, p ∣ a * b → p ∣ a ∨ p ∣ b
abbrev tm_S : Type := Nat × (Nat → Nat → Int) × (Nat → Nat → Int) × (Nat → Int)
def tm_dz (N : Nat) (f v : Nat → Int) : Int := sz N (fun k => f k * v k)
def tm_one : Nat → Int := fun _ => 1
def tm_stp (S : tm_S) (x : Nat) (v : Nat → Int) (t : Nat) : Int := sz S.1 (fun s => v s * (S.2.1 s x * S.2.2.1 s t))
/-- the difference over the states behind a word (the last sign first) -/
def tm_dv (S : tm_S) : List Nat → Nat → Int
  | [], k => S.2.2.2 k
  | x :: u, k => tm_stp S x (tm_dv S u) k
def tm_plb (S : tm_S) (x : Nat) (f : Nat → Int) (s : Nat) : Int := sz S.1 (fun t => f t * (S.2.1 s x * S.2.2.1 s t))
def tm_psy (S : tm_S) : (Nat → Int) → List Nat → Nat → Int
  | f, [] => f
  | f, x :: v => tm_psy S (tm_plb S x f) v
def tm_ph (S : tm_S) (z : List Nat) : Int := tm_dz S.1 tm_one (tm_dv S z)
theorem tm_dz_stp {S : tm_S} {x : Nat} {f v : Nat → Int} : tm_dz S.1 f (tm_stp S x v) = tm_dz S.1 (tm_plb S x f) v := by
  unfold tm_dz tm_stp tm_plb
  have e1 : sz S.1 (fun t => f t * sz S.1 (fun s => v s * (S.2.1 s x * S.2.2.1 s t))) = sz S.1 (fun t => sz S.1 (fun s => f t * (S.2.1 s x * S.2.2.1 s t) * v s)) := sz_congr (fun t _ => by
    rw [← sz_mul]
    exact sz_congr (fun s _ => by ac_rfl))
  rw [e1, sz_swap]
  exact sz_congr (fun s _ => by
    rw [Int.mul_comm, ← sz_mul]
    exact sz_congr (fun t _ => by ac_rfl))
theorem tm_dz_psy {S : tm_S} (v u : List Nat) : ∀ f, tm_dz S.1 (tm_psy S f v) (tm_dv S u) = tm_dz S.1 f (tm_dv S (v ++ u)) := by
  induction v with
  | nil => intro f; rfl
  | cons x v ih =>
    intro f
    show tm_dz S.1 (tm_psy S (tm_plb S x f) v) (tm_dv S u) = tm_dz S.1 f (tm_stp S x (tm_dv S (v ++ u)))
    rw [ih, tm_dz_stp]
theorem tm_dvd_sz {p : Int} {n : Nat} {f : Nat → Int} (h : ∀ j, j < n → p ∣ f j) : p ∣ sz n f := by
  induction n with
  | zero => exact Int.dvd_zero p
  | succ n ih => rw [sz_s]; exact Int.dvd_add (ih (fun j hj => h j (by omega))) (h n (by omega))
theorem tm_sz_c {p : Int} {n : Nat} {f g : Nat → Int} (h : ∀ j, j < n → p ∣ f j - g j) : p ∣ sz n f - sz n g := by
  induction n with
  | zero => exact Int.dvd_zero p
  | succ n ih =>
    rw [sz_s, sz_s, show sz n f + f n - (sz n g + g n) = (sz n f - sz n g) + (f n - g n) by omega]
    exact Int.dvd_add (ih (fun j hj => h j (by omega))) (h n (by omega))
theorem tm_dz_c {p : Int} {N : Nat} {f u v : Nat → Int} (h : ∀ k, k < N → p ∣ u k - v k) : p ∣ tm_dz N f u - tm_dz N f v := by
  unfold tm_dz
  refine tm_sz_c (fun j hj => ?_)
  rw [← Int.mul_sub]
  exact Int.dvd_trans (h j hj) (Int.dvd_mul_left _ _)
theorem tm_iff {p a b : Int} (h : p ∣ a - b) : p ∣ a ↔ p ∣ b := by
  refine ⟨fun h1 => ?_, fun h1 => ?_⟩
  · have := Int.dvd_sub h1 h
    rw [show a - (a - b) = b by omega] at this
    exact this
  · have := Int.dvd_add h h1
    rw [show a - b + b = a by omega] at this
    exact this
theorem tm_dz_lin {N : Nat} {f u v : Nat → Int} (a b : Int) : tm_dz N f (fun k => u k * a - v k * b) = a * tm_dz N f u - b * tm_dz N f v := by
  unfold tm_dz
  rw [← sz_mul, ← sz_mul]
  induction N with
  | zero => rfl
  | succ N ih =>
    rw [sz_s, sz_s, sz_s, ih, Int.mul_sub, show f N * (u N * a) = a * (f N * u N) by ac_rfl, show f N * (v N * b) = b * (f N * v N) by ac_rfl]
    omega
/-- a word that was looked at -/
def tm_seen (p : Int) (S : tm_S) (wd : Nat → List Nat) (q : Nat) (z : List Nat) : Prop := p ∣ tm_ph S z ∧ ((∃ j, j < q ∧ wd j = z) ∨ ∀ f : Nat → Int, (∀ j, j < q → wcd (wd j) < wcd z → p ∣ tm_dz S.1 f (tm_dv S (wd j))) → p ∣ tm_dz S.1 f (tm_dv S z))
theorem tm_none {p : Int} {S : tm_S} {K q T : Nat} {wd : Nat → List Nat} (hq : 0 < q) (h0 : wd 0 = []) (hnt : ∀ i, i < q → p ∣ tm_ph S (wd i)) (hal : ∀ i, i < q → alw K (wd i)) (hs : ∀ i y, i < q → y < K → wcd (y :: wd i) < T → tm_seen p S wd q (y :: wd i)) (n : Nat) : ∀ z, alw K z → wcd z = n → n < T → p ∣ tm_ph S z := by
  induction n using Nat.strongRecOn with
  | _ n ih =>
    intro z hz hc hT
    obtain ⟨v, i, hi, hzv, hv⟩ := kept_dec hq h0 z
    rcases hv with hv | ⟨v', y, hv, hno⟩
    · rw [hzv, hv]
      exact hnt i hi
    · have ez : z = v' ++ (y :: wd i) := by rw [hzv, hv, List.append_assoc]; rfl
      rw [ez] at hz
      obtain ⟨hv1, hv2⟩ := alw_l hz
      have ec := wcd_app v' (y :: wd i)
      rw [← ez, hc] at ec
      have hp : 0 < 7 ^ v'.length := Nat.pow_pos (by decide)
      have hle : wcd (y :: wd i) ≤ n := by
        rw [ec]
        exact Nat.le_trans (Nat.le_mul_of_pos_right _ hp) (Nat.le_add_right _ _)
      obtain ⟨-, hk⟩ := hs i y hi hv2.1 (by omega)
      rcases hk with ⟨j, hj, hj2⟩ | hdep
      · exact absurd hj2 (hno j hj)
      · have h1 := hdep (tm_psy S tm_one v') (fun j hj hlt => by
          rw [tm_dz_psy]
          have h2 : wcd (v' ++ wd j) < n := by
            rw [wcd_app, ec]
            have := Nat.mul_lt_mul_of_pos_right hlt hp
            omega
          exact ih _ h2 (v' ++ wd j) (alw_app hv1 (hal j hj)) rfl (by omega))
        rw [tm_dz_psy, ← ez] at h1
        exact h1
theorem tm_snoc (v : List Nat) : v = [] ∨ ∃ v' y, v = v' ++ [y] := by
  induction v with
  | nil => exact Or.inl rfl
  | cons x v ih =>
    rcases ih with h | ⟨v', y, h⟩
    · exact Or.inr ⟨[], x, by rw [h]; rfl⟩
    · exact Or.inr ⟨x :: v', y, by rw [h]; rfl⟩
/-- where all words that go on are mixes, no word tells -/
theorem tm_clo {p : Int} {S : tm_S} {K q : Nat} {wd : Nat → List Nat} (hnt : ∀ i, i < q → p ∣ tm_ph S (wd i)) (hs : ∀ i y, i < q → y < K → ∀ f, (∀ j, j < q → p ∣ tm_dz S.1 f (tm_dv S (wd j))) → p ∣ tm_dz S.1 f (tm_dv S (y :: wd i))) (n : Nat) : ∀ v : List Nat, v.length = n → alw K v → ∀ i, i < q → p ∣ tm_ph S (v ++ wd i) := by
  induction n with
  | zero =>
    intro v hv _ i hi
    rw [List.length_eq_zero_iff.mp hv]
    exact hnt i hi
  | succ n ih =>
    intro v hv hal i hi
    obtain ⟨v', y, rfl⟩ : ∃ v' y, v = v' ++ [y] := by
      rcases tm_snoc v with h | h
      · rw [h] at hv
        have hv : 0 = n + 1 := hv
        omega
      · exact h
    have hl : v'.length = n := by rw [List.length_append] at hv; exact Nat.succ.inj hv
    obtain ⟨ha1, ha2⟩ := alw_l hal
    have h1 := hs i y hi ha2.1 (tm_psy S tm_one v') (fun j hj => by rw [tm_dz_psy]; exact ih v' hl ha1 j hj)
    rw [tm_dz_psy] at h1
    rw [List.append_assoc]
    exact h1
def tm_tri (p : Int) (N : Nat) (e : Nat → Nat → Int) (pv : Nat → Nat) (q : Nat) : Prop := ∀ j, j < q → pv j < N ∧ ¬ p ∣ e j (pv j) ∧ ∀ i, i < j → p ∣ e j (pv i)
def tm_spn (p : Int) (N : Nat) (X e : Nat → Nat → Int) (q : Nat) : Prop := ∀ f : Nat → Int, (∀ i, i < q → p ∣ tm_dz N f (X i)) → ∀ i, i < q → p ∣ tm_dz N f (e i)
theorem tm_one_left {p : Int} {n i : Nat} {f : Nat → Int} (hi : i < n) (h : ∀ j, j < n → j ≠ i → p ∣ f j) : p ∣ sz n f - f i := by
  have e : sz n (fun j => if j = i then f i else 0) = f i := by
    have := sz_one (n := n) (i := i) (f := fun j => if j = i then f i else 0) hi (fun j _ hne => if_neg hne)
    rw [this, if_pos rfl]
  rw [← e]
  refine tm_sz_c (fun j hj => ?_)
  by_cases k : j = i
  · rw [if_pos k, k, Int.sub_self]; exact Int.dvd_zero p
  · rw [if_neg k, Int.sub_zero]; exact h j hj k
theorem tm_lt {p : Int} {N q : Nat} {X e : Nat → Nat → Int} {pv : Nat → Nat} (hN : 1 ≤ N) (ht : tm_tri p N e pv q) (hs : tm_spn p N X e q) (hp : ∀ i, i < q → p ∣ tm_dz N tm_one (X i)) : q + 1 ≤ N := by
  refine Classical.byContradiction (fun hc => ?_)
  have hk := hs tm_one hp (N - 1) (by omega)
  obtain ⟨t1, t2, t3⟩ := ht (N - 1) (by omega)
  have h0 : ∀ k, k < N → k ≠ pv (N - 1) → p ∣ e (N - 1) k := by
    intro k hk1 hk2
    refine Classical.byContradiction (fun hk3 => ?_)
    obtain ⟨i, j, hij, hj, hf⟩ := php (N := N) (M := N + 1) (fun i => if i < N then pv i else k) (by omega) (fun i _ => by
      show (if i < N then pv i else k) < N
      split
      · rename_i h; exact (ht i (by omega)).1
      · exact hk1)
    have hf : (if i < N then pv i else k) = (if j < N then pv j else k) := hf
    rw [if_pos (show i < N by omega)] at hf
    by_cases hjN : j < N
    · rw [if_pos hjN] at hf
      obtain ⟨-, u2, u3⟩ := ht j (by omega)
      have := u3 i hij
      rw [hf] at this
      exact u2 this
    · rw [if_neg hjN] at hf
      by_cases hi : i = N - 1
      · rw [hi] at hf; exact hk2 hf.symm
      · have := t3 i (by omega)
        rw [hf] at this
        exact hk3 this
  unfold tm_dz at hk
  have h1 := tm_one_left (f := fun k => tm_one k * e (N - 1) k) t1 (fun j hj hne => by
    show p ∣ 1 * e (N - 1) j
    rw [Int.one_mul]
    exact h0 j hj hne)
  have h2 := (tm_iff h1).mp hk
  have h2 : p ∣ 1 * e (N - 1) (pv (N - 1)) := h2
  rw [Int.one_mul] at h2
  exact t2 h2
/-- one line is taken out of a vector -/
theorem tm_red1 {p c d : Int} {N : Nat} {f y y' e : Nat → Int} (hp : tm_prm p) (hc : ¬ p ∣ c) (hy : ∀ k, k < N → p ∣ y' k - (y k * c - e k * d)) (he : p ∣ tm_dz N f e) : p ∣ tm_dz N f y' ↔ p ∣ tm_dz N f y := by
  rw [tm_iff (tm_dz_c (f := f) hy), tm_dz_lin]
  have h2 : p ∣ d * tm_dz N f e := Int.dvd_trans he (Int.dvd_mul_left _ _)
  have h3 : p ∣ (c * tm_dz N f y - d * tm_dz N f e) - c * tm_dz N f y := by
    rw [show (c * tm_dz N f y - d * tm_dz N f e) - c * tm_dz N f y = -(d * tm_dz N f e) by omega]
    exact Int.dvd_neg.mpr h2
  rw [tm_iff h3]
  exact ⟨fun h => (hp.2 _ _ h).resolve_left hc, fun h => Int.dvd_trans h (Int.dvd_mul_left _ _)⟩
theorem tm_red {p : Int} {N q : Nat} {e : Nat → Nat → Int} {pv : Nat → Nat} (hp : tm_prm p) (ht : tm_tri p N e pv q) (X : Nat → Int) (r : Nat) (hr : r ≤ q) : ∃ y : Nat → Int, (∀ j, j < r → p ∣ y (pv j)) ∧ ∀ f, (∀ i, i < q → p ∣ tm_dz N f (e i)) → (p ∣ tm_dz N f y ↔ p ∣ tm_dz N f X) := by
  induction r with
  | zero => exact ⟨X, fun j hj => absurd hj (Nat.not_lt_zero _), fun _ _ => Iff.rfl⟩
  | succ r ih =>
    obtain ⟨y, h1, h2⟩ := ih (by omega)
    obtain ⟨t1, t2, t3⟩ := ht r (by omega)
    refine ⟨fun k => y k * e r (pv r) - e r k * y (pv r), fun j hj => ?_, fun f hf => ?_⟩
    · by_cases k : j = r
      · rw [k]
        show p ∣ y (pv r) * e r (pv r) - e r (pv r) * y (pv r)
        rw [Int.mul_comm, Int.sub_self]
        exact Int.dvd_zero p
      · exact Int.dvd_sub (Int.dvd_trans (h1 j (by omega)) (Int.dvd_mul_right _ _)) (Int.dvd_trans (t3 j (by omega)) (Int.dvd_mul_right _ _))
    · rw [← h2 f hf]
      exact tm_red1 hp t2 (fun k _ => by rw [Int.sub_self]; exact Int.dvd_zero p) (hf r (by omega))
theorem tm_zero {p : Int} {S : tm_S} (h : ∀ k, k < S.1 → p ∣ S.2.2.2 k) (z : List Nat) : ∀ k, k < S.1 → p ∣ tm_dv S z k := by
  induction z with
  | nil => exact h
  | cons x z ih =>
    intro k _
    exact tm_dvd_sz (fun s hs => Int.dvd_trans (ih s hs) (Int.dvd_mul_right _ _))
theorem tm_ph0 {p : Int} {S : tm_S} {z : List Nat} (h : ∀ k, k < S.1 → p ∣ tm_dv S z k) : p ∣ tm_ph S z := by
  refine tm_dvd_sz (fun k hk => ?_)
  exact Int.dvd_trans (h k hk) (Int.dvd_mul_left _ _)
/-- if a word tells, one of fewer signs than states does -/
theorem tm_short {p : Int} {S : tm_S} {K : Nat} (hp : tm_prm p) (hN : 1 ≤ S.1) (H : ∀ z, alw K z → z.length + 1 ≤ S.1 → p ∣ tm_ph S z) (z : List Nat) (hz : alw K z) : p ∣ tm_ph S z := by
  by_cases h0 : ∀ k, k < S.1 → p ∣ S.2.2.2 k
  · exact tm_ph0 (tm_zero h0 z)
  · obtain ⟨k0, hk0, hk1⟩ : ∃ k, k < S.1 ∧ ¬ p ∣ S.2.2.2 k := Classical.byContradiction (fun hn => h0 (fun k hk => Classical.byContradiction (fun h2 => hn ⟨k, hk, h2⟩)))
    have main : ∀ (d q : Nat), q + d = S.1 → 1 ≤ q → (∃ (wd : Nat → List Nat) (e : Nat → Nat → Int) (pv : Nat → Nat), wd 0 = [] ∧ (∀ i, i < q → alw K (wd i) ∧ (wd i).length ≤ i) ∧ tm_tri p S.1 e pv q ∧ tm_spn p S.1 (fun i => tm_dv S (wd i)) e q) → p ∣ tm_ph S z := by
      intro d
      induction d with
      | zero =>
        rintro q hq h1 ⟨wd, e, pv, w0, wl, ht, hs⟩
        have := tm_lt hN ht hs (fun i hi => H _ (wl i hi).1 (by have := (wl i hi).2; omega))
        omega
      | succ d ih =>
        rintro q hq h1 ⟨wd, e, pv, w0, wl, ht, hs⟩
        by_cases hall : ∀ i y, i < q → y < K → ∀ f, (∀ j, j < q → p ∣ tm_dz S.1 f (tm_dv S (wd j))) → p ∣ tm_dz S.1 f (tm_dv S (y :: wd i))
        · have := tm_clo (fun i hi => H _ (wl i hi).1 (by have := (wl i hi).2; omega)) hall z.length z rfl hz 0 (by omega)
          rw [w0, List.append_nil] at this
          exact this
        · obtain ⟨i, y, hi, hy, hno⟩ : ∃ i y, i < q ∧ y < K ∧ ¬ ∀ f, (∀ j, j < q → p ∣ tm_dz S.1 f (tm_dv S (wd j))) → p ∣ tm_dz S.1 f (tm_dv S (y :: wd i)) := Classical.byContradiction (fun hn => hall (fun i y g1 g2 => Classical.byContradiction (fun g3 => hn ⟨i, y, g1, g2, g3⟩)))
          obtain ⟨u, hu1, hu2⟩ := tm_red hp ht (tm_dv S (y :: wd i)) q (Nat.le_refl _)
          by_cases hz2 : ∀ k, k < S.1 → p ∣ u k
          · exact absurd (fun f hf => (hu2 f (hs f hf)).mp (tm_dvd_sz (fun k hk => Int.dvd_trans (hz2 k hk) (Int.dvd_mul_left _ _)))) hno
          · obtain ⟨k, hk, hk2⟩ : ∃ k, k < S.1 ∧ ¬ p ∣ u k := Classical.byContradiction (fun hn => hz2 (fun k hk => Classical.byContradiction (fun h2 => hn ⟨k, hk, h2⟩)))
            refine ih (q + 1) (by omega) (by omega) ⟨va_up wd q (y :: wd i), va_up e q u, va_up pv q k, ?_, fun j hj => ?_, fun j hj => ?_, fun f hf j hj => ?_⟩
            · rw [va_up_ne _ _ (by omega)]; exact w0
            · by_cases ej : j = q
              · rw [ej, va_up_self]
                have := wl i hi
                exact ⟨⟨hy, this.1⟩, show (wd i).length + 1 ≤ q by omega⟩
              · rw [va_up_ne _ _ ej]; exact wl j (by omega)
            · by_cases ej : j = q
              · rw [ej, va_up_self, va_up_self]
                refine ⟨hk, hk2, fun t ht2 => ?_⟩
                rw [va_up_ne _ _ (by omega)]
                exact hu1 t ht2
              · rw [va_up_ne _ _ ej, va_up_ne _ _ ej]
                obtain ⟨g1, g2, g3⟩ := ht j (by omega)
                refine ⟨g1, g2, fun t ht2 => ?_⟩
                rw [va_up_ne _ _ (by omega)]
                exact g3 t ht2
            · have hf2 : ∀ t, t < q → p ∣ tm_dz S.1 f (tm_dv S (wd t)) := fun t ht2 => by
                have this : p ∣ tm_dz S.1 f (tm_dv S (va_up wd q (y :: wd i) t)) := hf t (by omega)
                rw [va_up_ne _ _ (by omega)] at this
                exact this
              have he := hs f hf2
              by_cases ej : j = q
              · rw [ej, va_up_self]
                refine (hu2 f he).mpr ?_
                have this : p ∣ tm_dz S.1 f (tm_dv S (va_up wd q (y :: wd i) q)) := hf q (by omega)
                rw [va_up_self] at this
                exact this
              · rw [va_up_ne _ _ ej]; exact he j (by omega)
    refine main (S.1 - 1) 1 (by omega) (by omega) ⟨fun _ => [], fun _ => S.2.2.2, fun _ => k0, rfl, fun i _ => ⟨True.intro, Nat.zero_le _⟩, fun j hj => ⟨hk0, hk1, fun i hi => by omega⟩, fun f hf i hi => hf i hi⟩
