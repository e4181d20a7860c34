/-! words of signs (the last sign first), their vectors, and which word tells first -/
def wvec (ar : Nat → Nat → Int) (a b : Nat) (st : Nat → Nat) : List Nat → Nat → Nat
  | [], k => st k
  | x :: u, k => jst ar a b x (wvec ar a b st u) k
def wcd : List Nat → Nat
  | [] => 0
  | x :: u => 7 * wcd u + (x + 1)
def alw (K : Nat) : List Nat → Prop
  | [] => True
  | x :: u => x < K ∧ alw K u
def phi (k : Nat) : Int := if k < 8 then 1 else -1
def pul (ar : Nat → Nat → Int) (a b x : Nat) (f : Nat → Int) (j : Nat) : Int := sz 16 (fun k => f k * (jm ar a b x k j : Nat))
def psi (ar : Nat → Nat → Int) (a b : Nat) : (Nat → Int) → List Nat → Nat → Int
  | f, [] => f
  | f, x :: v => psi ar a b (pul ar a b x f) v
def dot (f : Nat → Int) (v : Nat → Nat) : Int := sz 16 (fun k => f k * (v k : Nat))
def tell (ar : Nat → Nat → Int) (a b : Nat) (st : Nat → Nat) (z : List Nat) : Prop := dot phi (wvec ar a b st z) ≠ 0
theorem dot_jst {ar : Nat → Nat → Int} {a b x : Nat} {f : Nat → Int} {v : Nat → Nat} : dot f (jst ar a b x v) = dot (pul ar a b x f) v := by
  unfold dot pul jst
  have e1 : sz 16 (fun k => f k * ((sm 16 (fun j => v j * jm ar a b x k j) : Nat) : Int)) = sz 16 (fun k => sz 16 (fun j => f k * (jm ar a b x k j : Nat) * (v j : Nat))) := sz_congr (fun k _ => by
    rw [sm_sz, ← sz_mul]
    exact sz_congr (fun j _ => by rw [Int.natCast_mul, Int.mul_comm ((v j : Nat) : Int), Int.mul_assoc]))
  rw [e1, sz_swap]
  exact sz_congr (fun j _ => by
    rw [Int.mul_comm, ← sz_mul]
    exact sz_congr (fun k _ => by rw [Int.mul_comm]))
theorem dot_psi {ar : Nat → Nat → Int} {a b : Nat} {st : Nat → Nat} (v u : List Nat) : ∀ f, dot (psi ar a b f v) (wvec ar a b st u) = dot f (wvec ar a b st (v ++ u)) := by
  induction v with
  | nil => intro f; rfl
  | cons x v ih =>
    intro f
    show dot (psi ar a b (pul ar a b x f) v) (wvec ar a b st u) = dot f (jst ar a b x (wvec ar a b st (v ++ u)))
    rw [ih, dot_jst]
theorem wcd_app (v u : List Nat) : wcd (v ++ u) = wcd u * 7 ^ v.length + wcd v := by
  induction v with
  | nil => show wcd u = wcd u * 7 ^ 0 + 0; rw [Nat.pow_zero, Nat.mul_one, Nat.add_zero]
  | cons x v ih =>
    show 7 * wcd (v ++ u) + (x + 1) = wcd u * 7 ^ (v.length + 1) + (7 * wcd v + (x + 1))
    rw [ih, Nat.pow_succ, Nat.mul_add, ← Nat.mul_assoc (wcd u), Nat.mul_comm 7 (wcd u * 7 ^ v.length)]
    omega
theorem alw_app {K : Nat} {v u : List Nat} (hv : alw K v) (hu : alw K u) : alw K (v ++ u) := by
  induction v with
  | nil => exact hu
  | cons x v ih => exact ⟨hv.1, ih hv.2⟩
theorem alw_l {K : Nat} {v u : List Nat} (h : alw K (v ++ u)) : alw K v ∧ alw K u := by
  induction v with
  | nil => exact ⟨True.intro, h⟩
  | cons x v ih =>
    have h : x < K ∧ alw K (v ++ u) := h
    exact ⟨⟨h.1, (ih h.2).1⟩, (ih h.2).2⟩
theorem wcd_inj {K : Nat} (hK : K ≤ 6) : ∀ (u v : List Nat), alw K u → alw K v → wcd u = wcd v → u = v := by
  intro u
  induction u with
  | nil =>
    intro v _ _ h
    cases v with
    | nil => rfl
    | cons x v =>
      have h : 0 = 7 * wcd v + (x + 1) := h
      omega
  | cons x u ih =>
    intro v hu hv h
    cases v with
    | nil =>
      have h : 7 * wcd u + (x + 1) = 0 := h
      omega
    | cons y v =>
      have h : 7 * wcd u + (x + 1) = 7 * wcd v + (y + 1) := h
      have h1 := hu.1
      have h2 := hv.1
      have e : x = y := by omega
      rw [e, ih v hu.2 hv.2 (by omega)]
/-- the longest kept beginning of a word -/
theorem kept_dec {wd : Nat → List Nat} {q : Nat} (hq : 0 < q) (h0 : wd 0 = []) (z : List Nat) : ∃ v i, i < q ∧ z = v ++ wd i ∧ (v = [] ∨ ∃ v' y, v = v' ++ [y] ∧ ∀ j, j < q → wd j ≠ y :: wd i) := by
  induction z with
  | nil => exact ⟨[], 0, hq, by rw [h0]; rfl, Or.inl rfl⟩
  | cons x z ih =>
    obtain ⟨v, i, hi, hz, hv⟩ := ih
    rcases hv with hv | ⟨v', y, hv, hno⟩
    · by_cases hex : ∃ j, j < q ∧ wd j = x :: wd i
      · obtain ⟨j, hj, hj2⟩ := hex
        exact ⟨[], j, hj, by rw [hj2, hz, hv]; rfl, Or.inl rfl⟩
      · exact ⟨[x], i, hi, by rw [hz, hv]; rfl, Or.inr ⟨[], x, rfl, fun j hj h => hex ⟨j, hj, h⟩⟩⟩
    · exact ⟨x :: v, i, hi, by rw [hz]; rfl, Or.inr ⟨x :: v', y, by rw [hv]; rfl, hno⟩⟩
/-- a word that was looked at: it doesn't tell, and it is kept or a mix of kept ones ahead of it -/
def seen (ar : Nat → Nat → Int) (a b : Nat) (st : Nat → Nat) (wd : Nat → List Nat) (q : Nat) (z : List Nat) : Prop := ¬ tell ar a b st z ∧ ((∃ j, j < q ∧ wd j = z) ∨ ∀ f : Nat → Int, (∀ j, j < q → wcd (wd j) < wcd z → dot f (wvec ar a b st (wd j)) = 0) → dot f (wvec ar a b st z) = 0)
theorem none_below {ar : Nat → Nat → Int} {a b K q T : Nat} {st : Nat → Nat} {wd : Nat → List Nat} (hq : 0 < q) (h0 : wd 0 = []) (hnt : ∀ i, i < q → ¬ tell ar a b st (wd i)) (hal : ∀ i, i < q → alw K (wd i)) (hs : ∀ i y, i < q → y < K → wcd (y :: wd i) < T → seen ar a b st wd q (y :: wd i)) (n : Nat) : ∀ z, alw K z → wcd z = n → n < T → ¬ tell ar a b st z := by
  induction n using Nat.strongRecOn with
  | _ n ih =>
    intro z hz hc hT
    obtain ⟨v, i, hi, hzv, hv⟩ := kept_dec hq h0 z
    rcases hv with hv | ⟨v', y, hv, hno⟩
    · rw [hzv, hv]
      exact hnt i hi
    · have ez : z = v' ++ (y :: wd i) := by rw [hzv, hv, List.append_assoc]; rfl
      rw [ez] at hz
      obtain ⟨hv1, hv2⟩ := alw_l hz
      have ec := wcd_app v' (y :: wd i)
      rw [← ez, hc] at ec
      have hp : 0 < 7 ^ v'.length := Nat.pow_pos (by decide)
      have hle : wcd (y :: wd i) ≤ n := by
        rw [ec]
        exact Nat.le_trans (Nat.le_mul_of_pos_right _ hp) (Nat.le_add_right _ _)
      obtain ⟨-, hk⟩ := hs i y hi hv2.1 (by omega)
      rcases hk with ⟨j, hj, hj2⟩ | hdep
      · exact absurd hj2 (hno j hj)
      · have h1 := hdep (psi ar a b phi v') (fun j hj hlt => by
          rw [dot_psi]
          have h2 : wcd (v' ++ wd j) < n := by
            rw [wcd_app, ec]
            have := Nat.mul_lt_mul_of_pos_right hlt hp
            omega
          have h3 := ih _ h2 (v' ++ wd j) (alw_app hv1 (hal j hj)) rfl (by omega)
          exact Classical.byContradiction h3)
        rw [dot_psi, ← ez] at h1
        exact fun h2 => h2 h1
theorem phi_sum {v : Nat → Nat} : dot phi v = (sm 8 v : Nat) - (sm 8 (fun k => v (8 + k)) : Nat) := by
  have e : dot phi v = 1 * (v 0 : Nat) + 1 * (v 1 : Nat) + 1 * (v 2 : Nat) + 1 * (v 3 : Nat) + 1 * (v 4 : Nat) + 1 * (v 5 : Nat) + 1 * (v 6 : Nat) + 1 * (v 7 : Nat) + -1 * (v 8 : Nat) + -1 * (v 9 : Nat) + -1 * (v 10 : Nat) + -1 * (v 11 : Nat) + -1 * (v 12 : Nat) + -1 * (v 13 : Nat) + -1 * (v 14 : Nat) + -1 * (v 15 : Nat) := by
    show 0 + 1 * (v 0 : Int) + 1 * (v 1 : Nat) + 1 * (v 2 : Nat) + 1 * (v 3 : Nat) + 1 * (v 4 : Nat) + 1 * (v 5 : Nat) + 1 * (v 6 : Nat) + 1 * (v 7 : Nat) + -1 * (v 8 : Nat) + -1 * (v 9 : Nat) + -1 * (v 10 : Nat) + -1 * (v 11 : Nat) + -1 * (v 12 : Nat) + -1 * (v 13 : Nat) + -1 * (v 14 : Nat) + -1 * (v 15 : Nat) = _
    rw [Int.zero_add]
  have e1 : sm 8 v = v 0 + v 1 + v 2 + v 3 + v 4 + v 5 + v 6 + v 7 := by
    show 0 + v 0 + v 1 + v 2 + v 3 + v 4 + v 5 + v 6 + v 7 = _
    rw [Nat.zero_add]
  have e2 : sm 8 (fun k => v (8 + k)) = v 8 + v 9 + v 10 + v 11 + v 12 + v 13 + v 14 + v 15 := by
    show 0 + v 8 + v 9 + v 10 + v 11 + v 12 + v 13 + v 14 + v 15 = _
    rw [Nat.zero_add]
  rw [e, e1, e2]
  omega
/-- both halves' sums of a word's vector -/
theorem jst_sum {ar : Nat → Nat → Int} {a b x : Nat} {v : Nat → Nat} (ha : mch ar a) (hb : mch ar b) (sa : snd ar a) (sb : snd ar b) (hx : x < 6) : sm 8 (jst ar a b x v) ≤ 1000000 * sm 8 v ∧ sm 8 (fun k => jst ar a b x v (8 + k)) ≤ 1000000 * sm 8 (fun k => v (8 + k)) := by
  obtain ⟨-, na1, na8⟩ := mch_n ha
  obtain ⟨-, nb1, nb8⟩ := mch_n hb
  have ta := (mch_t ha).2.2
  have tb := (mch_t hb).2.2
  constructor
  · have e1 : sm 8 (jst ar a b x v) = sm (cn ar a) (fun t => sm (cn ar a) (fun s => v s * (cw ar a s x * cg ar a s t))) := by
      have := sm_ext (f := jst ar a b x v) (n := cn ar a) (8 - cn ar a) (fun j h1 h2 => jst_a0 h1 (by omega))
      rw [show cn ar a + (8 - cn ar a) = 8 by omega] at this
      rw [this]
      exact sm_congr (fun t ht => jst_a na8 ht)
    rw [e1, sm_swap]
    have e2 : sm (cn ar a) (fun s => sm (cn ar a) (fun t => v s * (cw ar a s x * cg ar a s t))) ≤ sm (cn ar a) (fun s => 1000000 * v s) := by
      apply sm_lem
      intro s hs
      have e3 : sm (cn ar a) (fun t => v s * (cw ar a s x * cg ar a s t)) = v s * cw ar a s x * ct ar a := by
        rw [← (sa.2 s hs).1, ← sm_mul]
        exact sm_congr (fun t _ => by rw [Nat.mul_assoc])
      rw [e3, Nat.mul_assoc, Nat.mul_comm 1000000]
      exact Nat.mul_le_mul_left _ (Nat.mul_le_mul (mch_w ha (by omega) hx).2 ta)
    refine Nat.le_trans e2 ?_
    rw [sm_mul]
    exact Nat.mul_le_mul_left _ (sm_mono na8)
  · have e1 : sm 8 (fun k => jst ar a b x v (8 + k)) = sm (cn ar b) (fun t => sm (cn ar b) (fun s => v (8 + s) * (cw ar b s x * cg ar b s t))) := by
      have := sm_ext (f := fun k => jst ar a b x v (8 + k)) (n := cn ar b) (8 - cn ar b) (fun j h1 h2 => jst_b0 na8 h1)
      rw [show cn ar b + (8 - cn ar b) = 8 by omega] at this
      rw [this]
      exact sm_congr (fun t ht => jst_b na8 nb8 ht)
    rw [e1, sm_swap]
    have e2 : sm (cn ar b) (fun s => sm (cn ar b) (fun t => v (8 + s) * (cw ar b s x * cg ar b s t))) ≤ sm (cn ar b) (fun s => 1000000 * v (8 + s)) := by
      apply sm_lem
      intro s hs
      have e3 : sm (cn ar b) (fun t => v (8 + s) * (cw ar b s x * cg ar b s t)) = v (8 + s) * cw ar b s x * ct ar b := by
        rw [← (sb.2 s hs).1, ← sm_mul]
        exact sm_congr (fun t _ => by rw [Nat.mul_assoc])
      rw [e3, Nat.mul_assoc, Nat.mul_comm 1000000]
      exact Nat.mul_le_mul_left _ (Nat.mul_le_mul (mch_w hb (by omega) hx).2 tb)
    refine Nat.le_trans e2 ?_
    rw [sm_mul (f := fun s => v (8 + s))]
    exact Nat.mul_le_mul_left _ (sm_mono nb8)
theorem wvec_sum {ar : Nat → Nat → Int} {a b K : Nat} {st : Nat → Nat} (ha : mch ar a) (hb : mch ar b) (sa : snd ar a) (sb : snd ar b) (hK : K ≤ 6) (h1 : sm 8 st ≤ 1000) (h2 : sm 8 (fun k => st (8 + k)) ≤ 1000) : ∀ z, alw K z → sm 8 (wvec ar a b st z) ≤ 1000 * 1000000 ^ z.length ∧ sm 8 (fun k => wvec ar a b st z (8 + k)) ≤ 1000 * 1000000 ^ z.length := by
  intro z
  induction z with
  | nil => intro _; rw [show ([] : List Nat).length = 0 from rfl, Nat.pow_zero, Nat.mul_one]; exact ⟨h1, h2⟩
  | cons x z ih =>
    intro hz
    obtain ⟨i1, i2⟩ := ih hz.2
    obtain ⟨j1, j2⟩ := jst_sum (v := wvec ar a b st z) ha hb sa sb (show x < 6 by have := hz.1; omega)
    have e : 1000 * 1000000 ^ (x :: z).length = 1000000 * (1000 * 1000000 ^ z.length) := by
      rw [List.length_cons, Nat.pow_succ, Nat.mul_left_comm 1000000, Nat.mul_comm 1000000]
    rw [e]
    exact ⟨Nat.le_trans j1 (Nat.mul_le_mul_left _ i1), Nat.le_trans j2 (Nat.mul_le_mul_left _ i2)⟩
theorem wvec_le {ar : Nat → Nat → Int} {a b K L : Nat} {st : Nat → Nat} (ha : mch ar a) (hb : mch ar b) (sa : snd ar a) (sb : snd ar b) (hK : K ≤ 6) (h1 : sm 8 st ≤ 1000) (h2 : sm 8 (fun k => st (8 + k)) ≤ 1000) {z : List Nat} (hz : alw K z) (hl : z.length ≤ L) (k : Nat) (hk : k < 16) : wvec ar a b st z k ≤ 1000 * 1000000 ^ L := by
  obtain ⟨i1, i2⟩ := wvec_sum ha hb sa sb hK h1 h2 z hz
  have h3 : 1000 * 1000000 ^ z.length ≤ 1000 * 1000000 ^ L := Nat.mul_le_mul_left _ (Nat.pow_le_pow_right (by decide) hl)
  by_cases h : k < 8
  · exact Nat.le_trans (Nat.le_trans (sm_one (f := wvec ar a b st z) h) i1) h3
  · have h4 := sm_one (n := 8) (s := k - 8) (f := fun k => wvec ar a b st z (8 + k)) (by omega)
    have h4 : wvec ar a b st z (8 + (k - 8)) ≤ _ := h4
    rw [show 8 + (k - 8) = k by omega] at h4
    exact Nat.le_trans (Nat.le_trans h4 i2) h3
/-- places of no state stay 0 -/
def vz (ar : Nat → Nat → Int) (a b k : Nat) : Prop := (k < 8 ∧ cn ar a ≤ k) ∨ (8 ≤ k ∧ cn ar b ≤ k - 8)
theorem wvec_z {ar : Nat → Nat → Int} {a b : Nat} {st : Nat → Nat} (h8 : cn ar a ≤ 8) (hst : ∀ k, k < 16 → vz ar a b k → st k = 0) (z : List Nat) (k : Nat) (hk : k < 16) (hv : vz ar a b k) : wvec ar a b st z k = 0 := by
  cases z with
  | nil => exact hst k hk hv
  | cons x z =>
    show jst ar a b x (wvec ar a b st z) k = 0
    rcases hv with ⟨h1, h2⟩ | ⟨h1, h2⟩
    · exact jst_a0 h2 h1
    · rw [show k = 8 + (k - 8) by omega]
      exact jst_b0 h8 h2
/-- one row fewer than states -/
theorem kept_lt {ar : Nat → Nat → Int} {a b q : Nat} {X fr : Nat → Nat → Int} {ow : Nat → Nat} (na : 1 ≤ cn ar a ∧ cn ar a ≤ 8) (nb : 1 ≤ cn ar b ∧ cn ar b ≤ 8) (ht : tri fr ow q) (hr : ∀ i, i < q → rep X fr i) (hz : ∀ i k, i < q → k < 16 → vz ar a b k → X i k = 0) (hp : ∀ i, i < q → sz 16 (fun k => phi k * X i k) = 0) : q + 1 ≤ cn ar a + cn ar b := by
  rcases Nat.lt_or_ge q (cn ar a + cn ar b) with hlt | hge
  · exact hlt
  · exfalso
    have hfz : ∀ j k, j < q → k < 16 → vz ar a b k → fr j k = 0 := by
      intro j k hj hk hv
      have e1 : ∀ f : Nat → Int, sz 16 (fun i => (if i = k then 1 else 0) * f i) = f k := by
        intro f
        rw [sz_one hk (fun i _ hne => by rw [if_neg hne, Int.zero_mul]), if_pos rfl, Int.one_mul]
      have := rep_kill (psi := fun i => if i = k then 1 else 0) hr (fun i hi => by rw [e1 (X i)]; exact hz i k hi hk hv) j hj
      rw [e1 (fr j)] at this
      exact this
    have hfp := rep_kill hr hp
    obtain ⟨n, hn⟩ : ∃ n, n = cn ar a + cn ar b - 1 := ⟨_, rfl⟩
    have hnq : n < q := by omega
    have hval : ∀ j, j < q → ¬ vz ar a b (ow j) := fun j hj h => (ht j hj).2.1 (hfz j _ hj (ht j hj).1 h)
    -- the n-th row is 0 but at its own pivot
    have hone : ∀ k, k < 16 → k ≠ ow n → fr n k = 0 := by
      intro k hk hne
      apply Classical.byContradiction
      intro hk0
      have hkv : ¬ vz ar a b k := fun h => hk0 (hfz n k hnq hk h)
      obtain ⟨i, j, h1, h2, h3⟩ := php (N := n + 1) (M := n + 2) (fun i => if (if i = n + 1 then k else ow i) < 8 then (if i = n + 1 then k else ow i) else cn ar a + ((if i = n + 1 then k else ow i) - 8)) (by omega) (fun i hi => by
        show (if (if i = n + 1 then k else ow i) < 8 then (if i = n + 1 then k else ow i) else cn ar a + ((if i = n + 1 then k else ow i) - 8)) < n + 1
        have hv : ¬ vz ar a b (if i = n + 1 then k else ow i) ∧ (if i = n + 1 then k else ow i) < 16 := by
          split
          · exact ⟨hkv, hk⟩
          · exact ⟨hval i (by omega), (ht i (by omega)).1⟩
        obtain ⟨hv1, hv2⟩ := hv
        generalize (if i = n + 1 then k else ow i) = y at *
        unfold vz at hv1
        split <;> omega)
      have hv : ∀ i, i < n + 2 → ¬ vz ar a b (if i = n + 1 then k else ow i) ∧ (if i = n + 1 then k else ow i) < 16 := by
        intro i hi
        split
        · exact ⟨hkv, hk⟩
        · exact ⟨hval i (by omega), (ht i (by omega)).1⟩
      have heq : (if i = n + 1 then k else ow i) = (if j = n + 1 then k else ow j) := by
        obtain ⟨a1, a2⟩ := hv i (by omega)
        obtain ⟨b1, b2⟩ := hv j h2
        have h3 : (if (if i = n + 1 then k else ow i) < 8 then (if i = n + 1 then k else ow i) else cn ar a + ((if i = n + 1 then k else ow i) - 8)) = (if (if j = n + 1 then k else ow j) < 8 then (if j = n + 1 then k else ow j) else cn ar a + ((if j = n + 1 then k else ow j) - 8)) := h3
        generalize (if i = n + 1 then k else ow i) = y1 at *
        generalize (if j = n + 1 then k else ow j) = y2 at *
        unfold vz at a1 b1
        split at h3 <;> split at h3 <;> omega
      rw [if_neg (by omega)] at heq
      by_cases ej : j = n + 1
      · rw [if_pos ej] at heq
        by_cases ei : i = n
        · rw [ei] at heq
          exact hne heq.symm
        · exact hk0 (by rw [← heq]; exact (ht n hnq).2.2 i (by omega))
      · rw [if_neg ej] at heq
        have := (ht j (by omega)).2.2 i h1
        rw [heq] at this
        exact (ht j (by omega)).2.1 this
    have h1 := hfp n hnq
    rw [sz_one (ht n hnq).1 (fun k hk hne => by rw [hone k hk hne, Int.mul_zero])] at h1
    rcases Int.mul_eq_zero.1 h1 with h2 | h2
    · unfold phi at h2
      split at h2 <;> omega
    · exact (ht n hnq).2.1 h2
