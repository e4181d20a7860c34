/-! Teller's systems and the reference's vectors -/
theorem sm_cut {n m : Nat} {f : Nat → Nat} : sm (n + m) f = sm n f + sm m (fun j => f (n + j)) := by
  induction m with
  | zero => rfl
  | succ m ih =>
    show sm (n + m) f + f (n + m) = sm n f + (sm m (fun j => f (n + j)) + f (n + m))
    rw [ih, Nat.add_assoc]
theorem sz_cut {n m : Nat} {f : Nat → Int} : sz (n + m) f = sz n f + sz m (fun j => f (n + j)) := by
  induction m with
  | zero => show sz n f = sz n f + 0; rw [Int.add_zero]
  | succ m ih =>
    show sz (n + m) f + f (n + m) = sz n f + (sz m (fun j => f (n + j)) + f (n + m))
    rw [ih, Int.add_assoc]
theorem sm_nil {n : Nat} {f : Nat → Nat} (h : ∀ j, j < n → f j = 0) : sm n f = 0 := by
  rw [sm_congr (g := fun _ => 0) h]
  exact sm_zero
theorem sm_tail {n N : Nat} {f : Nat → Nat} (hn : n ≤ N) (h : ∀ j, n ≤ j → j < N → f j = 0) : sm N f = sm n f := by
  obtain ⟨d, rfl⟩ : ∃ d, N = n + d := ⟨N - n, by omega⟩
  rw [sm_cut, sm_nil (fun j hj => h (n + j) (by omega) (by omega)), Nat.add_zero]
theorem jta {ar : Nat → Nat → Int} {a b x k : Nat} {v : Nat → Nat} (ha : cn ar a ≤ 8) (hk : k < cn ar a) : jst ar a b x v k = sm (cn ar a) (fun j => v j * (cw ar a j x * cg ar a j k)) := by
  unfold jst
  rw [show (16 : Nat) = 8 + 8 from rfl, sm_cut, sm_nil (n := 8) (f := fun j => v (8 + j) * jm ar a b x k (8 + j)) (fun j hj => ?_), Nat.add_zero, sm_tail ha (fun j h1 h2 => ?_)]
  · refine sm_congr (fun j hj => ?_)
    show v j * jm ar a b x k j = _
    unfold jm
    rw [if_pos (by omega), if_pos ⟨hj, hk⟩]
  · show v j * jm ar a b x k j = 0
    unfold jm
    rw [if_pos h2, if_neg (by omega), Nat.mul_zero]
  · show v (8 + j) * jm ar a b x k (8 + j) = 0
    unfold jm
    rw [if_neg (by omega), if_neg (by omega), Nat.mul_zero]
theorem jtb {ar : Nat → Nat → Int} {a b x k : Nat} {v : Nat → Nat} (ha : cn ar a ≤ 8) (hb : cn ar b ≤ 8) (hk : k < cn ar b) : jst ar a b x v (8 + k) = sm (cn ar b) (fun j => v (8 + j) * (cw ar b j x * cg ar b j k)) := by
  unfold jst
  rw [show (16 : Nat) = 8 + 8 from rfl, sm_cut, sm_nil (n := 8) (f := fun j => v j * jm ar a b x (8 + k) j) (fun j hj => ?_), Nat.zero_add, sm_tail hb (fun j h1 h2 => ?_)]
  · refine sm_congr (fun j hj => ?_)
    show v (8 + j) * jm ar a b x (8 + k) (8 + j) = _
    unfold jm
    rw [if_neg (by omega), if_pos (by omega), Nat.add_sub_cancel_left, Nat.add_sub_cancel_left]
  · show v (8 + j) * jm ar a b x (8 + k) (8 + j) = 0
    unfold jm
    rw [if_neg (by omega), if_neg (by omega), Nat.mul_zero]
  · show v j * jm ar a b x (8 + k) j = 0
    unfold jm
    rw [if_pos hj, if_neg (by omega), Nat.mul_zero]
theorem sz_neg {n : Nat} {f : Nat → Int} : sz n (fun j => -f j) = -sz n f := by
  induction n with
  | zero => rfl
  | succ n ih => rw [sz_s, sz_s, ih]; omega
theorem sz_sub {n : Nat} {f g : Nat → Int} : sz n (fun j => f j - g j) = sz n f - sz n g := by
  induction n with
  | zero => rfl
  | succ n ih => rw [sz_s, sz_s, sz_s, ih]; omega
/-! two chains -/
theorem dv_2 {ar : Nat → Nat → Int} {a b : Nat} (ha : cn ar a ≤ 8) (hb : cn ar b ≤ 8) (z : List Nat) : (∀ k, k < cn ar a → tm_dv (sy2 ar a b) z k = (wvec ar a b (stv ar a b) z k : Nat)) ∧ ∀ k, k < cn ar b → tm_dv (sy2 ar a b) z (cn ar a + k) = -((wvec ar a b (stv ar a b) z (8 + k) : Nat) : Int) := by
  induction z with
  | nil =>
    refine ⟨fun k hk => ?_, fun k hk => ?_⟩
    · show (if k < cn ar a then ((cb ar a k : Nat) : Int) else _) = ((stv ar a b k : Nat) : Int)
      unfold stv
      rw [if_pos hk, if_pos (by omega), if_pos hk]
    · show (if cn ar a + k < cn ar a then _ else -((cb ar b (cn ar a + k - cn ar a) : Nat) : Int)) = -((stv ar a b (8 + k) : Nat) : Int)
      unfold stv
      rw [if_neg (by omega), if_neg (by omega), Nat.add_sub_cancel_left, Nat.add_sub_cancel_left, if_pos hk]
  | cons x u ih =>
    refine ⟨fun k hk => ?_, fun k hk => ?_⟩
    · show sz (cn ar a + cn ar b) (fun s => tm_dv (sy2 ar a b) u s * ((sy2 ar a b).2.1 s x * (sy2 ar a b).2.2.1 s k)) = ((jst ar a b x (wvec ar a b (stv ar a b) u) k : Nat) : Int)
      rw [sz_cut, jta ha hk, sm_sz, sz_zero (n := cn ar b) (fun j hj => ?_), Int.add_zero]
      · refine sz_congr (fun j hj => ?_)
        show tm_dv (sy2 ar a b) u j * ((if j < cn ar a then ((cw ar a j x : Nat) : Int) else _) * (if j < cn ar a then (if k < cn ar a then ((cg ar a j k : Nat) : Int) else 0) else _)) = _
        rw [if_pos hj, if_pos hj, if_pos hk, ih.1 j hj, Int.natCast_mul, Int.natCast_mul]
      · show _ * (_ * (if cn ar a + j < cn ar a then _ else (if k < cn ar a then 0 else _))) = _
        rw [if_neg (by omega), if_pos hk, Int.mul_zero, Int.mul_zero]
    · show sz (cn ar a + cn ar b) (fun s => tm_dv (sy2 ar a b) u s * ((sy2 ar a b).2.1 s x * (sy2 ar a b).2.2.1 s (cn ar a + k))) = -((jst ar a b x (wvec ar a b (stv ar a b) u) (8 + k) : Nat) : Int)
      rw [sz_cut, jtb ha hb hk, sm_sz, sz_zero (n := cn ar a) (fun j hj => ?_), Int.zero_add, ← sz_neg]
      · refine sz_congr (fun j hj => ?_)
        show tm_dv (sy2 ar a b) u (cn ar a + j) * ((if cn ar a + j < cn ar a then _ else ((cw ar b (cn ar a + j - cn ar a) x : Nat) : Int)) * (if cn ar a + j < cn ar a then _ else (if cn ar a + k < cn ar a then 0 else ((cg ar b (cn ar a + j - cn ar a) (cn ar a + k - cn ar a) : Nat) : Int)))) = _
        rw [if_neg (by omega), if_neg (by omega), if_neg (by omega), Nat.add_sub_cancel_left, Nat.add_sub_cancel_left, ih.2 j hj, Int.natCast_mul, Int.natCast_mul, Int.neg_mul]
      · show _ * (_ * (if j < cn ar a then (if cn ar a + k < cn ar a then _ else 0) else _)) = _
        rw [if_pos hj, if_neg (by omega), Int.mul_zero, Int.mul_zero]
theorem stv_0 {ar : Nat → Nat → Int} {a b : Nat} (k : Nat) (h : vz ar a b k) : stv ar a b k = 0 := by
  unfold stv
  rcases h with h | h
  · rw [if_pos h.1, if_neg (by omega)]
  · rw [if_neg (by omega), if_neg (by omega)]
theorem dot_2 {ar : Nat → Nat → Int} {a b : Nat} {st : Nat → Nat} (ha : cn ar a ≤ 8) (hb : cn ar b ≤ 8) (hst : ∀ k, k < 16 → vz ar a b k → st k = 0) (z : List Nat) : dot phi (wvec ar a b st z) = (sm (cn ar a) (wvec ar a b st z) : Nat) - (sm (cn ar b) (fun k => wvec ar a b st z (8 + k)) : Nat) := by
  rw [phi_sum, sm_tail ha (fun j h1 h2 => wvec_z ha hst z j (by omega) (Or.inl ⟨h2, h1⟩)), sm_tail hb (f := fun k => wvec ar a b st z (8 + k)) (fun j h1 h2 => wvec_z ha hst z (8 + j) (by omega) (Or.inr ⟨by omega, by omega⟩))]
theorem ph_2 {ar : Nat → Nat → Int} {a b : Nat} (ha : cn ar a ≤ 8) (hb : cn ar b ≤ 8) (z : List Nat) : tm_ph (sy2 ar a b) z = dot phi (wvec ar a b (stv ar a b) z) := by
  obtain ⟨h1, h2⟩ := dv_2 ha hb z
  rw [dot_2 ha hb (fun k _ h => stv_0 k h)]
  show sz (cn ar a + cn ar b) (fun k => 1 * tm_dv (sy2 ar a b) z k) = _
  rw [sz_cut, sm_sz, sm_sz, sz_congr (n := cn ar a) (g := fun k => ((wvec ar a b (stv ar a b) z k : Nat) : Int)) (fun k hk => by rw [Int.one_mul]; exact h1 k hk), sz_congr (n := cn ar b) (g := fun k => -((wvec ar a b (stv ar a b) z (8 + k) : Nat) : Int)) (fun k hk => by rw [Int.one_mul]; exact h2 k hk), sz_neg, Int.sub_eq_add_neg]
theorem abs_le {A B C : Nat} (h1 : A ≤ C) (h2 : B ≤ C) : ((A : Int) - (B : Int)).natAbs ≤ C := by omega
theorem sm_wt {n W : Nat} {f g : Nat → Nat} (h : ∀ j, j < n → g j ≤ W) : sm n (fun j => f j * g j) ≤ W * sm n f := by
  rw [← sm_mul]
  exact sm_lem (fun j hj => by rw [Nat.mul_comm]; exact Nat.mul_le_mul_right _ (h j hj))
theorem pw_len {L A : Nat} (h : A ≤ 1000 * (1000 * 1000000 ^ L)) : A ≤ 10 ^ (6 * (L + 1)) := by
  rw [Nat.pow_mul, show (10 : Nat) ^ 6 = 1000000 from rfl, Nat.pow_succ]
  omega
theorem smal_2 {ar : Nat → Nat → Int} {a b : Nat} (ha : mch ar a) (hb : mch ar b) (sa : snd ar a) (sb : snd ar b) (hk : ck ar a = ck ar b) (ht : ct ar a = ct ar b) : smal (sy2 ar a b) (ck ar a) ((ct ar a : Nat) : Int) := by
  obtain ⟨-, na1, na8⟩ := mch_n ha
  obtain ⟨-, nb1, nb8⟩ := mch_n hb
  obtain ⟨-, ka1, ka6⟩ := mch_k ha
  obtain ⟨-, ta1, ta2⟩ := mch_t ha
  have hs1 : sm 8 (stv ar a b) = ct ar a := by
    rw [sm_tail na8 (fun j h1 h2 => stv_0 j (Or.inl ⟨h2, h1⟩)), ← sa.1]
    refine sm_congr (fun j hj => ?_)
    unfold stv
    rw [if_pos (by omega), if_pos hj]
  have hs2 : sm 8 (fun k => stv ar a b (8 + k)) = ct ar b := by
    rw [sm_tail nb8 (f := fun k => stv ar a b (8 + k)) (fun j h1 h2 => stv_0 (8 + j) (Or.inr ⟨by omega, by omega⟩)), ← sb.1]
    refine sm_congr (fun j hj => ?_)
    show stv ar a b (8 + j) = _
    unfold stv
    rw [if_neg (by omega), Nat.add_sub_cancel_left, if_pos hj]
  refine ⟨fun s hs => ?_, by omega, ?_, fun x u hxu => ?_⟩
  · have hs : s < cn ar a + cn ar b := hs
    show sz (cn ar a + cn ar b) (fun t => (sy2 ar a b).2.2.1 s t) = _
    rw [sz_cut]
    by_cases e : s < cn ar a
    · rw [sz_congr (n := cn ar a) (g := fun t => ((cg ar a s t : Nat) : Int)) (fun t ht2 => by
        show (if s < cn ar a then (if t < cn ar a then _ else _) else _) = _
        rw [if_pos e, if_pos ht2]), sz_zero (n := cn ar b) (fun t ht2 => by
        show (if s < cn ar a then (if cn ar a + t < cn ar a then _ else _) else _) = _
        rw [if_pos e, if_neg (by omega)]), ← sm_sz, Int.add_zero, (sa.2 s e).1]
    · rw [sz_zero (n := cn ar a) (fun t ht2 => by
        show (if s < cn ar a then _ else (if t < cn ar a then _ else _)) = _
        rw [if_neg e, if_pos ht2]), sz_congr (n := cn ar b) (g := fun t => ((cg ar b (s - cn ar a) t : Nat) : Int)) (fun t ht2 => by
        show (if s < cn ar a then _ else (if cn ar a + t < cn ar a then _ else ((cg ar b (s - cn ar a) (cn ar a + t - cn ar a) : Nat) : Int))) = _
        rw [if_neg e, if_neg (by omega), Nat.add_sub_cancel_left]), ← sm_sz, Int.zero_add, (sb.2 (s - cn ar a) (by omega)).1, ht]
  · rw [ph_2 na8 nb8, phi_sum]
    show ((sm 8 (stv ar a b) : Nat) : Int) - ((sm 8 (fun k => stv ar a b (8 + k)) : Nat) : Int) = 0
    rw [hs1, hs2, ht, Int.sub_self]
  · obtain ⟨h1, h2⟩ := dv_2 na8 nb8 u
    have hw := wvec_sum (st := stv ar a b) ha hb sa sb ka6 (by omega) (by omega) u hxu.2
    have e : tm_sd (sy2 ar a b) x (tm_dv (sy2 ar a b) u) = ((sm (cn ar a) (fun s => wvec ar a b (stv ar a b) u s * cw ar a s x) : Nat) : Int) - ((sm (cn ar b) (fun s => wvec ar a b (stv ar a b) u (8 + s) * cw ar b s x) : Nat) : Int) := by
      show sz (cn ar a + cn ar b) (fun s => tm_dv (sy2 ar a b) u s * (sy2 ar a b).2.1 s x) = _
      rw [sz_cut, sm_sz, sm_sz, Int.sub_eq_add_neg, ← sz_neg]
      rw [sz_congr (n := cn ar a) (g := fun s => ((wvec ar a b (stv ar a b) u s * cw ar a s x : Nat) : Int)) (fun s hs => by
        show tm_dv (sy2 ar a b) u s * (if s < cn ar a then _ else _) = _
        rw [if_pos hs, h1 s hs, Int.natCast_mul])]
      rw [sz_congr (n := cn ar b) (g := fun s => -((wvec ar a b (stv ar a b) u (8 + s) * cw ar b s x : Nat) : Int)) (fun s hs => by
        show tm_dv (sy2 ar a b) u (cn ar a + s) * (if cn ar a + s < cn ar a then _ else ((cw ar b (cn ar a + s - cn ar a) x : Nat) : Int)) = _
        rw [if_neg (by omega), h2 s hs, Nat.add_sub_cancel_left, Int.natCast_mul, Int.neg_mul])]
    rw [e]
    have hx : x < 6 := Nat.lt_of_lt_of_le hxu.1 ka6
    refine abs_le (pw_len ?_) (pw_len ?_)
    · refine Nat.le_trans (sm_wt (W := 1000) (fun j hj => (mch_w ha (by omega) hx).2)) (Nat.mul_le_mul_left _ ?_)
      exact Nat.le_trans (sm_mono na8) hw.1
    · refine Nat.le_trans (sm_wt (W := 1000) (fun j hj => (mch_w hb (by omega) hx).2)) (Nat.mul_le_mul_left _ ?_)
      exact Nat.le_trans (sm_mono nb8) hw.2
/-! one chain, two states -/
theorem dv_1 {ar : Nat → Nat → Int} {c s t : Nat} (hc : cn ar c ≤ 8) (hs : s < cn ar c) (ht : t < cn ar c) (z : List Nat) : ∀ k, k < cn ar c → tm_dv (sy1 ar c s t) z k = ((wvec ar c c (sts s t) z k : Nat) : Int) - ((wvec ar c c (sts s t) z (8 + k) : Nat) : Int) := by
  induction z with
  | nil =>
    intro k hk
    show (if s = t then (0 : Int) else if k = t then -1 else if k = s then 1 else 0) = ((sts s t k : Nat) : Int) - ((sts s t (8 + k) : Nat) : Int)
    have e1 : sts s t k = if k = s then 1 else 0 := by
      unfold sts
      by_cases h : k = s
      · rw [if_pos h, if_pos h]
      · rw [if_neg h, if_neg h, if_neg (by omega)]
    have e2 : sts s t (8 + k) = if k = t then 1 else 0 := by
      unfold sts
      rw [if_neg (by omega)]
      by_cases h : k = t
      · rw [if_pos (by omega), if_pos h]
      · rw [if_neg (by omega), if_neg h]
    rw [e1, e2]
    by_cases h : s = t
    · rw [if_pos h, h]
      split <;> decide
    · rw [if_neg h]
      by_cases h2 : k = t
      · rw [if_pos h2, if_pos h2, if_neg (by omega)]; decide
      · rw [if_neg h2, if_neg h2]
        by_cases h3 : k = s
        · rw [if_pos h3, if_pos h3]; decide
        · rw [if_neg h3, if_neg h3]; decide
  | cons x u ih =>
    intro k hk
    show sz (cn ar c) (fun j => tm_dv (sy1 ar c s t) u j * (((cw ar c j x : Nat) : Int) * ((cg ar c j k : Nat) : Int))) = ((jst ar c c x (wvec ar c c (sts s t) u) k : Nat) : Int) - ((jst ar c c x (wvec ar c c (sts s t) u) (8 + k) : Nat) : Int)
    rw [jta hc hk, jtb hc hc hk, sm_sz, sm_sz, ← sz_sub]
    refine sz_congr (fun j hj => ?_)
    rw [ih j hj, Int.natCast_mul, Int.natCast_mul, Int.natCast_mul, Int.natCast_mul, Int.sub_mul]
theorem sts_z {ar : Nat → Nat → Int} {c s t : Nat} (hc : cn ar c ≤ 8) (hs : s < cn ar c) (ht : t < cn ar c) (k : Nat) (h : vz ar c c k) : sts s t k = 0 := by
  unfold sts
  rcases h with h | h
  · rw [if_neg (by omega), if_neg (by omega)]
  · rw [if_neg (by omega), if_neg (by omega)]
theorem ph_1 {ar : Nat → Nat → Int} {c s t : Nat} (hc : cn ar c ≤ 8) (hs : s < cn ar c) (ht : t < cn ar c) (z : List Nat) : tm_ph (sy1 ar c s t) z = dot phi (wvec ar c c (sts s t) z) := by
  have h1 := dv_1 hc hs ht z
  rw [dot_2 hc hc (fun k _ h => sts_z hc hs ht k h), sm_sz, sm_sz, ← sz_sub]
  show sz (cn ar c) (fun k => 1 * tm_dv (sy1 ar c s t) z k) = _
  exact sz_congr (fun k hk => by rw [Int.one_mul]; exact h1 k hk)
theorem sm_dir {n s : Nat} {f : Nat → Nat} (hs : s < n) (h : ∀ k, k < n → f k = if k = s then 1 else 0) : sm n f = 1 := by
  induction n with
  | zero => exact absurd hs (Nat.not_lt_zero _)
  | succ n ih =>
    rw [sm_s, h n (by omega)]
    by_cases e : n = s
    · rw [if_pos e, sm_nil (fun j hj => by rw [h j (by omega), if_neg (by omega)])]
    · rw [if_neg e, ih (by omega) (fun k hk => h k (by omega))]
theorem sts_8 {s t : Nat} (hs : s < 8) (ht : t < 8) : sm 8 (sts s t) = 1 ∧ sm 8 (fun k => sts s t (8 + k)) = 1 := by
  refine ⟨sm_dir hs (fun k hk => ?_), sm_dir ht (fun k hk => ?_)⟩
  · unfold sts
    by_cases h : k = s
    · rw [if_pos h, if_pos h]
    · rw [if_neg h, if_neg h, if_neg (by omega)]
  · unfold sts
    rw [if_neg (by omega)]
    by_cases h : k = t
    · rw [if_pos (by omega), if_pos h]
    · rw [if_neg (by omega), if_neg h]
theorem smal_1 {ar : Nat → Nat → Int} {c s t : Nat} (ha : mch ar c) (sa : snd ar c) (hs : s < cn ar c) (ht : t < cn ar c) : smal (sy1 ar c s t) (ck ar c) ((ct ar c : Nat) : Int) := by
  obtain ⟨-, na1, na8⟩ := mch_n ha
  obtain ⟨-, ka1, ka6⟩ := mch_k ha
  obtain ⟨-, ta1, ta2⟩ := mch_t ha
  obtain ⟨e1, e2⟩ := sts_8 (show s < 8 by omega) (show t < 8 by omega)
  refine ⟨fun u hu => ?_, by omega, ?_, fun x u hxu => ?_⟩
  · have hu : u < cn ar c := hu
    show sz (cn ar c) (fun v => ((cg ar c u v : Nat) : Int)) = _
    rw [← sm_sz, (sa.2 u hu).1]
  · rw [ph_1 na8 hs ht, phi_sum]
    show ((sm 8 (sts s t) : Nat) : Int) - ((sm 8 (fun k => sts s t (8 + k)) : Nat) : Int) = 0
    rw [e1, e2, Int.sub_self]
  · have h1 := dv_1 na8 hs ht u
    have hw := wvec_sum (st := sts s t) ha ha sa sa ka6 (by omega) (by omega) u hxu.2
    have e : tm_sd (sy1 ar c s t) x (tm_dv (sy1 ar c s t) u) = ((sm (cn ar c) (fun v => wvec ar c c (sts s t) u v * cw ar c v x) : Nat) : Int) - ((sm (cn ar c) (fun v => wvec ar c c (sts s t) u (8 + v) * cw ar c v x) : Nat) : Int) := by
      show sz (cn ar c) (fun v => tm_dv (sy1 ar c s t) u v * ((cw ar c v x : Nat) : Int)) = _
      rw [sm_sz, sm_sz, ← sz_sub]
      refine sz_congr (fun v hv => ?_)
      rw [h1 v hv, Int.natCast_mul, Int.natCast_mul, Int.sub_mul]
    rw [e]
    have hx : x < 6 := Nat.lt_of_lt_of_le hxu.1 ka6
    refine abs_le (pw_len ?_) (pw_len ?_)
    · refine Nat.le_trans (sm_wt (W := 1000) (fun j hj => (mch_w ha (by omega) hx).2)) (Nat.mul_le_mul_left _ ?_)
      exact Nat.le_trans (sm_mono na8) hw.1
    · refine Nat.le_trans (sm_wt (W := 1000) (fun j hj => (mch_w ha (by omega) hx).2)) (Nat.mul_le_mul_left _ ?_)
      exact Nat.le_trans (sm_mono na8) hw.2
