theorem ze_wk {G : ze_G} {l : Launch} {k mc ms : Nat} {M : ze_M} {av : List Value} {w : ze_W} {Q Q' : Option Value → ze_W → Prop} (h : ze_C G l k mc ms M av w Q) (hQ : ∀ v w', Q v w' → Q' v w') : ze_C G l k mc ms M av w Q' := by
  intro p e h1 h2 h3 s m args below h4 h5 h6 h7
  obtain ⟨n, o, g1, g2, g3, g4⟩ := h p e h1 h2 h3 s m args below h4 h5 h6 h7
  obtain ⟨⟨⟨v, w2, e1, e2, e3⟩, f1⟩, g5⟩ := g4
  exact ⟨n, o, g1, g2, g3, ⟨⟨v, w2, e1, hQ v w2 e2, e3⟩, f1⟩, g5⟩
/-! the reference's picture: it lies at m and behind, as its constructor lays it -/
def mfs (m C P F : Nat) : List Value := [.ref (m + 1), .ref (m + 2), .ref (m + 3), .ref (m + 4), .ref (m + 5), .ref (m + 6), ze_i (C : Nat), .ref (m + 7), ze_i (P : Nat), .ref (m + 8), .ref (m + 10), .ref (m + 11), .ref (m + 12), .ref (m + 13), .ref (m + 14), .ref (m + 15), .ref (m + 16), .ref (m + 17), ze_i (F : Nat), .ref (m + 18), .ref (m + 19), .ref (m + 20), .ref (m + 21), .ref (m + 22), .ref (m + 23), .ref (m + 24), .ref (m + 26), .ref (m + 28), .ref (m + 30), .ref (m + 32), .ref (m + 34), ze_i 0]
def mil (k : Nat) : Nat := if k = 1 ∨ k = 2 ∨ k = 3 then 6 else if k = 4 then 48 else if k = 5 then 384 else if k = 6 then 288 else if k = 7 ∨ k = 17 then 60 else if k = 13 ∨ k = 14 then 9600 else if k = 15 then 480 else if k = 16 then 8 else if k = 20 then 16 else if k = 21 ∨ k = 22 then 18 else 0
def mrl (k : Nat) : Nat := if k = 10 ∨ k = 11 then 480 else if k = 12 then 9600 else if k = 18 then 288 else if k = 19 then 256 else if k = 23 then 16 else 0
def mro (k j : Nat) : Nat := if k = 10 then 36 + 4 * j else if k = 11 then 38 + 4 * j else if k = 12 then 1956 + 2 * j else if k = 18 then 21156 + 2 * j else if k = 19 then 21732 + 2 * j else 22244 + 2 * j
def mcap (o : Nat) : Nat := if o % 2 = 1 then 0 else if o = 8 then 420 else if o < 24 then 0 else if o < 34 then 420 else if o < 36 then 4 else if o < 21732 then 48 else if o < 22276 then 420 else 0
theorem mil_ne {k : Nat} (h : mil k ≠ 0) : (1 ≤ k ∧ k ≤ 7) ∨ (13 ≤ k ∧ k ≤ 17) ∨ (20 ≤ k ∧ k ≤ 22) := by
  unfold mil at h
  repeat' (split at h)
  all_goals omega
theorem mrl_ne {k : Nat} (h : mrl k ≠ 0) : (10 ≤ k ∧ k ≤ 12) ∨ k = 18 ∨ k = 19 ∨ k = 23 := by
  unfold mrl at h
  repeat' (split at h)
  all_goals omega
theorem mcap_ne {o : Nat} (h : mcap o ≠ 0) : (o = 8 ∨ (24 ≤ o ∧ o < 22276)) ∧ o % 2 = 0 := by
  unfold mcap at h
  repeat' (split at h)
  all_goals omega
/-- the picture itself -/
def mdl (G : ze_G) (w : ze_W) (m C P F : Nat) (ar : Nat → Nat → Int) (bz : Nat → Int) : Prop := w.2 m = some (ze_ob 8 (mfs m C P F)) ∧ (∀ k, mil k ≠ 0 → w.2 (m + k) = some (ze_ia G (mil k) (ar k))) ∧ (∀ k, mrl k ≠ 0 → w.2 (m + k) = some (ze_ra G 4 (mrl k) (fun j => some (m + mro k j)))) ∧ (∀ o, mcap o ≠ 0 → bgz G w (m + o) (mcap o) (bz o))
/-- nothing outside of the reference has changed -/
def mfr (w w' : ze_W) (m : Nat) : Prop := w'.1 = w.1 ∧ ∀ x, x < m ∨ m + 22276 ≤ x → w'.2 x = w.2 x
/-- the picture, with what has not changed since w0 -/
def mst (G : ze_G) (w0 w : ze_W) (m C P F : Nat) (ar : Nat → Nat → Int) (bz : Nat → Int) : Prop := mfr w0 w m ∧ mdl G w m C P F ar bz
theorem ms_o {G : ze_G} {w0 w : ze_W} {m C P F : Nat} {ar : Nat → Nat → Int} {bz : Nat → Int} (h : mst G w0 w m C P F ar bz) : w.2 m = some (ze_ob 8 (mfs m C P F)) := h.2.1
theorem ms_i {G : ze_G} {w0 w : ze_W} {m C P F : Nat} {ar : Nat → Nat → Int} {bz : Nat → Int} (h : mst G w0 w m C P F ar bz) (k : Nat) (hk : mil k ≠ 0) : w.2 (m + k) = some (ze_ia G (mil k) (ar k)) := h.2.2.1 k hk
theorem ms_r {G : ze_G} {w0 w : ze_W} {m C P F : Nat} {ar : Nat → Nat → Int} {bz : Nat → Int} (h : mst G w0 w m C P F ar bz) (k : Nat) (hk : mrl k ≠ 0) : w.2 (m + k) = some (ze_ra G 4 (mrl k) (fun j => some (m + mro k j))) := h.2.2.2.1 k hk
theorem ms_b {G : ze_G} {w0 w : ze_W} {m C P F : Nat} {ar : Nat → Nat → Int} {bz : Nat → Int} (h : mst G w0 w m C P F ar bz) {o : Nat} (ho : mcap o ≠ 0) : bgz G w (m + o) (mcap o) (bz o) := h.2.2.2.2 o ho
theorem bgz_sm {G : ze_G} {w w' : ze_W} {a L : Nat} {z : Int} (h : bgz G w a L z) (h1 : w'.2 a = w.2 a) (h2 : w'.2 (a + 1) = w.2 (a + 1)) : bgz G w' a L z := by
  obtain ⟨f, n, sg, h3, h4⟩ := h
  exact ⟨f, n, sg, ⟨h1.trans h3.1, h2.trans h3.2.1, h3.2.2⟩, h4⟩
/-- a row of ints is written -/
theorem ms_wi {G : ze_G} {w0 w w' : ze_W} {m C P F : Nat} {ar : Nat → Nat → Int} {bz : Nat → Int} {f : Nat → Int} (h : mst G w0 w m C P F ar bz) (k : Nat) (hk : mil k ≠ 0) (z1 : w'.1 = w.1) (c1 : w'.2 (m + k) = some (ze_ia G (mil k) f)) (o1 : ∀ x, x ≠ m + k → w'.2 x = w.2 x) : mst G w0 w' m C P F (va_up ar k f) bz := by
  obtain ⟨⟨h1, h2⟩, h3, h4, h5, h6⟩ := h
  have hk2 := mil_ne hk
  refine ⟨⟨z1.trans h1, fun x hx => (o1 x (by omega)).trans (h2 x hx)⟩, (o1 m (by omega)).trans h3, fun q hq => ?_, fun q hq => ?_, fun q hq => ?_⟩
  · by_cases e : q = k
    · rw [e, va_up_self]; exact c1
    · rw [va_up_ne _ _ e, o1 _ (by omega)]; exact h4 q hq
  · have := mrl_ne hq
    rw [o1 _ (by omega)]; exact h5 q hq
  · have := mcap_ne hq
    exact bgz_sm (h6 q hq) (o1 _ (by omega)) (o1 _ (by omega))
/-- the object is written -/
theorem ms_wo {G : ze_G} {w0 w w' : ze_W} {m C P F C' P' F' : Nat} {ar : Nat → Nat → Int} {bz : Nat → Int} (h : mst G w0 w m C P F ar bz) (z1 : w'.1 = w.1) (c1 : w'.2 m = some (ze_ob 8 (mfs m C' P' F'))) (o1 : ∀ x, x ≠ m → w'.2 x = w.2 x) : mst G w0 w' m C' P' F' ar bz := by
  obtain ⟨⟨h1, h2⟩, h3, h4, h5, h6⟩ := h
  refine ⟨⟨z1.trans h1, fun x hx => (o1 x (by omega)).trans (h2 x hx)⟩, c1, fun q hq => ?_, fun q hq => ?_, fun q hq => ?_⟩
  · have := mil_ne hq
    rw [o1 _ (by omega)]; exact h4 q hq
  · have := mrl_ne hq
    rw [o1 _ (by omega)]; exact h5 q hq
  · have := mcap_ne hq
    exact bgz_sm (h6 q hq) (o1 _ (by omega)) (o1 _ (by omega))
/-- a Big is written -/
theorem ms_wb {G : ze_G} {w0 w w' : ze_W} {m C P F : Nat} {ar : Nat → Nat → Int} {bz : Nat → Int} {z : Int} (h : mst G w0 w m C P F ar bz) {o : Nat} (ho : mcap o ≠ 0) (fr : bfr w w' (m + o)) (c1 : bgz G w' (m + o) (mcap o) z) : mst G w0 w' m C P F ar (va_up bz o z) := by
  obtain ⟨⟨h1, h2⟩, h3, h4, h5, h6⟩ := h
  have ho2 := mcap_ne ho
  obtain ⟨z1, o1⟩ := fr
  refine ⟨⟨z1.trans h1, fun x hx => (o1 x (by omega) (by omega)).trans (h2 x hx)⟩, (o1 m (by omega) (by omega)).trans h3, fun q hq => ?_, fun q hq => ?_, fun q hq => ?_⟩
  · have := mil_ne hq
    rw [o1 _ (by omega) (by omega)]; exact h4 q hq
  · have := mrl_ne hq
    rw [o1 _ (by omega) (by omega)]; exact h5 q hq
  · have := mcap_ne hq
    by_cases e : q = o
    · rw [e, va_up_self]; exact c1
    · rw [va_up_ne _ _ e]
      exact bgz_sm (h6 q hq) (o1 _ (by omega) (by omega)) (o1 _ (by omega) (by omega))
theorem ms_rf {G : ze_G} {w : ze_W} {m C P F : Nat} {ar : Nat → Nat → Int} {bz : Nat → Int} (h : mdl G w m C P F ar bz) : mst G w w m C P F ar bz := ⟨⟨rfl, fun _ _ => rfl⟩, h⟩
/-- a number that a Big of L parts holds -/
def fit (x : Int) (L : Nat) : Prop := x.natAbs < 4294967296 ^ L
theorem bgz_cap {G : ze_G} {w : ze_W} {a L : Nat} {x : Int} (h : bgz G w a L x) : fit x L := by
  obtain ⟨f, n, sg, h1, h2, h3, h4⟩ := h
  have e : x.natAbs = nv 4294967296 f n := by
    rcases h4 with ⟨g1, g2⟩ | ⟨g1, g2 | g2⟩ <;> rw [h3, g2]
    · rw [g1]; rfl
    · rw [Int.one_mul]; rfl
    · rw [Int.neg_mul, Int.one_mul, Int.natAbs_neg]; rfl
  unfold fit
  rw [e]
  exact Nat.lt_of_lt_of_le (nv_lt (fun j _ => h1.2.2.2.2 j)) (Nat.pow_le_pow_right (by decide) h1.2.2.1)
theorem fit_le {x : Int} {K L : Nat} (h : fit x K) (hL : K ≤ L) : fit x L := Nat.lt_of_lt_of_le h (Nat.pow_le_pow_right (by decide) hL)
theorem fit_sm {x : Int} (h : -4294967296 < x ∧ x < 4294967296) : fit x 1 := by
  unfold fit
  rw [Nat.pow_one]
  omega
theorem fit_mul {x y : Int} {K L : Nat} (hx : fit x K) (hy : fit y L) : fit (x * y) (K + L) := by
  unfold fit at *
  rw [Int.natAbs_mul, Nat.pow_add]
  exact Nat.mul_lt_mul'' hx hy
theorem fit_nat {x : Nat} {L : Nat} (h : x < 4294967296 ^ L) : fit (x : Nat) L := h
