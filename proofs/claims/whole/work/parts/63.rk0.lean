/-! the class's lists of best rows beside the reference's -/
theorem mx_scale {f g : Nat → Nat} {n E : Nat} (hE : 0 < E) (h : ∀ t, t < n → f t = g t * E) : mx f n = ((mx g n).1, (mx g n).2 * E) := by
  induction n with
  | zero => show ((0, 0) : Nat × Nat) = (0, 0 * E); rw [Nat.zero_mul]
  | succ n ih =>
    rw [mx_s, mx_s, ih (fun t ht => h t (by omega)), h n (by omega)]
    by_cases k : (mx g n).2 < g n
    · rw [if_pos k, if_pos ((Nat.mul_lt_mul_right hE).mpr k)]
    · rw [if_neg k, if_neg (fun k2 => k ((Nat.mul_lt_mul_right hE).mp k2))]
theorem mx_zero {f : Nat → Nat} {n : Nat} (h : ∀ t, t < n → f t = 0) : (mx f n).2 = 0 := by
  induction n with
  | zero => rfl
  | succ n ih =>
    rw [mx_s, h n (by omega), if_neg (Nat.not_lt_zero _)]
    exact ih (fun t ht => h t (by omega))
theorem lnn_all {n : Nat} {cnt : Nat → Nat} {val : Nat → Nat → Nat} {wt : Nat → Nat} (r : Nat) (h : ∀ q, q < r → (pk n cnt val wt q).2 ≠ 0) : lnn n cnt val wt r = r := by
  induction r with
  | zero => rfl
  | succ r ih => exact lnn_go (ih (fun q hq => h q (by omega))) (h r (by omega))
theorem lnn_iff {n : Nat} {cnt : Nat → Nat} {val : Nat → Nat → Nat} {wt : Nat → Nat} {r : Nat} (M : Nat) : r < lnn n cnt val wt M ↔ r < M ∧ ∀ q, q ≤ r → (pk n cnt val wt q).2 ≠ 0 := by
  have hle := lnn_le (n := n) (cnt := cnt) (val := val) (wt := wt) M
  refine ⟨fun h => ⟨by omega, fun q hq => lnn_pk (K := M) (by omega)⟩, fun ⟨h1, h2⟩ => ?_⟩
  obtain ⟨d, rfl⟩ : ∃ d, M = r + 1 + d := ⟨M - (r + 1), by omega⟩
  have h3 : lnn n cnt val wt (r + 1) = r + 1 := lnn_all (r + 1) (fun q hq => h2 q (by omega))
  have h4 : ∀ d, r + 1 ≤ lnn n cnt val wt (r + 1 + d) := by
    intro d
    induction d with
    | zero => rw [Nat.add_zero, h3]; exact Nat.le_refl _
    | succ d ih =>
      show r + 1 ≤ (if lnn n cnt val wt (r + 1 + d) = r + 1 + d ∧ (pk n cnt val wt (r + 1 + d)).2 ≠ 0 then r + 1 + d + 1 else lnn n cnt val wt (r + 1 + d))
      split <;> omega
  have := h4 d
  omega
/-- two merges whose heads are alike but for a factor pick alike -/
def lke (n K E : Nat) (c1 : Nat → Nat) (v1 : Nat → Nat → Nat) (w1 : Nat → Nat) (c2 : Nat → Nat) (v2 : Nat → Nat → Nat) (w2 : Nat → Nat) : Prop := ∀ (tk : Nat → Nat) (t : Nat), t < n → tk t < K → hd c1 v1 w1 tk t = hd c2 v2 w2 tk t * E
theorem lke_tkn {n K E : Nat} {c1 c2 w1 w2 : Nat → Nat} {v1 v2 : Nat → Nat → Nat} (hE : 0 < E) (h : lke n K E c1 v1 w1 c2 v2 w2) (r : Nat) (hr : r ≤ K) : tkn n c1 v1 w1 r = tkn n c2 v2 w2 r := by
  induction r with
  | zero => funext t; rfl
  | succ r ih =>
    have e := ih (by omega)
    have hm : mx (hd c1 v1 w1 (tkn n c2 v2 w2 r)) n = ((mx (hd c2 v2 w2 (tkn n c2 v2 w2 r)) n).1, (mx (hd c2 v2 w2 (tkn n c2 v2 w2 r)) n).2 * E) := mx_scale hE (fun t ht => h _ t ht (Nat.lt_of_le_of_lt (tkn_le r t) (by omega)))
    funext t
    unfold tkn
    rw [e, hm]
    by_cases k : (mx (hd c2 v2 w2 (tkn n c2 v2 w2 r)) n).2 = 0
    · rw [if_pos k, if_pos (by rw [k, Nat.zero_mul])]
    · rw [if_neg k, if_neg (fun k2 => k ((Nat.mul_eq_zero.mp k2).resolve_right (by omega)))]
theorem lke_pk {n K E : Nat} {c1 c2 w1 w2 : Nat → Nat} {v1 v2 : Nat → Nat → Nat} (hE : 0 < E) (h : lke n K E c1 v1 w1 c2 v2 w2) {r : Nat} (hr : r < K) : pk n c1 v1 w1 r = ((pk n c2 v2 w2 r).1, (pk n c2 v2 w2 r).2 * E) := by
  unfold pk
  rw [lke_tkn hE h r (by omega)]
  exact mx_scale hE (fun t ht => h _ t ht (Nat.lt_of_le_of_lt (tkn_le r t) hr))
theorem lke_lnn {n K E M : Nat} {c1 c2 w1 w2 : Nat → Nat} {v1 v2 : Nat → Nat → Nat} (hE : 0 < E) (h : lke n K E c1 v1 w1 c2 v2 w2) (hM : K ≤ M) {r : Nat} (hr : r < K) : r < lnn n c1 v1 w1 M ↔ r < lnn n c2 v2 w2 K := by
  rw [lnn_iff, lnn_iff]
  refine ⟨fun ⟨_, h2⟩ => ⟨hr, fun q hq k => h2 q hq ?_⟩, fun ⟨_, h2⟩ => ⟨by omega, fun q hq k => h2 q hq ?_⟩⟩
  · rw [lke_pk hE h (by omega), k, Nat.zero_mul]
  · rw [lke_pk hE h (by omega)] at k
    exact (Nat.mul_eq_zero.mp k).resolve_right (by omega)
/-- the class's list of state s before the place that lies d + 1 from the end: the K best -/
def cl (ar : Nat → Nat → Int) (c L K : Nat) : Nat → Nat → Nat × (Nat → Nat)
  | 0, _ => (1, fun _ => 1)
  | d + 1, s => (lnn (cn ar c) (fun t => (cl ar c L K d t).1) (fun t => (cl ar c L K d t).2) (fun t => cg ar c s t * ce ar c t (L - 1 - d)) K, fun r => (pk (cn ar c) (fun t => (cl ar c L K d t).1) (fun t => (cl ar c L K d t).2) (fun t => cg ar c s t * ce ar c t (L - 1 - d)) r).2)
def cpk (ar : Nat → Nat → Int) (c L K d s r : Nat) : Nat × Nat := pk (cn ar c) (fun t => (cl ar c L K d t).1) (fun t => (cl ar c L K d t).2) (fun t => cg ar c s t * ce ar c t (L - 1 - d)) r
def ctk (ar : Nat → Nat → Int) (c L K d s r : Nat) : Nat → Nat := tkn (cn ar c) (fun t => (cl ar c L K d t).1) (fun t => (cl ar c L K d t).2) (fun t => cg ar c s t * ce ar c t (L - 1 - d)) r
def fpk (ar : Nat → Nat → Int) (c L K r : Nat) : Nat × Nat := pk (cn ar c) (fun t => (cl ar c L K (L - 1) t).1) (fun t => (cl ar c L K (L - 1) t).2) (fun t => cb ar c t * ce ar c t 0) r
def ftk (ar : Nat → Nat → Int) (c L K r : Nat) : Nat → Nat := tkn (cn ar c) (fun t => (cl ar c L K (L - 1) t).1) (fun t => (cl ar c L K (L - 1) t).2) (fun t => cb ar c t * ce ar c t 0) r
def fln (ar : Nat → Nat → Int) (c L K : Nat) : Nat := lnn (cn ar c) (fun t => (cl ar c L K (L - 1) t).1) (fun t => (cl ar c L K (L - 1) t).2) (fun t => cb ar c t * ce ar c t 0) K
theorem cl_s1 {ar : Nat → Nat → Int} {c L K d s : Nat} : (cl ar c L K (d + 1) s).1 = lnn (cn ar c) (fun t => (cl ar c L K d t).1) (fun t => (cl ar c L K d t).2) (fun t => cg ar c s t * ce ar c t (L - 1 - d)) K := by rw [cl]
theorem cl_s2 {ar : Nat → Nat → Int} {c L K d s r : Nat} : (cl ar c L K (d + 1) s).2 r = (cpk ar c L K d s r).2 := by rw [cl, cpk]
theorem cl_K {ar : Nat → Nat → Int} {c L K d s : Nat} (hK : 0 < K) : (cl ar c L K d s).1 ≤ K := by
  cases d with
  | zero => exact hK
  | succ d => rw [cl_s1]; exact lnn_le K
theorem cl_le {ar : Nat → Nat → Int} {c L K : Nat} (hR : rok ar c L) (d : Nat) : ∀ s r, d < L → s < 8 → r < (cl ar c L K d s).1 → (cl ar c L K d s).2 r ≤ 1000000 ^ d := by
  have hn := mch_n hR.1
  have ht := (mch_t hR.1).2.2
  induction d with
  | zero => intro s r _ _ _; exact Nat.le_refl _
  | succ d ih =>
    intro s r hdL hs hr
    rw [cl_s2]
    unfold cpk pk
    refine mx_le (fun t h2 => ?_)
    unfold hd
    split
    · rename_i h3
      rw [Nat.pow_succ]
      refine Nat.mul_le_mul (ih t _ (by omega) (by omega) h3) ?_
      have h4 := (mch_g hR.1 hs (show t < 8 by omega)).2
      have h5 := (rok_e hR (show t < 8 by omega) (show L - 1 - d < L by omega)).2
      exact Nat.le_trans (Nat.mul_le_mul h4 (Nat.le_trans h5 ht)) (by decide)
    · exact Nat.zero_le _
/-- the reference's list is the class's, times what the own sign weighs -/
def elc (ar : Nat → Nat → Int) (c L K d s : Nat) : Prop := (ce ar c s (L - 1 - d) = 0 → (el ar c L d s).1 = 0) ∧ (0 < ce ar c s (L - 1 - d) → ∀ r, r < K → (r < (el ar c L d s).1 ↔ r < (cl ar c L K d s).1) ∧ (r < (el ar c L d s).1 → (el ar c L d s).2 r = (cl ar c L K d s).2 r * ce ar c s (L - 1 - d)))
theorem elc_hd {ar : Nat → Nat → Int} {c L K d E : Nat} {g : Nat → Nat} (h : ∀ t, t < cn ar c → elc ar c L K d t) : lke (cn ar c) K E (fun t => (el ar c L d t).1) (fun t => (el ar c L d t).2) (fun t => g t * E) (fun t => (cl ar c L K d t).1) (fun t => (cl ar c L K d t).2) (fun t => g t * ce ar c t (L - 1 - d)) := by
  intro tk t ht htk
  obtain ⟨h0, h1⟩ := h t ht
  show (if tk t < (el ar c L d t).1 then (el ar c L d t).2 (tk t) * (g t * E) else 0) = (if tk t < (cl ar c L K d t).1 then (cl ar c L K d t).2 (tk t) * (g t * ce ar c t (L - 1 - d)) else 0) * E
  by_cases k : ce ar c t (L - 1 - d) = 0
  · rw [h0 k, if_neg (Nat.not_lt_zero _), k, Nat.mul_zero, Nat.mul_zero]
    split <;> rw [Nat.zero_mul]
  · obtain ⟨h2, h3⟩ := h1 (by omega) (tk t) htk
    by_cases k2 : tk t < (el ar c L d t).1
    · rw [if_pos k2, if_pos (h2.mp k2), h3 k2]
      rw [Nat.mul_assoc, Nat.mul_assoc, ← Nat.mul_assoc (ce ar c t (L - 1 - d)), Nat.mul_comm (ce ar c t (L - 1 - d)) (g t)]
    · rw [if_neg k2, if_neg (fun k3 => k2 (h2.mpr k3)), Nat.zero_mul]
theorem elc_all {ar : Nat → Nat → Int} {c L K : Nat} (hK : 0 < K ∧ K ≤ 20) (d : Nat) : d < L → ∀ s, s < cn ar c → elc ar c L K d s := by
  induction d with
  | zero =>
    intro hdL s hs
    refine ⟨fun h => ?_, fun h r hr => ?_⟩
    · rw [el, if_neg (by rw [Nat.sub_zero] at h; omega)]
    · rw [Nat.sub_zero] at h ⊢
      rw [el, if_pos h, cl]
      exact ⟨Iff.rfl, fun _ => (Nat.one_mul _).symm⟩
  | succ d ih =>
    intro hdL s hs
    have ih2 := ih (by omega)
    refine ⟨fun h => ?_, fun h r hr => ?_⟩
    · rw [el_s1]
      unfold eln
      rw [h]
      have e : ¬ 0 < lnn (cn ar c) (fun t => (el ar c L d t).1) (fun t => (el ar c L d t).2) (fun t => cg ar c s t * 0) 20 := by
        rw [lnn_iff]
        intro k
        refine k.2 0 (Nat.le_refl _) ?_
        unfold pk
        refine mx_zero (fun t _ => ?_)
        unfold hd
        split <;> simp
      omega
    · have hl := elc_hd (E := ce ar c s (L - 1 - (d + 1))) (g := cg ar c s) ih2
      have h1 := lke_lnn h hl hK.2 hr
      have h2 := lke_pk h hl hr
      rw [el_s1, cl_s1]
      unfold eln
      refine ⟨h1, fun _ => ?_⟩
      rw [el_s2, cl_s2]
      unfold epk cpk
      rw [h2]
theorem ref_pk {ar : Nat → Nat → Int} {c L K d s r : Nat} (hK : 0 < K ∧ K ≤ 20) (hdL : d + 1 < L) (hs : 0 < ce ar c s (L - 1 - (d + 1))) (hr : r < K) : (epk ar c L d s r).1 = (cpk ar c L K d s r).1 ∧ etk ar c L d s r = ctk ar c L K d s r := by
  have hl := elc_hd (E := ce ar c s (L - 1 - (d + 1))) (g := cg ar c s) (elc_all (ar := ar) (c := c) (L := L) (K := K) hK d (by omega))
  unfold epk cpk etk ctk
  rw [lke_pk hs hl hr]
  exact ⟨rfl, lke_tkn hs hl r (by omega)⟩
theorem ref_fpk {ar : Nat → Nat → Int} {c L K r : Nat} (hK : 0 < K ∧ K ≤ 20) (hL : 0 < L) (hr : r < K) : bpk ar c L r = fpk ar c L K r ∧ btk ar c L r = ftk ar c L K r := by
  have hl := elc_hd (E := 1) (g := cb ar c) (elc_all (ar := ar) (c := c) (L := L) (K := K) hK (L - 1) (show L - 1 < L by omega))
  have e0 : L - 1 - (L - 1) = 0 := by omega
  have e1 : (fun t => cb ar c t * 1) = cb ar c := by funext t; rw [Nat.mul_one]
  rw [e0, e1] at hl
  unfold bpk fpk btk ftk
  rw [lke_pk (by decide) hl hr, Nat.mul_one]
  exact ⟨rfl, lke_tkn (by decide) hl r (by omega)⟩
/-- where the class's links lead -/
def lnk (p : Nat × Nat) : Nat := p.1 * 20 + p.2
theorem btr_K {ar : Nat → Nat → Int} {c P k : Nat} (i : Nat) : (btr ar c P k i).2 ≤ k := by
  induction i with
  | zero => exact tkn_le _ _
  | succ i ih => exact Nat.le_trans (tkn_le _ _) ih
theorem el_ce {ar : Nat → Nat → Int} {c L K d s : Nat} (hK : 0 < K ∧ K ≤ 20) (hdL : d < L) (hs : s < cn ar c) (h : (el ar c L d s).1 ≠ 0) : 0 < ce ar c s (L - 1 - d) := by
  have h1 := (elc_all hK d hdL s hs).1
  rcases Nat.eq_zero_or_pos (ce ar c s (L - 1 - d)) with e | e
  · exact absurd (h1 e) h
  · exact e
theorem btr_c0 {ar : Nat → Nat → Int} {c P k K : Nat} (hK : k < K ∧ K ≤ 20) (hP : 0 < P) : btr ar c P k 0 = ((fpk ar c P K k).1, ftk ar c P K k (fpk ar c P K k).1) := by
  obtain ⟨h1, h2⟩ := ref_fpk (ar := ar) (c := c) (r := k) (show 0 < K ∧ K ≤ 20 by omega) hP hK.1
  show ((bpk ar c P k).1, btk ar c P k (bpk ar c P k).1) = _
  rw [h1, h2]
theorem btr_cs {ar : Nat → Nat → Int} {c P k K i : Nat} (hK : k < K ∧ K ≤ 20) (hi : i + 1 < P) (h : (bpk ar c P k).2 ≠ 0) : btr ar c P k (i + 1) = ((cpk ar c P K (P - 2 - i) (btr ar c P k i).1 (btr ar c P k i).2).1, ctk ar c P K (P - 2 - i) (btr ar c P k i).1 (btr ar c P k i).2 (cpk ar c P K (P - 2 - i) (btr ar c P k i).1 (btr ar c P k i).2).1) ∧ (btr ar c P k i).2 < (cl ar c P K (P - 1 - i) (btr ar c P k i).1).1 := by
  obtain ⟨g1, g2⟩ := btr_ok (ar := ar) (c := c) (P := P) (k := k) (by omega) h i (by omega)
  have g3 := el_ce (K := K) (show 0 < K ∧ K ≤ 20 by omega) (show P - 1 - i < P by omega) g1 (by omega)
  have g4 := btr_K (ar := ar) (c := c) (P := P) (k := k) i
  obtain ⟨h1, h2⟩ := ref_pk (ar := ar) (c := c) (L := P) (s := (btr ar c P k i).1) (d := P - 2 - i) (r := (btr ar c P k i).2) (show 0 < K ∧ K ≤ 20 by omega) (by omega) (by rw [show P - 2 - i + 1 = P - 1 - i by omega]; exact g3) (by omega)
  refine ⟨?_, (((elc_all (show 0 < K ∧ K ≤ 20 by omega) (P - 1 - i) (by omega) _ g1).2 g3 _ (by omega)).1).mp g2⟩
  show ((epk ar c P (P - 2 - i) (btr ar c P k i).1 (btr ar c P k i).2).1, etk ar c P (P - 2 - i) (btr ar c P k i).1 (btr ar c P k i).2 (epk ar c P (P - 2 - i) (btr ar c P k i).1 (btr ar c P k i).2).1) = _
  rw [h1, h2]
