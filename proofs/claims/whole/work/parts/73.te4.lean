/-! Teller: the search by one prime -/
def tm_sd (S : tm_S) (x : Nat) (v : Nat → Int) : Int := sz S.1 (fun s => v s * S.2.1 s x)
theorem tm_ph_c {S : tm_S} {T : Int} {x : Nat} {u : List Nat} (hT : ∀ s, s < S.1 → sz S.1 (S.2.2.1 s) = T) : tm_ph S (x :: u) = T * tm_sd S x (tm_dv S u) := by
  show tm_dz S.1 tm_one (tm_stp S x (tm_dv S u)) = _
  rw [tm_dz_stp]
  unfold tm_dz tm_sd
  rw [← sz_mul]
  refine sz_congr (fun s hs => ?_)
  have e : tm_plb S x tm_one s = S.2.1 s x * T := by
    rw [← hT s hs, ← sz_mul]
    exact sz_congr (fun t _ => Int.one_mul _)
  rw [e]
  ac_rfl
theorem tm_ph_d {p T : Int} {S : tm_S} {x : Nat} {u : List Nat} (hpp : tm_prm p) (hT : ∀ s, s < S.1 → sz S.1 (S.2.2.1 s) = T) (hpT : ¬ p ∣ T) : p ∣ tm_ph S (x :: u) ↔ p ∣ tm_sd S x (tm_dv S u) := by
  rw [tm_ph_c hT]
  exact ⟨fun h => (hpp.2 _ _ h).resolve_left hpT, fun h => Int.dvd_trans h (Int.dvd_mul_left _ _)⟩
/-- the words kept are in order; those behind which was looked at are seen -/
def srch (p : Int) (S : tm_S) (K : Nat) (wd : Nat → List Nat) (q k x : Nat) : Prop := 0 < q ∧ wd 0 = [] ∧ (∀ i j, i < j → j < q → wcd (wd i) < wcd (wd j)) ∧ (∀ i, 0 < i → i < q → ∃ a y, a < q ∧ y < K ∧ wd i = y :: wd a ∧ (a < k ∨ (a = k ∧ y < x))) ∧ ∀ i y, i < q → y < K → (i < k ∨ (i = k ∧ y < x)) → tm_seen p S wd q (y :: wd i)
theorem sr_lt {p : Int} {S : tm_S} {K q k x : Nat} {wd : Nat → List Nat} (hK : K ≤ 6) (h : srch p S K wd q k x) (hk : k < q) (i : Nat) (hi : i < q) : wcd (wd i) < wcd (x :: wd k) := by
  obtain ⟨h1, h2, h3, h4, h5⟩ := h
  show _ < 7 * wcd (wd k) + (x + 1)
  by_cases e : i = 0
  · rw [e, h2]; show 0 < _; omega
  · obtain ⟨a, y, ha, hy, hw, ho⟩ := h4 i (by omega) hi
    rw [hw]
    show 7 * wcd (wd a) + (y + 1) < _
    rcases ho with ho | ⟨rfl, ho⟩
    · have := h3 a k ho hk
      omega
    · omega
theorem sr_keep {p : Int} {S : tm_S} {K q k x : Nat} {wd : Nat → List Nat} (hK : K ≤ 6) (h : srch p S K wd q k x) (hk : k < q) (hx : x < K) (hz : p ∣ tm_ph S (x :: wd k)) : srch p S K (va_up wd q (x :: wd k)) (q + 1) k (x + 1) := by
  have hlt := sr_lt hK h hk
  obtain ⟨h1, h2, h3, h4, h5⟩ := h
  refine ⟨by omega, by rw [va_up_ne _ _ (by omega)]; exact h2, fun i j hij hj => ?_, fun i hi0 hi => ?_, fun i y hi hy ho => ?_⟩
  · by_cases e : j = q
    · rw [e, va_up_self, va_up_ne _ _ (by omega)]; exact hlt i (by omega)
    · rw [va_up_ne _ _ e, va_up_ne _ _ (by omega)]; exact h3 i j hij (by omega)
  · by_cases e : i = q
    · exact ⟨k, x, by omega, hx, by rw [e, va_up_self, va_up_ne _ _ (by omega)], Or.inr ⟨rfl, by omega⟩⟩
    · obtain ⟨a, y, ha, hy, hw, ho⟩ := h4 i hi0 (by omega)
      refine ⟨a, y, by omega, hy, ?_, by omega⟩
      rw [va_up_ne _ _ e, va_up_ne _ _ (by omega)]
      exact hw
  · have hiq : i ≠ q := by omega
    rw [va_up_ne _ _ hiq]
    by_cases e : i = k ∧ y = x
    · rw [e.1, e.2]
      exact ⟨hz, Or.inl ⟨q, by omega, va_up_self _ _ _⟩⟩
    · obtain ⟨g1, g2⟩ := h5 i y (by omega) hy (by omega)
      refine ⟨g1, ?_⟩
      rcases g2 with ⟨j, hj, hj2⟩ | g2
      · exact Or.inl ⟨j, by omega, by rw [va_up_ne _ _ (by omega)]; exact hj2⟩
      · right
        intro f hf
        refine g2 f (fun j hj hjl => ?_)
        have := hf j (by omega)
        rw [va_up_ne _ _ (by omega)] at this
        exact this hjl
theorem sr_skip {p : Int} {S : tm_S} {K q k x : Nat} {wd : Nat → List Nat} (hK : K ≤ 6) (h : srch p S K wd q k x) (hk : k < q) (hz : p ∣ tm_ph S (x :: wd k)) (hf : ∀ f, (∀ j, j < q → p ∣ tm_dz S.1 f (tm_dv S (wd j))) → p ∣ tm_dz S.1 f (tm_dv S (x :: wd k))) : srch p S K wd q k (x + 1) := by
  have hlt := sr_lt hK h hk
  obtain ⟨h1, h2, h3, h4, h5⟩ := h
  refine ⟨h1, h2, h3, fun i hi0 hi => ?_, fun i y hi hy ho => ?_⟩
  · obtain ⟨a, y, ha, hy, hw, ho⟩ := h4 i hi0 hi
    exact ⟨a, y, ha, hy, hw, by omega⟩
  · by_cases e : i = k ∧ y = x
    · rw [e.1, e.2]
      exact ⟨hz, Or.inr (fun f hf2 => hf f (fun j hj => hf2 j hj (hlt j hj)))⟩
    · exact h5 i y hi hy (by omega)
theorem sr_next {p : Int} {S : tm_S} {K q k x : Nat} {wd : Nat → List Nat} (h : srch p S K wd q k x) (hx : K ≤ x) : srch p S K wd q (k + 1) 0 := by
  obtain ⟨h1, h2, h3, h4, h5⟩ := h
  refine ⟨h1, h2, h3, fun i hi0 hi => ?_, fun i y hi hy ho => h5 i y hi hy (by omega)⟩
  obtain ⟨a, y, ha, hy, hw, ho⟩ := h4 i hi0 hi
  exact ⟨a, y, ha, hy, hw, by omega⟩
theorem sr_below {p : Int} {S : tm_S} {K q k x : Nat} {wd : Nat → List Nat} (hK : K ≤ 6) (h : srch p S K wd q k x) (hx : x < K) (hk : k < q) (hw : ∀ i, i < q → alw K (wd i) ∧ (wd i).length ≤ i ∧ p ∣ tm_ph S (wd i)) (z : List Nat) (hz : alw K z) (hlt : wcd z < wcd (x :: wd k)) : p ∣ tm_ph S z := by
  obtain ⟨h1, h2, h3, h4, h5⟩ := h
  refine tm_none (T := wcd (x :: wd k)) h1 h2 (fun i hi => (hw i hi).2.2) (fun i hi => (hw i hi).1) (fun i y hi hy hc => h5 i y hi hy ?_) (wcd z) z hz rfl hlt
  have hc : 7 * wcd (wd i) + (y + 1) < 7 * wcd (wd k) + (x + 1) := hc
  by_cases e : i < k
  · exact Or.inl e
  · by_cases e2 : i = k
    · rw [e2] at hc
      exact Or.inr ⟨e2, by omega⟩
    · have := h3 k i (by omega) hi
      omega
theorem sr_all {p : Int} {S : tm_S} {K q k x : Nat} {wd : Nat → List Nat} (h : srch p S K wd q k x) (hk : q ≤ k) (hw : ∀ i, i < q → alw K (wd i) ∧ (wd i).length ≤ i ∧ p ∣ tm_ph S (wd i)) (z : List Nat) (hz : alw K z) : p ∣ tm_ph S z := by
  obtain ⟨h1, h2, h3, h4, h5⟩ := h
  exact tm_none (T := wcd z + 1) h1 h2 (fun i hi => (hw i hi).2.2) (fun i hi => (hw i hi).1) (fun i y hi hy _ => h5 i y hi hy (by omega)) (wcd z) z hz rfl (by omega)
theorem sr_reach {p : Int} {S : tm_S} {K q k x R : Nat} {wd : Nat → List Nat} (hK : K ≤ 6) (h : srch p S K wd q k x) (hk : k < q) (hR : R ≤ (wd k).length) (hw : ∀ i, i < q → alw K (wd i) ∧ (wd i).length ≤ i ∧ p ∣ tm_ph S (wd i)) (z : List Nat) (hz : alw K z) (hlz : z.length ≤ R) : p ∣ tm_ph S z := by
  obtain ⟨h1, h2, h3, h4, h5⟩ := h
  refine tm_none (T := tm_lo (R + 1)) h1 h2 (fun i hi => (hw i hi).2.2) (fun i hi => (hw i hi).1) (fun i y hi hy hc => h5 i y hi hy ?_) (wcd z) z hz rfl (tm_lt_lo hK z _ hz (by omega))
  refine Classical.byContradiction (fun hno => ?_)
  have hlen : (wd k).length ≤ (wd i).length := by
    by_cases e : i = k
    · rw [e]; exact Nat.le_refl _
    · have g1 := h3 k i (by omega) hi
      refine Classical.byContradiction (fun hc2 => ?_)
      have := tm_len_lt hK (hw i hi).1 (show (wd i).length < (wd k).length by omega)
      omega
  have := tm_lo_le (y :: wd i) (R + 1) (show R + 1 ≤ (wd i).length + 1 by omega)
  omega
def rsl (p : Int) (S : tm_S) (K R : Nat) (z0 z' : List Nat) : Prop := (z' = z0 ∧ ∀ z, alw K z → z.length ≤ R → p ∣ tm_ph S z) ∨ ∃ Z, alw K Z ∧ Z ≠ [] ∧ Z.length ≤ R ∧ ¬ p ∣ tm_ph S Z ∧ (∀ z, alw K z → wcd z < wcd Z → p ∣ tm_ph S z) ∧ (((z0 = [] ∨ wcd Z < wcd z0) ∧ z' = Z) ∨ (z0 ≠ [] ∧ ¬ wcd Z < wcd z0 ∧ z' = z0))
theorem C4_searchBy {G : ze_G} {l : Launch} {w0 w : ze_W} {E K q FL R : Nat} {ia la : Nat → Nat → Int} {S : tm_S} {p T : Int} {z0 : List Nat} (hS : tst G w0 w E S.1 K q FL ia la) (hN : 1 ≤ S.1 ∧ S.1 ≤ 16) (hK : 1 ≤ K ∧ K ≤ 6) (hp : 2 ≤ p ∧ p < 2147483648) (hpp : tm_prm p) (htb : tbl S K ia) (hT : ∀ s, s < S.1 → sz S.1 (S.2.2.1 s) = T) (hpT : ¬ p ∣ T) (h0 : p ∣ tm_ph S []) (hR : R ≤ 15) (hz : fdw K FL ia z0) : ze_C G l 3 0 0 M4_searchBy [.ref E, ze_i p, ze_i (R : Nat)] w (ze_qv (fun w' => ∃ ia' la' q' F' z', tst G w0 w' E S.1 K q' F' ia' la' ∧ (∀ j, j = 1 ∨ j = 2 ∨ j = 3 → ia' j = ia j) ∧ fdw K F' ia' z' ∧ rsl p S K R z0 z')) := by
  have hm : ∀ v : Int, 0 ≤ v % p ∧ v % p < p := fun v => ⟨Int.emod_nonneg _ (by omega), Int.emod_lt_of_pos _ (by omega)⟩
  refine ze_enter (by decide +kernel) rfl ?_
  generalize hQ : (ze_Q G (ze_qv (fun w' => ∃ ia' la' q' F' z', tst G w0 w' E S.1 K q' F' ia' la' ∧ (∀ j, j = 1 ∨ j = 2 ∨ j = 3 → ia' j = ia j) ∧ fdw K F' ia' z' ∧ rsl p S K R z0 z')) 0 0) = Z
  have hz2 : ∀ ia1 : Nat → Nat → Int, (∀ j, j ≠ 4 → j ≠ 5 → j ≠ 8 → ia1 j = ia j) → fdw K FL ia1 z0 := fun ia1 h => ⟨hz.1, hz.2.1, hz.2.2.1, fun j hj => by rw [h 11 (by decide) (by decide) (by decide)]; exact hz.2.2.2 j hj⟩
  have outer : ∀ (d k : Nat) (qk : Nat) (wd : Nat → List Nat) (e : Nat → Nat → Int) (pv : Nat → Nat) (ia1 la1 : Nat → Nat → Int) (w1 : ze_W), k + d = 16 → k ≤ qk → tst G w0 w1 E S.1 K qk FL ia1 la1 → kst p S K qk wd e pv ia1 la1 → (∀ j, j ≠ 4 → j ≠ 5 → j ≠ 8 → ia1 j = ia j) → srch p S K wd qk k 0 → ze_V G l (ze_rm 3 0 0) M4_searchBy Z 47 [(0, .ref E), (1, ze_i (p)), (2, ze_i ((R : Nat))), (3, ze_i ((k : Nat)))] [] w1 0 0 := by
    intro d
    induction d with
    | zero =>
      intro k qk wd e pv ia1 la1 w1 hd hkq hS1 hk i1 hs
      have := kst_lt hk hN.1
      omega
    | succ d ih =>
      intro k qk wd e pv ia1 la1 w1 hd hkq hS1 hk i1 hs
      have hq := kst_lt hk hN.1
      have inn : ∀ (g x : Nat) (qk : Nat) (wd : Nat → List Nat) (e : Nat → Nat → Int) (pv : Nat → Nat) (ia1 la1 : Nat → Nat → Int) (w1 : ze_W), x + g = K → k < qk → tst G w0 w1 E S.1 K qk FL ia1 la1 → kst p S K qk wd e pv ia1 la1 → (∀ j, j ≠ 4 → j ≠ 5 → j ≠ 8 → ia1 j = ia j) → srch p S K wd qk k x → (wd k).length < R → ze_V G l (ze_rm 3 0 0) M4_searchBy Z 68 [(0, .ref E), (1, ze_i (p)), (2, ze_i ((R : Nat))), (3, ze_i ((k : Nat))), (4, ze_i ((x : Nat)))] [] w1 0 0 := by
        intro g
        induction g with
        | zero =>
          intro x qk wd e pv ia1 la1 w1 hg hkq hS1 hk i1 hs hlr
          refine ze_iload dX4_searchBy_68 rfl ?_
          refine ze_aload_n dX4_searchBy_70 rfl ?_
          refine ze_getf dX4_searchBy_71 fl_X4_15 (tt_o hS1) rfl ?_
          refine ze_icmp_ge 117 dX4_searchBy_74 (by decide) (by omega) (by omega) (fun q1 => ?_) (fun q1 => ?_)
          · refine ze_iinc (b := ((k + 1 : Nat))) (lv' := [(0, .ref E), (1, ze_i (p)), (2, ze_i ((R : Nat))), (3, ze_i (((k + 1 : Nat)))), (4, ze_i ((x : Nat)))]) dX4_searchBy_117 rfl rfl (by omega) rfl ?_
            refine ze_goto 47 dX4_searchBy_120 (by decide) ?_
            refine ze_lv (lv' := [(0, .ref E), (1, ze_i (p)), (2, ze_i ((R : Nat))), (3, ze_i (((k + 1 : Nat))))]) [0, 1, 2, 3] rfl ?_
            exact ih (k + 1) qk wd e pv ia1 la1 w1 (by omega) (by omega) hS1 hk i1 (sr_next hs (by omega))
          · omega
        | succ g ihg =>
          intro x qk wd e pv ia1 la1 w1 hg hkq hS1 hk i1 hs hlr
          have hq := kst_lt hk hN.1
          have hxK : x < K := by omega
          obtain ⟨k1, k2, k3⟩ := hk.2.1 k hkq
          obtain ⟨m1, m2, m3⟩ := hk.1 k hkq
          have e2 : ∀ s, s < S.1 → ia1 2 (s * 6 + x) = S.2.1 s x ∧ 0 ≤ S.2.1 s x ∧ S.2.1 s x ≤ 1000 := fun s hs => by
            rw [i1 2 (by decide) (by decide) (by decide)]
            exact htb.2.1 s x hs hxK
          have e1 : ∀ s t, s < S.1 → t < S.1 → ia1 1 (s * 16 + t) = S.2.2.1 s t ∧ 0 ≤ S.2.2.1 s t ∧ S.2.2.1 s t ≤ 1000 := fun s t hs ht => by
            rw [i1 1 (by decide) (by decide) (by decide)]
            exact htb.1 s t hs ht
          have hsd : p ∣ sz S.1 (fun s => tm_dv S (wd k) s % p * S.2.1 s x) - tm_sd S x (tm_dv S (wd k)) := tm_sz_c (fun s _ => by
            rw [← Int.sub_mul]
            exact Int.dvd_trans (tm_dm _ _) (Int.dvd_mul_right _ _))
          refine ze_iload dX4_searchBy_68 rfl ?_
          refine ze_aload_n dX4_searchBy_70 rfl ?_
          refine ze_getf dX4_searchBy_71 fl_X4_15 (tt_o hS1) rfl ?_
          refine ze_icmp_ge 117 dX4_searchBy_74 (by decide) (by omega) (by omega) (fun q1 => ?_) (fun q1 => ?_)
          · omega
          · refine ze_aload_n dX4_searchBy_77 rfl ?_
            refine ze_iload_n dX4_searchBy_78 rfl ?_
            refine ze_iload dX4_searchBy_79 rfl ?_
            refine ze_iload_n dX4_searchBy_81 rfl ?_
            refine ze_callV (As := [ze_i ((k : Nat)), ze_i ((x : Nat)), ze_i (p)]) (rest := []) dX4_searchBy_82 (C4_showSign (k := k) (x := x) (D := fun s => tm_dv S (wd k) s % p) (h := fun s => S.2.1 s x) hS1 hN.2 (by omega) (by omega) hp (fun s hs => ⟨(hk.2.2.1 k s hkq hs).1, hm _⟩) e2) mo4_showSign ml_X4_108 in_4_showSign se_4_showSign (tt_o hS1) rfl rfl rfl rfl rfl ⟨Nat.le_refl _, Nat.le_refl _⟩ rfl (Nat.le_of_ble_eq_true rfl) ?_
            rintro _ w2 ⟨r, rfl, hr, la2, hS2, s1, s2⟩
            change ze_V G l (ze_rm 3 0 0) M4_searchBy _ 85 [(0, .ref E), (1, ze_i (p)), (2, ze_i ((R : Nat))), (3, ze_i ((k : Nat))), (4, ze_i ((x : Nat)))] [ze_l (r)] w2 0 0
            have hrr : 0 ≤ r ∧ r < p := by rw [hr]; exact hm _
            have hkl : kst p S K qk wd e pv ia1 la2 := ⟨hk.1, hk.2.1, fun i t hi ht => by rw [s1 6 (by decide), s1 7 (by decide)]; exact hk.2.2.1 i t hi ht, hk.2.2.2⟩
            refine ze_lconst (z := 0) dX4_searchBy_85 (by decide) ?_
            refine ze_lc_eq 98 dX4_searchBy_86 dX4_searchBy_87 (by decide) (by omega) (by omega) (fun q2 => ?_) (fun q2 => ?_)
            · refine ze_aload_n dX4_searchBy_98 rfl ?_
              refine ze_iload_n dX4_searchBy_99 rfl ?_
              have hyes : p ∣ tm_ph S (x :: wd k) := (tm_ph_d hpp hT hpT).mpr ((tm_iff hsd).mp (Int.dvd_of_emod_eq_zero (by omega)))
              refine ze_callV (As := [ze_i (p)]) (rest := []) dX4_searchBy_100 (C4_goOn (sh := fun s => (tm_dv S (wd k) s % p * S.2.1 s x) % p) (g := S.2.2.1) hS2 hN.2 hp (fun s hs => ⟨s2 s hs, hm _⟩) e1) mo4_goOn ml_X4_115 in_4_goOn se_4_goOn (tt_o hS2) rfl rfl rfl rfl rfl ⟨Nat.le_refl _, Nat.le_refl _⟩ rfl (Nat.le_of_ble_eq_true rfl) ?_
              rintro _ w3 ⟨rfl, la3, hS3, t1, t2⟩
              change ze_V G l (ze_rm 3 0 0) M4_searchBy _ 103 [(0, .ref E), (1, ze_i (p)), (2, ze_i ((R : Nat))), (3, ze_i ((k : Nat))), (4, ze_i ((x : Nat)))] [] w3 0 0
              have hkl3 : kst p S K qk wd e pv ia1 la3 := ⟨hk.1, hk.2.1, fun i t hi ht => by rw [t1 6 (by decide), t1 7 (by decide)]; exact hkl.2.2.1 i t hi ht, hk.2.2.2⟩
              have hgr : ∀ t, t < S.1 → la3 10 t = tm_dv S (x :: wd k) t % p := fun t ht => by
                rw [t2 t ht]
                refine tm_md (tm_sz_c (fun s _ => ?_))
                show p ∣ (tm_dv S (wd k) s % p * S.2.1 s x) % p * S.2.2.1 s t - tm_dv S (wd k) s * (S.2.1 s x * S.2.2.1 s t)
                rw [← Int.mul_assoc, ← Int.sub_mul]
                refine Int.dvd_trans ?_ (Int.dvd_mul_right _ _)
                have h5 : p ∣ tm_dv S (wd k) s % p * S.2.1 s x - tm_dv S (wd k) s * S.2.1 s x := by
                  rw [← Int.sub_mul]
                  exact Int.dvd_trans (tm_dm _ _) (Int.dvd_mul_right _ _)
                have h6 := Int.dvd_add (tm_dm (tm_dv S (wd k) s % p * S.2.1 s x) p) h5
                rw [show (tm_dv S (wd k) s % p * S.2.1 s x) % p - tm_dv S (wd k) s % p * S.2.1 s x + (tm_dv S (wd k) s % p * S.2.1 s x - tm_dv S (wd k) s * S.2.1 s x) = (tm_dv S (wd k) s % p * S.2.1 s x) % p - tm_dv S (wd k) s * S.2.1 s x by omega] at h6
                exact h6
              refine ze_aload_n dX4_searchBy_103 rfl ?_
              refine ze_iload_n dX4_searchBy_104 rfl ?_
              refine ze_iload dX4_searchBy_105 rfl ?_
              refine ze_iload_n dX4_searchBy_107 rfl ?_
              refine ze_callV (As := [ze_i ((k : Nat)), ze_i ((x : Nat)), ze_i (p)]) (rest := []) dX4_searchBy_108 (C4_keepGrown (pr := k) (x := x) (z := x :: wd k) hS3 hN hp hpp hkl3 hkq hxK rfl hyes hgr) mo4_keepGrown ml_X4_104 in_4_keepGrown se_4_keepGrown (tt_o hS3) rfl rfl rfl rfl rfl ⟨Nat.le_refl _, Nat.le_refl _⟩ rfl (Nat.le_of_ble_eq_true rfl) ?_
              rintro _ w4 ⟨rfl, ia4, la4, q4, wd4, e4, pv4, hS4, hk4, u1, u2⟩
              change ze_V G l (ze_rm 3 0 0) M4_searchBy _ 111 [(0, .ref E), (1, ze_i (p)), (2, ze_i ((R : Nat))), (3, ze_i ((k : Nat))), (4, ze_i ((x : Nat)))] [] w4 0 0
              have i4 : ∀ j, j ≠ 4 → j ≠ 5 → j ≠ 8 → ia4 j = ia j := fun j g1 g2 g3 => (u1 j g1 g2 g3).trans (i1 j g1 g2 g3)
              refine ze_iinc (b := ((x + 1 : Nat))) (lv' := [(0, .ref E), (1, ze_i (p)), (2, ze_i ((R : Nat))), (3, ze_i ((k : Nat))), (4, ze_i (((x + 1 : Nat))))]) dX4_searchBy_111 rfl rfl (by omega) rfl ?_
              refine ze_goto 68 dX4_searchBy_114 (by decide) ?_
              rcases u2 with ⟨rfl, rfl, u3⟩ | ⟨rfl, rfl⟩
              · exact ihg (x + 1) _ _ e4 pv4 ia4 la4 w4 (by omega) hkq hS4 hk4 i4 (sr_skip hK.2 hs hkq hyes u3) hlr
              · exact ihg (x + 1) _ _ e4 pv4 ia4 la4 w4 (by omega) (by omega) hS4 hk4 i4 (sr_keep hK.2 hs hkq hxK hyes) (by rw [va_up_ne _ _ (by omega)]; exact hlr)
            · refine ze_aload_n dX4_searchBy_90 rfl ?_
              refine ze_iload_n dX4_searchBy_91 rfl ?_
              refine ze_iload dX4_searchBy_92 rfl ?_
              have hno : ¬ p ∣ tm_ph S (x :: wd k) := fun h => by
                have h3 := (tm_iff hsd).mpr ((tm_ph_d hpp hT hpT).mp h)
                have h4 := Int.emod_eq_zero_of_dvd h3
                omega
              refine ze_callV (As := [ze_i ((k : Nat)), ze_i ((x : Nat))]) (rest := []) dX4_searchBy_94 (C4_offerFound (pr := k) (x := x) (u := wd k) (z := z0) hS2 hK.2 (by omega) hxK m1 k1 (by omega) k2 (hz2 ia1 i1)) mo4_offerFound ml_X4_112 in_4_offerFound se_4_offerFound (tt_o hS2) rfl rfl rfl rfl rfl ⟨Nat.le_refl _, Nat.le_refl _⟩ rfl (Nat.le_of_ble_eq_true rfl) ?_
              rintro _ w3 ⟨rfl, ia3, F3, z3, hS3, t1, t2, t3⟩
              change ze_V G l (ze_rm 3 0 0) M4_searchBy _ 97 [(0, .ref E), (1, ze_i (p)), (2, ze_i ((R : Nat))), (3, ze_i ((k : Nat))), (4, ze_i ((x : Nat)))] [] w3 0 0
              rw [← hQ]
              exact ze_return rfl dX4_searchBy_97 ⟨rfl, ia3, la2, qk, F3, z3, hS3, fun j hj => by rw [t1 j (by omega)]; exact i1 j (by omega) (by omega) (by omega), t2, Or.inr ⟨x :: wd k, ⟨hxK, m1⟩, List.cons_ne_nil _ _, show (wd k).length + 1 ≤ R by omega, hno, sr_below hK.2 hs hxK hkq hk.1, t3⟩⟩ rfl rfl
      refine ze_iload_n dX4_searchBy_47 rfl ?_
      refine ze_aload_n dX4_searchBy_48 rfl ?_
      refine ze_getf dX4_searchBy_49 fl_X4_28 (tt_o hS1) rfl ?_
      refine ze_icmp_ge 123 dX4_searchBy_52 (by decide) (by omega) (by omega) (fun q1 => ?_) (fun q1 => ?_)
      · rw [← hQ]
        exact ze_return rfl dX4_searchBy_123 ⟨rfl, ia1, la1, qk, FL, z0, hS1, fun j hj => i1 j (by omega) (by omega) (by omega), hz2 ia1 i1, Or.inl ⟨rfl, fun z hz _ => sr_all hs (by omega) hk.1 z hz⟩⟩ rfl rfl
      · refine ze_aload_n dX4_searchBy_55 rfl ?_
        refine ze_getf dX4_searchBy_56 fl_X4_34 (tt_o hS1) rfl ?_
        refine ze_iload_n dX4_searchBy_59 rfl ?_
        obtain ⟨k1, k2, k3⟩ := hk.2.1 k (by omega)
        obtain ⟨m1, m2, m3⟩ := hk.1 k (by omega)
        refine ze_iald (j := k) dX4_searchBy_60 (show w1.2 (E + 5) = some (ze_ia G 16 (ia1 5)) from tt_i hS1 5 (by decide)) (by omega) (by omega) (by omega) ?_
        rw [k1]
        refine ze_iload_n dX4_searchBy_61 rfl ?_
        refine ze_icmp_ge 123 dX4_searchBy_62 (by decide) (by omega) (by omega) (fun q2 => ?_) (fun q2 => ?_)
        · rw [← hQ]
          exact ze_return rfl dX4_searchBy_123 ⟨rfl, ia1, la1, qk, FL, z0, hS1, fun j hj => i1 j (by omega) (by omega) (by omega), hz2 ia1 i1, Or.inl ⟨rfl, sr_reach hK.2 hs (by omega) (by omega) hk.1⟩⟩ rfl rfl
        · refine ze_iconst dX4_searchBy_65 ?_
          refine ze_ti (b := ((0 : Nat) : Nat)) rfl ?_
          refine ze_istore (lv' := [(0, .ref E), (1, ze_i (p)), (2, ze_i ((R : Nat))), (3, ze_i ((k : Nat))), (4, ze_i (((0 : Nat) : Nat)))]) dX4_searchBy_66 rfl rfl ?_
          exact inn K 0 qk wd e pv ia1 la1 w1 (by omega) (by omega) hS1 hk i1 hs (by omega)
  have fst : ∀ (d s : Nat) (la1 : Nat → Nat → Int) (w1 : ze_W), s + d = S.1 → tst G w0 w1 E S.1 K 0 FL ia la1 → (∀ u, u < s → la1 10 u = S.2.2.2 u % p) → ze_V G l (ze_rm 3 0 0) M4_searchBy Z 7 [(0, .ref E), (1, ze_i (p)), (2, ze_i ((R : Nat))), (3, ze_i ((s : Nat)))] [] w1 0 0 := by
    intro d
    induction d with
    | zero =>
      intro s la1 w1 hd hS1 i1
      refine ze_iload_n dX4_searchBy_7 rfl ?_
      refine ze_aload_n dX4_searchBy_8 rfl ?_
      refine ze_getf dX4_searchBy_9 fl_X4_9 (tt_o hS1) rfl ?_
      refine ze_icmp_ge 38 dX4_searchBy_12 (by decide) (by omega) (by omega) (fun q1 => ?_) (fun q1 => ?_)
      · refine ze_aload_n dX4_searchBy_38 rfl ?_
        refine ze_iconst dX4_searchBy_39 ?_
        refine ze_iconst dX4_searchBy_40 ?_
        refine ze_iload_n dX4_searchBy_41 rfl ?_
        change ze_V G l (ze_rm 3 0 0) M4_searchBy _ 42 [(0, .ref E), (1, ze_i (p)), (2, ze_i ((R : Nat))), (3, ze_i ((s : Nat)))] [ze_i (p), ze_i (((0 : Nat) : Nat)), ze_i (-1), .ref E] w1 0 0
        refine ze_callV (As := [ze_i (-1), ze_i (((0 : Nat) : Nat)), ze_i (p)]) (rest := []) dX4_searchBy_42 (C4_keepGrown0 (x := 0) (z := []) (wd := fun _ => []) (e := fun _ _ => 0) (pv := fun _ => 0) hS1 hN hp hpp ⟨fun i hi => absurd hi (Nat.not_lt_zero _), fun i hi => absurd hi (Nat.not_lt_zero _), fun i t hi => absurd hi (Nat.not_lt_zero _), fun i hi => absurd hi (Nat.not_lt_zero _), fun f hf i hi => absurd hi (Nat.not_lt_zero _)⟩ rfl rfl h0 (fun t ht => i1 t (by omega))) mo4_keepGrown ml_X4_104 in_4_keepGrown se_4_keepGrown (tt_o hS1) rfl rfl rfl rfl rfl ⟨Nat.le_refl _, Nat.le_refl _⟩ rfl (Nat.le_of_ble_eq_true rfl) ?_
        rintro _ w4 ⟨rfl, ia4, la4, q4, wd4, e4, pv4, hS4, hk4, u1, u2⟩
        change ze_V G l (ze_rm 3 0 0) M4_searchBy _ 45 [(0, .ref E), (1, ze_i (p)), (2, ze_i ((R : Nat))), (3, ze_i ((s : Nat)))] [] w4 0 0
        refine ze_iconst dX4_searchBy_45 ?_
        refine ze_ti (b := ((0 : Nat) : Nat)) rfl ?_
        refine ze_istore_n (lv' := [(0, .ref E), (1, ze_i (p)), (2, ze_i ((R : Nat))), (3, ze_i (((0 : Nat) : Nat)))]) dX4_searchBy_46 rfl rfl ?_
        rcases u2 with ⟨rfl, rfl, u3⟩ | ⟨rfl, rfl⟩
        · change ze_V G l (ze_rm 3 0 0) M4_searchBy _ 47 [(0, .ref E), (1, ze_i (p)), (2, ze_i ((R : Nat))), (3, ze_i (((0 : Nat) : Nat)))] [] w4 0 0
          have hall : ∀ z, alw K z → z.length ≤ R → p ∣ tm_ph S z := fun z _ _ => by
            have := u3 (tm_psy S tm_one z) (fun j hj => absurd hj (Nat.not_lt_zero _))
            rw [tm_dz_psy, List.append_nil] at this
            exact this
          refine ze_iload_n dX4_searchBy_47 rfl ?_
          refine ze_aload_n dX4_searchBy_48 rfl ?_
          refine ze_getf dX4_searchBy_49 fl_X4_28 (tt_o hS4) rfl ?_
          refine ze_icmp_ge 123 dX4_searchBy_52 (by decide) (by omega) (by omega) (fun q2 => ?_) (fun q2 => ?_)
          · rw [← hQ]
            exact ze_return rfl dX4_searchBy_123 ⟨rfl, ia4, la4, 0, FL, z0, hS4, fun j hj => u1 j (by omega) (by omega) (by omega), hz2 ia4 u1, Or.inl ⟨rfl, hall⟩⟩ rfl rfl
          · omega
        · refine outer 16 0 _ _ e4 pv4 ia4 la4 w4 (by omega) (by omega) hS4 hk4 u1 ⟨by omega, va_up_self _ _ _, fun i j hij hj => by omega, fun i hi0 hi => by omega, fun i y hi hy ho => by omega⟩
      · omega
    | succ d ih =>
      intro s la1 w1 hd hS1 i1
      obtain ⟨b1, b2⟩ := htb.2.2 s (by omega)
      refine ze_iload_n dX4_searchBy_7 rfl ?_
      refine ze_aload_n dX4_searchBy_8 rfl ?_
      refine ze_getf dX4_searchBy_9 fl_X4_9 (tt_o hS1) rfl ?_
      refine ze_icmp_ge 38 dX4_searchBy_12 (by decide) (by omega) (by omega) (fun q1 => ?_) (fun q1 => ?_)
      · omega
      · refine ze_aload_n dX4_searchBy_15 rfl ?_
        refine ze_getf dX4_searchBy_16 fl_X4_50 (tt_o hS1) rfl ?_
        refine ze_iload_n dX4_searchBy_19 rfl ?_
        refine ze_aload_n dX4_searchBy_20 rfl ?_
        refine ze_getf dX4_searchBy_21 fl_X4_25 (tt_o hS1) rfl ?_
        refine ze_iload_n dX4_searchBy_24 rfl ?_
        refine ze_iald (j := s) dX4_searchBy_25 (show w1.2 (E + 3) = some (ze_ia G 16 (ia 3)) from tt_i hS1 3 (by decide)) (by omega) (by omega) (by omega) ?_
        rw [b1]
        refine ze_i2l dX4_searchBy_26 (by omega) ?_
        refine ze_iload_n dX4_searchBy_27 rfl ?_
        refine ze_callS (As := [ze_l (S.2.2.2 s), ze_i (p)]) (rest := [ze_i ((s : Nat)), .ref (E + 10)]) dX4_searchBy_28 (C4_restOf (v := S.2.2.2 s) (p := p) (by omega) hp) mo4_restOf ml_X4_100 st_4_restOf rfl rfl rfl ⟨Nat.le_refl _, Nat.le_refl _⟩ rfl (Nat.le_of_ble_eq_true rfl) ?_
        rintro _ w' ⟨r2, rfl, rfl, rfl⟩
        change ze_V G l (ze_rm 3 0 0) M4_searchBy _ 31 [(0, .ref E), (1, ze_i (p)), (2, ze_i ((R : Nat))), (3, ze_i ((s : Nat)))] [ze_l ((S.2.2.2 s) % p), ze_i ((s : Nat)), .ref (E + 10)] w' 0 0
        refine ze_lastW (j := s) (f' := va_up (la1 10) s ((S.2.2.2 s) % p)) dX4_searchBy_31 (show w'.2 (E + 10) = some (ze_la G 16 (la1 10)) from tt_l hS1 10 (by decide)) (by omega) (by omega) (by omega) rfl (fun w3 z3 c3 o3 => ?_)
        have hS3 := tt_wl hS1 10 (by decide) z3 c3 o3
        refine ze_iinc (b := ((s + 1 : Nat))) (lv' := [(0, .ref E), (1, ze_i (p)), (2, ze_i ((R : Nat))), (3, ze_i (((s + 1 : Nat))))]) dX4_searchBy_32 rfl rfl (by omega) rfl ?_
        refine ze_goto 7 dX4_searchBy_35 (by decide) ?_
        exact ih (s + 1) _ _ (by omega) hS3 (fun u hu => by
          rw [va_up_self]
          by_cases h : u = s
          · rw [h, va_up_self]
          · rw [va_up_ne _ _ h]; exact i1 u (by omega))
  change ze_V G l (ze_rm 3 0 0) M4_searchBy Z 0 [(0, .ref E), (1, ze_i (p)), (2, ze_i ((R : Nat)))] [] w 0 0
  refine ze_aload_n dX4_searchBy_0 rfl ?_
  refine ze_iconst dX4_searchBy_1 ?_
  skip
  refine ze_putfW (fs' := tfs E S.1 K 0 FL) dX4_searchBy_2 fl_X4_28 (Or.inl rfl) (tt_o hS) rfl rfl (Nat.le_of_ble_eq_true rfl) rfl (fun w1 z1 c1 o1 => ?_)
  have hS1 := tt_wo (N' := S.1) (K' := K) (q' := 0) (F' := FL) hS z1 c1 o1
  refine ze_iconst dX4_searchBy_5 ?_
  refine ze_ti (b := ((0 : Nat) : Nat)) rfl ?_
  refine ze_istore_n (lv' := [(0, .ref E), (1, ze_i (p)), (2, ze_i ((R : Nat))), (3, ze_i (((0 : Nat) : Nat)))]) dX4_searchBy_6 rfl rfl ?_
  exact fst S.1 0 la _ (by omega) hS1 (fun u hu => absurd hu (Nat.not_lt_zero _))
