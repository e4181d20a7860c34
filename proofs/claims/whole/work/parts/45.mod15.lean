/-! the reference: tellApart -/
def tiw (ar : Nat → Nat → Int) (a b : Nat) (st : Nat → Nat) (K : Nat) (wd : Nat → List Nat) (fs ss : Nat → Nat) (q n x : Nat) : Prop := wd 0 = [] ∧ (∀ i, i < q → alw K (wd i) ∧ ¬ tell ar a b st (wd i) ∧ (wd i).length ≤ i) ∧ (∀ i j, i < j → j < q → wcd (wd i) < wcd (wd j)) ∧ (∀ i, 0 < i → i < q → fs i < i ∧ ss i < K ∧ wd i = ss i :: wd (fs i) ∧ (fs i < n ∨ (fs i = n ∧ ss i < x))) ∧ ∀ i y, i < q → y < K → (i < n ∨ (i = n ∧ y < x)) → seen ar a b st wd q (y :: wd i)
theorem tiw_ahead {ar : Nat → Nat → Int} {a b K q n x : Nat} {st : Nat → Nat} {wd : Nat → List Nat} {fs ss : Nat → Nat} (h : tiw ar a b st K wd fs ss q n x) (hK : K ≤ 6) (hn : n < q) : ∀ j, j < q → wcd (wd j) < wcd (x :: wd n) := by
  obtain ⟨h0, h1, h2, h3, h4⟩ := h
  intro j hj
  show wcd (wd j) < 7 * wcd (wd n) + (x + 1)
  rcases Nat.eq_zero_or_pos j with e | e
  · rw [e, h0]
    show 0 < _
    omega
  · obtain ⟨g1, g2, g3, g4⟩ := h3 j e hj
    rw [g3]
    show 7 * wcd (wd (fs j)) + (ss j + 1) < 7 * wcd (wd n) + (x + 1)
    rcases g4 with g4 | ⟨g4, g5⟩
    · have := h2 (fs j) n g4 hn
      omega
    · rw [g4]
      omega
theorem tiw_dep {ar : Nat → Nat → Int} {a b K q n x : Nat} {st : Nat → Nat} {wd : Nat → List Nat} {fs ss : Nat → Nat} (h : tiw ar a b st K wd fs ss q n x) (hK : K ≤ 6) (hn : n < q) (ht : ¬ tell ar a b st (x :: wd n)) (hd : ∀ f : Nat → Int, (∀ j, j < q → dot f (wvec ar a b st (wd j)) = 0) → dot f (wvec ar a b st (x :: wd n)) = 0) : tiw ar a b st K wd fs ss q n (x + 1) := by
  have ha := tiw_ahead h hK hn
  obtain ⟨h0, h1, h2, h3, h4⟩ := h
  refine ⟨h0, h1, h2, fun i hi hq => ?_, fun i y hi hy hxy => ?_⟩
  · obtain ⟨g1, g2, g3, g4⟩ := h3 i hi hq
    exact ⟨g1, g2, g3, by omega⟩
  · by_cases e : i = n ∧ y = x
    · rw [e.1, e.2]
      exact ⟨ht, Or.inr (fun f hf => hd f (fun j hj => hf j hj (ha j hj)))⟩
    · exact h4 i y hi hy (by omega)
theorem seen_more {ar : Nat → Nat → Int} {a b q : Nat} {st : Nat → Nat} {wd : Nat → List Nat} {z z0 : List Nat} (h : seen ar a b st wd q z) : seen ar a b st (va_up wd q z0) (q + 1) z := by
  obtain ⟨h1, h2⟩ := h
  refine ⟨h1, ?_⟩
  rcases h2 with ⟨j, hj, hj2⟩ | h2
  · exact Or.inl ⟨j, by omega, by rw [va_up_ne _ _ (by omega)]; exact hj2⟩
  · refine Or.inr (fun f hf => h2 f (fun j hj hlt => ?_))
    have := hf j (by omega)
    rw [va_up_ne _ _ (by omega)] at this
    exact this hlt
theorem tiw_new {ar : Nat → Nat → Int} {a b K q n x : Nat} {st : Nat → Nat} {wd : Nat → List Nat} {fs ss : Nat → Nat} (h : tiw ar a b st K wd fs ss q n x) (hK : K ≤ 6) (hn : n < q) (hx : x < K) (ht : ¬ tell ar a b st (x :: wd n)) : tiw ar a b st K (va_up wd q (x :: wd n)) (va_up fs q n) (va_up ss q x) (q + 1) n (x + 1) := by
  have ha := tiw_ahead h hK hn
  obtain ⟨h0, h1, h2, h3, h4⟩ := h
  refine ⟨by rw [va_up_ne _ _ (by omega)]; exact h0, fun i hi => ?_, fun i j hij hj => ?_, fun i hi hq => ?_, fun i y hi hy hxy => ?_⟩
  · by_cases e : i = q
    · rw [e, va_up_self]
      obtain ⟨g1, g2, g3⟩ := h1 n hn
      exact ⟨⟨hx, g1⟩, ht, by rw [List.length_cons]; omega⟩
    · rw [va_up_ne _ _ e]
      exact h1 i (by omega)
  · rw [va_up_ne _ _ (by omega)]
    by_cases e : j = q
    · rw [e, va_up_self]
      exact ha i (by omega)
    · rw [va_up_ne _ _ e]
      exact h2 i j hij (by omega)
  · by_cases e : i = q
    · rw [e, va_up_self, va_up_self, va_up_self, va_up_ne _ _ (by omega)]
      exact ⟨hn, hx, rfl, by omega⟩
    · obtain ⟨g1, g2, g3, g4⟩ := h3 i hi (by omega)
      rw [va_up_ne _ _ e, va_up_ne _ _ e, va_up_ne _ _ e, va_up_ne _ _ (by omega)]
      exact ⟨g1, g2, g3, by omega⟩
  · have hin : i < q := by omega
    rw [va_up_ne _ _ (by omega)]
    by_cases e : i = n ∧ y = x
    · rw [e.1, e.2]
      exact ⟨ht, Or.inl ⟨q, by omega, va_up_self _ _ _⟩⟩
    · exact seen_more (h4 i y hin hy (by omega))
theorem tiw_row {ar : Nat → Nat → Int} {a b K q n : Nat} {st : Nat → Nat} {wd : Nat → List Nat} {fs ss : Nat → Nat} (h : tiw ar a b st K wd fs ss q n K) : tiw ar a b st K wd fs ss q (n + 1) 0 := by
  obtain ⟨h0, h1, h2, h3, h4⟩ := h
  refine ⟨h0, h1, h2, fun i hi hq => ?_, fun i y hi hy hxy => h4 i y hi hy (by omega)⟩
  obtain ⟨g1, g2, g3, g4⟩ := h3 i hi hq
  exact ⟨g1, g2, g3, by omega⟩
theorem tiw_min {ar : Nat → Nat → Int} {a b K q n x : Nat} {st : Nat → Nat} {wd : Nat → List Nat} {fs ss : Nat → Nat} (h : tiw ar a b st K wd fs ss q n x) (hK : K ≤ 6) (hn : n < q) (hx : x < K) : ∀ z, alw K z → wcd z < wcd (x :: wd n) → ¬ tell ar a b st z := by
  obtain ⟨h0, h1, h2, h3, h4⟩ := h
  intro z hz hlt
  refine none_below (K := K) (q := q) (T := wcd (x :: wd n)) (by omega) h0 (fun i hi => (h1 i hi).2.1) (fun i hi => (h1 i hi).1) (fun i y hi hy hc => h4 i y hi hy ?_) (wcd z) z hz rfl hlt
  have hc : 7 * wcd (wd i) + (y + 1) < 7 * wcd (wd n) + (x + 1) := hc
  rcases Nat.lt_or_ge n i with g | g
  · have := h2 n i g hi
    omega
  · by_cases e : i = n
    · right
      rw [e] at hc
      exact ⟨e, by omega⟩
    · left
      omega
theorem tiw_end {ar : Nat → Nat → Int} {a b K q : Nat} {st : Nat → Nat} {wd : Nat → List Nat} {fs ss : Nat → Nat} (h : tiw ar a b st K wd fs ss q q 0) (hq : 0 < q) : ∀ z, alw K z → ¬ tell ar a b st z := by
  obtain ⟨h0, h1, h2, h3, h4⟩ := h
  intro z hz
  exact none_below (K := K) (q := q) (T := wcd z + 1) hq h0 (fun i hi => (h1 i hi).2.1) (fun i hi => (h1 i hi).1) (fun i y hi hy hc => h4 i y hi hy (Or.inl hi)) (wcd z) z hz rfl (by omega)
theorem fre_cg {ar : Nat → Nat → Int} {bz : Nat → Int} {wv wv' : Nat → Nat → Nat} {fr : Nat → Nat → Int} {ow : Nat → Nat} {q : Nat} (h : fre ar bz wv fr ow q) (he : ∀ i, i < q → wv' i = wv i) : fre ar bz wv' fr ow q := by
  obtain ⟨h1, h2, h3, h4⟩ := h
  refine ⟨h1, h2, h3, fun i hi => ?_⟩
  obtain ⟨N, b, g1, g2, g3⟩ := h4 i hi
  exact ⟨N, b, g1, g2, fun k hk => by show N * ((wv' i k : Nat) : Int) = _; rw [he i hi]; exact g3 k hk⟩
theorem fre_mv {ar ar' : Nat → Nat → Int} {bz bz' : Nat → Int} {wv : Nat → Nat → Nat} {fr : Nat → Nat → Int} {ow : Nat → Nat} {q : Nat} (h : fre ar bz wv fr ow q) (ha : ar' 20 = ar 20) (hb : ∀ o, 21732 ≤ o → bz' o = bz o) : fre ar' bz' wv fr ow q := by
  obtain ⟨h1, h2, h3, h4⟩ := h
  exact ⟨fun f hf => by rw [ha]; exact h1 f hf, fun f k hf hk => by rw [hb _ (by omega)]; exact h2 f k hf hk, h3, h4⟩
/-- the word that tellApart has found stands in its rows -/
def fnd (ar : Nat → Nat → Int) (a b : Nat) (st : Nat → Nat) (K : Nat) (ar1 : Nat → Nat → Int) (r : Nat) (z : List Nat) : Prop := ∃ (wd : Nat → List Nat) (fs ss : Nat → Nat), wd 0 = [] ∧ wd r = z ∧ 0 < r ∧ r ≤ 16 ∧ (∀ i, 0 < i → i ≤ r → fs i < i ∧ ss i < K ∧ wd i = ss i :: wd (fs i) ∧ ar1 21 i = (fs i : Nat) ∧ ar1 22 i = (ss i : Nat)) ∧ alw K z ∧ tell ar a b st z ∧ (∀ z', alw K z' → wcd z' < wcd z → ¬ tell ar a b st z') ∧ z.length + 1 ≤ cn ar a + cn ar b
theorem v_99 : 1000 * 1000000 ^ 16 ≤ 10 ^ 100 := by decide +kernel
theorem v_98 : 1000 * 1000000 ^ 16 ≤ 10 ^ 102 := by decide +kernel
theorem v_97 : 1000 * 1000000 ^ 17 ≤ 16 * (10 ^ 102 * 1000000) := by decide +kernel
theorem C8_tellApart {G : ze_G} {l : Launch} {w0 w : ze_W} {m C P F : Nat} {ar : Nat → Nat → Int} {bz : Nat → Int} (hM : mst G w0 w m C P F ar bz) {a b : Nat} {st : Nat → Nat} (hca : a < 6) (hcb : b < 6) (ha : mch ar a) (hb : mch ar b) (sa : snd ar a) (sb : snd ar b) (hw0 : ∀ k, k < 16 → bz (21156 + 2 * (0 * 16 + k)) = (st k : Nat)) (hs1 : sm 8 st ≤ 1000) (hs0 : 0 < sm 8 st) (hs2 : sm 8 (fun k => st (8 + k)) = sm 8 st) (hsz : ∀ k, k < 16 → vz ar a b k → st k = 0) : ze_C G l 7 0 0 M8_tellApart [.ref m, ze_i (a : Nat), ze_i (b : Nat)] w (ze_qi (fun r w' => ∃ ar' bz', mst G w0 w' m C P F ar' bz' ∧ (∀ o, o < 21156 → o ≠ 24 → o ≠ 26 → o ≠ 28 → o ≠ 30 → o ≠ 32 → o ≠ 34 → bz' o = bz o) ∧ (∀ k, k ≠ 20 → k ≠ 21 → k ≠ 22 → ar' k = ar k) ∧ ((r = -1 ∧ ∀ z, alw (ck ar a) z → ¬ tell ar a b st z) ∨ ∃ (q : Nat) (z : List Nat), r = (q : Nat) ∧ fnd ar a b st (ck ar a) ar' q z))) := by
  obtain ⟨ena, na1, na8⟩ := mch_n ha
  obtain ⟨enb, nb1, nb8⟩ := mch_n hb
  obtain ⟨eka, ka1, ka6⟩ := mch_k ha
  obtain ⟨K, hKd⟩ : ∃ K, K = ck ar a := ⟨_, rfl⟩
  rw [← hKd] at eka ka1 ka6
  have hwl : ∀ (z : List Nat) (L : Nat), alw K z → z.length ≤ L → ∀ k, k < 16 → wvec ar a b st z k ≤ 1000 * 1000000 ^ L := fun z L hz hl k hk => wvec_le ha hb sa sb ka6 hs1 (by omega) hz hl k hk
  refine ze_enter (by decide +kernel) rfl ?_
  generalize hQ : (ze_Q G (ze_qi (fun r w' => ∃ ar' bz', mst G w0 w' m C P F ar' bz' ∧ (∀ o, o < 21156 → o ≠ 24 → o ≠ 26 → o ≠ 28 → o ≠ 30 → o ≠ 32 → o ≠ 34 → bz' o = bz o) ∧ (∀ k, k ≠ 20 → k ≠ 21 → k ≠ 22 → ar' k = ar k) ∧ ((r = -1 ∧ ∀ z, alw (ck ar a) z → ¬ tell ar a b st z) ∨ ∃ (q : Nat) (z : List Nat), r = (q : Nat) ∧ fnd ar a b st (ck ar a) ar' q z))) 0 0) = Z
  rw [← hKd] at hQ
  have outer : ∀ (d n : Nat) (q : Nat) (wd : Nat → List Nat) (fs ss : Nat → Nat) (fr : Nat → Nat → Int) (ow : Nat → Nat) (ar1 : Nat → Nat → Int) (bz1 : Nat → Int) (w1 : ze_W), n + d = 16 → n ≤ q → mst G w0 w1 m C P F ar1 bz1 → 1 ≤ q → q ≤ 16 → (∀ o, o < 21156 → o ≠ 24 → o ≠ 26 → o ≠ 28 → o ≠ 30 → o ≠ 32 → o ≠ 34 → bz1 o = bz o) → (∀ k, k ≠ 20 → k ≠ 21 → k ≠ 22 → ar1 k = ar k) → (∀ i k, i < q → k < 16 → bz1 (21156 + 2 * (i * 16 + k)) = (wvec ar a b st (wd i) k : Nat)) → fre ar1 bz1 (fun i => wvec ar a b st (wd i)) fr ow q → (∀ i, 0 < i → i < q → ar1 21 i = (fs i : Nat) ∧ ar1 22 i = (ss i : Nat)) → tiw ar a b st K wd fs ss q n 0 → ze_V G l (ze_rm 7 0 0) M8_tellApart Z 18 [(0, .ref m), (1, ze_i ((a : Nat))), (2, ze_i ((b : Nat))), (3, ze_i ((q : Nat))), (4, ze_i ((n : Nat)))] [] w1 0 0 := by
    intro d
    induction d with
    | zero =>
      intro n q wd fs ss fr ow ar1 bz1 w1 hnd hnq hM1 hq1 hq16 hf hk hrows hfre hlnk htiw
      have hqn : n = q := by omega
      rw [hqn] at htiw
      refine ze_iload dX8_tellApart_18 rfl ?_
      refine ze_iload_n dX8_tellApart_20 rfl ?_
      refine ze_icmp_ge 99 dX8_tellApart_21 (by decide) (by omega) (by omega) (fun q1 => ?_) (fun q1 => ?_)
      · refine ze_iconst dX8_tellApart_99 ?_
        rw [← hQ]
        exact ze_ireturn rfl dX8_tellApart_100 ⟨_, rfl, ar1, bz1, hM1, hf, hk, Or.inl ⟨rfl, tiw_end htiw (by omega)⟩⟩ rfl rfl
      · omega
    | succ d ih =>
      intro n q wd fs ss fr ow ar1 bz1 w1 hnd hnq hM1 hq1 hq16 hf hk hrows hfre hlnk htiw
      have inner : ∀ (e x : Nat) (q : Nat) (wd : Nat → List Nat) (fs ss : Nat → Nat) (fr : Nat → Nat → Int) (ow : Nat → Nat) (ar1 : Nat → Nat → Int) (bz1 : Nat → Int) (w1 : ze_W), x + e = K → n < q → mst G w0 w1 m C P F ar1 bz1 → 1 ≤ q → q ≤ 16 → (∀ o, o < 21156 → o ≠ 24 → o ≠ 26 → o ≠ 28 → o ≠ 30 → o ≠ 32 → o ≠ 34 → bz1 o = bz o) → (∀ k, k ≠ 20 → k ≠ 21 → k ≠ 22 → ar1 k = ar k) → (∀ i k, i < q → k < 16 → bz1 (21156 + 2 * (i * 16 + k)) = (wvec ar a b st (wd i) k : Nat)) → fre ar1 bz1 (fun i => wvec ar a b st (wd i)) fr ow q → (∀ i, 0 < i → i < q → ar1 21 i = (fs i : Nat) ∧ ar1 22 i = (ss i : Nat)) → tiw ar a b st K wd fs ss q n x → ze_V G l (ze_rm 7 0 0) M8_tellApart Z 27 [(0, .ref m), (1, ze_i ((a : Nat))), (2, ze_i ((b : Nat))), (3, ze_i ((q : Nat))), (4, ze_i ((n : Nat))), (5, ze_i ((x : Nat)))] [] w1 0 0 := by
        intro e
        induction e with
        | zero =>
          intro x q wd fs ss fr ow ar1 bz1 w1 hxe hnq hM1 hq1 hq16 hf hk hrows hfre hlnk htiw
          have hxK : x = K := by omega
          rw [hxK] at htiw
          refine ze_iload dX8_tellApart_27 rfl ?_
          refine ze_aload_n dX8_tellApart_29 rfl ?_
          refine ze_getf dX8_tellApart_30 fl_X8_13 (ms_o hM1) rfl ?_
          refine ze_iload_n dX8_tellApart_33 rfl ?_
          refine ze_iald (j := a) dX8_tellApart_34 (show w1.2 (m + 2) = some (ze_ia G 6 (ar1 2)) from ms_i hM1 2 (by decide)) (by omega) (by omega) (by omega) ?_
          rw [show ar1 2 a = (K : Nat) by rw [hk 2 (by decide) (by decide) (by decide)]; exact eka]
          refine ze_icmp_ge 93 dX8_tellApart_35 (by decide) (by omega) (by omega) (fun q1 => ?_) (fun q1 => ?_)
          · refine ze_iinc (b := ((n + 1 : Nat))) (lv' := [(0, .ref m), (1, ze_i ((a : Nat))), (2, ze_i ((b : Nat))), (3, ze_i ((q : Nat))), (4, ze_i (((n + 1 : Nat)))), (5, ze_i ((x : Nat)))]) dX8_tellApart_93 rfl rfl (by omega) rfl ?_
            refine ze_goto 18 dX8_tellApart_96 (by decide) ?_
            refine ze_lv (lv' := [(0, .ref m), (1, ze_i ((a : Nat))), (2, ze_i ((b : Nat))), (3, ze_i ((q : Nat))), (4, ze_i (((n + 1 : Nat))))]) [0, 1, 2, 3, 4] rfl ?_
            exact ih (n + 1) q wd fs ss fr ow ar1 bz1 w1 (by omega) (by omega) hM1 hq1 hq16 hf hk hrows hfre hlnk (tiw_row htiw)
          · omega
        | succ e ihx =>
          intro x q wd fs ss fr ow ar1 bz1 w1 hxe hnq hM1 hq1 hq16 hf hk hrows hfre hlnk htiw
          have hxK : x < K := by omega
          have hkl : q + 1 ≤ cn ar a + cn ar b := kept_lt (X := fun i k => (wvec ar a b st (wd i) k : Nat)) ⟨na1, na8⟩ ⟨nb1, nb8⟩ hfre.2.2.1 hfre.2.2.2 (fun i k hi hk2 hv => by show ((wvec ar a b st (wd i) k : Nat) : Int) = 0; rw [wvec_z na8 hsz (wd i) k hk2 hv]; rfl) (fun i hi => Classical.byContradiction (htiw.2.1 i hi).2.1)
          obtain ⟨gn1, gn2, gn3⟩ := htiw.2.1 n hnq
          have hz1 : alw K (x :: wd n) := ⟨hxK, gn1⟩
          have hzl : (x :: wd n).length ≤ q := by rw [List.length_cons]; omega
          have ha1 : mch ar1 a := by
            have e1 : ∀ k, k ≤ 6 → ar1 k = ar k := fun k hk2 => hk k (by omega) (by omega) (by omega)
            unfold mch
            rw [e1 1 (by decide), e1 2 (by decide), e1 3 (by decide), e1 4 (by decide), e1 5 (by decide), e1 6 (by decide)]
            exact ha
          have hb1 : mch ar1 b := by
            have e1 : ∀ k, k ≤ 6 → ar1 k = ar k := fun k hk2 => hk k (by omega) (by omega) (by omega)
            unfold mch
            rw [e1 1 (by decide), e1 2 (by decide), e1 3 (by decide), e1 4 (by decide), e1 5 (by decide), e1 6 (by decide)]
            exact hb
          have ejst : ∀ v k, jst ar1 a b x v k = jst ar a b x v k := by
            intro v k
            have e1 : ∀ k, k ≤ 6 → ar1 k = ar k := fun k hk2 => hk k (by omega) (by omega) (by omega)
            unfold jst jm cn cw cg
            rw [e1 1 (by decide), e1 5 (by decide), e1 6 (by decide)]
          refine ze_iload dX8_tellApart_27 rfl ?_
          refine ze_aload_n dX8_tellApart_29 rfl ?_
          refine ze_getf dX8_tellApart_30 fl_X8_13 (ms_o hM1) rfl ?_
          refine ze_iload_n dX8_tellApart_33 rfl ?_
          refine ze_iald (j := a) dX8_tellApart_34 (show w1.2 (m + 2) = some (ze_ia G 6 (ar1 2)) from ms_i hM1 2 (by decide)) (by omega) (by omega) (by omega) ?_
          rw [show ar1 2 a = (K : Nat) by rw [hk 2 (by decide) (by decide) (by decide)]; exact eka]
          refine ze_icmp_ge 93 dX8_tellApart_35 (by decide) (by omega) (by omega) (fun q1 => ?_) (fun q1 => ?_)
          · omega
          · refine ze_aload_n dX8_tellApart_38 rfl ?_
            refine ze_iload_n dX8_tellApart_39 rfl ?_
            refine ze_iload_n dX8_tellApart_40 rfl ?_
            refine ze_iload dX8_tellApart_41 rfl ?_
            refine ze_iload dX8_tellApart_43 rfl ?_
            refine ze_iload_n dX8_tellApart_45 rfl ?_
            refine ze_callV (As := [ze_i ((a : Nat)), ze_i ((b : Nat)), ze_i ((n : Nat)), ze_i ((x : Nat)), ze_i ((q : Nat))]) (rest := []) dX8_tellApart_46 (C8_goOn hM1 (a := a) (b := b) (n := n) (x := x) (q := q) (B := 1000 * 1000000 ^ 16) (v := wvec ar a b st (wd n)) hca hcb ha1 hb1 (by omega) (by omega) (by omega) (by omega) (fun k hk2 => hrows n k hnq hk2) (fun k hk2 => hwl (wd n) 16 gn1 (by omega) k hk2) v_98) mo8_goOn ml_X8_212 in_8_goOn se_8_goOn (ms_o hM1) rfl rfl rfl rfl rfl ⟨Nat.le_refl _, Nat.le_refl _⟩ rfl (Nat.le_of_ble_eq_true rfl) ?_
            rintro _ w2 ⟨rfl, bz2, hM2, hv2, hf2⟩
            have hv2 : ∀ k, k < 16 → bz2 (21156 + 2 * (q * 16 + k)) = (wvec ar a b st (x :: wd n) k : Nat) := fun k hk2 => by rw [hv2 k hk2, ejst]; rfl
            have hf3 : (∀ o, o < 21156 → o ≠ 24 → o ≠ 26 → o ≠ 28 → o ≠ 30 → o ≠ 32 → o ≠ 34 → bz2 o = bz o) := fun o g0 g1 g2 g3 g4 g5 g6 => by rw [hf2 o g1 g2 g6 (by omega)]; exact hf o g0 g1 g2 g3 g4 g5 g6
            have hrows2 : ∀ i k, i < q → k < 16 → bz2 (21156 + 2 * (i * 16 + k)) = (wvec ar a b st (wd i) k : Nat) := fun i k hi hk2 => by rw [hf2 _ (by omega) (by omega) (by omega) (by omega)]; exact hrows i k hi hk2
            have hfre2 : fre ar1 bz2 (fun i => wvec ar a b st (wd i)) fr ow q := fre_mv hfre rfl (fun o ho => hf2 o (by omega) (by omega) (by omega) (by omega))
            change ze_V G l (ze_rm 7 0 0) M8_tellApart _ 49 [(0, .ref m), (1, ze_i ((a : Nat))), (2, ze_i ((b : Nat))), (3, ze_i ((q : Nat))), (4, ze_i ((n : Nat))), (5, ze_i ((x : Nat)))] [] w2 0 0
            refine ze_aload_n dX8_tellApart_49 rfl ?_
            refine ze_getf dX8_tellApart_50 fl_X8_74 (ms_o hM2) rfl ?_
            refine ze_iload_n dX8_tellApart_53 rfl ?_
            refine ze_iload dX8_tellApart_54 rfl ?_
            refine ze_iastW (j := q) (f' := va_up (ar1 21) q (((n : Nat) : Int))) dX8_tellApart_56 (show w2.2 (m + 21) = some (ze_ia G 18 (ar1 21)) from ms_i hM2 21 (by decide)) (by omega) (by omega) (by omega) rfl (fun w2 z2 c2 o2 => ?_)
            have hM2 := ms_wi hM2 21 (by decide) z2 c2 o2
            refine ze_aload_n dX8_tellApart_57 rfl ?_
            refine ze_getf dX8_tellApart_58 fl_X8_77 (ms_o hM2) rfl ?_
            refine ze_iload_n dX8_tellApart_61 rfl ?_
            refine ze_iload dX8_tellApart_62 rfl ?_
            have e22 : (va_up ar1 21 (va_up (ar1 21) q (((n : Nat) : Int)))) 22 = ar1 22 := va_up_ne _ _ (by decide)
            refine ze_iastW (j := q) (f' := va_up ((va_up ar1 21 (va_up (ar1 21) q (((n : Nat) : Int)))) 22) q (((x : Nat) : Int))) dX8_tellApart_64 (show w2.2 (m + 22) = some (ze_ia G 18 ((va_up ar1 21 (va_up (ar1 21) q (((n : Nat) : Int)))) 22)) from ms_i hM2 22 (by decide)) (by omega) (by omega) (by omega) rfl (fun w3 z3 c3 o3 => ?_)
            have hM3 := ms_wi hM2 22 (by decide) z3 c3 o3
            have f21 : ∀ i, i < q → (va_up (va_up ar1 21 (va_up (ar1 21) q (((n : Nat) : Int)))) 22 (va_up ((va_up ar1 21 (va_up (ar1 21) q (((n : Nat) : Int)))) 22) q (((x : Nat) : Int)))) 21 i = ar1 21 i := fun i hi => by rw [va_up_ne _ _ (by decide), va_up_self, va_up_ne _ _ (by omega)]
            have f22 : ∀ i, i < q → (va_up (va_up ar1 21 (va_up (ar1 21) q (((n : Nat) : Int)))) 22 (va_up ((va_up ar1 21 (va_up (ar1 21) q (((n : Nat) : Int)))) 22) q (((x : Nat) : Int)))) 22 i = ar1 22 i := fun i hi => by rw [va_up_self, va_up_ne _ _ (by omega), e22]
            have g21 : (va_up (va_up ar1 21 (va_up (ar1 21) q (((n : Nat) : Int)))) 22 (va_up ((va_up ar1 21 (va_up (ar1 21) q (((n : Nat) : Int)))) 22) q (((x : Nat) : Int)))) 21 q = (n : Nat) := by rw [va_up_ne _ _ (by decide), va_up_self, va_up_self]
            have g22 : (va_up (va_up ar1 21 (va_up (ar1 21) q (((n : Nat) : Int)))) 22 (va_up ((va_up ar1 21 (va_up (ar1 21) q (((n : Nat) : Int)))) 22) q (((x : Nat) : Int)))) 22 q = (x : Nat) := by rw [va_up_self, va_up_self]
            have hk2 : (∀ k, k ≠ 20 → k ≠ 21 → k ≠ 22 → (va_up (va_up ar1 21 (va_up (ar1 21) q (((n : Nat) : Int)))) 22 (va_up ((va_up ar1 21 (va_up (ar1 21) q (((n : Nat) : Int)))) 22) q (((x : Nat) : Int)))) k = ar k) := fun k k1 k2 k3 => by rw [va_up_ne _ _ k3, va_up_ne _ _ k2]; exact hk k k1 k2 k3
            have f20 : (va_up (va_up ar1 21 (va_up (ar1 21) q (((n : Nat) : Int)))) 22 (va_up ((va_up ar1 21 (va_up (ar1 21) q (((n : Nat) : Int)))) 22) q (((x : Nat) : Int)))) 20 = ar1 20 := by rw [va_up_ne _ _ (by decide), va_up_ne _ _ (by decide)]
            generalize hA2 : (va_up (va_up ar1 21 (va_up (ar1 21) q (((n : Nat) : Int)))) 22 (va_up ((va_up ar1 21 (va_up (ar1 21) q (((n : Nat) : Int)))) 22) q (((x : Nat) : Int)))) = ar2 at *
            refine ze_aload_n dX8_tellApart_65 rfl ?_
            refine ze_iload_n dX8_tellApart_66 rfl ?_
            refine ze_callV (As := [ze_i ((q : Nat))]) (rest := []) dX8_tellApart_67 (C8_isAlike hM3 (n := q) (B := 1000 * 1000000 ^ 17) (v := wvec ar a b st (x :: wd n)) (by omega) hv2 (fun k hk3 => hwl _ 17 hz1 (by omega) k hk3) v_97) mo8_isAlike ml_X8_216 in_8_isAlike se_8_isAlike (ms_o hM3) rfl rfl rfl rfl rfl ⟨Nat.le_refl _, Nat.le_refl _⟩ rfl (Nat.le_of_ble_eq_true rfl) ?_
            rintro _ w3 ⟨rs, rfl, bz3, hM3, htf, hf4⟩
            have hps := phi_sum (v := wvec ar a b st (x :: wd n))
            have hf5 : (∀ o, o < 21156 → o ≠ 24 → o ≠ 26 → o ≠ 28 → o ≠ 30 → o ≠ 32 → o ≠ 34 → bz3 o = bz o) := fun o g0 g1 g2 g3 g4 g5 g6 => by rw [hf4 o g1 g3 g4]; exact hf3 o g0 g1 g2 g3 g4 g5 g6
            change ze_V G l (ze_rm 7 0 0) M8_tellApart _ 70 [(0, .ref m), (1, ze_i ((a : Nat))), (2, ze_i ((b : Nat))), (3, ze_i ((q : Nat))), (4, ze_i ((n : Nat))), (5, ze_i ((x : Nat)))] [ze_i (rs)] w3 0 0
            refine ze_if_ne 75 dX8_tellApart_70 (by decide) (tf_rng htf) (fun q4 => ?_) (fun q4 => ?_)
            · refine ze_aload_n dX8_tellApart_75 rfl ?_
              refine ze_iload_n dX8_tellApart_76 rfl ?_
              refine ze_iload_n dX8_tellApart_77 rfl ?_
              have hnt : ¬ tell ar a b st (x :: wd n) := by
                intro h0
                apply h0
                rw [hps]
                have := tf_n htf q4
                omega
              have ewd : ∀ i, i < q → (fun i => wvec ar a b st ((va_up wd q (x :: wd n)) i)) i = (fun i => wvec ar a b st (wd i)) i := fun i hi => by
                show wvec ar a b st ((va_up wd q (x :: wd n)) i) = wvec ar a b st (wd i)
                rw [va_up_ne _ _ (by omega)]
              have hrows3 : ∀ i k, i ≤ q → k < 16 → bz3 (21156 + 2 * (i * 16 + k)) = (wvec ar a b st ((va_up wd q (x :: wd n)) i) k : Nat) := by
                intro i k hi hk3
                rw [hf4 _ (by omega) (by omega) (by omega)]
                by_cases e : i = q
                · rw [e, va_up_self]; exact hv2 k hk3
                · rw [va_up_ne _ _ e]; exact hrows2 i k (by omega) hk3
              have hfre3 : fre ar2 bz3 (fun i => wvec ar a b st ((va_up wd q (x :: wd n)) i)) fr ow q := fre_cg (fre_mv hfre2 f20 (fun o ho => hf4 o (by omega) (by omega) (by omega))) ewd
              refine ze_callV (As := [ze_i ((q : Nat)), ze_i ((q : Nat))]) (rest := []) dX8_tellApart_78 (C8_isFree hM3 (q := q) (V := 1000 * 1000000 ^ 16) (wv := fun i => wvec ar a b st ((va_up wd q (x :: wd n)) i)) hq16 hrows3 (by decide) v_99 (fun i k hi hk3 => by
                show wvec ar a b st ((va_up wd q (x :: wd n)) i) k ≤ _
                by_cases e : i = q
                · rw [e, va_up_self]; exact hwl _ 16 hz1 (by omega) k hk3
                · rw [va_up_ne _ _ e]; obtain ⟨k1, k2, k3⟩ := htiw.2.1 i (by omega); exact hwl _ 16 k1 (by omega) k hk3) hfre3) mo8_isFree ml_X8_209 in_8_isFree se_8_isFree (ms_o hM3) rfl rfl rfl rfl rfl ⟨Nat.le_refl _, Nat.le_refl _⟩ rfl (Nat.le_of_ble_eq_true rfl) ?_
              rintro _ w4 ⟨rf, rfl, ar4, bz4, fr4, ow4, hM4, hf6, hk4, hres⟩
              have hrr : -2147483648 ≤ rf ∧ rf < 2147483648 := by rcases hres with ⟨h, -⟩ | ⟨h, -⟩ <;> omega
              have hf7 : (∀ o, o < 21156 → o ≠ 24 → o ≠ 26 → o ≠ 28 → o ≠ 30 → o ≠ 32 → o ≠ 34 → bz4 o = bz o) := fun o g0 g1 g2 g3 g4 g5 g6 => by rw [hf6 o (by omega) g1 g2 g3 g4 g5]; exact hf5 o g0 g1 g2 g3 g4 g5 g6
              have hk5 : (∀ k, k ≠ 20 → k ≠ 21 → k ≠ 22 → ar4 k = ar k) := fun k k1 k2 k3 => by rw [hk4 k k1]; exact hk2 k k1 k2 k3
              have hrows4 : ∀ i k, i ≤ q → k < 16 → bz4 (21156 + 2 * (i * 16 + k)) = (wvec ar a b st ((va_up wd q (x :: wd n)) i) k : Nat) := fun i k hi hk3 => by rw [hf6 _ (by omega) (by omega) (by omega) (by omega) (by omega) (by omega)]; exact hrows3 i k hi hk3
              change ze_V G l (ze_rm 7 0 0) M8_tellApart _ 81 [(0, .ref m), (1, ze_i ((a : Nat))), (2, ze_i ((b : Nat))), (3, ze_i ((q : Nat))), (4, ze_i ((n : Nat))), (5, ze_i ((x : Nat)))] [ze_i (rf)] w4 0 0
              refine ze_if_eq 87 dX8_tellApart_81 (by decide) hrr (fun q5 => ?_) (fun q5 => ?_)
              · rcases hres with ⟨-, hdep, hfre4⟩ | ⟨h, -⟩
                case inr => omega
                refine ze_iinc (b := ((x + 1 : Nat))) (lv' := [(0, .ref m), (1, ze_i ((a : Nat))), (2, ze_i ((b : Nat))), (3, ze_i ((q : Nat))), (4, ze_i ((n : Nat))), (5, ze_i (((x + 1 : Nat))))]) dX8_tellApart_87 rfl rfl (by omega) rfl ?_
                refine ze_goto 27 dX8_tellApart_90 (by decide) ?_
                refine ihx (x + 1) q wd fs ss fr4 ow4 ar4 bz4 w4 (by omega) hnq hM4 hq1 hq16 hf7 hk5 (fun i k hi hk3 => ?_) (fre_cg hfre4 (fun i hi => (ewd i hi).symm)) (fun i hi hiq => ?_) (tiw_dep htiw ka6 hnq hnt (fun f hkill => ?_))
                · have := hrows4 i k (by omega) hk3
                  rw [va_up_ne _ _ (by omega)] at this
                  exact this
                · rw [hk4 21 (by decide), hk4 22 (by decide), f21 i hiq, f22 i hiq]
                  exact hlnk i hi hiq
                · have h1 := hdep f (fun i hi => by
                    show dot f (wvec ar a b st ((va_up wd q (x :: wd n)) i)) = 0
                    rw [va_up_ne _ _ (by omega)]
                    exact hkill i hi)
                  have h1 : dot f (wvec ar a b st ((va_up wd q (x :: wd n)) q)) = 0 := h1
                  rw [va_up_self] at h1
                  exact h1
              · rcases hres with ⟨h, -⟩ | ⟨-, hq15, hfre4⟩
                case inl => omega
                refine ze_iinc (b := ((q + 1 : Nat))) (lv' := [(0, .ref m), (1, ze_i ((a : Nat))), (2, ze_i ((b : Nat))), (3, ze_i (((q + 1 : Nat)))), (4, ze_i ((n : Nat))), (5, ze_i ((x : Nat)))]) dX8_tellApart_84 rfl rfl (by omega) rfl ?_
                refine ze_iinc (b := ((x + 1 : Nat))) (lv' := [(0, .ref m), (1, ze_i ((a : Nat))), (2, ze_i ((b : Nat))), (3, ze_i (((q + 1 : Nat)))), (4, ze_i ((n : Nat))), (5, ze_i (((x + 1 : Nat))))]) dX8_tellApart_87 rfl rfl (by omega) rfl ?_
                refine ze_goto 27 dX8_tellApart_90 (by decide) ?_
                refine ihx (x + 1) (q + 1) (va_up wd q (x :: wd n)) (va_up fs q n) (va_up ss q x) fr4 ow4 ar4 bz4 w4 (by omega) (by omega) hM4 (by omega) (by omega) hf7 hk5 (fun i k hi hk3 => hrows4 i k (by omega) hk3) hfre4 (fun i hi hiq => ?_) (tiw_new htiw ka6 hnq hxK hnt)
                rw [hk4 21 (by decide), hk4 22 (by decide)]
                by_cases e : i = q
                · rw [e, va_up_self, va_up_self]
                  exact ⟨g21, g22⟩
                · rw [va_up_ne _ _ e, va_up_ne _ _ e, f21 i (by omega), f22 i (by omega)]
                  exact hlnk i hi (by omega)
            · refine ze_iload_n dX8_tellApart_73 rfl ?_
              have htl : tell ar a b st (x :: wd n) := by
                intro h0
                rw [hps] at h0
                exact tf_z htf q4 (by omega)
              rw [← hQ]
              refine ze_ireturn rfl dX8_tellApart_74 ⟨_, rfl, ar2, bz3, hM3, hf5, hk2, Or.inr ⟨q, x :: wd n, rfl, va_up wd q (x :: wd n), va_up fs q n, va_up ss q x, ?_, ?_, by omega, hq16, fun i hi hiq => ?_, hz1, htl, tiw_min htiw ka6 hnq hxK, by omega⟩⟩ rfl rfl
              · rw [va_up_ne _ _ (by omega)]; exact htiw.1
              · rw [va_up_self]
              · by_cases e : i = q
                · rw [e, va_up_self, va_up_self, va_up_self, va_up_ne _ _ (by omega)]
                  exact ⟨hnq, hxK, rfl, g21, g22⟩
                · obtain ⟨k1, k2, k3, -⟩ := htiw.2.2.2.1 i hi (by omega)
                  obtain ⟨l1, l2⟩ := hlnk i hi (by omega)
                  rw [va_up_ne _ _ e, va_up_ne _ _ e, va_up_ne _ _ e, va_up_ne _ _ (by omega), f21 i (by omega), f22 i (by omega)]
                  exact ⟨k1, k2, k3, l1, l2⟩
      refine ze_iload dX8_tellApart_18 rfl ?_
      refine ze_iload_n dX8_tellApart_20 rfl ?_
      refine ze_icmp_ge 99 dX8_tellApart_21 (by decide) (by omega) (by omega) (fun q1 => ?_) (fun q1 => ?_)
      · refine ze_iconst dX8_tellApart_99 ?_
        have hqn : n = q := by omega
        rw [hqn] at htiw
        rw [← hQ]
        exact ze_ireturn rfl dX8_tellApart_100 ⟨_, rfl, ar1, bz1, hM1, hf, hk, Or.inl ⟨rfl, tiw_end htiw (by omega)⟩⟩ rfl rfl
      · refine ze_iconst dX8_tellApart_24 ?_
        refine ze_ti (b := ((0 : Nat) : Nat)) rfl ?_
        refine ze_istore (lv' := [(0, .ref m), (1, ze_i ((a : Nat))), (2, ze_i ((b : Nat))), (3, ze_i ((q : Nat))), (4, ze_i ((n : Nat))), (5, ze_i (((0 : Nat) : Nat)))]) dX8_tellApart_25 rfl rfl ?_
        exact inner K 0 q wd fs ss fr ow ar1 bz1 w1 (by omega) (by omega) hM1 hq1 hq16 hf hk hrows hfre hlnk htiw
  change ze_V G l (ze_rm 7 0 0) M8_tellApart Z 0 [(0, .ref m), (1, ze_i ((a : Nat))), (2, ze_i ((b : Nat)))] [] w 0 0
  refine ze_aload_n dX8_tellApart_0 rfl ?_
  refine ze_iconst dX8_tellApart_1 ?_
  refine ze_ti (b := ((0 : Nat) : Nat)) rfl ?_
  refine ze_iconst dX8_tellApart_2 ?_
  refine ze_ti (b := ((0 : Nat) : Nat)) rfl ?_
  refine ze_callV (As := [ze_i (((0 : Nat) : Nat)), ze_i (((0 : Nat) : Nat))]) (rest := []) dX8_tellApart_3 (C8_isFree hM (q := 0) (V := 1000 * 1000000 ^ 16) (wv := fun i => wvec ar a b st []) (fr := fun _ _ => 0) (ow := fun _ => 0) (by decide) (fun i k hi hk => by rw [show i = 0 by omega]; exact hw0 k hk) (by decide) v_99 (fun i k hi hk => hwl [] 16 True.intro (by decide) k hk) ⟨fun f h => absurd h (Nat.not_lt_zero _), fun f k h => absurd h (Nat.not_lt_zero _), fun f h => absurd h (Nat.not_lt_zero _), fun f h => absurd h (Nat.not_lt_zero _)⟩) mo8_isFree ml_X8_209 in_8_isFree se_8_isFree (ms_o hM) rfl rfl rfl rfl rfl ⟨Nat.le_refl _, Nat.le_refl _⟩ rfl (Nat.le_of_ble_eq_true rfl) ?_
  rintro _ w4 ⟨rf, rfl, ar4, bz4, fr4, ow4, hM4, hf6, hk4, hres⟩
  have hr1 : rf = 1 ∧ fre ar4 bz4 (fun i => wvec ar a b st []) fr4 ow4 (0 + 1) := by
    rcases hres with ⟨h, hdep, -⟩ | ⟨h, -, h2⟩
    · exfalso
      have h1 := hdep (fun k => if k < 8 then 1 else 0) (fun i hi => absurd hi (Nat.not_lt_zero _))
      have h2 : sz 16 (fun k => (if k < 8 then 1 else 0) * ((st k : Nat) : Int)) = (sm 8 st : Nat) := by
        rw [sm_sz]
        have := sz_more (f := fun k => (if k < 8 then 1 else 0) * ((st k : Nat) : Int)) (n := 8) (d := 8) (fun j g1 g2 => by show (if j < 8 then 1 else 0) * ((st j : Nat) : Int) = 0; rw [if_neg (by omega), Int.zero_mul])
        rw [show (16 : Nat) = 8 + 8 from rfl, this]
        exact sz_congr (fun j hj => by rw [if_pos hj, Int.one_mul])
      have h1 : sz 16 (fun k => (if k < 8 then 1 else 0) * ((st k : Nat) : Int)) = 0 := h1
      rw [h2] at h1
      omega
    · exact ⟨h, h2⟩
  obtain ⟨hr1, hfre1⟩ := hr1
  change ze_V G l (ze_rm 7 0 0) M8_tellApart _ 6 [(0, .ref m), (1, ze_i ((a : Nat))), (2, ze_i ((b : Nat)))] [ze_i (rf)] w4 0 0
  refine ze_if_eq 13 dX8_tellApart_6 (by decide) (by omega) (fun q1 => ?_) (fun q1 => ?_)
  · omega
  · refine ze_iconst dX8_tellApart_9 ?_
    refine ze_goto 14 dX8_tellApart_10 (by decide) ?_
    refine ze_ti (b := ((1 : Nat) : Nat)) rfl ?_
    refine ze_istore_n (lv' := [(0, .ref m), (1, ze_i ((a : Nat))), (2, ze_i ((b : Nat))), (3, ze_i (((1 : Nat) : Nat)))]) dX8_tellApart_14 rfl rfl ?_
    refine ze_iconst dX8_tellApart_15 ?_
    refine ze_ti (b := ((0 : Nat) : Nat)) rfl ?_
    refine ze_istore (lv' := [(0, .ref m), (1, ze_i ((a : Nat))), (2, ze_i ((b : Nat))), (3, ze_i (((1 : Nat) : Nat))), (4, ze_i (((0 : Nat) : Nat)))]) dX8_tellApart_16 rfl rfl ?_
    refine outer 16 0 1 (fun _ => []) (fun _ => 0) (fun _ => 0) fr4 ow4 ar4 bz4 w4 (by omega) (by omega) hM4 (by decide) (by decide) (fun o g0 g1 g2 g3 g4 g5 g6 => hf6 o (by omega) g1 g2 g3 g4 g5) (fun k k1 k2 k3 => hk4 k k1) (fun i k hi hk => ?_) hfre1 (fun i hi hiq => by omega) ⟨rfl, fun i hi => ⟨True.intro, fun h => h ?_, Nat.zero_le _⟩, fun i j h1 h2 => by omega, fun i h1 h2 => by omega, fun i y h1 h2 h3 => by omega⟩
    · rw [show i = 0 by omega, hf6 _ (by omega) (by omega) (by omega) (by omega) (by omega) (by omega)]
      exact hw0 k hk
    · rw [phi_sum]
      show ((sm 8 st : Nat) : Int) - ((sm 8 (fun k => st (8 + k)) : Nat) : Int) = 0
      omega
