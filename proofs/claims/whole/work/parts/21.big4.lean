/-! Big: differences, joins -/
theorem C7_takeSizes {G : ze_G} {l : Launch} {w : ze_W} {c Lc : Nat} {fc : Nat → Nat} {nc : Nat} {sc : Int} {a La : Nat} {fa : Nat → Nat} {na : Nat} {sa : Int} {b Lb : Nat} {fb : Nat → Nat} {nb : Nat} {sb : Int} (hc : bg G w c Lc fc nc sc) (ha : bg G w a La fa na sa) (hb : bg G w b Lb fb nb sb) (hca : c ≠ a) (hcb : c ≠ b) (hL : na ≤ Lc) (hn : nb ≤ na) (hle : nv 4294967296 fb nb ≤ nv 4294967296 fa na) : ze_C G l 1 0 0 M7_takeSizes [.ref c, .ref a, .ref b] w (ze_qv (fun w' => ∃ r, bfr w w' c ∧ bg G w' c Lc r na sc ∧ nv 4294967296 r na + nv 4294967296 fb nb = nv 4294967296 fa na)) := by
  have x1 := bg_x hc ha
  have x2 := bg_x ha hc
  have x3 := bg_x hc hb
  have x4 := bg_x hb hc
  have aL := ha.2.2.2.1
  have bL := hb.2.2.2.1
  have cL := hc.2.2.2.1
  have an := ha.2.2.1
  have bn := hb.2.2.1
  refine ze_enter (by decide +kernel) rfl ?_
  generalize hQ : (ze_Q G (ze_qv (fun w' => ∃ r, bfr w w' c ∧ bg G w' c Lc r na sc ∧ nv 4294967296 r na + nv 4294967296 fb nb = nv 4294967296 fa na)) 0 0) = Z
  have loop : ∀ (d k bo : Nat) (r : Nat → Nat) (w1 : ze_W), k + d = na → bo ≤ 1 → bfr w w1 c → bg G w1 c Lc r nc sc → nv 4294967296 r k + nv 4294967296 (bt fb nb) k = nv 4294967296 fa k + bo * 4294967296 ^ k → ze_V G l (ze_rm 1 0 0) M7_takeSizes Z 11 [(0, .ref c), (1, .ref a), (2, .ref b), (3, ze_i ((na : Nat))), (4, ze_l ((bo : Nat))), (6, ze_i ((k : Nat)))] [] w1 0 0 := by
    intro d
    induction d with
    | zero =>
      intro k bo r w1 hk hbo fr hc1 hv
      obtain ⟨ca, cb, cn, -, cf⟩ := id hc1
      have e2 := nv_bt (B := 4294967296) (f := fb) (n := nb) (m := k) (by omega)
      rw [← hQ]
      refine ze_iload dX7_takeSizes_11 rfl ?_
      refine ze_iload_n dX7_takeSizes_13 rfl ?_
      refine ze_icmp_ge 65 dX7_takeSizes_14 (by decide) (by omega) (by omega) (fun q => ?_) (fun q => ?_)
      · refine ze_aload_n dX7_takeSizes_65 rfl ?_
        refine ze_iload_n dX7_takeSizes_66 rfl ?_
        refine ze_putfW (fs' := [.ref (c + 1), ze_i ((na : Nat)), ze_i (sc)]) dX7_takeSizes_67 fl_X7_13 (Or.inl rfl) ca rfl rfl (Nat.le_of_ble_eq_true rfl) rfl (fun w1 z1 c1 o1 => ?_)
        have h1_1 := (o1 (c + 1) (by omega)).trans cb
        refine ze_return rfl dX7_takeSizes_70 ⟨rfl, r, ⟨z1.trans fr.1, fun x p q => (o1 x p).trans (fr.2 x p q)⟩, ⟨c1, h1_1, hL, cL, cf⟩, ?_⟩ rfl rfl
        have hkN : k = na := by omega
        rw [hkN] at hv e2
        have h1 := nv_lt (B := 4294967296) (f := r) (n := na) (fun j _ => cf j)
        rcases Nat.eq_zero_or_pos bo with h0 | h0
        · rw [h0] at hv
          omega
        · have h2 : bo = 1 := by omega
          rw [h2] at hv
          omega
      · omega
    | succ d ih =>
      intro k bo r w1 hk hbo fr hc1 hv
      obtain ⟨ca, cb, cn, -, cf⟩ := id hc1
      have ha1 := bg_fr fr hc ha hca
      have hb1 := bg_fr fr hc hb hcb
      obtain ⟨aa, ab, -, -, af⟩ := id ha1
      obtain ⟨ba, bb, -, -, bf⟩ := id hb1
      have ux := af k
      have uy := bt_lt (n := nb) bf k
      obtain ⟨X, hX⟩ : ∃ X, X = fa k := ⟨_, rfl⟩
      have hX2 : bt fa na k = X := by unfold bt; rw [if_pos (by omega), hX]
      obtain ⟨Y, hY⟩ : ∃ Y, Y = bt fb nb k := ⟨_, rfl⟩
      refine ze_iload dX7_takeSizes_11 rfl ?_
      refine ze_iload_n dX7_takeSizes_13 rfl ?_
      refine ze_icmp_ge 65 dX7_takeSizes_14 (by decide) (by omega) (by omega) (fun q => ?_) (fun q => ?_)
      · omega
      · refine ze_aload_n dX7_takeSizes_17 rfl ?_
        refine ze_iload dX7_takeSizes_18 rfl ?_
        refine ze_callV (As := [ze_i ((k : Nat))]) (rest := []) dX7_takeSizes_20 (C7_at ha1 (k := k) (by omega)) mo7_at ml_X7_50 in_7_at se_7_at aa rfl rfl rfl rfl rfl ⟨Nat.le_refl _, Nat.le_refl _⟩ rfl (Nat.le_of_ble_eq_true rfl) ?_
        rintro _ w' ⟨r', rfl, rfl, rfl⟩
        rw [hX2]
        change ze_V G l (ze_rm 1 0 0) M7_takeSizes _ 23 [(0, .ref c), (1, .ref a), (2, .ref b), (3, ze_i ((na : Nat))), (4, ze_l ((bo : Nat))), (6, ze_i ((k : Nat)))] [ze_l ((X : Nat))] w' 0 0
        refine ze_aload_n dX7_takeSizes_23 rfl ?_
        refine ze_iload dX7_takeSizes_24 rfl ?_
        refine ze_callV (As := [ze_i ((k : Nat))]) (rest := [ze_l ((X : Nat))]) dX7_takeSizes_26 (C7_at hb1 (k := k) (by omega)) mo7_at ml_X7_50 in_7_at se_7_at ba rfl rfl rfl rfl rfl ⟨Nat.le_refl _, Nat.le_refl _⟩ rfl (Nat.le_of_ble_eq_true rfl) ?_
        rintro _ w'' ⟨r', rfl, rfl, rfl⟩
        rw [← hY]
        change ze_V G l (ze_rm 1 0 0) M7_takeSizes _ 29 [(0, .ref c), (1, .ref a), (2, .ref b), (3, ze_i ((na : Nat))), (4, ze_l ((bo : Nat))), (6, ze_i ((k : Nat)))] [ze_l ((Y : Nat)), ze_l ((X : Nat))] w'' 0 0
        refine ze_lsub dX7_takeSizes_29 ?_
        refine ze_lload dX7_takeSizes_30 rfl ?_
        refine ze_lsub dX7_takeSizes_32 ?_
        refine ze_lstore (lv' := [(0, .ref c), (1, .ref a), (2, .ref b), (3, ze_i ((na : Nat))), (4, ze_l ((bo : Nat))), (6, ze_i ((k : Nat))), (7, ze_l ((X : Nat) - (Y : Nat) - (bo : Nat)))]) dX7_takeSizes_33 rfl rfl ?_
        refine ze_aload_n dX7_takeSizes_35 rfl ?_
        refine ze_getf dX7_takeSizes_36 fl_X7_7 ca rfl ?_
        refine ze_iload dX7_takeSizes_39 rfl ?_
        refine ze_lload dX7_takeSizes_41 rfl ?_
        refine ze_l2i dX7_takeSizes_43 ?_
        obtain ⟨v, bo', hv1, hv2, hv3, hv4⟩ : ∃ v bo' : Nat, v < 4294967296 ∧ bo' ≤ 1 ∧ ((X : Nat) : Int) - (Y : Nat) - (bo : Nat) = (v : Nat) - (bo' : Nat) * 4294967296 ∧ (bo' = 1 ↔ ((X : Nat) : Int) - (Y : Nat) - (bo : Nat) < 0) := by
          rcases Nat.lt_or_ge X (Y + bo) with h | h
          · exact ⟨X + 4294967296 - Y - bo, 1, by omega, by omega, by omega, by omega⟩
          · exact ⟨X - Y - bo, 0, by omega, by omega, by omega, by omega⟩
        refine ze_iastM (j := k) (y := ((v : Nat))) (f' := fun j => ((va_up r k v j : Nat) : Int)) dX7_takeSizes_44 cb (by omega) (by omega) (by omega) (ze_mod (by omega)) (ze_vu _ _ _) (fun w1 z1 c1 o1 => ?_)
        have h1_0 := (o1 c (by omega)).trans ca
        have h1_2 := (o1 a (by omega)).trans aa
        have h1_3 := (o1 (a + 1) (by omega)).trans ab
        have h1_4 := (o1 b (by omega)).trans ba
        have h1_5 := (o1 (b + 1) (by omega)).trans bb
        refine ze_lload dX7_takeSizes_45 rfl ?_
        refine ze_lconst (z := 0) dX7_takeSizes_47 (by decide) ?_
        refine ze_lc_ge 56 dX7_takeSizes_48 dX7_takeSizes_49 (by decide) (by omega) (by omega) (fun q2 => ?_) (fun q2 => ?_)
        · refine ze_lconst (z := 0) dX7_takeSizes_56 (by decide) ?_
          refine ze_tl (b := (bo' : Nat)) (by omega) ?_
          refine ze_lstore (lv' := [(0, .ref c), (1, .ref a), (2, .ref b), (3, ze_i ((na : Nat))), (4, ze_l ((bo' : Nat))), (6, ze_i ((k : Nat))), (7, ze_l ((X : Nat) - (Y : Nat) - (bo : Nat)))]) dX7_takeSizes_57 rfl rfl ?_
          refine ze_iinc (b := ((k + 1 : Nat))) (lv' := [(0, .ref c), (1, .ref a), (2, .ref b), (3, ze_i ((na : Nat))), (4, ze_l ((bo' : Nat))), (6, ze_i (((k + 1 : Nat)))), (7, ze_l ((X : Nat) - (Y : Nat) - (bo : Nat)))]) dX7_takeSizes_59 rfl rfl (by omega) rfl ?_
          refine ze_goto 11 dX7_takeSizes_62 (by decide) ?_
          refine ze_lv (lv' := [(0, .ref c), (1, .ref a), (2, .ref b), (3, ze_i ((na : Nat))), (4, ze_l ((bo' : Nat))), (6, ze_i (((k + 1 : Nat))))]) [0, 1, 2, 3, 4, 5] rfl ?_
          refine ih (k + 1) bo' (va_up r k v) _ (by omega) (by omega) ⟨z1.trans fr.1, fun x p q => (o1 x q).trans (fr.2 x p q)⟩ ⟨h1_0, c1, cn, cL, up_lt cf hv1⟩ ?_
          rw [nv_s, nv_s, nv_s, nv_up (Nat.le_refl _), va_up_self, ← hX, ← hY, Nat.pow_succ]
          have hnat : v + Y + bo = X + bo' * 4294967296 := by omega
          generalize 4294967296 ^ k = P at *
          have e3 : (v + Y + bo) * P = (X + bo' * 4294967296) * P := by rw [hnat]
          rw [Nat.add_mul, Nat.add_mul, Nat.add_mul, Nat.mul_assoc, Nat.mul_comm 4294967296 P] at e3
          omega
        · refine ze_lconst (z := 1) dX7_takeSizes_52 (by decide) ?_
          refine ze_goto 57 dX7_takeSizes_53 (by decide) ?_
          refine ze_tl (b := (bo' : Nat)) (by omega) ?_
          refine ze_lstore (lv' := [(0, .ref c), (1, .ref a), (2, .ref b), (3, ze_i ((na : Nat))), (4, ze_l ((bo' : Nat))), (6, ze_i ((k : Nat))), (7, ze_l ((X : Nat) - (Y : Nat) - (bo : Nat)))]) dX7_takeSizes_57 rfl rfl ?_
          refine ze_iinc (b := ((k + 1 : Nat))) (lv' := [(0, .ref c), (1, .ref a), (2, .ref b), (3, ze_i ((na : Nat))), (4, ze_l ((bo' : Nat))), (6, ze_i (((k + 1 : Nat)))), (7, ze_l ((X : Nat) - (Y : Nat) - (bo : Nat)))]) dX7_takeSizes_59 rfl rfl (by omega) rfl ?_
          refine ze_goto 11 dX7_takeSizes_62 (by decide) ?_
          refine ze_lv (lv' := [(0, .ref c), (1, .ref a), (2, .ref b), (3, ze_i ((na : Nat))), (4, ze_l ((bo' : Nat))), (6, ze_i (((k + 1 : Nat))))]) [0, 1, 2, 3, 4, 5] rfl ?_
          refine ih (k + 1) bo' (va_up r k v) _ (by omega) (by omega) ⟨z1.trans fr.1, fun x p q => (o1 x q).trans (fr.2 x p q)⟩ ⟨h1_0, c1, cn, cL, up_lt cf hv1⟩ ?_
          rw [nv_s, nv_s, nv_s, nv_up (Nat.le_refl _), va_up_self, ← hX, ← hY, Nat.pow_succ]
          have hnat : v + Y + bo = X + bo' * 4294967296 := by omega
          generalize 4294967296 ^ k = P at *
          have e3 : (v + Y + bo) * P = (X + bo' * 4294967296) * P := by rw [hnat]
          rw [Nat.add_mul, Nat.add_mul, Nat.add_mul, Nat.mul_assoc, Nat.mul_comm 4294967296 P] at e3
          omega
  obtain ⟨ca, cb, cn, -, cf⟩ := id hc
  obtain ⟨aa, ab, -, -, af⟩ := id ha
  obtain ⟨ba, bb, -, -, bf⟩ := id hb
  change ze_V G l (ze_rm 1 0 0) M7_takeSizes Z 0 [(0, .ref c), (1, .ref a), (2, .ref b)] [] w 0 0
  refine ze_aload_n dX7_takeSizes_0 rfl ?_
  refine ze_getf dX7_takeSizes_1 fl_X7_13 aa rfl ?_
  refine ze_istore_n (lv' := [(0, .ref c), (1, .ref a), (2, .ref b), (3, ze_i ((na : Nat)))]) dX7_takeSizes_4 rfl rfl ?_
  refine ze_lconst (z := 0) dX7_takeSizes_5 (by decide) ?_
  refine ze_tl (b := ((0 : Nat) : Nat)) rfl ?_
  refine ze_lstore (lv' := [(0, .ref c), (1, .ref a), (2, .ref b), (3, ze_i ((na : Nat))), (4, ze_l (((0 : Nat) : Nat)))]) dX7_takeSizes_6 rfl rfl ?_
  refine ze_iconst dX7_takeSizes_8 ?_
  refine ze_ti (b := ((0 : Nat) : Nat)) rfl ?_
  refine ze_istore (lv' := [(0, .ref c), (1, .ref a), (2, .ref b), (3, ze_i ((na : Nat))), (4, ze_l (((0 : Nat) : Nat))), (6, ze_i (((0 : Nat) : Nat)))]) dX7_takeSizes_9 rfl rfl ?_
  exact loop na 0 0 fc w (by omega) (by omega) (bfr.rf _ _) hc rfl
theorem bgz_trim {G : ze_G} {w : ze_W} {c Lc : Nat} {r : Nat → Nat} {n n' : Nat} {s : Int} (hs : s = 1 ∨ s = -1) (hn : n' ≤ n) (hz : bnz r n') (h0 : ∀ j, n' ≤ j → j < n → r j = 0) (hb : bg G w c Lc r n' (if n' = 0 then 0 else s)) : bgz G w c Lc (s * (nv 4294967296 r n : Nat)) := by
  obtain ⟨d, hd⟩ := Nat.exists_eq_add_of_le hn
  have e3 : nv 4294967296 r n = nv 4294967296 r n' := by
    rw [hd]
    exact nv_ext d (fun j h1 h2 => h0 j h1 (by omega))
  refine ⟨r, n', _, hb, hz, ?_, ?_⟩
  · rw [e3]
    split
    · rename_i h
      rw [h]
      show s * ((0 : Nat) : Int) = 0 * _
      simp
    · rfl
  · by_cases h : n' = 0
    · left
      exact ⟨h, by rw [if_pos h]⟩
    · right
      exact ⟨by omega, by rw [if_neg h]; exact hs⟩
theorem C7_join {G : ze_G} {l : Launch} {w : ze_W} {c Lc : Nat} {fc : Nat → Nat} {nc : Nat} {sc : Int} {a La : Nat} {fa : Nat → Nat} {na : Nat} {sa : Int} {b Lb : Nat} {fb : Nat → Nat} {nb : Nat} {sb0 : Int} {sb : Int} (hc : bg G w c Lc fc nc sc) (ha : bg G w a La fa na sa) (hb : bg G w b Lb fb nb sb0) (hca : c ≠ a) (hcb : c ≠ b) (za : bnz fa na) (zb : bnz fb nb) (ga : sgn na sa) (gb : sgn nb sb) (hL : max na nb + 1 ≤ Lc) : ze_C G l 3 0 0 M7_join [.ref c, .ref a, .ref b, ze_i sb] w (ze_qv (fun w' => bfr w w' c ∧ bgz G w' c Lc (sa * (nv 4294967296 fa na : Nat) + sb * (nv 4294967296 fb nb : Nat)))) := by
  have x1 := bg_x hc ha
  have x2 := bg_x ha hc
  have x3 := bg_x hc hb
  have x4 := bg_x hb hc
  have aL := ha.2.2.2.1
  have bL := hb.2.2.2.1
  have cL := hc.2.2.2.1
  have an := ha.2.2.1
  have bn := hb.2.2.1
  have n0a : na = 0 → nv 4294967296 fa na = 0 := fun h => by rw [h]; rfl
  have n0b : nb = 0 → nv 4294967296 fb nb = 0 := fun h => by rw [h]; rfl
  have r1 : -1 ≤ sa ∧ sa ≤ 1 ∧ -1 ≤ sb ∧ sb ≤ 1 := by unfold sgn at ga gb; omega
  obtain ⟨ca, cb, cn, -, cf⟩ := id hc
  obtain ⟨aa, ab, -, -, af⟩ := id ha
  obtain ⟨ba, bb, -, -, bf⟩ := id hb
  refine ze_enter (by decide +kernel) rfl ?_
  generalize hQ : (ze_Q G (ze_qv (fun w' => bfr w w' c ∧ bgz G w' c Lc (sa * (nv 4294967296 fa na : Nat) + sb * (nv 4294967296 fb nb : Nat)))) 0 0) = Z
  have tb : ∀ s4 : Int, sgn nb s4 → sa * (nv 4294967296 fa na : Nat) + sb * (nv 4294967296 fb nb : Nat) = s4 * (nv 4294967296 fb nb : Nat) → ze_V G l (ze_rm 3 0 0) M7_join Z 41 [(0, .ref c), (1, .ref a), (2, .ref b), (3, ze_i (sb)), (4, ze_i (s4))] [.ref b, .ref c] w 0 0 := by
    intro s4 hs4 hval
    rw [← hQ]
    refine ze_callV (As := [.ref b]) (rest := []) dX7_join_41 (C7_copy hc hb hcb (by omega)) mo7_copy ml_X7_54 in_7_copy se_7_copy ca rfl rfl rfl rfl rfl ⟨Nat.le_refl _, Nat.le_refl _⟩ rfl (Nat.le_of_ble_eq_true rfl) ?_
    rintro _ w' ⟨rfl, fr, ga1, gb1, gn1, -, gf1⟩
    change ze_V G l (ze_rm 3 0 0) M7_join _ 44 [(0, .ref c), (1, .ref a), (2, .ref b), (3, ze_i (sb)), (4, ze_i (s4))] [] w' 0 0
    refine ze_aload_n dX7_join_44 rfl ?_
    refine ze_iload dX7_join_45 rfl ?_
    refine ze_putfW (fs' := [.ref (c + 1), ze_i ((nb : Nat)), ze_i (s4)]) dX7_join_47 fl_X7_17 (Or.inl rfl) ga1 rfl rfl (Nat.le_of_ble_eq_true rfl) rfl (fun w1 z1 c1 o1 => ?_)
    have h1_1 := (o1 (c + 1) (by omega)).trans gb1
    refine ze_goto 138 dX7_join_50 (by decide) ?_
    refine ze_return rfl dX7_join_138 ⟨rfl, ⟨z1.trans fr.1, fun x p q => (o1 x p).trans (fr.2 x p q)⟩, (fun q => if q < nb then fb q else fc q), nb, s4, ⟨c1, h1_1, gn1, cL, gf1⟩, ?_, ?_, hs4⟩ rfl rfl
    · rcases zb with h | h
      · left; exact h
      · by_cases h0 : nb = 0
        · left; exact h0
        · right
          dsimp only
          rw [if_pos (by omega)]
          exact h
    · rw [hval]
      congr 2
      exact nv_congr (fun j hj => by simp [hj])
  have ta : ∀ s4 : Int, sgn na s4 → sa * (nv 4294967296 fa na : Nat) + sb * (nv 4294967296 fb nb : Nat) = s4 * (nv 4294967296 fa na : Nat) → ze_V G l (ze_rm 3 0 0) M7_join Z 41 [(0, .ref c), (1, .ref a), (2, .ref b), (3, ze_i (sb)), (4, ze_i (s4))] [.ref a, .ref c] w 0 0 := by
    intro s4 hs4 hval
    rw [← hQ]
    refine ze_callV (As := [.ref a]) (rest := []) dX7_join_41 (C7_copy hc ha hca (by omega)) mo7_copy ml_X7_54 in_7_copy se_7_copy ca rfl rfl rfl rfl rfl ⟨Nat.le_refl _, Nat.le_refl _⟩ rfl (Nat.le_of_ble_eq_true rfl) ?_
    rintro _ w' ⟨rfl, fr, ga1, gb1, gn1, -, gf1⟩
    change ze_V G l (ze_rm 3 0 0) M7_join _ 44 [(0, .ref c), (1, .ref a), (2, .ref b), (3, ze_i (sb)), (4, ze_i (s4))] [] w' 0 0
    refine ze_aload_n dX7_join_44 rfl ?_
    refine ze_iload dX7_join_45 rfl ?_
    refine ze_putfW (fs' := [.ref (c + 1), ze_i ((na : Nat)), ze_i (s4)]) dX7_join_47 fl_X7_17 (Or.inl rfl) ga1 rfl rfl (Nat.le_of_ble_eq_true rfl) rfl (fun w1 z1 c1 o1 => ?_)
    have h1_1 := (o1 (c + 1) (by omega)).trans gb1
    refine ze_goto 138 dX7_join_50 (by decide) ?_
    refine ze_return rfl dX7_join_138 ⟨rfl, ⟨z1.trans fr.1, fun x p q => (o1 x p).trans (fr.2 x p q)⟩, (fun q => if q < na then fa q else fc q), na, s4, ⟨c1, h1_1, gn1, cL, gf1⟩, ?_, ?_, hs4⟩ rfl rfl
    · rcases za with h | h
      · left; exact h
      · by_cases h0 : na = 0
        · left; exact h0
        · right
          dsimp only
          rw [if_pos (by omega)]
          exact h
    · rw [hval]
      congr 2
      exact nv_congr (fun j hj => by simp [hj])
  have t11 : (sa = 0 ∨ sb = 0) → ze_V G l (ze_rm 3 0 0) M7_join Z 11 [(0, .ref c), (1, .ref a), (2, .ref b), (3, ze_i (sb))] [] w 0 0 := by
    intro h00
    refine ze_aload_n dX7_join_11 rfl ?_
    refine ze_getf dX7_join_12 fl_X7_17 aa rfl ?_
    refine ze_if_ne 22 dX7_join_15 (by decide) (by omega) (fun q1 => ?_) (fun q1 => ?_)
    · refine ze_aload_n dX7_join_22 rfl ?_
      refine ze_getf dX7_join_23 fl_X7_17 aa rfl ?_
      refine ze_istore (lv' := [(0, .ref c), (1, .ref a), (2, .ref b), (3, ze_i (sb)), (4, ze_i (sa))]) dX7_join_26 rfl rfl ?_
      refine ze_aload_n dX7_join_28 rfl ?_
      refine ze_aload_n dX7_join_29 rfl ?_
      refine ze_getf dX7_join_30 fl_X7_17 aa rfl ?_
      refine ze_if_ne 40 dX7_join_33 (by decide) (by omega) (fun q2 => ?_) (fun q2 => ?_)
      · refine ze_aload_n dX7_join_40 rfl ?_
        have hb0 : nb = 0 := by unfold sgn at gb; omega
        exact ta _ ga (by rw [n0b hb0]; simp)
      · omega
    · refine ze_iload_n dX7_join_18 rfl ?_
      refine ze_goto 26 dX7_join_19 (by decide) ?_
      refine ze_istore (lv' := [(0, .ref c), (1, .ref a), (2, .ref b), (3, ze_i (sb)), (4, ze_i (sb))]) dX7_join_26 rfl rfl ?_
      refine ze_aload_n dX7_join_28 rfl ?_
      refine ze_aload_n dX7_join_29 rfl ?_
      refine ze_getf dX7_join_30 fl_X7_17 aa rfl ?_
      refine ze_if_ne 40 dX7_join_33 (by decide) (by omega) (fun q2 => ?_) (fun q2 => ?_)
      · omega
      · refine ze_aload_n dX7_join_36 rfl ?_
        refine ze_goto 41 dX7_join_37 (by decide) ?_
        have ha0 : na = 0 := by unfold sgn at ga; omega
        exact tb _ gb (by rw [n0a ha0]; simp)
  have t73 : ∀ (s4 : Int) (w1 : ze_W) (r : Nat → Nat) (n1 : Nat), (s4 = 1 ∨ s4 = -1) → bfr w w1 c → bg G w1 c Lc r n1 sc → sa * (nv 4294967296 fa na : Nat) + sb * (nv 4294967296 fb nb : Nat) = s4 * (nv 4294967296 r n1 : Nat) → ze_V G l (ze_rm 3 0 0) M7_join Z 73 [(0, .ref c), (1, .ref a), (2, .ref b), (3, ze_i (sb)), (4, ze_i (s4))] [] w1 0 0 := by
    intro s4 w1 r n1 hs fr hc1 hval
    obtain ⟨ca, cb, cn, -, cf⟩ := id hc1
    rw [← hQ]
    refine ze_aload_n dX7_join_73 rfl ?_
    refine ze_iload dX7_join_74 rfl ?_
    refine ze_putfW (fs' := [.ref (c + 1), ze_i ((n1 : Nat)), ze_i (s4)]) dX7_join_76 fl_X7_17 (Or.inl rfl) ca rfl rfl (Nat.le_of_ble_eq_true rfl) rfl (fun w1 z1 c1 o1 => ?_)
    have h1_1 := (o1 (c + 1) (by omega)).trans cb
    refine ze_aload_n dX7_join_79 rfl ?_
    refine ze_callV (As := []) (rest := []) dX7_join_80 (C7_trim (f := r) (n := n1) (L := Lc) (sg := s4) ⟨c1, h1_1, cn, cL, cf⟩) mo7_trim ml_X7_26 in_7_trim se_7_trim c1 rfl rfl rfl rfl rfl ⟨Nat.le_refl _, Nat.le_refl _⟩ rfl (Nat.le_of_ble_eq_true rfl) ?_
    rintro _ w' ⟨rfl, n', hn', hnz, hz, fr2, hb2⟩
    change ze_V G l (ze_rm 3 0 0) M7_join _ 83 [(0, .ref c), (1, .ref a), (2, .ref b), (3, ze_i (sb)), (4, ze_i (s4))] [] w' 0 0
    refine ze_goto 138 dX7_join_83 (by decide) ?_
    exact ze_return rfl dX7_join_138 ⟨rfl, ⟨fr2.1.trans (z1.trans fr.1), fun x p q => (fr2.2 x p q).trans ((o1 x p).trans (fr.2 x p q))⟩, by rw [hval]; exact bgz_trim hs hn' hnz hz hb2⟩ rfl rfl
  have t128 : ∀ (s4 : Int) (s5 : Int) (w1 : ze_W) (r : Nat → Nat) (n1 : Nat), (s5 = 1 ∨ s5 = -1) → bfr w w1 c → bg G w1 c Lc r n1 sc → sa * (nv 4294967296 fa na : Nat) + sb * (nv 4294967296 fb nb : Nat) = s5 * (nv 4294967296 r n1 : Nat) → ze_V G l (ze_rm 3 0 0) M7_join Z 128 [(0, .ref c), (1, .ref a), (2, .ref b), (3, ze_i (sb)), (4, ze_i (s4)), (5, ze_i (s5))] [] w1 0 0 := by
    intro s4 s5 w1 r n1 hs fr hc1 hval
    obtain ⟨ca, cb, cn, -, cf⟩ := id hc1
    rw [← hQ]
    refine ze_aload_n dX7_join_128 rfl ?_
    refine ze_iload dX7_join_129 rfl ?_
    refine ze_putfW (fs' := [.ref (c + 1), ze_i ((n1 : Nat)), ze_i (s5)]) dX7_join_131 fl_X7_17 (Or.inl rfl) ca rfl rfl (Nat.le_of_ble_eq_true rfl) rfl (fun w1 z1 c1 o1 => ?_)
    have h1_1 := (o1 (c + 1) (by omega)).trans cb
    refine ze_aload_n dX7_join_134 rfl ?_
    refine ze_callV (As := []) (rest := []) dX7_join_135 (C7_trim (f := r) (n := n1) (L := Lc) (sg := s5) ⟨c1, h1_1, cn, cL, cf⟩) mo7_trim ml_X7_26 in_7_trim se_7_trim c1 rfl rfl rfl rfl rfl ⟨Nat.le_refl _, Nat.le_refl _⟩ rfl (Nat.le_of_ble_eq_true rfl) ?_
    rintro _ w' ⟨rfl, n', hn', hnz, hz, fr2, hb2⟩
    change ze_V G l (ze_rm 3 0 0) M7_join _ 138 [(0, .ref c), (1, .ref a), (2, .ref b), (3, ze_i (sb)), (4, ze_i (s4)), (5, ze_i (s5))] [] w' 0 0
    exact ze_return rfl dX7_join_138 ⟨rfl, ⟨fr2.1.trans (z1.trans fr.1), fun x p q => (fr2.2 x p q).trans ((o1 x p).trans (fr.2 x p q))⟩, by rw [hval]; exact bgz_trim hs hn' hnz hz hb2⟩ rfl rfl
  have t53 : sa ≠ 0 → sb ≠ 0 → ze_V G l (ze_rm 3 0 0) M7_join Z 53 [(0, .ref c), (1, .ref a), (2, .ref b), (3, ze_i (sb))] [] w 0 0 := by
    intro hsa hsb
    have ha0 : 0 < na ∧ (sa = 1 ∨ sa = -1) := by unfold sgn at ga; omega
    have hb0 : 0 < nb ∧ (sb = 1 ∨ sb = -1) := by unfold sgn at gb; omega
    refine ze_aload_n dX7_join_53 rfl ?_
    refine ze_getf dX7_join_54 fl_X7_17 aa rfl ?_
    refine ze_iload_n dX7_join_57 rfl ?_
    refine ze_icmp_ne 86 dX7_join_58 (by decide) (by omega) (by omega) (fun q1 => ?_) (fun q1 => ?_)
    · refine ze_aload_n dX7_join_86 rfl ?_
      refine ze_aload_n dX7_join_87 rfl ?_
      refine ze_callV (As := [.ref b]) (rest := []) dX7_join_88 (C7_compareSize ha hb za zb) mo7_compareSize ml_X7_41 in_7_compareSize se_7_compareSize aa rfl rfl rfl rfl rfl ⟨Nat.le_refl _, Nat.le_refl _⟩ rfl (Nat.le_of_ble_eq_true rfl) ?_
      rintro _ w' ⟨rr, rfl, rfl, rfl⟩
      change ze_V G l (ze_rm 3 0 0) M7_join _ 91 [(0, .ref c), (1, .ref a), (2, .ref b), (3, ze_i (sb))] [ze_i (cmp3 (nv 4294967296 fa na : Nat) (nv 4294967296 fb nb : Nat))] w' 0 0
      obtain ⟨cc, hcc⟩ : ∃ cc, cc = cmp3 (nv 4294967296 fa na : Nat) (nv 4294967296 fb nb : Nat) := ⟨_, rfl⟩
      have hc2 : (cc = -1 ∧ nv 4294967296 fa na < nv 4294967296 fb nb) ∨ ((cc = 0 ∨ cc = 1) ∧ nv 4294967296 fb nb ≤ nv 4294967296 fa na) := by
        unfold cmp3 at hcc
        split at hcc
        · omega
        · split at hcc <;> omega
      rw [← hcc]
      change ze_V G l (ze_rm 3 0 0) M7_join _ 91 [(0, .ref c), (1, .ref a), (2, .ref b), (3, ze_i (sb))] [ze_i (cc)] w' 0 0
      refine ze_istore (lv' := [(0, .ref c), (1, .ref a), (2, .ref b), (3, ze_i (sb)), (4, ze_i (cc))]) dX7_join_91 rfl rfl ?_
      refine ze_iload dX7_join_93 rfl ?_
      refine ze_if_ge 102 dX7_join_95 (by decide) (by omega) (fun q2 => ?_) (fun q2 => ?_)
      · refine ze_aload_n dX7_join_102 rfl ?_
        refine ze_getf dX7_join_103 fl_X7_17 aa rfl ?_
        refine ze_istore (lv' := [(0, .ref c), (1, .ref a), (2, .ref b), (3, ze_i (sb)), (4, ze_i (cc)), (5, ze_i (sa))]) dX7_join_106 rfl rfl ?_
        refine ze_iload dX7_join_108 rfl ?_
        refine ze_if_ge 122 dX7_join_110 (by decide) (by omega) (fun q3 => ?_) (fun q3 => ?_)
        · refine ze_aload_n dX7_join_122 rfl ?_
          refine ze_aload_n dX7_join_123 rfl ?_
          refine ze_aload_n dX7_join_124 rfl ?_
          refine ze_callV (As := [.ref a, .ref b]) (rest := []) dX7_join_125 (C7_takeSizes hc ha hb hca hcb (by omega) (by rcases Nat.lt_or_ge na nb with h | h; (have := nv_lt_many af zb h; omega); exact h) (by omega)) mo7_takeSizes ml_X7_62 in_7_takeSizes se_7_takeSizes ca rfl rfl rfl rfl rfl ⟨Nat.le_refl _, Nat.le_refl _⟩ rfl (Nat.le_of_ble_eq_true rfl) ?_
          rintro _ w'' ⟨rfl, r, fr, hc1, hv⟩
          change ze_V G l (ze_rm 3 0 0) M7_join _ 128 [(0, .ref c), (1, .ref a), (2, .ref b), (3, ze_i (sb)), (4, ze_i (cc)), (5, ze_i (sa))] [] w'' 0 0
          exact t128 _ _ _ r _ ha0.2 fr hc1 (by rw [← hv, show sb = -sa by omega]; push_cast; rw [Int.mul_add, Int.neg_mul]; omega)
        · omega
      · refine ze_iload_n dX7_join_98 rfl ?_
        refine ze_goto 106 dX7_join_99 (by decide) ?_
        refine ze_istore (lv' := [(0, .ref c), (1, .ref a), (2, .ref b), (3, ze_i (sb)), (4, ze_i (cc)), (5, ze_i (sb))]) dX7_join_106 rfl rfl ?_
        refine ze_iload dX7_join_108 rfl ?_
        refine ze_if_ge 122 dX7_join_110 (by decide) (by omega) (fun q3 => ?_) (fun q3 => ?_)
        · omega
        · refine ze_aload_n dX7_join_113 rfl ?_
          refine ze_aload_n dX7_join_114 rfl ?_
          refine ze_aload_n dX7_join_115 rfl ?_
          refine ze_callV (As := [.ref b, .ref a]) (rest := []) dX7_join_116 (C7_takeSizes hc hb ha hcb hca (by omega) (by rcases Nat.lt_or_ge nb na with h | h; (have := nv_lt_many bf za h; omega); exact h) (by omega)) mo7_takeSizes ml_X7_62 in_7_takeSizes se_7_takeSizes ca rfl rfl rfl rfl rfl ⟨Nat.le_refl _, Nat.le_refl _⟩ rfl (Nat.le_of_ble_eq_true rfl) ?_
          rintro _ w'' ⟨rfl, r, fr, hc1, hv⟩
          change ze_V G l (ze_rm 3 0 0) M7_join _ 119 [(0, .ref c), (1, .ref a), (2, .ref b), (3, ze_i (sb)), (4, ze_i (cc)), (5, ze_i (sb))] [] w'' 0 0
          refine ze_goto 128 dX7_join_119 (by decide) ?_
          exact t128 _ _ _ r _ hb0.2 fr hc1 (by rw [← hv, show sa = -sb by omega]; push_cast; rw [Int.mul_add, Int.neg_mul]; omega)
    · refine ze_aload_n dX7_join_61 rfl ?_
      refine ze_getf dX7_join_62 fl_X7_17 aa rfl ?_
      refine ze_istore (lv' := [(0, .ref c), (1, .ref a), (2, .ref b), (3, ze_i (sb)), (4, ze_i (sa))]) dX7_join_65 rfl rfl ?_
      refine ze_aload_n dX7_join_67 rfl ?_
      refine ze_aload_n dX7_join_68 rfl ?_
      refine ze_aload_n dX7_join_69 rfl ?_
      refine ze_callV (As := [.ref a, .ref b]) (rest := []) dX7_join_70 (C7_addSizes hc ha hb hca hcb hL) mo7_addSizes ml_X7_58 in_7_addSizes se_7_addSizes ca rfl rfl rfl rfl rfl ⟨Nat.le_refl _, Nat.le_refl _⟩ rfl (Nat.le_of_ble_eq_true rfl) ?_
      rintro _ w' ⟨rfl, r, fr, hc1, hv⟩
      change ze_V G l (ze_rm 3 0 0) M7_join _ 73 [(0, .ref c), (1, .ref a), (2, .ref b), (3, ze_i (sb)), (4, ze_i (sa))] [] w' 0 0
      exact t73 _ _ r _ ha0.2 fr hc1 (by rw [hv, ← q1]; push_cast; rw [Int.mul_add])
  change ze_V G l (ze_rm 3 0 0) M7_join Z 0 [(0, .ref c), (1, .ref a), (2, .ref b), (3, ze_i (sb))] [] w 0 0
  refine ze_aload_n dX7_join_0 rfl ?_
  refine ze_getf dX7_join_1 fl_X7_17 aa rfl ?_
  refine ze_if_eq 11 dX7_join_4 (by decide) (by omega) (fun q1 => ?_) (fun q1 => ?_)
  · exact t11 (Or.inl q1)
  · refine ze_iload_n dX7_join_7 rfl ?_
    refine ze_if_ne 53 dX7_join_8 (by decide) (by omega) (fun q2 => ?_) (fun q2 => ?_)
    · exact t53 q1 q2
    · exact t11 (Or.inr q2)
theorem C7_add {G : ze_G} {l : Launch} {w : ze_W} {c Lc : Nat} {fc : Nat → Nat} {nc : Nat} {sc : Int} {a b La Lb : Nat} {x y : Int} {K : Nat} (hc : bg G w c Lc fc nc sc) (ha : bgz G w a La x) (hb : bgz G w b Lb y) (hca : c ≠ a) (hcb : c ≠ b) (hx : x.natAbs < 4294967296 ^ K) (hy : y.natAbs < 4294967296 ^ K) (hL : K + 1 ≤ Lc) : ze_C G l 4 0 0 M7_add [.ref c, .ref a, .ref b] w (ze_qv (fun w' => bfr w w' c ∧ bgz G w' c Lc (x + y))) := by
  obtain ⟨fa, na, sa, ha, za, hx2, ga⟩ := ha
  obtain ⟨fb, nb, sb, hb, zb, hy2, gb⟩ := hb
  have ka : na ≤ K := by
    refine nv_many (by decide) za (Nat.lt_of_le_of_lt ?_ hx)
    rcases ga with ⟨g1, g2⟩ | ⟨g1, g2 | g2⟩ <;> rw [hx2, g2]
    · rw [g1]; exact Nat.zero_le _
    · rw [Int.one_mul]; exact Nat.le_refl _
    · rw [Int.neg_mul, Int.one_mul, Int.natAbs_neg]; exact Nat.le_refl _
  have kb : nb ≤ K := by
    refine nv_many (by decide) zb (Nat.lt_of_le_of_lt ?_ hy)
    rcases gb with ⟨g1, g2⟩ | ⟨g1, g2 | g2⟩ <;> rw [hy2, g2]
    · rw [g1]; exact Nat.zero_le _
    · rw [Int.one_mul]; exact Nat.le_refl _
    · rw [Int.neg_mul, Int.one_mul, Int.natAbs_neg]; exact Nat.le_refl _
  obtain ⟨ba, bb, -, -, bf⟩ := id hb
  obtain ⟨ca, cb, -, -, cf⟩ := id hc
  refine ze_enter (by decide +kernel) rfl ?_
  change ze_V G l (ze_rm 4 0 0) M7_add _ 0 [(0, .ref c), (1, .ref a), (2, .ref b)] [] w 0 0
  refine ze_aload_n dX7_add_0 rfl ?_
  refine ze_aload_n dX7_add_1 rfl ?_
  refine ze_aload_n dX7_add_2 rfl ?_
  refine ze_aload_n dX7_add_3 rfl ?_
  refine ze_getf dX7_add_4 fl_X7_17 ba rfl ?_
  refine ze_callV (As := [.ref a, .ref b, ze_i (sb)]) (rest := []) dX7_add_7 (C7_join hc ha hb hca hcb za zb ga gb (by omega)) mo7_join ml_X7_65 in_7_join se_7_join ca rfl rfl rfl rfl rfl ⟨Nat.le_refl _, Nat.le_refl _⟩ rfl (Nat.le_of_ble_eq_true rfl) ?_
  rintro _ w' ⟨rfl, fr, hz⟩
  change ze_V G l (ze_rm 4 0 0) M7_add _ 10 [(0, .ref c), (1, .ref a), (2, .ref b)] [] w' 0 0
  exact ze_return rfl dX7_add_10 ⟨rfl, fr, by rw [hx2, hy2]; exact hz⟩ rfl rfl
theorem C7_less {G : ze_G} {l : Launch} {w : ze_W} {c Lc : Nat} {fc : Nat → Nat} {nc : Nat} {sc : Int} {a b La Lb : Nat} {x y : Int} {K : Nat} (hc : bg G w c Lc fc nc sc) (ha : bgz G w a La x) (hb : bgz G w b Lb y) (hca : c ≠ a) (hcb : c ≠ b) (hx : x.natAbs < 4294967296 ^ K) (hy : y.natAbs < 4294967296 ^ K) (hL : K + 1 ≤ Lc) : ze_C G l 4 0 0 M7_less [.ref c, .ref a, .ref b] w (ze_qv (fun w' => bfr w w' c ∧ bgz G w' c Lc (x - y))) := by
  obtain ⟨fa, na, sa, ha, za, hx2, ga⟩ := ha
  obtain ⟨fb, nb, sb, hb, zb, hy2, gb⟩ := hb
  have ka : na ≤ K := by
    refine nv_many (by decide) za (Nat.lt_of_le_of_lt ?_ hx)
    rcases ga with ⟨g1, g2⟩ | ⟨g1, g2 | g2⟩ <;> rw [hx2, g2]
    · rw [g1]; exact Nat.zero_le _
    · rw [Int.one_mul]; exact Nat.le_refl _
    · rw [Int.neg_mul, Int.one_mul, Int.natAbs_neg]; exact Nat.le_refl _
  have kb : nb ≤ K := by
    refine nv_many (by decide) zb (Nat.lt_of_le_of_lt ?_ hy)
    rcases gb with ⟨g1, g2⟩ | ⟨g1, g2 | g2⟩ <;> rw [hy2, g2]
    · rw [g1]; exact Nat.zero_le _
    · rw [Int.one_mul]; exact Nat.le_refl _
    · rw [Int.neg_mul, Int.one_mul, Int.natAbs_neg]; exact Nat.le_refl _
  obtain ⟨ba, bb, -, -, bf⟩ := id hb
  obtain ⟨ca, cb, -, -, cf⟩ := id hc
  refine ze_enter (by decide +kernel) rfl ?_
  change ze_V G l (ze_rm 4 0 0) M7_less _ 0 [(0, .ref c), (1, .ref a), (2, .ref b)] [] w 0 0
  refine ze_aload_n dX7_less_0 rfl ?_
  refine ze_aload_n dX7_less_1 rfl ?_
  refine ze_aload_n dX7_less_2 rfl ?_
  refine ze_aload_n dX7_less_3 rfl ?_
  refine ze_getf dX7_less_4 fl_X7_17 ba rfl ?_
  refine ze_ineg dX7_less_7 ?_
  refine ze_callV (As := [.ref a, .ref b, ze_i (-sb)]) (rest := []) dX7_less_8 (C7_join hc ha hb hca hcb za zb ga (by rcases gb with ⟨g1, g2⟩ | ⟨g1, g2⟩; (left; exact ⟨g1, by omega⟩); (right; exact ⟨g1, by omega⟩)) (by omega)) mo7_join ml_X7_65 in_7_join se_7_join ca rfl rfl rfl rfl rfl ⟨Nat.le_refl _, Nat.le_refl _⟩ rfl (Nat.le_of_ble_eq_true rfl) ?_
  rintro _ w' ⟨rfl, fr, hz⟩
  change ze_V G l (ze_rm 4 0 0) M7_less _ 11 [(0, .ref c), (1, .ref a), (2, .ref b)] [] w' 0 0
  exact ze_return rfl dX7_less_11 ⟨rfl, fr, by rw [hx2, hy2]; rw [Int.sub_eq_add_neg, ← Int.neg_mul]; exact hz⟩ rfl rfl
