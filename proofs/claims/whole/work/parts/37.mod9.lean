/-! the reference: the best ends -/
/-- the first entry of list t that is not taken yet, weighed -/
def hd (cnt : Nat → Nat) (val : Nat → Nat → Nat) (wt : Nat → Nat) (tk : Nat → Nat) (t : Nat) : Nat := if tk t < cnt t then val t (tk t) * wt t else 0
/-- how many are taken of each list behind r picks -/
def tkn (n : Nat) (cnt : Nat → Nat) (val : Nat → Nat → Nat) (wt : Nat → Nat) : Nat → Nat → Nat
  | 0, _ => 0
  | r + 1, t => if (mx (hd cnt val wt (tkn n cnt val wt r)) n).2 = 0 then tkn n cnt val wt r t else va_up (tkn n cnt val wt r) (mx (hd cnt val wt (tkn n cnt val wt r)) n).1 (tkn n cnt val wt r (mx (hd cnt val wt (tkn n cnt val wt r)) n).1 + 1) t
/-- pick r: list and value, 0 where nothing is left -/
def pk (n : Nat) (cnt : Nat → Nat) (val : Nat → Nat → Nat) (wt : Nat → Nat) (r : Nat) : Nat × Nat := mx (hd cnt val wt (tkn n cnt val wt r)) n
/-- how many of the first K picks there are -/
def lnn (n : Nat) (cnt : Nat → Nat) (val : Nat → Nat → Nat) (wt : Nat → Nat) : Nat → Nat
  | 0 => 0
  | K + 1 => if lnn n cnt val wt K = K ∧ (pk n cnt val wt K).2 ≠ 0 then K + 1 else lnn n cnt val wt K
theorem lnn_le {n : Nat} {cnt : Nat → Nat} {val : Nat → Nat → Nat} {wt : Nat → Nat} (K : Nat) : lnn n cnt val wt K ≤ K := by
  induction K with
  | zero => exact Nat.le_refl _
  | succ K ih => unfold lnn; split <;> omega
theorem tkn_le {n : Nat} {cnt : Nat → Nat} {val : Nat → Nat → Nat} {wt : Nat → Nat} (r t : Nat) : tkn n cnt val wt r t ≤ r := by
  induction r generalizing t with
  | zero => exact Nat.le_refl _
  | succ r ih =>
    unfold tkn
    split
    · exact Nat.le_succ_of_le (ih t)
    · unfold va_up
      split
      · exact Nat.succ_le_succ (ih _)
      · exact Nat.le_succ_of_le (ih t)
theorem mx_s (f : Nat → Nat) (s : Nat) : mx f (s + 1) = if (mx f s).2 < f s then (s, f s) else mx f s := rfl
def bst (p : Nat × Nat) : Int := if p.2 = 0 then -1 else (p.1 : Nat)
theorem mx_lt2 {f : Nat → Nat} {n : Nat} (h : (mx f n).2 ≠ 0) : (mx f n).1 < n := by
  cases n with
  | zero => exact absurd rfl h
  | succ n => exact mx_lt (Nat.succ_pos n)
theorem mx_val {f : Nat → Nat} {n : Nat} (h : (mx f n).2 ≠ 0) : f (mx f n).1 = (mx f n).2 := by
  induction n with
  | zero => exact absurd rfl h
  | succ n ih =>
    rw [mx_s] at *
    split
    · rfl
    · rename_i h2
      rw [if_neg h2] at h
      exact ih h
theorem mx_congr {f g : Nat → Nat} {n : Nat} (h : ∀ j, j < n → f j = g j) : mx f n = mx g n := by
  induction n with
  | zero => rfl
  | succ n ih => rw [mx_s, mx_s, ih (fun j hj => h j (by omega)), h n (by omega)]
theorem bst_rng {f : Nat → Nat} {t : Nat} (h : t ≤ 8) : -1 ≤ bst (mx f t) ∧ bst (mx f t) < 8 := by
  unfold bst
  split
  · omega
  · rename_i h2
    have := mx_lt2 h2
    omega
theorem C8_takeEnd {G : ze_G} {l : Launch} {w0 w : ze_W} {m C P F : Nat} {ar ar1 : Nat → Nat → Int} {bz : Nat → Int} (hM : mst G w0 w m C P F ar1 bz) {c i s sh r B0 : Nat} {cnt tk : Nat → Nat} {val : Nat → Nat → Nat} (hc : c < 6) (hK : mch ar c) (har : ∀ k, k ≤ 7 → ar1 k = ar k) (hi : i + 1 < 60) (hs : s < 8) (hsh : sh ≤ 1000) (hr : r < 20) (hr1 : ar1 15 (i * 8 + s) = (r : Nat)) (hE : ∀ t, t < cn ar c → ar1 15 ((i + 1) * 8 + t) = (cnt t : Nat) ∧ cnt t ≤ 20) (hV : ∀ t q, t < cn ar c → q < cnt t → bz (1956 + 2 * (((i + 1) * 8 + t) * 20 + q)) = (val t q : Nat) ∧ 0 < val t q ∧ val t q ≤ 1000000 ^ B0) (hB0 : B0 ≤ 60) (hT : ∀ t, t < cn ar c → ar1 16 t = (tk t : Nat) ∧ tk t ≤ 20) : ze_C G l 4 0 0 M8_takeEnd [.ref m, ze_i (c : Nat), ze_i (i : Nat), ze_i (s : Nat), ze_i (sh : Nat)] w (ze_qi (fun rr w' => ∃ ar' bz', mst G w0 w' m C P F ar' bz' ∧ (∀ o, o ≠ 24 → o ≠ 34 → o ≠ 1956 + 2 * ((i * 8 + s) * 20 + r) → bz' o = bz o) ∧ (((mx (hd cnt val (fun t => cg ar c s t * sh) tk) (cn ar c)).2 ≠ 0 ∧ rr = 1 ∧ bz' (1956 + 2 * ((i * 8 + s) * 20 + r)) = ((mx (hd cnt val (fun t => cg ar c s t * sh) tk) (cn ar c)).2 : Nat) ∧ ar' = va_up (va_up (va_up ar1 13 (va_up (ar1 13) ((i * 8 + s) * 20 + r) ((mx (hd cnt val (fun t => cg ar c s t * sh) tk) (cn ar c)).1 : Nat))) 14 (va_up (ar1 14) ((i * 8 + s) * 20 + r) (tk (mx (hd cnt val (fun t => cg ar c s t * sh) tk) (cn ar c)).1 : Nat))) 16 (va_up (ar1 16) (mx (hd cnt val (fun t => cg ar c s t * sh) tk) (cn ar c)).1 (tk (mx (hd cnt val (fun t => cg ar c s t * sh) tk) (cn ar c)).1 + 1 : Nat))) ∨ ((mx (hd cnt val (fun t => cg ar c s t * sh) tk) (cn ar c)).2 = 0 ∧ rr = 0 ∧ ar' = ar1)))) := by
  obtain ⟨en, n1, n8⟩ := mch_n hK
  have en1 : ar1 1 c = (cn ar c : Nat) := by rw [har 1 (by decide)]; exact en
  refine ze_enter (by decide +kernel) rfl ?_
  generalize hQ : (ze_Q G (ze_qi (fun rr w' => ∃ ar' bz', mst G w0 w' m C P F ar' bz' ∧ (∀ o, o ≠ 24 → o ≠ 34 → o ≠ 1956 + 2 * ((i * 8 + s) * 20 + r) → bz' o = bz o) ∧ (((mx (hd cnt val (fun t => cg ar c s t * sh) tk) (cn ar c)).2 ≠ 0 ∧ rr = 1 ∧ bz' (1956 + 2 * ((i * 8 + s) * 20 + r)) = ((mx (hd cnt val (fun t => cg ar c s t * sh) tk) (cn ar c)).2 : Nat) ∧ ar' = va_up (va_up (va_up ar1 13 (va_up (ar1 13) ((i * 8 + s) * 20 + r) ((mx (hd cnt val (fun t => cg ar c s t * sh) tk) (cn ar c)).1 : Nat))) 14 (va_up (ar1 14) ((i * 8 + s) * 20 + r) (tk (mx (hd cnt val (fun t => cg ar c s t * sh) tk) (cn ar c)).1 : Nat))) 16 (va_up (ar1 16) (mx (hd cnt val (fun t => cg ar c s t * sh) tk) (cn ar c)).1 (tk (mx (hd cnt val (fun t => cg ar c s t * sh) tk) (cn ar c)).1 + 1 : Nat))) ∨ ((mx (hd cnt val (fun t => cg ar c s t * sh) tk) (cn ar c)).2 = 0 ∧ rr = 0 ∧ ar' = ar1)))) 0 0) = Z
  obtain ⟨a, ha⟩ : ∃ a, a = (i * 8 + s) * 20 + r := ⟨_, rfl⟩
  rw [← ha] at hQ
  have loop : ∀ (d t : Nat) (bz1 : Nat → Int) (w1 : ze_W), t + d = cn ar c → mst G w0 w1 m C P F ar1 bz1 → (∀ o, o ≠ 24 → o ≠ 34 → o ≠ 1956 + 2 * a → bz1 o = bz o) → ((mx (hd cnt val (fun t => cg ar c s t * sh) tk) t).2 ≠ 0 → bz1 (1956 + 2 * a) = ((mx (hd cnt val (fun t => cg ar c s t * sh) tk) t).2 : Nat)) → ze_V G l (ze_rm 4 0 0) M8_takeEnd Z 29 [(0, .ref m), (1, ze_i ((c : Nat))), (2, ze_i ((i : Nat))), (3, ze_i ((s : Nat))), (4, ze_i ((sh : Nat))), (5, ze_i ((a : Nat))), (6, ze_i (bst (mx (hd cnt val (fun t => cg ar c s t * sh) tk) t))), (7, ze_i ((t : Nat)))] [] w1 0 0 := by
    intro d
    induction d with
    | zero =>
      intro t bz1 w1 ht hM1 hf hb
      have htn : t = cn ar c := by omega
      have hbr := bst_rng (f := hd cnt val (fun t => cg ar c s t * sh) tk) (show t ≤ 8 by omega)
      refine ze_iload dX8_takeEnd_29 rfl ?_
      refine ze_aload_n dX8_takeEnd_31 rfl ?_
      refine ze_getf dX8_takeEnd_32 fl_X8_9 (ms_o hM1) rfl ?_
      refine ze_iload_n dX8_takeEnd_35 rfl ?_
      refine ze_iald (j := c) dX8_takeEnd_36 (show w1.2 (m + 1) = some (ze_ia G 6 (ar1 1)) from ms_i hM1 1 (by decide)) (by omega) (by omega) (by omega) ?_
      rw [en1]
      refine ze_icmp_ge 174 dX8_takeEnd_37 (by decide) (by omega) (by omega) (fun q1 => ?_) (fun q1 => ?_)
      · refine ze_iload dX8_takeEnd_174 rfl ?_
        refine ze_if_ge 181 dX8_takeEnd_176 (by decide) (by omega) (fun q2 => ?_) (fun q2 => ?_)
        · have hz : (mx (hd cnt val (fun t => cg ar c s t * sh) tk) t).2 ≠ 0 := by
            intro h
            unfold bst at q2
            rw [if_pos h] at q2
            omega
          have hbv := hb hz
          have hp8 := mx_lt2 hz
          obtain ⟨p, hp⟩ : ∃ p, p = (mx (hd cnt val (fun t => cg ar c s t * sh) tk) t).1 := ⟨_, rfl⟩
          have hbp : bst (mx (hd cnt val (fun t => cg ar c s t * sh) tk) t) = (p : Nat) := by unfold bst; rw [if_neg hz, hp]
          rw [← hp] at hp8
          rw [hbp]
          obtain ⟨ht16, htb⟩ := hT p (by omega)
          change ze_V G l (ze_rm 4 0 0) M8_takeEnd _ 181 [(0, .ref m), (1, ze_i ((c : Nat))), (2, ze_i ((i : Nat))), (3, ze_i ((s : Nat))), (4, ze_i ((sh : Nat))), (5, ze_i ((a : Nat))), (6, ze_i ((p : Nat))), (7, ze_i ((t : Nat)))] [] w1 0 0
          refine ze_aload_n dX8_takeEnd_181 rfl ?_
          refine ze_getf dX8_takeEnd_182 fl_X8_50 (ms_o hM1) rfl ?_
          refine ze_iload dX8_takeEnd_185 rfl ?_
          refine ze_iload dX8_takeEnd_187 rfl ?_
          refine ze_iastW (j := a) (f' := va_up (ar1 13) a (((p : Nat) : Int))) dX8_takeEnd_189 (show w1.2 (m + 13) = some (ze_ia G 9600 (ar1 13)) from ms_i hM1 13 (by decide)) (by omega) (by omega) (by omega) rfl (fun w3 z3 c3 o3 => ?_)
          have hM3 := ms_wi hM1 13 (by decide) z3 c3 o3
          refine ze_aload_n dX8_takeEnd_190 rfl ?_
          refine ze_getf dX8_takeEnd_191 fl_X8_53 (ms_o hM3) rfl ?_
          refine ze_iload dX8_takeEnd_194 rfl ?_
          refine ze_aload_n dX8_takeEnd_196 rfl ?_
          refine ze_getf dX8_takeEnd_197 fl_X8_59 (ms_o hM3) rfl ?_
          refine ze_iload dX8_takeEnd_200 rfl ?_
          have e1 : (va_up ar1 13 (va_up (ar1 13) a (((p : Nat) : Int)))) 16 = ar1 16 := va_up_ne _ _ (by decide)
          refine ze_iald (j := p) dX8_takeEnd_202 (show w3.2 (m + 16) = some (ze_ia G 8 ((va_up ar1 13 (va_up (ar1 13) a (((p : Nat) : Int)))) 16)) from ms_i hM3 16 (by decide)) (by omega) (by omega) (by omega) ?_
          rw [e1, ht16]
          have e2 : (va_up ar1 13 (va_up (ar1 13) a (((p : Nat) : Int)))) 14 = ar1 14 := va_up_ne _ _ (by decide)
          refine ze_iastW (j := a) (f' := va_up ((va_up ar1 13 (va_up (ar1 13) a (((p : Nat) : Int)))) 14) a (((tk p : Nat) : Int))) dX8_takeEnd_203 (show w3.2 (m + 14) = some (ze_ia G 9600 ((va_up ar1 13 (va_up (ar1 13) a (((p : Nat) : Int)))) 14)) from ms_i hM3 14 (by decide)) (by omega) (by omega) (by omega) rfl (fun w4 z4 c4 o4 => ?_)
          have hM4 := ms_wi hM3 14 (by decide) z4 c4 o4
          have e3 : (va_up (va_up ar1 13 (va_up (ar1 13) a (((p : Nat) : Int)))) 14 (va_up ((va_up ar1 13 (va_up (ar1 13) a (((p : Nat) : Int)))) 14) a (((tk p : Nat) : Int)))) 16 = ar1 16 := by rw [va_up_ne _ _ (by decide), e1]
          refine ze_aload_n dX8_takeEnd_204 rfl ?_
          refine ze_getf dX8_takeEnd_205 fl_X8_59 (ms_o hM4) rfl ?_
          refine ze_iload dX8_takeEnd_208 rfl ?_
          refine ze_dup2 dX8_takeEnd_210 rfl rfl ?_
          refine ze_iald (j := p) dX8_takeEnd_211 (show w4.2 (m + 16) = some (ze_ia G 8 ((va_up (va_up ar1 13 (va_up (ar1 13) a (((p : Nat) : Int)))) 14 (va_up ((va_up ar1 13 (va_up (ar1 13) a (((p : Nat) : Int)))) 14) a (((tk p : Nat) : Int)))) 16)) from ms_i hM4 16 (by decide)) (by omega) (by omega) (by omega) ?_
          rw [e3, ht16]
          refine ze_iconst dX8_takeEnd_212 ?_
          refine ze_iadd dX8_takeEnd_213 ?_
          refine ze_ti (b := ((tk p + 1 : Nat))) (by omega) ?_
          refine ze_iastW (j := p) (f' := va_up ((va_up (va_up ar1 13 (va_up (ar1 13) a (((p : Nat) : Int)))) 14 (va_up ((va_up ar1 13 (va_up (ar1 13) a (((p : Nat) : Int)))) 14) a (((tk p : Nat) : Int)))) 16) p (((tk p + 1 : Nat) : Int))) dX8_takeEnd_214 (show w4.2 (m + 16) = some (ze_ia G 8 ((va_up (va_up ar1 13 (va_up (ar1 13) a (((p : Nat) : Int)))) 14 (va_up ((va_up ar1 13 (va_up (ar1 13) a (((p : Nat) : Int)))) 14) a (((tk p : Nat) : Int)))) 16)) from ms_i hM4 16 (by decide)) (by omega) (by omega) (by omega) rfl (fun w5 z5 c5 o5 => ?_)
          have hM5 := ms_wi hM4 16 (by decide) z5 c5 o5
          refine ze_iconst dX8_takeEnd_215 ?_
          rw [← hQ]
          refine ze_zreturn rfl dX8_takeEnd_216 (by decide) ⟨_, rfl, _, bz1, hM5, hf, Or.inl ⟨by rw [← htn]; exact hz, rfl, by rw [hbv, htn], ?_⟩⟩ rfl rfl
          rw [← htn, ← hp, e3, e2]
        · refine ze_iconst dX8_takeEnd_179 ?_
          have hz : (mx (hd cnt val (fun t => cg ar c s t * sh) tk) (cn ar c)).2 = 0 := by
            rw [← htn]
            rcases Nat.eq_zero_or_pos (mx (hd cnt val (fun t => cg ar c s t * sh) tk) t).2 with h | h
            · exact h
            · unfold bst at q2
              rw [if_neg (by omega)] at q2
              omega
          rw [← hQ]
          exact ze_zreturn rfl dX8_takeEnd_180 (by decide) ⟨_, rfl, ar1, bz1, hM1, hf, Or.inr ⟨hz, rfl, rfl⟩⟩ rfl rfl
      · omega
    | succ d ih =>
      intro t bz1 w1 ht hM1 hf hb
      have htn : t < cn ar c := by omega
      obtain ⟨eg, eg2⟩ := mch_g hK hs (show t < 8 by omega)
      have hg1 : ar1 5 ((c * 8 + s) * 8 + t) = (cg ar c s t : Nat) := by rw [har 5 (by decide)]; exact eg
      obtain ⟨D, hD⟩ : ∃ D, D = cg ar c s t * sh := ⟨_, rfl⟩
      have hDb : D ≤ 1000 * 1000 := by rw [hD]; exact Nat.mul_le_mul eg2 hsh
      obtain ⟨ee, ee2⟩ := hE t htn
      obtain ⟨et, et2⟩ := hT t htn
      have hbr := bst_rng (f := hd cnt val (fun t => cg ar c s t * sh) tk) (show t ≤ 8 by omega)
      have emx := mx_s (hd cnt val (fun t => cg ar c s t * sh) tk) t
      have t168 : ∀ (bz2 : Nat → Int) (w2 : ze_W), mst G w0 w2 m C P F ar1 bz2 → (∀ o, o ≠ 24 → o ≠ 34 → o ≠ 1956 + 2 * a → bz2 o = bz o) → ((mx (hd cnt val (fun t => cg ar c s t * sh) tk) (t + 1)).2 ≠ 0 → bz2 (1956 + 2 * a) = ((mx (hd cnt val (fun t => cg ar c s t * sh) tk) (t + 1)).2 : Nat)) → ze_V G l (ze_rm 4 0 0) M8_takeEnd Z 168 [(0, .ref m), (1, ze_i ((c : Nat))), (2, ze_i ((i : Nat))), (3, ze_i ((s : Nat))), (4, ze_i ((sh : Nat))), (5, ze_i ((a : Nat))), (6, ze_i (bst (mx (hd cnt val (fun t => cg ar c s t * sh) tk) (t + 1)))), (7, ze_i ((t : Nat))), (8, ze_i ((((i + 1) * 8 + t : Nat)))), (9, ze_i ((D : Nat)))] [] w2 0 0 := by
        intro bz2 w2 hM2 hf2 hb2
        refine ze_iinc (b := ((t + 1 : Nat))) (lv' := [(0, .ref m), (1, ze_i ((c : Nat))), (2, ze_i ((i : Nat))), (3, ze_i ((s : Nat))), (4, ze_i ((sh : Nat))), (5, ze_i ((a : Nat))), (6, ze_i (bst (mx (hd cnt val (fun t => cg ar c s t * sh) tk) (t + 1)))), (7, ze_i (((t + 1 : Nat)))), (8, ze_i ((((i + 1) * 8 + t : Nat)))), (9, ze_i ((D : Nat)))]) dX8_takeEnd_168 rfl rfl (by omega) rfl ?_
        refine ze_goto 29 dX8_takeEnd_171 (by decide) ?_
        refine ze_lv (lv' := [(0, .ref m), (1, ze_i ((c : Nat))), (2, ze_i ((i : Nat))), (3, ze_i ((s : Nat))), (4, ze_i ((sh : Nat))), (5, ze_i ((a : Nat))), (6, ze_i (bst (mx (hd cnt val (fun t => cg ar c s t * sh) tk) (t + 1)))), (7, ze_i (((t + 1 : Nat))))]) [0, 1, 2, 3, 4, 5, 6, 7] rfl ?_
        exact ih (t + 1) bz2 w2 (by omega) hM2 hf2 hb2
      refine ze_iload dX8_takeEnd_29 rfl ?_
      refine ze_aload_n dX8_takeEnd_31 rfl ?_
      refine ze_getf dX8_takeEnd_32 fl_X8_9 (ms_o hM1) rfl ?_
      refine ze_iload_n dX8_takeEnd_35 rfl ?_
      refine ze_iald (j := c) dX8_takeEnd_36 (show w1.2 (m + 1) = some (ze_ia G 6 (ar1 1)) from ms_i hM1 1 (by decide)) (by omega) (by omega) (by omega) ?_
      rw [en1]
      refine ze_icmp_ge 174 dX8_takeEnd_37 (by decide) (by omega) (by omega) (fun q1 => ?_) (fun q1 => ?_)
      · omega
      · refine ze_iload_n dX8_takeEnd_40 rfl ?_
        refine ze_iconst dX8_takeEnd_41 ?_
        refine ze_iadd dX8_takeEnd_42 ?_
        refine ze_bipush dX8_takeEnd_43 (by decide) ?_
        refine ze_imul dX8_takeEnd_45 ?_
        refine ze_iload dX8_takeEnd_46 rfl ?_
        refine ze_iadd dX8_takeEnd_48 ?_
        refine ze_ti (b := (((i + 1) * 8 + t : Nat))) (by omega) ?_
        refine ze_istore (lv' := [(0, .ref m), (1, ze_i ((c : Nat))), (2, ze_i ((i : Nat))), (3, ze_i ((s : Nat))), (4, ze_i ((sh : Nat))), (5, ze_i ((a : Nat))), (6, ze_i (bst (mx (hd cnt val (fun t => cg ar c s t * sh) tk) t))), (7, ze_i ((t : Nat))), (8, ze_i ((((i + 1) * 8 + t : Nat))))]) dX8_takeEnd_49 rfl rfl ?_
        refine ze_aload_n dX8_takeEnd_51 rfl ?_
        refine ze_iload_n dX8_takeEnd_52 rfl ?_
        refine ze_iload_n dX8_takeEnd_53 rfl ?_
        refine ze_iload dX8_takeEnd_54 rfl ?_
        refine ze_callV (As := [ze_i ((c : Nat)), ze_i ((s : Nat)), ze_i ((t : Nat))]) (rest := []) dX8_takeEnd_56 (C8_goOf hM1 (c := c) (s := s) (t := t) hc hs (by omega)) mo8_goOf ml_X8_116 in_8_goOf se_8_goOf (ms_o hM1) rfl rfl rfl rfl rfl ⟨Nat.le_refl _, Nat.le_refl _⟩ rfl (Nat.le_of_ble_eq_true rfl) ?_
        rintro _ w' ⟨r2, rfl, rfl, rfl⟩
        change ze_V G l (ze_rm 4 0 0) M8_takeEnd _ 59 [(0, .ref m), (1, ze_i ((c : Nat))), (2, ze_i ((i : Nat))), (3, ze_i ((s : Nat))), (4, ze_i ((sh : Nat))), (5, ze_i ((a : Nat))), (6, ze_i (bst (mx (hd cnt val (fun t => cg ar c s t * sh) tk) t))), (7, ze_i ((t : Nat))), (8, ze_i ((((i + 1) * 8 + t : Nat))))] [ze_i (ar1 5 ((c * 8 + s) * 8 + t))] w' 0 0
        rw [hg1]
        refine ze_iload dX8_takeEnd_59 rfl ?_
        refine ze_imul dX8_takeEnd_61 ?_
        refine ze_ti (b := (D : Nat)) (by rw [hD]; push_cast; rfl) ?_
        refine ze_istore (lv' := [(0, .ref m), (1, ze_i ((c : Nat))), (2, ze_i ((i : Nat))), (3, ze_i ((s : Nat))), (4, ze_i ((sh : Nat))), (5, ze_i ((a : Nat))), (6, ze_i (bst (mx (hd cnt val (fun t => cg ar c s t * sh) tk) t))), (7, ze_i ((t : Nat))), (8, ze_i ((((i + 1) * 8 + t : Nat)))), (9, ze_i ((D : Nat)))]) dX8_takeEnd_62 rfl rfl ?_
        refine ze_iload dX8_takeEnd_64 rfl ?_
        refine ze_if_eq 168 dX8_takeEnd_66 (by decide) (by omega) (fun q3 => ?_) (fun q3 => ?_)
        · have hh : hd cnt val (fun t => cg ar c s t * sh) tk t = 0 := by
            unfold hd
            show (if tk t < cnt t then val t (tk t) * (cg ar c s t * sh) else 0) = 0; rw [← hD, show D = 0 by omega, Nat.mul_zero]; split <;> rfl
          rw [hh, if_neg (by omega)] at emx
          rw [← emx]
          change ze_V G l (ze_rm 4 0 0) M8_takeEnd _ 168 [(0, .ref m), (1, ze_i ((c : Nat))), (2, ze_i ((i : Nat))), (3, ze_i ((s : Nat))), (4, ze_i ((sh : Nat))), (5, ze_i ((a : Nat))), (6, ze_i (bst (mx (hd cnt val (fun t => cg ar c s t * sh) tk) (t + 1)))), (7, ze_i ((t : Nat))), (8, ze_i ((((i + 1) * 8 + t : Nat)))), (9, ze_i ((D : Nat)))] [] w' 0 0
          exact t168 bz1 _ hM1 hf (by rw [emx]; exact hb)
        · refine ze_aload_n dX8_takeEnd_69 rfl ?_
          refine ze_getf dX8_takeEnd_70 fl_X8_59 (ms_o hM1) rfl ?_
          refine ze_iload dX8_takeEnd_73 rfl ?_
          refine ze_iald (j := t) dX8_takeEnd_75 (show w'.2 (m + 16) = some (ze_ia G 8 (ar1 16)) from ms_i hM1 16 (by decide)) (by omega) (by omega) (by omega) ?_
          rw [et]
          refine ze_aload_n dX8_takeEnd_76 rfl ?_
          refine ze_getf dX8_takeEnd_77 fl_X8_56 (ms_o hM1) rfl ?_
          refine ze_iload dX8_takeEnd_80 rfl ?_
          refine ze_iald (j := (i + 1) * 8 + t) dX8_takeEnd_82 (show w'.2 (m + 15) = some (ze_ia G 480 (ar1 15)) from ms_i hM1 15 (by decide)) (by omega) (by omega) (by omega) ?_
          rw [ee]
          refine ze_icmp_lt 89 dX8_takeEnd_83 (by decide) (by omega) (by omega) (fun q4 => ?_) (fun q4 => ?_)
          · have hav : tk t < cnt t := by omega
            obtain ⟨ev, ev0, evb⟩ := hV t (tk t) htn hav
            have hD0 : 0 < D := by omega
            have hh : hd cnt val (fun t => cg ar c s t * sh) tk t = val t (tk t) * D := by
              unfold hd
              rw [if_pos hav, hD]
            have hpos : 0 < val t (tk t) * D := Nat.mul_pos ev0 hD0
            have fv : fit ((val t (tk t) : Nat) : Int) 46 := fit_46 evb (by omega)
            have fp : fit ((val t (tk t) * D : Nat) : Int) 47 := by
              rw [Int.natCast_mul]
              exact fit_mul fv (fit_sm (by omega))
            rw [hh] at emx
            refine ze_aload_n dX8_takeEnd_89 rfl ?_
            refine ze_getf dX8_takeEnd_90 fl_X8_98 (ms_o hM1) rfl ?_
            refine ze_iload dX8_takeEnd_93 rfl ?_
            refine ze_i2l dX8_takeEnd_95 (by omega) ?_
            refine ze_callV (As := [ze_l ((D : Nat))]) (rest := []) dX8_takeEnd_96 (E7_of hM1 (o1 := 34) (v := ((D : Nat) : Int)) (by decide) (by omega)) mo7_of ml_X8_132 in_7_of se_7_of (ms_bx hM1 (by decide)).choose_spec rfl rfl rfl rfl rfl ⟨Nat.le_refl _, Nat.le_refl _⟩ rfl (Nat.le_of_ble_eq_true rfl) ?_
            rintro _ w5 ⟨rfl, hM5⟩
            change ze_V G l (ze_rm 4 0 0) M8_takeEnd _ 99 [(0, .ref m), (1, ze_i ((c : Nat))), (2, ze_i ((i : Nat))), (3, ze_i ((s : Nat))), (4, ze_i ((sh : Nat))), (5, ze_i ((a : Nat))), (6, ze_i (bst (mx (hd cnt val (fun t => cg ar c s t * sh) tk) t))), (7, ze_i ((t : Nat))), (8, ze_i ((((i + 1) * 8 + t : Nat)))), (9, ze_i ((D : Nat)))] [] w5 0 0
            have e34 : (va_up bz1 34 ((D : Nat) : Int)) 34 = (D : Nat) := va_up_self _ _ _
            have eo : ∀ o, o ≠ 34 → (va_up bz1 34 ((D : Nat) : Int)) o = bz1 o := fun o g => va_up_ne _ _ g
            generalize va_up bz1 34 ((D : Nat) : Int) = bz2 at *
            refine ze_aload_n dX8_takeEnd_99 rfl ?_
            refine ze_getf dX8_takeEnd_100 fl_X8_83 (ms_o hM5) rfl ?_
            refine ze_aload_n dX8_takeEnd_103 rfl ?_
            refine ze_getf dX8_takeEnd_104 fl_X8_47 (ms_o hM5) rfl ?_
            refine ze_iload dX8_takeEnd_107 rfl ?_
            refine ze_bipush dX8_takeEnd_109 (by decide) ?_
            refine ze_imul dX8_takeEnd_111 ?_
            refine ze_aload_n dX8_takeEnd_112 rfl ?_
            refine ze_getf dX8_takeEnd_113 fl_X8_59 (ms_o hM5) rfl ?_
            refine ze_iload dX8_takeEnd_116 rfl ?_
            refine ze_iald (j := t) dX8_takeEnd_118 (show w5.2 (m + 16) = some (ze_ia G 8 (ar1 16)) from ms_i hM5 16 (by decide)) (by omega) (by omega) (by omega) ?_
            rw [et]
            refine ze_iadd dX8_takeEnd_119 ?_
            refine ze_aald (j := ((i + 1) * 8 + t) * 20 + tk t) (b := (m + (1956 + 2 * (((i + 1) * 8 + t) * 20 + tk t)))) dX8_takeEnd_120 (show w5.2 (m + 12) = some (ze_ra G 4 9600 (fun j => some (m + mro 12 j))) from ms_r hM5 12 (by decide)) rfl (by omega) (by omega) (by omega) rfl ?_
            refine ze_aload_n dX8_takeEnd_121 rfl ?_
            refine ze_getf dX8_takeEnd_122 fl_X8_98 (ms_o hM5) rfl ?_
            have ev2 : bz2 (1956 + 2 * (((i + 1) * 8 + t) * 20 + tk t)) = (val t (tk t) : Nat) := by rw [eo _ (by omega), hf _ (by omega) (by omega) (by omega)]; exact ev
            refine ze_callV (As := [.ref (m + (1956 + 2 * (((i + 1) * 8 + t) * 20 + tk t))), .ref (m + 34)]) (rest := []) dX8_takeEnd_125 (E7_times hM5 (o1 := 24) (o2 := 1956 + 2 * (((i + 1) * 8 + t) * 20 + tk t)) (o3 := 34) (K1 := 46) (K2 := 1) (by decide) (mc_12 (by omega)) (by decide) (by omega) (by decide) (by rw [ev2]; exact fv) (by rw [e34]; exact fit_sm (by omega)) (by decide)) mo7_times ml_X8_136 in_7_times se_7_times (ms_bx hM5 (by decide)).choose_spec rfl rfl rfl rfl rfl ⟨Nat.le_refl _, Nat.le_refl _⟩ rfl (Nat.le_of_ble_eq_true rfl) ?_
            rintro _ w6 ⟨rfl, hM6⟩
            change ze_V G l (ze_rm 4 0 0) M8_takeEnd _ 128 [(0, .ref m), (1, ze_i ((c : Nat))), (2, ze_i ((i : Nat))), (3, ze_i ((s : Nat))), (4, ze_i ((sh : Nat))), (5, ze_i ((a : Nat))), (6, ze_i (bst (mx (hd cnt val (fun t => cg ar c s t * sh) tk) t))), (7, ze_i ((t : Nat))), (8, ze_i ((((i + 1) * 8 + t : Nat)))), (9, ze_i ((D : Nat)))] [] w6 0 0
            have e24 : (va_up bz2 24 (bz2 (1956 + 2 * (((i + 1) * 8 + t) * 20 + tk t)) * bz2 34)) 24 = ((val t (tk t) * D : Nat) : Int) := by rw [va_up_self, ev2, e34]; exact (Int.natCast_mul _ _).symm
            have eo2 : ∀ o, o ≠ 24 → o ≠ 34 → (va_up bz2 24 (bz2 (1956 + 2 * (((i + 1) * 8 + t) * 20 + tk t)) * bz2 34)) o = bz1 o := fun o g g2 => by rw [va_up_ne _ _ g, eo o g2]
            generalize va_up bz2 24 (bz2 (1956 + 2 * (((i + 1) * 8 + t) * 20 + tk t)) * bz2 34) = bz3 at *
            refine ze_iload dX8_takeEnd_128 rfl ?_
            refine ze_if_lt 150 dX8_takeEnd_130 (by decide) (by omega) (fun q7 => ?_) (fun q7 => ?_)
            · have hz : (mx (hd cnt val (fun t => cg ar c s t * sh) tk) t).2 = 0 := by
                rcases Nat.eq_zero_or_pos (mx (hd cnt val (fun t => cg ar c s t * sh) tk) t).2 with h | h
                · exact h
                · unfold bst at q7
                  rw [if_neg (by omega)] at q7
                  omega
              have hgt : (mx (hd cnt val (fun t => cg ar c s t * sh) tk) t).2 < val t (tk t) * D := by omega
              refine ze_iload dX8_takeEnd_150 rfl ?_
              rw [if_pos hgt] at emx
              refine ze_ti (b := bst (mx (hd cnt val (fun t => cg ar c s t * sh) tk) (t + 1))) (by rw [emx]; unfold bst; rw [if_neg (by show ¬ val t (tk t) * D = 0; omega)]) ?_
              refine ze_istore (lv' := [(0, .ref m), (1, ze_i ((c : Nat))), (2, ze_i ((i : Nat))), (3, ze_i ((s : Nat))), (4, ze_i ((sh : Nat))), (5, ze_i ((a : Nat))), (6, ze_i (bst (mx (hd cnt val (fun t => cg ar c s t * sh) tk) (t + 1)))), (7, ze_i ((t : Nat))), (8, ze_i ((((i + 1) * 8 + t : Nat)))), (9, ze_i ((D : Nat)))]) dX8_takeEnd_152 rfl rfl ?_
              refine ze_aload_n dX8_takeEnd_154 rfl ?_
              refine ze_getf dX8_takeEnd_155 fl_X8_47 (ms_o hM6) rfl ?_
              refine ze_iload dX8_takeEnd_158 rfl ?_
              refine ze_aald (j := a) (b := (m + (1956 + 2 * a))) dX8_takeEnd_160 (show w6.2 (m + 12) = some (ze_ra G 4 9600 (fun j => some (m + mro 12 j))) from ms_r hM6 12 (by decide)) rfl (by omega) (by omega) (by omega) rfl ?_
              refine ze_aload_n dX8_takeEnd_161 rfl ?_
              refine ze_getf dX8_takeEnd_162 fl_X8_83 (ms_o hM6) rfl ?_
              refine ze_callV (As := [.ref (m + 24)]) (rest := []) dX8_takeEnd_165 (E7_copy hM6 (o1 := 1956 + 2 * a) (o2 := 24) (mc_12 (by omega)) (by decide) (by omega) (by rw [e24, mv_48 (by omega) (by omega) (by omega)]; exact fit_le fp (by decide))) mo7_copy ml_X8_143 in_7_copy se_7_copy (ms_bx hM6 (mc_12 (by omega))).choose_spec rfl rfl rfl rfl rfl ⟨Nat.le_refl _, Nat.le_refl _⟩ rfl (Nat.le_of_ble_eq_true rfl) ?_
              rintro _ w8 ⟨rfl, hM8⟩
              change ze_V G l (ze_rm 4 0 0) M8_takeEnd _ 168 [(0, .ref m), (1, ze_i ((c : Nat))), (2, ze_i ((i : Nat))), (3, ze_i ((s : Nat))), (4, ze_i ((sh : Nat))), (5, ze_i ((a : Nat))), (6, ze_i (bst (mx (hd cnt val (fun t => cg ar c s t * sh) tk) (t + 1)))), (7, ze_i ((t : Nat))), (8, ze_i ((((i + 1) * 8 + t : Nat)))), (9, ze_i ((D : Nat)))] [] w8 0 0
              exact t168 _ _ hM8 (fun o g1 g2 g3 => by rw [va_up_ne _ _ g3, eo2 o g1 g2]; exact hf o g1 g2 g3) (by rw [emx]; intro _; rw [va_up_self, e24])
            · refine ze_aload_n dX8_takeEnd_133 rfl ?_
              refine ze_getf dX8_takeEnd_134 fl_X8_83 (ms_o hM6) rfl ?_
              refine ze_aload_n dX8_takeEnd_137 rfl ?_
              refine ze_getf dX8_takeEnd_138 fl_X8_47 (ms_o hM6) rfl ?_
              refine ze_iload dX8_takeEnd_141 rfl ?_
              refine ze_aald (j := a) (b := (m + (1956 + 2 * a))) dX8_takeEnd_143 (show w6.2 (m + 12) = some (ze_ra G 4 9600 (fun j => some (m + mro 12 j))) from ms_r hM6 12 (by decide)) rfl (by omega) (by omega) (by omega) rfl ?_
              have hz : (mx (hd cnt val (fun t => cg ar c s t * sh) tk) t).2 ≠ 0 := by
                intro h
                unfold bst at q7
                rw [if_pos h] at q7
                omega
              have hat := hb hz
              refine ze_callV (As := [.ref (m + (1956 + 2 * a))]) (rest := []) dX8_takeEnd_144 (E7_compare hM6 (o1 := 24) (o2 := 1956 + 2 * a) (by decide) (mc_12 (by omega))) mo7_compare ml_X8_178 in_7_compare se_7_compare (ms_bx hM6 (by decide)).choose_spec rfl rfl rfl rfl rfl ⟨Nat.le_refl _, Nat.le_refl _⟩ rfl (Nat.le_of_ble_eq_true rfl) ?_
              rintro _ w' ⟨rc, rfl, hrc, rfl⟩
              rw [e24, eo2 (1956 + 2 * a) (by omega) (by omega), hat] at hrc
              change ze_V G l (ze_rm 4 0 0) M8_takeEnd _ 147 [(0, .ref m), (1, ze_i ((c : Nat))), (2, ze_i ((i : Nat))), (3, ze_i ((s : Nat))), (4, ze_i ((sh : Nat))), (5, ze_i ((a : Nat))), (6, ze_i (bst (mx (hd cnt val (fun t => cg ar c s t * sh) tk) t))), (7, ze_i ((t : Nat))), (8, ze_i ((((i + 1) * 8 + t : Nat)))), (9, ze_i ((D : Nat)))] [ze_i (rc)] w' 0 0
              refine ze_if_le 168 dX8_takeEnd_147 (by decide) (by rw [hrc]; exact cmp3_rng _ _) (fun q9 => ?_) (fun q9 => ?_)
              · have hle := cmp3_le0 (show cmp3 _ _ ≤ 0 by rw [← hrc]; exact q9)
                rw [if_neg (by omega)] at emx
                rw [← emx]
                change ze_V G l (ze_rm 4 0 0) M8_takeEnd _ 168 [(0, .ref m), (1, ze_i ((c : Nat))), (2, ze_i ((i : Nat))), (3, ze_i ((s : Nat))), (4, ze_i ((sh : Nat))), (5, ze_i ((a : Nat))), (6, ze_i (bst (mx (hd cnt val (fun t => cg ar c s t * sh) tk) (t + 1)))), (7, ze_i ((t : Nat))), (8, ze_i ((((i + 1) * 8 + t : Nat)))), (9, ze_i ((D : Nat)))] [] w' 0 0
                exact t168 bz3 _ hM6 (fun o g1 g2 g3 => by rw [eo2 o g1 g2]; exact hf o g1 g2 g3) (by rw [emx]; intro _; rw [eo2 _ (by omega) (by omega)]; exact hat)
              · have hgt := cmp3_gt0 (show 0 < cmp3 _ _ by rw [← hrc]; exact q9)
                refine ze_iload dX8_takeEnd_150 rfl ?_
                rw [if_pos hgt] at emx
                refine ze_ti (b := bst (mx (hd cnt val (fun t => cg ar c s t * sh) tk) (t + 1))) (by rw [emx]; unfold bst; rw [if_neg (by show ¬ val t (tk t) * D = 0; omega)]) ?_
                refine ze_istore (lv' := [(0, .ref m), (1, ze_i ((c : Nat))), (2, ze_i ((i : Nat))), (3, ze_i ((s : Nat))), (4, ze_i ((sh : Nat))), (5, ze_i ((a : Nat))), (6, ze_i (bst (mx (hd cnt val (fun t => cg ar c s t * sh) tk) (t + 1)))), (7, ze_i ((t : Nat))), (8, ze_i ((((i + 1) * 8 + t : Nat)))), (9, ze_i ((D : Nat)))]) dX8_takeEnd_152 rfl rfl ?_
                refine ze_aload_n dX8_takeEnd_154 rfl ?_
                refine ze_getf dX8_takeEnd_155 fl_X8_47 (ms_o hM6) rfl ?_
                refine ze_iload dX8_takeEnd_158 rfl ?_
                refine ze_aald (j := a) (b := (m + (1956 + 2 * a))) dX8_takeEnd_160 (show w'.2 (m + 12) = some (ze_ra G 4 9600 (fun j => some (m + mro 12 j))) from ms_r hM6 12 (by decide)) rfl (by omega) (by omega) (by omega) rfl ?_
                refine ze_aload_n dX8_takeEnd_161 rfl ?_
                refine ze_getf dX8_takeEnd_162 fl_X8_83 (ms_o hM6) rfl ?_
                refine ze_callV (As := [.ref (m + 24)]) (rest := []) dX8_takeEnd_165 (E7_copy hM6 (o1 := 1956 + 2 * a) (o2 := 24) (mc_12 (by omega)) (by decide) (by omega) (by rw [e24, mv_48 (by omega) (by omega) (by omega)]; exact fit_le fp (by decide))) mo7_copy ml_X8_143 in_7_copy se_7_copy (ms_bx hM6 (mc_12 (by omega))).choose_spec rfl rfl rfl rfl rfl ⟨Nat.le_refl _, Nat.le_refl _⟩ rfl (Nat.le_of_ble_eq_true rfl) ?_
                rintro _ w10 ⟨rfl, hM10⟩
                change ze_V G l (ze_rm 4 0 0) M8_takeEnd _ 168 [(0, .ref m), (1, ze_i ((c : Nat))), (2, ze_i ((i : Nat))), (3, ze_i ((s : Nat))), (4, ze_i ((sh : Nat))), (5, ze_i ((a : Nat))), (6, ze_i (bst (mx (hd cnt val (fun t => cg ar c s t * sh) tk) (t + 1)))), (7, ze_i ((t : Nat))), (8, ze_i ((((i + 1) * 8 + t : Nat)))), (9, ze_i ((D : Nat)))] [] w10 0 0
                exact t168 _ _ hM10 (fun o g1 g2 g3 => by rw [va_up_ne _ _ g3, eo2 o g1 g2]; exact hf o g1 g2 g3) (by rw [emx]; intro _; rw [va_up_self, e24])
          · refine ze_goto 168 dX8_takeEnd_86 (by decide) ?_
            have hh : hd cnt val (fun t => cg ar c s t * sh) tk t = 0 := by
              unfold hd
              rw [if_neg (by omega)]
            rw [hh, if_neg (by omega)] at emx
            rw [← emx]
            change ze_V G l (ze_rm 4 0 0) M8_takeEnd _ 168 [(0, .ref m), (1, ze_i ((c : Nat))), (2, ze_i ((i : Nat))), (3, ze_i ((s : Nat))), (4, ze_i ((sh : Nat))), (5, ze_i ((a : Nat))), (6, ze_i (bst (mx (hd cnt val (fun t => cg ar c s t * sh) tk) (t + 1)))), (7, ze_i ((t : Nat))), (8, ze_i ((((i + 1) * 8 + t : Nat)))), (9, ze_i ((D : Nat)))] [] w' 0 0
            exact t168 bz1 _ hM1 hf (by rw [emx]; exact hb)
  change ze_V G l (ze_rm 4 0 0) M8_takeEnd Z 0 [(0, .ref m), (1, ze_i ((c : Nat))), (2, ze_i ((i : Nat))), (3, ze_i ((s : Nat))), (4, ze_i ((sh : Nat)))] [] w 0 0
  refine ze_iload_n dX8_takeEnd_0 rfl ?_
  refine ze_bipush dX8_takeEnd_1 (by decide) ?_
  refine ze_imul dX8_takeEnd_3 ?_
  refine ze_iload_n dX8_takeEnd_4 rfl ?_
  refine ze_iadd dX8_takeEnd_5 ?_
  refine ze_bipush dX8_takeEnd_6 (by decide) ?_
  refine ze_imul dX8_takeEnd_8 ?_
  refine ze_aload_n dX8_takeEnd_9 rfl ?_
  refine ze_getf dX8_takeEnd_10 fl_X8_56 (ms_o hM) rfl ?_
  refine ze_iload_n dX8_takeEnd_13 rfl ?_
  refine ze_bipush dX8_takeEnd_14 (by decide) ?_
  refine ze_imul dX8_takeEnd_16 ?_
  refine ze_iload_n dX8_takeEnd_17 rfl ?_
  refine ze_iadd dX8_takeEnd_18 ?_
  refine ze_iald (j := i * 8 + s) dX8_takeEnd_19 (show w.2 (m + 15) = some (ze_ia G 480 (ar1 15)) from ms_i hM 15 (by decide)) (by omega) (by omega) (by omega) ?_
  rw [hr1]
  refine ze_iadd dX8_takeEnd_20 ?_
  refine ze_ti (b := (a : Nat)) (by omega) ?_
  refine ze_istore (lv' := [(0, .ref m), (1, ze_i ((c : Nat))), (2, ze_i ((i : Nat))), (3, ze_i ((s : Nat))), (4, ze_i ((sh : Nat))), (5, ze_i ((a : Nat)))]) dX8_takeEnd_21 rfl rfl ?_
  refine ze_iconst dX8_takeEnd_23 ?_
  refine ze_ti (b := bst (mx (hd cnt val (fun t => cg ar c s t * sh) tk) 0)) rfl ?_
  refine ze_istore (lv' := [(0, .ref m), (1, ze_i ((c : Nat))), (2, ze_i ((i : Nat))), (3, ze_i ((s : Nat))), (4, ze_i ((sh : Nat))), (5, ze_i ((a : Nat))), (6, ze_i (bst (mx (hd cnt val (fun t => cg ar c s t * sh) tk) 0)))]) dX8_takeEnd_24 rfl rfl ?_
  refine ze_iconst dX8_takeEnd_26 ?_
  refine ze_ti (b := ((0 : Nat) : Nat)) rfl ?_
  refine ze_istore (lv' := [(0, .ref m), (1, ze_i ((c : Nat))), (2, ze_i ((i : Nat))), (3, ze_i ((s : Nat))), (4, ze_i ((sh : Nat))), (5, ze_i ((a : Nat))), (6, ze_i (bst (mx (hd cnt val (fun t => cg ar c s t * sh) tk) 0))), (7, ze_i (((0 : Nat) : Nat)))]) dX8_takeEnd_27 rfl rfl ?_
  exact loop (cn ar c) 0 bz w (by omega) hM (fun o _ _ _ => rfl) (fun h => absurd rfl h)
