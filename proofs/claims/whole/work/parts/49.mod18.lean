/-! the constructors of the reference -/
theorem ze_cs {G : ze_G} {l : Launch} {R : Room} {M : ze_M} {Z : List Frame → Array Value → State → State → Prop} {pc : Nat} {lv : List (Nat × Value)} {st : List Value} {w : ze_W} {cu su cu' su' : Nat} (h1 : cu = cu') (h2 : su = su') (k : ze_V G l R M Z pc lv st w cu' su') : ze_V G l R M Z pc lv st w cu su := by
  subst h1
  subst h2
  exact k
theorem C7_init {G : ze_G} {l : Launch} {w : ze_W} {a n : Nat} (hb : w.2 a = some (ze_ob 7 [.null, ze_i 0, ze_i 0])) (hw : w.1 = a + 1) (hn : n ≤ 100000) : ze_C G l 1 1 n M7_init [.ref a, ze_i (n : Nat)] w (ze_qv (fun w' => w'.1 = a + 2 ∧ w'.2 a = some (ze_ob 7 [.ref (a + 1), ze_i 0, ze_i 0]) ∧ w'.2 (a + 1) = some (ze_ia G n (fun _ => 0)) ∧ ∀ x, x ≠ a → x ≠ a + 1 → w'.2 x = w.2 x)) := by
  refine ze_enter (by decide +kernel) rfl ?_
  change ze_V G l (ze_rm 1 1 n) M7_init _ 0 [(0, .ref a), (1, ze_i (n : Nat))] [] w 0 0
  refine ze_aload_n dX7_init_0 rfl ?_
  refine ze_objI dX7_init_1 ml_X7_1 in_objectInit cd_objectInit rfl rfl ?_
  refine ze_aload_n dX7_init_4 rfl ?_
  refine ze_iload_n dX7_init_5 rfl ?_
  refine ze_newiW (n := n) dX7_init_6 rfl hn (Nat.le_refl _) (Nat.le_of_eq (Nat.zero_add n)) (fun w1 z1 c1 o1 => ?_)
  rw [hw] at z1 c1 o1 ⊢
  have hb1 := (o1 a (by omega)).trans hb
  refine ze_putfW (fs' := [.ref (a + 1), ze_i 0, ze_i 0]) dX7_init_8 fl_X7_7 (Or.inr ⟨rfl, rfl⟩) hb1 rfl rfl (Nat.le_of_ble_eq_true rfl) rfl (fun w2 z2 c2 o2 => ?_)
  refine ze_cs (cu' := 1) (su' := n) rfl (Nat.zero_add n) ?_
  exact ze_return rfl dX7_init_11 ⟨rfl, z2.trans z1, c2, (o2 (a + 1) (by omega)).trans c1, fun x p q => (o2 x p).trans (o1 x q)⟩ rfl (Nat.ble_eq_true_of_le (Nat.le_refl _))
/-- what lies at m + k behind the rows' making -/
def lay (G : ze_G) (m k : Nat) : va_E := if mil k ≠ 0 then ze_ia G (mil k) (fun _ => 0) else if mrl k ≠ 0 then ze_ra G 4 (mrl k) (fun _ => none) else if k % 2 = 0 then ze_ob 7 [.ref (m + k + 1), ze_i 0, ze_i 0] else ze_ia G (mcap (k - 1)) (fun _ => 0)
def pre (G : ze_G) (w0 w : ze_W) (m n : Nat) (fs : List Value) : Prop := w.1 = m + n ∧ w.2 m = some (ze_ob 8 fs) ∧ (∀ k, 0 < k → k < n → w.2 (m + k) = some (lay G m k)) ∧ ∀ x, x < m → w.2 x = w0.2 x
theorem pre_new {G : ze_G} {w0 w w' : ze_W} {m n : Nat} {fs : List Value} {e : va_E} (h : pre G w0 w m n fs) (hn : 0 < n) (z1 : w'.1 = w.1 + 1) (c1 : w'.2 w.1 = some e) (o1 : ∀ x, x ≠ w.1 → w'.2 x = w.2 x) (he : lay G m n = e) : pre G w0 w' m (n + 1) fs := by
  obtain ⟨h1, h2, h3, h4⟩ := h
  rw [h1] at z1 c1 o1
  refine ⟨z1, (o1 m (by omega)).trans h2, fun k k0 kn => ?_, fun x hx => (o1 x (by omega)).trans (h4 x hx)⟩
  by_cases ek : k = n
  · rw [ek, c1, he]
  · rw [o1 _ (by omega)]; exact h3 k k0 (by omega)
theorem pre_put {G : ze_G} {w0 w w' : ze_W} {m n : Nat} {fs fs' : List Value} (h : pre G w0 w m n fs) (z1 : w'.1 = w.1) (c1 : w'.2 m = some (ze_ob 8 fs')) (o1 : ∀ x, x ≠ m → w'.2 x = w.2 x) : pre G w0 w' m n fs' := by
  obtain ⟨h1, h2, h3, h4⟩ := h
  exact ⟨z1.trans h1, c1, fun k k0 kn => (o1 _ (by omega)).trans (h3 k k0 kn), fun x hx => (o1 x (by omega)).trans (h4 x hx)⟩
theorem pre_big {G : ze_G} {w0 w w' : ze_W} {m n L : Nat} {fs : List Value} (h : pre G w0 w m n fs) (hn : 0 < n) (z1 : w'.1 = m + n + 2) (c1 : w'.2 (m + n) = some (ze_ob 7 [.ref (m + n + 1), ze_i 0, ze_i 0])) (c2 : w'.2 (m + n + 1) = some (ze_ia G L (fun _ => 0))) (o1 : ∀ x, x ≠ m + n → x ≠ m + n + 1 → w'.2 x = w.2 x) (e1 : lay G m n = ze_ob 7 [.ref (m + n + 1), ze_i 0, ze_i 0]) (e2 : lay G m (n + 1) = ze_ia G L (fun _ => 0)) : pre G w0 w' m (n + 2) fs := by
  obtain ⟨h1, h2, h3, h4⟩ := h
  refine ⟨z1, (o1 m (by omega) (by omega)).trans h2, fun k k0 kn => ?_, fun x hx => (o1 x (by omega) (by omega)).trans (h4 x hx)⟩
  by_cases ek : k = n
  · rw [ek, c1, e1]
  · by_cases ek2 : k = n + 1
    · rw [ek2, ← Nat.add_assoc, c2, e2]
    · rw [o1 _ (by omega) (by omega)]; exact h3 k k0 (by omega)
/-- the object and its rows stand; the Bigs of the rows up to n -/
def st2 (G : ze_G) (w0 w : ze_W) (m n : Nat) (rf : Nat → Nat → Option Nat) : Prop := w.1 = m + n ∧ w.2 m = some (ze_ob 8 (mfs m 0 0 0)) ∧ (∀ k, mil k ≠ 0 → w.2 (m + k) = some (ze_ia G (mil k) (fun _ => 0))) ∧ (∀ k, mrl k ≠ 0 → w.2 (m + k) = some (ze_ra G 4 (mrl k) (rf k))) ∧ (∀ o, mcap o ≠ 0 → o + 1 < n → bgz G w (m + o) (mcap o) 0) ∧ ∀ x, x < m → w.2 x = w0.2 x
theorem bgz_0 {G : ze_G} {w : ze_W} {a L : Nat} (hL : L < 100000) (c1 : w.2 a = some (ze_ob 7 [.ref (a + 1), ze_i 0, ze_i 0])) (c2 : w.2 (a + 1) = some (ze_ia G L (fun _ => 0))) : bgz G w a L 0 := ⟨fun _ => 0, 0, 0, ⟨c1, c2, Nat.zero_le _, hL, fun _ => (by decide : (0 : Nat) < 4294967296)⟩, Or.inl rfl, rfl, Or.inl ⟨rfl, rfl⟩⟩
theorem mcap_lt (o : Nat) : mcap o < 100000 := by
  unfold mcap
  repeat' split
  all_goals omega
theorem pre_st2 {G : ze_G} {w0 w : ze_W} {m : Nat} (h : pre G w0 w m 36 (mfs m 0 0 0)) : st2 G w0 w m 36 (fun _ _ => none) := by
  obtain ⟨h1, h2, h3, h4⟩ := h
  refine ⟨h1, h2, fun k hk => ?_, fun k hk => ?_, fun o ho hon => ?_, h4⟩
  · have := mil_ne hk
    rw [h3 k (by omega) (by omega)]
    unfold lay
    rw [if_pos hk]
  · have h5 := mrl_ne hk
    rw [h3 k (by omega) (by omega)]
    unfold lay
    rw [if_neg (by intro h6; have := mil_ne h6; omega), if_pos hk]
  · have h5 := mcap_ne ho
    have e1 : lay G m o = ze_ob 7 [.ref (m + o + 1), ze_i 0, ze_i 0] := by
      unfold lay
      rw [if_neg (by intro h6; have := mil_ne h6; omega), if_neg (by intro h6; have := mrl_ne h6; omega), if_pos h5.2]
    have e2 : lay G m (o + 1) = ze_ia G (mcap o) (fun _ => 0) := by
      unfold lay
      rw [if_neg (by intro h6; have := mil_ne h6; omega), if_neg (by intro h6; have := mrl_ne h6; omega), if_neg (by omega)]
      rfl
    exact bgz_0 (mcap_lt o) (by rw [h3 o (by omega) (by omega), e1]) (by rw [Nat.add_assoc, h3 (o + 1) (by omega) (by omega), e2])
theorem st2_big {G : ze_G} {w0 w w' : ze_W} {m n L : Nat} {rf : Nat → Nat → Option Nat} (h : st2 G w0 w m n rf) (hn : 36 ≤ n ∧ n % 2 = 0) (hL : mcap n = L) (z1 : w'.1 = m + n + 2) (c1 : w'.2 (m + n) = some (ze_ob 7 [.ref (m + n + 1), ze_i 0, ze_i 0])) (c2 : w'.2 (m + n + 1) = some (ze_ia G L (fun _ => 0))) (o1 : ∀ x, x ≠ m + n → x ≠ m + n + 1 → w'.2 x = w.2 x) : st2 G w0 w' m (n + 2) rf := by
  obtain ⟨h1, h2, h3, h4, h5, h6⟩ := h
  refine ⟨z1, (o1 m (by omega) (by omega)).trans h2, fun k hk => ?_, fun k hk => ?_, fun o ho hon => ?_, fun x hx => (o1 x (by omega) (by omega)).trans (h6 x hx)⟩
  · have := mil_ne hk
    exact (o1 _ (by omega) (by omega)).trans (h3 k hk)
  · have := mrl_ne hk
    exact (o1 _ (by omega) (by omega)).trans (h4 k hk)
  · have h7 := mcap_ne ho
    by_cases eo : o = n
    · rw [eo]
      exact bgz_0 (mcap_lt n) c1 (by rw [hL]; exact c2)
    · exact bgz_sm (h5 o ho (by omega)) (o1 _ (by omega) (by omega)) (o1 _ (by omega) (by omega))
theorem st2_ra {G : ze_G} {w0 w w' : ze_W} {m n k : Nat} {f : Nat → Option Nat} {rf : Nat → Nat → Option Nat} (h : st2 G w0 w m n rf) (hk : mrl k ≠ 0) (z1 : w'.1 = w.1) (c1 : w'.2 (m + k) = some (ze_ra G 4 (mrl k) f)) (o1 : ∀ x, x ≠ m + k → w'.2 x = w.2 x) : st2 G w0 w' m n (va_up rf k f) := by
  obtain ⟨h1, h2, h3, h4, h5, h6⟩ := h
  have hk2 := mrl_ne hk
  refine ⟨z1.trans h1, (o1 m (by omega)).trans h2, fun q hq => ?_, fun q hq => ?_, fun o ho hon => ?_, fun x hx => (o1 x (by omega)).trans (h6 x hx)⟩
  · have := mil_ne hq
    exact (o1 _ (by omega)).trans (h3 q hq)
  · by_cases e : q = k
    · rw [e, va_up_self]; exact c1
    · rw [va_up_ne _ _ e]; exact (o1 _ (by omega)).trans (h4 q hq)
  · have h7 := mcap_ne ho
    exact bgz_sm (h5 o ho hon) (o1 _ (by omega)) (o1 _ (by omega))
theorem st2_end {G : ze_G} {w0 w : ze_W} {m : Nat} (h : st2 G w0 w m 22276 (fun k j => some (m + mro k j))) : mdl G w m 0 0 0 (fun _ _ => 0) (fun _ => 0) := ⟨h.2.1, h.2.2.1, h.2.2.2.1, fun o ho => h.2.2.2.2.1 o ho (by have := mcap_ne ho; omega)⟩
theorem C8_init {G : ze_G} {l : Launch} {w : ze_W} {m : Nat} (hb : w.2 m = some (ze_ob 8 [.null, .null, .null, .null, .null, .null, ze_i 0, .null, ze_i 0, .null, .null, .null, .null, .null, .null, .null, .null, .null, ze_i 0, .null, .null, .null, .null, .null, .null, .null, .null, .null, .null, .null, .null, ze_i 0])) (hw : w.1 = m + 1) : ze_C G l 2 22275 702567 M8_init [.ref m] w (ze_qv (fun w' => (∀ x, x < m → w'.2 x = w.2 x) ∧ w'.1 = m + 22276 ∧ mdl G w' m 0 0 0 (fun _ _ => 0) (fun _ => 0))) := by
  refine ze_enter (by decide +kernel) rfl ?_
  generalize hQ : (ze_Q G (ze_qv (fun w' => (∀ x, x < m → w'.2 x = w.2 x) ∧ w'.1 = m + 22276 ∧ mdl G w' m 0 0 0 (fun _ _ => 0) (fun _ => 0))) 22275 702567) = Z
  have p0 : pre G w w m 1 [.null, .null, .null, .null, .null, .null, ze_i 0, .null, ze_i 0, .null, .null, .null, .null, .null, .null, .null, .null, .null, ze_i 0, .null, .null, .null, .null, .null, .null, .null, .null, .null, .null, .null, .null, ze_i 0] := ⟨hw, hb, fun k k0 k1 => by omega, fun _ _ => rfl⟩
  have l5 : ∀ (d t : Nat) (rf : Nat → Nat → Option Nat) (w1 : ze_W), t + d = 16 → st2 G w w1 m (22244 + 2 * t) rf → (∀ j, j < 480 → rf 10 j = some (m + mro 10 j)) → (∀ j, j < 480 → rf 11 j = some (m + mro 11 j)) → (∀ j, j < 9600 → rf 12 j = some (m + mro 12 j)) → (∀ j, j < 288 → rf 18 j = some (m + mro 18 j)) → (∀ j, j < 256 → rf 19 j = some (m + mro 19 j)) → (∀ j, j < t → rf 23 j = some (m + mro 23 j)) → ze_V G l (ze_rm 2 22275 702567) M8_init Z 422 [(0, .ref m), (1, ze_i (t : Nat))] [] w1 (22243 + 2 * t) (695799 + 423 * t) := by
    intro d
    induction d with
    | zero =>
      intro t rf w1 ht hs h10 h11 h12 h18 h19 h23
      have htn : t = 16 := by omega
      subst htn
      refine ze_iload_n dX8_init_422 rfl ?_
      refine ze_bipush dX8_init_423 (by decide) ?_
      refine ze_icmp_ge 450 dX8_init_425 (by decide) (by omega) (by omega) (fun q => ?_) (fun q => ?_)
      · refine ze_chg (f' := fun j => some (m + mro 10 j)) (show w1.2 (m + 10) = some (ze_ra G 4 480 (rf 10)) from hs.2.2.2.1 10 (by decide)) (fun j hj => h10 j hj) (fun v0 zv0 cv0 ov0 => ?_)
        have sv0 := st2_ra (k := 10) hs (by decide) zv0 cv0 ov0
        refine ze_chg (f' := fun j => some (m + mro 11 j)) (show v0.2 (m + 11) = some (ze_ra G 4 480 ((va_up rf 10 (fun j => some (m + mro 10 j))) 11)) from sv0.2.2.2.1 11 (by decide)) (fun j hj => (by rw [va_up_ne _ _ (by decide)]; exact h11 j hj)) (fun v1 zv1 cv1 ov1 => ?_)
        have sv1 := st2_ra (k := 11) sv0 (by decide) zv1 cv1 ov1
        refine ze_chg (f' := fun j => some (m + mro 12 j)) (show v1.2 (m + 12) = some (ze_ra G 4 9600 ((va_up (va_up rf 10 (fun j => some (m + mro 10 j))) 11 (fun j => some (m + mro 11 j))) 12)) from sv1.2.2.2.1 12 (by decide)) (fun j hj => (by rw [va_up_ne _ _ (by decide), va_up_ne _ _ (by decide)]; exact h12 j hj)) (fun v2 zv2 cv2 ov2 => ?_)
        have sv2 := st2_ra (k := 12) sv1 (by decide) zv2 cv2 ov2
        refine ze_chg (f' := fun j => some (m + mro 18 j)) (show v2.2 (m + 18) = some (ze_ra G 4 288 ((va_up (va_up (va_up rf 10 (fun j => some (m + mro 10 j))) 11 (fun j => some (m + mro 11 j))) 12 (fun j => some (m + mro 12 j))) 18)) from sv2.2.2.2.1 18 (by decide)) (fun j hj => (by rw [va_up_ne _ _ (by decide), va_up_ne _ _ (by decide), va_up_ne _ _ (by decide)]; exact h18 j hj)) (fun v3 zv3 cv3 ov3 => ?_)
        have sv3 := st2_ra (k := 18) sv2 (by decide) zv3 cv3 ov3
        refine ze_chg (f' := fun j => some (m + mro 19 j)) (show v3.2 (m + 19) = some (ze_ra G 4 256 ((va_up (va_up (va_up (va_up rf 10 (fun j => some (m + mro 10 j))) 11 (fun j => some (m + mro 11 j))) 12 (fun j => some (m + mro 12 j))) 18 (fun j => some (m + mro 18 j))) 19)) from sv3.2.2.2.1 19 (by decide)) (fun j hj => (by rw [va_up_ne _ _ (by decide), va_up_ne _ _ (by decide), va_up_ne _ _ (by decide), va_up_ne _ _ (by decide)]; exact h19 j hj)) (fun v4 zv4 cv4 ov4 => ?_)
        have sv4 := st2_ra (k := 19) sv3 (by decide) zv4 cv4 ov4
        refine ze_chg (f' := fun j => some (m + mro 23 j)) (show v4.2 (m + 23) = some (ze_ra G 4 16 ((va_up (va_up (va_up (va_up (va_up rf 10 (fun j => some (m + mro 10 j))) 11 (fun j => some (m + mro 11 j))) 12 (fun j => some (m + mro 12 j))) 18 (fun j => some (m + mro 18 j))) 19 (fun j => some (m + mro 19 j))) 23)) from sv4.2.2.2.1 23 (by decide)) (fun j hj => (by rw [va_up_ne _ _ (by decide), va_up_ne _ _ (by decide), va_up_ne _ _ (by decide), va_up_ne _ _ (by decide), va_up_ne _ _ (by decide)]; exact h23 j hj)) (fun v5 zv5 cv5 ov5 => ?_)
        have sv5 := st2_ra (k := 23) sv4 (by decide) zv5 cv5 ov5
        rw [← hQ]
        refine ze_cs (cu' := 22275) (su' := 702567) rfl rfl ?_
        refine ze_return rfl dX8_init_450 ⟨rfl, sv5.2.2.2.2.2, sv5.1, sv5.2.1, sv5.2.2.1, fun k hk => ?_, fun o ho => sv5.2.2.2.2.1 o ho (by have := mcap_ne ho; omega)⟩ rfl rfl
        rw [sv5.2.2.2.1 k hk]
        have hkk := mrl_ne hk
        have hk6 : k = 10 ∨ k = 11 ∨ k = 12 ∨ k = 18 ∨ k = 19 ∨ k = 23 := by omega
        rcases hk6 with rfl | rfl | rfl | rfl | rfl | rfl <;> rfl
      · omega
    | succ d ih =>
      intro t rf w1 ht hs h10 h11 h12 h18 h19 h23
      refine ze_iload_n dX8_init_422 rfl ?_
      refine ze_bipush dX8_init_423 (by decide) ?_
      refine ze_icmp_ge 450 dX8_init_425 (by decide) (by omega) (by omega) (fun q => ?_) (fun q => ?_)
      · omega
      · refine ze_aload_n dX8_init_428 rfl ?_
        refine ze_getf dX8_init_429 fl_X8_80 hs.2.1 rfl ?_
        refine ze_iload_n dX8_init_432 rfl ?_
        refine ze_nX7 dX8_init_433 cl_X8_31 (show _ ≤ 22275 by omega) (show _ ≤ 702567 by omega) (fun x1 z1 c1 o1 => ?_)
        rw [hs.1] at z1 c1 o1 ⊢
        refine ze_dup dX8_init_436 rfl ?_
        refine ze_sipush dX8_init_437 (by decide) ?_
        refine ze_callI (As := [ze_i ((420 : Nat) : Int)]) (rest := [.ref (m + (22244 + 2 * t)), ze_i (t : Nat), .ref (m + 23)]) dX8_init_440 (C7_init (n := 420) c1 z1 (by decide)) mo7_init rfl rfl ml_X8_33 in_7_init rfl rfl rfl ⟨show _ ≤ 22275 by omega, show _ ≤ 702567 by omega⟩ rfl (Nat.le_of_ble_eq_true rfl) ?_
        rintro _ x2 ⟨rfl, z2, c2, d2, o2⟩
        have s2 := st2_big (L := 420) hs (by omega) (mv_420 (by omega) (by omega) (by omega)) z2 c2 d2 (fun x h1 h2 => (o2 x h1 h2).trans (o1 x h1))
        refine ze_cs (cu' := 22243 + 2 * t + 2) (su' := 695799 + 423 * t + 423) (by omega) (by omega) ?_
        change ze_V G l (ze_rm 2 22275 702567) M8_init _ 443 [(0, .ref m), (1, ze_i (t : Nat))] [.ref (m + (22244 + 2 * t)), ze_i (t : Nat), .ref (m + 23)] x2 (22243 + 2 * t + 2) (695799 + 423 * t + 423)
        refine ze_aastW (j := t) (f' := va_up (rf 23) t (some (m + (22244 + 2 * t)))) (r := (RX7, TX7, 3)) (ci := 7) dX8_init_443 (show x2.2 (m + 23) = some (ze_ra G 4 16 (rf 23)) from s2.2.2.2.1 23 (by decide)) rfl rfl c2 rfl (by omega) (by decide) rfl (fun x3 z3 c3 o3 => ?_)
        have s3 := st2_ra (k := 23) s2 (by decide) z3 c3 o3
        refine ze_iinc (b := ((t + 1 : Nat))) (lv' := [(0, .ref m), (1, ze_i ((t + 1 : Nat)))]) dX8_init_444 rfl rfl (by omega) rfl ?_
        refine ze_goto 422 dX8_init_447 (by decide) ?_
        refine ze_cs (cu' := 22243 + 2 * (t + 1)) (su' := 695799 + 423 * (t + 1)) (by omega) (by omega) ?_
        exact ih (t + 1) _ _ (by omega) (by have := s3; rw [show 22244 + 2 * t + 2 = 22244 + 2 * (t + 1) by omega] at this; exact this) (fun j hj => by rw [va_up_ne _ _ (by decide)]; exact h10 j hj) (fun j hj => by rw [va_up_ne _ _ (by decide)]; exact h11 j hj) (fun j hj => by rw [va_up_ne _ _ (by decide)]; exact h12 j hj) (fun j hj => by rw [va_up_ne _ _ (by decide)]; exact h18 j hj) (fun j hj => by rw [va_up_ne _ _ (by decide)]; exact h19 j hj) (fun j hj => by
          rw [va_up_self]
          by_cases e : j = t
          · rw [e, va_up_self]
            exact congrArg some (by unfold mro; rw [if_neg (by decide), if_neg (by decide), if_neg (by decide), if_neg (by decide), if_neg (by decide)] <;> omega)
          · rw [va_up_ne _ _ e]
            exact h23 j (by omega))
  have l4 : ∀ (d t : Nat) (rf : Nat → Nat → Option Nat) (w1 : ze_W), t + d = 256 → st2 G w w1 m (21732 + 2 * t) rf → (∀ j, j < 480 → rf 10 j = some (m + mro 10 j)) → (∀ j, j < 480 → rf 11 j = some (m + mro 11 j)) → (∀ j, j < 9600 → rf 12 j = some (m + mro 12 j)) → (∀ j, j < 288 → rf 18 j = some (m + mro 18 j)) → (∀ j, j < t → rf 19 j = some (m + mro 19 j)) → ze_V G l (ze_rm 2 22275 702567) M8_init Z 391 [(0, .ref m), (1, ze_i (t : Nat))] [] w1 (21731 + 2 * t) (587511 + 423 * t) := by
    intro d
    induction d with
    | zero =>
      intro t rf w1 ht hs h10 h11 h12 h18 h19
      have htn : t = 256 := by omega
      subst htn
      refine ze_iload_n dX8_init_391 rfl ?_
      refine ze_sipush dX8_init_392 (by decide) ?_
      refine ze_icmp_ge 420 dX8_init_395 (by decide) (by omega) (by omega) (fun q => ?_) (fun q => ?_)
      · refine ze_iconst dX8_init_420 ?_
        refine ze_ti (b := ((0 : Nat) : Nat)) rfl ?_
        refine ze_istore_n (lv' := [(0, .ref m), (1, ze_i ((0 : Nat) : Nat))]) dX8_init_421 rfl rfl ?_
        refine ze_cs (cu' := 22243 + 2 * 0) (su' := 695799 + 423 * 0) rfl rfl ?_
        exact l5 16 0 rf w1 rfl hs h10 h11 h12 h18 h19 (fun j hj => absurd hj (Nat.not_lt_zero _))
      · omega
    | succ d ih =>
      intro t rf w1 ht hs h10 h11 h12 h18 h19
      refine ze_iload_n dX8_init_391 rfl ?_
      refine ze_sipush dX8_init_392 (by decide) ?_
      refine ze_icmp_ge 420 dX8_init_395 (by decide) (by omega) (by omega) (fun q => ?_) (fun q => ?_)
      · omega
      · refine ze_aload_n dX8_init_398 rfl ?_
        refine ze_getf dX8_init_399 fl_X8_68 hs.2.1 rfl ?_
        refine ze_iload_n dX8_init_402 rfl ?_
        refine ze_nX7 dX8_init_403 cl_X8_31 (show _ ≤ 22275 by omega) (show _ ≤ 702567 by omega) (fun x1 z1 c1 o1 => ?_)
        rw [hs.1] at z1 c1 o1 ⊢
        refine ze_dup dX8_init_406 rfl ?_
        refine ze_sipush dX8_init_407 (by decide) ?_
        refine ze_callI (As := [ze_i ((420 : Nat) : Int)]) (rest := [.ref (m + (21732 + 2 * t)), ze_i (t : Nat), .ref (m + 19)]) dX8_init_410 (C7_init (n := 420) c1 z1 (by decide)) mo7_init rfl rfl ml_X8_33 in_7_init rfl rfl rfl ⟨show _ ≤ 22275 by omega, show _ ≤ 702567 by omega⟩ rfl (Nat.le_of_ble_eq_true rfl) ?_
        rintro _ x2 ⟨rfl, z2, c2, d2, o2⟩
        have s2 := st2_big (L := 420) hs (by omega) (mv_420 (by omega) (by omega) (by omega)) z2 c2 d2 (fun x h1 h2 => (o2 x h1 h2).trans (o1 x h1))
        refine ze_cs (cu' := 21731 + 2 * t + 2) (su' := 587511 + 423 * t + 423) (by omega) (by omega) ?_
        change ze_V G l (ze_rm 2 22275 702567) M8_init _ 413 [(0, .ref m), (1, ze_i (t : Nat))] [.ref (m + (21732 + 2 * t)), ze_i (t : Nat), .ref (m + 19)] x2 (21731 + 2 * t + 2) (587511 + 423 * t + 423)
        refine ze_aastW (j := t) (f' := va_up (rf 19) t (some (m + (21732 + 2 * t)))) (r := (RX7, TX7, 3)) (ci := 7) dX8_init_413 (show x2.2 (m + 19) = some (ze_ra G 4 256 (rf 19)) from s2.2.2.2.1 19 (by decide)) rfl rfl c2 rfl (by omega) (by decide) rfl (fun x3 z3 c3 o3 => ?_)
        have s3 := st2_ra (k := 19) s2 (by decide) z3 c3 o3
        refine ze_iinc (b := ((t + 1 : Nat))) (lv' := [(0, .ref m), (1, ze_i ((t + 1 : Nat)))]) dX8_init_414 rfl rfl (by omega) rfl ?_
        refine ze_goto 391 dX8_init_417 (by decide) ?_
        refine ze_cs (cu' := 21731 + 2 * (t + 1)) (su' := 587511 + 423 * (t + 1)) (by omega) (by omega) ?_
        exact ih (t + 1) _ _ (by omega) (by have := s3; rw [show 21732 + 2 * t + 2 = 21732 + 2 * (t + 1) by omega] at this; exact this) (fun j hj => by rw [va_up_ne _ _ (by decide)]; exact h10 j hj) (fun j hj => by rw [va_up_ne _ _ (by decide)]; exact h11 j hj) (fun j hj => by rw [va_up_ne _ _ (by decide)]; exact h12 j hj) (fun j hj => by rw [va_up_ne _ _ (by decide)]; exact h18 j hj) (fun j hj => by
          rw [va_up_self]
          by_cases e : j = t
          · rw [e, va_up_self]
            exact congrArg some (by unfold mro; rw [if_neg (by decide), if_neg (by decide), if_neg (by decide), if_neg (by decide), if_pos rfl] <;> omega)
          · rw [va_up_ne _ _ e]
            exact h19 j (by omega))
  have l3 : ∀ (d t : Nat) (rf : Nat → Nat → Option Nat) (w1 : ze_W), t + d = 288 → st2 G w w1 m (21156 + 2 * t) rf → (∀ j, j < 480 → rf 10 j = some (m + mro 10 j)) → (∀ j, j < 480 → rf 11 j = some (m + mro 11 j)) → (∀ j, j < 9600 → rf 12 j = some (m + mro 12 j)) → (∀ j, j < t → rf 18 j = some (m + mro 18 j)) → ze_V G l (ze_rm 2 22275 702567) M8_init Z 361 [(0, .ref m), (1, ze_i (t : Nat))] [] w1 (21155 + 2 * t) (572823 + 51 * t) := by
    intro d
    induction d with
    | zero =>
      intro t rf w1 ht hs h10 h11 h12 h18
      have htn : t = 288 := by omega
      subst htn
      refine ze_iload_n dX8_init_361 rfl ?_
      refine ze_sipush dX8_init_362 (by decide) ?_
      refine ze_icmp_ge 389 dX8_init_365 (by decide) (by omega) (by omega) (fun q => ?_) (fun q => ?_)
      · refine ze_iconst dX8_init_389 ?_
        refine ze_ti (b := ((0 : Nat) : Nat)) rfl ?_
        refine ze_istore_n (lv' := [(0, .ref m), (1, ze_i ((0 : Nat) : Nat))]) dX8_init_390 rfl rfl ?_
        refine ze_cs (cu' := 21731 + 2 * 0) (su' := 587511 + 423 * 0) rfl rfl ?_
        exact l4 256 0 rf w1 rfl hs h10 h11 h12 h18 (fun j hj => absurd hj (Nat.not_lt_zero _))
      · omega
    | succ d ih =>
      intro t rf w1 ht hs h10 h11 h12 h18
      refine ze_iload_n dX8_init_361 rfl ?_
      refine ze_sipush dX8_init_362 (by decide) ?_
      refine ze_icmp_ge 389 dX8_init_365 (by decide) (by omega) (by omega) (fun q => ?_) (fun q => ?_)
      · omega
      · refine ze_aload_n dX8_init_368 rfl ?_
        refine ze_getf dX8_init_369 fl_X8_65 hs.2.1 rfl ?_
        refine ze_iload_n dX8_init_372 rfl ?_
        refine ze_nX7 dX8_init_373 cl_X8_31 (show _ ≤ 22275 by omega) (show _ ≤ 702567 by omega) (fun x1 z1 c1 o1 => ?_)
        rw [hs.1] at z1 c1 o1 ⊢
        refine ze_dup dX8_init_376 rfl ?_
        refine ze_bipush dX8_init_377 (by decide) ?_
        refine ze_callI (As := [ze_i ((48 : Nat) : Int)]) (rest := [.ref (m + (21156 + 2 * t)), ze_i (t : Nat), .ref (m + 18)]) dX8_init_379 (C7_init (n := 48) c1 z1 (by decide)) mo7_init rfl rfl ml_X8_33 in_7_init rfl rfl rfl ⟨show _ ≤ 22275 by omega, show _ ≤ 702567 by omega⟩ rfl (Nat.le_of_ble_eq_true rfl) ?_
        rintro _ x2 ⟨rfl, z2, c2, d2, o2⟩
        have s2 := st2_big (L := 48) hs (by omega) (mv_48 (by omega) (by omega) (by omega)) z2 c2 d2 (fun x h1 h2 => (o2 x h1 h2).trans (o1 x h1))
        refine ze_cs (cu' := 21155 + 2 * t + 2) (su' := 572823 + 51 * t + 51) (by omega) (by omega) ?_
        change ze_V G l (ze_rm 2 22275 702567) M8_init _ 382 [(0, .ref m), (1, ze_i (t : Nat))] [.ref (m + (21156 + 2 * t)), ze_i (t : Nat), .ref (m + 18)] x2 (21155 + 2 * t + 2) (572823 + 51 * t + 51)
        refine ze_aastW (j := t) (f' := va_up (rf 18) t (some (m + (21156 + 2 * t)))) (r := (RX7, TX7, 3)) (ci := 7) dX8_init_382 (show x2.2 (m + 18) = some (ze_ra G 4 288 (rf 18)) from s2.2.2.2.1 18 (by decide)) rfl rfl c2 rfl (by omega) (by decide) rfl (fun x3 z3 c3 o3 => ?_)
        have s3 := st2_ra (k := 18) s2 (by decide) z3 c3 o3
        refine ze_iinc (b := ((t + 1 : Nat))) (lv' := [(0, .ref m), (1, ze_i ((t + 1 : Nat)))]) dX8_init_383 rfl rfl (by omega) rfl ?_
        refine ze_goto 361 dX8_init_386 (by decide) ?_
        refine ze_cs (cu' := 21155 + 2 * (t + 1)) (su' := 572823 + 51 * (t + 1)) (by omega) (by omega) ?_
        exact ih (t + 1) _ _ (by omega) (by have := s3; rw [show 21156 + 2 * t + 2 = 21156 + 2 * (t + 1) by omega] at this; exact this) (fun j hj => by rw [va_up_ne _ _ (by decide)]; exact h10 j hj) (fun j hj => by rw [va_up_ne _ _ (by decide)]; exact h11 j hj) (fun j hj => by rw [va_up_ne _ _ (by decide)]; exact h12 j hj) (fun j hj => by
          rw [va_up_self]
          by_cases e : j = t
          · rw [e, va_up_self]
            exact congrArg some (by unfold mro; rw [if_neg (by decide), if_neg (by decide), if_neg (by decide), if_pos rfl] <;> omega)
          · rw [va_up_ne _ _ e]
            exact h18 j (by omega))
  have l2 : ∀ (d t : Nat) (rf : Nat → Nat → Option Nat) (w1 : ze_W), t + d = 9600 → st2 G w w1 m (1956 + 2 * t) rf → (∀ j, j < 480 → rf 10 j = some (m + mro 10 j)) → (∀ j, j < 480 → rf 11 j = some (m + mro 11 j)) → (∀ j, j < t → rf 12 j = some (m + mro 12 j)) → ze_V G l (ze_rm 2 22275 702567) M8_init Z 331 [(0, .ref m), (1, ze_i (t : Nat))] [] w1 (1955 + 2 * t) (83223 + 51 * t) := by
    intro d
    induction d with
    | zero =>
      intro t rf w1 ht hs h10 h11 h12
      have htn : t = 9600 := by omega
      subst htn
      refine ze_iload_n dX8_init_331 rfl ?_
      refine ze_sipush dX8_init_332 (by decide) ?_
      refine ze_icmp_ge 359 dX8_init_335 (by decide) (by omega) (by omega) (fun q => ?_) (fun q => ?_)
      · refine ze_iconst dX8_init_359 ?_
        refine ze_ti (b := ((0 : Nat) : Nat)) rfl ?_
        refine ze_istore_n (lv' := [(0, .ref m), (1, ze_i ((0 : Nat) : Nat))]) dX8_init_360 rfl rfl ?_
        refine ze_cs (cu' := 21155 + 2 * 0) (su' := 572823 + 51 * 0) rfl rfl ?_
        exact l3 288 0 rf w1 rfl hs h10 h11 h12 (fun j hj => absurd hj (Nat.not_lt_zero _))
      · omega
    | succ d ih =>
      intro t rf w1 ht hs h10 h11 h12
      refine ze_iload_n dX8_init_331 rfl ?_
      refine ze_sipush dX8_init_332 (by decide) ?_
      refine ze_icmp_ge 359 dX8_init_335 (by decide) (by omega) (by omega) (fun q => ?_) (fun q => ?_)
      · omega
      · refine ze_aload_n dX8_init_338 rfl ?_
        refine ze_getf dX8_init_339 fl_X8_47 hs.2.1 rfl ?_
        refine ze_iload_n dX8_init_342 rfl ?_
        refine ze_nX7 dX8_init_343 cl_X8_31 (show _ ≤ 22275 by omega) (show _ ≤ 702567 by omega) (fun x1 z1 c1 o1 => ?_)
        rw [hs.1] at z1 c1 o1 ⊢
        refine ze_dup dX8_init_346 rfl ?_
        refine ze_bipush dX8_init_347 (by decide) ?_
        refine ze_callI (As := [ze_i ((48 : Nat) : Int)]) (rest := [.ref (m + (1956 + 2 * t)), ze_i (t : Nat), .ref (m + 12)]) dX8_init_349 (C7_init (n := 48) c1 z1 (by decide)) mo7_init rfl rfl ml_X8_33 in_7_init rfl rfl rfl ⟨show _ ≤ 22275 by omega, show _ ≤ 702567 by omega⟩ rfl (Nat.le_of_ble_eq_true rfl) ?_
        rintro _ x2 ⟨rfl, z2, c2, d2, o2⟩
        have s2 := st2_big (L := 48) hs (by omega) (mv_48 (by omega) (by omega) (by omega)) z2 c2 d2 (fun x h1 h2 => (o2 x h1 h2).trans (o1 x h1))
        refine ze_cs (cu' := 1955 + 2 * t + 2) (su' := 83223 + 51 * t + 51) (by omega) (by omega) ?_
        change ze_V G l (ze_rm 2 22275 702567) M8_init _ 352 [(0, .ref m), (1, ze_i (t : Nat))] [.ref (m + (1956 + 2 * t)), ze_i (t : Nat), .ref (m + 12)] x2 (1955 + 2 * t + 2) (83223 + 51 * t + 51)
        refine ze_aastW (j := t) (f' := va_up (rf 12) t (some (m + (1956 + 2 * t)))) (r := (RX7, TX7, 3)) (ci := 7) dX8_init_352 (show x2.2 (m + 12) = some (ze_ra G 4 9600 (rf 12)) from s2.2.2.2.1 12 (by decide)) rfl rfl c2 rfl (by omega) (by decide) rfl (fun x3 z3 c3 o3 => ?_)
        have s3 := st2_ra (k := 12) s2 (by decide) z3 c3 o3
        refine ze_iinc (b := ((t + 1 : Nat))) (lv' := [(0, .ref m), (1, ze_i ((t + 1 : Nat)))]) dX8_init_353 rfl rfl (by omega) rfl ?_
        refine ze_goto 331 dX8_init_356 (by decide) ?_
        refine ze_cs (cu' := 1955 + 2 * (t + 1)) (su' := 83223 + 51 * (t + 1)) (by omega) (by omega) ?_
        exact ih (t + 1) _ _ (by omega) (by have := s3; rw [show 1956 + 2 * t + 2 = 1956 + 2 * (t + 1) by omega] at this; exact this) (fun j hj => by rw [va_up_ne _ _ (by decide)]; exact h10 j hj) (fun j hj => by rw [va_up_ne _ _ (by decide)]; exact h11 j hj) (fun j hj => by
          rw [va_up_self]
          by_cases e : j = t
          · rw [e, va_up_self]
            exact congrArg some (by unfold mro; rw [if_neg (by decide), if_neg (by decide), if_pos rfl] <;> omega)
          · rw [va_up_ne _ _ e]
            exact h12 j (by omega))
  have l1 : ∀ (d t : Nat) (rf : Nat → Nat → Option Nat) (w1 : ze_W), t + d = 480 → st2 G w w1 m (36 + 4 * t) rf → (∀ j, j < t → rf 10 j = some (m + mro 10 j)) → (∀ j, j < t → rf 11 j = some (m + mro 11 j)) → ze_V G l (ze_rm 2 22275 702567) M8_init Z 286 [(0, .ref m), (1, ze_i (t : Nat))] [] w1 (35 + 4 * t) (34263 + 102 * t) := by
    intro d
    induction d with
    | zero =>
      intro t rf w1 ht hs h10 h11
      have htn : t = 480 := by omega
      subst htn
      refine ze_iload_n dX8_init_286 rfl ?_
      refine ze_sipush dX8_init_287 (by decide) ?_
      refine ze_icmp_ge 329 dX8_init_290 (by decide) (by omega) (by omega) (fun q => ?_) (fun q => ?_)
      · refine ze_iconst dX8_init_329 ?_
        refine ze_ti (b := ((0 : Nat) : Nat)) rfl ?_
        refine ze_istore_n (lv' := [(0, .ref m), (1, ze_i ((0 : Nat) : Nat))]) dX8_init_330 rfl rfl ?_
        refine ze_cs (cu' := 1955 + 2 * 0) (su' := 83223 + 51 * 0) rfl rfl ?_
        exact l2 9600 0 rf w1 rfl hs h10 h11 (fun j hj => absurd hj (Nat.not_lt_zero _))
      · omega
    | succ d ih =>
      intro t rf w1 ht hs h10 h11
      refine ze_iload_n dX8_init_286 rfl ?_
      refine ze_sipush dX8_init_287 (by decide) ?_
      refine ze_icmp_ge 329 dX8_init_290 (by decide) (by omega) (by omega) (fun q => ?_) (fun q => ?_)
      · omega
      · refine ze_aload_n dX8_init_293 rfl ?_
        refine ze_getf dX8_init_294 fl_X8_40 hs.2.1 rfl ?_
        refine ze_iload_n dX8_init_297 rfl ?_
        refine ze_nX7 dX8_init_298 cl_X8_31 (show _ ≤ 22275 by omega) (show _ ≤ 702567 by omega) (fun x1 z1 c1 o1 => ?_)
        rw [hs.1] at z1 c1 o1 ⊢
        refine ze_dup dX8_init_301 rfl ?_
        refine ze_bipush dX8_init_302 (by decide) ?_
        refine ze_callI (As := [ze_i ((48 : Nat) : Int)]) (rest := [.ref (m + (36 + 4 * t)), ze_i (t : Nat), .ref (m + 10)]) dX8_init_304 (C7_init (n := 48) c1 z1 (by decide)) mo7_init rfl rfl ml_X8_33 in_7_init rfl rfl rfl ⟨show _ ≤ 22275 by omega, show _ ≤ 702567 by omega⟩ rfl (Nat.le_of_ble_eq_true rfl) ?_
        rintro _ x2 ⟨rfl, z2, c2, d2, o2⟩
        have s2 := st2_big (L := 48) hs (by omega) (mv_48 (by omega) (by omega) (by omega)) z2 c2 d2 (fun x h1 h2 => (o2 x h1 h2).trans (o1 x h1))
        refine ze_cs (cu' := 35 + 4 * t + 2) (su' := 34263 + 102 * t + 51) (by omega) (by omega) ?_
        change ze_V G l (ze_rm 2 22275 702567) M8_init _ 307 [(0, .ref m), (1, ze_i (t : Nat))] [.ref (m + (36 + 4 * t)), ze_i (t : Nat), .ref (m + 10)] x2 (35 + 4 * t + 2) (34263 + 102 * t + 51)
        refine ze_aastW (j := t) (f' := va_up (rf 10) t (some (m + (36 + 4 * t)))) (r := (RX7, TX7, 3)) (ci := 7) dX8_init_307 (show x2.2 (m + 10) = some (ze_ra G 4 480 (rf 10)) from s2.2.2.2.1 10 (by decide)) rfl rfl c2 rfl (by omega) (by decide) rfl (fun x3 z3 c3 o3 => ?_)
        have s3 := st2_ra (k := 10) s2 (by decide) z3 c3 o3
        refine ze_aload_n dX8_init_308 rfl ?_
        refine ze_getf dX8_init_309 fl_X8_44 s3.2.1 rfl ?_
        refine ze_iload_n dX8_init_312 rfl ?_
        refine ze_nX7 dX8_init_313 cl_X8_31 (show _ ≤ 22275 by omega) (show _ ≤ 702567 by omega) (fun x4 z4 c4 o4 => ?_)
        rw [s3.1] at z4 c4 o4 ⊢
        refine ze_dup dX8_init_316 rfl ?_
        refine ze_bipush dX8_init_317 (by decide) ?_
        refine ze_callI (As := [ze_i ((48 : Nat) : Int)]) (rest := [.ref (m + (36 + 4 * t + 2)), ze_i (t : Nat), .ref (m + 11)]) dX8_init_319 (C7_init (n := 48) c4 z4 (by decide)) mo7_init rfl rfl ml_X8_33 in_7_init rfl rfl rfl ⟨show _ ≤ 22275 by omega, show _ ≤ 702567 by omega⟩ rfl (Nat.le_of_ble_eq_true rfl) ?_
        rintro _ x5 ⟨rfl, z5, c5, d5, o5⟩
        have s5 := st2_big (L := 48) s3 (by omega) (mv_48 (by omega) (by omega) (by omega)) z5 c5 d5 (fun x h1 h2 => (o5 x h1 h2).trans (o4 x h1))
        refine ze_cs (cu' := 35 + 4 * t + 4) (su' := 34263 + 102 * t + 102) (by omega) (by omega) ?_
        change ze_V G l (ze_rm 2 22275 702567) M8_init _ 322 [(0, .ref m), (1, ze_i (t : Nat))] [.ref (m + (36 + 4 * t + 2)), ze_i (t : Nat), .ref (m + 11)] x5 (35 + 4 * t + 4) (34263 + 102 * t + 102)
        refine ze_aastW (j := t) (f' := va_up ((va_up rf 10 (va_up (rf 10) t (some (m + (36 + 4 * t))))) 11) t (some (m + (36 + 4 * t + 2)))) (r := (RX7, TX7, 3)) (ci := 7) dX8_init_322 (show x5.2 (m + 11) = some (ze_ra G 4 480 ((va_up rf 10 (va_up (rf 10) t (some (m + (36 + 4 * t))))) 11)) from s5.2.2.2.1 11 (by decide)) rfl rfl c5 rfl (by omega) (by decide) rfl (fun x6 z6 c6 o6 => ?_)
        have s6 := st2_ra (k := 11) s5 (by decide) z6 c6 o6
        refine ze_iinc (b := ((t + 1 : Nat))) (lv' := [(0, .ref m), (1, ze_i ((t + 1 : Nat)))]) dX8_init_323 rfl rfl (by omega) rfl ?_
        refine ze_goto 286 dX8_init_326 (by decide) ?_
        refine ze_cs (cu' := 35 + 4 * (t + 1)) (su' := 34263 + 102 * (t + 1)) (by omega) (by omega) ?_
        exact ih (t + 1) _ _ (by omega) (by have := s6; rw [show 36 + 4 * t + 2 + 2 = 36 + 4 * (t + 1) by omega] at this; exact this) (fun j hj => by
          rw [va_up_ne _ _ (by decide), va_up_self]
          by_cases e : j = t
          · rw [e, va_up_self]
            exact congrArg some (by unfold mro; rw [if_pos rfl] <;> omega)
          · rw [va_up_ne _ _ e]
            exact h10 j (by omega)) (fun j hj => by
          rw [va_up_self]
          by_cases e : j = t
          · rw [e, va_up_self]
            exact congrArg some (by unfold mro; rw [if_neg (by decide), if_pos rfl] <;> omega)
          · rw [va_up_ne _ _ e, va_up_ne _ _ (by decide)]
            exact h11 j (by omega))
  change ze_V G l (ze_rm 2 22275 702567) M8_init Z 0 [(0, .ref m)] [] w 0 0
  refine ze_aload_n dX8_init_0 rfl ?_
  refine ze_objI dX8_init_1 ml_X8_1 in_objectInit cd_objectInit rfl rfl ?_
  refine ze_aload_n dX8_init_4 rfl ?_
  refine ze_bipush dX8_init_5 (by decide) ?_
  refine ze_newiW (n := 6) dX8_init_7 rfl (by decide) (by decide) (by decide) (fun w1 z1 c1 o1 => ?_)
  have p1 := pre_new p0 (by decide) z1 c1 o1 rfl
  refine ze_cs (cu' := 1) (su' := 6) rfl rfl ?_
  rw [p0.1]
  refine ze_putfW (fs' := [.ref (m + 1), .null, .null, .null, .null, .null, ze_i 0, .null, ze_i 0, .null, .null, .null, .null, .null, .null, .null, .null, .null, ze_i 0, .null, .null, .null, .null, .null, .null, .null, .null, .null, .null, .null, .null, ze_i 0]) dX8_init_9 fl_X8_9 (Or.inr ⟨rfl, rfl⟩) p1.2.1 rfl rfl (Nat.le_of_ble_eq_true rfl) rfl (fun w2 z2 c2 o2 => ?_)
  have p2 := pre_put p1 z2 c2 o2
  refine ze_aload_n dX8_init_12 rfl ?_
  refine ze_bipush dX8_init_13 (by decide) ?_
  refine ze_newiW (n := 6) dX8_init_15 rfl (by decide) (by decide) (by decide) (fun w3 z3 c3 o3 => ?_)
  have p3 := pre_new p2 (by decide) z3 c3 o3 rfl
  refine ze_cs (cu' := 2) (su' := 12) rfl rfl ?_
  rw [p2.1]
  refine ze_putfW (fs' := [.ref (m + 1), .ref (m + 2), .null, .null, .null, .null, ze_i 0, .null, ze_i 0, .null, .null, .null, .null, .null, .null, .null, .null, .null, ze_i 0, .null, .null, .null, .null, .null, .null, .null, .null, .null, .null, .null, .null, ze_i 0]) dX8_init_17 fl_X8_13 (Or.inr ⟨rfl, rfl⟩) p3.2.1 rfl rfl (Nat.le_of_ble_eq_true rfl) rfl (fun w4 z4 c4 o4 => ?_)
  have p4 := pre_put p3 z4 c4 o4
  refine ze_aload_n dX8_init_20 rfl ?_
  refine ze_bipush dX8_init_21 (by decide) ?_
  refine ze_newiW (n := 6) dX8_init_23 rfl (by decide) (by decide) (by decide) (fun w5 z5 c5 o5 => ?_)
  have p5 := pre_new p4 (by decide) z5 c5 o5 rfl
  refine ze_cs (cu' := 3) (su' := 18) rfl rfl ?_
  rw [p4.1]
  refine ze_putfW (fs' := [.ref (m + 1), .ref (m + 2), .ref (m + 3), .null, .null, .null, ze_i 0, .null, ze_i 0, .null, .null, .null, .null, .null, .null, .null, .null, .null, ze_i 0, .null, .null, .null, .null, .null, .null, .null, .null, .null, .null, .null, .null, ze_i 0]) dX8_init_25 fl_X8_16 (Or.inr ⟨rfl, rfl⟩) p5.2.1 rfl rfl (Nat.le_of_ble_eq_true rfl) rfl (fun w6 z6 c6 o6 => ?_)
  have p6 := pre_put p5 z6 c6 o6
  refine ze_aload_n dX8_init_28 rfl ?_
  refine ze_bipush dX8_init_29 (by decide) ?_
  refine ze_newiW (n := 48) dX8_init_31 rfl (by decide) (by decide) (by decide) (fun w7 z7 c7 o7 => ?_)
  have p7 := pre_new p6 (by decide) z7 c7 o7 rfl
  refine ze_cs (cu' := 4) (su' := 66) rfl rfl ?_
  rw [p6.1]
  refine ze_putfW (fs' := [.ref (m + 1), .ref (m + 2), .ref (m + 3), .ref (m + 4), .null, .null, ze_i 0, .null, ze_i 0, .null, .null, .null, .null, .null, .null, .null, .null, .null, ze_i 0, .null, .null, .null, .null, .null, .null, .null, .null, .null, .null, .null, .null, ze_i 0]) dX8_init_33 fl_X8_19 (Or.inr ⟨rfl, rfl⟩) p7.2.1 rfl rfl (Nat.le_of_ble_eq_true rfl) rfl (fun w8 z8 c8 o8 => ?_)
  have p8 := pre_put p7 z8 c8 o8
  refine ze_aload_n dX8_init_36 rfl ?_
  refine ze_sipush dX8_init_37 (by decide) ?_
  refine ze_newiW (n := 384) dX8_init_40 rfl (by decide) (by decide) (by decide) (fun w9 z9 c9 o9 => ?_)
  have p9 := pre_new p8 (by decide) z9 c9 o9 rfl
  refine ze_cs (cu' := 5) (su' := 450) rfl rfl ?_
  rw [p8.1]
  refine ze_putfW (fs' := [.ref (m + 1), .ref (m + 2), .ref (m + 3), .ref (m + 4), .ref (m + 5), .null, ze_i 0, .null, ze_i 0, .null, .null, .null, .null, .null, .null, .null, .null, .null, ze_i 0, .null, .null, .null, .null, .null, .null, .null, .null, .null, .null, .null, .null, ze_i 0]) dX8_init_42 fl_X8_22 (Or.inr ⟨rfl, rfl⟩) p9.2.1 rfl rfl (Nat.le_of_ble_eq_true rfl) rfl (fun w10 z10 c10 o10 => ?_)
  have p10 := pre_put p9 z10 c10 o10
  refine ze_aload_n dX8_init_45 rfl ?_
  refine ze_sipush dX8_init_46 (by decide) ?_
  refine ze_newiW (n := 288) dX8_init_49 rfl (by decide) (by decide) (by decide) (fun w11 z11 c11 o11 => ?_)
  have p11 := pre_new p10 (by decide) z11 c11 o11 rfl
  refine ze_cs (cu' := 6) (su' := 738) rfl rfl ?_
  rw [p10.1]
  refine ze_putfW (fs' := [.ref (m + 1), .ref (m + 2), .ref (m + 3), .ref (m + 4), .ref (m + 5), .ref (m + 6), ze_i 0, .null, ze_i 0, .null, .null, .null, .null, .null, .null, .null, .null, .null, ze_i 0, .null, .null, .null, .null, .null, .null, .null, .null, .null, .null, .null, .null, ze_i 0]) dX8_init_51 fl_X8_25 (Or.inr ⟨rfl, rfl⟩) p11.2.1 rfl rfl (Nat.le_of_ble_eq_true rfl) rfl (fun w12 z12 c12 o12 => ?_)
  have p12 := pre_put p11 z12 c12 o12
  refine ze_aload_n dX8_init_54 rfl ?_
  refine ze_bipush dX8_init_55 (by decide) ?_
  refine ze_newiW (n := 60) dX8_init_57 rfl (by decide) (by decide) (by decide) (fun w13 z13 c13 o13 => ?_)
  have p13 := pre_new p12 (by decide) z13 c13 o13 rfl
  refine ze_cs (cu' := 7) (su' := 798) rfl rfl ?_
  rw [p12.1]
  refine ze_putfW (fs' := [.ref (m + 1), .ref (m + 2), .ref (m + 3), .ref (m + 4), .ref (m + 5), .ref (m + 6), ze_i 0, .ref (m + 7), ze_i 0, .null, .null, .null, .null, .null, .null, .null, .null, .null, ze_i 0, .null, .null, .null, .null, .null, .null, .null, .null, .null, .null, .null, .null, ze_i 0]) dX8_init_59 fl_X8_28 (Or.inr ⟨rfl, rfl⟩) p13.2.1 rfl rfl (Nat.le_of_ble_eq_true rfl) rfl (fun w14 z14 c14 o14 => ?_)
  have p14 := pre_put p13 z14 c14 o14
  refine ze_aload_n dX8_init_62 rfl ?_
  refine ze_nX7 dX8_init_63 cl_X8_31 (by decide) (by decide) (fun w15 z15 c15 o15 => ?_)
  refine ze_cs (cu' := 8) (su' := 801) rfl rfl ?_
  rw [p14.1] at z15 c15 o15 ⊢
  refine ze_dup dX8_init_66 rfl ?_
  refine ze_sipush dX8_init_67 (by decide) ?_
  refine ze_callI (As := [ze_i ((420 : Nat) : Int)]) (rest := [.ref (m + 8), .ref m]) dX8_init_70 (C7_init (n := 420) c15 z15 (by decide)) mo7_init rfl rfl ml_X8_33 in_7_init rfl rfl rfl (by decide) rfl (Nat.le_of_ble_eq_true rfl) ?_
  rintro _ w16 ⟨rfl, z16, c16, d16, o16⟩
  have p16 := pre_big (L := 420) p14 (by decide) z16 c16 d16 (fun x h1 h2 => (o16 x h1 h2).trans (o15 x h1)) rfl rfl
  refine ze_cs (cu' := 9) (su' := 1221) rfl rfl ?_
  change ze_V G l (ze_rm 2 22275 702567) M8_init Z 73 [(0, .ref m)] [.ref (m + 8), .ref m] w16 9 1221
  refine ze_putfW (fs' := [.ref (m + 1), .ref (m + 2), .ref (m + 3), .ref (m + 4), .ref (m + 5), .ref (m + 6), ze_i 0, .ref (m + 7), ze_i 0, .ref (m + 8), .null, .null, .null, .null, .null, .null, .null, .null, ze_i 0, .null, .null, .null, .null, .null, .null, .null, .null, .null, .null, .null, .null, ze_i 0]) dX8_init_73 fl_X8_36 (Or.inr ⟨rfl, rfl⟩) p16.2.1 rfl rfl (Nat.le_of_ble_eq_true rfl) rfl (fun w17 z17 c17 o17 => ?_)
  have p17 := pre_put p16 z17 c17 o17
  refine ze_aload_n dX8_init_76 rfl ?_
  refine ze_sipush dX8_init_77 (by decide) ?_
  refine ze_newqW (t := 4) (n := 480) dX8_init_80 cl_X8_31 rfl (Or.inr (Or.inr rfl)) rfl (by decide) (by decide) (by decide) (fun w18 z18 c18 o18 => ?_)
  have p18 := pre_new p17 (by decide) z18 c18 o18 rfl
  refine ze_cs (cu' := 10) (su' := 1701) rfl rfl ?_
  rw [p17.1]
  refine ze_putfW (fs' := [.ref (m + 1), .ref (m + 2), .ref (m + 3), .ref (m + 4), .ref (m + 5), .ref (m + 6), ze_i 0, .ref (m + 7), ze_i 0, .ref (m + 8), .ref (m + 10), .null, .null, .null, .null, .null, .null, .null, ze_i 0, .null, .null, .null, .null, .null, .null, .null, .null, .null, .null, .null, .null, ze_i 0]) dX8_init_83 fl_X8_40 (Or.inr ⟨rfl, rfl⟩) p18.2.1 rfl rfl (Nat.le_of_ble_eq_true rfl) rfl (fun w19 z19 c19 o19 => ?_)
  have p19 := pre_put p18 z19 c19 o19
  refine ze_aload_n dX8_init_86 rfl ?_
  refine ze_sipush dX8_init_87 (by decide) ?_
  refine ze_newqW (t := 4) (n := 480) dX8_init_90 cl_X8_31 rfl (Or.inr (Or.inr rfl)) rfl (by decide) (by decide) (by decide) (fun w20 z20 c20 o20 => ?_)
  have p20 := pre_new p19 (by decide) z20 c20 o20 rfl
  refine ze_cs (cu' := 11) (su' := 2181) rfl rfl ?_
  rw [p19.1]
  refine ze_putfW (fs' := [.ref (m + 1), .ref (m + 2), .ref (m + 3), .ref (m + 4), .ref (m + 5), .ref (m + 6), ze_i 0, .ref (m + 7), ze_i 0, .ref (m + 8), .ref (m + 10), .ref (m + 11), .null, .null, .null, .null, .null, .null, ze_i 0, .null, .null, .null, .null, .null, .null, .null, .null, .null, .null, .null, .null, ze_i 0]) dX8_init_93 fl_X8_44 (Or.inr ⟨rfl, rfl⟩) p20.2.1 rfl rfl (Nat.le_of_ble_eq_true rfl) rfl (fun w21 z21 c21 o21 => ?_)
  have p21 := pre_put p20 z21 c21 o21
  refine ze_aload_n dX8_init_96 rfl ?_
  refine ze_sipush dX8_init_97 (by decide) ?_
  refine ze_newqW (t := 4) (n := 9600) dX8_init_100 cl_X8_31 rfl (Or.inr (Or.inr rfl)) rfl (by decide) (by decide) (by decide) (fun w22 z22 c22 o22 => ?_)
  have p22 := pre_new p21 (by decide) z22 c22 o22 rfl
  refine ze_cs (cu' := 12) (su' := 11781) rfl rfl ?_
  rw [p21.1]
  refine ze_putfW (fs' := [.ref (m + 1), .ref (m + 2), .ref (m + 3), .ref (m + 4), .ref (m + 5), .ref (m + 6), ze_i 0, .ref (m + 7), ze_i 0, .ref (m + 8), .ref (m + 10), .ref (m + 11), .ref (m + 12), .null, .null, .null, .null, .null, ze_i 0, .null, .null, .null, .null, .null, .null, .null, .null, .null, .null, .null, .null, ze_i 0]) dX8_init_103 fl_X8_47 (Or.inr ⟨rfl, rfl⟩) p22.2.1 rfl rfl (Nat.le_of_ble_eq_true rfl) rfl (fun w23 z23 c23 o23 => ?_)
  have p23 := pre_put p22 z23 c23 o23
  refine ze_aload_n dX8_init_106 rfl ?_
  refine ze_sipush dX8_init_107 (by decide) ?_
  refine ze_newiW (n := 9600) dX8_init_110 rfl (by decide) (by decide) (by decide) (fun w24 z24 c24 o24 => ?_)
  have p24 := pre_new p23 (by decide) z24 c24 o24 rfl
  refine ze_cs (cu' := 13) (su' := 21381) rfl rfl ?_
  rw [p23.1]
  refine ze_putfW (fs' := [.ref (m + 1), .ref (m + 2), .ref (m + 3), .ref (m + 4), .ref (m + 5), .ref (m + 6), ze_i 0, .ref (m + 7), ze_i 0, .ref (m + 8), .ref (m + 10), .ref (m + 11), .ref (m + 12), .ref (m + 13), .null, .null, .null, .null, ze_i 0, .null, .null, .null, .null, .null, .null, .null, .null, .null, .null, .null, .null, ze_i 0]) dX8_init_112 fl_X8_50 (Or.inr ⟨rfl, rfl⟩) p24.2.1 rfl rfl (Nat.le_of_ble_eq_true rfl) rfl (fun w25 z25 c25 o25 => ?_)
  have p25 := pre_put p24 z25 c25 o25
  refine ze_aload_n dX8_init_115 rfl ?_
  refine ze_sipush dX8_init_116 (by decide) ?_
  refine ze_newiW (n := 9600) dX8_init_119 rfl (by decide) (by decide) (by decide) (fun w26 z26 c26 o26 => ?_)
  have p26 := pre_new p25 (by decide) z26 c26 o26 rfl
  refine ze_cs (cu' := 14) (su' := 30981) rfl rfl ?_
  rw [p25.1]
  refine ze_putfW (fs' := [.ref (m + 1), .ref (m + 2), .ref (m + 3), .ref (m + 4), .ref (m + 5), .ref (m + 6), ze_i 0, .ref (m + 7), ze_i 0, .ref (m + 8), .ref (m + 10), .ref (m + 11), .ref (m + 12), .ref (m + 13), .ref (m + 14), .null, .null, .null, ze_i 0, .null, .null, .null, .null, .null, .null, .null, .null, .null, .null, .null, .null, ze_i 0]) dX8_init_121 fl_X8_53 (Or.inr ⟨rfl, rfl⟩) p26.2.1 rfl rfl (Nat.le_of_ble_eq_true rfl) rfl (fun w27 z27 c27 o27 => ?_)
  have p27 := pre_put p26 z27 c27 o27
  refine ze_aload_n dX8_init_124 rfl ?_
  refine ze_sipush dX8_init_125 (by decide) ?_
  refine ze_newiW (n := 480) dX8_init_128 rfl (by decide) (by decide) (by decide) (fun w28 z28 c28 o28 => ?_)
  have p28 := pre_new p27 (by decide) z28 c28 o28 rfl
  refine ze_cs (cu' := 15) (su' := 31461) rfl rfl ?_
  rw [p27.1]
  refine ze_putfW (fs' := [.ref (m + 1), .ref (m + 2), .ref (m + 3), .ref (m + 4), .ref (m + 5), .ref (m + 6), ze_i 0, .ref (m + 7), ze_i 0, .ref (m + 8), .ref (m + 10), .ref (m + 11), .ref (m + 12), .ref (m + 13), .ref (m + 14), .ref (m + 15), .null, .null, ze_i 0, .null, .null, .null, .null, .null, .null, .null, .null, .null, .null, .null, .null, ze_i 0]) dX8_init_130 fl_X8_56 (Or.inr ⟨rfl, rfl⟩) p28.2.1 rfl rfl (Nat.le_of_ble_eq_true rfl) rfl (fun w29 z29 c29 o29 => ?_)
  have p29 := pre_put p28 z29 c29 o29
  refine ze_aload_n dX8_init_133 rfl ?_
  refine ze_bipush dX8_init_134 (by decide) ?_
  refine ze_newiW (n := 8) dX8_init_136 rfl (by decide) (by decide) (by decide) (fun w30 z30 c30 o30 => ?_)
  have p30 := pre_new p29 (by decide) z30 c30 o30 rfl
  refine ze_cs (cu' := 16) (su' := 31469) rfl rfl ?_
  rw [p29.1]
  refine ze_putfW (fs' := [.ref (m + 1), .ref (m + 2), .ref (m + 3), .ref (m + 4), .ref (m + 5), .ref (m + 6), ze_i 0, .ref (m + 7), ze_i 0, .ref (m + 8), .ref (m + 10), .ref (m + 11), .ref (m + 12), .ref (m + 13), .ref (m + 14), .ref (m + 15), .ref (m + 16), .null, ze_i 0, .null, .null, .null, .null, .null, .null, .null, .null, .null, .null, .null, .null, ze_i 0]) dX8_init_138 fl_X8_59 (Or.inr ⟨rfl, rfl⟩) p30.2.1 rfl rfl (Nat.le_of_ble_eq_true rfl) rfl (fun w31 z31 c31 o31 => ?_)
  have p31 := pre_put p30 z31 c31 o31
  refine ze_aload_n dX8_init_141 rfl ?_
  refine ze_bipush dX8_init_142 (by decide) ?_
  refine ze_newiW (n := 60) dX8_init_144 rfl (by decide) (by decide) (by decide) (fun w32 z32 c32 o32 => ?_)
  have p32 := pre_new p31 (by decide) z32 c32 o32 rfl
  refine ze_cs (cu' := 17) (su' := 31529) rfl rfl ?_
  rw [p31.1]
  refine ze_putfW (fs' := [.ref (m + 1), .ref (m + 2), .ref (m + 3), .ref (m + 4), .ref (m + 5), .ref (m + 6), ze_i 0, .ref (m + 7), ze_i 0, .ref (m + 8), .ref (m + 10), .ref (m + 11), .ref (m + 12), .ref (m + 13), .ref (m + 14), .ref (m + 15), .ref (m + 16), .ref (m + 17), ze_i 0, .null, .null, .null, .null, .null, .null, .null, .null, .null, .null, .null, .null, ze_i 0]) dX8_init_146 fl_X8_62 (Or.inr ⟨rfl, rfl⟩) p32.2.1 rfl rfl (Nat.le_of_ble_eq_true rfl) rfl (fun w33 z33 c33 o33 => ?_)
  have p33 := pre_put p32 z33 c33 o33
  refine ze_aload_n dX8_init_149 rfl ?_
  refine ze_sipush dX8_init_150 (by decide) ?_
  refine ze_newqW (t := 4) (n := 288) dX8_init_153 cl_X8_31 rfl (Or.inr (Or.inr rfl)) rfl (by decide) (by decide) (by decide) (fun w34 z34 c34 o34 => ?_)
  have p34 := pre_new p33 (by decide) z34 c34 o34 rfl
  refine ze_cs (cu' := 18) (su' := 31817) rfl rfl ?_
  rw [p33.1]
  refine ze_putfW (fs' := [.ref (m + 1), .ref (m + 2), .ref (m + 3), .ref (m + 4), .ref (m + 5), .ref (m + 6), ze_i 0, .ref (m + 7), ze_i 0, .ref (m + 8), .ref (m + 10), .ref (m + 11), .ref (m + 12), .ref (m + 13), .ref (m + 14), .ref (m + 15), .ref (m + 16), .ref (m + 17), ze_i 0, .ref (m + 18), .null, .null, .null, .null, .null, .null, .null, .null, .null, .null, .null, ze_i 0]) dX8_init_156 fl_X8_65 (Or.inr ⟨rfl, rfl⟩) p34.2.1 rfl rfl (Nat.le_of_ble_eq_true rfl) rfl (fun w35 z35 c35 o35 => ?_)
  have p35 := pre_put p34 z35 c35 o35
  refine ze_aload_n dX8_init_159 rfl ?_
  refine ze_sipush dX8_init_160 (by decide) ?_
  refine ze_newqW (t := 4) (n := 256) dX8_init_163 cl_X8_31 rfl (Or.inr (Or.inr rfl)) rfl (by decide) (by decide) (by decide) (fun w36 z36 c36 o36 => ?_)
  have p36 := pre_new p35 (by decide) z36 c36 o36 rfl
  refine ze_cs (cu' := 19) (su' := 32073) rfl rfl ?_
  rw [p35.1]
  refine ze_putfW (fs' := [.ref (m + 1), .ref (m + 2), .ref (m + 3), .ref (m + 4), .ref (m + 5), .ref (m + 6), ze_i 0, .ref (m + 7), ze_i 0, .ref (m + 8), .ref (m + 10), .ref (m + 11), .ref (m + 12), .ref (m + 13), .ref (m + 14), .ref (m + 15), .ref (m + 16), .ref (m + 17), ze_i 0, .ref (m + 18), .ref (m + 19), .null, .null, .null, .null, .null, .null, .null, .null, .null, .null, ze_i 0]) dX8_init_166 fl_X8_68 (Or.inr ⟨rfl, rfl⟩) p36.2.1 rfl rfl (Nat.le_of_ble_eq_true rfl) rfl (fun w37 z37 c37 o37 => ?_)
  have p37 := pre_put p36 z37 c37 o37
  refine ze_aload_n dX8_init_169 rfl ?_
  refine ze_bipush dX8_init_170 (by decide) ?_
  refine ze_newiW (n := 16) dX8_init_172 rfl (by decide) (by decide) (by decide) (fun w38 z38 c38 o38 => ?_)
  have p38 := pre_new p37 (by decide) z38 c38 o38 rfl
  refine ze_cs (cu' := 20) (su' := 32089) rfl rfl ?_
  rw [p37.1]
  refine ze_putfW (fs' := [.ref (m + 1), .ref (m + 2), .ref (m + 3), .ref (m + 4), .ref (m + 5), .ref (m + 6), ze_i 0, .ref (m + 7), ze_i 0, .ref (m + 8), .ref (m + 10), .ref (m + 11), .ref (m + 12), .ref (m + 13), .ref (m + 14), .ref (m + 15), .ref (m + 16), .ref (m + 17), ze_i 0, .ref (m + 18), .ref (m + 19), .ref (m + 20), .null, .null, .null, .null, .null, .null, .null, .null, .null, ze_i 0]) dX8_init_174 fl_X8_71 (Or.inr ⟨rfl, rfl⟩) p38.2.1 rfl rfl (Nat.le_of_ble_eq_true rfl) rfl (fun w39 z39 c39 o39 => ?_)
  have p39 := pre_put p38 z39 c39 o39
  refine ze_aload_n dX8_init_177 rfl ?_
  refine ze_bipush dX8_init_178 (by decide) ?_
  refine ze_newiW (n := 18) dX8_init_180 rfl (by decide) (by decide) (by decide) (fun w40 z40 c40 o40 => ?_)
  have p40 := pre_new p39 (by decide) z40 c40 o40 rfl
  refine ze_cs (cu' := 21) (su' := 32107) rfl rfl ?_
  rw [p39.1]
  refine ze_putfW (fs' := [.ref (m + 1), .ref (m + 2), .ref (m + 3), .ref (m + 4), .ref (m + 5), .ref (m + 6), ze_i 0, .ref (m + 7), ze_i 0, .ref (m + 8), .ref (m + 10), .ref (m + 11), .ref (m + 12), .ref (m + 13), .ref (m + 14), .ref (m + 15), .ref (m + 16), .ref (m + 17), ze_i 0, .ref (m + 18), .ref (m + 19), .ref (m + 20), .ref (m + 21), .null, .null, .null, .null, .null, .null, .null, .null, ze_i 0]) dX8_init_182 fl_X8_74 (Or.inr ⟨rfl, rfl⟩) p40.2.1 rfl rfl (Nat.le_of_ble_eq_true rfl) rfl (fun w41 z41 c41 o41 => ?_)
  have p41 := pre_put p40 z41 c41 o41
  refine ze_aload_n dX8_init_185 rfl ?_
  refine ze_bipush dX8_init_186 (by decide) ?_
  refine ze_newiW (n := 18) dX8_init_188 rfl (by decide) (by decide) (by decide) (fun w42 z42 c42 o42 => ?_)
  have p42 := pre_new p41 (by decide) z42 c42 o42 rfl
  refine ze_cs (cu' := 22) (su' := 32125) rfl rfl ?_
  rw [p41.1]
  refine ze_putfW (fs' := [.ref (m + 1), .ref (m + 2), .ref (m + 3), .ref (m + 4), .ref (m + 5), .ref (m + 6), ze_i 0, .ref (m + 7), ze_i 0, .ref (m + 8), .ref (m + 10), .ref (m + 11), .ref (m + 12), .ref (m + 13), .ref (m + 14), .ref (m + 15), .ref (m + 16), .ref (m + 17), ze_i 0, .ref (m + 18), .ref (m + 19), .ref (m + 20), .ref (m + 21), .ref (m + 22), .null, .null, .null, .null, .null, .null, .null, ze_i 0]) dX8_init_190 fl_X8_77 (Or.inr ⟨rfl, rfl⟩) p42.2.1 rfl rfl (Nat.le_of_ble_eq_true rfl) rfl (fun w43 z43 c43 o43 => ?_)
  have p43 := pre_put p42 z43 c43 o43
  refine ze_aload_n dX8_init_193 rfl ?_
  refine ze_bipush dX8_init_194 (by decide) ?_
  refine ze_newqW (t := 4) (n := 16) dX8_init_196 cl_X8_31 rfl (Or.inr (Or.inr rfl)) rfl (by decide) (by decide) (by decide) (fun w44 z44 c44 o44 => ?_)
  have p44 := pre_new p43 (by decide) z44 c44 o44 rfl
  refine ze_cs (cu' := 23) (su' := 32141) rfl rfl ?_
  rw [p43.1]
  refine ze_putfW (fs' := [.ref (m + 1), .ref (m + 2), .ref (m + 3), .ref (m + 4), .ref (m + 5), .ref (m + 6), ze_i 0, .ref (m + 7), ze_i 0, .ref (m + 8), .ref (m + 10), .ref (m + 11), .ref (m + 12), .ref (m + 13), .ref (m + 14), .ref (m + 15), .ref (m + 16), .ref (m + 17), ze_i 0, .ref (m + 18), .ref (m + 19), .ref (m + 20), .ref (m + 21), .ref (m + 22), .ref (m + 23), .null, .null, .null, .null, .null, .null, ze_i 0]) dX8_init_199 fl_X8_80 (Or.inr ⟨rfl, rfl⟩) p44.2.1 rfl rfl (Nat.le_of_ble_eq_true rfl) rfl (fun w45 z45 c45 o45 => ?_)
  have p45 := pre_put p44 z45 c45 o45
  refine ze_aload_n dX8_init_202 rfl ?_
  refine ze_nX7 dX8_init_203 cl_X8_31 (by decide) (by decide) (fun w46 z46 c46 o46 => ?_)
  refine ze_cs (cu' := 24) (su' := 32144) rfl rfl ?_
  rw [p45.1] at z46 c46 o46 ⊢
  refine ze_dup dX8_init_206 rfl ?_
  refine ze_sipush dX8_init_207 (by decide) ?_
  refine ze_callI (As := [ze_i ((420 : Nat) : Int)]) (rest := [.ref (m + 24), .ref m]) dX8_init_210 (C7_init (n := 420) c46 z46 (by decide)) mo7_init rfl rfl ml_X8_33 in_7_init rfl rfl rfl (by decide) rfl (Nat.le_of_ble_eq_true rfl) ?_
  rintro _ w47 ⟨rfl, z47, c47, d47, o47⟩
  have p47 := pre_big (L := 420) p45 (by decide) z47 c47 d47 (fun x h1 h2 => (o47 x h1 h2).trans (o46 x h1)) rfl rfl
  refine ze_cs (cu' := 25) (su' := 32564) rfl rfl ?_
  change ze_V G l (ze_rm 2 22275 702567) M8_init Z 213 [(0, .ref m)] [.ref (m + 24), .ref m] w47 25 32564
  refine ze_putfW (fs' := [.ref (m + 1), .ref (m + 2), .ref (m + 3), .ref (m + 4), .ref (m + 5), .ref (m + 6), ze_i 0, .ref (m + 7), ze_i 0, .ref (m + 8), .ref (m + 10), .ref (m + 11), .ref (m + 12), .ref (m + 13), .ref (m + 14), .ref (m + 15), .ref (m + 16), .ref (m + 17), ze_i 0, .ref (m + 18), .ref (m + 19), .ref (m + 20), .ref (m + 21), .ref (m + 22), .ref (m + 23), .ref (m + 24), .null, .null, .null, .null, .null, ze_i 0]) dX8_init_213 fl_X8_83 (Or.inr ⟨rfl, rfl⟩) p47.2.1 rfl rfl (Nat.le_of_ble_eq_true rfl) rfl (fun w48 z48 c48 o48 => ?_)
  have p48 := pre_put p47 z48 c48 o48
  refine ze_aload_n dX8_init_216 rfl ?_
  refine ze_nX7 dX8_init_217 cl_X8_31 (by decide) (by decide) (fun w49 z49 c49 o49 => ?_)
  refine ze_cs (cu' := 26) (su' := 32567) rfl rfl ?_
  rw [p48.1] at z49 c49 o49 ⊢
  refine ze_dup dX8_init_220 rfl ?_
  refine ze_sipush dX8_init_221 (by decide) ?_
  refine ze_callI (As := [ze_i ((420 : Nat) : Int)]) (rest := [.ref (m + 26), .ref m]) dX8_init_224 (C7_init (n := 420) c49 z49 (by decide)) mo7_init rfl rfl ml_X8_33 in_7_init rfl rfl rfl (by decide) rfl (Nat.le_of_ble_eq_true rfl) ?_
  rintro _ w50 ⟨rfl, z50, c50, d50, o50⟩
  have p50 := pre_big (L := 420) p48 (by decide) z50 c50 d50 (fun x h1 h2 => (o50 x h1 h2).trans (o49 x h1)) rfl rfl
  refine ze_cs (cu' := 27) (su' := 32987) rfl rfl ?_
  change ze_V G l (ze_rm 2 22275 702567) M8_init Z 227 [(0, .ref m)] [.ref (m + 26), .ref m] w50 27 32987
  refine ze_putfW (fs' := [.ref (m + 1), .ref (m + 2), .ref (m + 3), .ref (m + 4), .ref (m + 5), .ref (m + 6), ze_i 0, .ref (m + 7), ze_i 0, .ref (m + 8), .ref (m + 10), .ref (m + 11), .ref (m + 12), .ref (m + 13), .ref (m + 14), .ref (m + 15), .ref (m + 16), .ref (m + 17), ze_i 0, .ref (m + 18), .ref (m + 19), .ref (m + 20), .ref (m + 21), .ref (m + 22), .ref (m + 23), .ref (m + 24), .ref (m + 26), .null, .null, .null, .null, ze_i 0]) dX8_init_227 fl_X8_86 (Or.inr ⟨rfl, rfl⟩) p50.2.1 rfl rfl (Nat.le_of_ble_eq_true rfl) rfl (fun w51 z51 c51 o51 => ?_)
  have p51 := pre_put p50 z51 c51 o51
  refine ze_aload_n dX8_init_230 rfl ?_
  refine ze_nX7 dX8_init_231 cl_X8_31 (by decide) (by decide) (fun w52 z52 c52 o52 => ?_)
  refine ze_cs (cu' := 28) (su' := 32990) rfl rfl ?_
  rw [p51.1] at z52 c52 o52 ⊢
  refine ze_dup dX8_init_234 rfl ?_
  refine ze_sipush dX8_init_235 (by decide) ?_
  refine ze_callI (As := [ze_i ((420 : Nat) : Int)]) (rest := [.ref (m + 28), .ref m]) dX8_init_238 (C7_init (n := 420) c52 z52 (by decide)) mo7_init rfl rfl ml_X8_33 in_7_init rfl rfl rfl (by decide) rfl (Nat.le_of_ble_eq_true rfl) ?_
  rintro _ w53 ⟨rfl, z53, c53, d53, o53⟩
  have p53 := pre_big (L := 420) p51 (by decide) z53 c53 d53 (fun x h1 h2 => (o53 x h1 h2).trans (o52 x h1)) rfl rfl
  refine ze_cs (cu' := 29) (su' := 33410) rfl rfl ?_
  change ze_V G l (ze_rm 2 22275 702567) M8_init Z 241 [(0, .ref m)] [.ref (m + 28), .ref m] w53 29 33410
  refine ze_putfW (fs' := [.ref (m + 1), .ref (m + 2), .ref (m + 3), .ref (m + 4), .ref (m + 5), .ref (m + 6), ze_i 0, .ref (m + 7), ze_i 0, .ref (m + 8), .ref (m + 10), .ref (m + 11), .ref (m + 12), .ref (m + 13), .ref (m + 14), .ref (m + 15), .ref (m + 16), .ref (m + 17), ze_i 0, .ref (m + 18), .ref (m + 19), .ref (m + 20), .ref (m + 21), .ref (m + 22), .ref (m + 23), .ref (m + 24), .ref (m + 26), .ref (m + 28), .null, .null, .null, ze_i 0]) dX8_init_241 fl_X8_89 (Or.inr ⟨rfl, rfl⟩) p53.2.1 rfl rfl (Nat.le_of_ble_eq_true rfl) rfl (fun w54 z54 c54 o54 => ?_)
  have p54 := pre_put p53 z54 c54 o54
  refine ze_aload_n dX8_init_244 rfl ?_
  refine ze_nX7 dX8_init_245 cl_X8_31 (by decide) (by decide) (fun w55 z55 c55 o55 => ?_)
  refine ze_cs (cu' := 30) (su' := 33413) rfl rfl ?_
  rw [p54.1] at z55 c55 o55 ⊢
  refine ze_dup dX8_init_248 rfl ?_
  refine ze_sipush dX8_init_249 (by decide) ?_
  refine ze_callI (As := [ze_i ((420 : Nat) : Int)]) (rest := [.ref (m + 30), .ref m]) dX8_init_252 (C7_init (n := 420) c55 z55 (by decide)) mo7_init rfl rfl ml_X8_33 in_7_init rfl rfl rfl (by decide) rfl (Nat.le_of_ble_eq_true rfl) ?_
  rintro _ w56 ⟨rfl, z56, c56, d56, o56⟩
  have p56 := pre_big (L := 420) p54 (by decide) z56 c56 d56 (fun x h1 h2 => (o56 x h1 h2).trans (o55 x h1)) rfl rfl
  refine ze_cs (cu' := 31) (su' := 33833) rfl rfl ?_
  change ze_V G l (ze_rm 2 22275 702567) M8_init Z 255 [(0, .ref m)] [.ref (m + 30), .ref m] w56 31 33833
  refine ze_putfW (fs' := [.ref (m + 1), .ref (m + 2), .ref (m + 3), .ref (m + 4), .ref (m + 5), .ref (m + 6), ze_i 0, .ref (m + 7), ze_i 0, .ref (m + 8), .ref (m + 10), .ref (m + 11), .ref (m + 12), .ref (m + 13), .ref (m + 14), .ref (m + 15), .ref (m + 16), .ref (m + 17), ze_i 0, .ref (m + 18), .ref (m + 19), .ref (m + 20), .ref (m + 21), .ref (m + 22), .ref (m + 23), .ref (m + 24), .ref (m + 26), .ref (m + 28), .ref (m + 30), .null, .null, ze_i 0]) dX8_init_255 fl_X8_92 (Or.inr ⟨rfl, rfl⟩) p56.2.1 rfl rfl (Nat.le_of_ble_eq_true rfl) rfl (fun w57 z57 c57 o57 => ?_)
  have p57 := pre_put p56 z57 c57 o57
  refine ze_aload_n dX8_init_258 rfl ?_
  refine ze_nX7 dX8_init_259 cl_X8_31 (by decide) (by decide) (fun w58 z58 c58 o58 => ?_)
  refine ze_cs (cu' := 32) (su' := 33836) rfl rfl ?_
  rw [p57.1] at z58 c58 o58 ⊢
  refine ze_dup dX8_init_262 rfl ?_
  refine ze_sipush dX8_init_263 (by decide) ?_
  refine ze_callI (As := [ze_i ((420 : Nat) : Int)]) (rest := [.ref (m + 32), .ref m]) dX8_init_266 (C7_init (n := 420) c58 z58 (by decide)) mo7_init rfl rfl ml_X8_33 in_7_init rfl rfl rfl (by decide) rfl (Nat.le_of_ble_eq_true rfl) ?_
  rintro _ w59 ⟨rfl, z59, c59, d59, o59⟩
  have p59 := pre_big (L := 420) p57 (by decide) z59 c59 d59 (fun x h1 h2 => (o59 x h1 h2).trans (o58 x h1)) rfl rfl
  refine ze_cs (cu' := 33) (su' := 34256) rfl rfl ?_
  change ze_V G l (ze_rm 2 22275 702567) M8_init Z 269 [(0, .ref m)] [.ref (m + 32), .ref m] w59 33 34256
  refine ze_putfW (fs' := [.ref (m + 1), .ref (m + 2), .ref (m + 3), .ref (m + 4), .ref (m + 5), .ref (m + 6), ze_i 0, .ref (m + 7), ze_i 0, .ref (m + 8), .ref (m + 10), .ref (m + 11), .ref (m + 12), .ref (m + 13), .ref (m + 14), .ref (m + 15), .ref (m + 16), .ref (m + 17), ze_i 0, .ref (m + 18), .ref (m + 19), .ref (m + 20), .ref (m + 21), .ref (m + 22), .ref (m + 23), .ref (m + 24), .ref (m + 26), .ref (m + 28), .ref (m + 30), .ref (m + 32), .null, ze_i 0]) dX8_init_269 fl_X8_95 (Or.inr ⟨rfl, rfl⟩) p59.2.1 rfl rfl (Nat.le_of_ble_eq_true rfl) rfl (fun w60 z60 c60 o60 => ?_)
  have p60 := pre_put p59 z60 c60 o60
  refine ze_aload_n dX8_init_272 rfl ?_
  refine ze_nX7 dX8_init_273 cl_X8_31 (by decide) (by decide) (fun w61 z61 c61 o61 => ?_)
  refine ze_cs (cu' := 34) (su' := 34259) rfl rfl ?_
  rw [p60.1] at z61 c61 o61 ⊢
  refine ze_dup dX8_init_276 rfl ?_
  refine ze_iconst dX8_init_277 ?_
  refine ze_callI (As := [ze_i ((4 : Nat) : Int)]) (rest := [.ref (m + 34), .ref m]) dX8_init_278 (C7_init (n := 4) c61 z61 (by decide)) mo7_init rfl rfl ml_X8_33 in_7_init rfl rfl rfl (by decide) rfl (Nat.le_of_ble_eq_true rfl) ?_
  rintro _ w62 ⟨rfl, z62, c62, d62, o62⟩
  have p62 := pre_big (L := 4) p60 (by decide) z62 c62 d62 (fun x h1 h2 => (o62 x h1 h2).trans (o61 x h1)) rfl rfl
  refine ze_cs (cu' := 35) (su' := 34263) rfl rfl ?_
  change ze_V G l (ze_rm 2 22275 702567) M8_init Z 281 [(0, .ref m)] [.ref (m + 34), .ref m] w62 35 34263
  refine ze_putfW (fs' := [.ref (m + 1), .ref (m + 2), .ref (m + 3), .ref (m + 4), .ref (m + 5), .ref (m + 6), ze_i 0, .ref (m + 7), ze_i 0, .ref (m + 8), .ref (m + 10), .ref (m + 11), .ref (m + 12), .ref (m + 13), .ref (m + 14), .ref (m + 15), .ref (m + 16), .ref (m + 17), ze_i 0, .ref (m + 18), .ref (m + 19), .ref (m + 20), .ref (m + 21), .ref (m + 22), .ref (m + 23), .ref (m + 24), .ref (m + 26), .ref (m + 28), .ref (m + 30), .ref (m + 32), .ref (m + 34), ze_i 0]) dX8_init_281 fl_X8_98 (Or.inr ⟨rfl, rfl⟩) p62.2.1 rfl rfl (Nat.le_of_ble_eq_true rfl) rfl (fun w63 z63 c63 o63 => ?_)
  have p63 := pre_put p62 z63 c63 o63
  refine ze_iconst dX8_init_284 ?_
  refine ze_ti (b := ((0 : Nat) : Nat)) rfl ?_
  refine ze_istore_n (lv' := [(0, .ref m), (1, ze_i ((0 : Nat) : Nat))]) dX8_init_285 rfl rfl ?_
  refine ze_cs (cu' := 35 + 4 * 0) (su' := 34263 + 102 * 0) rfl rfl ?_
  exact l1 480 0 _ w63 rfl (pre_st2 p63) (fun j hj => absurd hj (Nat.not_lt_zero _)) (fun j hj => absurd hj (Nat.not_lt_zero _))
