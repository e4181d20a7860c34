/-! the law from its entry, and the claim -/
theorem hp_out0 {G : ze_G} {w : ze_W} {X lo P F V : Nat} {ar : Nat → Nat → Int} {cf : Nat → Option Nat} {pc : Nat → Nat} {w' : ze_W} (hH : hpc G w X lo 0 P F ar V cf pc none) (fr0 : ∀ u, u < X + 80 → w'.2 u = w.2 u) : hpc G w' X lo 0 P F ar V cf pc none := by
  obtain ⟨hX, h1, hrow, hwh, hsw, ⟨hlf, hrt⟩, htl, hfd, hcs, hor, hrk⟩ := id hH
  have fr : ∀ u, (X ≤ u ∧ u < X + 80) → w'.2 u = w.2 u := fun u hu => fr0 u hu.2
  exact ⟨(fr X (by omega)).trans hX, (fr (X + 1) (by omega)).trans h1, srw_sm hrow (fun u a1 a2 => fr u (by omega)), whz_sm hwh (fr _ (by omega)) (fr _ (by omega)), swp_sm hsw (fun u a1 a2 => fr u (by omega)), ⟨hlf.elim (fun v q => ⟨v, whz_sm q (fr _ (by omega)) (fr _ (by omega))⟩), hrt.elim (fun v q => ⟨v, whz_sm q (fr _ (by omega)) (fr _ (by omega))⟩)⟩, tlp_sm htl (fun u a1 a2 => fr u (by omega)), hfd.elim (fun ff q => ⟨ff, (fr _ (by omega)).trans q.1, q.2⟩), fun c hc => absurd hc (Nat.not_lt_zero _), hor, fun R hR => nomatch hR⟩
theorem law_entry {G : ze_G} {l : Launch} {b L X : Nat} {xs : Nat → Int32} {w : ze_W} (hL : L ≤ 2560) (hw : w.1 = X) : ze_V G l room_1 ML_law (lz G b L xs) 0 [(0, .ref b)] [] w 0 0 := by
  refine ze_nX6 dL_law_0 cl_L_7 (by decide) (by decide) (fun w1 z1 c1 o1 => ?_)
  rw [hw] at z1 c1 o1 ⊢
  refine ze_dup dL_law_3 rfl ?_
  refine ze_callI (As := []) (rest := [.ref X]) dL_law_4 (C6_init c1 z1) mo6_init rfl rfl ml_L_9 in_6_init rfl rfl rfl (by decide) rfl (Nat.le_of_ble_eq_true rfl) ?_
  rintro _ w2 ⟨rfl, z2, o2, h2⟩
  refine ze_astore_n (lv' := [(0, .ref b), (1, .ref X)]) dL_law_7 rfl rfl ?_
  refine ze_nX8 dL_law_8 cl_L_10 (by decide) (by decide) (fun w3 z3 c3 o3 => ?_)
  rw [z2] at z3 c3 o3 ⊢
  refine ze_dup dL_law_11 rfl ?_
  refine ze_callI (As := []) (rest := [.ref (X + 80)]) dL_law_12 (C8_init c3 z3) mo8_init rfl rfl ml_L_12 in_8_init rfl rfl rfl (by decide) rfl (Nat.le_of_ble_eq_true rfl) ?_
  rintro _ w4 ⟨rfl, o4, z4, h4⟩
  refine ze_astore_n (lv' := [(0, .ref b), (1, .ref X), (2, .ref (X + 80))]) dL_law_15 rfl rfl ?_
  refine ze_iconst dL_law_16 ?_
  refine ze_ti (b := ((5 * 0 : Nat))) rfl ?_
  refine ze_istore_n (lv' := [(0, .ref b), (1, .ref X), (2, .ref (X + 80)), (3, ze_i ((5 * 0 : Nat)))]) dL_law_17 rfl rfl ?_
  refine ze_cs (cu' := 22356 + 4 * 0 + 665 * 0) (su' := 705383 + 126 * 0 + 24400 * 0) rfl rfl ?_
  have hI : linv G w4 X (X + 80) none := ⟨Nat.le_refl _, Nat.le_of_eq z4.symm, 0, 0, 0, fun _ _ => 0, fun _ => 0, fun _ => none, fun _ => 0, h4, ⟨⟨by decide, by decide, by decide⟩, fun c hc => absurd hc (Nat.not_lt_zero _), fun i hi => absurd hi (Nat.not_lt_zero _), fun i hi => absurd hi (Nat.not_lt_zero _)⟩, Int.le_refl 0, hp_out0 (h2 (X + 80 + 22276)) (fun u hu => (o4 u hu).trans (o3 u (Nat.ne_of_lt hu)))⟩
  exact law_loop hL (L + 1) 0 none 0 w4 (by omega) (by omega) (Or.inl ⟨rfl, rfl⟩) hI
theorem lw_in {i : Nat} {w : Cond} (h : tables_1[i]? = some w) : w ∈ lw_tbl := List.mem_append_right _ (List.mem_of_getElem? h)
theorem lw_ov {s : State} {A : Array Value} {C : String} (h : (Cond.arrayOver (.object C)).before A s = true) : ∃ cA : ClassId, ArrOfT s cA (.object C) ∧ va_RA s cA (.object C) := by
  obtain ⟨comp, c, k, h1, h2, h3, h4, h5⟩ := Cond.arrayOver_spec h
  exact ⟨c, fun n z => ⟨fun k h => (by cases h), k, h3, comp, h4⟩, k, comp, h3, h4, h1, h5⟩
theorem lw_ai {s : State} {A : Array Value} (h : (Cond.arrayClass .int).before A s = true) : ∃ cA : ClassId, ArrOfT s cA .int ∧ va_RA s cA .int := by
  obtain ⟨c, k, comp, h1, h2, h3⟩ := Cond.arrayClass_spec h
  exact ⟨c, fun n z => ⟨fun k h => (by cases h), k, h2, comp, h3⟩, h1⟩
theorem lw_al {s : State} {A : Array Value} (h : (Cond.arrayClass .long).before A s = true) : ∃ cA : ClassId, ArrOfT s cA .long ∧ va_RA s cA .long := by
  obtain ⟨c, k, comp, h1, h2, h3⟩ := Cond.arrayClass_spec h
  exact ⟨c, fun n z => ⟨fun k h => (by cases h), k, h2, comp, h3⟩, h1⟩
def lw_st : Term := .static "HiddenSteps" "PRIMES" "[I"
theorem lw_pt {s : State} {args : Array Value} (hgv : (Jvm.Cond.and given_1 narrow_1).before args s = true) : ∃ t : Nat, lw_st.eval args s none [] s = some (.ref t) ∧ va_T .int t 10 (fun j => .int (Int32.ofInt (ze_pr j))) (fun q : Nat => s.heap.size ≤ q) s s.heap := by
  have hs := flat_of_before _ hgv
  have harr : (Cond.arrayOf lw_st .int).before args s = true := hs _ (by decide +kernel)
  have hlen : (Cond.eq (.length lw_st) (.int 10)).before args s = true := hs _ (by decide +kernel)
  have e0 : (Cond.eq (.elem lw_st (.int 0)) (.int 2147483647)).before args s = true := hs _ (by decide +kernel)
  have e1 : (Cond.eq (.elem lw_st (.int 1)) (.int 2147483629)).before args s = true := hs _ (by decide +kernel)
  have e2 : (Cond.eq (.elem lw_st (.int 2)) (.int 2147483587)).before args s = true := hs _ (by decide +kernel)
  have e3 : (Cond.eq (.elem lw_st (.int 3)) (.int 2147483579)).before args s = true := hs _ (by decide +kernel)
  have e4 : (Cond.eq (.elem lw_st (.int 4)) (.int 2147483563)).before args s = true := hs _ (by decide +kernel)
  have e5 : (Cond.eq (.elem lw_st (.int 5)) (.int 2147483549)).before args s = true := hs _ (by decide +kernel)
  have e6 : (Cond.eq (.elem lw_st (.int 6)) (.int 2147483543)).before args s = true := hs _ (by decide +kernel)
  have e7 : (Cond.eq (.elem lw_st (.int 7)) (.int 2147483497)).before args s = true := hs _ (by decide +kernel)
  have e8 : (Cond.eq (.elem lw_st (.int 8)) (.int 2147483489)).before args s = true := hs _ (by decide +kernel)
  have e9 : (Cond.eq (.elem lw_st (.int 9)) (.int 2147483477)).before args s = true := hs _ (by decide +kernel)
  refine va_Tof (by decide) harr (va_eqt hlen) (fun j hj => ?_) (fun a ha h => absurd h (Nat.not_le.mpr ha))
  match j, hj with
  | 0, _ => exact (va_eqt e0).trans (congrArg (fun v => some (Value.int v)) (by decide))
  | 1, _ => exact (va_eqt e1).trans (congrArg (fun v => some (Value.int v)) (by decide))
  | 2, _ => exact (va_eqt e2).trans (congrArg (fun v => some (Value.int v)) (by decide))
  | 3, _ => exact (va_eqt e3).trans (congrArg (fun v => some (Value.int v)) (by decide))
  | 4, _ => exact (va_eqt e4).trans (congrArg (fun v => some (Value.int v)) (by decide))
  | 5, _ => exact (va_eqt e5).trans (congrArg (fun v => some (Value.int v)) (by decide))
  | 6, _ => exact (va_eqt e6).trans (congrArg (fun v => some (Value.int v)) (by decide))
  | 7, _ => exact (va_eqt e7).trans (congrArg (fun v => some (Value.int v)) (by decide))
  | 8, _ => exact (va_eqt e8).trans (congrArg (fun v => some (Value.int v)) (by decide))
  | 9, _ => exact (va_eqt e9).trans (congrArg (fun v => some (Value.int v)) (by decide))
  | (k + 10), h => exact absurd h (by omega)
theorem whole_start {p : Program} {e : Env} {s : State} {m : MethodId} {below : List Frame} {meth : Method} {c : Code} (l : Launch) {b L : Nat} {xs : Nat → Int32} (hL : L ≤ 2560) (hnm : meth.name = "law") (C0 : lw_At p s m meth c b L xs) : W p l e room_1 s m #[Value.ref b] below meth c s.heap [] 0 0 (lw_Z below #[Value.ref b] s) (entryFrame m ([Value.ref b] : List Value).toArray 4) := by
  obtain ⟨hx, hb, hr, hml, hown, hts, hX, hbl, hlocks, hgv⟩ := id C0
  have hT : ∀ w ∈ ze_T, w.before #[Value.ref b] s = true := fun w hw => hts w (List.mem_filter.mp hw).1
  obtain ⟨c0, i0, k0⟩ := u_known (C := RX0) (T := TX0) (N := 6) (n := 6) hT inX0 (hT _ b_X0)
  obtain ⟨c1, i1, k1⟩ := u_known (C := RX1) (T := TX1) (N := 8) (n := 8) hT inX1 (hT _ b_X1)
  obtain ⟨c2, i2, k2⟩ := u_known (C := RX2) (T := TX2) (N := 2) (n := 2) hT inX2 (hT _ b_X2)
  obtain ⟨c3, i3, k3⟩ := u_known (C := RX3) (T := TX3) (N := 6) (n := 6) hT inX3 (hT _ b_X3)
  obtain ⟨c4, i4, k4⟩ := u_known (C := RX4) (T := TX4) (N := 15) (n := 15) hT inX4 (hT _ b_X4)
  obtain ⟨c5, i5, k5⟩ := u_known (C := RX5) (T := TX5) (N := 2) (n := 2) hT inX5 (hT _ b_X5)
  obtain ⟨c6, i6, k6⟩ := u_known (C := RX6) (T := TX6) (N := 11) (n := 11) hT inX6 (hT _ b_X6)
  obtain ⟨c7, i7, k7⟩ := u_known (C := RX7) (T := TX7) (N := 3) (n := 3) hT inX7 (hT _ b_X7)
  obtain ⟨c8, i8, k8⟩ := u_known (C := RX8) (T := TX8) (N := 32) (n := 32) hT inX8 (hT _ b_X8)
  obtain ⟨a0, p0, q0⟩ := lw_ai (hT _ ar_int)
  obtain ⟨a1, p1, q1⟩ := lw_al (hT _ ar_long)
  have v5 : (Cond.arrayOver (.object RX5)).before #[Value.ref b] s = true := hts _ (lw_in (i := 64) (by decide +kernel))
  have v0 : (Cond.arrayOver (.object RX0)).before #[Value.ref b] s = true := hts _ (lw_in (i := 23) (by decide +kernel))
  have v7 : (Cond.arrayOver (.object RX7)).before #[Value.ref b] s = true := hts _ (lw_in (i := 647) (by decide +kernel))
  obtain ⟨a2, p2, q2⟩ := lw_ov v5
  obtain ⟨a3, p3, q3⟩ := lw_ov v0
  obtain ⟨a4, p4, q4⟩ := lw_ov v7
  obtain ⟨t, ht, hVT⟩ := lw_pt hgv
  obtain ⟨dC, hdC⟩ : ∃ dC : Nat → ClassId, dC = fun k => if k = 0 then c0 else if k = 1 then c1 else if k = 2 then c2 else if k = 3 then c3 else if k = 4 then c4 else if k = 5 then c5 else if k = 6 then c6 else if k = 7 then c7 else c8 := ⟨_, rfl⟩
  obtain ⟨dI, hdI⟩ : ∃ dI : Nat → Nat → Nat, dI = fun k => if k = 0 then i0 else if k = 1 then i1 else if k = 2 then i2 else if k = 3 then i3 else if k = 4 then i4 else if k = 5 then i5 else if k = 6 then i6 else if k = 7 then i7 else i8 := ⟨_, rfl⟩
  obtain ⟨dA, hdA⟩ : ∃ dA : Nat → ClassId, dA = fun k => if k = 0 then a0 else if k = 1 then a1 else if k = 2 then a2 else if k = 3 then a3 else a4 := ⟨_, rfl⟩
  have hKc : ∀ (k : Nat) (q : vw_C), ze_cl[k]? = some q → u_Kn s q.1 q.2.1 q.2.2 (dC k) (dI k) := by
    intro k q hq
    rw [hdC, hdI]
    match k, hq with
    | 0, hq => cases hq; exact k0
    | 1, hq => cases hq; exact k1
    | 2, hq => cases hq; exact k2
    | 3, hq => cases hq; exact k3
    | 4, hq => cases hq; exact k4
    | 5, hq => cases hq; exact k5
    | 6, hq => cases hq; exact k6
    | 7, hq => cases hq; exact k7
    | 8, hq => cases hq; exact k8
    | k + 9, hq => simp [ze_cl] at hq
  have hKt : ∀ (k : Nat) (q : ClassId × FieldType), (ze_ty (dC, dI, dA, s.heap.size, t))[k]? = some q → ArrOfT s q.1 q.2 ∧ va_RA s q.1 q.2 := by
    intro k q hq
    rw [hdA] at hq
    match k, hq with
    | 0, hq => cases hq; exact ⟨p0, q0⟩
    | 1, hq => cases hq; exact ⟨p1, q1⟩
    | 2, hq => cases hq; exact ⟨p2, q2⟩
    | 3, hq => cases hq; exact ⟨p3, q3⟩
    | 4, hq => cases hq; exact ⟨p4, q4⟩
    | k + 5, hq => simp [ze_ty] at hq
  have hK : ze_K (dC, dI, dA, s.heap.size, t) s := ⟨⟨hKc, hKt⟩, ⟨va_Nw.of rfl (hts ze_n1 (lw_in (i := 60) (by decide +kernel))), va_Nw.of rfl (hts ze_n2 (lw_in (i := 434) (by decide +kernel))), va_Nw.of rfl (hts ze_n3 (lw_in (i := 553) (by decide +kernel))), va_Nw.of rfl (hts ze_n4 (lw_in (i := 639) (by decide +kernel)))⟩, va_AO.of v5, va_AO.of v0, va_AO.of v7⟩
  have hZ : ze_Z (dC, dI, dA, s.heap.size, t) s s.heap := ⟨va_Zref (hts (.laysStatic "HiddenSteps" "PRIMES" "[I") (lw_in (i := 554) (by decide +kernel))) (hT _ n_X6) ht (fun a ha h => absurd h (Nat.not_le.mpr ha)), hVT⟩
  have hH : ze_H (dC, dI, dA, s.heap.size, t) (s.heap.size, fun _ => none) s.heap := ⟨rfl, fun a e h => nomatch h⟩
  have hl := lv_entry ([.ref b]) (n := 4) (Nat.le_of_ble_eq_true rfl)
  rw [lg_entry_eq]
  have hV := law_entry (G := (dC, dI, dA, s.heap.size, t)) (l := l) (b := b) (xs := xs) (w := (s.heap.size, fun _ => none)) hL rfl p e s m #[Value.ref b] below meth c s.heap [] _ ⟨hx, hb, hml, hr, hlocks, hown, hT, hK, hZ, Nat.le_refl _, hnm⟩ hH va_S.rf hl
  intro T hT2 X2
  obtain ⟨t2, g1, g2⟩ := hV T hT2 X2
  exact ⟨t2, g1, g2 ⟨rfl, hX, hbl, rfl⟩⟩
set_option maxHeartbeats 4000000 in
theorem lw_walk (l : Launch) (b : Addr) (xs : List Int32) : MetFree l x (headSpec (Jvm.Cond.code x code maxLocals ret :: tables_1) room_1) (lw_P b xs) (fun _ _ _ _ _ => True) lw_Q := by
  refine MetFree.of_bodyS (code := code) (maxLocals := maxLocals) (ret := ret) (by decide) ?_ ?_
  · intro args s m h hn
    obtain ⟨meth, c, h1, h2, h3, h4, h5, h6, -, -⟩ := Cond.code_spec hn (atoms_spec (ws := Jvm.Cond.code x code maxLocals ret :: tables_1) h _ List.mem_cons_self)
    exact ⟨meth, c, h1, h2, h3, h4, h5, h6⟩
  · intro p e s m args below meth c s₁ B hml0 hP _
    obtain ⟨rfl, hx, hbd, hgv⟩ := hP
    obtain ⟨scr, harrAt, hlist, hof, hsmall⟩ := hx
    obtain ⟨hcb, hkn, -, -⟩ := State.arrayAt?_spec harrAt
    have hown : s.vm.findClass R_law = some m.cls := findClass_of_methodNamed B.named
    have hts0 : ∀ c ∈ (Jvm.Cond.code x code maxLocals ret :: tables_1), c.before #[Value.ref b] s = true := atoms_spec (ws := Jvm.Cond.code x code maxLocals ret :: tables_1) B.pre
    have hts : ∀ w ∈ lw_tbl, w.before #[Value.ref b] s = true := k2_hts_sels lw_privs (fun w hw => hts0 w (List.mem_cons_of_mem _ hw)) lw_privs_ok
    have hml : c.maxLocals = 4 := B.maxLocals_eq (hts0 _ List.mem_cons_self)
    have X₀ : Stand p l e room_1 s m #[Value.ref b] below meth c s₁ [] 0 0 := Stand.of_body B
    have hh0 : s₁.heap = s.heap := by rw [B.state]; rfl
    have hsz : scr.slots.size = xs.length := by rw [← Array.length_toList, hlist, List.length_map]
    have hval : ∀ j : Nat, j < xs.length → scr.slots[j]? = some (.int (xs.getD j 0)) := fun j hj => by
      rw [← Array.getElem?_toList, hlist]
      simp [hj]
    have hbl : b < s.heap.size := (Array.getElem?_eq_some_iff.mp hcb).1
    have hX : va_X b xs.length (fun j => xs.getD j 0) s s.heap := ⟨scr, hcb, hof, hkn, hsz, hval⟩
    have K : W p l e room_1 s m #[Value.ref b] below meth c s₁.heap [] 0 0 (lw_Z below #[Value.ref b] s) (entryFrame m ([Value.ref b] : List Value).toArray 4) := by
      rw [hh0]
      exact whole_start l hbd (name_of_methodNamed B.named B.method).1 ⟨B.exec, B.bytes, B.returns, hml, hown, hts, hX, hbl, B.notSynchronized, hgv⟩
    obtain ⟨t, a1, o, b1, b2, b3⟩ := K s₁ rfl X₀
    exact ⟨t, o, a1, b1, b2, b3⟩
theorem lw_pre_spec {args : Array Value} {s : State} (h : (Jvm.Cond.and given_1 narrow_1).before args s = true) (hr : rest_1_c.before args s = true) : ∃ (b : Addr) (xs : List Int32), lw_P b xs args s := by
  have hs := flat_of_before _ h
  have hq := flat_of_before _ hr
  have hc : (Cond.count 1).before args s = true := hs _ (by decide +kernel)
  have harr : (Cond.arrayOf (.arg 0) .int).before args s = true := hs _ (by decide +kernel)
  have hle : (Cond.le (.length (.arg 0)) (.int 2560)).before args s = true := hs _ (by decide +kernel)
  have hlen : (Cond.isInt (.length (.arg 0))).before args s = true := hq _ (by decide +kernel)
  have hall : (Cond.all (.arg 0) (.isInt (.elem (.arg 0) (.index 0)))).before args s = true := hq _ (by decide +kernel)
  obtain ⟨b, xs, hb, hx⟩ := State.ints_of_pre rfl harr hlen hall
  have hsm : xs.length < 2 ^ 31 := hx.choose_spec.2.2.2
  have hev : (Term.length (.arg 0)).eval args s none [] s = some (.int xs.length.toInt32) := hx.length_eval hb
  have hv := Cond.le_ints hev (show (Term.int 2560).eval args s none [] s = some (.int 2560) from rfl)
  have hd : xs.length.toInt32 ≤ 2560 := by
    simpa [Cond.before, Cond.holds, hv] using hle
  have hN : xs.length ≤ 2560 := (Int32.ofNat_le_ofNat hsm (by decide)).mp (show Int32.ofNat xs.length ≤ Int32.ofNat 2560 from hd)
  exact ⟨b, xs, Cond.one_arg hc (show args[0]? = some (.ref b) from hb), hx, hN, h⟩
theorem lw_comes (l : Launch) : Comes l x (Jvm.Cond.code x code maxLocals ret :: tables_1) room_1 (fun tb e args s => Calls_1 tb e args s ∧ rest_1 tb e args s ∧ Pre_1 tb e args s)
    (fun _ _ args s o t => lw_Q args s o t) := by
  intro p e ha hc hk s m args below hf hfit hheap happ hpre
  obtain ⟨b, xs, hP⟩ := lw_pre_spec hpre.2.2 hpre.2.1
  obtain ⟨k, o, h1, h2, h3, hQ⟩ := lw_walk l b xs p e ha hc hk s m args below hf ((Spec.applies_iff_loose hf).mp happ).1 hP trivial
  exact ⟨k, o, h1, h2, h3, hQ⟩
theorem lw_frame {s t : State} {o : Outcome} {args : Array Value} (h : Framed s o t [] 600000 7302250) :
    Framed s o t (fieldLocs frame_1_writes args s ++ arrayLocs frame_1_arrays args s ++ staticLocs frame_1_statics s) 600000 7302250 := h
theorem lw_limb (L : Cond) (hL : ∀ (args : Array Value) (s t : State), L.after args s (.returned (some (.int 1))) t = true) :
    ArmFor flags0 classFile x code maxLocals ret World_1 tables_1 room_1 Calls_1 rest_1 Pre_1
      (fun tb e a s o t => postC L tb e a s o t ∧ Framed s o t (fieldLocs frame_1_writes a s ++ arrayLocs frame_1_arrays a s ++ staticLocs frame_1_statics s) 600000 7302250) := by
  intro l _ _ _ p e ha hc hk s m args below hf hfit hheap happ hpre
  obtain ⟨k, o, h1, h2, h3, rfl, hF⟩ := lw_comes l p e ha hc hk s m args below hf hfit hheap happ hpre
  exact ⟨k, _, h1, h2, h3, hL args s _, lw_frame hF⟩
theorem i_vc : Claimed_1_1 ∧ Claimed_1_2 := ⟨lw_limb limb_1_1 (fun args s t => by simp [limb_1_1, Cond.after, Cond.holds, Cond.value]), lw_limb limb_1_2 (fun args s t => Cond.after_iff.mpr (by
  first | (rw [show limb_1_2 = Cond.eq .result (.int 1) from rfl, Cond.eq_ints (x := 1) (y := 1) rfl rfl]; simp; done) | (simp [limb_1_2, Cond.value, Term.eval]; done)))⟩
