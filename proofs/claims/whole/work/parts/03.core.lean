/-! THE ENGINE: a store by addresses (all that lies from b0 on), method walks over it, contracts. -/
abbrev ze_M : Type := MethodName × ByteArray × Nat × Option FieldType
/-- class numbers, slots, array classes, b0, the address of the static row of primes -/
abbrev ze_G : Type := (Nat → ClassId) × (Nat → Nat → Nat) × (Nat → ClassId) × Nat × Nat
abbrev ze_W : Type := Nat × (Nat → Option va_E)
def ze_T : List Cond := lw_tbl.filter goodWord
abbrev ze_cl : List vw_C := [(RX0, TX0, 6), (RX1, TX1, 8), (RX2, TX2, 2), (RX3, TX3, 6), (RX4, TX4, 15), (RX5, TX5, 2), (RX6, TX6, 11), (RX7, TX7, 3), (RX8, TX8, 32)]
abbrev ze_ty (G : ze_G) : List (ClassId × FieldType) := [(G.2.2.1 0, .int), (G.2.2.1 1, .long), (G.2.2.1 2, .object RX5), (G.2.2.1 3, .object RX0), (G.2.2.1 4, .object RX7)]
def ze_pl : List Int := [2147483647, 2147483629, 2147483587, 2147483579, 2147483563, 2147483549, 2147483543, 2147483497, 2147483489, 2147483477]
def ze_pr (j : Nat) : Int := ze_pl.getD j 0
def ze_A (G : ze_G) : Nat → Prop := fun q => G.2.2.2.1 ≤ q
def ze_n1 : Cond := .methodLinkNest RX3 9 yX6_makeWholes RX6
def ze_n2 : Cond := .methodLinkNest RX1 9 yX6_makeWholes RX6
def ze_n3 : Cond := .fieldLinkNest RX4 93 RX6 "PRIMES" "[I" RX6
def ze_n4 : Cond := .fieldLinkNest RX8 157 RX7 "sign" "I" RX8
def ze_K (G : ze_G) (U : State) : Prop := va_K (G.1, G.2.1) ze_cl (ze_ty G) U ∧ (va_Nw ze_n1 U ∧ va_Nw ze_n2 U ∧ va_Nw ze_n3 U ∧ va_Nw ze_n4 U) ∧ (va_AO RX5 U ∧ va_AO RX0 U ∧ va_AO RX7 U)
def ze_Z (G : ze_G) (U : State) (H : Heap) : Prop := va_Z "HiddenSteps" "PRIMES" "[I" (.ref G.2.2.2.2) (ze_A G) U H ∧ va_T .int G.2.2.2.2 10 (fun j => .int (Int32.ofInt (ze_pr j))) (ze_A G) U H
def ze_H (G : ze_G) (w : ze_W) (H : Heap) : Prop := H.size = w.1 ∧ ∀ (a : Nat) (e : va_E), w.2 a = some e → G.2.2.2.1 ≤ a ∧ va_at (G.1, G.2.1) ze_cl (a, e) H
def ze_Pr (G : ze_G) (w : ze_W) (U : State) : Prop := ze_H G w U.heap ∧ ze_K G U ∧ ze_Z G U U.heap ∧ G.2.2.2.1 ≤ U.heap.size
def ze_X (G : ze_G) (M : ze_M) (p : Program) (s : State) (m : MethodId) (args : Array Value) (meth : Method) (c : Code) : Prop :=
  p.tables.exec = Jvm.exec ∧ c.code = M.2.1 ∧ c.maxLocals = M.2.2.1 ∧ meth.sig.returnType = M.2.2.2 ∧ meth.locks = false ∧ s.vm.findClass M.1.cls = some m.cls ∧ (∀ w ∈ ze_T, w.before args s = true) ∧ ze_K G s ∧ ze_Z G s s.heap ∧ G.2.2.2.1 ≤ s.heap.size ∧ meth.name = M.1.name
/-- the walk: at pc, with these locals, this stack, this store, cu cells of su slots made so far -/
def ze_V (G : ze_G) (l : Launch) (R : Room) (M : ze_M) (Z : List Frame → Array Value → State → State → Prop) (pc : Nat) (lv : List (Nat × Value)) (st : List Value) (w : ze_W) (cu su : Nat) : Prop :=
  ∀ (p : Program) (e : Env) (s : State) (m : MethodId) (args : Array Value) (below : List Frame) (meth : Method) (c : Code) (H : Heap) (locs : List Loc) (ls : Array Slot),
    ze_X G M p s m args meth c → ze_H G w H → va_S (ze_A G) s.heap H locs → lv_has ls M.2.2.1 lv → W p l e R s m args below meth c H locs cu su (Z below args s) (F0 m pc ls st)
def ze_Qc (G : ze_G) (Q : Option Value → ze_W → Prop) : Array Value → State → Outcome → State → Prop := fun _ st oc t => (∃ (v : Option Value) (w : ze_W), oc = .returned v ∧ Q v w ∧ ze_H G w t.heap) ∧ va_F (ze_A G) st t
def ze_Q (G : ze_G) (Q : Option Value → ze_W → Prop) (mc ms : Nat) : List Frame → Array Value → State → State → Prop := fun below args s => MQ below (ze_Qc G Q) args s mc ms (ze_A G)
def ze_rm (k mc ms : Nat) : Room := { frames := k, cells := mc, slots := ms, locals := 45 * k }
def ze_ws (M : ze_M) : List Cond := Cond.code M.1 M.2.1 M.2.2.1 M.2.2.2 :: ze_T
/-- a method's contract at level k: from the arguments av and the store w it returns with Q; at most mc cells of ms slots are new -/
def ze_C (G : ze_G) (l : Launch) (k mc ms : Nat) (M : ze_M) (av : List Value) (w : ze_W) (Q : Option Value → ze_W → Prop) : Prop :=
  Met l M.1 (ze_ws M) (ze_rm k mc ms) (va_Pc av (ze_Pr G w)) (ze_Qc G Q) mc ms (ze_A G)
abbrev ze_i (z : Int) : Value := .int (Int32.ofInt z)
abbrev ze_l (z : Int) : Value := .long (Int64.ofInt z)
def ze_qi (Q : Int → ze_W → Prop) : Option Value → ze_W → Prop := fun v w => ∃ r : Int, v = some (ze_i r) ∧ Q r w
def ze_ql (Q : Int → ze_W → Prop) : Option Value → ze_W → Prop := fun v w => ∃ r : Int, v = some (ze_l r) ∧ Q r w
def ze_qv (Q : ze_W → Prop) : Option Value → ze_W → Prop := fun v w => v = none ∧ Q w
def ze_qr (Q : Option Nat → ze_W → Prop) : Option Value → ze_W → Prop := fun v w => ∃ r : Option Nat, v = some (va_rf r) ∧ Q r w
/-- contents -/
abbrev ze_ia (G : ze_G) (n : Nat) (f : Nat → Int) : va_E := .inl (G.2.2.1 0, n, .inl (fun j => Int32.ofInt (f j)))
abbrev ze_la (G : ze_G) (n : Nat) (f : Nat → Int) : va_E := .inl (G.2.2.1 1, n, .inr (.inl (fun j => Int64.ofInt (f j))))
abbrev ze_ra (G : ze_G) (t n : Nat) (f : Nat → Option Nat) : va_E := .inl (G.2.2.1 t, n, .inr (.inr (.inr (.inr f))))
abbrev ze_ob (ci : Nat) (fs : List Value) : va_E := .inr (ci, fs)
def ze_up (w : ze_W) (a : Nat) (e : va_E) : ze_W := (w.1, fun x => if x = a then some e else w.2 x)
def ze_ad (w : ze_W) (e : va_E) : ze_W := (w.1 + 1, fun x => if x = w.1 then some e else w.2 x)
theorem ze_up_1 (w : ze_W) (a : Nat) (e : va_E) : (ze_up w a e).1 = w.1 := rfl
theorem ze_up_s (w : ze_W) (a : Nat) (e : va_E) : (ze_up w a e).2 a = some e := by simp [ze_up]
theorem ze_up_n (w : ze_W) {a x : Nat} (e : va_E) (h : x ≠ a) : (ze_up w a e).2 x = w.2 x := by simp [ze_up, h]
theorem ze_ad_1 (w : ze_W) (e : va_E) : (ze_ad w e).1 = w.1 + 1 := rfl
theorem ze_ad_s (w : ze_W) (e : va_E) : (ze_ad w e).2 w.1 = some e := by simp [ze_ad]
theorem ze_ad_n (w : ze_W) {x : Nat} (e : va_E) (h : x ≠ w.1) : (ze_ad w e).2 x = w.2 x := by simp [ze_ad, h]
theorem ze_up_up (w : ze_W) (a : Nat) (e e' : va_E) : ze_up (ze_up w a e) a e' = ze_up w a e' := by
  unfold ze_up
  congr 1
  funext x
  by_cases h : x = a <;> simp [h]
/-- words -/
theorem ze_mem {i : Nat} {w : Cond} (h : tables_1[i]? = some w) (hg : goodWord w = true) : w ∈ ze_T :=
  List.mem_filter.mpr ⟨List.mem_append_right _ (List.mem_of_getElem? h), hg⟩
theorem ze_mem2 {i : Nat} {w : Cond} (h : (k2_sels lw_privs)[i]? = some w) (hg : goodWord w = true) : w ∈ ze_T :=
  List.mem_filter.mpr ⟨List.mem_append_left _ (List.mem_of_getElem? h), hg⟩
theorem ze_good : ∀ w ∈ ze_T, (w.onTables && w.keeps) = true ∨ ∃ ty, w = .arrayClass ty := fun _ h => good_of_word (List.mem_filter.mp h).2
theorem ze_K.moved {G : ze_G} {u U : State} (hW : u.WarmedH U.vm) (h : ze_K G u) : ze_K G U := by
  obtain ⟨h1, ⟨n1, n2, n3, n4⟩, a1, a2, a3⟩ := h
  exact ⟨va_K.moved hW.alike h1, ⟨va_Nw.warmM hW n1, va_Nw.warmM hW n2, va_Nw.warmF hW n3, va_Nw.warmF hW n4⟩, va_AO.moved hW.alike a1, va_AO.moved hW.alike a2, va_AO.moved hW.alike a3⟩
theorem ze_K.calling {G : ze_G} {U : State} {g : JFrame} {mk : MethodId} {a : Array Value} (h : ze_K G U) : ze_K G (U.calling g mk a) := by
  obtain ⟨h1, ⟨n1, n2, n3, n4⟩, a1, a2, a3⟩ := h
  have hv : U.vm.Alike (U.calling g mk a).vm := Vm.Alike.refl U.vm
  exact ⟨va_K.moved hv h1, ⟨va_Nw.same rfl rfl n1, va_Nw.same rfl rfl n2, va_Nw.same rfl rfl n3, va_Nw.same rfl rfl n4⟩, va_AO.moved hv a1, va_AO.moved hv a2, va_AO.moved hv a3⟩
theorem ze_Z.moved {G : ze_G} {u U : State} {H H1 : Heap} (hv : u.vm.Alike U.vm) (hb : G.2.2.2.1 ≤ H.size) (hs : ∀ q : Nat, q < H.size → ¬ ze_A G q → H1[q]? = H[q]?) (h : ze_Z G u H) : ze_Z G U H1 := by
  obtain ⟨h1, h2⟩ := h
  refine ⟨?_, (va_T.moved hv h2).kept hs⟩
  obtain ⟨cf, kf, fi, f, a, cell, q1, q2, q3, q4, q5, q6, q7, q8⟩ := va_Z.moved hv h1
  exact ⟨cf, kf, fi, f, a, cell, q1, q2, q3, q4, by rw [hs a (Array.getElem?_eq_some_iff.mp q5).1 q8]; exact q5, q6, q7, q8⟩
theorem ze_Pr.calling {G : ze_G} {w : ze_W} {U : State} {g : JFrame} {mk : MethodId} {a : Array Value} (h : ze_Pr G w U) : ze_Pr G w (U.calling g mk a) :=
  ⟨h.1, h.2.1.calling, h.2.2.1.moved (Vm.Alike.refl U.vm) h.2.2.2 (fun _ _ _ => rfl), h.2.2.2⟩
theorem ze_blind {G : ze_G} {w : ze_W} {av : List Value} : FrameBlind (va_Pc av (ze_Pr G w)) := fun _ _ _ _ h => ⟨h.1, h.2.calling⟩
theorem ze_pre {G : ze_G} {M : ze_M} {w : ze_W} {p : Program} {s : State} {m : MethodId} {args : Array Value} {meth : Method} {c : Code} {H : Heap} {locs : List Loc} (X : ze_X G M p s m args meth c) (hH : ze_H G w H) (hS : va_S (ze_A G) s.heap H locs) {U : State} (hU : U.heap = H) (hW : s.WarmedH U.vm) : ze_Pr G w U := by
  obtain ⟨-, -, -, -, -, -, -, hK, hZ, hb, -⟩ := X
  refine ⟨by rw [hU]; exact hH, hK.moved hW, ?_, by rw [hU]; exact Nat.le_trans hb hS.1⟩
  rw [hU]
  exact hZ.moved hW.alike hb hS.2.1
