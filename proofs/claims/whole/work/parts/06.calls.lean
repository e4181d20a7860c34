/-! calls -/
/-- a method of ours: its code stands in the tables, how many parameters it has -/
def ze_mo (M : ze_M) (n : Nat) : Prop := Cond.code M.1 M.2.1 M.2.2.1 M.2.2.2 ∈ ze_T ∧ Cond.initialized M.1.cls ∈ ze_T ∧ (M.1.cls ≠ "java/lang/invoke/MethodHandle" ∧ M.1.cls ≠ "java/lang/invoke/VarHandle" ∧ (parseMethodDescriptor M.1.desc).map (fun d => d.parameters.length) = some n)
theorem ze_gi {M : ze_M} {n : Nat} (h : ze_mo M n) : GoodIn ze_T (ze_ws M) := by
  intro w hw
  have hm : w ∈ ze_T := by
    rcases List.mem_cons.mp hw with rfl | hw
    · exact h.1
    · exact hw
  exact ⟨hm, ze_good w hm⟩
section ZC
variable {G : ze_G} {l : Launch} {R : Room} {M M' : ze_M} {Z : List Frame → Array Value → State → State → Prop} {pc : Nat} {lv : List (Nat × Value)} {st rest : List Value} {w : ze_W} {cu su : Nat} {k mc ms n ix : Nat} {Q : Option Value → ze_W → Prop}
theorem ze_run {p : Program} {e : Env} {s : State} {m : MethodId} {args a : Array Value} {below : List Frame} {meth : Method} {c : Code} {H : Heap} {locs : List Loc} {ls : Array Slot} {st0 : List Value}
    (hr : va_Run p l e R s m args below meth c H locs cu su mc ms (F0 m pc ls st0) rest (ze_Qc G Q a) (ze_A G)) (X : ze_X G M p s m args meth c) (hS : va_S (ze_A G) s.heap H locs) (hl : lv_has ls M.2.2.1 lv)
    (kk : ∀ (v : Option Value) (w' : ze_W), Q v w' → ze_V G l R M Z (pc + 3) lv (v.toList ++ rest) w' (cu + mc) (su + ms)) : W p l e R s m args below meth c H locs cu su (Z below args s) (F0 m pc ls st0) := by
  intro T hT X0
  obtain ⟨v, st₀, t, T', L, h0, X', hL, e1, e2, ⟨⟨v', w', hv, hq, hH'⟩, hz, hk⟩, stp⟩ := hr T hT X0
  cases hv
  rw [h0] at hz hk
  obtain ⟨t2, a1, b1⟩ := kk v w' hq p e s m args below meth c T'.heap (locs ++ L) ls X (by rw [e1]; exact hH')
    ⟨Nat.le_trans hS.1 (by rw [e1]; exact hz), fun q h1 h2 => by rw [e1, hk q (Nat.lt_of_lt_of_le h1 hS.1) h2]; exact hS.2.1 q h1 h2, fun q hq => by
      rcases List.mem_append.mp hq with h | h
      · exact hS.2.2 q h
      · exact hL q h⟩ hl T' rfl X'
  exact ⟨t2, stp t2 a1, b1⟩
theorem ze_callV {As : List Value} {b ci : Nat} {fs : List Value} {r : vw_C} (hd : decode M.2.1 pc = .ok (.invokevirtual ix, 3)) (hC : ze_C G l k mc ms M' (.ref b :: As) w Q) (hm : ze_mo M' n)
    (h1 : Cond.methodLink M.1.cls ix M'.1 ∈ ze_T) (h2 : Cond.instanceMethod M'.1 ∈ ze_T) (h3 : Cond.selects M'.1.cls M'.1 M'.1 ∈ ze_T) (hw : w.2 b = some (ze_ob ci fs)) (hc : ze_cl[ci]? = some r) (hcls : r.1 = M'.1.cls) (hn : As.length = n)
    (hfr : Nat.ble (k + 1) R.frames = true) (hlo : Nat.ble (8 + (M'.2.2.1 + 11) + 45 * k) R.locals = true) (hcs : cu + mc ≤ R.cells ∧ su + ms ≤ R.slots) (hst : st = As.reverse ++ .ref b :: rest) (hro : (rest.map fun v => v.category).sum ≤ 8)
    (kk : ∀ (v : Option Value) (w' : ze_W), Q v w' → ze_V G l R M Z (pc + 3) lv (v.toList ++ rest) w' (cu + mc) (su + ms)) : ze_V G l R M Z pc lv st w cu su := by
  intro p e s m args below meth c H locs ls X hH hS hl
  obtain ⟨hx, hb, hml, hr, hlk, hown, hts, hK, hZ, hbb, hin⟩ := id X
  subst hst
  refine ze_run (va_runV (C := M'.1.cls) (bytes := M'.2.1) (maxL := M'.2.2.1) (ret := M'.2.2.2) (n := n) (ws := ze_ws M') (rm := ze_rm k mc ms) (As := As) (rest := rest) ⟨hx, hb, hml, hown, hts⟩ hC ?_ ⟨ze_blind, ?_, fun U hU hW => ⟨rfl, ze_pre X hH hS hU hW⟩⟩ rfl hn hl.1 rfl (lv_room hro) hd hcs) X hS hl kk
  · exact ⟨callB_of n hts (ze_gi hm) rfl rfl rfl (hts _ hm.2.1) (hts _ h1) hm.2.2 ⟨Nat.le_of_ble_eq_true hfr, Nat.le_of_ble_eq_true hlo⟩, hts _ h2, hts _ h3⟩
  · have := va_recv (q := r) hK.1 (ze_P1 hH hw) hc (q0 := 0) rfl
    rw [hcls] at this
    exact this
theorem ze_callS {As : List Value} (hd : decode M.2.1 pc = .ok (.invokestatic ix, 3)) (hC : ze_C G l k mc ms M' As w Q) (hm : ze_mo M' n)
    (h1 : Cond.methodLink M.1.cls ix M'.1 ∈ ze_T) (h2 : Cond.static M'.1 ∈ ze_T) (hn : As.length = n)
    (hfr : Nat.ble (k + 1) R.frames = true) (hlo : Nat.ble (8 + (M'.2.2.1 + 11) + 45 * k) R.locals = true) (hcs : cu + mc ≤ R.cells ∧ su + ms ≤ R.slots) (hst : st = As.reverse ++ rest) (hro : (rest.map fun v => v.category).sum ≤ 8)
    (kk : ∀ (v : Option Value) (w' : ze_W), Q v w' → ze_V G l R M Z (pc + 3) lv (v.toList ++ rest) w' (cu + mc) (su + ms)) : ze_V G l R M Z pc lv st w cu su := by
  intro p e s m args below meth c H locs ls X hH hS hl
  obtain ⟨hx, hb, hml, hr, hlk, hown, hts, hK, hZ, hbb, hin⟩ := id X
  subst hst
  exact ze_run (va_runS (bytes := M'.2.1) (maxL := M'.2.2.1) (ret := M'.2.2.2) (n := n) (ws := ze_ws M') (rm := ze_rm k mc ms) (As := As) (rest := rest) ⟨hx, hb, hml, hown, hts⟩ hC
    ⟨callB_of n hts (ze_gi hm) rfl rfl rfl (hts _ hm.2.1) (hts _ h1) hm.2.2 ⟨Nat.le_of_ble_eq_true hfr, Nat.le_of_ble_eq_true hlo⟩, hts _ h2⟩ ⟨ze_blind, fun U hU hW => ⟨rfl, ze_pre X hH hS hU hW⟩⟩ rfl hn hl.1 rfl (lv_room hro) hd hcs) X hS hl kk
theorem ze_callSN {As : List Value} {host : String} (hd : decode M.2.1 pc = .ok (.invokestatic ix, 3)) (hC : ze_C G l k mc ms M' As w Q) (hm : ze_mo M' n)
    (h1 : ∀ U, ze_K G U → va_Nw (.methodLinkNest M.1.cls ix M'.1 host) U) (h2 : Cond.static M'.1 ∈ ze_T) (hn : As.length = n)
    (hfr : Nat.ble (k + 1) R.frames = true) (hlo : Nat.ble (8 + (M'.2.2.1 + 11) + 45 * k) R.locals = true) (hcs : cu + mc ≤ R.cells ∧ su + ms ≤ R.slots) (hst : st = As.reverse ++ rest) (hro : (rest.map fun v => v.category).sum ≤ 8)
    (kk : ∀ (v : Option Value) (w' : ze_W), Q v w' → ze_V G l R M Z (pc + 3) lv (v.toList ++ rest) w' (cu + mc) (su + ms)) : ze_V G l R M Z pc lv st w cu su := by
  intro p e s m args below meth c H locs ls X hH hS hl
  obtain ⟨hx, hb, hml, hr, hlk, hown, hts, hK, hZ, hbb, hin⟩ := id X
  subst hst
  exact ze_run (va_runSN (host := host) (bytes := M'.2.1) (maxL := M'.2.2.1) (ret := M'.2.2.2) (n := n) (ws := ze_ws M') (rm := ze_rm k mc ms) (As := As) (rest := rest) ⟨hx, hb, hml, hown, hts⟩ hC
    ⟨va_cnB n hts (ze_gi hm) rfl rfl rfl (h1 s hK) (hts _ hm.2.1) hm.2.2 ⟨Nat.le_of_ble_eq_true hfr, Nat.le_of_ble_eq_true hlo⟩, hts _ h2, trivial⟩ ⟨ze_blind, fun U hU hW => ⟨rfl, ze_pre X hH hS hU hW⟩⟩ rfl hn hl.1 rfl (lv_room hro) hd hcs) X hS hl kk
theorem ze_callI {As : List Value} {b : Nat} (hd : decode M.2.1 pc = .ok (.invokespecial ix, 3)) (hC : ze_C G l k mc ms M' (.ref b :: As) w Q) (hm : ze_mo M' n) (hret : M'.2.2.2 = none) (hname : M'.1.name = "<init>")
    (h1 : Cond.methodLink M.1.cls ix M'.1 ∈ ze_T) (h2 : Cond.instanceMethod M'.1 ∈ ze_T) (hn : As.length = n)
    (hfr : Nat.ble (k + 1) R.frames = true) (hlo : Nat.ble (8 + (M'.2.2.1 + 11) + 45 * k) R.locals = true) (hcs : cu + mc ≤ R.cells ∧ su + ms ≤ R.slots) (hst : st = As.reverse ++ .ref b :: rest) (hro : (rest.map fun v => v.category).sum ≤ 8)
    (kk : ∀ (v : Option Value) (w' : ze_W), Q v w' → ze_V G l R M Z (pc + 3) lv (v.toList ++ rest) w' (cu + mc) (su + ms)) : ze_V G l R M Z pc lv st w cu su := by
  intro p e s m args below meth c H locs ls X hH hS hl
  obtain ⟨hx, hb, hml, hr, hlk, hown, hts, hK, hZ, hbb, hin⟩ := id X
  subst hst
  obtain ⟨y', bs', nl', rt'⟩ := M'
  cases hret
  exact ze_run (va_runI (bytes := bs') (maxL := nl') (n := n) (ws := ze_ws (y', bs', nl', none)) (rm := ze_rm k mc ms) (As := As) (rest := rest) ⟨hx, hb, hml, hown, hts⟩ hC
    ⟨callB_of n hts (ze_gi hm) rfl rfl rfl (hts _ hm.2.1) (hts _ h1) hm.2.2 ⟨Nat.le_of_ble_eq_true hfr, Nat.le_of_ble_eq_true hlo⟩, hname, hts _ h2⟩ ⟨ze_blind, fun U hU hW => ⟨rfl, ze_pre X hH hS hU hW⟩⟩ rfl hn hl.1 rfl (lv_room hro) hd hcs) X hS hl kk
theorem ze_objI {a : Nat} (hd : decode M.2.1 pc = .ok (.invokespecial ix, 3)) (h1 : Cond.methodLink M.1.cls ix objectInit ∈ ze_T) (h2 : Cond.instanceMethod objectInit ∈ ze_T) (h3 : Cond.code objectInit ⟨#[0xb1]⟩ 1 none ∈ ze_T)
    (hfr : Nat.ble 1 R.frames = true) (hlo : Nat.ble ((rest.map fun v => v.category).sum + 12) R.locals = true) (kk : ze_V G l R M Z (pc + 3) lv rest w cu su) : ze_V G l R M Z pc lv (.ref a :: rest) w cu su := by
  intro p e s m args below meth c H locs ls X hH hS hl
  obtain ⟨hx, hb, hml, hr, hlk, hown, hts, hK, hZ, hbb, hin⟩ := id X
  refine W.objInit hx hb hown (hts _ h1) (hts _ h2) (hts _ h3) rfl (by rw [hml]; exact hl.1) rfl hd (Nat.le_of_ble_eq_true hfr) ?_ (kk p e s m args below meth c H locs ls X hH hS hl)
  have := Nat.le_of_ble_eq_true hlo
  show 2 * 0 + _ + 12 ≤ _
  omega
theorem ze_mmax {a b : Int} (hd : decode M.2.1 pc = .ok (.invokestatic ix, 3)) (h1 : Cond.methodLink M.1.cls ix Lib.Math.max.name ∈ ze_T) (h2 : Cond.static Lib.Math.max.name ∈ ze_T) (h3 : Cond.initialized "java/lang/Math" ∈ ze_T) (h4 : Cond.code Lib.Math.max.name Lib.Math.max.code 2 (some .int) ∈ ze_T)
    (hfr : Nat.ble 1 R.frames = true) (hlo : Nat.ble ((rest.map fun v => v.category).sum + 13) R.locals = true) (hcs : cu ≤ R.cells ∧ su ≤ R.slots) (ha : -2147483648 ≤ a ∧ a < 2147483648) (hb : -2147483648 ≤ b ∧ b < 2147483648) (kk : ze_V G l R M Z (pc + 3) lv (ze_i (max a b) :: rest) w cu su) : ze_V G l R M Z pc lv (ze_i b :: ze_i a :: rest) w cu su := by
  intro p e s m args below meth c H locs ls X hH hS hl
  obtain ⟨hx, hbb, hml, hr, hlk, hown, hts, hK, hZ, hb0, hin⟩ := id X
  refine va_mmax hx hbb (by rw [hml]; exact hl.1.symm) hown (hts _ h1) (hts _ h2) (hts _ h3) (hts _ h4) (Nat.le_of_ble_eq_true hfr) (Nat.le_of_ble_eq_true hlo) hcs.1 hcs.2 hd ?_
  have ee : (if Int32.ofInt a < Int32.ofInt b then Int32.ofInt b else Int32.ofInt a) = Int32.ofInt (max a b) := by
    by_cases q : a < b
    · rw [if_pos ((ze_lt32 ha hb).mpr q), show max a b = b by omega]
    · rw [if_neg (fun h => q ((ze_lt32 ha hb).mp h)), show max a b = a by omega]
  rw [ee]
  exact kk p e s m args below meth c H locs ls X hH hS hl
theorem ze_mmin {a b : Int} (hd : decode M.2.1 pc = .ok (.invokestatic ix, 3)) (h1 : Cond.methodLink M.1.cls ix Lib.Math.min.name ∈ ze_T) (h2 : Cond.static Lib.Math.min.name ∈ ze_T) (h3 : Cond.initialized "java/lang/Math" ∈ ze_T) (h4 : Cond.code Lib.Math.min.name Lib.Math.min.code 2 (some .int) ∈ ze_T)
    (hfr : Nat.ble 1 R.frames = true) (hlo : Nat.ble ((rest.map fun v => v.category).sum + 13) R.locals = true) (hcs : cu ≤ R.cells ∧ su ≤ R.slots) (ha : -2147483648 ≤ a ∧ a < 2147483648) (hb : -2147483648 ≤ b ∧ b < 2147483648) (kk : ze_V G l R M Z (pc + 3) lv (ze_i (min a b) :: rest) w cu su) : ze_V G l R M Z pc lv (ze_i b :: ze_i a :: rest) w cu su := by
  intro p e s m args below meth c H locs ls X hH hS hl
  obtain ⟨hx, hbb, hml, hr, hlk, hown, hts, hK, hZ, hb0, hin⟩ := id X
  refine va_mmin hx hbb (by rw [hml]; exact hl.1.symm) hown (hts _ h1) (hts _ h2) (hts _ h3) (hts _ h4) (Nat.le_of_ble_eq_true hfr) (Nat.le_of_ble_eq_true hlo) hcs.1 hcs.2 hd ?_
  have ee : (if Int32.ofInt b < Int32.ofInt a then Int32.ofInt b else Int32.ofInt a) = Int32.ofInt (min a b) := by
    by_cases q : b < a
    · rw [if_pos ((ze_lt32 hb ha).mpr q), show min a b = b by omega]
    · rw [if_neg (fun h => q ((ze_lt32 hb ha).mp h)), show min a b = a by omega]
  rw [ee]
  exact kk p e s m args below meth c H locs ls X hH hS hl
/-- System.arraycopy of ints from place 0 to place 0 of another row -/
theorem ze_cpy {a0 a n0 n1 j : Nat} {f g f' : Nat → Int} {z : Int} (hd : decode M.2.1 pc = .ok (.invokestatic ix, 3)) (h1 : Cond.methodLink M.1.cls ix arraycopyName ∈ ze_T) (h2 : Cond.native arraycopyName ∈ ze_T) (h3 : Cond.static arraycopyName ∈ ze_T) (h4 : Cond.initialized "java/lang/System" ∈ ze_T)
    (hw0 : w.2 a0 = some (ze_ia G n0 f)) (hw1 : w.2 a = some (ze_ia G n1 g)) (hz : z = (j : Int)) (hj0 : j ≤ n0) (hj1 : j ≤ n1) (hj : j < 2147483648) (hff : (fun q => if q < j then f q else g q) = f')
    (hfr : Nat.ble 1 R.frames = true) (hlo : Nat.ble ((rest.map fun v => v.category).sum + (nativeFrameWords "java/lang/System" "arraycopy" 5 + 11)) R.locals = true) (kk : ze_V G l R M Z (pc + 3) lv rest (ze_up w a (ze_ia G n1 f')) cu su) : ze_V G l R M Z pc lv (ze_i z :: ze_i 0 :: .ref a :: ze_i 0 :: .ref a0 :: rest) w cu su := by
  subst hff
  intro p e s m args below meth c H locs ls X hH hS hl
  obtain ⟨hx, hbb, hml, hr, hlk, hown, hts, hK, hZ, hb0, hin⟩ := id X
  intro T hT X0
  obtain ⟨hA0, hc0⟩ := hH.2 a0 _ hw0
  obtain ⟨hA1, hc1⟩ := hH.2 a _ hw1
  have hc0 : H[a0]? = some (vp_cell (G.2.2.1 0) (n0, .inl (fun j => Int32.ofInt (f j)))) := hc0
  have hc1 : H[a]? = some (vp_cell (G.2.2.1 0) (n1, .inl (fun j => Int32.ofInt (g j)))) := hc1
  obtain ⟨-, k0, hk0, cm0, hkk0⟩ := (hK.1.2 0 _ rfl).1 n0 (fun j => .int (Int32.ofInt (f j)))
  obtain ⟨-, k1, hk1, cm1, hkk1⟩ := (hK.1.2 0 _ rfl).1 n1 (fun j => .int (Int32.ofInt (g j)))
  have hzc : (Int32.ofInt z).toNatClampNeg = j := ze_clamp hz hj
  have h0c : (Int32.ofInt 0).toNatClampNeg = 0 := rfl
  have hzt : (Int32.ofInt z).toInt = (j : Int) := by rw [ze_t32 (by omega), hz]
  have hz0 : ¬ Int32.ofInt z < 0 := fun h => by
    have := (ze_lt32 (a := z) (b := 0) (by omega) (by omega)).mp h
    omega
  obtain ⟨vm', X', step⟩ := X0.arraycopy hx hown (hts _ h1) (hts _ h2) (hts _ h3) (hts _ h4) (src := a0) (dst := a) (cs := vp_cell (G.2.2.1 0) (n0, .inl (fun j => Int32.ofInt (f j)))) (cd := vp_cell (G.2.2.1 0) (n1, .inl (fun j => Int32.ofInt (g j)))) (srcPos := Int32.ofInt 0) (destPos := Int32.ofInt 0) (n := Int32.ofInt z) (by rw [hT]; exact hc0) (by rw [hT]; exact hc1)
    (fun _ h => by cases h) (fun _ h => by cases h) (fun h => by cases h) (fun h => by cases h) hk0 hk1 hkk0 hkk1 (by simp [refKind]) (by decide) (by decide) hz0
    (by rw [hzt, show (Int32.ofInt 0).toInt = 0 from rfl]; show ¬ _ > ((arrV _ n0 _).slots.size : Int); rw [arrV_size]; omega)
    (by rw [hzt, show (Int32.ofInt 0).toInt = 0 from rfl]; show ¬ _ > ((arrV _ n1 _).slots.size : Int); rw [arrV_size]; omega)
    (fun vm₁ _ i hi => by
      rw [hzc] at hi
      have ee : (vp_cell (G.2.2.1 0) (n0, .inl (fun j => Int32.ofInt (f j)))).slots.getD ((Int32.ofInt 0).toNatClampNeg + i) .null = .int (Int32.ofInt (f i)) := by
        show (arrV _ n0 (fun j => .int (Int32.ofInt (f j)))).slots.getD _ _ = _
        rw [h0c, Nat.zero_add, Array.getD_eq_getD_getElem?, arrV_read _ _ (by omega)]
        rfl
      refine ⟨?_, ?_⟩
      · rw [ee]; rfl
      · rw [ee]
        exact trivial)
    (g := F0 m pc ls (ze_i z :: ze_i 0 :: .ref a :: ze_i 0 :: .ref a0 :: rest)) rfl (by rw [hml]; exact hl.1) (rest := rest) rfl (by rw [hbb]; exact hd) (Nat.le_of_ble_eq_true hfr) (by have := Nat.le_of_ble_eq_true hlo; show 2 * 0 + _ + _ ≤ _; omega)
  have e1 : copied (vp_cell (G.2.2.1 0) (n0, .inl (fun j => Int32.ofInt (f j)))) (vp_cell (G.2.2.1 0) (n1, .inl (fun j => Int32.ofInt (g j)))) (Int32.ofInt 0) (Int32.ofInt 0) (Int32.ofInt z) = vp_cell (G.2.2.1 0) (n1, .inl (fun q => Int32.ofInt (if q < j then f q else g q))) := by
    have e0 : copied (vp_cell (G.2.2.1 0) (n0, .inl (fun j => Int32.ofInt (f j)))) (vp_cell (G.2.2.1 0) (n1, .inl (fun j => Int32.ofInt (g j)))) (Int32.ofInt 0) (Int32.ofInt 0) (Int32.ofInt z) = vp_cell (G.2.2.1 0) (n1, .inl (va_cpy (fun j => Int32.ofInt (f j)) (fun j => Int32.ofInt (g j)) (Int32.ofInt 0).toNatClampNeg (Int32.ofInt 0).toNatClampNeg (Int32.ofInt z).toNatClampNeg)) := va_copied (fun z => .int z) (G.2.2.1 0) (G.2.2.1 0) (fun j => Int32.ofInt (f j)) (fun j => Int32.ofInt (g j)) (by rw [h0c, hzc]; omega)
    rw [e0, hzc, h0c]
    congr 3
    funext q
    by_cases hq : q < j
    · simp [va_cpy, hq]
    · simp [va_cpy, hq]
  rw [e1] at X' step
  have hlt : a < H.size := (Array.getElem?_eq_some_iff.mp hc1).1
  have hheap : ((T.setVm vm').setCell a (vp_cell (G.2.2.1 0) (n1, .inl (fun q => Int32.ofInt (if q < j then f q else g q))))).heap = H.setIfInBounds a (vp_cell (G.2.2.1 0) (n1, .inl (fun q => Int32.ofInt (if q < j then f q else g q)))) := by rw [← hT]; rfl
  have oq : ∀ q : Nat, q ≠ a → (H.setIfInBounds a (vp_cell (G.2.2.1 0) (n1, .inl (fun q => Int32.ofInt (if q < j then f q else g q)))))[q]? = H[q]? := fun q hq => by simp [Array.getElem?_setIfInBounds, Ne.symm hq]
  obtain ⟨t, a1, b1⟩ := kk p e s m args below meth c _ _ ls X (hH.set hw1 (by simp) (show (H.setIfInBounds a _)[a]? = some _ by simp [Array.getElem?_setIfInBounds, hlt]) oq) ⟨by simp; exact hS.1, fun q g1 g2 => by
      rw [oq q (fun ee => g2 (by rw [ee]; exact hA1))]
      exact hS.2.1 q g1 g2, fun q hq => by
      rcases List.mem_append.mp hq with h | h
      · exact hS.2.2 q h
      · obtain ⟨z, -, hz⟩ := List.mem_map.mp h
        rw [← hz]
        exact hA1⟩ hl _ hheap X'
  exact ⟨t, step t a1, b1⟩
end ZC
