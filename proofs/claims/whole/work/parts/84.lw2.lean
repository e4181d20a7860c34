/-! THE CLAIM OUT OF ONE WALK OF THE LAW'S BODY. Your part is whole_start (and what it stands on); all else here is the same for every law, but numbers. -/
def R_law : String := "HiddenStepsLaw"
def lw_P (b : Addr) (xs : List Int32) (args : Array Value) (s : State) : Prop := args = #[.ref b] ∧ s.IntsAt b xs ∧ xs.length ≤ 2560 ∧ (Jvm.Cond.and given_1 narrow_1).before args s = true
def lw_Q (_ : Array Value) (s : State) (o : Outcome) (t : State) : Prop := o = .returned (some (.int 1)) ∧ Framed s o t [] 600000 7302250
def lw_Z (below : List Frame) (a : Array Value) (s : State) : State → Prop := fun t => ∃ o, t.status = .running ∧ Ended t below o ∧ lw_Q a s o t
/-- the law's own end, with 1 on the stack, nothing written that was there before, its room as the claim has it -/
theorem lw_ret {p : Program} {l : Launch} {e : Env} {s : State} {m : MethodId} {below : List Frame} {meth : Method} {c : Code} {b : Nat} (hx : p.tables.exec = Jvm.exec) (hb : c.code = code) (hr : meth.sig.returnType = ret) (hlocks : meth.locks = false) {pc : Nat} {H : Heap} {ls : Array Slot} (hdg : decode code pc = .ok (.ireturn, 1)) : W p l e room_1 s m #[Value.ref b] below meth c H [] 600000 7302250 (lw_Z below #[Value.ref b] s) (F0 m pc ls [.int 1]) := by
  intro T hT X
  obtain ⟨fs, hret, hrun, hended, hW, hframe⟩ := X.leave (v := some (.int 1)) (hlocks := hlocks) (fun h => by rw [hr] at h; cases h)
  have hmeth' : T.vm.method? m = some meth := X.method'
  refine ⟨T.setFrames fs, ?_, .returned (some (.int 1)), hrun, hended, rfl, ⟨_, rfl⟩, hW, hframe⟩
  jvm_step X.here [X.here.top, hx, hb, hdg, hmeth', hr, ret, narrow_b1]
  (try refine ⟨rfl, ?_⟩); (try refine ⟨rfl, ?_⟩)
  first | (intro acts; rw [hret _ acts rfl rfl rfl]) | rw [hret _ _ rfl rfl rfl]
  exact Steps.refl _
/-- what holds at the law's entry: the machine, the code, the tables' words (any of lw_tbl by 'hts w (by decide +kernel)'), the script of L ints xs at the cell b, what the Statement gives of the start (any of its parts by flat_of_before) -/
def lw_At (p : Program) (s : State) (m : MethodId) (meth : Method) (c : Code) (b L : Nat) (xs : Nat → Int32) : Prop :=
  p.tables.exec = Jvm.exec ∧ c.code = code ∧ meth.sig.returnType = ret ∧ c.maxLocals = 4 ∧ s.vm.findClass R_law = some m.cls ∧ (∀ w ∈ lw_tbl, w.before #[Value.ref b] s = true) ∧ va_X b L xs s s.heap ∧ b < s.heap.size ∧ meth.locks = false ∧ (Jvm.Cond.and given_1 narrow_1).before #[Value.ref b] s = true
/-! the law's own rows -/
def ML_law : ze_M := (yL_law, cL_law, 4, some .boolean)
/-- the law's end, if the script of L ints xs lies at b below all that is new -/
def lz (G : ze_G) (b L : Nat) (xs : Nat → Int32) : List Frame → Array Value → State → State → Prop := fun below args s t => (args = #[Value.ref b] ∧ va_X b L xs s s.heap ∧ b < G.2.2.2.1 ∧ G.2.2.2.1 = s.heap.size) → lw_Z below args s t
theorem W_triv {p : Program} {l : Launch} {e : Env} {R : Room} {s : State} {m : MethodId} {args : Array Value} {below : List Frame} {meth : Method} {c : Code} {H : Heap} {locs : List Loc} {cells slots : Nat} {Q : State → Prop} {g : JFrame} (h : ∀ t, Q t) : W p l e R s m args below meth c H locs cells slots Q g := fun T _ _ => ⟨T.setTop g, Steps.refl _, h _⟩
section LZ
variable {G : ze_G} {l : Launch} {R : Room} {M : ze_M} {pc : Nat} {lv : List (Nat × Value)} {st : List Value} {w : ze_W} {cu su b L : Nat} {xs : Nat → Int32}
theorem ze_sld {i : Int} {j : Nat} (hd : decode M.2.1 pc = .ok (.iaload, 1)) (hi : i = (j : Int)) (hj : j < L) (hL : L ≤ 2560) (kk : ze_V G l R M (lz G b L xs) (pc + 1) lv (ze_i (xs j).toInt :: st) w cu su) : ze_V G l R M (lz G b L xs) pc lv (ze_i i :: .ref b :: st) w cu su := by
  intro p e s m args below meth c H locs ls X hH hS hl
  by_cases hf : args = #[Value.ref b] ∧ va_X b L xs s s.heap ∧ b < G.2.2.2.1 ∧ G.2.2.2.1 = s.heap.size
  · obtain ⟨hx, hb, hml, hr, hlk, hown, hts, hK, hZ, hbb, hin2⟩ := id X
    refine va_sld hx hb hf.2.1 (Nat.lt_of_lt_of_le hf.2.2.1 hbb) (Nat.not_le.mpr hf.2.2.1) hS (ze_in (n := L) (by omega) (by omega) (by omega)) hd ?_
    rw [ze_clamp hi (by omega)]
    have h := kk p e s m args below meth c H locs ls X hH hS hl
    rw [show ze_i (xs j).toInt = Value.int (xs j) from by show Value.int (Int32.ofInt (xs j).toInt) = _; rw [Int32.ofInt_toInt]] at h
    exact h
  · exact W_triv (fun t h => absurd h hf)
theorem ze_slen (hd : decode M.2.1 pc = .ok (.arraylength, 1)) (kk : ze_V G l R M (lz G b L xs) (pc + 1) lv (ze_i (L : Nat) :: st) w cu su) : ze_V G l R M (lz G b L xs) pc lv (.ref b :: st) w cu su := by
  intro p e s m args below meth c H locs ls X hH hS hl
  by_cases hf : args = #[Value.ref b] ∧ va_X b L xs s s.heap ∧ b < G.2.2.2.1 ∧ G.2.2.2.1 = s.heap.size
  · obtain ⟨hx, hb, hml, hr, hlk, hown, hts, hK, hZ, hbb, hin2⟩ := id X
    refine va_slen hx hb hf.2.1 (Nat.lt_of_lt_of_le hf.2.2.1 hbb) (Nat.not_le.mpr hf.2.2.1) hS hd ?_
    have h := kk p e s m args below meth c H locs ls X hH hS hl
    rw [show ze_i ((L : Nat) : Int) = Value.int (Int32.ofNat L) from congrArg Value.int (by first | exact Int32.ofInt_natCast L | exact Int32.ofInt_eq_ofNat | exact Int32.ofInt_eq_ofNat L)] at h
    exact h
  · exact W_triv (fun t h => absurd h hf)
theorem ze_lret (hd : decode ML_law.2.1 pc = .ok (.ireturn, 1)) (hc : cu ≤ 600000) (hs : su ≤ 7302250) : ze_V G l room_1 ML_law (lz G b L xs) pc lv [ze_i 1] w cu su := by
  intro p e s m args below meth c H locs ls X hH hS hl
  by_cases hf : args = #[Value.ref b] ∧ va_X b L xs s s.heap ∧ b < G.2.2.2.1 ∧ G.2.2.2.1 = s.heap.size
  · obtain ⟨hx, hb, hml, hr, hlk, hown, hts, hK, hZ, hbb, hin2⟩ := id X
    obtain ⟨rfl, h2, h3, h4⟩ := id hf
    refine va_forget (fun q hq => ?_) (W.widen hc hs ?_)
    · have := hS.2.2 q hq
      unfold ze_A at this
      omega
    · intro T hT X2
      obtain ⟨t, a1, a2⟩ := lw_ret (p := p) (l := l) (e := e) (s := s) (m := m) (below := below) (meth := meth) (c := c) (b := b) hx hb hr hlk (pc := pc) (H := H) (ls := ls) hd T hT X2
      exact ⟨t, a1, fun _ => a2⟩
  · exact W_triv (fun t h => absurd h hf)
end LZ
theorem an31 (x : Int32) : 0 ≤ (x &&& 31).toInt ∧ (x &&& 31).toInt < 32 := by
  have h1 : (x &&& 31).toBitVec.toNat ≤ 31 := by
    show (x.toBitVec &&& (31 : Int32).toBitVec).toNat ≤ 31
    rw [BitVec.toNat_and]
    exact Nat.le_trans Nat.and_le_right (by decide)
  have h2 : (x &&& 31).toInt = (((x &&& 31).toBitVec.toNat : Nat) : Int) := by
    show (x &&& 31).toBitVec.toInt = _
    exact BitVec.toInt_eq_toNat_of_lt (by omega)
  omega
theorem t32r (x : Int32) : -2147483648 ≤ x.toInt ∧ x.toInt < 2147483648 := by
  have h1 := Int32.le_toInt x
  have h2 := Int32.toInt_lt x
  omega
theorem li_o {G : ze_G} {w : ze_W} {X m : Nat} {RK : Option Nat} (h : linv G w X m RK) : ∃ fs, w.2 X = some (ze_ob 6 fs) := by
  obtain ⟨-, -, C, P, F, ar, bz, cf, pc, -, -, -, hH⟩ := h
  exact ⟨_, hp_o hH⟩
theorem K_chain {G : ze_G} {l : Launch} {b L X m : Nat} {xs : Nat → Int32} (hL : L ≤ 2560) {n q : Nat} {RK : Option Nat} {w : ze_W} (hn : 5 * n + 5 ≤ L) (hq : ((RK = none ∧ q = 0) ∨ ((∃ R, RK = some R) ∧ q = 1))) (hI : linv G w X m RK) (ih : ∀ (n' : Nat) (RK' : Option Nat) (q' : Nat) (w' : ze_W), 5 * n' ≤ L → n' = n + 1 → ((RK' = none ∧ q' = 0) ∨ ((∃ R, RK' = some R) ∧ q' = 1)) → linv G w' X m RK' → ze_V G l room_1 ML_law (lz G b L xs) 18 [(0, .ref b), (1, .ref X), (2, .ref m), (3, ze_i (((5 * n' : Nat))))] [] w' (22356 + 4 * n' + 665 * q') (705383 + 126 * n' + 24400 * q')) : ze_V G l room_1 ML_law (lz G b L xs) 132 [(0, .ref b), (1, .ref X), (2, .ref m), (3, ze_i (((5 * n : Nat))))] [] w (22356 + 4 * n + 665 * q) (705383 + 126 * n + 24400 * q) := by
  have hq1 : q ≤ 1 := by rcases hq with h | h <;> omega
  have hn5 : n ≤ 511 := by omega
  obtain ⟨fX, hfX⟩ := li_o hI
  refine ze_aload_n dL_law_132 rfl ?_
  refine ze_aload_n dL_law_133 rfl ?_
  refine ze_iload_n dL_law_134 rfl ?_
  refine ze_iconst dL_law_135 ?_
  refine ze_iadd dL_law_136 ?_
  refine ze_ti (b := ((5 * n + 1 : Nat))) (by omega) ?_
  refine ze_sld (j := 5 * n + 1) dL_law_137 rfl (by omega) hL ?_
  refine ze_aload_n dL_law_138 rfl ?_
  refine ze_iload_n dL_law_139 rfl ?_
  refine ze_iconst dL_law_140 ?_
  refine ze_iadd dL_law_141 ?_
  refine ze_ti (b := ((5 * n + 2 : Nat))) (by omega) ?_
  refine ze_sld (j := 5 * n + 2) dL_law_142 rfl (by omega) hL ?_
  refine ze_aload_n dL_law_143 rfl ?_
  refine ze_iload_n dL_law_144 rfl ?_
  refine ze_iconst dL_law_145 ?_
  refine ze_iadd dL_law_146 ?_
  refine ze_ti (b := ((5 * n + 3 : Nat))) (by omega) ?_
  refine ze_sld (j := 5 * n + 3) dL_law_147 rfl (by omega) hL ?_
  refine ze_callV (As := [ze_i ((xs (5 * n + 1)).toInt), ze_i ((xs (5 * n + 2)).toInt), ze_i ((xs (5 * n + 3)).toInt)]) (rest := []) dL_law_148 (L_chain (n := (xs (5 * n + 1)).toInt) (k := (xs (5 * n + 2)).toInt) (t := (xs (5 * n + 3)).toInt) hI (t32r _) (t32r _) (t32r _)) mo6_chain ml_L_13 in_6_chain se_6_chain hfX rfl rfl rfl rfl rfl ⟨show _ ≤ 600000 by omega, show _ ≤ 7302250 by omega⟩ rfl (Nat.le_of_ble_eq_true rfl) ?_
  rintro _ w1 ⟨r, rfl, ⟨fm, hfm⟩, hC⟩
  refine ze_cs (cu' := (22356 + 4 * (n + 1) + 665 * q)) (su' := (705383 + 126 * (n + 1) + 24400 * q)) (by omega) (by omega) ?_
  change ze_V G l room_1 ML_law (lz G b L xs) 151 [(0, .ref b), (1, .ref X), (2, .ref m), (3, ze_i (((5 * n : Nat))))] [ze_i (r)] w1 (22356 + 4 * (n + 1) + 665 * q) (705383 + 126 * (n + 1) + 24400 * q)
  refine ze_aload_n dL_law_151 rfl ?_
  refine ze_aload_n dL_law_152 rfl ?_
  refine ze_iload_n dL_law_153 rfl ?_
  refine ze_iconst dL_law_154 ?_
  refine ze_iadd dL_law_155 ?_
  refine ze_ti (b := ((5 * n + 1 : Nat))) (by omega) ?_
  refine ze_sld (j := 5 * n + 1) dL_law_156 rfl (by omega) hL ?_
  refine ze_aload_n dL_law_157 rfl ?_
  refine ze_iload_n dL_law_158 rfl ?_
  refine ze_iconst dL_law_159 ?_
  refine ze_iadd dL_law_160 ?_
  refine ze_ti (b := ((5 * n + 2 : Nat))) (by omega) ?_
  refine ze_sld (j := 5 * n + 2) dL_law_161 rfl (by omega) hL ?_
  refine ze_aload_n dL_law_162 rfl ?_
  refine ze_iload_n dL_law_163 rfl ?_
  refine ze_iconst dL_law_164 ?_
  refine ze_iadd dL_law_165 ?_
  refine ze_ti (b := ((5 * n + 3 : Nat))) (by omega) ?_
  refine ze_sld (j := 5 * n + 3) dL_law_166 rfl (by omega) hL ?_
  refine ze_callV (As := [ze_i ((xs (5 * n + 1)).toInt), ze_i ((xs (5 * n + 2)).toInt), ze_i ((xs (5 * n + 3)).toInt)]) (rest := [ze_i (r)]) dL_law_167 (hC) mo8_chain ml_L_17 in_8_chain se_8_chain hfm rfl rfl rfl rfl rfl ⟨show _ ≤ 600000 by omega, show _ ≤ 7302250 by omega⟩ rfl (Nat.le_of_ble_eq_true rfl) ?_
  rintro _ w2 ⟨rfl, hI2⟩
  refine ze_cs (cu' := (22356 + 4 * (n + 1) + 665 * q)) (su' := (705383 + 126 * (n + 1) + 24400 * q)) (by omega) (by omega) ?_
  change ze_V G l room_1 ML_law (lz G b L xs) 170 [(0, .ref b), (1, .ref X), (2, .ref m), (3, ze_i (((5 * n : Nat))))] [ze_i (r), ze_i (r)] w2 (22356 + 4 * (n + 1) + 665 * q) (705383 + 126 * (n + 1) + 24400 * q)
  refine ze_icmpu_eq 816 dL_law_170 (by decide) (by omega) (fun _ => ?_) (fun h => absurd rfl h)
  refine ze_iinc (b := ((5 * (n + 1) : Nat))) (lv' := [(0, .ref b), (1, .ref X), (2, .ref m), (3, ze_i (((5 * (n + 1) : Nat))))]) dL_law_816 rfl rfl (by omega) rfl ?_
  refine ze_goto 18 dL_law_819 (by decide) ?_
  exact ih (n + 1) RK q w2 (by omega) (by omega) hq hI2
theorem K_begin {G : ze_G} {l : Launch} {b L X m : Nat} {xs : Nat → Int32} (hL : L ≤ 2560) {n q : Nat} {RK : Option Nat} {w : ze_W} (hn : 5 * n + 5 ≤ L) (hq : ((RK = none ∧ q = 0) ∨ ((∃ R, RK = some R) ∧ q = 1))) (hI : linv G w X m RK) (ih : ∀ (n' : Nat) (RK' : Option Nat) (q' : Nat) (w' : ze_W), 5 * n' ≤ L → n' = n + 1 → ((RK' = none ∧ q' = 0) ∨ ((∃ R, RK' = some R) ∧ q' = 1)) → linv G w' X m RK' → ze_V G l room_1 ML_law (lz G b L xs) 18 [(0, .ref b), (1, .ref X), (2, .ref m), (3, ze_i (((5 * n' : Nat))))] [] w' (22356 + 4 * n' + 665 * q') (705383 + 126 * n' + 24400 * q')) : ze_V G l room_1 ML_law (lz G b L xs) 175 [(0, .ref b), (1, .ref X), (2, .ref m), (3, ze_i (((5 * n : Nat))))] [] w (22356 + 4 * n + 665 * q) (705383 + 126 * n + 24400 * q) := by
  have hq1 : q ≤ 1 := by rcases hq with h | h <;> omega
  have hn5 : n ≤ 511 := by omega
  refine ze_wd (c1 := (22356 + 4 * (n + 1) + 665 * q)) (s1 := (705383 + 126 * (n + 1) + 24400 * q)) (by omega) (by omega) ?_
  obtain ⟨fX, hfX⟩ := li_o hI
  refine ze_aload_n dL_law_175 rfl ?_
  refine ze_aload_n dL_law_176 rfl ?_
  refine ze_iload_n dL_law_177 rfl ?_
  refine ze_iconst dL_law_178 ?_
  refine ze_iadd dL_law_179 ?_
  refine ze_ti (b := ((5 * n + 1 : Nat))) (by omega) ?_
  refine ze_sld (j := 5 * n + 1) dL_law_180 rfl (by omega) hL ?_
  refine ze_aload_n dL_law_181 rfl ?_
  refine ze_iload_n dL_law_182 rfl ?_
  refine ze_iconst dL_law_183 ?_
  refine ze_iadd dL_law_184 ?_
  refine ze_ti (b := ((5 * n + 2 : Nat))) (by omega) ?_
  refine ze_sld (j := 5 * n + 2) dL_law_185 rfl (by omega) hL ?_
  refine ze_aload_n dL_law_186 rfl ?_
  refine ze_iload_n dL_law_187 rfl ?_
  refine ze_iconst dL_law_188 ?_
  refine ze_iadd dL_law_189 ?_
  refine ze_ti (b := ((5 * n + 3 : Nat))) (by omega) ?_
  refine ze_sld (j := 5 * n + 3) dL_law_190 rfl (by omega) hL ?_
  refine ze_callV (As := [ze_i ((xs (5 * n + 1)).toInt), ze_i ((xs (5 * n + 2)).toInt), ze_i ((xs (5 * n + 3)).toInt)]) (rest := []) dL_law_191 (L_begin (c := (xs (5 * n + 1)).toInt) (s := (xs (5 * n + 2)).toInt) (v := (xs (5 * n + 3)).toInt) hI (t32r _) (t32r _) (t32r _)) mo6_begin ml_L_18 in_6_begin se_6_begin hfX rfl rfl rfl rfl rfl ⟨show _ ≤ 600000 by omega, show _ ≤ 7302250 by omega⟩ rfl (Nat.le_of_ble_eq_true rfl) ?_
  rintro _ w1 ⟨r, rfl, ⟨fm, hfm⟩, hC⟩
  refine ze_cs (cu' := (22356 + 4 * (n + 1) + 665 * q)) (su' := (705383 + 126 * (n + 1) + 24400 * q)) (by omega) (by omega) ?_
  change ze_V G l room_1 ML_law (lz G b L xs) 194 [(0, .ref b), (1, .ref X), (2, .ref m), (3, ze_i (((5 * n : Nat))))] [ze_i (r)] w1 (22356 + 4 * (n + 1) + 665 * q) (705383 + 126 * (n + 1) + 24400 * q)
  refine ze_aload_n dL_law_194 rfl ?_
  refine ze_aload_n dL_law_195 rfl ?_
  refine ze_iload_n dL_law_196 rfl ?_
  refine ze_iconst dL_law_197 ?_
  refine ze_iadd dL_law_198 ?_
  refine ze_ti (b := ((5 * n + 1 : Nat))) (by omega) ?_
  refine ze_sld (j := 5 * n + 1) dL_law_199 rfl (by omega) hL ?_
  refine ze_aload_n dL_law_200 rfl ?_
  refine ze_iload_n dL_law_201 rfl ?_
  refine ze_iconst dL_law_202 ?_
  refine ze_iadd dL_law_203 ?_
  refine ze_ti (b := ((5 * n + 2 : Nat))) (by omega) ?_
  refine ze_sld (j := 5 * n + 2) dL_law_204 rfl (by omega) hL ?_
  refine ze_aload_n dL_law_205 rfl ?_
  refine ze_iload_n dL_law_206 rfl ?_
  refine ze_iconst dL_law_207 ?_
  refine ze_iadd dL_law_208 ?_
  refine ze_ti (b := ((5 * n + 3 : Nat))) (by omega) ?_
  refine ze_sld (j := 5 * n + 3) dL_law_209 rfl (by omega) hL ?_
  refine ze_callV (As := [ze_i ((xs (5 * n + 1)).toInt), ze_i ((xs (5 * n + 2)).toInt), ze_i ((xs (5 * n + 3)).toInt)]) (rest := [ze_i (r)]) dL_law_210 (hC) mo8_begin ml_L_21 in_8_begin se_8_begin hfm rfl rfl rfl rfl rfl ⟨show _ ≤ 600000 by omega, show _ ≤ 7302250 by omega⟩ rfl (Nat.le_of_ble_eq_true rfl) ?_
  rintro _ w2 ⟨rfl, hI2⟩
  refine ze_cs (cu' := (22356 + 4 * (n + 1) + 665 * q)) (su' := (705383 + 126 * (n + 1) + 24400 * q)) (by omega) (by omega) ?_
  change ze_V G l room_1 ML_law (lz G b L xs) 213 [(0, .ref b), (1, .ref X), (2, .ref m), (3, ze_i (((5 * n : Nat))))] [ze_i (r), ze_i (r)] w2 (22356 + 4 * (n + 1) + 665 * q) (705383 + 126 * (n + 1) + 24400 * q)
  refine ze_icmpu_eq 816 dL_law_213 (by decide) (by omega) (fun _ => ?_) (fun h => absurd rfl h)
  refine ze_iinc (b := ((5 * (n + 1) : Nat))) (lv' := [(0, .ref b), (1, .ref X), (2, .ref m), (3, ze_i (((5 * (n + 1) : Nat))))]) dL_law_816 rfl rfl (by omega) rfl ?_
  refine ze_goto 18 dL_law_819 (by decide) ?_
  exact ih (n + 1) RK q w2 (by omega) (by omega) hq hI2
theorem K_go {G : ze_G} {l : Launch} {b L X m : Nat} {xs : Nat → Int32} (hL : L ≤ 2560) {n q : Nat} {RK : Option Nat} {w : ze_W} (hn : 5 * n + 5 ≤ L) (hq : ((RK = none ∧ q = 0) ∨ ((∃ R, RK = some R) ∧ q = 1))) (hI : linv G w X m RK) (ih : ∀ (n' : Nat) (RK' : Option Nat) (q' : Nat) (w' : ze_W), 5 * n' ≤ L → n' = n + 1 → ((RK' = none ∧ q' = 0) ∨ ((∃ R, RK' = some R) ∧ q' = 1)) → linv G w' X m RK' → ze_V G l room_1 ML_law (lz G b L xs) 18 [(0, .ref b), (1, .ref X), (2, .ref m), (3, ze_i (((5 * n' : Nat))))] [] w' (22356 + 4 * n' + 665 * q') (705383 + 126 * n' + 24400 * q')) : ze_V G l room_1 ML_law (lz G b L xs) 218 [(0, .ref b), (1, .ref X), (2, .ref m), (3, ze_i (((5 * n : Nat))))] [] w (22356 + 4 * n + 665 * q) (705383 + 126 * n + 24400 * q) := by
  have hq1 : q ≤ 1 := by rcases hq with h | h <;> omega
  have hn5 : n ≤ 511 := by omega
  refine ze_wd (c1 := (22356 + 4 * (n + 1) + 665 * q)) (s1 := (705383 + 126 * (n + 1) + 24400 * q)) (by omega) (by omega) ?_
  obtain ⟨fX, hfX⟩ := li_o hI
  refine ze_aload_n dL_law_218 rfl ?_
  refine ze_aload_n dL_law_219 rfl ?_
  refine ze_iload_n dL_law_220 rfl ?_
  refine ze_iconst dL_law_221 ?_
  refine ze_iadd dL_law_222 ?_
  refine ze_ti (b := ((5 * n + 1 : Nat))) (by omega) ?_
  refine ze_sld (j := 5 * n + 1) dL_law_223 rfl (by omega) hL ?_
  refine ze_aload_n dL_law_224 rfl ?_
  refine ze_iload_n dL_law_225 rfl ?_
  refine ze_iconst dL_law_226 ?_
  refine ze_iadd dL_law_227 ?_
  refine ze_ti (b := ((5 * n + 2 : Nat))) (by omega) ?_
  refine ze_sld (j := 5 * n + 2) dL_law_228 rfl (by omega) hL ?_
  refine ze_aload_n dL_law_229 rfl ?_
  refine ze_iload_n dL_law_230 rfl ?_
  refine ze_iconst dL_law_231 ?_
  refine ze_iadd dL_law_232 ?_
  refine ze_ti (b := ((5 * n + 3 : Nat))) (by omega) ?_
  refine ze_sld (j := 5 * n + 3) dL_law_233 rfl (by omega) hL ?_
  refine ze_aload_n dL_law_234 rfl ?_
  refine ze_iload_n dL_law_235 rfl ?_
  refine ze_iconst dL_law_236 ?_
  refine ze_iadd dL_law_237 ?_
  refine ze_ti (b := ((5 * n + 4 : Nat))) (by omega) ?_
  refine ze_sld (j := 5 * n + 4) dL_law_238 rfl (by omega) hL ?_
  refine ze_callV (As := [ze_i ((xs (5 * n + 1)).toInt), ze_i ((xs (5 * n + 2)).toInt), ze_i ((xs (5 * n + 3)).toInt), ze_i ((xs (5 * n + 4)).toInt)]) (rest := []) dL_law_239 (L_go (c := (xs (5 * n + 1)).toInt) (s := (xs (5 * n + 2)).toInt) (t := (xs (5 * n + 3)).toInt) (v := (xs (5 * n + 4)).toInt) hI (t32r _) (t32r _) (t32r _) (t32r _)) mo6_go ml_L_22 in_6_go se_6_go hfX rfl rfl rfl rfl rfl ⟨show _ ≤ 600000 by omega, show _ ≤ 7302250 by omega⟩ rfl (Nat.le_of_ble_eq_true rfl) ?_
  rintro _ w1 ⟨r, rfl, ⟨fm, hfm⟩, hC⟩
  refine ze_cs (cu' := (22356 + 4 * (n + 1) + 665 * q)) (su' := (705383 + 126 * (n + 1) + 24400 * q)) (by omega) (by omega) ?_
  change ze_V G l room_1 ML_law (lz G b L xs) 242 [(0, .ref b), (1, .ref X), (2, .ref m), (3, ze_i (((5 * n : Nat))))] [ze_i (r)] w1 (22356 + 4 * (n + 1) + 665 * q) (705383 + 126 * (n + 1) + 24400 * q)
  refine ze_aload_n dL_law_242 rfl ?_
  refine ze_aload_n dL_law_243 rfl ?_
  refine ze_iload_n dL_law_244 rfl ?_
  refine ze_iconst dL_law_245 ?_
  refine ze_iadd dL_law_246 ?_
  refine ze_ti (b := ((5 * n + 1 : Nat))) (by omega) ?_
  refine ze_sld (j := 5 * n + 1) dL_law_247 rfl (by omega) hL ?_
  refine ze_aload_n dL_law_248 rfl ?_
  refine ze_iload_n dL_law_249 rfl ?_
  refine ze_iconst dL_law_250 ?_
  refine ze_iadd dL_law_251 ?_
  refine ze_ti (b := ((5 * n + 2 : Nat))) (by omega) ?_
  refine ze_sld (j := 5 * n + 2) dL_law_252 rfl (by omega) hL ?_
  refine ze_aload_n dL_law_253 rfl ?_
  refine ze_iload_n dL_law_254 rfl ?_
  refine ze_iconst dL_law_255 ?_
  refine ze_iadd dL_law_256 ?_
  refine ze_ti (b := ((5 * n + 3 : Nat))) (by omega) ?_
  refine ze_sld (j := 5 * n + 3) dL_law_257 rfl (by omega) hL ?_
  refine ze_aload_n dL_law_258 rfl ?_
  refine ze_iload_n dL_law_259 rfl ?_
  refine ze_iconst dL_law_260 ?_
  refine ze_iadd dL_law_261 ?_
  refine ze_ti (b := ((5 * n + 4 : Nat))) (by omega) ?_
  refine ze_sld (j := 5 * n + 4) dL_law_262 rfl (by omega) hL ?_
  refine ze_callV (As := [ze_i ((xs (5 * n + 1)).toInt), ze_i ((xs (5 * n + 2)).toInt), ze_i ((xs (5 * n + 3)).toInt), ze_i ((xs (5 * n + 4)).toInt)]) (rest := [ze_i (r)]) dL_law_263 (hC) mo8_go ml_L_26 in_8_go se_8_go hfm rfl rfl rfl rfl rfl ⟨show _ ≤ 600000 by omega, show _ ≤ 7302250 by omega⟩ rfl (Nat.le_of_ble_eq_true rfl) ?_
  rintro _ w2 ⟨rfl, hI2⟩
  refine ze_cs (cu' := (22356 + 4 * (n + 1) + 665 * q)) (su' := (705383 + 126 * (n + 1) + 24400 * q)) (by omega) (by omega) ?_
  change ze_V G l room_1 ML_law (lz G b L xs) 266 [(0, .ref b), (1, .ref X), (2, .ref m), (3, ze_i (((5 * n : Nat))))] [ze_i (r), ze_i (r)] w2 (22356 + 4 * (n + 1) + 665 * q) (705383 + 126 * (n + 1) + 24400 * q)
  refine ze_icmpu_eq 816 dL_law_266 (by decide) (by omega) (fun _ => ?_) (fun h => absurd rfl h)
  refine ze_iinc (b := ((5 * (n + 1) : Nat))) (lv' := [(0, .ref b), (1, .ref X), (2, .ref m), (3, ze_i (((5 * (n + 1) : Nat))))]) dL_law_816 rfl rfl (by omega) rfl ?_
  refine ze_goto 18 dL_law_819 (by decide) ?_
  exact ih (n + 1) RK q w2 (by omega) (by omega) hq hI2
theorem K_show {G : ze_G} {l : Launch} {b L X m : Nat} {xs : Nat → Int32} (hL : L ≤ 2560) {n q : Nat} {RK : Option Nat} {w : ze_W} (hn : 5 * n + 5 ≤ L) (hq : ((RK = none ∧ q = 0) ∨ ((∃ R, RK = some R) ∧ q = 1))) (hI : linv G w X m RK) (ih : ∀ (n' : Nat) (RK' : Option Nat) (q' : Nat) (w' : ze_W), 5 * n' ≤ L → n' = n + 1 → ((RK' = none ∧ q' = 0) ∨ ((∃ R, RK' = some R) ∧ q' = 1)) → linv G w' X m RK' → ze_V G l room_1 ML_law (lz G b L xs) 18 [(0, .ref b), (1, .ref X), (2, .ref m), (3, ze_i (((5 * n' : Nat))))] [] w' (22356 + 4 * n' + 665 * q') (705383 + 126 * n' + 24400 * q')) : ze_V G l room_1 ML_law (lz G b L xs) 271 [(0, .ref b), (1, .ref X), (2, .ref m), (3, ze_i (((5 * n : Nat))))] [] w (22356 + 4 * n + 665 * q) (705383 + 126 * n + 24400 * q) := by
  have hq1 : q ≤ 1 := by rcases hq with h | h <;> omega
  have hn5 : n ≤ 511 := by omega
  refine ze_wd (c1 := (22356 + 4 * (n + 1) + 665 * q)) (s1 := (705383 + 126 * (n + 1) + 24400 * q)) (by omega) (by omega) ?_
  obtain ⟨fX, hfX⟩ := li_o hI
  refine ze_aload_n dL_law_271 rfl ?_
  refine ze_aload_n dL_law_272 rfl ?_
  refine ze_iload_n dL_law_273 rfl ?_
  refine ze_iconst dL_law_274 ?_
  refine ze_iadd dL_law_275 ?_
  refine ze_ti (b := ((5 * n + 1 : Nat))) (by omega) ?_
  refine ze_sld (j := 5 * n + 1) dL_law_276 rfl (by omega) hL ?_
  refine ze_aload_n dL_law_277 rfl ?_
  refine ze_iload_n dL_law_278 rfl ?_
  refine ze_iconst dL_law_279 ?_
  refine ze_iadd dL_law_280 ?_
  refine ze_ti (b := ((5 * n + 2 : Nat))) (by omega) ?_
  refine ze_sld (j := 5 * n + 2) dL_law_281 rfl (by omega) hL ?_
  refine ze_aload_n dL_law_282 rfl ?_
  refine ze_iload_n dL_law_283 rfl ?_
  refine ze_iconst dL_law_284 ?_
  refine ze_iadd dL_law_285 ?_
  refine ze_ti (b := ((5 * n + 3 : Nat))) (by omega) ?_
  refine ze_sld (j := 5 * n + 3) dL_law_286 rfl (by omega) hL ?_
  refine ze_aload_n dL_law_287 rfl ?_
  refine ze_iload_n dL_law_288 rfl ?_
  refine ze_iconst dL_law_289 ?_
  refine ze_iadd dL_law_290 ?_
  refine ze_ti (b := ((5 * n + 4 : Nat))) (by omega) ?_
  refine ze_sld (j := 5 * n + 4) dL_law_291 rfl (by omega) hL ?_
  refine ze_callV (As := [ze_i ((xs (5 * n + 1)).toInt), ze_i ((xs (5 * n + 2)).toInt), ze_i ((xs (5 * n + 3)).toInt), ze_i ((xs (5 * n + 4)).toInt)]) (rest := []) dL_law_292 (L_show (c := (xs (5 * n + 1)).toInt) (s := (xs (5 * n + 2)).toInt) (x := (xs (5 * n + 3)).toInt) (v := (xs (5 * n + 4)).toInt) hI (t32r _) (t32r _) (t32r _) (t32r _)) mo6_show ml_L_27 in_6_show se_6_show hfX rfl rfl rfl rfl rfl ⟨show _ ≤ 600000 by omega, show _ ≤ 7302250 by omega⟩ rfl (Nat.le_of_ble_eq_true rfl) ?_
  rintro _ w1 ⟨r, rfl, ⟨fm, hfm⟩, hC⟩
  refine ze_cs (cu' := (22356 + 4 * (n + 1) + 665 * q)) (su' := (705383 + 126 * (n + 1) + 24400 * q)) (by omega) (by omega) ?_
  change ze_V G l room_1 ML_law (lz G b L xs) 295 [(0, .ref b), (1, .ref X), (2, .ref m), (3, ze_i (((5 * n : Nat))))] [ze_i (r)] w1 (22356 + 4 * (n + 1) + 665 * q) (705383 + 126 * (n + 1) + 24400 * q)
  refine ze_aload_n dL_law_295 rfl ?_
  refine ze_aload_n dL_law_296 rfl ?_
  refine ze_iload_n dL_law_297 rfl ?_
  refine ze_iconst dL_law_298 ?_
  refine ze_iadd dL_law_299 ?_
  refine ze_ti (b := ((5 * n + 1 : Nat))) (by omega) ?_
  refine ze_sld (j := 5 * n + 1) dL_law_300 rfl (by omega) hL ?_
  refine ze_aload_n dL_law_301 rfl ?_
  refine ze_iload_n dL_law_302 rfl ?_
  refine ze_iconst dL_law_303 ?_
  refine ze_iadd dL_law_304 ?_
  refine ze_ti (b := ((5 * n + 2 : Nat))) (by omega) ?_
  refine ze_sld (j := 5 * n + 2) dL_law_305 rfl (by omega) hL ?_
  refine ze_aload_n dL_law_306 rfl ?_
  refine ze_iload_n dL_law_307 rfl ?_
  refine ze_iconst dL_law_308 ?_
  refine ze_iadd dL_law_309 ?_
  refine ze_ti (b := ((5 * n + 3 : Nat))) (by omega) ?_
  refine ze_sld (j := 5 * n + 3) dL_law_310 rfl (by omega) hL ?_
  refine ze_aload_n dL_law_311 rfl ?_
  refine ze_iload_n dL_law_312 rfl ?_
  refine ze_iconst dL_law_313 ?_
  refine ze_iadd dL_law_314 ?_
  refine ze_ti (b := ((5 * n + 4 : Nat))) (by omega) ?_
  refine ze_sld (j := 5 * n + 4) dL_law_315 rfl (by omega) hL ?_
  refine ze_callV (As := [ze_i ((xs (5 * n + 1)).toInt), ze_i ((xs (5 * n + 2)).toInt), ze_i ((xs (5 * n + 3)).toInt), ze_i ((xs (5 * n + 4)).toInt)]) (rest := [ze_i (r)]) dL_law_316 (hC) mo8_show ml_L_30 in_8_show se_8_show hfm rfl rfl rfl rfl rfl ⟨show _ ≤ 600000 by omega, show _ ≤ 7302250 by omega⟩ rfl (Nat.le_of_ble_eq_true rfl) ?_
  rintro _ w2 ⟨rfl, hI2⟩
  refine ze_cs (cu' := (22356 + 4 * (n + 1) + 665 * q)) (su' := (705383 + 126 * (n + 1) + 24400 * q)) (by omega) (by omega) ?_
  change ze_V G l room_1 ML_law (lz G b L xs) 319 [(0, .ref b), (1, .ref X), (2, .ref m), (3, ze_i (((5 * n : Nat))))] [ze_i (r), ze_i (r)] w2 (22356 + 4 * (n + 1) + 665 * q) (705383 + 126 * (n + 1) + 24400 * q)
  refine ze_icmpu_eq 816 dL_law_319 (by decide) (by omega) (fun _ => ?_) (fun h => absurd rfl h)
  refine ze_iinc (b := ((5 * (n + 1) : Nat))) (lv' := [(0, .ref b), (1, .ref X), (2, .ref m), (3, ze_i (((5 * (n + 1) : Nat))))]) dL_law_816 rfl rfl (by omega) rfl ?_
  refine ze_goto 18 dL_law_819 (by decide) ?_
  exact ih (n + 1) RK q w2 (by omega) (by omega) hq hI2
theorem K_sound {G : ze_G} {l : Launch} {b L X m : Nat} {xs : Nat → Int32} (hL : L ≤ 2560) {n q : Nat} {RK : Option Nat} {w : ze_W} (hn : 5 * n + 5 ≤ L) (hq : ((RK = none ∧ q = 0) ∨ ((∃ R, RK = some R) ∧ q = 1))) (hI : linv G w X m RK) (ih : ∀ (n' : Nat) (RK' : Option Nat) (q' : Nat) (w' : ze_W), 5 * n' ≤ L → n' = n + 1 → ((RK' = none ∧ q' = 0) ∨ ((∃ R, RK' = some R) ∧ q' = 1)) → linv G w' X m RK' → ze_V G l room_1 ML_law (lz G b L xs) 18 [(0, .ref b), (1, .ref X), (2, .ref m), (3, ze_i (((5 * n' : Nat))))] [] w' (22356 + 4 * n' + 665 * q') (705383 + 126 * n' + 24400 * q')) : ze_V G l room_1 ML_law (lz G b L xs) 324 [(0, .ref b), (1, .ref X), (2, .ref m), (3, ze_i (((5 * n : Nat))))] [] w (22356 + 4 * n + 665 * q) (705383 + 126 * n + 24400 * q) := by
  have hq1 : q ≤ 1 := by rcases hq with h | h <;> omega
  have hn5 : n ≤ 511 := by omega
  refine ze_wd (c1 := (22356 + 4 * (n + 1) + 665 * q)) (s1 := (705383 + 126 * (n + 1) + 24400 * q)) (by omega) (by omega) ?_
  obtain ⟨fX, hfX⟩ := li_o hI
  refine ze_aload_n dL_law_324 rfl ?_
  refine ze_aload_n dL_law_325 rfl ?_
  refine ze_iload_n dL_law_326 rfl ?_
  refine ze_iconst dL_law_327 ?_
  refine ze_iadd dL_law_328 ?_
  refine ze_ti (b := ((5 * n + 1 : Nat))) (by omega) ?_
  refine ze_sld (j := 5 * n + 1) dL_law_329 rfl (by omega) hL ?_
  refine ze_callV (As := [ze_i ((xs (5 * n + 1)).toInt)]) (rest := []) dL_law_330 (L_sound (c := (xs (5 * n + 1)).toInt) hI (t32r _)) mo6_sound ml_L_31 in_6_sound se_6_sound hfX rfl rfl rfl rfl rfl ⟨show _ ≤ 600000 by omega, show _ ≤ 7302250 by omega⟩ rfl (Nat.le_of_ble_eq_true rfl) ?_
  rintro _ w1 ⟨r, rfl, ⟨fm, hfm⟩, hC⟩
  refine ze_cs (cu' := (22356 + 4 * (n + 1) + 665 * q)) (su' := (705383 + 126 * (n + 1) + 24400 * q)) (by omega) (by omega) ?_
  change ze_V G l room_1 ML_law (lz G b L xs) 333 [(0, .ref b), (1, .ref X), (2, .ref m), (3, ze_i (((5 * n : Nat))))] [ze_i (r)] w1 (22356 + 4 * (n + 1) + 665 * q) (705383 + 126 * (n + 1) + 24400 * q)
  refine ze_aload_n dL_law_333 rfl ?_
  refine ze_aload_n dL_law_334 rfl ?_
  refine ze_iload_n dL_law_335 rfl ?_
  refine ze_iconst dL_law_336 ?_
  refine ze_iadd dL_law_337 ?_
  refine ze_ti (b := ((5 * n + 1 : Nat))) (by omega) ?_
  refine ze_sld (j := 5 * n + 1) dL_law_338 rfl (by omega) hL ?_
  refine ze_callV (As := [ze_i ((xs (5 * n + 1)).toInt)]) (rest := [ze_i (r)]) dL_law_339 (hC) mo8_sound ml_L_35 in_8_sound se_8_sound hfm rfl rfl rfl rfl rfl ⟨show _ ≤ 600000 by omega, show _ ≤ 7302250 by omega⟩ rfl (Nat.le_of_ble_eq_true rfl) ?_
  rintro _ w2 ⟨rfl, hI2⟩
  refine ze_cs (cu' := (22356 + 4 * (n + 1) + 665 * q)) (su' := (705383 + 126 * (n + 1) + 24400 * q)) (by omega) (by omega) ?_
  change ze_V G l room_1 ML_law (lz G b L xs) 342 [(0, .ref b), (1, .ref X), (2, .ref m), (3, ze_i (((5 * n : Nat))))] [ze_i (r), ze_i (r)] w2 (22356 + 4 * (n + 1) + 665 * q) (705383 + 126 * (n + 1) + 24400 * q)
  refine ze_icmpu_eq 816 dL_law_342 (by decide) (by omega) (fun _ => ?_) (fun h => absurd rfl h)
  refine ze_iinc (b := ((5 * (n + 1) : Nat))) (lv' := [(0, .ref b), (1, .ref X), (2, .ref m), (3, ze_i (((5 * (n + 1) : Nat))))]) dL_law_816 rfl rfl (by omega) rfl ?_
  refine ze_goto 18 dL_law_819 (by decide) ?_
  exact ih (n + 1) RK q w2 (by omega) (by omega) hq hI2
theorem K_told {G : ze_G} {l : Launch} {b L X m : Nat} {xs : Nat → Int32} (hL : L ≤ 2560) {n q : Nat} {RK : Option Nat} {w : ze_W} (hn : 5 * n + 5 ≤ L) (hq : ((RK = none ∧ q = 0) ∨ ((∃ R, RK = some R) ∧ q = 1))) (hI : linv G w X m RK) (ih : ∀ (n' : Nat) (RK' : Option Nat) (q' : Nat) (w' : ze_W), 5 * n' ≤ L → n' = n + 1 → ((RK' = none ∧ q' = 0) ∨ ((∃ R, RK' = some R) ∧ q' = 1)) → linv G w' X m RK' → ze_V G l room_1 ML_law (lz G b L xs) 18 [(0, .ref b), (1, .ref X), (2, .ref m), (3, ze_i (((5 * n' : Nat))))] [] w' (22356 + 4 * n' + 665 * q') (705383 + 126 * n' + 24400 * q')) : ze_V G l room_1 ML_law (lz G b L xs) 347 [(0, .ref b), (1, .ref X), (2, .ref m), (3, ze_i (((5 * n : Nat))))] [] w (22356 + 4 * n + 665 * q) (705383 + 126 * n + 24400 * q) := by
  have hq1 : q ≤ 1 := by rcases hq with h | h <;> omega
  have hn5 : n ≤ 511 := by omega
  refine ze_wd (c1 := (22356 + 4 * (n + 1) + 665 * q)) (s1 := (705383 + 126 * (n + 1) + 24400 * q)) (by omega) (by omega) ?_
  obtain ⟨fX, hfX⟩ := li_o hI
  refine ze_aload_n dL_law_347 rfl ?_
  refine ze_aload_n dL_law_348 rfl ?_
  refine ze_iload_n dL_law_349 rfl ?_
  refine ze_iconst dL_law_350 ?_
  refine ze_iadd dL_law_351 ?_
  refine ze_ti (b := ((5 * n + 1 : Nat))) (by omega) ?_
  refine ze_sld (j := 5 * n + 1) dL_law_352 rfl (by omega) hL ?_
  refine ze_aload_n dL_law_353 rfl ?_
  refine ze_iload_n dL_law_354 rfl ?_
  refine ze_iconst dL_law_355 ?_
  refine ze_iadd dL_law_356 ?_
  refine ze_ti (b := ((5 * n + 2 : Nat))) (by omega) ?_
  refine ze_sld (j := 5 * n + 2) dL_law_357 rfl (by omega) hL ?_
  refine ze_callV (As := [ze_i ((xs (5 * n + 1)).toInt), ze_i ((xs (5 * n + 2)).toInt)]) (rest := []) dL_law_358 (L_told (c := (xs (5 * n + 1)).toInt) (x := (xs (5 * n + 2)).toInt) hI (t32r _) (t32r _)) mo6_told ml_L_36 in_6_told se_6_told hfX rfl rfl rfl rfl rfl ⟨show _ ≤ 600000 by omega, show _ ≤ 7302250 by omega⟩ rfl (Nat.le_of_ble_eq_true rfl) ?_
  rintro _ w1 ⟨r, rfl, ⟨fm, hfm⟩, hC⟩
  refine ze_cs (cu' := (22356 + 4 * (n + 1) + 665 * q)) (su' := (705383 + 126 * (n + 1) + 24400 * q)) (by omega) (by omega) ?_
  change ze_V G l room_1 ML_law (lz G b L xs) 361 [(0, .ref b), (1, .ref X), (2, .ref m), (3, ze_i (((5 * n : Nat))))] [ze_i (r)] w1 (22356 + 4 * (n + 1) + 665 * q) (705383 + 126 * (n + 1) + 24400 * q)
  refine ze_aload_n dL_law_361 rfl ?_
  refine ze_aload_n dL_law_362 rfl ?_
  refine ze_iload_n dL_law_363 rfl ?_
  refine ze_iconst dL_law_364 ?_
  refine ze_iadd dL_law_365 ?_
  refine ze_ti (b := ((5 * n + 1 : Nat))) (by omega) ?_
  refine ze_sld (j := 5 * n + 1) dL_law_366 rfl (by omega) hL ?_
  refine ze_aload_n dL_law_367 rfl ?_
  refine ze_iload_n dL_law_368 rfl ?_
  refine ze_iconst dL_law_369 ?_
  refine ze_iadd dL_law_370 ?_
  refine ze_ti (b := ((5 * n + 2 : Nat))) (by omega) ?_
  refine ze_sld (j := 5 * n + 2) dL_law_371 rfl (by omega) hL ?_
  refine ze_callV (As := [ze_i ((xs (5 * n + 1)).toInt), ze_i ((xs (5 * n + 2)).toInt)]) (rest := [ze_i (r)]) dL_law_372 (hC) mo8_told ml_L_40 in_8_told se_8_told hfm rfl rfl rfl rfl rfl ⟨show _ ≤ 600000 by omega, show _ ≤ 7302250 by omega⟩ rfl (Nat.le_of_ble_eq_true rfl) ?_
  rintro _ w2 ⟨rfl, hI2⟩
  refine ze_cs (cu' := (22356 + 4 * (n + 1) + 665 * q)) (su' := (705383 + 126 * (n + 1) + 24400 * q)) (by omega) (by omega) ?_
  change ze_V G l room_1 ML_law (lz G b L xs) 375 [(0, .ref b), (1, .ref X), (2, .ref m), (3, ze_i (((5 * n : Nat))))] [ze_i (r), ze_i (r)] w2 (22356 + 4 * (n + 1) + 665 * q) (705383 + 126 * (n + 1) + 24400 * q)
  refine ze_icmpu_eq 816 dL_law_375 (by decide) (by omega) (fun _ => ?_) (fun h => absurd rfl h)
  refine ze_iinc (b := ((5 * (n + 1) : Nat))) (lv' := [(0, .ref b), (1, .ref X), (2, .ref m), (3, ze_i (((5 * (n + 1) : Nat))))]) dL_law_816 rfl rfl (by omega) rfl ?_
  refine ze_goto 18 dL_law_819 (by decide) ?_
  exact ih (n + 1) RK q w2 (by omega) (by omega) hq hI2
theorem K_sign {G : ze_G} {l : Launch} {b L X m : Nat} {xs : Nat → Int32} (hL : L ≤ 2560) {n q : Nat} {RK : Option Nat} {w : ze_W} (hn : 5 * n + 5 ≤ L) (hq : ((RK = none ∧ q = 0) ∨ ((∃ R, RK = some R) ∧ q = 1))) (hI : linv G w X m RK) (ih : ∀ (n' : Nat) (RK' : Option Nat) (q' : Nat) (w' : ze_W), 5 * n' ≤ L → n' = n + 1 → ((RK' = none ∧ q' = 0) ∨ ((∃ R, RK' = some R) ∧ q' = 1)) → linv G w' X m RK' → ze_V G l room_1 ML_law (lz G b L xs) 18 [(0, .ref b), (1, .ref X), (2, .ref m), (3, ze_i (((5 * n' : Nat))))] [] w' (22356 + 4 * n' + 665 * q') (705383 + 126 * n' + 24400 * q')) : ze_V G l room_1 ML_law (lz G b L xs) 380 [(0, .ref b), (1, .ref X), (2, .ref m), (3, ze_i (((5 * n : Nat))))] [] w (22356 + 4 * n + 665 * q) (705383 + 126 * n + 24400 * q) := by
  have hq1 : q ≤ 1 := by rcases hq with h | h <;> omega
  have hn5 : n ≤ 511 := by omega
  refine ze_wd (c1 := (22356 + 4 * (n + 1) + 665 * q)) (s1 := (705383 + 126 * (n + 1) + 24400 * q)) (by omega) (by omega) ?_
  obtain ⟨fX, hfX⟩ := li_o hI
  refine ze_aload_n dL_law_380 rfl ?_
  refine ze_aload_n dL_law_381 rfl ?_
  refine ze_iload_n dL_law_382 rfl ?_
  refine ze_iconst dL_law_383 ?_
  refine ze_iadd dL_law_384 ?_
  refine ze_ti (b := ((5 * n + 1 : Nat))) (by omega) ?_
  refine ze_sld (j := 5 * n + 1) dL_law_385 rfl (by omega) hL ?_
  refine ze_callV (As := [ze_i ((xs (5 * n + 1)).toInt)]) (rest := []) dL_law_386 (L_sign (x := (xs (5 * n + 1)).toInt) hI (t32r _)) mo6_sign ml_L_41 in_6_sign se_6_sign hfX rfl rfl rfl rfl rfl ⟨show _ ≤ 600000 by omega, show _ ≤ 7302250 by omega⟩ rfl (Nat.le_of_ble_eq_true rfl) ?_
  rintro _ w1 ⟨r, rfl, ⟨fm, hfm⟩, hC⟩
  refine ze_cs (cu' := (22356 + 4 * (n + 1) + 665 * q)) (su' := (705383 + 126 * (n + 1) + 24400 * q)) (by omega) (by omega) ?_
  change ze_V G l room_1 ML_law (lz G b L xs) 389 [(0, .ref b), (1, .ref X), (2, .ref m), (3, ze_i (((5 * n : Nat))))] [ze_i (r)] w1 (22356 + 4 * (n + 1) + 665 * q) (705383 + 126 * (n + 1) + 24400 * q)
  refine ze_aload_n dL_law_389 rfl ?_
  refine ze_aload_n dL_law_390 rfl ?_
  refine ze_iload_n dL_law_391 rfl ?_
  refine ze_iconst dL_law_392 ?_
  refine ze_iadd dL_law_393 ?_
  refine ze_ti (b := ((5 * n + 1 : Nat))) (by omega) ?_
  refine ze_sld (j := 5 * n + 1) dL_law_394 rfl (by omega) hL ?_
  refine ze_callV (As := [ze_i ((xs (5 * n + 1)).toInt)]) (rest := [ze_i (r)]) dL_law_395 (hC) mo8_sign ml_L_44 in_8_sign se_8_sign hfm rfl rfl rfl rfl rfl ⟨show _ ≤ 600000 by omega, show _ ≤ 7302250 by omega⟩ rfl (Nat.le_of_ble_eq_true rfl) ?_
  rintro _ w2 ⟨rfl, hI2⟩
  refine ze_cs (cu' := (22356 + 4 * (n + 1) + 665 * q)) (su' := (705383 + 126 * (n + 1) + 24400 * q)) (by omega) (by omega) ?_
  change ze_V G l room_1 ML_law (lz G b L xs) 398 [(0, .ref b), (1, .ref X), (2, .ref m), (3, ze_i (((5 * n : Nat))))] [ze_i (r), ze_i (r)] w2 (22356 + 4 * (n + 1) + 665 * q) (705383 + 126 * (n + 1) + 24400 * q)
  refine ze_icmpu_eq 816 dL_law_398 (by decide) (by omega) (fun _ => ?_) (fun h => absurd rfl h)
  refine ze_iinc (b := ((5 * (n + 1) : Nat))) (lv' := [(0, .ref b), (1, .ref X), (2, .ref m), (3, ze_i (((5 * (n + 1) : Nat))))]) dL_law_816 rfl rfl (by omega) rfl ?_
  refine ze_goto 18 dL_law_819 (by decide) ?_
  exact ih (n + 1) RK q w2 (by omega) (by omega) hq hI2
theorem K_cut {G : ze_G} {l : Launch} {b L X m : Nat} {xs : Nat → Int32} (hL : L ≤ 2560) {n q : Nat} {RK : Option Nat} {w : ze_W} (hn : 5 * n + 5 ≤ L) (hq : ((RK = none ∧ q = 0) ∨ ((∃ R, RK = some R) ∧ q = 1))) (hI : linv G w X m RK) (ih : ∀ (n' : Nat) (RK' : Option Nat) (q' : Nat) (w' : ze_W), 5 * n' ≤ L → n' = n + 1 → ((RK' = none ∧ q' = 0) ∨ ((∃ R, RK' = some R) ∧ q' = 1)) → linv G w' X m RK' → ze_V G l room_1 ML_law (lz G b L xs) 18 [(0, .ref b), (1, .ref X), (2, .ref m), (3, ze_i (((5 * n' : Nat))))] [] w' (22356 + 4 * n' + 665 * q') (705383 + 126 * n' + 24400 * q')) : ze_V G l room_1 ML_law (lz G b L xs) 403 [(0, .ref b), (1, .ref X), (2, .ref m), (3, ze_i (((5 * n : Nat))))] [] w (22356 + 4 * n + 665 * q) (705383 + 126 * n + 24400 * q) := by
  have hq1 : q ≤ 1 := by rcases hq with h | h <;> omega
  have hn5 : n ≤ 511 := by omega
  refine ze_wd (c1 := (22356 + 4 * (n + 1) + 665 * q)) (s1 := (705383 + 126 * (n + 1) + 24400 * q)) (by omega) (by omega) ?_
  obtain ⟨fX, hfX⟩ := li_o hI
  refine ze_aload_n dL_law_403 rfl ?_
  refine ze_aload_n dL_law_404 rfl ?_
  refine ze_iload_n dL_law_405 rfl ?_
  refine ze_iconst dL_law_406 ?_
  refine ze_iadd dL_law_407 ?_
  refine ze_ti (b := ((5 * n + 1 : Nat))) (by omega) ?_
  refine ze_sld (j := 5 * n + 1) dL_law_408 rfl (by omega) hL ?_
  refine ze_callV (As := [ze_i ((xs (5 * n + 1)).toInt)]) (rest := []) dL_law_409 (L_cut (x := (xs (5 * n + 1)).toInt) hI (t32r _)) mo6_cut ml_L_45 in_6_cut se_6_cut hfX rfl rfl rfl rfl rfl ⟨show _ ≤ 600000 by omega, show _ ≤ 7302250 by omega⟩ rfl (Nat.le_of_ble_eq_true rfl) ?_
  rintro _ w1 ⟨r, rfl, ⟨fm, hfm⟩, hC⟩
  refine ze_cs (cu' := (22356 + 4 * (n + 1) + 665 * q)) (su' := (705383 + 126 * (n + 1) + 24400 * q)) (by omega) (by omega) ?_
  change ze_V G l room_1 ML_law (lz G b L xs) 412 [(0, .ref b), (1, .ref X), (2, .ref m), (3, ze_i (((5 * n : Nat))))] [ze_i (r)] w1 (22356 + 4 * (n + 1) + 665 * q) (705383 + 126 * (n + 1) + 24400 * q)
  refine ze_aload_n dL_law_412 rfl ?_
  refine ze_aload_n dL_law_413 rfl ?_
  refine ze_iload_n dL_law_414 rfl ?_
  refine ze_iconst dL_law_415 ?_
  refine ze_iadd dL_law_416 ?_
  refine ze_ti (b := ((5 * n + 1 : Nat))) (by omega) ?_
  refine ze_sld (j := 5 * n + 1) dL_law_417 rfl (by omega) hL ?_
  refine ze_callV (As := [ze_i ((xs (5 * n + 1)).toInt)]) (rest := [ze_i (r)]) dL_law_418 (hC) mo8_cut ml_L_48 in_8_cut se_8_cut hfm rfl rfl rfl rfl rfl ⟨show _ ≤ 600000 by omega, show _ ≤ 7302250 by omega⟩ rfl (Nat.le_of_ble_eq_true rfl) ?_
  rintro _ w2 ⟨rfl, hI2⟩
  refine ze_cs (cu' := (22356 + 4 * (n + 1) + 665 * q)) (su' := (705383 + 126 * (n + 1) + 24400 * q)) (by omega) (by omega) ?_
  change ze_V G l room_1 ML_law (lz G b L xs) 421 [(0, .ref b), (1, .ref X), (2, .ref m), (3, ze_i (((5 * n : Nat))))] [ze_i (r), ze_i (r)] w2 (22356 + 4 * (n + 1) + 665 * q) (705383 + 126 * (n + 1) + 24400 * q)
  refine ze_icmpu_eq 816 dL_law_421 (by decide) (by omega) (fun _ => ?_) (fun h => absurd rfl h)
  refine ze_iinc (b := ((5 * (n + 1) : Nat))) (lv' := [(0, .ref b), (1, .ref X), (2, .ref m), (3, ze_i (((5 * (n + 1) : Nat))))]) dL_law_816 rfl rfl (by omega) rfl ?_
  refine ze_goto 18 dL_law_819 (by decide) ?_
  exact ih (n + 1) RK q w2 (by omega) (by omega) hq hI2
theorem K_at {G : ze_G} {l : Launch} {b L X m : Nat} {xs : Nat → Int32} (hL : L ≤ 2560) {n q : Nat} {RK : Option Nat} {w : ze_W} (hn : 5 * n + 5 ≤ L) (hq : ((RK = none ∧ q = 0) ∨ ((∃ R, RK = some R) ∧ q = 1))) (hI : linv G w X m RK) (ih : ∀ (n' : Nat) (RK' : Option Nat) (q' : Nat) (w' : ze_W), 5 * n' ≤ L → n' = n + 1 → ((RK' = none ∧ q' = 0) ∨ ((∃ R, RK' = some R) ∧ q' = 1)) → linv G w' X m RK' → ze_V G l room_1 ML_law (lz G b L xs) 18 [(0, .ref b), (1, .ref X), (2, .ref m), (3, ze_i (((5 * n' : Nat))))] [] w' (22356 + 4 * n' + 665 * q') (705383 + 126 * n' + 24400 * q')) : ze_V G l room_1 ML_law (lz G b L xs) 426 [(0, .ref b), (1, .ref X), (2, .ref m), (3, ze_i (((5 * n : Nat))))] [] w (22356 + 4 * n + 665 * q) (705383 + 126 * n + 24400 * q) := by
  have hq1 : q ≤ 1 := by rcases hq with h | h <;> omega
  have hn5 : n ≤ 511 := by omega
  refine ze_wd (c1 := (22356 + 4 * (n + 1) + 665 * q)) (s1 := (705383 + 126 * (n + 1) + 24400 * q)) (by omega) (by omega) ?_
  obtain ⟨fX, hfX⟩ := li_o hI
  refine ze_aload_n dL_law_426 rfl ?_
  refine ze_aload_n dL_law_427 rfl ?_
  refine ze_iload_n dL_law_428 rfl ?_
  refine ze_iconst dL_law_429 ?_
  refine ze_iadd dL_law_430 ?_
  refine ze_ti (b := ((5 * n + 1 : Nat))) (by omega) ?_
  refine ze_sld (j := 5 * n + 1) dL_law_431 rfl (by omega) hL ?_
  refine ze_callV (As := [ze_i ((xs (5 * n + 1)).toInt)]) (rest := []) dL_law_432 (L_at (x := (xs (5 * n + 1)).toInt) hI (t32r _)) mo6_at ml_L_49 in_6_at se_6_at hfX rfl rfl rfl rfl rfl ⟨show _ ≤ 600000 by omega, show _ ≤ 7302250 by omega⟩ rfl (Nat.le_of_ble_eq_true rfl) ?_
  rintro _ w1 ⟨r, rfl, ⟨fm, hfm⟩, hC⟩
  refine ze_cs (cu' := (22356 + 4 * (n + 1) + 665 * q)) (su' := (705383 + 126 * (n + 1) + 24400 * q)) (by omega) (by omega) ?_
  change ze_V G l room_1 ML_law (lz G b L xs) 435 [(0, .ref b), (1, .ref X), (2, .ref m), (3, ze_i (((5 * n : Nat))))] [ze_i (r)] w1 (22356 + 4 * (n + 1) + 665 * q) (705383 + 126 * (n + 1) + 24400 * q)
  refine ze_aload_n dL_law_435 rfl ?_
  refine ze_aload_n dL_law_436 rfl ?_
  refine ze_iload_n dL_law_437 rfl ?_
  refine ze_iconst dL_law_438 ?_
  refine ze_iadd dL_law_439 ?_
  refine ze_ti (b := ((5 * n + 1 : Nat))) (by omega) ?_
  refine ze_sld (j := 5 * n + 1) dL_law_440 rfl (by omega) hL ?_
  refine ze_callV (As := [ze_i ((xs (5 * n + 1)).toInt)]) (rest := [ze_i (r)]) dL_law_441 (hC) mo8_at ml_L_52 in_8_at se_8_at hfm rfl rfl rfl rfl rfl ⟨show _ ≤ 600000 by omega, show _ ≤ 7302250 by omega⟩ rfl (Nat.le_of_ble_eq_true rfl) ?_
  rintro _ w2 ⟨rfl, hI2⟩
  refine ze_cs (cu' := (22356 + 4 * (n + 1) + 665 * q)) (su' := (705383 + 126 * (n + 1) + 24400 * q)) (by omega) (by omega) ?_
  change ze_V G l room_1 ML_law (lz G b L xs) 444 [(0, .ref b), (1, .ref X), (2, .ref m), (3, ze_i (((5 * n : Nat))))] [ze_i (r), ze_i (r)] w2 (22356 + 4 * (n + 1) + 665 * q) (705383 + 126 * (n + 1) + 24400 * q)
  refine ze_icmpu_eq 816 dL_law_444 (by decide) (by omega) (fun _ => ?_) (fun h => absurd rfl h)
  refine ze_iinc (b := ((5 * (n + 1) : Nat))) (lv' := [(0, .ref b), (1, .ref X), (2, .ref m), (3, ze_i (((5 * (n + 1) : Nat))))]) dL_law_816 rfl rfl (by omega) rfl ?_
  refine ze_goto 18 dL_law_819 (by decide) ?_
  exact ih (n + 1) RK q w2 (by omega) (by omega) hq hI2
theorem K_sum {G : ze_G} {l : Launch} {b L X m : Nat} {xs : Nat → Int32} (hL : L ≤ 2560) {n q : Nat} {RK : Option Nat} {w : ze_W} (hn : 5 * n + 5 ≤ L) (hq : ((RK = none ∧ q = 0) ∨ ((∃ R, RK = some R) ∧ q = 1))) (hI : linv G w X m RK) (ih : ∀ (n' : Nat) (RK' : Option Nat) (q' : Nat) (w' : ze_W), 5 * n' ≤ L → n' = n + 1 → ((RK' = none ∧ q' = 0) ∨ ((∃ R, RK' = some R) ∧ q' = 1)) → linv G w' X m RK' → ze_V G l room_1 ML_law (lz G b L xs) 18 [(0, .ref b), (1, .ref X), (2, .ref m), (3, ze_i (((5 * n' : Nat))))] [] w' (22356 + 4 * n' + 665 * q') (705383 + 126 * n' + 24400 * q')) : ze_V G l room_1 ML_law (lz G b L xs) 449 [(0, .ref b), (1, .ref X), (2, .ref m), (3, ze_i (((5 * n : Nat))))] [] w (22356 + 4 * n + 665 * q) (705383 + 126 * n + 24400 * q) := by
  have hq1 : q ≤ 1 := by rcases hq with h | h <;> omega
  have hn5 : n ≤ 511 := by omega
  refine ze_wd (c1 := (22356 + 4 * (n + 1) + 665 * q)) (s1 := (705383 + 126 * (n + 1) + 24400 * q)) (by omega) (by omega) ?_
  obtain ⟨fX, hfX⟩ := li_o hI
  refine ze_aload_n dL_law_449 rfl ?_
  refine ze_aload_n dL_law_450 rfl ?_
  refine ze_iload_n dL_law_451 rfl ?_
  refine ze_iconst dL_law_452 ?_
  refine ze_iadd dL_law_453 ?_
  refine ze_ti (b := ((5 * n + 1 : Nat))) (by omega) ?_
  refine ze_sld (j := 5 * n + 1) dL_law_454 rfl (by omega) hL ?_
  refine ze_callV (As := [ze_i ((xs (5 * n + 1)).toInt)]) (rest := []) dL_law_455 (L_sum (c := (xs (5 * n + 1)).toInt) hI (t32r _)) mo6_sum ml_L_53 in_6_sum se_6_sum hfX rfl rfl rfl rfl rfl ⟨show _ ≤ 600000 by omega, show _ ≤ 7302250 by omega⟩ rfl (Nat.le_of_ble_eq_true rfl) ?_
  rintro _ w1 ⟨r, rfl, ⟨fm, hfm⟩, hC⟩
  refine ze_cs (cu' := (22356 + 4 * (n + 1) + 665 * q)) (su' := (705383 + 126 * (n + 1) + 24400 * q)) (by omega) (by omega) ?_
  change ze_V G l room_1 ML_law (lz G b L xs) 458 [(0, .ref b), (1, .ref X), (2, .ref m), (3, ze_i (((5 * n : Nat))))] [ze_i (r)] w1 (22356 + 4 * (n + 1) + 665 * q) (705383 + 126 * (n + 1) + 24400 * q)
  refine ze_aload_n dL_law_458 rfl ?_
  refine ze_aload_n dL_law_459 rfl ?_
  refine ze_iload_n dL_law_460 rfl ?_
  refine ze_iconst dL_law_461 ?_
  refine ze_iadd dL_law_462 ?_
  refine ze_ti (b := ((5 * n + 1 : Nat))) (by omega) ?_
  refine ze_sld (j := 5 * n + 1) dL_law_463 rfl (by omega) hL ?_
  refine ze_callV (As := [ze_i ((xs (5 * n + 1)).toInt)]) (rest := [ze_i (r)]) dL_law_464 (hC) mo8_sum ml_L_56 in_8_sum se_8_sum hfm rfl rfl rfl rfl rfl ⟨show _ ≤ 600000 by omega, show _ ≤ 7302250 by omega⟩ rfl (Nat.le_of_ble_eq_true rfl) ?_
  rintro _ w2 ⟨rfl, hI2⟩
  refine ze_cs (cu' := (22356 + 4 * (n + 1) + 665 * q)) (su' := (705383 + 126 * (n + 1) + 24400 * q)) (by omega) (by omega) ?_
  change ze_V G l room_1 ML_law (lz G b L xs) 467 [(0, .ref b), (1, .ref X), (2, .ref m), (3, ze_i (((5 * n : Nat))))] [ze_i (r), ze_i (r)] w2 (22356 + 4 * (n + 1) + 665 * q) (705383 + 126 * (n + 1) + 24400 * q)
  refine ze_icmpu_eq 816 dL_law_467 (by decide) (by omega) (fun _ => ?_) (fun h => absurd rfl h)
  refine ze_iinc (b := ((5 * (n + 1) : Nat))) (lv' := [(0, .ref b), (1, .ref X), (2, .ref m), (3, ze_i (((5 * (n + 1) : Nat))))]) dL_law_816 rfl rfl (by omega) rfl ?_
  refine ze_goto 18 dL_law_819 (by decide) ?_
  exact ih (n + 1) RK q w2 (by omega) (by omega) hq hI2
theorem K_odds {G : ze_G} {l : Launch} {b L X m : Nat} {xs : Nat → Int32} (hL : L ≤ 2560) {n q : Nat} {RK : Option Nat} {w : ze_W} (hn : 5 * n + 5 ≤ L) (hq : ((RK = none ∧ q = 0) ∨ ((∃ R, RK = some R) ∧ q = 1))) (hI : linv G w X m RK) (ih : ∀ (n' : Nat) (RK' : Option Nat) (q' : Nat) (w' : ze_W), 5 * n' ≤ L → n' = n + 1 → ((RK' = none ∧ q' = 0) ∨ ((∃ R, RK' = some R) ∧ q' = 1)) → linv G w' X m RK' → ze_V G l room_1 ML_law (lz G b L xs) 18 [(0, .ref b), (1, .ref X), (2, .ref m), (3, ze_i (((5 * n' : Nat))))] [] w' (22356 + 4 * n' + 665 * q') (705383 + 126 * n' + 24400 * q')) : ze_V G l room_1 ML_law (lz G b L xs) 472 [(0, .ref b), (1, .ref X), (2, .ref m), (3, ze_i (((5 * n : Nat))))] [] w (22356 + 4 * n + 665 * q) (705383 + 126 * n + 24400 * q) := by
  have hq1 : q ≤ 1 := by rcases hq with h | h <;> omega
  have hn5 : n ≤ 511 := by omega
  refine ze_wd (c1 := (22356 + 4 * (n + 1) + 665 * q)) (s1 := (705383 + 126 * (n + 1) + 24400 * q)) (by omega) (by omega) ?_
  obtain ⟨fX, hfX⟩ := li_o hI
  refine ze_aload_n dL_law_472 rfl ?_
  refine ze_aload_n dL_law_473 rfl ?_
  refine ze_iload_n dL_law_474 rfl ?_
  refine ze_iconst dL_law_475 ?_
  refine ze_iadd dL_law_476 ?_
  refine ze_ti (b := ((5 * n + 1 : Nat))) (by omega) ?_
  refine ze_sld (j := 5 * n + 1) dL_law_477 rfl (by omega) hL ?_
  refine ze_aload_n dL_law_478 rfl ?_
  refine ze_iload_n dL_law_479 rfl ?_
  refine ze_iconst dL_law_480 ?_
  refine ze_iadd dL_law_481 ?_
  refine ze_ti (b := ((5 * n + 2 : Nat))) (by omega) ?_
  refine ze_sld (j := 5 * n + 2) dL_law_482 rfl (by omega) hL ?_
  refine ze_aload_n dL_law_483 rfl ?_
  refine ze_iload_n dL_law_484 rfl ?_
  refine ze_iconst dL_law_485 ?_
  refine ze_iadd dL_law_486 ?_
  refine ze_ti (b := ((5 * n + 3 : Nat))) (by omega) ?_
  refine ze_sld (j := 5 * n + 3) dL_law_487 rfl (by omega) hL ?_
  refine ze_aload_n dL_law_488 rfl ?_
  refine ze_iload_n dL_law_489 rfl ?_
  refine ze_iconst dL_law_490 ?_
  refine ze_iadd dL_law_491 ?_
  refine ze_ti (b := ((5 * n + 4 : Nat))) (by omega) ?_
  refine ze_sld (j := 5 * n + 4) dL_law_492 rfl (by omega) hL ?_
  refine ze_callV (As := [ze_i ((xs (5 * n + 1)).toInt), ze_i ((xs (5 * n + 2)).toInt), ze_i ((xs (5 * n + 3)).toInt), ze_i ((xs (5 * n + 4)).toInt)]) (rest := []) dL_law_493 (L_odds (c := (xs (5 * n + 1)).toInt) (i := (xs (5 * n + 2)).toInt) (s := (xs (5 * n + 3)).toInt) (h := (xs (5 * n + 4)).toInt) hI (t32r _) (t32r _) (t32r _) (t32r _)) mo6_odds ml_L_57 in_6_odds se_6_odds hfX rfl rfl rfl rfl rfl ⟨show _ ≤ 600000 by omega, show _ ≤ 7302250 by omega⟩ rfl (Nat.le_of_ble_eq_true rfl) ?_
  rintro _ w1 ⟨r, rfl, ⟨fm, hfm⟩, hC⟩
  refine ze_cs (cu' := (22356 + 4 * (n + 1) + 665 * q)) (su' := (705383 + 126 * (n + 1) + 24400 * q)) (by omega) (by omega) ?_
  change ze_V G l room_1 ML_law (lz G b L xs) 496 [(0, .ref b), (1, .ref X), (2, .ref m), (3, ze_i (((5 * n : Nat))))] [ze_i (r)] w1 (22356 + 4 * (n + 1) + 665 * q) (705383 + 126 * (n + 1) + 24400 * q)
  refine ze_aload_n dL_law_496 rfl ?_
  refine ze_aload_n dL_law_497 rfl ?_
  refine ze_iload_n dL_law_498 rfl ?_
  refine ze_iconst dL_law_499 ?_
  refine ze_iadd dL_law_500 ?_
  refine ze_ti (b := ((5 * n + 1 : Nat))) (by omega) ?_
  refine ze_sld (j := 5 * n + 1) dL_law_501 rfl (by omega) hL ?_
  refine ze_aload_n dL_law_502 rfl ?_
  refine ze_iload_n dL_law_503 rfl ?_
  refine ze_iconst dL_law_504 ?_
  refine ze_iadd dL_law_505 ?_
  refine ze_ti (b := ((5 * n + 2 : Nat))) (by omega) ?_
  refine ze_sld (j := 5 * n + 2) dL_law_506 rfl (by omega) hL ?_
  refine ze_aload_n dL_law_507 rfl ?_
  refine ze_iload_n dL_law_508 rfl ?_
  refine ze_iconst dL_law_509 ?_
  refine ze_iadd dL_law_510 ?_
  refine ze_ti (b := ((5 * n + 3 : Nat))) (by omega) ?_
  refine ze_sld (j := 5 * n + 3) dL_law_511 rfl (by omega) hL ?_
  refine ze_aload_n dL_law_512 rfl ?_
  refine ze_iload_n dL_law_513 rfl ?_
  refine ze_iconst dL_law_514 ?_
  refine ze_iadd dL_law_515 ?_
  refine ze_ti (b := ((5 * n + 4 : Nat))) (by omega) ?_
  refine ze_sld (j := 5 * n + 4) dL_law_516 rfl (by omega) hL ?_
  refine ze_callV (As := [ze_i ((xs (5 * n + 1)).toInt), ze_i ((xs (5 * n + 2)).toInt), ze_i ((xs (5 * n + 3)).toInt), ze_i ((xs (5 * n + 4)).toInt)]) (rest := [ze_i (r)]) dL_law_517 (hC) mo8_odds ml_L_60 in_8_odds se_8_odds hfm rfl rfl rfl rfl rfl ⟨show _ ≤ 600000 by omega, show _ ≤ 7302250 by omega⟩ rfl (Nat.le_of_ble_eq_true rfl) ?_
  rintro _ w2 ⟨rfl, hI2⟩
  refine ze_cs (cu' := (22356 + 4 * (n + 1) + 665 * q)) (su' := (705383 + 126 * (n + 1) + 24400 * q)) (by omega) (by omega) ?_
  change ze_V G l room_1 ML_law (lz G b L xs) 520 [(0, .ref b), (1, .ref X), (2, .ref m), (3, ze_i (((5 * n : Nat))))] [ze_i (r), ze_i (r)] w2 (22356 + 4 * (n + 1) + 665 * q) (705383 + 126 * (n + 1) + 24400 * q)
  refine ze_icmpu_eq 816 dL_law_520 (by decide) (by omega) (fun _ => ?_) (fun h => absurd rfl h)
  refine ze_iinc (b := ((5 * (n + 1) : Nat))) (lv' := [(0, .ref b), (1, .ref X), (2, .ref m), (3, ze_i (((5 * (n + 1) : Nat))))]) dL_law_816 rfl rfl (by omega) rfl ?_
  refine ze_goto 18 dL_law_819 (by decide) ?_
  exact ih (n + 1) RK q w2 (by omega) (by omega) hq hI2
theorem K_moment {G : ze_G} {l : Launch} {b L X m : Nat} {xs : Nat → Int32} (hL : L ≤ 2560) {n q : Nat} {RK : Option Nat} {w : ze_W} (hn : 5 * n + 5 ≤ L) (hq : ((RK = none ∧ q = 0) ∨ ((∃ R, RK = some R) ∧ q = 1))) (hI : linv G w X m RK) (ih : ∀ (n' : Nat) (RK' : Option Nat) (q' : Nat) (w' : ze_W), 5 * n' ≤ L → n' = n + 1 → ((RK' = none ∧ q' = 0) ∨ ((∃ R, RK' = some R) ∧ q' = 1)) → linv G w' X m RK' → ze_V G l room_1 ML_law (lz G b L xs) 18 [(0, .ref b), (1, .ref X), (2, .ref m), (3, ze_i (((5 * n' : Nat))))] [] w' (22356 + 4 * n' + 665 * q') (705383 + 126 * n' + 24400 * q')) : ze_V G l room_1 ML_law (lz G b L xs) 525 [(0, .ref b), (1, .ref X), (2, .ref m), (3, ze_i (((5 * n : Nat))))] [] w (22356 + 4 * n + 665 * q) (705383 + 126 * n + 24400 * q) := by
  have hq1 : q ≤ 1 := by rcases hq with h | h <;> omega
  have hn5 : n ≤ 511 := by omega
  refine ze_wd (c1 := (22356 + 4 * (n + 1) + 665 * q)) (s1 := (705383 + 126 * (n + 1) + 24400 * q)) (by omega) (by omega) ?_
  obtain ⟨fX, hfX⟩ := li_o hI
  refine ze_aload_n dL_law_525 rfl ?_
  refine ze_aload_n dL_law_526 rfl ?_
  refine ze_iload_n dL_law_527 rfl ?_
  refine ze_iconst dL_law_528 ?_
  refine ze_iadd dL_law_529 ?_
  refine ze_ti (b := ((5 * n + 1 : Nat))) (by omega) ?_
  refine ze_sld (j := 5 * n + 1) dL_law_530 rfl (by omega) hL ?_
  refine ze_aload_n dL_law_531 rfl ?_
  refine ze_iload_n dL_law_532 rfl ?_
  refine ze_iconst dL_law_533 ?_
  refine ze_iadd dL_law_534 ?_
  refine ze_ti (b := ((5 * n + 2 : Nat))) (by omega) ?_
  refine ze_sld (j := 5 * n + 2) dL_law_535 rfl (by omega) hL ?_
  refine ze_callV (As := [ze_i ((xs (5 * n + 1)).toInt), ze_i ((xs (5 * n + 2)).toInt)]) (rest := []) dL_law_536 (L_moment (c := (xs (5 * n + 1)).toInt) (i := (xs (5 * n + 2)).toInt) hI (t32r _) (t32r _)) mo6_moment ml_L_61 in_6_moment se_6_moment hfX rfl rfl rfl rfl rfl ⟨show _ ≤ 600000 by omega, show _ ≤ 7302250 by omega⟩ rfl (Nat.le_of_ble_eq_true rfl) ?_
  rintro _ w1 ⟨r, rfl, ⟨fm, hfm⟩, hC⟩
  refine ze_cs (cu' := (22356 + 4 * (n + 1) + 665 * q)) (su' := (705383 + 126 * (n + 1) + 24400 * q)) (by omega) (by omega) ?_
  change ze_V G l room_1 ML_law (lz G b L xs) 539 [(0, .ref b), (1, .ref X), (2, .ref m), (3, ze_i (((5 * n : Nat))))] [ze_i (r)] w1 (22356 + 4 * (n + 1) + 665 * q) (705383 + 126 * (n + 1) + 24400 * q)
  refine ze_aload_n dL_law_539 rfl ?_
  refine ze_aload_n dL_law_540 rfl ?_
  refine ze_iload_n dL_law_541 rfl ?_
  refine ze_iconst dL_law_542 ?_
  refine ze_iadd dL_law_543 ?_
  refine ze_ti (b := ((5 * n + 1 : Nat))) (by omega) ?_
  refine ze_sld (j := 5 * n + 1) dL_law_544 rfl (by omega) hL ?_
  refine ze_aload_n dL_law_545 rfl ?_
  refine ze_iload_n dL_law_546 rfl ?_
  refine ze_iconst dL_law_547 ?_
  refine ze_iadd dL_law_548 ?_
  refine ze_ti (b := ((5 * n + 2 : Nat))) (by omega) ?_
  refine ze_sld (j := 5 * n + 2) dL_law_549 rfl (by omega) hL ?_
  refine ze_callV (As := [ze_i ((xs (5 * n + 1)).toInt), ze_i ((xs (5 * n + 2)).toInt)]) (rest := [ze_i (r)]) dL_law_550 (hC) mo8_moment ml_L_64 in_8_moment se_8_moment hfm rfl rfl rfl rfl rfl ⟨show _ ≤ 600000 by omega, show _ ≤ 7302250 by omega⟩ rfl (Nat.le_of_ble_eq_true rfl) ?_
  rintro _ w2 ⟨rfl, hI2⟩
  refine ze_cs (cu' := (22356 + 4 * (n + 1) + 665 * q)) (su' := (705383 + 126 * (n + 1) + 24400 * q)) (by omega) (by omega) ?_
  change ze_V G l room_1 ML_law (lz G b L xs) 553 [(0, .ref b), (1, .ref X), (2, .ref m), (3, ze_i (((5 * n : Nat))))] [ze_i (r), ze_i (r)] w2 (22356 + 4 * (n + 1) + 665 * q) (705383 + 126 * (n + 1) + 24400 * q)
  refine ze_icmpu_eq 816 dL_law_553 (by decide) (by omega) (fun _ => ?_) (fun h => absurd rfl h)
  refine ze_iinc (b := ((5 * (n + 1) : Nat))) (lv' := [(0, .ref b), (1, .ref X), (2, .ref m), (3, ze_i (((5 * (n + 1) : Nat))))]) dL_law_816 rfl rfl (by omega) rfl ?_
  refine ze_goto 18 dL_law_819 (by decide) ?_
  exact ih (n + 1) RK q w2 (by omega) (by omega) hq hI2
theorem K_best {G : ze_G} {l : Launch} {b L X m : Nat} {xs : Nat → Int32} (hL : L ≤ 2560) {n q : Nat} {RK : Option Nat} {w : ze_W} (hn : 5 * n + 5 ≤ L) (hq : ((RK = none ∧ q = 0) ∨ ((∃ R, RK = some R) ∧ q = 1))) (hI : linv G w X m RK) (ih : ∀ (n' : Nat) (RK' : Option Nat) (q' : Nat) (w' : ze_W), 5 * n' ≤ L → n' = n + 1 → ((RK' = none ∧ q' = 0) ∨ ((∃ R, RK' = some R) ∧ q' = 1)) → linv G w' X m RK' → ze_V G l room_1 ML_law (lz G b L xs) 18 [(0, .ref b), (1, .ref X), (2, .ref m), (3, ze_i (((5 * n' : Nat))))] [] w' (22356 + 4 * n' + 665 * q') (705383 + 126 * n' + 24400 * q')) : ze_V G l room_1 ML_law (lz G b L xs) 558 [(0, .ref b), (1, .ref X), (2, .ref m), (3, ze_i (((5 * n : Nat))))] [] w (22356 + 4 * n + 665 * q) (705383 + 126 * n + 24400 * q) := by
  have hq1 : q ≤ 1 := by rcases hq with h | h <;> omega
  have hn5 : n ≤ 511 := by omega
  rcases L_best (c := (xs (5 * n + 1)).toInt) (k := (xs (5 * n + 2)).toInt) hI (t32r _) (t32r _) with hA | ⟨hR, hA⟩ | ⟨hR, hA⟩
  · refine ze_wd (c1 := (22356 + 4 * (n + 1) + 665 * q)) (s1 := (705383 + 126 * (n + 1) + 24400 * q)) (by omega) (by omega) ?_
    obtain ⟨fX, hfX⟩ := li_o hI
    refine ze_aload_n dL_law_558 rfl ?_
    refine ze_aload_n dL_law_559 rfl ?_
    refine ze_iload_n dL_law_560 rfl ?_
    refine ze_iconst dL_law_561 ?_
    refine ze_iadd dL_law_562 ?_
    refine ze_ti (b := ((5 * n + 1 : Nat))) (by omega) ?_
    refine ze_sld (j := 5 * n + 1) dL_law_563 rfl (by omega) hL ?_
    refine ze_aload_n dL_law_564 rfl ?_
    refine ze_iload_n dL_law_565 rfl ?_
    refine ze_iconst dL_law_566 ?_
    refine ze_iadd dL_law_567 ?_
    refine ze_ti (b := ((5 * n + 2 : Nat))) (by omega) ?_
    refine ze_sld (j := 5 * n + 2) dL_law_568 rfl (by omega) hL ?_
    refine ze_callV (As := [ze_i ((xs (5 * n + 1)).toInt), ze_i ((xs (5 * n + 2)).toInt)]) (rest := []) dL_law_569 (hA) mo6_best ml_L_65 in_6_best se_6_best hfX rfl rfl rfl rfl rfl ⟨show _ ≤ 600000 by omega, show _ ≤ 7302250 by omega⟩ rfl (Nat.le_of_ble_eq_true rfl) ?_
    rintro _ w1 ⟨r, rfl, ⟨fm, hfm⟩, hC⟩
    refine ze_cs (cu' := (22356 + 4 * (n + 1) + 665 * q)) (su' := (705383 + 126 * (n + 1) + 24400 * q)) (by omega) (by omega) ?_
    change ze_V G l room_1 ML_law (lz G b L xs) 572 [(0, .ref b), (1, .ref X), (2, .ref m), (3, ze_i (((5 * n : Nat))))] [ze_i (r)] w1 (22356 + 4 * (n + 1) + 665 * q) (705383 + 126 * (n + 1) + 24400 * q)
    refine ze_aload_n dL_law_572 rfl ?_
    refine ze_aload_n dL_law_573 rfl ?_
    refine ze_iload_n dL_law_574 rfl ?_
    refine ze_iconst dL_law_575 ?_
    refine ze_iadd dL_law_576 ?_
    refine ze_ti (b := ((5 * n + 1 : Nat))) (by omega) ?_
    refine ze_sld (j := 5 * n + 1) dL_law_577 rfl (by omega) hL ?_
    refine ze_aload_n dL_law_578 rfl ?_
    refine ze_iload_n dL_law_579 rfl ?_
    refine ze_iconst dL_law_580 ?_
    refine ze_iadd dL_law_581 ?_
    refine ze_ti (b := ((5 * n + 2 : Nat))) (by omega) ?_
    refine ze_sld (j := 5 * n + 2) dL_law_582 rfl (by omega) hL ?_
    refine ze_callV (As := [ze_i ((xs (5 * n + 1)).toInt), ze_i ((xs (5 * n + 2)).toInt)]) (rest := [ze_i (r)]) dL_law_583 (hC) mo8_best ml_L_68 in_8_best se_8_best hfm rfl rfl rfl rfl rfl ⟨show _ ≤ 600000 by omega, show _ ≤ 7302250 by omega⟩ rfl (Nat.le_of_ble_eq_true rfl) ?_
    rintro _ w2 ⟨rfl, hI2⟩
    refine ze_cs (cu' := (22356 + 4 * (n + 1) + 665 * q)) (su' := (705383 + 126 * (n + 1) + 24400 * q)) (by omega) (by omega) ?_
    change ze_V G l room_1 ML_law (lz G b L xs) 586 [(0, .ref b), (1, .ref X), (2, .ref m), (3, ze_i (((5 * n : Nat))))] [ze_i (r), ze_i (r)] w2 (22356 + 4 * (n + 1) + 665 * q) (705383 + 126 * (n + 1) + 24400 * q)
    refine ze_icmpu_eq 816 dL_law_586 (by decide) (by omega) (fun _ => ?_) (fun h => absurd rfl h)
    refine ze_iinc (b := ((5 * (n + 1) : Nat))) (lv' := [(0, .ref b), (1, .ref X), (2, .ref m), (3, ze_i (((5 * (n + 1) : Nat))))]) dL_law_816 rfl rfl (by omega) rfl ?_
    refine ze_goto 18 dL_law_819 (by decide) ?_
    exact ih (n + 1) RK q w2 (by omega) (by omega) hq hI2
  · refine ze_wd (c1 := (22356 + 4 * (n + 1) + 665 * q)) (s1 := (705383 + 126 * (n + 1) + 24400 * q)) (by omega) (by omega) ?_
    have hq0 : q = 0 := by
      rcases hq with h | ⟨⟨R, h⟩, -⟩
      · exact h.2
      · rw [hR] at h; exact nomatch h
    obtain ⟨fX, hfX⟩ := li_o hI
    refine ze_aload_n dL_law_558 rfl ?_
    refine ze_aload_n dL_law_559 rfl ?_
    refine ze_iload_n dL_law_560 rfl ?_
    refine ze_iconst dL_law_561 ?_
    refine ze_iadd dL_law_562 ?_
    refine ze_ti (b := ((5 * n + 1 : Nat))) (by omega) ?_
    refine ze_sld (j := 5 * n + 1) dL_law_563 rfl (by omega) hL ?_
    refine ze_aload_n dL_law_564 rfl ?_
    refine ze_iload_n dL_law_565 rfl ?_
    refine ze_iconst dL_law_566 ?_
    refine ze_iadd dL_law_567 ?_
    refine ze_ti (b := ((5 * n + 2 : Nat))) (by omega) ?_
    refine ze_sld (j := 5 * n + 2) dL_law_568 rfl (by omega) hL ?_
    refine ze_callV (As := [ze_i ((xs (5 * n + 1)).toInt), ze_i ((xs (5 * n + 2)).toInt)]) (rest := []) dL_law_569 (hA) mo6_best ml_L_65 in_6_best se_6_best hfX rfl rfl rfl rfl rfl ⟨show _ ≤ 600000 by omega, show _ ≤ 7302250 by omega⟩ rfl (Nat.le_of_ble_eq_true rfl) ?_
    rintro _ w1 ⟨r, rfl, ⟨fm, hfm⟩, hC⟩
    refine ze_cs (cu' := (22356 + 4 * (n + 1) + 665 * 1)) (su' := (705383 + 126 * (n + 1) + 24400 * 1)) (by omega) (by omega) ?_
    change ze_V G l room_1 ML_law (lz G b L xs) 572 [(0, .ref b), (1, .ref X), (2, .ref m), (3, ze_i (((5 * n : Nat))))] [ze_i (r)] w1 (22356 + 4 * (n + 1) + 665 * 1) (705383 + 126 * (n + 1) + 24400 * 1)
    refine ze_aload_n dL_law_572 rfl ?_
    refine ze_aload_n dL_law_573 rfl ?_
    refine ze_iload_n dL_law_574 rfl ?_
    refine ze_iconst dL_law_575 ?_
    refine ze_iadd dL_law_576 ?_
    refine ze_ti (b := ((5 * n + 1 : Nat))) (by omega) ?_
    refine ze_sld (j := 5 * n + 1) dL_law_577 rfl (by omega) hL ?_
    refine ze_aload_n dL_law_578 rfl ?_
    refine ze_iload_n dL_law_579 rfl ?_
    refine ze_iconst dL_law_580 ?_
    refine ze_iadd dL_law_581 ?_
    refine ze_ti (b := ((5 * n + 2 : Nat))) (by omega) ?_
    refine ze_sld (j := 5 * n + 2) dL_law_582 rfl (by omega) hL ?_
    refine ze_callV (As := [ze_i ((xs (5 * n + 1)).toInt), ze_i ((xs (5 * n + 2)).toInt)]) (rest := [ze_i (r)]) dL_law_583 (hC) mo8_best ml_L_68 in_8_best se_8_best hfm rfl rfl rfl rfl rfl ⟨show _ ≤ 600000 by omega, show _ ≤ 7302250 by omega⟩ rfl (Nat.le_of_ble_eq_true rfl) ?_
    rintro _ w2 ⟨rfl, R2, hI2⟩
    refine ze_cs (cu' := (22356 + 4 * (n + 1) + 665 * 1)) (su' := (705383 + 126 * (n + 1) + 24400 * 1)) (by omega) (by omega) ?_
    change ze_V G l room_1 ML_law (lz G b L xs) 586 [(0, .ref b), (1, .ref X), (2, .ref m), (3, ze_i (((5 * n : Nat))))] [ze_i (r), ze_i (r)] w2 (22356 + 4 * (n + 1) + 665 * 1) (705383 + 126 * (n + 1) + 24400 * 1)
    refine ze_icmpu_eq 816 dL_law_586 (by decide) (by omega) (fun _ => ?_) (fun h => absurd rfl h)
    refine ze_iinc (b := ((5 * (n + 1) : Nat))) (lv' := [(0, .ref b), (1, .ref X), (2, .ref m), (3, ze_i (((5 * (n + 1) : Nat))))]) dL_law_816 rfl rfl (by omega) rfl ?_
    refine ze_goto 18 dL_law_819 (by decide) ?_
    exact ih (n + 1) (some R2) 1 w2 (by omega) (by omega) (Or.inr ⟨⟨R2, rfl⟩, rfl⟩) hI2
  · refine ze_wd (c1 := (22356 + 4 * (n + 1) + 665 * q)) (s1 := (705383 + 126 * (n + 1) + 24400 * q)) (by omega) (by omega) ?_
    have hq1 : q = 1 := by
      rcases hq with h | h
      · obtain ⟨R, hR⟩ := hR
        rw [h.1] at hR; exact nomatch hR
      · exact h.2
    obtain ⟨fX, hfX⟩ := li_o hI
    refine ze_aload_n dL_law_558 rfl ?_
    refine ze_aload_n dL_law_559 rfl ?_
    refine ze_iload_n dL_law_560 rfl ?_
    refine ze_iconst dL_law_561 ?_
    refine ze_iadd dL_law_562 ?_
    refine ze_ti (b := ((5 * n + 1 : Nat))) (by omega) ?_
    refine ze_sld (j := 5 * n + 1) dL_law_563 rfl (by omega) hL ?_
    refine ze_aload_n dL_law_564 rfl ?_
    refine ze_iload_n dL_law_565 rfl ?_
    refine ze_iconst dL_law_566 ?_
    refine ze_iadd dL_law_567 ?_
    refine ze_ti (b := ((5 * n + 2 : Nat))) (by omega) ?_
    refine ze_sld (j := 5 * n + 2) dL_law_568 rfl (by omega) hL ?_
    refine ze_callV (As := [ze_i ((xs (5 * n + 1)).toInt), ze_i ((xs (5 * n + 2)).toInt)]) (rest := []) dL_law_569 (hA) mo6_best ml_L_65 in_6_best se_6_best hfX rfl rfl rfl rfl rfl ⟨show _ ≤ 600000 by omega, show _ ≤ 7302250 by omega⟩ rfl (Nat.le_of_ble_eq_true rfl) ?_
    rintro _ w1 ⟨r, rfl, ⟨fm, hfm⟩, hC⟩
    refine ze_cs (cu' := (22356 + 4 * (n + 1) + 665 * 1)) (su' := (705383 + 126 * (n + 1) + 24400 * 1)) (by omega) (by omega) ?_
    change ze_V G l room_1 ML_law (lz G b L xs) 572 [(0, .ref b), (1, .ref X), (2, .ref m), (3, ze_i (((5 * n : Nat))))] [ze_i (r)] w1 (22356 + 4 * (n + 1) + 665 * 1) (705383 + 126 * (n + 1) + 24400 * 1)
    refine ze_aload_n dL_law_572 rfl ?_
    refine ze_aload_n dL_law_573 rfl ?_
    refine ze_iload_n dL_law_574 rfl ?_
    refine ze_iconst dL_law_575 ?_
    refine ze_iadd dL_law_576 ?_
    refine ze_ti (b := ((5 * n + 1 : Nat))) (by omega) ?_
    refine ze_sld (j := 5 * n + 1) dL_law_577 rfl (by omega) hL ?_
    refine ze_aload_n dL_law_578 rfl ?_
    refine ze_iload_n dL_law_579 rfl ?_
    refine ze_iconst dL_law_580 ?_
    refine ze_iadd dL_law_581 ?_
    refine ze_ti (b := ((5 * n + 2 : Nat))) (by omega) ?_
    refine ze_sld (j := 5 * n + 2) dL_law_582 rfl (by omega) hL ?_
    refine ze_callV (As := [ze_i ((xs (5 * n + 1)).toInt), ze_i ((xs (5 * n + 2)).toInt)]) (rest := [ze_i (r)]) dL_law_583 (hC) mo8_best ml_L_68 in_8_best se_8_best hfm rfl rfl rfl rfl rfl ⟨show _ ≤ 600000 by omega, show _ ≤ 7302250 by omega⟩ rfl (Nat.le_of_ble_eq_true rfl) ?_
    rintro _ w2 ⟨rfl, R2, hI2⟩
    refine ze_cs (cu' := (22356 + 4 * (n + 1) + 665 * 1)) (su' := (705383 + 126 * (n + 1) + 24400 * 1)) (by omega) (by omega) ?_
    change ze_V G l room_1 ML_law (lz G b L xs) 586 [(0, .ref b), (1, .ref X), (2, .ref m), (3, ze_i (((5 * n : Nat))))] [ze_i (r), ze_i (r)] w2 (22356 + 4 * (n + 1) + 665 * 1) (705383 + 126 * (n + 1) + 24400 * 1)
    refine ze_icmpu_eq 816 dL_law_586 (by decide) (by omega) (fun _ => ?_) (fun h => absurd rfl h)
    refine ze_iinc (b := ((5 * (n + 1) : Nat))) (lv' := [(0, .ref b), (1, .ref X), (2, .ref m), (3, ze_i (((5 * (n + 1) : Nat))))]) dL_law_816 rfl rfl (by omega) rfl ?_
    refine ze_goto 18 dL_law_819 (by decide) ?_
    exact ih (n + 1) (some R2) 1 w2 (by omega) (by omega) (Or.inr ⟨⟨R2, rfl⟩, rfl⟩) hI2
theorem K_state {G : ze_G} {l : Launch} {b L X m : Nat} {xs : Nat → Int32} (hL : L ≤ 2560) {n q : Nat} {RK : Option Nat} {w : ze_W} (hn : 5 * n + 5 ≤ L) (hq : ((RK = none ∧ q = 0) ∨ ((∃ R, RK = some R) ∧ q = 1))) (hI : linv G w X m RK) (ih : ∀ (n' : Nat) (RK' : Option Nat) (q' : Nat) (w' : ze_W), 5 * n' ≤ L → n' = n + 1 → ((RK' = none ∧ q' = 0) ∨ ((∃ R, RK' = some R) ∧ q' = 1)) → linv G w' X m RK' → ze_V G l room_1 ML_law (lz G b L xs) 18 [(0, .ref b), (1, .ref X), (2, .ref m), (3, ze_i (((5 * n' : Nat))))] [] w' (22356 + 4 * n' + 665 * q') (705383 + 126 * n' + 24400 * q')) : ze_V G l room_1 ML_law (lz G b L xs) 591 [(0, .ref b), (1, .ref X), (2, .ref m), (3, ze_i (((5 * n : Nat))))] [] w (22356 + 4 * n + 665 * q) (705383 + 126 * n + 24400 * q) := by
  have hq1 : q ≤ 1 := by rcases hq with h | h <;> omega
  have hn5 : n ≤ 511 := by omega
  refine ze_wd (c1 := (22356 + 4 * (n + 1) + 665 * q)) (s1 := (705383 + 126 * (n + 1) + 24400 * q)) (by omega) (by omega) ?_
  obtain ⟨fX, hfX⟩ := li_o hI
  refine ze_aload_n dL_law_591 rfl ?_
  refine ze_aload_n dL_law_592 rfl ?_
  refine ze_iload_n dL_law_593 rfl ?_
  refine ze_iconst dL_law_594 ?_
  refine ze_iadd dL_law_595 ?_
  refine ze_ti (b := ((5 * n + 1 : Nat))) (by omega) ?_
  refine ze_sld (j := 5 * n + 1) dL_law_596 rfl (by omega) hL ?_
  refine ze_callV (As := [ze_i ((xs (5 * n + 1)).toInt)]) (rest := []) dL_law_597 (L_state (x := (xs (5 * n + 1)).toInt) hI (t32r _)) mo6_state ml_L_69 in_6_state se_6_state hfX rfl rfl rfl rfl rfl ⟨show _ ≤ 600000 by omega, show _ ≤ 7302250 by omega⟩ rfl (Nat.le_of_ble_eq_true rfl) ?_
  rintro _ w1 ⟨r, rfl, ⟨fm, hfm⟩, hC⟩
  refine ze_cs (cu' := (22356 + 4 * (n + 1) + 665 * q)) (su' := (705383 + 126 * (n + 1) + 24400 * q)) (by omega) (by omega) ?_
  change ze_V G l room_1 ML_law (lz G b L xs) 600 [(0, .ref b), (1, .ref X), (2, .ref m), (3, ze_i (((5 * n : Nat))))] [ze_i (r)] w1 (22356 + 4 * (n + 1) + 665 * q) (705383 + 126 * (n + 1) + 24400 * q)
  refine ze_aload_n dL_law_600 rfl ?_
  refine ze_aload_n dL_law_601 rfl ?_
  refine ze_iload_n dL_law_602 rfl ?_
  refine ze_iconst dL_law_603 ?_
  refine ze_iadd dL_law_604 ?_
  refine ze_ti (b := ((5 * n + 1 : Nat))) (by omega) ?_
  refine ze_sld (j := 5 * n + 1) dL_law_605 rfl (by omega) hL ?_
  refine ze_callV (As := [ze_i ((xs (5 * n + 1)).toInt)]) (rest := [ze_i (r)]) dL_law_606 (hC) mo8_state ml_L_72 in_8_state se_8_state hfm rfl rfl rfl rfl rfl ⟨show _ ≤ 600000 by omega, show _ ≤ 7302250 by omega⟩ rfl (Nat.le_of_ble_eq_true rfl) ?_
  rintro _ w2 ⟨rfl, hI2⟩
  refine ze_cs (cu' := (22356 + 4 * (n + 1) + 665 * q)) (su' := (705383 + 126 * (n + 1) + 24400 * q)) (by omega) (by omega) ?_
  change ze_V G l room_1 ML_law (lz G b L xs) 609 [(0, .ref b), (1, .ref X), (2, .ref m), (3, ze_i (((5 * n : Nat))))] [ze_i (r), ze_i (r)] w2 (22356 + 4 * (n + 1) + 665 * q) (705383 + 126 * (n + 1) + 24400 * q)
  refine ze_icmpu_eq 816 dL_law_609 (by decide) (by omega) (fun _ => ?_) (fun h => absurd rfl h)
  refine ze_iinc (b := ((5 * (n + 1) : Nat))) (lv' := [(0, .ref b), (1, .ref X), (2, .ref m), (3, ze_i (((5 * (n + 1) : Nat))))]) dL_law_816 rfl rfl (by omega) rfl ?_
  refine ze_goto 18 dL_law_819 (by decide) ?_
  exact ih (n + 1) RK q w2 (by omega) (by omega) hq hI2
theorem K_compare {G : ze_G} {l : Launch} {b L X m : Nat} {xs : Nat → Int32} (hL : L ≤ 2560) {n q : Nat} {RK : Option Nat} {w : ze_W} (hn : 5 * n + 5 ≤ L) (hq : ((RK = none ∧ q = 0) ∨ ((∃ R, RK = some R) ∧ q = 1))) (hI : linv G w X m RK) (ih : ∀ (n' : Nat) (RK' : Option Nat) (q' : Nat) (w' : ze_W), 5 * n' ≤ L → n' = n + 1 → ((RK' = none ∧ q' = 0) ∨ ((∃ R, RK' = some R) ∧ q' = 1)) → linv G w' X m RK' → ze_V G l room_1 ML_law (lz G b L xs) 18 [(0, .ref b), (1, .ref X), (2, .ref m), (3, ze_i (((5 * n' : Nat))))] [] w' (22356 + 4 * n' + 665 * q') (705383 + 126 * n' + 24400 * q')) : ze_V G l room_1 ML_law (lz G b L xs) 614 [(0, .ref b), (1, .ref X), (2, .ref m), (3, ze_i (((5 * n : Nat))))] [] w (22356 + 4 * n + 665 * q) (705383 + 126 * n + 24400 * q) := by
  have hq1 : q ≤ 1 := by rcases hq with h | h <;> omega
  have hn5 : n ≤ 511 := by omega
  refine ze_wd (c1 := (22356 + 4 * (n + 1) + 665 * q)) (s1 := (705383 + 126 * (n + 1) + 24400 * q)) (by omega) (by omega) ?_
  obtain ⟨fX, hfX⟩ := li_o hI
  refine ze_aload_n dL_law_614 rfl ?_
  refine ze_aload_n dL_law_615 rfl ?_
  refine ze_iload_n dL_law_616 rfl ?_
  refine ze_iconst dL_law_617 ?_
  refine ze_iadd dL_law_618 ?_
  refine ze_ti (b := ((5 * n + 1 : Nat))) (by omega) ?_
  refine ze_sld (j := 5 * n + 1) dL_law_619 rfl (by omega) hL ?_
  refine ze_aload_n dL_law_620 rfl ?_
  refine ze_iload_n dL_law_621 rfl ?_
  refine ze_iconst dL_law_622 ?_
  refine ze_iadd dL_law_623 ?_
  refine ze_ti (b := ((5 * n + 2 : Nat))) (by omega) ?_
  refine ze_sld (j := 5 * n + 2) dL_law_624 rfl (by omega) hL ?_
  refine ze_callV (As := [ze_i ((xs (5 * n + 1)).toInt), ze_i ((xs (5 * n + 2)).toInt)]) (rest := []) dL_law_625 (L_compare (a := (xs (5 * n + 1)).toInt) (b := (xs (5 * n + 2)).toInt) hI (t32r _) (t32r _)) mo6_compare ml_L_73 in_6_compare se_6_compare hfX rfl rfl rfl rfl rfl ⟨show _ ≤ 600000 by omega, show _ ≤ 7302250 by omega⟩ rfl (Nat.le_of_ble_eq_true rfl) ?_
  rintro _ w1 ⟨r, rfl, ⟨fm, hfm⟩, hC⟩
  refine ze_cs (cu' := (22356 + 4 * (n + 1) + 665 * q)) (su' := (705383 + 126 * (n + 1) + 24400 * q)) (by omega) (by omega) ?_
  change ze_V G l room_1 ML_law (lz G b L xs) 628 [(0, .ref b), (1, .ref X), (2, .ref m), (3, ze_i (((5 * n : Nat))))] [ze_i (r)] w1 (22356 + 4 * (n + 1) + 665 * q) (705383 + 126 * (n + 1) + 24400 * q)
  refine ze_aload_n dL_law_628 rfl ?_
  refine ze_aload_n dL_law_629 rfl ?_
  refine ze_iload_n dL_law_630 rfl ?_
  refine ze_iconst dL_law_631 ?_
  refine ze_iadd dL_law_632 ?_
  refine ze_ti (b := ((5 * n + 1 : Nat))) (by omega) ?_
  refine ze_sld (j := 5 * n + 1) dL_law_633 rfl (by omega) hL ?_
  refine ze_aload_n dL_law_634 rfl ?_
  refine ze_iload_n dL_law_635 rfl ?_
  refine ze_iconst dL_law_636 ?_
  refine ze_iadd dL_law_637 ?_
  refine ze_ti (b := ((5 * n + 2 : Nat))) (by omega) ?_
  refine ze_sld (j := 5 * n + 2) dL_law_638 rfl (by omega) hL ?_
  refine ze_callV (As := [ze_i ((xs (5 * n + 1)).toInt), ze_i ((xs (5 * n + 2)).toInt)]) (rest := [ze_i (r)]) dL_law_639 (hC) mo8_compare ml_L_76 in_8_compare se_8_compare hfm rfl rfl rfl rfl rfl ⟨show _ ≤ 600000 by omega, show _ ≤ 7302250 by omega⟩ rfl (Nat.le_of_ble_eq_true rfl) ?_
  rintro _ w2 ⟨rfl, hI2⟩
  refine ze_cs (cu' := (22356 + 4 * (n + 1) + 665 * q)) (su' := (705383 + 126 * (n + 1) + 24400 * q)) (by omega) (by omega) ?_
  change ze_V G l room_1 ML_law (lz G b L xs) 642 [(0, .ref b), (1, .ref X), (2, .ref m), (3, ze_i (((5 * n : Nat))))] [ze_i (r), ze_i (r)] w2 (22356 + 4 * (n + 1) + 665 * q) (705383 + 126 * (n + 1) + 24400 * q)
  refine ze_icmpu_eq 816 dL_law_642 (by decide) (by omega) (fun _ => ?_) (fun h => absurd rfl h)
  refine ze_iinc (b := ((5 * (n + 1) : Nat))) (lv' := [(0, .ref b), (1, .ref X), (2, .ref m), (3, ze_i (((5 * (n + 1) : Nat))))]) dL_law_816 rfl rfl (by omega) rfl ?_
  refine ze_goto 18 dL_law_819 (by decide) ?_
  exact ih (n + 1) RK q w2 (by omega) (by omega) hq hI2
theorem K_same {G : ze_G} {l : Launch} {b L X m : Nat} {xs : Nat → Int32} (hL : L ≤ 2560) {n q : Nat} {RK : Option Nat} {w : ze_W} (hn : 5 * n + 5 ≤ L) (hq : ((RK = none ∧ q = 0) ∨ ((∃ R, RK = some R) ∧ q = 1))) (hI : linv G w X m RK) (ih : ∀ (n' : Nat) (RK' : Option Nat) (q' : Nat) (w' : ze_W), 5 * n' ≤ L → n' = n + 1 → ((RK' = none ∧ q' = 0) ∨ ((∃ R, RK' = some R) ∧ q' = 1)) → linv G w' X m RK' → ze_V G l room_1 ML_law (lz G b L xs) 18 [(0, .ref b), (1, .ref X), (2, .ref m), (3, ze_i (((5 * n' : Nat))))] [] w' (22356 + 4 * n' + 665 * q') (705383 + 126 * n' + 24400 * q')) : ze_V G l room_1 ML_law (lz G b L xs) 647 [(0, .ref b), (1, .ref X), (2, .ref m), (3, ze_i (((5 * n : Nat))))] [] w (22356 + 4 * n + 665 * q) (705383 + 126 * n + 24400 * q) := by
  have hq1 : q ≤ 1 := by rcases hq with h | h <;> omega
  have hn5 : n ≤ 511 := by omega
  refine ze_wd (c1 := (22356 + 4 * (n + 1) + 665 * q)) (s1 := (705383 + 126 * (n + 1) + 24400 * q)) (by omega) (by omega) ?_
  obtain ⟨fX, hfX⟩ := li_o hI
  refine ze_aload_n dL_law_647 rfl ?_
  refine ze_aload_n dL_law_648 rfl ?_
  refine ze_iload_n dL_law_649 rfl ?_
  refine ze_iconst dL_law_650 ?_
  refine ze_iadd dL_law_651 ?_
  refine ze_ti (b := ((5 * n + 1 : Nat))) (by omega) ?_
  refine ze_sld (j := 5 * n + 1) dL_law_652 rfl (by omega) hL ?_
  refine ze_aload_n dL_law_653 rfl ?_
  refine ze_iload_n dL_law_654 rfl ?_
  refine ze_iconst dL_law_655 ?_
  refine ze_iadd dL_law_656 ?_
  refine ze_ti (b := ((5 * n + 2 : Nat))) (by omega) ?_
  refine ze_sld (j := 5 * n + 2) dL_law_657 rfl (by omega) hL ?_
  refine ze_callV (As := [ze_i ((xs (5 * n + 1)).toInt), ze_i ((xs (5 * n + 2)).toInt)]) (rest := []) dL_law_658 (L_same (a := (xs (5 * n + 1)).toInt) (b := (xs (5 * n + 2)).toInt) hI (t32r _) (t32r _)) mo6_same ml_L_77 in_6_same se_6_same hfX rfl rfl rfl rfl rfl ⟨show _ ≤ 600000 by omega, show _ ≤ 7302250 by omega⟩ rfl (Nat.le_of_ble_eq_true rfl) ?_
  rintro _ w1 ⟨r, rfl, ⟨fm, hfm⟩, hC⟩
  refine ze_cs (cu' := (22356 + 4 * (n + 1) + 665 * q)) (su' := (705383 + 126 * (n + 1) + 24400 * q)) (by omega) (by omega) ?_
  change ze_V G l room_1 ML_law (lz G b L xs) 661 [(0, .ref b), (1, .ref X), (2, .ref m), (3, ze_i (((5 * n : Nat))))] [ze_i (r)] w1 (22356 + 4 * (n + 1) + 665 * q) (705383 + 126 * (n + 1) + 24400 * q)
  refine ze_aload_n dL_law_661 rfl ?_
  refine ze_aload_n dL_law_662 rfl ?_
  refine ze_iload_n dL_law_663 rfl ?_
  refine ze_iconst dL_law_664 ?_
  refine ze_iadd dL_law_665 ?_
  refine ze_ti (b := ((5 * n + 1 : Nat))) (by omega) ?_
  refine ze_sld (j := 5 * n + 1) dL_law_666 rfl (by omega) hL ?_
  refine ze_aload_n dL_law_667 rfl ?_
  refine ze_iload_n dL_law_668 rfl ?_
  refine ze_iconst dL_law_669 ?_
  refine ze_iadd dL_law_670 ?_
  refine ze_ti (b := ((5 * n + 2 : Nat))) (by omega) ?_
  refine ze_sld (j := 5 * n + 2) dL_law_671 rfl (by omega) hL ?_
  refine ze_callV (As := [ze_i ((xs (5 * n + 1)).toInt), ze_i ((xs (5 * n + 2)).toInt)]) (rest := [ze_i (r)]) dL_law_672 (hC) mo8_same ml_L_80 in_8_same se_8_same hfm rfl rfl rfl rfl rfl ⟨show _ ≤ 600000 by omega, show _ ≤ 7302250 by omega⟩ rfl (Nat.le_of_ble_eq_true rfl) ?_
  rintro _ w2 ⟨rfl, hI2⟩
  refine ze_cs (cu' := (22356 + 4 * (n + 1) + 665 * q)) (su' := (705383 + 126 * (n + 1) + 24400 * q)) (by omega) (by omega) ?_
  change ze_V G l room_1 ML_law (lz G b L xs) 675 [(0, .ref b), (1, .ref X), (2, .ref m), (3, ze_i (((5 * n : Nat))))] [ze_i (r), ze_i (r)] w2 (22356 + 4 * (n + 1) + 665 * q) (705383 + 126 * (n + 1) + 24400 * q)
  refine ze_icmpu_eq 816 dL_law_675 (by decide) (by omega) (fun _ => ?_) (fun h => absurd rfl h)
  refine ze_iinc (b := ((5 * (n + 1) : Nat))) (lv' := [(0, .ref b), (1, .ref X), (2, .ref m), (3, ze_i (((5 * (n + 1) : Nat))))]) dL_law_816 rfl rfl (by omega) rfl ?_
  refine ze_goto 18 dL_law_819 (by decide) ?_
  exact ih (n + 1) RK q w2 (by omega) (by omega) hq hI2
theorem K_apart {G : ze_G} {l : Launch} {b L X m : Nat} {xs : Nat → Int32} (hL : L ≤ 2560) {n q : Nat} {RK : Option Nat} {w : ze_W} (hn : 5 * n + 5 ≤ L) (hq : ((RK = none ∧ q = 0) ∨ ((∃ R, RK = some R) ∧ q = 1))) (hI : linv G w X m RK) (ih : ∀ (n' : Nat) (RK' : Option Nat) (q' : Nat) (w' : ze_W), 5 * n' ≤ L → n' = n + 1 → ((RK' = none ∧ q' = 0) ∨ ((∃ R, RK' = some R) ∧ q' = 1)) → linv G w' X m RK' → ze_V G l room_1 ML_law (lz G b L xs) 18 [(0, .ref b), (1, .ref X), (2, .ref m), (3, ze_i (((5 * n' : Nat))))] [] w' (22356 + 4 * n' + 665 * q') (705383 + 126 * n' + 24400 * q')) : ze_V G l room_1 ML_law (lz G b L xs) 680 [(0, .ref b), (1, .ref X), (2, .ref m), (3, ze_i (((5 * n : Nat))))] [] w (22356 + 4 * n + 665 * q) (705383 + 126 * n + 24400 * q) := by
  have hq1 : q ≤ 1 := by rcases hq with h | h <;> omega
  have hn5 : n ≤ 511 := by omega
  refine ze_wd (c1 := (22356 + 4 * (n + 1) + 665 * q)) (s1 := (705383 + 126 * (n + 1) + 24400 * q)) (by omega) (by omega) ?_
  obtain ⟨fX, hfX⟩ := li_o hI
  refine ze_aload_n dL_law_680 rfl ?_
  refine ze_aload_n dL_law_681 rfl ?_
  refine ze_iload_n dL_law_682 rfl ?_
  refine ze_iconst dL_law_683 ?_
  refine ze_iadd dL_law_684 ?_
  refine ze_ti (b := ((5 * n + 1 : Nat))) (by omega) ?_
  refine ze_sld (j := 5 * n + 1) dL_law_685 rfl (by omega) hL ?_
  refine ze_aload_n dL_law_686 rfl ?_
  refine ze_iload_n dL_law_687 rfl ?_
  refine ze_iconst dL_law_688 ?_
  refine ze_iadd dL_law_689 ?_
  refine ze_ti (b := ((5 * n + 2 : Nat))) (by omega) ?_
  refine ze_sld (j := 5 * n + 2) dL_law_690 rfl (by omega) hL ?_
  refine ze_callV (As := [ze_i ((xs (5 * n + 1)).toInt), ze_i ((xs (5 * n + 2)).toInt)]) (rest := []) dL_law_691 (L_apart (a := (xs (5 * n + 1)).toInt) (b := (xs (5 * n + 2)).toInt) hI (t32r _) (t32r _)) mo6_apart ml_L_81 in_6_apart se_6_apart hfX rfl rfl rfl rfl rfl ⟨show _ ≤ 600000 by omega, show _ ≤ 7302250 by omega⟩ rfl (Nat.le_of_ble_eq_true rfl) ?_
  rintro _ w1 ⟨r, rfl, ⟨fm, hfm⟩, hC⟩
  refine ze_cs (cu' := (22356 + 4 * (n + 1) + 665 * q)) (su' := (705383 + 126 * (n + 1) + 24400 * q)) (by omega) (by omega) ?_
  change ze_V G l room_1 ML_law (lz G b L xs) 694 [(0, .ref b), (1, .ref X), (2, .ref m), (3, ze_i (((5 * n : Nat))))] [ze_i (r)] w1 (22356 + 4 * (n + 1) + 665 * q) (705383 + 126 * (n + 1) + 24400 * q)
  refine ze_aload_n dL_law_694 rfl ?_
  refine ze_aload_n dL_law_695 rfl ?_
  refine ze_iload_n dL_law_696 rfl ?_
  refine ze_iconst dL_law_697 ?_
  refine ze_iadd dL_law_698 ?_
  refine ze_ti (b := ((5 * n + 1 : Nat))) (by omega) ?_
  refine ze_sld (j := 5 * n + 1) dL_law_699 rfl (by omega) hL ?_
  refine ze_aload_n dL_law_700 rfl ?_
  refine ze_iload_n dL_law_701 rfl ?_
  refine ze_iconst dL_law_702 ?_
  refine ze_iadd dL_law_703 ?_
  refine ze_ti (b := ((5 * n + 2 : Nat))) (by omega) ?_
  refine ze_sld (j := 5 * n + 2) dL_law_704 rfl (by omega) hL ?_
  refine ze_callV (As := [ze_i ((xs (5 * n + 1)).toInt), ze_i ((xs (5 * n + 2)).toInt)]) (rest := [ze_i (r)]) dL_law_705 (hC) mo8_apart ml_L_84 in_8_apart se_8_apart hfm rfl rfl rfl rfl rfl ⟨show _ ≤ 600000 by omega, show _ ≤ 7302250 by omega⟩ rfl (Nat.le_of_ble_eq_true rfl) ?_
  rintro _ w2 ⟨rfl, hI2⟩
  refine ze_cs (cu' := (22356 + 4 * (n + 1) + 665 * q)) (su' := (705383 + 126 * (n + 1) + 24400 * q)) (by omega) (by omega) ?_
  change ze_V G l room_1 ML_law (lz G b L xs) 708 [(0, .ref b), (1, .ref X), (2, .ref m), (3, ze_i (((5 * n : Nat))))] [ze_i (r), ze_i (r)] w2 (22356 + 4 * (n + 1) + 665 * q) (705383 + 126 * (n + 1) + 24400 * q)
  refine ze_icmpu_eq 816 dL_law_708 (by decide) (by omega) (fun _ => ?_) (fun h => absurd rfl h)
  refine ze_iinc (b := ((5 * (n + 1) : Nat))) (lv' := [(0, .ref b), (1, .ref X), (2, .ref m), (3, ze_i (((5 * (n + 1) : Nat))))]) dL_law_816 rfl rfl (by omega) rfl ?_
  refine ze_goto 18 dL_law_819 (by decide) ?_
  exact ih (n + 1) RK q w2 (by omega) (by omega) hq hI2
theorem K_twins {G : ze_G} {l : Launch} {b L X m : Nat} {xs : Nat → Int32} (hL : L ≤ 2560) {n q : Nat} {RK : Option Nat} {w : ze_W} (hn : 5 * n + 5 ≤ L) (hq : ((RK = none ∧ q = 0) ∨ ((∃ R, RK = some R) ∧ q = 1))) (hI : linv G w X m RK) (ih : ∀ (n' : Nat) (RK' : Option Nat) (q' : Nat) (w' : ze_W), 5 * n' ≤ L → n' = n + 1 → ((RK' = none ∧ q' = 0) ∨ ((∃ R, RK' = some R) ∧ q' = 1)) → linv G w' X m RK' → ze_V G l room_1 ML_law (lz G b L xs) 18 [(0, .ref b), (1, .ref X), (2, .ref m), (3, ze_i (((5 * n' : Nat))))] [] w' (22356 + 4 * n' + 665 * q') (705383 + 126 * n' + 24400 * q')) : ze_V G l room_1 ML_law (lz G b L xs) 713 [(0, .ref b), (1, .ref X), (2, .ref m), (3, ze_i (((5 * n : Nat))))] [] w (22356 + 4 * n + 665 * q) (705383 + 126 * n + 24400 * q) := by
  have hq1 : q ≤ 1 := by rcases hq with h | h <;> omega
  have hn5 : n ≤ 511 := by omega
  refine ze_wd (c1 := (22356 + 4 * (n + 1) + 665 * q)) (s1 := (705383 + 126 * (n + 1) + 24400 * q)) (by omega) (by omega) ?_
  obtain ⟨fX, hfX⟩ := li_o hI
  refine ze_aload_n dL_law_713 rfl ?_
  refine ze_aload_n dL_law_714 rfl ?_
  refine ze_iload_n dL_law_715 rfl ?_
  refine ze_iconst dL_law_716 ?_
  refine ze_iadd dL_law_717 ?_
  refine ze_ti (b := ((5 * n + 1 : Nat))) (by omega) ?_
  refine ze_sld (j := 5 * n + 1) dL_law_718 rfl (by omega) hL ?_
  refine ze_aload_n dL_law_719 rfl ?_
  refine ze_iload_n dL_law_720 rfl ?_
  refine ze_iconst dL_law_721 ?_
  refine ze_iadd dL_law_722 ?_
  refine ze_ti (b := ((5 * n + 2 : Nat))) (by omega) ?_
  refine ze_sld (j := 5 * n + 2) dL_law_723 rfl (by omega) hL ?_
  refine ze_aload_n dL_law_724 rfl ?_
  refine ze_iload_n dL_law_725 rfl ?_
  refine ze_iconst dL_law_726 ?_
  refine ze_iadd dL_law_727 ?_
  refine ze_ti (b := ((5 * n + 3 : Nat))) (by omega) ?_
  refine ze_sld (j := 5 * n + 3) dL_law_728 rfl (by omega) hL ?_
  refine ze_callV (As := [ze_i ((xs (5 * n + 1)).toInt), ze_i ((xs (5 * n + 2)).toInt), ze_i ((xs (5 * n + 3)).toInt)]) (rest := []) dL_law_729 (L_twins (c := (xs (5 * n + 1)).toInt) (s := (xs (5 * n + 2)).toInt) (t := (xs (5 * n + 3)).toInt) hI (t32r _) (t32r _) (t32r _)) mo6_twins ml_L_85 in_6_twins se_6_twins hfX rfl rfl rfl rfl rfl ⟨show _ ≤ 600000 by omega, show _ ≤ 7302250 by omega⟩ rfl (Nat.le_of_ble_eq_true rfl) ?_
  rintro _ w1 ⟨r, rfl, ⟨fm, hfm⟩, hC⟩
  refine ze_cs (cu' := (22356 + 4 * (n + 1) + 665 * q)) (su' := (705383 + 126 * (n + 1) + 24400 * q)) (by omega) (by omega) ?_
  change ze_V G l room_1 ML_law (lz G b L xs) 732 [(0, .ref b), (1, .ref X), (2, .ref m), (3, ze_i (((5 * n : Nat))))] [ze_i (r)] w1 (22356 + 4 * (n + 1) + 665 * q) (705383 + 126 * (n + 1) + 24400 * q)
  refine ze_aload_n dL_law_732 rfl ?_
  refine ze_aload_n dL_law_733 rfl ?_
  refine ze_iload_n dL_law_734 rfl ?_
  refine ze_iconst dL_law_735 ?_
  refine ze_iadd dL_law_736 ?_
  refine ze_ti (b := ((5 * n + 1 : Nat))) (by omega) ?_
  refine ze_sld (j := 5 * n + 1) dL_law_737 rfl (by omega) hL ?_
  refine ze_aload_n dL_law_738 rfl ?_
  refine ze_iload_n dL_law_739 rfl ?_
  refine ze_iconst dL_law_740 ?_
  refine ze_iadd dL_law_741 ?_
  refine ze_ti (b := ((5 * n + 2 : Nat))) (by omega) ?_
  refine ze_sld (j := 5 * n + 2) dL_law_742 rfl (by omega) hL ?_
  refine ze_aload_n dL_law_743 rfl ?_
  refine ze_iload_n dL_law_744 rfl ?_
  refine ze_iconst dL_law_745 ?_
  refine ze_iadd dL_law_746 ?_
  refine ze_ti (b := ((5 * n + 3 : Nat))) (by omega) ?_
  refine ze_sld (j := 5 * n + 3) dL_law_747 rfl (by omega) hL ?_
  refine ze_callV (As := [ze_i ((xs (5 * n + 1)).toInt), ze_i ((xs (5 * n + 2)).toInt), ze_i ((xs (5 * n + 3)).toInt)]) (rest := [ze_i (r)]) dL_law_748 (hC) mo8_twins ml_L_88 in_8_twins se_8_twins hfm rfl rfl rfl rfl rfl ⟨show _ ≤ 600000 by omega, show _ ≤ 7302250 by omega⟩ rfl (Nat.le_of_ble_eq_true rfl) ?_
  rintro _ w2 ⟨rfl, hI2⟩
  refine ze_cs (cu' := (22356 + 4 * (n + 1) + 665 * q)) (su' := (705383 + 126 * (n + 1) + 24400 * q)) (by omega) (by omega) ?_
  change ze_V G l room_1 ML_law (lz G b L xs) 751 [(0, .ref b), (1, .ref X), (2, .ref m), (3, ze_i (((5 * n : Nat))))] [ze_i (r), ze_i (r)] w2 (22356 + 4 * (n + 1) + 665 * q) (705383 + 126 * (n + 1) + 24400 * q)
  refine ze_icmpu_eq 816 dL_law_751 (by decide) (by omega) (fun _ => ?_) (fun h => absurd rfl h)
  refine ze_iinc (b := ((5 * (n + 1) : Nat))) (lv' := [(0, .ref b), (1, .ref X), (2, .ref m), (3, ze_i (((5 * (n + 1) : Nat))))]) dL_law_816 rfl rfl (by omega) rfl ?_
  refine ze_goto 18 dL_law_819 (by decide) ?_
  exact ih (n + 1) RK q w2 (by omega) (by omega) hq hI2
theorem K_part {G : ze_G} {l : Launch} {b L X m : Nat} {xs : Nat → Int32} (hL : L ≤ 2560) {n q : Nat} {RK : Option Nat} {w : ze_W} (hn : 5 * n + 5 ≤ L) (hq : ((RK = none ∧ q = 0) ∨ ((∃ R, RK = some R) ∧ q = 1))) (hI : linv G w X m RK) (ih : ∀ (n' : Nat) (RK' : Option Nat) (q' : Nat) (w' : ze_W), 5 * n' ≤ L → n' = n + 1 → ((RK' = none ∧ q' = 0) ∨ ((∃ R, RK' = some R) ∧ q' = 1)) → linv G w' X m RK' → ze_V G l room_1 ML_law (lz G b L xs) 18 [(0, .ref b), (1, .ref X), (2, .ref m), (3, ze_i (((5 * n' : Nat))))] [] w' (22356 + 4 * n' + 665 * q') (705383 + 126 * n' + 24400 * q')) : ze_V G l room_1 ML_law (lz G b L xs) 756 [(0, .ref b), (1, .ref X), (2, .ref m), (3, ze_i (((5 * n : Nat))))] [] w (22356 + 4 * n + 665 * q) (705383 + 126 * n + 24400 * q) := by
  have hq1 : q ≤ 1 := by rcases hq with h | h <;> omega
  have hn5 : n ≤ 511 := by omega
  refine ze_wd (c1 := (22356 + 4 * (n + 1) + 665 * q)) (s1 := (705383 + 126 * (n + 1) + 24400 * q)) (by omega) (by omega) ?_
  obtain ⟨fX, hfX⟩ := li_o hI
  refine ze_aload_n dL_law_756 rfl ?_
  refine ze_aload_n dL_law_757 rfl ?_
  refine ze_iload_n dL_law_758 rfl ?_
  refine ze_iconst dL_law_759 ?_
  refine ze_iadd dL_law_760 ?_
  refine ze_ti (b := ((5 * n + 1 : Nat))) (by omega) ?_
  refine ze_sld (j := 5 * n + 1) dL_law_761 rfl (by omega) hL ?_
  refine ze_callV (As := [ze_i ((xs (5 * n + 1)).toInt)]) (rest := []) dL_law_762 (L_part (k := (xs (5 * n + 1)).toInt) hI (t32r _)) mo6_part ml_L_89 in_6_part se_6_part hfX rfl rfl rfl rfl rfl ⟨show _ ≤ 600000 by omega, show _ ≤ 7302250 by omega⟩ rfl (Nat.le_of_ble_eq_true rfl) ?_
  rintro _ w1 ⟨r, rfl, hrg, ⟨fm, hfm⟩, hC⟩
  refine ze_cs (cu' := (22356 + 4 * (n + 1) + 665 * q)) (su' := (705383 + 126 * (n + 1) + 24400 * q)) (by omega) (by omega) ?_
  change ze_V G l room_1 ML_law (lz G b L xs) 765 [(0, .ref b), (1, .ref X), (2, .ref m), (3, ze_i (((5 * n : Nat))))] [ze_l (r)] w1 (22356 + 4 * (n + 1) + 665 * q) (705383 + 126 * (n + 1) + 24400 * q)
  refine ze_aload_n dL_law_765 rfl ?_
  refine ze_aload_n dL_law_766 rfl ?_
  refine ze_iload_n dL_law_767 rfl ?_
  refine ze_iconst dL_law_768 ?_
  refine ze_iadd dL_law_769 ?_
  refine ze_ti (b := ((5 * n + 1 : Nat))) (by omega) ?_
  refine ze_sld (j := 5 * n + 1) dL_law_770 rfl (by omega) hL ?_
  refine ze_callV (As := [ze_i ((xs (5 * n + 1)).toInt)]) (rest := [ze_l (r)]) dL_law_771 (hC) mo8_part ml_L_93 in_8_part se_8_part hfm rfl rfl rfl rfl rfl ⟨show _ ≤ 600000 by omega, show _ ≤ 7302250 by omega⟩ rfl (Nat.le_of_ble_eq_true rfl) ?_
  rintro _ w2 ⟨rfl, hI2⟩
  refine ze_cs (cu' := (22356 + 4 * (n + 1) + 665 * q)) (su' := (705383 + 126 * (n + 1) + 24400 * q)) (by omega) (by omega) ?_
  change ze_V G l room_1 ML_law (lz G b L xs) 774 [(0, .ref b), (1, .ref X), (2, .ref m), (3, ze_i (((5 * n : Nat))))] [ze_l (r), ze_l (r)] w2 (22356 + 4 * (n + 1) + 665 * q) (705383 + 126 * (n + 1) + 24400 * q)
  refine ze_lc_eq 816 dL_law_774 dL_law_775 (by decide) hrg hrg (fun _ => ?_) (fun h => absurd rfl h)
  refine ze_iinc (b := ((5 * (n + 1) : Nat))) (lv' := [(0, .ref b), (1, .ref X), (2, .ref m), (3, ze_i (((5 * (n + 1) : Nat))))]) dL_law_816 rfl rfl (by omega) rfl ?_
  refine ze_goto 18 dL_law_819 (by decide) ?_
  exact ih (n + 1) RK q w2 (by omega) (by omega) hq hI2
theorem K_count {G : ze_G} {l : Launch} {b L X m : Nat} {xs : Nat → Int32} (hL : L ≤ 2560) {n q : Nat} {RK : Option Nat} {w : ze_W} (hn : 5 * n + 5 ≤ L) (hq : ((RK = none ∧ q = 0) ∨ ((∃ R, RK = some R) ∧ q = 1))) (hI : linv G w X m RK) (ih : ∀ (n' : Nat) (RK' : Option Nat) (q' : Nat) (w' : ze_W), 5 * n' ≤ L → n' = n + 1 → ((RK' = none ∧ q' = 0) ∨ ((∃ R, RK' = some R) ∧ q' = 1)) → linv G w' X m RK' → ze_V G l room_1 ML_law (lz G b L xs) 18 [(0, .ref b), (1, .ref X), (2, .ref m), (3, ze_i (((5 * n' : Nat))))] [] w' (22356 + 4 * n' + 665 * q') (705383 + 126 * n' + 24400 * q')) : ze_V G l room_1 ML_law (lz G b L xs) 780 [(0, .ref b), (1, .ref X), (2, .ref m), (3, ze_i (((5 * n : Nat))))] [] w (22356 + 4 * n + 665 * q) (705383 + 126 * n + 24400 * q) := by
  have hq1 : q ≤ 1 := by rcases hq with h | h <;> omega
  have hn5 : n ≤ 511 := by omega
  refine ze_wd (c1 := (22356 + 4 * (n + 1) + 665 * q)) (s1 := (705383 + 126 * (n + 1) + 24400 * q)) (by omega) (by omega) ?_
  obtain ⟨fX, hfX⟩ := li_o hI
  refine ze_aload_n dL_law_780 rfl ?_
  refine ze_aload_n dL_law_781 rfl ?_
  refine ze_iload_n dL_law_782 rfl ?_
  refine ze_iconst dL_law_783 ?_
  refine ze_iadd dL_law_784 ?_
  refine ze_ti (b := ((5 * n + 1 : Nat))) (by omega) ?_
  refine ze_sld (j := 5 * n + 1) dL_law_785 rfl (by omega) hL ?_
  refine ze_callV (As := [ze_i ((xs (5 * n + 1)).toInt)]) (rest := []) dL_law_786 (L_count (x := (xs (5 * n + 1)).toInt) hI (t32r _)) mo6_count ml_L_94 in_6_count se_6_count hfX rfl rfl rfl rfl rfl ⟨show _ ≤ 600000 by omega, show _ ≤ 7302250 by omega⟩ rfl (Nat.le_of_ble_eq_true rfl) ?_
  rintro _ w1 ⟨r, rfl, ⟨fm, hfm⟩, hC⟩
  refine ze_cs (cu' := (22356 + 4 * (n + 1) + 665 * q)) (su' := (705383 + 126 * (n + 1) + 24400 * q)) (by omega) (by omega) ?_
  change ze_V G l room_1 ML_law (lz G b L xs) 789 [(0, .ref b), (1, .ref X), (2, .ref m), (3, ze_i (((5 * n : Nat))))] [ze_i (r)] w1 (22356 + 4 * (n + 1) + 665 * q) (705383 + 126 * (n + 1) + 24400 * q)
  refine ze_aload_n dL_law_789 rfl ?_
  refine ze_aload_n dL_law_790 rfl ?_
  refine ze_iload_n dL_law_791 rfl ?_
  refine ze_iconst dL_law_792 ?_
  refine ze_iadd dL_law_793 ?_
  refine ze_ti (b := ((5 * n + 1 : Nat))) (by omega) ?_
  refine ze_sld (j := 5 * n + 1) dL_law_794 rfl (by omega) hL ?_
  refine ze_callV (As := [ze_i ((xs (5 * n + 1)).toInt)]) (rest := [ze_i (r)]) dL_law_795 (hC) mo8_count ml_L_97 in_8_count se_8_count hfm rfl rfl rfl rfl rfl ⟨show _ ≤ 600000 by omega, show _ ≤ 7302250 by omega⟩ rfl (Nat.le_of_ble_eq_true rfl) ?_
  rintro _ w2 ⟨rfl, hI2⟩
  refine ze_cs (cu' := (22356 + 4 * (n + 1) + 665 * q)) (su' := (705383 + 126 * (n + 1) + 24400 * q)) (by omega) (by omega) ?_
  change ze_V G l room_1 ML_law (lz G b L xs) 798 [(0, .ref b), (1, .ref X), (2, .ref m), (3, ze_i (((5 * n : Nat))))] [ze_i (r), ze_i (r)] w2 (22356 + 4 * (n + 1) + 665 * q) (705383 + 126 * (n + 1) + 24400 * q)
  refine ze_icmpu_eq 816 dL_law_798 (by decide) (by omega) (fun _ => ?_) (fun h => absurd rfl h)
  refine ze_iinc (b := ((5 * (n + 1) : Nat))) (lv' := [(0, .ref b), (1, .ref X), (2, .ref m), (3, ze_i (((5 * (n + 1) : Nat))))]) dL_law_816 rfl rfl (by omega) rfl ?_
  refine ze_goto 18 dL_law_819 (by decide) ?_
  exact ih (n + 1) RK q w2 (by omega) (by omega) hq hI2
theorem K_remove {G : ze_G} {l : Launch} {b L X m : Nat} {xs : Nat → Int32} (hL : L ≤ 2560) {n q : Nat} {RK : Option Nat} {w : ze_W} (hn : 5 * n + 5 ≤ L) (hq : ((RK = none ∧ q = 0) ∨ ((∃ R, RK = some R) ∧ q = 1))) (hI : linv G w X m RK) (ih : ∀ (n' : Nat) (RK' : Option Nat) (q' : Nat) (w' : ze_W), 5 * n' ≤ L → n' = n + 1 → ((RK' = none ∧ q' = 0) ∨ ((∃ R, RK' = some R) ∧ q' = 1)) → linv G w' X m RK' → ze_V G l room_1 ML_law (lz G b L xs) 18 [(0, .ref b), (1, .ref X), (2, .ref m), (3, ze_i (((5 * n' : Nat))))] [] w' (22356 + 4 * n' + 665 * q') (705383 + 126 * n' + 24400 * q')) : ze_V G l room_1 ML_law (lz G b L xs) 803 [(0, .ref b), (1, .ref X), (2, .ref m), (3, ze_i (((5 * n : Nat))))] [] w (22356 + 4 * n + 665 * q) (705383 + 126 * n + 24400 * q) := by
  have hq1 : q ≤ 1 := by rcases hq with h | h <;> omega
  have hn5 : n ≤ 511 := by omega
  refine ze_wd (c1 := (22356 + 4 * (n + 1) + 665 * q)) (s1 := (705383 + 126 * (n + 1) + 24400 * q)) (by omega) (by omega) ?_
  obtain ⟨fX, hfX⟩ := li_o hI
  refine ze_aload_n dL_law_803 rfl ?_
  refine ze_callV (As := []) (rest := []) dL_law_804 (L_remove  hI) mo6_remove ml_L_98 in_6_remove se_6_remove hfX rfl rfl rfl rfl rfl ⟨show _ ≤ 600000 by omega, show _ ≤ 7302250 by omega⟩ rfl (Nat.le_of_ble_eq_true rfl) ?_
  rintro _ w1 ⟨r, rfl, ⟨fm, hfm⟩, hC⟩
  refine ze_cs (cu' := (22356 + 4 * (n + 1) + 665 * q)) (su' := (705383 + 126 * (n + 1) + 24400 * q)) (by omega) (by omega) ?_
  change ze_V G l room_1 ML_law (lz G b L xs) 807 [(0, .ref b), (1, .ref X), (2, .ref m), (3, ze_i (((5 * n : Nat))))] [ze_i (r)] w1 (22356 + 4 * (n + 1) + 665 * q) (705383 + 126 * (n + 1) + 24400 * q)
  refine ze_aload_n dL_law_807 rfl ?_
  refine ze_callV (As := []) (rest := [ze_i (r)]) dL_law_808 (hC) mo8_remove ml_L_102 in_8_remove se_8_remove hfm rfl rfl rfl rfl rfl ⟨show _ ≤ 600000 by omega, show _ ≤ 7302250 by omega⟩ rfl (Nat.le_of_ble_eq_true rfl) ?_
  rintro _ w2 ⟨rfl, hI2⟩
  refine ze_cs (cu' := (22356 + 4 * (n + 1) + 665 * q)) (su' := (705383 + 126 * (n + 1) + 24400 * q)) (by omega) (by omega) ?_
  change ze_V G l room_1 ML_law (lz G b L xs) 811 [(0, .ref b), (1, .ref X), (2, .ref m), (3, ze_i (((5 * n : Nat))))] [ze_i (r), ze_i (r)] w2 (22356 + 4 * (n + 1) + 665 * q) (705383 + 126 * (n + 1) + 24400 * q)
  refine ze_icmpu_eq 816 dL_law_811 (by decide) (by omega) (fun _ => ?_) (fun h => absurd rfl h)
  refine ze_iinc (b := ((5 * (n + 1) : Nat))) (lv' := [(0, .ref b), (1, .ref X), (2, .ref m), (3, ze_i (((5 * (n + 1) : Nat))))]) dL_law_816 rfl rfl (by omega) rfl ?_
  refine ze_goto 18 dL_law_819 (by decide) ?_
  exact ih (n + 1) RK q w2 (by omega) (by omega) hq hI2
theorem K_none {G : ze_G} {l : Launch} {b L X m : Nat} {xs : Nat → Int32} (hL : L ≤ 2560) {n q : Nat} {RK : Option Nat} {w : ze_W} (hn : 5 * n + 5 ≤ L) (hq : ((RK = none ∧ q = 0) ∨ ((∃ R, RK = some R) ∧ q = 1))) (hI : linv G w X m RK) (ih : ∀ (n' : Nat) (RK' : Option Nat) (q' : Nat) (w' : ze_W), 5 * n' ≤ L → n' = n + 1 → ((RK' = none ∧ q' = 0) ∨ ((∃ R, RK' = some R) ∧ q' = 1)) → linv G w' X m RK' → ze_V G l room_1 ML_law (lz G b L xs) 18 [(0, .ref b), (1, .ref X), (2, .ref m), (3, ze_i (((5 * n' : Nat))))] [] w' (22356 + 4 * n' + 665 * q') (705383 + 126 * n' + 24400 * q')) : ze_V G l room_1 ML_law (lz G b L xs) 816 [(0, .ref b), (1, .ref X), (2, .ref m), (3, ze_i (((5 * n : Nat))))] [] w (22356 + 4 * n + 665 * q) (705383 + 126 * n + 24400 * q) := by
  have hq1 : q ≤ 1 := by rcases hq with h | h <;> omega
  have hn5 : n ≤ 511 := by omega
  refine ze_wd (c1 := (22356 + 4 * (n + 1) + 665 * q)) (s1 := (705383 + 126 * (n + 1) + 24400 * q)) (by omega) (by omega) ?_
  refine ze_iinc (b := ((5 * (n + 1) : Nat))) (lv' := [(0, .ref b), (1, .ref X), (2, .ref m), (3, ze_i (((5 * (n + 1) : Nat))))]) dL_law_816 rfl rfl (by omega) rfl ?_
  refine ze_goto 18 dL_law_819 (by decide) ?_
  exact ih (n + 1) RK q w (by omega) (by omega) hq hI
theorem law_loop {G : ze_G} {l : Launch} {b L X m : Nat} {xs : Nat → Int32} (hL : L ≤ 2560) : ∀ (d n : Nat) (RK : Option Nat) (q : Nat) (w : ze_W), 5 * n ≤ L → L ≤ 5 * n + 5 * d + 4 → ((RK = none ∧ q = 0) ∨ ((∃ R, RK = some R) ∧ q = 1)) → linv G w X m RK → ze_V G l room_1 ML_law (lz G b L xs) 18 [(0, .ref b), (1, .ref X), (2, .ref m), (3, ze_i (((5 * n : Nat))))] [] w (22356 + 4 * n + 665 * q) (705383 + 126 * n + 24400 * q) := by
  intro d
  induction d with
  | zero =>
    intro n RK q w hn hd hq hI
    have hq1 : q ≤ 1 := by rcases hq with h | h <;> omega
    refine ze_iload_n dL_law_18 rfl ?_
    refine ze_aload_n dL_law_19 rfl ?_
    refine ze_slen dL_law_20 ?_
    refine ze_iconst dL_law_21 ?_
    refine ze_isub dL_law_22 ?_
    refine ze_icmp_gt 822 dL_law_23 (by decide) (by omega) (by omega) (fun h => ?_) (fun h => ?_)
    · refine ze_iconst dL_law_822 ?_
      exact ze_lret dL_law_823 (by omega) (by omega)
    · omega
  | succ d ihd =>
    intro n RK q w hn hd hq hI
    have hq1 : q ≤ 1 := by rcases hq with h | h <;> omega
    refine ze_iload_n dL_law_18 rfl ?_
    refine ze_aload_n dL_law_19 rfl ?_
    refine ze_slen dL_law_20 ?_
    refine ze_iconst dL_law_21 ?_
    refine ze_isub dL_law_22 ?_
    refine ze_icmp_gt 822 dL_law_23 (by decide) (by omega) (by omega) (fun h => ?_) (fun h => ?_)
    · refine ze_iconst dL_law_822 ?_
      exact ze_lret dL_law_823 (by omega) (by omega)
    · have hn5 : 5 * n + 5 ≤ L := by omega
      have ih := fun (n' : Nat) (RK' : Option Nat) (q' : Nat) (w' : ze_W) (h1 : 5 * n' ≤ L) (h2 : n' = n + 1) => ihd n' RK' q' w' h1 (by omega)
      refine ze_aload_n dL_law_26 rfl ?_
      refine ze_iload_n dL_law_27 rfl ?_
      refine ze_sld (j := 5 * n) dL_law_28 rfl (by omega) hL ?_
      refine ze_bipush dL_law_29 (by decide) ?_
      obtain ⟨z, hz⟩ : ∃ z, z = (xs (5 * n) &&& 31).toInt := ⟨_, rfl⟩
      have hzr := an31 (xs (5 * n))
      rw [← hz] at hzr
      refine ze_iand (z := z) dL_law_31 (by rw [hz, Int32.ofInt_toInt, Int32.ofInt_toInt]; rfl) ?_
      rcases (show z = 0 ∨ z = 1 ∨ z = 2 ∨ z = 3 ∨ z = 4 ∨ z = 5 ∨ z = 6 ∨ z = 7 ∨ z = 8 ∨ z = 9 ∨ z = 10 ∨ z = 11 ∨ z = 12 ∨ z = 13 ∨ z = 14 ∨ z = 15 ∨ z = 16 ∨ z = 17 ∨ z = 18 ∨ z = 19 ∨ z = 20 ∨ 20 < z by omega) with hc | hc | hc | hc | hc | hc | hc | hc | hc | hc | hc | hc | hc | hc | hc | hc | hc | hc | hc | hc | hc | hc
      · exact ze_tabIn (off := 100) 132 dL_law_32 (by omega) (by omega) (by rw [hc]; decide) (by decide) (K_chain hL hn5 hq hI ih)
      · exact ze_tabIn (off := 143) 175 dL_law_32 (by omega) (by omega) (by rw [hc]; decide) (by decide) (K_begin hL hn5 hq hI ih)
      · exact ze_tabIn (off := 186) 218 dL_law_32 (by omega) (by omega) (by rw [hc]; decide) (by decide) (K_go hL hn5 hq hI ih)
      · exact ze_tabIn (off := 239) 271 dL_law_32 (by omega) (by omega) (by rw [hc]; decide) (by decide) (K_show hL hn5 hq hI ih)
      · exact ze_tabIn (off := 292) 324 dL_law_32 (by omega) (by omega) (by rw [hc]; decide) (by decide) (K_sound hL hn5 hq hI ih)
      · exact ze_tabIn (off := 315) 347 dL_law_32 (by omega) (by omega) (by rw [hc]; decide) (by decide) (K_told hL hn5 hq hI ih)
      · exact ze_tabIn (off := 348) 380 dL_law_32 (by omega) (by omega) (by rw [hc]; decide) (by decide) (K_sign hL hn5 hq hI ih)
      · exact ze_tabIn (off := 371) 403 dL_law_32 (by omega) (by omega) (by rw [hc]; decide) (by decide) (K_cut hL hn5 hq hI ih)
      · exact ze_tabIn (off := 394) 426 dL_law_32 (by omega) (by omega) (by rw [hc]; decide) (by decide) (K_at hL hn5 hq hI ih)
      · exact ze_tabIn (off := 417) 449 dL_law_32 (by omega) (by omega) (by rw [hc]; decide) (by decide) (K_sum hL hn5 hq hI ih)
      · exact ze_tabIn (off := 440) 472 dL_law_32 (by omega) (by omega) (by rw [hc]; decide) (by decide) (K_odds hL hn5 hq hI ih)
      · exact ze_tabIn (off := 493) 525 dL_law_32 (by omega) (by omega) (by rw [hc]; decide) (by decide) (K_moment hL hn5 hq hI ih)
      · exact ze_tabIn (off := 526) 558 dL_law_32 (by omega) (by omega) (by rw [hc]; decide) (by decide) (K_best hL hn5 hq hI ih)
      · exact ze_tabIn (off := 559) 591 dL_law_32 (by omega) (by omega) (by rw [hc]; decide) (by decide) (K_state hL hn5 hq hI ih)
      · exact ze_tabIn (off := 582) 614 dL_law_32 (by omega) (by omega) (by rw [hc]; decide) (by decide) (K_compare hL hn5 hq hI ih)
      · exact ze_tabIn (off := 615) 647 dL_law_32 (by omega) (by omega) (by rw [hc]; decide) (by decide) (K_same hL hn5 hq hI ih)
      · exact ze_tabIn (off := 648) 680 dL_law_32 (by omega) (by omega) (by rw [hc]; decide) (by decide) (K_apart hL hn5 hq hI ih)
      · exact ze_tabIn (off := 681) 713 dL_law_32 (by omega) (by omega) (by rw [hc]; decide) (by decide) (K_twins hL hn5 hq hI ih)
      · exact ze_tabIn (off := 724) 756 dL_law_32 (by omega) (by omega) (by rw [hc]; decide) (by decide) (K_part hL hn5 hq hI ih)
      · exact ze_tabIn (off := 748) 780 dL_law_32 (by omega) (by omega) (by rw [hc]; decide) (by decide) (K_count hL hn5 hq hI ih)
      · exact ze_tabIn (off := 771) 803 dL_law_32 (by omega) (by omega) (by rw [hc]; decide) (by decide) (K_remove hL hn5 hq hI ih)
      · exact ze_tabOut 816 dL_law_32 (by omega) (Or.inr hc) (by decide) (K_none hL hn5 hq hI ih)
