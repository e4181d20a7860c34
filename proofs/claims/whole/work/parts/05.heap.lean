/-! rows that touch the store -/
theorem ze_H.set {G : ze_G} {w : ze_W} {H H1 : Heap} {a : Nat} {e e0 : va_E} (h : ze_H G w H) (h0 : w.2 a = some e0) (hz : H1.size = H.size) (he : va_at (G.1, G.2.1) ze_cl (a, e) H1) (oq : ∀ q : Nat, q ≠ a → H1[q]? = H[q]?) : ze_H G (ze_up w a e) H1 := by
  refine ⟨by rw [hz]; exact h.1, fun x e1 hx => ?_⟩
  by_cases hxa : x = a
  · subst hxa
    rw [ze_up_s] at hx
    cases hx
    exact ⟨(h.2 x e0 h0).1, he⟩
  · rw [ze_up_n _ _ hxa] at hx
    exact ⟨(h.2 x e1 hx).1, (h.2 x e1 hx).2.kept (oq x hxa)⟩
theorem ze_H.lt {G : ze_G} {w : ze_W} {H : Heap} {a : Nat} {e : va_E} (h : ze_H G w H) (h0 : w.2 a = some e) : a < w.1 := by
  rw [← h.1]
  exact (h.2 a e h0).2.lt
theorem ze_H.add {G : ze_G} {w : ze_W} {H H1 : Heap} {e : va_E} (h : ze_H G w H) (hb : G.2.2.2.1 ≤ H.size) (hz : H1.size = H.size + 1) (he : va_at (G.1, G.2.1) ze_cl (H.size, e) H1) (o : ∀ q : Nat, q < H.size → H1[q]? = H[q]?) : ze_H G (ze_ad w e) H1 := by
  refine ⟨by rw [hz, h.1]; rfl, fun x e1 hx => ?_⟩
  by_cases hxa : x = w.1
  · subst hxa
    rw [ze_ad_s] at hx
    cases hx
    rw [← h.1]
    exact ⟨hb, he⟩
  · rw [ze_ad_n _ _ hxa] at hx
    exact ⟨(h.2 x e1 hx).1, (h.2 x e1 hx).2.kept (o x (by rw [h.1]; exact h.lt hx))⟩
theorem ze_S.put {G : ze_G} {H0 H H1 : Heap} {locs : List Loc} {a k : Nat} (h : va_S (ze_A G) H0 H locs) (z : H1.size = H.size) (oq : ∀ q : Nat, q ≠ a → H1[q]? = H[q]?) (ha : G.2.2.2.1 ≤ a) : va_S (ze_A G) H0 H1 (locs ++ [⟨a, k⟩]) := va_S.put h z oq ha
theorem ze_S.add {G : ze_G} {H0 H H1 : Heap} {locs : List Loc} (h : va_S (ze_A G) H0 H locs) (z : H1.size = H.size + 1) (o : ∀ q : Nat, q < H.size → H1[q]? = H[q]?) : va_S (ze_A G) H0 H1 locs :=
  ⟨Nat.le_trans h.1 (by omega), fun q h1 h2 => (o q (Nat.lt_of_lt_of_le h1 h.1)).trans (h.2.1 q h1 h2), h.2.2⟩
theorem ze_P1 {G : ze_G} {w : ze_W} {H : Heap} {a : Nat} {e : va_E} (h : ze_H G w H) (h0 : w.2 a = some e) : va_P (G.1, G.2.1) ze_cl [(a, e)] H := by
  intro k q hk
  have hz : k < 1 := (List.getElem?_eq_some_iff.mp hk).1
  rw [show k = 0 by omega] at hk
  cases hk
  exact (h.2 a e h0).2
/-- a field by its link: class number, place, final or not, its type -/
def ze_fl (own : String) (ix ci k : Nat) (fin : Bool) (ty : FieldType) : Prop :=
  ∃ (C : String) (T : u_T) (N : Nat) (ty0 : Nat → FieldType), ze_cl[ci]? = some (C, T, N) ∧ k < N ∧ (∀ w ∈ u_ws C T N, w ∈ ze_T) ∧ Cond.fieldLink own ix (T k).1 (T k).2.1 (T k).2.2.1 ∈ ze_T ∧ (T k).2.2.2 = fin ∧ (T k).1 = C ∧ parseFieldDescriptor (T k).2.2.1 = some ty ∧ (∀ k, k < N → parseFieldDescriptor (T k).2.2.1 = some (ty0 k)) ∧ (∀ a, a < N → ∀ b, b < N → a ≠ b → (T a).2.1 ≠ (T b).2.1)
section ZH
variable {G : ze_G} {l : Launch} {R : Room} {M : ze_M} {Z : List Frame → Array Value → State → State → Prop} {pc : Nat} {lv : List (Nat × Value)} {st : List Value} {w : ze_W} {cu su : Nat}
theorem ze_getf {ci k ix a : Nat} {fin : Bool} {ty : FieldType} {fs : List Value} {v : Value} (hd : decode M.2.1 pc = .ok (.getfield ix, 3)) (hf : ze_fl M.1.cls ix ci k fin ty) (hw : w.2 a = some (ze_ob ci fs)) (hv : fs[k]? = some v) (kk : ze_V G l R M Z (pc + 3) lv (v :: st) w cu su) : ze_V G l R M Z pc lv (.ref a :: st) w cu su := by
  intro p e s m args below meth c H locs ls X hH hS hl
  obtain ⟨C, T, N, ty0, f1, f2, f3, f4, -⟩ := hf
  obtain ⟨hx, hb, hml, hr, hlk, hown, hts, hK, -⟩ := id X
  exact va_get hx hb hts f3 hown hK.1 (ze_P1 hH hw) 0 rfl f1 k f2 (hts _ f4) (fun _ h => h) hv hd (kk p e s m args below meth c H locs ls X hH hS hl)
theorem ze_putf {ci k ix a : Nat} {fin : Bool} {ty : FieldType} {fs fs' : List Value} {v : Value} (hd : decode M.2.1 pc = .ok (.putfield ix, 3)) (hf : ze_fl M.1.cls ix ci k fin ty) (hfin : fin = false ∨ (M.1.name = "<init>" ∧ ze_cl[ci]?.map (fun q => q.1) = some M.1.cls)) (hw : w.2 a = some (ze_ob ci fs)) (hn : narrow ty v = v) (hfit : fits ty v = true) (hl0 : k < fs.length) (he : fs.set k v = fs') (kk : ze_V G l R M Z (pc + 3) lv st (ze_up w a (ze_ob ci fs')) cu su) : ze_V G l R M Z pc lv (v :: .ref a :: st) w cu su := by
  subst he
  intro p e s m args below meth c H locs ls X hH hS hl
  obtain ⟨C, T, N, ty0, f1, f2, f3, f4, f5, f6, f7, f8, f9⟩ := hf
  obtain ⟨hx, hb, hml, hr, hlk, hown, hts, hK, hZ, hbb, hin⟩ := id X
  have hap := va_apart (own := M.1.cls) hts f3 ty0 f8 f9 hK.1 f1
  obtain ⟨hA, hat⟩ := hH.2 a _ hw
  obtain ⟨r, h1, cell, q1, q2, q3, q4⟩ := hat
  have hr2 : r = (C, T, N) := Option.some.inj (h1.symm.trans f1)
  subst hr2
  obtain ⟨hSl, hfc, kC, hkC, hkind⟩ := hK.1.1 ci _ f1
  obtain ⟨cf, kf, fi, f, hi, hsl⟩ := hSl k f2
  have hlay := hts _ (f3 _ (u_in_lay f2))
  unfold u_lay at hlay
  have hst := (u_facts hfc hkC (u_lays hts f3 f2) hi).1
  have key : ∀ H' : Heap, H'[a]? = some (cell.setSlot f.slot v) → H'.size = H.size → (∀ q : Nat, q ≠ a → H'[q]? = H[q]?) → W p l e R s m args below meth c H' (locs ++ [⟨a, f.slot⟩]) cu su (Z below args s) (F0 m (pc + 3) ls st) := by
    intro H' e1 e2 e3
    refine kk p e s m args below meth c H' _ ls X (hH.set hw e2 ?_ e3) (ze_S.put hS e2 e3 hA) hl
    rw [hsl] at e1
    exact ⟨_, f1, t_OB.to (V := updV (vp_V fs) k v) ⟨_, e1, q2, q3, t_set q4 hap f2 v⟩ (fun j _ => vp_updV_set hl0 v j)⟩
  cases fin with
  | false =>
    rw [if_neg (by rw [f5]; decide)] at hlay
    have h6 := u_store hfc hkC hkind hlay hi f7 hn hfit
    exact W.putK hx hb (f := f) ⟨hown, hts _ f4, ⟨_, _, _, hi⟩, hst⟩ (by rw [q2]; exact h6) q1 q3 (by rw [hsl]; exact k2_hasslot (q4 k f2)) rfl rfl hd key
  | true =>
    obtain ⟨hn1, hn2⟩ := hfin.resolve_left (by decide)
    rw [if_pos f5] at hlay
    have hC : C = M.1.cls := by
      rw [f1] at hn2
      exact Option.some.inj hn2
    have hcf : m.cls = cf := by
      obtain ⟨_, _, c', _, _, _, -, -, hf', -, -, -, hown2, -⟩ := Cond.laysFinal_spec hlay
      have e1 : c' = cf := by
        have := hi.symm.trans hf'
        simp at this
        exact this.1.symm
      rw [f6, hC] at hown2
      rw [← e1]
      exact Option.some.inj (hown.symm.trans hown2)
    have h6 := u_fits hfc hkC hkind (Or.inr hlay) hi f7 hn hfit
    exact W.putFinK hx hb hown (hts _ f4) hi hst hcf (hin.trans hn1) (by rw [q2]; exact h6) q1 q3 (by rw [hsl]; exact k2_hasslot (q4 k f2)) rfl rfl hd key
/-- the model's own sign of a Big, across the nest -/
theorem ze_getN {a : Nat} {fs : List Value} {v : Value} (hM : M.1.cls = RX8) (hd : decode M.2.1 pc = .ok (.getfield 157, 3)) (hf : ∀ w ∈ u_ws RX7 TX7 3, w ∈ ze_T) (hw : w.2 a = some (ze_ob 7 fs)) (hv : fs[2]? = some v) (kk : ze_V G l R M Z (pc + 3) lv (v :: st) w cu su) : ze_V G l R M Z pc lv (.ref a :: st) w cu su := by
  intro p e s m args below meth c H locs ls X hH hS hl
  obtain ⟨hx, hb, hml, hr, hlk, hown, hts, hK, -⟩ := id X
  rw [hM] at hown
  exact va_getN (C := RX7) (T := TX7) (N := 3) (host := RX8) (ref := RX7) hx hb hts hf hown hK.1 (ze_P1 hH hw) 0 rfl rfl 2 (by decide) (va_Nw.use rfl hK.2.1.2.2.2) (fun _ h => h) hv hd (kk p e s m args below meth c H locs ls X hH hS hl)
theorem ze_putN {a : Nat} {fs fs' : List Value} {z : Int} (hM : M.1.cls = RX8) (hd : decode M.2.1 pc = .ok (.putfield 157, 3)) (hf : ∀ w ∈ u_ws RX7 TX7 3, w ∈ ze_T) (hw : w.2 a = some (ze_ob 7 fs)) (hl0 : 2 < fs.length) (he : fs.set 2 (ze_i z) = fs') (kk : ze_V G l R M Z (pc + 3) lv st (ze_up w a (ze_ob 7 fs')) cu su) : ze_V G l R M Z pc lv (ze_i z :: .ref a :: st) w cu su := by
  subst he
  intro p e s m args below meth c H locs ls X hH hS hl
  obtain ⟨hx, hb, hml, hr, hlk, hown, hts, hK, hZ, hbb, hin⟩ := id X
  rw [hM] at hown
  have f1 : ze_cl[7]? = some (RX7, TX7, 3) := rfl
  have f2 : 2 < 3 := by decide
  have hap := va_apart (own := RX8) hts hf tyX7 tyX7_ok nmX7 hK.1 f1
  obtain ⟨hA, hat⟩ := hH.2 a _ hw
  obtain ⟨r, h1, cell, q1, q2, q3, q4⟩ := hat
  have hr2 : r = (RX7, TX7, 3) := Option.some.inj (h1.symm.trans f1)
  subst hr2
  obtain ⟨hSl, hfc, kC, hkC, hkind⟩ := hK.1.1 7 _ f1
  obtain ⟨cf, kf, fi, f, hi, hsl⟩ := hSl 2 f2
  have hlay := hts _ (hf _ (u_in_lay f2))
  unfold u_lay at hlay
  rw [if_neg (by decide)] at hlay
  have hst := (u_facts hfc hkC (u_lays hts hf f2) hi).1
  have h6 := u_store hfc hkC hkind hlay hi (show parseFieldDescriptor (TX7 2).2.2.1 = some FieldType.int by decide +kernel) (v := ze_i z) rfl rfl
  refine va_WputK (host := RX8) (ref := RX7) hx hb (f := f) hown (va_Nw.use rfl hK.2.1.2.2.2) hi hst (by rw [q2]; exact h6) q1 q3 (by rw [hsl]; exact k2_hasslot (q4 2 f2)) rfl rfl hd fun H' e1 e2 e3 => ?_
  refine kk p e s m args below meth c H' _ ls X (hH.set hw e2 ?_ e3) (ze_S.put hS e2 e3 hA) hl
  rw [hsl] at e1
  exact ⟨_, f1, t_OB.to (V := updV (vp_V fs) 2 (ze_i z)) ⟨_, e1, q2, q3, t_set q4 hap f2 (ze_i z)⟩ (fun j _ => vp_updV_set hl0 (ze_i z) j)⟩
theorem ze_iald {a n j : Nat} {i : Int} {f : Nat → Int} (hd : decode M.2.1 pc = .ok (.iaload, 1)) (hw : w.2 a = some (ze_ia G n f)) (hi : i = (j : Int)) (hj : j < n) (hn : n < 2147483648) (kk : ze_V G l R M Z (pc + 1) lv (ze_i (f j) :: st) w cu su) : ze_V G l R M Z pc lv (ze_i i :: .ref a :: st) w cu su := by
  intro p e s m args below meth c H locs ls X hH hS hl
  refine va_iald X.1 X.2.1 X.2.2.2.2.2.2.2.1.1 (ze_P1 hH hw) 0 0 rfl rfl (ze_in (by omega) (by omega) hn) hd ?_
  rw [ze_clamp hi (by omega)]
  exact kk p e s m args below meth c H locs ls X hH hS hl
theorem ze_lald {a n j : Nat} {i : Int} {f : Nat → Int} (hd : decode M.2.1 pc = .ok (.laload, 1)) (hw : w.2 a = some (ze_la G n f)) (hi : i = (j : Int)) (hj : j < n) (hn : n < 2147483648) (kk : ze_V G l R M Z (pc + 1) lv (ze_l (f j) :: st) w cu su) : ze_V G l R M Z pc lv (ze_i i :: .ref a :: st) w cu su := by
  intro p e s m args below meth c H locs ls X hH hS hl
  refine va_lald X.1 X.2.1 X.2.2.2.2.2.2.2.1.1 (ze_P1 hH hw) 0 1 rfl rfl (ze_in (by omega) (by omega) hn) hd ?_
  rw [ze_clamp hi (by omega)]
  exact kk p e s m args below meth c H locs ls X hH hS hl
theorem ze_aald {a n j t b : Nat} {i : Int} {f : Nat → Option Nat} {C : String} (hd : decode M.2.1 pc = .ok (.aaload, 1)) (hw : w.2 a = some (ze_ra G t n f)) (ht : (ze_ty G)[t]? = some (G.2.2.1 t, .object C)) (hi : i = (j : Int)) (hj : j < n) (hn : n < 2147483648) (hv : f j = some b) (kk : ze_V G l R M Z (pc + 1) lv (.ref b :: st) w cu su) : ze_V G l R M Z pc lv (ze_i i :: .ref a :: st) w cu su := by
  intro p e s m args below meth c H locs ls X hH hS hl
  refine va_aldq X.1 X.2.1 X.2.2.2.2.2.2.2.1.1 (ze_P1 hH hw) 0 t rfl ht (ze_in (by omega) (by omega) hn) hd ?_
  rw [ze_clamp hi (by omega), hv]
  exact kk p e s m args below meth c H locs ls X hH hS hl
theorem ze_alen {a n t : Nat} {x : (Nat → Int32) ⊕ (Nat → Int64) ⊕ (Nat → UInt32) ⊕ (Nat → UInt64) ⊕ (Nat → Option Nat)} (hd : decode M.2.1 pc = .ok (.arraylength, 1)) (hw : w.2 a = some (.inl (G.2.2.1 t, n, x))) {ty : FieldType} (ht : (ze_ty G)[t]? = some (G.2.2.1 t, ty)) (kk : ze_V G l R M Z (pc + 1) lv (ze_i n :: st) w cu su) : ze_V G l R M Z pc lv (.ref a :: st) w cu su := by
  intro p e s m args below meth c H locs ls X hH hS hl
  exact va_alen X.1 X.2.1 X.2.2.2.2.2.2.2.1.1 (ze_P1 hH hw) 0 t rfl ht (v := Int32.ofInt n) (by first | exact (Int32.ofInt_natCast n).symm | exact Int32.ofInt_eq_ofNat.symm | exact (Int32.ofInt_eq_ofNat n).symm) hd (kk p e s m args below meth c H locs ls X hH hS hl)
theorem ze_iast {a n j : Nat} {i x : Int} {f f' : Nat → Int} (hd : decode M.2.1 pc = .ok (.iastore, 1)) (hw : w.2 a = some (ze_ia G n f)) (hi : i = (j : Int)) (hj : j < n) (hn : n < 2147483648) (hf : va_up f j x = f') (kk : ze_V G l R M Z (pc + 1) lv st (ze_up w a (ze_ia G n f')) cu su) : ze_V G l R M Z pc lv (ze_i x :: ze_i i :: .ref a :: st) w cu su := by
  subst hf
  intro p e s m args below meth c H locs ls X hH hS hl
  obtain ⟨hA, hat⟩ := hH.2 a _ hw
  have hK := X.2.2.2.2.2.2.2.1.1
  have hin : vp_in (Int32.ofInt i) n := ze_in (by omega) (by omega) hn
  refine W.iast X.1 X.2.1 hat ((hK.2 0 _ rfl).1 n (fun j => .int (Int32.ofInt (f j)))) (fun q => by cases q) (by show ¬ (_ ∨ (arrV _ _ _).slots.size ≤ _); rw [arrV_size]; exact hin) rfl rfl hd fun H1 e1 z oq => ?_
  refine kk p e s m args below meth c H1 _ ls X (hH.set hw z ?_ oq) (ze_S.put hS z oq hA) hl
  show H1[a]? = some (vp_cell _ _)
  rw [e1, vp_cell_i, vp_cell_i, arrV_store, ze_clamp hi (by omega)]
  congr 2
  funext q
  by_cases hq : q = j <;> simp [updV, va_up, hq]
theorem ze_last {a n j : Nat} {i x : Int} {f f' : Nat → Int} (hd : decode M.2.1 pc = .ok (.lastore, 1)) (hw : w.2 a = some (ze_la G n f)) (hi : i = (j : Int)) (hj : j < n) (hn : n < 2147483648) (hf : va_up f j x = f') (kk : ze_V G l R M Z (pc + 1) lv st (ze_up w a (ze_la G n f')) cu su) : ze_V G l R M Z pc lv (ze_l x :: ze_i i :: .ref a :: st) w cu su := by
  subst hf
  intro p e s m args below meth c H locs ls X hH hS hl
  obtain ⟨hA, hat⟩ := hH.2 a _ hw
  have hK := X.2.2.2.2.2.2.2.1.1
  have hin : vp_in (Int32.ofInt i) n := ze_in (by omega) (by omega) hn
  refine W.last X.1 X.2.1 hat ((hK.2 1 _ rfl).1 n (fun j => .long (Int64.ofInt (f j)))) (fun q => by cases q) (by show ¬ (_ ∨ (arrV _ _ _).slots.size ≤ _); rw [arrV_size]; exact hin) rfl rfl hd fun H1 e1 z oq => ?_
  refine kk p e s m args below meth c H1 _ ls X (hH.set hw z ?_ oq) (ze_S.put hS z oq hA) hl
  show H1[a]? = some (vp_cell _ _)
  rw [e1, vp_cell_l, vp_cell_l, arrV_store, ze_clamp hi (by omega)]
  congr 2
  funext q
  by_cases hq : q = j <;> simp [updV, va_up, hq]
theorem ze_aast {a n j t ci v : Nat} {r : vw_C} {vs : List Value} {i : Int} {f f' : Nat → Option Nat} (hd : decode M.2.1 pc = .ok (.aastore, 1)) (hw : w.2 a = some (ze_ra G t n f)) (ht : (ze_ty G)[t]? = some (G.2.2.1 t, .object r.1)) (hc : ze_cl[ci]? = some r) (hv : w.2 v = some (ze_ob ci vs)) (hi : i = (j : Int)) (hj : j < n) (hn : n < 2147483648) (hf : va_up f j (some v) = f') (kk : ze_V G l R M Z (pc + 1) lv st (ze_up w a (ze_ra G t n f')) cu su) : ze_V G l R M Z pc lv (.ref v :: ze_i i :: .ref a :: st) w cu su := by
  subst hf
  intro p e s m args below meth c H locs ls X hH hS hl
  obtain ⟨hA, hat⟩ := hH.2 a _ hw
  have hK := X.2.2.2.2.2.2.2.1.1
  have hin : vp_in (Int32.ofInt i) n := ze_in (by omega) (by omega) hn
  obtain ⟨-, r', hr', cellV, g1, g2, g3, -⟩ := hH.2 v _ hv
  have hcls := (hK.1 ci r hc).2
  obtain ⟨kA, comp, k1, k2, k3, -⟩ := (hK.2 t _ ht).2
  have hcomp : comp = G.1 ci := Option.some.inj (k3.symm.trans hcls.1)
  subst hcomp
  have hass := va_assign hcls
  obtain ⟨kC, hkC, -⟩ := hcls.2
  refine W.aast X.1 X.2.1 hat (fun q h => by cases h) (fun h => by cases h) k1 k2 rfl hkC ⟨fun q => hin (Or.inl q), by show _ < (arrV _ _ _).slots.size; rw [arrV_size]; exact Nat.not_le.mp fun q => hin (Or.inr q)⟩ g1 (fun q h => by rw [g3] at h; cases h) (by rw [g2]; exact hkC) (by rw [g2]; exact hass) rfl rfl hd fun H1 e1 z oq => ?_
  refine kk p e s m args below meth c H1 _ ls X (hH.set hw z ?_ oq) (ze_S.put hS z oq hA) hl
  show H1[a]? = some (vp_cell _ _)
  rw [e1, vp_cell_q, vp_cell_q, arrV_store, ze_clamp hi (by omega)]
  congr 2
  funext q
  by_cases hq : q = j <;> simp [updV, va_up, va_rf, hq]
theorem ze_aastN {a n j t : Nat} {C : String} {i : Int} {f f' : Nat → Option Nat} (hd : decode M.2.1 pc = .ok (.aastore, 1)) (hw : w.2 a = some (ze_ra G t n f)) (ht : (ze_ty G)[t]? = some (G.2.2.1 t, .object C)) (hi : i = (j : Int)) (hj : j < n) (hn : n < 2147483648) (hf : va_up f j none = f') (kk : ze_V G l R M Z (pc + 1) lv st (ze_up w a (ze_ra G t n f')) cu su) : ze_V G l R M Z pc lv (.null :: ze_i i :: .ref a :: st) w cu su := by
  subst hf
  intro p e s m args below meth c H locs ls X hH hS hl
  obtain ⟨hA, hat⟩ := hH.2 a _ hw
  have hK := X.2.2.2.2.2.2.2.1.1
  have hin : vp_in (Int32.ofInt i) n := ze_in (by omega) (by omega) hn
  refine va_WaastN (C := C) X.1 X.2.1 hat ((hK.2 t _ ht).1 n (fun j => va_rf (f j))) (fun q => by cases q) (by show ¬ (_ ∨ (arrV _ _ _).slots.size ≤ _); rw [arrV_size]; exact hin) rfl rfl hd fun H1 e1 z oq => ?_
  refine kk p e s m args below meth c H1 _ ls X (hH.set hw z ?_ oq) (ze_S.put hS z oq hA) hl
  show H1[a]? = some (vp_cell _ _)
  rw [e1, vp_cell_q, vp_cell_q, arrV_store, ze_clamp hi (by omega)]
  congr 2
  funext q
  by_cases hq : q = j <;> simp [updV, va_up, va_rf, hq]
theorem ze_newi {i : Int} {n : Nat} (hd : decode M.2.1 pc = .ok (.newarray .int, 2)) (hw : Cond.arrayClass .int ∈ ze_T) (hi : i = (n : Int)) (hn : n ≤ 100000) (hc : cu + 1 ≤ R.cells) (hs : su + n ≤ R.slots) (kk : ze_V G l R M Z (pc + 2) lv (.ref w.1 :: st) (ze_ad w (ze_ia G n (fun _ => 0))) (cu + 1) (su + n)) : ze_V G l R M Z pc lv (ze_i i :: st) w cu su := by
  intro p e s m args below meth c H locs ls X hH hS hl
  have hK := X.2.2.2.2.2.2.2.1.1
  refine va_newaK (atype := .int) X.1 X.2.1 (X.2.2.2.2.2.2.1 _ hw) rfl hd rfl (fun h => ?_) (ze_clamp hi (by omega)) (show n * 4 ≤ 536870912 by omega) hc hs hH.1 fun H1 cA e1 z1 o1 hAr hNm => ?_
  · have := (ze_lt32 (a := i) (b := 0) (by omega) (by omega)).mp h
    omega
  · have hcA : cA = G.2.2.1 0 := Option.some.inj (hNm.symm.trans (hK.2 0 _ rfl).2)
    subst hcA
    rw [← hH.1] at e1 z1 o1
    have hb := X.2.2.2.2.2.2.2.2.2.1
    exact kk p e s m args below meth c H1 locs ls X (hH.add (Nat.le_trans hb hS.1) z1 e1 o1) (ze_S.add hS z1 o1) hl
theorem ze_newl {i : Int} {n : Nat} (hd : decode M.2.1 pc = .ok (.newarray .long, 2)) (hw : Cond.arrayClass .long ∈ ze_T) (hi : i = (n : Int)) (hn : n ≤ 100000) (hc : cu + 1 ≤ R.cells) (hs : su + n ≤ R.slots) (kk : ze_V G l R M Z (pc + 2) lv (.ref w.1 :: st) (ze_ad w (ze_la G n (fun _ => 0))) (cu + 1) (su + n)) : ze_V G l R M Z pc lv (ze_i i :: st) w cu su := by
  intro p e s m args below meth c H locs ls X hH hS hl
  have hK := X.2.2.2.2.2.2.2.1.1
  refine va_newaK (atype := .long) X.1 X.2.1 (X.2.2.2.2.2.2.1 _ hw) rfl hd rfl (fun h => ?_) (ze_clamp hi (by omega)) (show n * 8 ≤ 536870912 by omega) hc hs hH.1 fun H1 cA e1 z1 o1 hAr hNm => ?_
  · have := (ze_lt32 (a := i) (b := 0) (by omega) (by omega)).mp h
    omega
  · have hcA : cA = G.2.2.1 1 := Option.some.inj (hNm.symm.trans (hK.2 1 _ rfl).2)
    subst hcA
    rw [← hH.1] at e1 z1 o1
    have hb := X.2.2.2.2.2.2.2.2.2.1
    exact kk p e s m args below meth c H1 locs ls X (hH.add (Nat.le_trans hb hS.1) z1 e1 o1) (ze_S.add hS z1 o1) hl
theorem ze_newq {ix n t : Nat} {C : String} {i : Int} (hd : decode M.2.1 pc = .ok (.anewarray ix, 3)) (hw : Cond.classLink M.1.cls ix C ∈ ze_T) (ht : (ze_ty G)[t]? = some (G.2.2.1 t, .object C)) (hC : C = RX5 ∨ C = RX0 ∨ C = RX7) (hi : i = (n : Int)) (hn : n ≤ 100000) (hc : cu + 1 ≤ R.cells) (hs : su + n ≤ R.slots) (kk : ze_V G l R M Z (pc + 3) lv (.ref w.1 :: st) (ze_ad w (ze_ra G t n (fun _ => none))) (cu + 1) (su + n)) : ze_V G l R M Z pc lv (ze_i i :: st) w cu su := by
  intro p e s m args below meth c H locs ls X hH hS hl
  obtain ⟨hx, hb, hml, hr, hlk, hown, hts, hK, hZ, hbb, hin⟩ := id X
  have hover : va_AO C s := by
    obtain ⟨-, -, a1, a2, a3⟩ := hK
    rcases hC with rfl | rfl | rfl
    · exact a1
    · exact a2
    · exact a3
  have hcl : (Int32.ofInt i).toNatClampNeg = n := ze_clamp hi (by omega)
  refine W.anew hx hb hown (hts _ hw) (va_AO.use hover) rfl hd rfl (fun h => ?_) (by rw [hcl]; omega) hc (by rw [hcl]; exact hs) fun cA kA comp f1 f2 f3 f4 => ?_
  · have := (ze_lt32 (a := i) (b := 0) (by omega) (by omega)).mp h
    omega
  · rw [hcl]
    generalize hH1 : H.push ({ cls := cA, slots := Array.replicate n .null, vm := .none } : Cell) = H1
    have z1 : H1.size = H.size + 1 := by rw [← hH1, Array.size_push]
    have e1 : H1[H.size]? = some (arrV cA n (fun _ => .null)) := by rw [← hH1, Array.getElem?_push_size, ← arrV_new]
    have o1 : ∀ q : Nat, q < H.size → H1[q]? = H[q]? := fun q hq => by rw [← hH1, Array.getElem?_push, if_neg (Nat.ne_of_lt hq)]
    obtain ⟨kA', comp', k1, k2, k3, k4⟩ := (hK.1.2 t _ ht).2
    have hcA : cA = G.2.2.1 t := by
      first | exact Option.some.inj (f4.symm.trans k4) | exact Option.some.inj (f1.symm.trans k4)
    subst hcA
    rw [hH.1]
    exact kk p e s m args below meth c H1 locs ls X (hH.add (Nat.le_trans hbb hS.1) z1 e1 o1) (ze_S.add hS z1 o1) hl
theorem ze_new {ix ci N : Nat} {C : String} {T : u_T} {fs : List Value} (ty : Nat → FieldType) (hd : decode M.2.1 pc = .ok (.new ix, 3)) (h1 : Cond.classLink M.1.cls ix C ∈ ze_T) (h2 : Cond.instantiable C N ∈ ze_T) (h3 : Cond.initialized C ∈ ze_T) (hcl : ze_cl[ci]? = some (C, T, N)) (hin : ∀ w ∈ u_ws C T N, w ∈ ze_T) (hty : ∀ k, k < N → parseFieldDescriptor (T k).2.2.1 = some (ty k)) (hfs : ∀ j, j < N → defaultValue (ty j) = vp_V fs j) (hc : cu + 1 ≤ R.cells) (hs : su + N ≤ R.slots) (kk : ze_V G l R M Z (pc + 3) lv (.ref w.1 :: st) (ze_ad w (ze_ob ci fs)) (cu + 1) (su + N)) : ze_V G l R M Z pc lv st w cu su := by
  intro p e s m args below meth c H locs ls X hH hS hl
  obtain ⟨hx, hb, hml, hr, hlk, hown, hts, hK, hZ, hbb, hin2⟩ := id X
  have hKn := hK.1.1 ci _ hcl
  refine W.newcK hx hb hown (hts _ h1) (hts _ h2) (hts _ h3) rfl hd hc hs hKn.2.1 hH.1 fun H1 kC hkC e1 z1 o1 => ?_
  rw [← hH.1] at e1 z1 o1
  refine kk p e s m args below meth c H1 locs ls X (hH.add (Nat.le_trans hbb hS.1) z1 ?_ o1) (ze_S.add hS z1 o1) hl
  exact ⟨_, hcl, (u_born ty hts hin hKn hkC e1 hty).to hfs⟩
/-- the static row of primes -/
theorem ze_gets (hM : M.1.cls = RX4) (hd : decode M.2.1 pc = .ok (.getstatic 93, 3)) (kk : ze_V G l R M Z (pc + 3) lv (.ref G.2.2.2.2 :: st) w cu su) : ze_V G l R M Z pc lv st w cu su := by
  intro p e s m args below meth c H locs ls X hH hS hl
  obtain ⟨hx, hb, hml, hr, hlk, hown, hts, hK, hZ, hbb, hin2⟩ := id X
  rw [hM] at hown
  exact va_getsN (host := RX6) (ref := RX6) hx hb hZ.1 hS hown (va_Nw.use rfl hK.2.1.2.2.1) (fun _ h => h) hd (kk p e s m args below meth c H locs ls X hH hS hl)
theorem ze_prld {i : Int} {j : Nat} (hd : decode M.2.1 pc = .ok (.iaload, 1)) (hi : i = (j : Int)) (hj : j < 10) (kk : ze_V G l R M Z (pc + 1) lv (ze_i (ze_pr j) :: st) w cu su) : ze_V G l R M Z pc lv (ze_i i :: .ref G.2.2.2.2 :: st) w cu su := by
  intro p e s m args below meth c H locs ls X hH hS hl
  obtain ⟨hx, hb, hml, hr, hlk, hown, hts, hK, hZ, hbb, hin2⟩ := id X
  exact va_ti hx hb hZ.2 hS (ze_in (n := 10) (by omega) (by omega) (by decide)) (v := ze_i (ze_pr j)) (by show Value.int (Int32.ofInt (ze_pr (Int32.ofInt i).toNatClampNeg)) = _; rw [ze_clamp hi (by omega)]) hd (kk p e s m args below meth c H locs ls X hH hS hl)
theorem ze_prlen (hd : decode M.2.1 pc = .ok (.arraylength, 1)) (kk : ze_V G l R M Z (pc + 1) lv (ze_i 10 :: st) w cu su) : ze_V G l R M Z pc lv (.ref G.2.2.2.2 :: st) w cu su := by
  intro p e s m args below meth c H locs ls X hH hS hl
  obtain ⟨hx, hb, hml, hr, hlk, hown, hts, hK, hZ, hbb, hin2⟩ := id X
  exact va_tlen hx hb hZ.2 hS (v := Int32.ofInt 10) rfl hd (kk p e s m args below meth c H locs ls X hH hS hl)
end ZH
