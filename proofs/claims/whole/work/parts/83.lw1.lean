/-! the class beside the reference: what holds between two calls, and each call -/
theorem mdl_sm {G : ze_G} {w w' : ze_W} {m C P F : Nat} {ar : Nat → Nat → Int} {bz : Nat → Int} (h : mdl G w m C P F ar bz) (fr : ∀ u, m ≤ u → u < m + 22276 → w'.2 u = w.2 u) : mdl G w' m C P F ar bz := by
  obtain ⟨h1, h2, h3, h4⟩ := h
  refine ⟨(fr m (by omega) (by omega)).trans h1, fun k hk => ?_, fun k hk => ?_, fun o ho => ?_⟩
  · have := mil_ne hk
    exact (fr _ (by omega) (by omega)).trans (h2 k hk)
  · have := mrl_ne hk
    exact (fr _ (by omega) (by omega)).trans (h3 k hk)
  · have := mcap_ne ho
    exact bgz_sm (h4 o ho) (fr _ (by omega) (by omega)) (fr _ (by omega) (by omega))
/-- the class at X and the reference at m hold the same -/
def linv (G : ze_G) (w : ze_W) (X m : Nat) (RK : Option Nat) : Prop := X + 80 ≤ m ∧ m + 22276 ≤ w.1 ∧ ∃ (C P F : Nat) (ar : Nat → Nat → Int) (bz : Nat → Int) (cf : Nat → Option Nat) (pc : Nat → Nat), mdl G w m C P F ar bz ∧ mgd C P F ar ∧ 0 ≤ bz 8 ∧ hpc G w X (m + 22276) C P F ar (bz 8).toNat cf pc RK
section LI
variable {G : ze_G} {w w1 w2 : ze_W} {X m C P F V : Nat} {ar ar' : Nat → Nat → Int} {bz bz' : Nat → Int} {cf : Nat → Option Nat} {pc : Nat → Nat} {RK : Option Nat}
theorem li_mk (hX : X + 80 ≤ m) (hsz : m + 22276 ≤ w1.1) (h1 : hpc G w1 X (m + 22276) C P F ar V cf pc RK) (h2 : mst G w1 w2 m C P F ar' bz') (e : ∀ k, k ≤ 6 → ar' k = ar k) (e7 : ∀ i, i < P → ar' 7 i = ar 7 i) (e17 : ∀ i, i < F → ar' 17 i = ar 17 i) (hb : bz' 8 = (V : Nat)) (hc : C ≤ 6 ∧ P ≤ 60 ∧ F ≤ 60) (r7 : ∀ i, i < P → -1 ≤ ar 7 i ∧ ar 7 i < 6) (r17 : ∀ i, i < F → 0 ≤ ar 17 i ∧ ar 17 i < 8) : linv G w2 X m RK := by
  have h3 : hpc G w2 X (m + 22276) C P F ar' V cf pc RK := hp_ar (hp_out h1 (fun u hu => h2.1.2 u (by omega)) (Nat.le_of_eq h2.1.1.symm)) e e7 e17
  refine ⟨hX, by rw [h2.1.1]; exact hsz, C, P, F, ar', bz', cf, pc, h2.2, ⟨hc, fun c hc => (hp_ch h3 hc).1, fun i hi => by rw [e7 i hi]; exact r7 i hi, fun i hi => by rw [e17 i hi]; exact r17 i hi⟩, by rw [hb]; exact Int.natCast_nonneg _, ?_⟩
  rw [hb, Int.toNat_natCast]
  exact h3
theorem li_m (hX : X + 80 ≤ m) (h : mdl G w m C P F ar bz) (k : kfr w w1 X (m + 22276)) : mst G w1 w1 m C P F ar bz := ms_rf (mdl_sm h (fun u g1 g2 => k.2 u (by omega)))
theorem li_s (hs : m + 22276 ≤ w.1) (k : kfr w w1 X (m + 22276)) : m + 22276 ≤ w1.1 := Nat.le_trans hs k.1
end LI
theorem rf2_un {ar : Nat → Nat → Int} {C : Nat} {a b r r' : Int} (h : rf2 ar C a b r) (h' : rf2 ar C a b r') : r = r' := by
  rcases h with ⟨a1, a2⟩ | ⟨a1, a2, a3⟩ | ⟨a1, a2, a3, a4⟩ | ⟨a1, a2, a3, a4⟩ <;> rcases h' with ⟨b1, b2⟩ | ⟨b1, b2, b3⟩ | ⟨b1, b2, b3, b4⟩ | ⟨b1, b2, b3, b4⟩
  · exact a2.trans b2.symm
  · exact absurd b1 a1
  · exact absurd b1 a1
  · exact absurd b1 a1
  · exact absurd a1 b1
  · exact a3.trans b3.symm
  · exact absurd b2 a2
  · exact absurd b2 a2
  · exact absurd a1 b1
  · exact absurd a2 b2
  · exact a4.trans b4.symm
  · exact absurd b3 a3
  · exact absurd a1 b1
  · exact absurd a2 b2
  · exact absurd a3 b3
  · exact a4.trans b4.symm
def lq (G : ze_G) (l : Launch) (k : Nat) (M : ze_M) (as : List Value) (X m : Nat) (RK : Option Nat) : Option Value → ze_W → Prop := fun v w1 => ∃ r : Int, v = some (ze_i r) ∧ (∃ fs, w1.2 m = some (ze_ob 8 fs)) ∧ ze_C G l k 0 0 M as w1 (fun v2 w2 => v2 = some (ze_i r) ∧ linv G w2 X m RK)
def lql (G : ze_G) (l : Launch) (k : Nat) (M : ze_M) (as : List Value) (X m : Nat) (RK : Option Nat) : Option Value → ze_W → Prop := fun v w1 => ∃ r : Int, v = some (ze_l r) ∧ (-9223372036854775808 ≤ r ∧ r < 9223372036854775808) ∧ (∃ fs, w1.2 m = some (ze_ob 8 fs)) ∧ ze_C G l k 0 0 M as w1 (fun v2 w2 => v2 = some (ze_l r) ∧ linv G w2 X m RK)
theorem L_begin {G : ze_G} {l : Launch} {w : ze_W} {X m : Nat} {RK : Option Nat} {c s v : Int} (hI : linv G w X m RK) (r_c : -2147483648 ≤ c ∧ c < 2147483648) (r_s : -2147483648 ≤ s ∧ s < 2147483648) (r_v : -2147483648 ≤ v ∧ v < 2147483648) : ze_C G l 2 0 0 M6_begin [.ref X, ze_i c, ze_i s, ze_i v] w (lq G l 1 M8_begin [.ref m, ze_i c, ze_i s, ze_i v] X m RK) := by
  obtain ⟨hX, hs, C, P, F, ar, bz, cf, pc, hm, hG, hb, hH⟩ := hI
  have hlo : X + 80 ≤ m + 22276 := by omega
  refine ze_wk (C6_begin hH hG hlo r_c r_s r_v) ?_
  rintro _ w1 ⟨r, rfl, ar1, h1, kf, q1⟩
  refine ⟨r, rfl, ⟨_, ms_o (li_m hX hm kf)⟩, ?_⟩
  refine ze_wk (C8_begin (li_m hX hm kf) r_c r_s r_v hG) ?_
  rintro _ w2 ⟨r2, rfl, ar2, M2, q2⟩
  have er : r2 = r ∧ ar2 = ar1 := by
    rcases q1 with ⟨a1, a2, a3⟩ | ⟨a1, a2, a3⟩ <;> rcases q2 with ⟨b1, b2, b3⟩ | ⟨b1, b2, b3⟩
    · exact ⟨b2.trans a2.symm, b3.trans a3.symm⟩
    · exact absurd a1 b1
    · exact absurd b1 a1
    · exact ⟨b2.trans a2.symm, b3.trans a3.symm⟩
  obtain ⟨rfl, rfl⟩ := er
  refine ⟨rfl, li_mk hX (li_s hs kf) h1 M2 (fun _ _ => rfl) (fun _ _ => rfl) (fun _ _ => rfl) (Int.toNat_of_nonneg hb).symm hG.1 (fun i hi => ?_) (fun i hi => ?_)⟩
  · rcases q1 with ⟨a1, a2, rfl⟩ | ⟨a1, a2, rfl⟩
    · rw [va_up_ne _ _ (by decide)]; exact hG.2.2.1 i hi
    · exact hG.2.2.1 i hi
  · rcases q1 with ⟨a1, a2, rfl⟩ | ⟨a1, a2, rfl⟩
    · rw [va_up_ne _ _ (by decide)]; exact hG.2.2.2 i hi
    · exact hG.2.2.2 i hi
theorem L_go {G : ze_G} {l : Launch} {w : ze_W} {X m : Nat} {RK : Option Nat} {c s t v : Int} (hI : linv G w X m RK) (r_c : -2147483648 ≤ c ∧ c < 2147483648) (r_s : -2147483648 ≤ s ∧ s < 2147483648) (r_t : -2147483648 ≤ t ∧ t < 2147483648) (r_v : -2147483648 ≤ v ∧ v < 2147483648) : ze_C G l 2 0 0 M6_go [.ref X, ze_i c, ze_i s, ze_i t, ze_i v] w (lq G l 1 M8_go [.ref m, ze_i c, ze_i s, ze_i t, ze_i v] X m RK) := by
  obtain ⟨hX, hs, C, P, F, ar, bz, cf, pc, hm, hG, hb, hH⟩ := hI
  have hlo : X + 80 ≤ m + 22276 := by omega
  refine ze_wk (C6_go hH hG hlo r_c r_s r_t r_v) ?_
  rintro _ w1 ⟨r, rfl, ar1, h1, kf, q1⟩
  refine ⟨r, rfl, ⟨_, ms_o (li_m hX hm kf)⟩, ?_⟩
  refine ze_wk (C8_go (li_m hX hm kf) r_c r_s r_t r_v hG) ?_
  rintro _ w2 ⟨r2, rfl, ar2, M2, q2⟩
  have er : r2 = r ∧ ar2 = ar1 := by
    rcases q1 with ⟨a1, a2, a3⟩ | ⟨a1, a2, a3⟩ <;> rcases q2 with ⟨b1, b2, b3⟩ | ⟨b1, b2, b3⟩
    · exact ⟨b2.trans a2.symm, b3.trans a3.symm⟩
    · exact absurd a1 b1
    · exact absurd b1 a1
    · exact ⟨b2.trans a2.symm, b3.trans a3.symm⟩
  obtain ⟨rfl, rfl⟩ := er
  refine ⟨rfl, li_mk hX (li_s hs kf) h1 M2 (fun _ _ => rfl) (fun _ _ => rfl) (fun _ _ => rfl) (Int.toNat_of_nonneg hb).symm hG.1 (fun i hi => ?_) (fun i hi => ?_)⟩
  · rcases q1 with ⟨a1, a2, rfl⟩ | ⟨a1, a2, rfl⟩
    · rw [va_up_ne _ _ (by decide)]; exact hG.2.2.1 i hi
    · exact hG.2.2.1 i hi
  · rcases q1 with ⟨a1, a2, rfl⟩ | ⟨a1, a2, rfl⟩
    · rw [va_up_ne _ _ (by decide)]; exact hG.2.2.2 i hi
    · exact hG.2.2.2 i hi
theorem L_show {G : ze_G} {l : Launch} {w : ze_W} {X m : Nat} {RK : Option Nat} {c s x v : Int} (hI : linv G w X m RK) (r_c : -2147483648 ≤ c ∧ c < 2147483648) (r_s : -2147483648 ≤ s ∧ s < 2147483648) (r_x : -2147483648 ≤ x ∧ x < 2147483648) (r_v : -2147483648 ≤ v ∧ v < 2147483648) : ze_C G l 2 0 0 M6_show [.ref X, ze_i c, ze_i s, ze_i x, ze_i v] w (lq G l 1 M8_show [.ref m, ze_i c, ze_i s, ze_i x, ze_i v] X m RK) := by
  obtain ⟨hX, hs, C, P, F, ar, bz, cf, pc, hm, hG, hb, hH⟩ := hI
  have hlo : X + 80 ≤ m + 22276 := by omega
  refine ze_wk (C6_show hH hG hlo r_c r_s r_x r_v) ?_
  rintro _ w1 ⟨r, rfl, ar1, h1, kf, q1⟩
  refine ⟨r, rfl, ⟨_, ms_o (li_m hX hm kf)⟩, ?_⟩
  refine ze_wk (C8_show (li_m hX hm kf) r_c r_s r_x r_v hG) ?_
  rintro _ w2 ⟨r2, rfl, ar2, M2, q2⟩
  have er : r2 = r ∧ ar2 = ar1 := by
    rcases q1 with ⟨a1, a2, a3⟩ | ⟨a1, a2, a3⟩ <;> rcases q2 with ⟨b1, b2, b3⟩ | ⟨b1, b2, b3⟩
    · exact ⟨b2.trans a2.symm, b3.trans a3.symm⟩
    · exact absurd a1 b1
    · exact absurd b1 a1
    · exact ⟨b2.trans a2.symm, b3.trans a3.symm⟩
  obtain ⟨rfl, rfl⟩ := er
  refine ⟨rfl, li_mk hX (li_s hs kf) h1 M2 (fun _ _ => rfl) (fun _ _ => rfl) (fun _ _ => rfl) (Int.toNat_of_nonneg hb).symm hG.1 (fun i hi => ?_) (fun i hi => ?_)⟩
  · rcases q1 with ⟨a1, a2, rfl⟩ | ⟨a1, a2, rfl⟩
    · rw [va_up_ne _ _ (by decide)]; exact hG.2.2.1 i hi
    · exact hG.2.2.1 i hi
  · rcases q1 with ⟨a1, a2, rfl⟩ | ⟨a1, a2, rfl⟩
    · rw [va_up_ne _ _ (by decide)]; exact hG.2.2.2 i hi
    · exact hG.2.2.2 i hi
theorem L_sound {G : ze_G} {l : Launch} {w : ze_W} {X m : Nat} {RK : Option Nat} {c : Int} (hI : linv G w X m RK) (r_c : -2147483648 ≤ c ∧ c < 2147483648) : ze_C G l 2 0 0 M6_sound [.ref X, ze_i c] w (lq G l 2 M8_sound [.ref m, ze_i c] X m RK) := by
  obtain ⟨hX, hs, C, P, F, ar, bz, cf, pc, hm, hG, hb, hH⟩ := hI
  have hlo : X + 80 ≤ m + 22276 := by omega
  refine ze_wk (C6_sound hH hG hlo r_c) ?_
  rintro _ w1 ⟨r, rfl, q1, rfl⟩
  refine ⟨r, rfl, ⟨_, ms_o (ms_rf hm)⟩, ?_⟩
  refine ze_wk (C8_sound (ms_rf hm) r_c hG) ?_
  rintro _ w2 ⟨r2, rfl, q2, rfl⟩
  have er : r2 = r := by
    rcases q1 with ⟨a1, a2⟩ | ⟨a1, a2⟩ <;> rcases q2 with ⟨b1, b2⟩ | ⟨b1, b2⟩
    · rcases a2 with ⟨c1, c2⟩ | ⟨c1, c2⟩ <;> rcases b2 with ⟨d1, d2⟩ | ⟨d1, d2⟩
      · rw [c1, d1]
      · exact absurd c2 d2
      · exact absurd d2 c2
      · rw [c1, d1]
    · exact absurd a1 b1
    · exact absurd b1 a1
    · rw [a2, b2]
  obtain rfl := er
  exact ⟨rfl, hX, hs, C, P, F, ar, bz, cf, pc, hm, hG, hb, hH⟩
theorem L_told {G : ze_G} {l : Launch} {w : ze_W} {X m : Nat} {RK : Option Nat} {c x : Int} (hI : linv G w X m RK) (r_c : -2147483648 ≤ c ∧ c < 2147483648) (r_x : -2147483648 ≤ x ∧ x < 2147483648) : ze_C G l 2 0 0 M6_told [.ref X, ze_i c, ze_i x] w (lq G l 1 M8_told [.ref m, ze_i c, ze_i x] X m RK) := by
  obtain ⟨hX, hs, C, P, F, ar, bz, cf, pc, hm, hG, hb, hH⟩ := hI
  have hlo : X + 80 ≤ m + 22276 := by omega
  refine ze_wk (C6_told hH hG hlo r_c r_x) ?_
  rintro _ w1 ⟨r, rfl, rfl, q1⟩
  refine ⟨r, rfl, ⟨_, ms_o (ms_rf hm)⟩, ?_⟩
  refine ze_wk (C8_told (ms_rf hm) r_c r_x hG) ?_
  rintro _ w2 ⟨r2, rfl, rfl, q2⟩
  rw [q1, q2]
  exact ⟨rfl, hX, hs, C, P, F, ar, bz, cf, pc, hm, hG, hb, hH⟩
theorem L_at {G : ze_G} {l : Launch} {w : ze_W} {X m : Nat} {RK : Option Nat} {x : Int} (hI : linv G w X m RK) (r_x : -2147483648 ≤ x ∧ x < 2147483648) : ze_C G l 2 0 0 M6_at [.ref X, ze_i x] w (lq G l 0 M8_at [.ref m, ze_i x] X m RK) := by
  obtain ⟨hX, hs, C, P, F, ar, bz, cf, pc, hm, hG, hb, hH⟩ := hI
  have hlo : X + 80 ≤ m + 22276 := by omega
  refine ze_wk (C6_at hH hG hlo r_x) ?_
  rintro _ w1 ⟨r, rfl, rfl, q1⟩
  refine ⟨r, rfl, ⟨_, ms_o (ms_rf hm)⟩, ?_⟩
  refine ze_wk (C8_at (ms_rf hm) r_x hG) ?_
  rintro _ w2 ⟨r2, rfl, rfl, q2⟩
  rw [q1, q2]
  exact ⟨rfl, hX, hs, C, P, F, ar, bz, cf, pc, hm, hG, hb, hH⟩
theorem L_state {G : ze_G} {l : Launch} {w : ze_W} {X m : Nat} {RK : Option Nat} {x : Int} (hI : linv G w X m RK) (r_x : -2147483648 ≤ x ∧ x < 2147483648) : ze_C G l 1 0 0 M6_state [.ref X, ze_i x] w (lq G l 0 M8_state [.ref m, ze_i x] X m RK) := by
  obtain ⟨hX, hs, C, P, F, ar, bz, cf, pc, hm, hG, hb, hH⟩ := hI
  have hlo : X + 80 ≤ m + 22276 := by omega
  refine ze_wk (C6_state hH hG hlo r_x) ?_
  rintro _ w1 ⟨r, rfl, rfl, q1⟩
  refine ⟨r, rfl, ⟨_, ms_o (ms_rf hm)⟩, ?_⟩
  refine ze_wk (C8_state (ms_rf hm) r_x hG) ?_
  rintro _ w2 ⟨r2, rfl, rfl, q2⟩
  rw [q1, q2]
  exact ⟨rfl, hX, hs, C, P, F, ar, bz, cf, pc, hm, hG, hb, hH⟩
theorem L_count {G : ze_G} {l : Launch} {w : ze_W} {X m : Nat} {RK : Option Nat} {x : Int} (hI : linv G w X m RK) (r_x : -2147483648 ≤ x ∧ x < 2147483648) : ze_C G l 1 0 0 M6_count [.ref X, ze_i x] w (lq G l 0 M8_count [.ref m, ze_i x] X m RK) := by
  obtain ⟨hX, hs, C, P, F, ar, bz, cf, pc, hm, hG, hb, hH⟩ := hI
  have hlo : X + 80 ≤ m + 22276 := by omega
  refine ze_wk (C6_count hH hG hlo r_x) ?_
  rintro _ w1 ⟨r, rfl, rfl, q1⟩
  refine ⟨r, rfl, ⟨_, ms_o (ms_rf hm)⟩, ?_⟩
  refine ze_wk (C8_count (ms_rf hm) r_x ) ?_
  rintro _ w2 ⟨r2, rfl, rfl, q2⟩
  rw [q1, q2]
  exact ⟨rfl, hX, hs, C, P, F, ar, bz, cf, pc, hm, hG, hb, hH⟩
theorem L_sign {G : ze_G} {l : Launch} {w : ze_W} {X m : Nat} {RK : Option Nat} {x : Int} (hI : linv G w X m RK) (r_x : -2147483648 ≤ x ∧ x < 2147483648) : ze_C G l 2 0 0 M6_sign [.ref X, ze_i x] w (lq G l 0 M8_sign [.ref m, ze_i x] X m RK) := by
  obtain ⟨hX, hs, C, P, F, ar, bz, cf, pc, hm, hG, hb, hH⟩ := hI
  have hlo : X + 80 ≤ m + 22276 := by omega
  refine ze_wk (C6_sign hH hG hlo r_x) ?_
  rintro _ w1 ⟨r, rfl, ar1, P1, h1, kf, q1⟩
  refine ⟨r, rfl, ⟨_, ms_o (li_m hX hm kf)⟩, ?_⟩
  refine ze_wk (C8_sign (li_m hX hm kf) r_x hG) ?_
  rintro _ w2 ⟨r2, rfl, ar2, P2, M2, q2⟩
  have er : r2 = r ∧ ar2 = ar1 ∧ P2 = P1 := by
    rcases q1 with ⟨a1, a2, a3, a4⟩ | ⟨a1, a2, a3, a4, a5⟩ | ⟨a1, a2, a3, a4, a5⟩ <;> rcases q2 with ⟨b1, b2, b3, b4⟩ | ⟨b1, b2, b3, b4, b5⟩ | ⟨b1, b2, b3, b4, b5⟩
    · exact ⟨b2.trans a2.symm, b3.trans a3.symm, b4.trans a4.symm⟩
    · exact absurd b1 a1
    · exact absurd b1 a1
    · exact absurd a1 b1
    · exact ⟨b3.trans a3.symm, b4.trans a4.symm, b5.trans a5.symm⟩
    · omega
    · exact absurd a1 b1
    · omega
    · exact ⟨b3.trans a3.symm, b4.trans a4.symm, b5.trans a5.symm⟩
  obtain ⟨rfl, rfl, rfl⟩ := er
  have hP := hG.1
  refine ⟨rfl, li_mk hX (li_s hs kf) h1 M2 (fun _ _ => rfl) (fun _ _ => rfl) (fun _ _ => rfl) (Int.toNat_of_nonneg hb).symm ?_ (fun i hi => ?_) (fun i hi => ?_)⟩
  · rcases q1 with ⟨a1, a2, a3, a4⟩ | ⟨a1, a2, a3, a4, a5⟩ | ⟨a1, a2, a3, a4, a5⟩ <;> omega
  · rcases q1 with ⟨a1, a2, a3, a4⟩ | ⟨a1, a2, a3, a4, a5⟩ | ⟨a1, a2, a3, a4, a5⟩
    · rw [a3]; exact hG.2.2.1 i (by omega)
    · rw [a4]; exact hG.2.2.1 i (by omega)
    · rw [a4, va_up_self]
      by_cases e : i = P
      · rw [e, va_up_self]; exact a1
      · rw [va_up_ne _ _ e]; exact hG.2.2.1 i (by omega)
  · rcases q1 with ⟨a1, a2, a3, a4⟩ | ⟨a1, a2, a3, a4, a5⟩ | ⟨a1, a2, a3, a4, a5⟩
    · rw [a3]; exact hG.2.2.2 i hi
    · rw [a4]; exact hG.2.2.2 i hi
    · rw [a4, va_up_ne _ _ (by decide)]; exact hG.2.2.2 i hi
theorem L_cut {G : ze_G} {l : Launch} {w : ze_W} {X m : Nat} {RK : Option Nat} {x : Int} (hI : linv G w X m RK) (r_x : -2147483648 ≤ x ∧ x < 2147483648) : ze_C G l 2 0 0 M6_cut [.ref X, ze_i x] w (lq G l 0 M8_cut [.ref m, ze_i x] X m RK) := by
  obtain ⟨hX, hs, C, P, F, ar, bz, cf, pc, hm, hG, hb, hH⟩ := hI
  have hlo : X + 80 ≤ m + 22276 := by omega
  refine ze_wk (C6_cut hH hG hlo r_x) ?_
  rintro _ w1 ⟨r, rfl, P1, h1, kf, q1⟩
  refine ⟨r, rfl, ⟨_, ms_o (li_m hX hm kf)⟩, ?_⟩
  refine ze_wk (C8_cut (li_m hX hm kf) r_x hG) ?_
  rintro _ w2 ⟨r2, rfl, P2, M2, q2⟩
  have er : r2 = r ∧ P2 = P1 := by
    rcases q1 with ⟨a1, a2, a3⟩ | ⟨a1, a2, a3⟩ <;> rcases q2 with ⟨b1, b2, b3⟩ | ⟨b1, b2, b3⟩
    · exact ⟨b2.trans a2.symm, b3.trans a3.symm⟩
    · exact absurd a1 b1
    · exact absurd b1 a1
    · exact ⟨b2.trans a2.symm, b3.trans a3.symm⟩
  obtain ⟨rfl, rfl⟩ := er
  have hP := hG.1
  have hPP : P2 ≤ P := by
    rcases q1 with ⟨a1, a2, a3⟩ | ⟨a1, a2, a3⟩ <;> omega
  exact ⟨rfl, li_mk hX (li_s hs kf) h1 M2 (fun _ _ => rfl) (fun _ _ => rfl) (fun _ _ => rfl) (Int.toNat_of_nonneg hb).symm (by omega) (fun i hi => hG.2.2.1 i (by omega)) hG.2.2.2⟩
theorem L_remove {G : ze_G} {l : Launch} {w : ze_W} {X m : Nat} {RK : Option Nat} (hI : linv G w X m RK)  : ze_C G l 0 0 0 M6_remove [.ref X] w (lq G l 0 M8_remove [.ref m] X m RK) := by
  obtain ⟨hX, hs, C, P, F, ar, bz, cf, pc, hm, hG, hb, hH⟩ := hI
  have hlo : X + 80 ≤ m + 22276 := by omega
  refine ze_wk (C6_remove hH hG hlo) ?_
  rintro _ w1 ⟨r, rfl, C1, cf1, h1, kf, q1⟩
  refine ⟨r, rfl, ⟨_, ms_o (li_m hX hm kf)⟩, ?_⟩
  refine ze_wk (C8_remove (li_m hX hm kf) hG) ?_
  rintro _ w2 ⟨r2, rfl, C2, M2, q2⟩
  have er : r2 = r ∧ C2 = C1 := by
    rcases q1 with ⟨a1, a2, a3⟩ | ⟨a1, a2, a3⟩ <;> rcases q2 with ⟨b1, b2, b3⟩ | ⟨b1, b2, b3⟩
    · exact ⟨b2.trans a2.symm, b3.trans a3.symm⟩
    · omega
    · omega
    · exact ⟨b2.trans a2.symm, b3.trans a3.symm⟩
  obtain ⟨rfl, rfl⟩ := er
  have hP := hG.1
  have hCC : C2 ≤ C := by
    rcases q1 with ⟨a1, a2, a3⟩ | ⟨a1, a2, a3⟩ <;> omega
  exact ⟨rfl, li_mk hX (li_s hs kf) h1 M2 (fun _ _ => rfl) (fun _ _ => rfl) (fun _ _ => rfl) (Int.toNat_of_nonneg hb).symm (by omega) hG.2.2.1 hG.2.2.2⟩
theorem L_chain {G : ze_G} {l : Launch} {w : ze_W} {X m : Nat} {RK : Option Nat} {n k t : Int} (hI : linv G w X m RK) (r_n : -2147483648 ≤ n ∧ n < 2147483648) (r_k : -2147483648 ≤ k ∧ k < 2147483648) (r_t : -2147483648 ≤ t ∧ t < 2147483648) : ze_C G l 2 4 126 M6_chain [.ref X, ze_i n, ze_i k, ze_i t] w (lq G l 0 M8_chain [.ref m, ze_i n, ze_i k, ze_i t] X m RK) := by
  obtain ⟨hX, hs, C, P, F, ar, bz, cf, pc, hm, hG, hb, hH⟩ := hI
  have hlo : X + 80 ≤ m + 22276 := by omega
  refine ze_wk (C6_chain hH hG hlo hs r_n r_k r_t) ?_
  rintro _ w1 ⟨r, rfl, q1⟩
  have hP := hG.1
  rcases q1 with ⟨a1, a2, rfl⟩ | ⟨a1, a2, a3, rfl⟩ | ⟨a1, a2, a3, kf, cf1, pc1, a4⟩
  · refine ⟨r, rfl, ⟨_, ms_o (ms_rf hm)⟩, ?_⟩
    refine ze_wk (C8_chain (ms_rf hm) r_n r_k r_t hG.1.1) ?_
    rintro _ w2 ⟨r2, rfl, ar2, C2, M2, q2⟩
    rcases q2 with ⟨b1, b2, rfl, rfl⟩ | ⟨b1, b2, b3, rfl, rfl⟩ | ⟨b1, b2, b3, b4, b5⟩
    · rw [a2, b2]
      exact ⟨rfl, li_mk hX hs hH M2 (fun _ _ => rfl) (fun _ _ => rfl) (fun _ _ => rfl) (Int.toNat_of_nonneg hb).symm hG.1 hG.2.2.1 hG.2.2.2⟩
    · exact absurd b1 a1
    · exact absurd b1 a1
  · refine ⟨r, rfl, ⟨_, ms_o (ms_rf hm)⟩, ?_⟩
    refine ze_wk (C8_chain (ms_rf hm) r_n r_k r_t hG.1.1) ?_
    rintro _ w2 ⟨r2, rfl, ar2, C2, M2, q2⟩
    rcases q2 with ⟨b1, b2, rfl, rfl⟩ | ⟨b1, b2, b3, rfl, rfl⟩ | ⟨b1, b2, b3, b4, b5⟩
    · exact absurd a1 b1
    · rw [a3, b3]
      exact ⟨rfl, li_mk hX hs hH M2 (fun _ _ => rfl) (fun _ _ => rfl) (fun _ _ => rfl) (Int.toNat_of_nonneg hb).symm hG.1 hG.2.2.1 hG.2.2.2⟩
    · omega
  · refine ⟨r, rfl, ⟨_, ms_o (li_m hX hm kf)⟩, ?_⟩
    refine ze_wk (C8_chain (li_m hX hm kf) r_n r_k r_t hG.1.1) ?_
    rintro _ w2 ⟨r2, rfl, ar2, C2, M2, q2⟩
    rcases q2 with ⟨b1, b2, rfl, rfl⟩ | ⟨b1, b2, b3, rfl, rfl⟩ | ⟨b1, b2, b3, rfl, b5⟩
    · exact absurd a1 b1
    · omega
    · rw [a3, b3]
      have b7 := b5.2.2.2.2.2.2
      exact ⟨rfl, li_mk hX (li_s hs kf) (a4 ar2 b5) M2 (fun _ _ => rfl) (fun _ _ => rfl) (fun _ _ => rfl) (Int.toNat_of_nonneg hb).symm (by omega) (fun i hi => by rw [b7 7 (by decide)]; exact hG.2.2.1 i hi) (fun i hi => by rw [b7 17 (by decide)]; exact hG.2.2.2 i hi)⟩
theorem L_sum {G : ze_G} {l : Launch} {w : ze_W} {X m : Nat} {RK : Option Nat} {c : Int} (hI : linv G w X m RK) (r_c : -2147483648 ≤ c ∧ c < 2147483648) : ze_C G l 5 0 0 M6_sum [.ref X, ze_i c] w (lq G l 8 M8_sum [.ref m, ze_i c] X m RK) := by
  obtain ⟨hX, hs, C, P, F, ar, bz, cf, pc, hm, hG, hb, hH⟩ := hI
  have hlo : X + 80 ≤ m + 22276 := by omega
  refine ze_wk (C6_sum hH hG hlo r_c) ?_
  rintro _ w1 ⟨r, rfl, V1, h1, kf, q1⟩
  refine ⟨r, rfl, ⟨_, ms_o (li_m hX hm kf)⟩, ?_⟩
  refine ze_wk (C8_sum (li_m hX hm kf) r_c hG) ?_
  rintro _ w2 ⟨r2, rfl, bz2, M2, q2⟩
  have er : r2 = r ∧ bz2 8 = (V1 : Nat) := by
    rcases q1 with ⟨a1, a2, a3⟩ | ⟨a1, a2, a3, a4⟩ | ⟨a1, a2, a3, a4⟩ <;> rcases q2 with ⟨b1, b2, b3⟩ | ⟨b1, b2, b3, b4⟩ | ⟨b1, b2, b3, b4⟩
    · exact ⟨b2.trans a2.symm, by rw [b3, a3]; exact (Int.toNat_of_nonneg hb).symm⟩
    · exact absurd b1 a1
    · exact absurd b1 a1
    · exact absurd a1 b1
    · exact ⟨rfs_un b2 a2, by rw [b4, a4]; exact (Int.toNat_of_nonneg hb).symm⟩
    · exact absurd (rfs_un a2 b2) a3
    · exact absurd a1 b1
    · exact absurd (rfs_un b2 a2) b3
    · exact ⟨isd_un b4 a4, by rw [b3, a3]⟩
  obtain ⟨rfl, hv⟩ := er
  exact ⟨rfl, li_mk hX (li_s hs kf) h1 M2 (fun _ _ => rfl) (fun _ _ => rfl) (fun _ _ => rfl) hv hG.1 hG.2.2.1 hG.2.2.2⟩
theorem L_odds {G : ze_G} {l : Launch} {w : ze_W} {X m : Nat} {RK : Option Nat} {c i s h : Int} (hI : linv G w X m RK) (r_c : -2147483648 ≤ c ∧ c < 2147483648) (r_i : -2147483648 ≤ i ∧ i < 2147483648) (r_s : -2147483648 ≤ s ∧ s < 2147483648) (r_h : -2147483648 ≤ h ∧ h < 2147483648) : ze_C G l 5 0 0 M6_odds [.ref X, ze_i c, ze_i i, ze_i s, ze_i h] w (lq G l 8 M8_odds [.ref m, ze_i c, ze_i i, ze_i s, ze_i h] X m RK) := by
  obtain ⟨hX, hs, C, P, F, ar, bz, cf, pc, hm, hG, hb, hH⟩ := hI
  have hlo : X + 80 ≤ m + 22276 := by omega
  refine ze_wk (C6_odds hH hG hlo r_c r_i r_s r_h) ?_
  rintro _ w1 ⟨r, rfl, V1, h1, kf, q1⟩
  refine ⟨r, rfl, ⟨_, ms_o (li_m hX hm kf)⟩, ?_⟩
  refine ze_wk (C8_odds (li_m hX hm kf) r_c r_i r_s r_h hG) ?_
  rintro _ w2 ⟨r2, rfl, bz2, M2, q2⟩
  have er : r2 = r ∧ bz2 8 = (V1 : Nat) := by
    rcases q1 with ⟨a1, a2, a3⟩ | ⟨a1, a2, a3, a4⟩ | ⟨a1, a2, a3, a4⟩ <;> rcases q2 with ⟨b1, b2, b3⟩ | ⟨b1, b2, b3, b4⟩ | ⟨b1, b2, b3, b4⟩
    · exact ⟨b2.trans a2.symm, by rw [b3, a3]; exact (Int.toNat_of_nonneg hb).symm⟩
    · exact absurd b1 a1
    · exact absurd b1 a1
    · exact absurd a1 b1
    · exact ⟨rfs_un b2 a2, by rw [b4, a4]; exact (Int.toNat_of_nonneg hb).symm⟩
    · exact absurd (rfs_un a2 b2) a3
    · exact absurd a1 b1
    · exact absurd (rfs_un b2 a2) b3
    · exact ⟨isd_un b4 a4, by rw [b3, a3]⟩
  obtain ⟨rfl, hv⟩ := er
  exact ⟨rfl, li_mk hX (li_s hs kf) h1 M2 (fun _ _ => rfl) (fun _ _ => rfl) (fun _ _ => rfl) hv hG.1 hG.2.2.1 hG.2.2.2⟩
theorem L_moment {G : ze_G} {l : Launch} {w : ze_W} {X m : Nat} {RK : Option Nat} {c i : Int} (hI : linv G w X m RK) (r_c : -2147483648 ≤ c ∧ c < 2147483648) (r_i : -2147483648 ≤ i ∧ i < 2147483648) : ze_C G l 5 0 0 M6_moment [.ref X, ze_i c, ze_i i] w (lq G l 8 M8_moment [.ref m, ze_i c, ze_i i] X m RK) := by
  obtain ⟨hX, hs, C, P, F, ar, bz, cf, pc, hm, hG, hb, hH⟩ := hI
  have hlo : X + 80 ≤ m + 22276 := by omega
  refine ze_wk (C6_moment hH hG hlo r_c r_i) ?_
  rintro _ w1 ⟨r, rfl, h1, kf, q1⟩
  refine ⟨r, rfl, ⟨_, ms_o (li_m hX hm kf)⟩, ?_⟩
  refine ze_wk (C8_moment (li_m hX hm kf) r_c r_i hG) ?_
  rintro _ w2 ⟨r2, rfl, bz2, M2, hz, q2⟩
  have er : r2 = r := by
    rcases q1 with ⟨a1, a2⟩ | ⟨a1, a2, a3⟩ | ⟨a1, a2, a3⟩ <;> rcases q2 with ⟨b1, b2⟩ | ⟨b1, b2, b3⟩ | ⟨b1, b2, b3⟩
    · exact b2.trans a2.symm
    · exact absurd b1 a1
    · exact absurd b1 a1
    · exact absurd a1 b1
    · exact rfs_un b2 a2
    · exact absurd (rfs_un a2 b2) a3
    · exact absurd a1 b1
    · exact absurd (rfs_un b2 a2) b3
    · exact b3.trans a3.symm
  obtain rfl := er
  exact ⟨rfl, li_mk hX (li_s hs kf) h1 M2 (fun _ _ => rfl) (fun _ _ => rfl) (fun _ _ => rfl) (by rw [hz]; exact (Int.toNat_of_nonneg hb).symm) hG.1 hG.2.2.1 hG.2.2.2⟩
theorem L_compare {G : ze_G} {l : Launch} {w : ze_W} {X m : Nat} {RK : Option Nat} {a b : Int} (hI : linv G w X m RK) (r_a : -2147483648 ≤ a ∧ a < 2147483648) (r_b : -2147483648 ≤ b ∧ b < 2147483648) : ze_C G l 6 0 0 M6_compare [.ref X, ze_i a, ze_i b] w (lq G l 8 M8_compare [.ref m, ze_i a, ze_i b] X m RK) := by
  obtain ⟨hX, hs, C, P, F, ar, bz, cf, pc, hm, hG, hb, hH⟩ := hI
  have hlo : X + 80 ≤ m + 22276 := by omega
  refine ze_wk (C6_compare hH hG hlo r_a r_b) ?_
  rintro _ w1 ⟨r, rfl, h1, kf, q1⟩
  refine ⟨r, rfl, ⟨_, ms_o (li_m hX hm kf)⟩, ?_⟩
  refine ze_wk (C8_compare (li_m hX hm kf) r_a r_b hG) ?_
  rintro _ w2 ⟨r2, rfl, bz2, M2, hz, q2⟩
  have er : r2 = r := by
    rcases q1 with ⟨a1, a2⟩ | ⟨a1, a2⟩ <;> rcases q2 with ⟨b1, b2⟩ | ⟨b1, b2⟩
    · exact b2.trans a2.symm
    · exact absurd b1 a1
    · exact absurd a1 b1
    · exact b2.trans a2.symm
  obtain rfl := er
  exact ⟨rfl, li_mk hX (li_s hs kf) h1 M2 (fun _ _ => rfl) (fun _ _ => rfl) (fun _ _ => rfl) (by rw [hz]; exact (Int.toNat_of_nonneg hb).symm) hG.1 hG.2.2.1 hG.2.2.2⟩
theorem L_part {G : ze_G} {l : Launch} {w : ze_W} {X m : Nat} {RK : Option Nat} {k : Int} (hI : linv G w X m RK) (r_k : -2147483648 ≤ k ∧ k < 2147483648) : ze_C G l 2 0 0 M6_part [.ref X, ze_i k] w (lql G l 2 M8_part [.ref m, ze_i k] X m RK) := by
  obtain ⟨hX, hs, C, P, F, ar, bz, cf, pc, hm, hG, hb, hH⟩ := hI
  have hlo : X + 80 ≤ m + 22276 := by omega
  refine ze_wk (C6_part hH hG hlo r_k) ?_
  rintro _ w1 ⟨r, rfl, rfl, q1⟩
  have hrg : -9223372036854775808 ≤ r ∧ r < 9223372036854775808 := by
    rcases q1 with ⟨a1, a2⟩ | ⟨a1, a2⟩
    · omega
    · have := Nat.mod_lt ((bz 8).toNat / 10 ^ (18 * k.toNat)) (show 0 < 10 ^ 18 by decide)
      omega
  refine ⟨r, rfl, hrg, ⟨_, ms_o (ms_rf hm)⟩, ?_⟩
  refine ze_wk (C8_part (ms_rf hm) r_k hb) ?_
  rintro _ w2 ⟨r2, rfl, bz2, M2, hz, q2⟩
  have er : r2 = r := by
    rcases q1 with ⟨a1, a2⟩ | ⟨a1, a2⟩ <;> rcases q2 with ⟨b1, b2⟩ | ⟨b1, b2⟩
    · exact b2.trans a2.symm
    · exact absurd b1 a1
    · exact absurd a1 b1
    · rw [b2, a2, Int.natCast_emod, Int.natCast_ediv, Int.natCast_pow, Int.natCast_pow, Int.toNat_of_nonneg hb]
      rfl
  obtain rfl := er
  exact ⟨rfl, li_mk hX hs hH M2 (fun _ _ => rfl) (fun _ _ => rfl) (fun _ _ => rfl) (by rw [hz 8 (by decide)]; exact (Int.toNat_of_nonneg hb).symm) hG.1 hG.2.2.1 hG.2.2.2⟩
theorem L_same {G : ze_G} {l : Launch} {w : ze_W} {X m : Nat} {RK : Option Nat} {a b : Int} (hI : linv G w X m RK) (r_a : -2147483648 ≤ a ∧ a < 2147483648) (r_b : -2147483648 ≤ b ∧ b < 2147483648) : ze_C G l 6 0 0 M6_same [.ref X, ze_i a, ze_i b] w (lq G l 9 M8_same [.ref m, ze_i a, ze_i b] X m RK) := by
  obtain ⟨hX, hs, C, P, F, ar, bz, cf, pc, hm, hG, hb, hH⟩ := hI
  have hlo : X + 80 ≤ m + 22276 := by omega
  refine ze_wk (C6_same hH hG hlo r_a r_b) ?_
  rintro _ w1 ⟨r, rfl, h1, kf, q1⟩
  refine ⟨r, rfl, ⟨_, ms_o (li_m hX hm kf)⟩, ?_⟩
  refine ze_wk (C8_same (li_m hX hm kf) r_a r_b hG) ?_
  rintro _ w2 ⟨r2, rfl, ar2, bz2, M2, hz, e2, q2⟩
  have er : r2 = r := by
    rcases q1 with ⟨a1, a2⟩ | ⟨a1, a2⟩ <;> rcases q2 with ⟨b1, b2⟩ | ⟨b1, b2⟩
    · exact rf2_un b1 a1
    · exact absurd (rf2_un a1 b1) a2
    · exact absurd (rf2_un b1 a1) b2
    · rcases a2 with ⟨c1, c2⟩ | ⟨c1, z, c2, c3⟩ <;> rcases b2 with ⟨d1, d2⟩ | ⟨d1, y, d2, d3⟩
      · rw [c1, d1]
      · exact absurd d3 (c2 y d2)
      · exact absurd c3 (d2 z c2)
      · rw [c1, d1]
  obtain rfl := er
  exact ⟨rfl, li_mk hX (li_s hs kf) h1 M2 (fun k hk => e2 k (by omega) (by omega) (by omega)) (fun i _ => by rw [e2 7 (by decide) (by decide) (by decide)]) (fun i _ => by rw [e2 17 (by decide) (by decide) (by decide)]) (by rw [hz]; exact (Int.toNat_of_nonneg hb).symm) hG.1 hG.2.2.1 hG.2.2.2⟩
theorem L_twins {G : ze_G} {l : Launch} {w : ze_W} {X m : Nat} {RK : Option Nat} {c s t : Int} (hI : linv G w X m RK) (r_c : -2147483648 ≤ c ∧ c < 2147483648) (r_s : -2147483648 ≤ s ∧ s < 2147483648) (r_t : -2147483648 ≤ t ∧ t < 2147483648) : ze_C G l 5 0 0 M6_twins [.ref X, ze_i c, ze_i s, ze_i t] w (lq G l 8 M8_twins [.ref m, ze_i c, ze_i s, ze_i t] X m RK) := by
  obtain ⟨hX, hs, C, P, F, ar, bz, cf, pc, hm, hG, hb, hH⟩ := hI
  have hlo : X + 80 ≤ m + 22276 := by omega
  refine ze_wk (C6_twins hH hG hlo r_c r_s r_t) ?_
  rintro _ w1 ⟨r, rfl, h1, kf, q1⟩
  refine ⟨r, rfl, ⟨_, ms_o (li_m hX hm kf)⟩, ?_⟩
  refine ze_wk (C8_twins (li_m hX hm kf) r_c r_s r_t hG) ?_
  rintro _ w2 ⟨r2, rfl, ar2, bz2, M2, hz, e2, q2⟩
  have er : r2 = r := by
    rcases q1 with ⟨a1, a2⟩ | ⟨a1, a2, a3⟩ | ⟨a1, a2, a3⟩ <;> rcases q2 with ⟨b1, b2⟩ | ⟨b1, b2, b3⟩ | ⟨b1, b2, b3⟩
    · exact b2.trans a2.symm
    · exact absurd b1 a1
    · exact absurd b1 a1
    · exact absurd a1 b1
    · exact b3.trans a3.symm
    · exact absurd b2 a2
    · exact absurd a1 b1
    · exact absurd a2 b2
    · rcases a3 with ⟨c1, c2⟩ | ⟨c1, z, c2, c3⟩ <;> rcases b3 with ⟨d1, d2⟩ | ⟨d1, y, d2, d3⟩
      · rw [c1, d1]
      · exact absurd d3 (c2 y d2)
      · exact absurd c3 (d2 z c2)
      · rw [c1, d1]
  obtain rfl := er
  exact ⟨rfl, li_mk hX (li_s hs kf) h1 M2 (fun k hk => e2 k (by omega) (by omega) (by omega)) (fun i _ => by rw [e2 7 (by decide) (by decide) (by decide)]) (fun i _ => by rw [e2 17 (by decide) (by decide) (by decide)]) (by rw [hz]; exact (Int.toNat_of_nonneg hb).symm) hG.1 hG.2.2.1 hG.2.2.2⟩
theorem L_apart {G : ze_G} {l : Launch} {w : ze_W} {X m : Nat} {RK : Option Nat} {a b : Int} (hI : linv G w X m RK) (r_a : -2147483648 ≤ a ∧ a < 2147483648) (r_b : -2147483648 ≤ b ∧ b < 2147483648) : ze_C G l 6 0 0 M6_apart [.ref X, ze_i a, ze_i b] w (lq G l 9 M8_apart [.ref m, ze_i a, ze_i b] X m RK) := by
  obtain ⟨hX, hs, C, P, F, ar, bz, cf, pc, hm, hG, hb, hH⟩ := hI
  have hlo : X + 80 ≤ m + 22276 := by omega
  refine ze_wk (C6_apart hH hG hlo r_a r_b) ?_
  rintro _ w1 ⟨r, rfl, ar1, P1, h1, kf, e1, q1⟩
  refine ⟨r, rfl, ⟨_, ms_o (li_m hX hm kf)⟩, ?_⟩
  refine ze_wk (C8_apart (li_m hX hm kf) r_a r_b hG) ?_
  rintro _ w2 ⟨r2, rfl, ar2, bz2, P2, M2, hz, e2, q2⟩
  have hP := hG.1
  have er : r2 = r ∧ P2 = P1 ∧ P1 ≤ 60 ∧ (∀ i, i < P1 → ar2 7 i = ar1 7 i) ∧ ∀ i, i < P1 → -1 ≤ ar1 7 i ∧ ar1 7 i < 6 := by
    rcases q1 with ⟨a1, a2, a3, a4⟩ | ⟨a1, a2, a3, a4⟩ | ⟨a1, z, ⟨a2, a3, a4⟩, a5, a6, a7⟩ <;> rcases q2 with ⟨b1, b2, b3, b4⟩ | ⟨b1, b2, b3, b4⟩ | ⟨b1, y, ⟨b2, b3, b4, b8⟩, b5, b6, b7⟩
    · exact ⟨rf2_un b1 a1, b3.trans a3.symm, by omega, fun i _ => by rw [b4, a4], fun i hi => by rw [a4]; exact hG.2.2.1 i (by omega)⟩
    · exact absurd (rf2_un a1 b1) a2
    · exact absurd (rf2_un a1 b1) a2
    · exact absurd (rf2_un b1 a1) b2
    · exact ⟨b3.trans a3.symm, b4.trans a4.symm, by omega, fun i hi => by omega, fun i hi => by omega⟩
    · exact absurd b3 (a2 y b2)
    · exact absurd (rf2_un b1 a1) b2
    · exact absurd a3 (b2 z a2)
    · obtain ⟨va, vb⟩ := rf2_v a1
      obtain ⟨-, k1, k6⟩ := mch_k (hp_ch hH (show a.toNat < C by omega)).1
      obtain ⟨-, -, na⟩ := mch_n (hp_ch hH (show a.toNat < C by omega)).1
      obtain ⟨-, -, nb⟩ := mch_n (hp_ch hH (show b.toNat < C by omega)).1
      have ew : wcd z = wcd y := by
        refine Classical.byContradiction (fun hne => ?_)
        by_cases hlt : wcd z < wcd y
        · exact b4 z a2 hlt a3
        · exact a4 y b2 (by omega) b3
      have ez : z = y := wcd_inj k6 z y a2 b2 ew
      subst ez
      refine ⟨b5.trans a5.symm, b6.trans a6.symm, by omega, fun i hi => ?_, fun i hi => ?_⟩
      · rw [a7 i (by omega)]
        have h3 := b7 (z.length - 1 - i) (by omega)
        have h4 := tm_rd_get z (z.length - 1 - i) (by omega)
        rw [show z.length - 1 - (z.length - 1 - i) = i by omega] at h3 h4
        rw [h3, h4]
      · rw [a7 i (by omega)]
        have := tm_rd_lt (by omega) z a2 i
        omega
  obtain ⟨rfl, rfl, hP60, e7, r7⟩ := er
  exact ⟨rfl, li_mk hX (li_s hs kf) h1 M2 (fun k hk => (e2 k (by omega) (by omega) (by omega) (by omega)).trans (e1 k (by omega)).symm) e7 (fun i _ => by rw [e2 17 (by decide) (by decide) (by decide) (by decide), e1 17 (by decide)]) (by rw [hz]; exact (Int.toNat_of_nonneg hb).symm) (by omega) r7 (fun i hi => by rw [e1 17 (by decide)]; exact hG.2.2.2 i hi)⟩
def lqe (G : ze_G) (l : Launch) (k : Nat) (M : ze_M) (as : List Value) (X m : Nat) : Option Value → ze_W → Prop := fun v w1 => ∃ r : Int, v = some (ze_i r) ∧ (∃ fs, w1.2 m = some (ze_ob 8 fs)) ∧ ze_C G l k 0 0 M as w1 (fun v2 w2 => v2 = some (ze_i r) ∧ ∃ R, linv G w2 X m (some R))
theorem L_best {G : ze_G} {l : Launch} {w : ze_W} {X m : Nat} {RK : Option Nat} {c k : Int} (hI : linv G w X m RK) (r_c : -2147483648 ≤ c ∧ c < 2147483648) (r_k : -2147483648 ≤ k ∧ k < 2147483648) : ze_C G l 6 0 0 M6_best [.ref X, ze_i c, ze_i k] w (lq G l 8 M8_best [.ref m, ze_i c, ze_i k] X m RK) ∨ (RK = none ∧ ze_C G l 6 665 24400 M6_best [.ref X, ze_i c, ze_i k] w (lqe G l 8 M8_best [.ref m, ze_i c, ze_i k] X m)) ∨ ((∃ R, RK = some R) ∧ ze_C G l 6 0 0 M6_best [.ref X, ze_i c, ze_i k] w (lqe G l 8 M8_best [.ref m, ze_i c, ze_i k] X m)) := by
  obtain ⟨hX, hs, C, P, F, ar, bz, cf, pc, hm, hG, hb, hH⟩ := hI
  have hlo : X + 80 ≤ m + 22276 := by omega
  have hP := hG.1
  by_cases hv : ((0 ≤ c ∧ c < (C : Int)) ∧ (0 ≤ k ∧ k < 20)) ∧ rfs ar P c.toNat 0
  · have tail : ∀ (w1 : ze_W) (r : Int), (∃ V' F' ar' R', hpc G w1 X (m + 22276) C P F' ar' V' cf pc (some R') ∧ kfr w w1 X (m + 22276) ∧ (∀ q, q ≠ 17 → ar' q = ar q) ∧ (((∃ q, q ≤ k.toNat ∧ (bpk ar c.toNat P q).2 = 0) ∧ r = 0 ∧ V' = (bz 8).toNat ∧ F' = F ∧ ar' = ar) ∨ ((∀ q, q ≤ k.toNat → (bpk ar c.toNat P q).2 ≠ 0) ∧ V' = (bpk ar c.toNat P k.toNat).2 ∧ isd (bpk ar c.toNat P k.toNat).2 r ∧ F' = P ∧ ∀ i, i < P → ar' 17 i = ((btr ar c.toNat P k.toNat i).1 : Nat)))) → lqe G l 8 M8_best [.ref m, ze_i c, ze_i k] X m (some (ze_i r)) w1 := by
      rintro w1 r ⟨V1, F1, ar1, R1, h1, kf, e1, q1⟩
      refine ⟨r, rfl, ⟨_, ms_o (li_m hX hm kf)⟩, ?_⟩
      refine ze_wk (C8_best (li_m hX hm kf) r_c r_k hG) ?_
      rintro _ w2 ⟨r2, rfl, ar2, bz2, F2, M2, e2, q2⟩
      have hcn := (mch_n (hp_ch hH (show c.toNat < C by omega)).1).2.2
      have er : r2 = r ∧ F2 = F1 ∧ bz2 8 = (V1 : Nat) ∧ F1 ≤ 60 ∧ (∀ i, i < F1 → ar2 17 i = ar1 17 i) ∧ ∀ i, i < F1 → 0 ≤ ar1 17 i ∧ ar1 17 i < 8 := by
        rcases q2 with ⟨b0, b1, b2, b3⟩ | ⟨⟨b1, b2, b3⟩, b4, b5, b6, b7⟩
        · rcases b0 with ⟨c1, c2⟩ | ⟨c1, c2, c3⟩ | ⟨c1, c2, ⟨q, c3, c4⟩, c5⟩
          · exact absurd hv.1 c1
          · exact absurd (rfs_un c2 hv.2) c3
          · rcases q1 with ⟨a1, a2, a3, a4, a5⟩ | ⟨a1, a2, a3, a4, a5⟩
            · rw [a5, a4, a3]
              exact ⟨c5.trans a2.symm, b3, by rw [b1]; exact (Int.toNat_of_nonneg hb).symm, by omega, fun i _ => by rw [b2], hG.2.2.2⟩
            · exact absurd c4 (a1 q c3)
        · rcases q1 with ⟨⟨q, a0, a1⟩, a2, a3, a4, a5⟩ | ⟨a1, a2, a3, a4, a5⟩
          · exact absurd a1 (b3 q a0)
          · refine ⟨isd_un b5 a3, b6.trans a4.symm, by rw [b4, a2], by omega, fun i hi => by rw [b7 i (by omega), a5 i (by omega)], fun i hi => ?_⟩
            rw [a5 i (by omega)]
            have := (btr_ok (ar := ar) (c := c.toNat) (P := P) (k := k.toNat) (by omega) (a1 k.toNat (Nat.le_refl _)) i (by omega)).1
            omega
      obtain ⟨rfl, rfl, hvz, hF, e17, r17⟩ := er
      exact ⟨rfl, R1, li_mk hX (li_s hs kf) h1 M2 (fun k hk => (e2 k (by omega)).trans (e1 k (by omega)).symm) (fun i _ => by rw [e2 7 (by decide), e1 7 (by decide)]) e17 hvz (by omega) (fun i hi => by rw [e1 7 (by decide)]; exact hG.2.2.1 i hi) r17⟩
    right
    cases RK with
    | none =>
      left
      refine ⟨rfl, ze_wk (C6_best0 hH hG hlo r_c r_k hv.1 hv.2 hs) ?_⟩
      rintro _ w1 ⟨r, rfl, q⟩
      exact tail w1 r q
    | some R =>
      right
      refine ⟨⟨R, rfl⟩, ze_wk (C6_best1 hH hG hlo r_c r_k hv.1 hv.2) ?_⟩
      rintro _ w1 ⟨r, rfl, q⟩
      exact tail w1 r q
  · left
    refine ze_wk (C6_bestN hH hG hlo r_c r_k hv) ?_
    rintro _ w1 ⟨r, rfl, rfl, q1⟩
    refine ⟨r, rfl, ⟨_, ms_o (ms_rf hm)⟩, ?_⟩
    refine ze_wk (C8_best (ms_rf hm) r_c r_k hG) ?_
    rintro _ w2 ⟨r2, rfl, ar2, bz2, F2, M2, e2, q2⟩
    have er : r2 = r ∧ bz2 8 = bz 8 ∧ ar2 17 = ar 17 ∧ F2 = F := by
      rcases q2 with ⟨b0, b1, b2, b3⟩ | ⟨⟨b1, b2, b3⟩, b4⟩
      · refine ⟨?_, b1, b2, b3⟩
        rcases q1 with ⟨a1, a2⟩ | ⟨a1, a2, a3⟩ <;> rcases b0 with ⟨c1, c2⟩ | ⟨c1, c2, c3⟩ | ⟨c1, c2, c3⟩
        · exact c2.trans a2.symm
        · exact absurd c1 a1
        · exact absurd c1 a1
        · exact absurd a1 c1
        · exact rfs_un c2 a2
        · exact absurd ⟨c1, c2⟩ hv
      · exact absurd ⟨b1, b2⟩ hv
    obtain ⟨rfl, hz, e17, rfl⟩ := er
    exact ⟨rfl, li_mk hX hs hH M2 (fun k hk => e2 k (by omega)) (fun i _ => by rw [e2 7 (by decide)]) (fun i _ => by rw [e17]) (by rw [hz]; exact (Int.toNat_of_nonneg hb).symm) hG.1 hG.2.2.1 hG.2.2.2⟩
