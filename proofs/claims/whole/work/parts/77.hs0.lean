/-! switches; HiddenSteps: its picture -/
section ZS
variable {G : ze_G} {l : Launch} {R : Room} {M : ze_M} {Z : List Frame → Array Value → State → State → Prop} {pc : Nat} {lv : List (Nat × Value)} {st : List Value} {w : ze_W} {cu su : Nat}
theorem ze_tabIn {a dflt lo hi off : Int} {offs : Array Int} {len : Nat} (tgt : Nat) (hd : decode M.2.1 pc = .ok (.tableswitch dflt lo hi offs, len)) (hr : -2147483648 ≤ a ∧ a < 2147483648) (ha : lo ≤ a ∧ a ≤ hi) (ho : offs[(a - lo).toNat]? = some off) (ht : (pc : Int) + off = (tgt : Int)) (k : ze_V G l R M Z tgt lv st w cu su) : ze_V G l R M Z pc lv (ze_i a :: st) w cu su := by
  intro p e s m args below meth c H locs ls X hH hS hl
  have h32 := ze_t32 hr
  exact lv_tableIn X.1 X.2.1 hd (by rw [h32]; omega) (by rw [h32]; omega) (by rw [h32]; exact ho) ht (k p e s m args below meth c H locs ls X hH hS hl)
theorem ze_tabOut {a dflt lo hi : Int} {offs : Array Int} {len : Nat} (tgt : Nat) (hd : decode M.2.1 pc = .ok (.tableswitch dflt lo hi offs, len)) (hr : -2147483648 ≤ a ∧ a < 2147483648) (ha : a < lo ∨ hi < a) (ht : (pc : Int) + dflt = (tgt : Int)) (k : ze_V G l R M Z tgt lv st w cu su) : ze_V G l R M Z pc lv (ze_i a :: st) w cu su := by
  intro p e s m args below meth c H locs ls X hH hS hl
  have h32 := ze_t32 hr
  exact lv_tableOut X.1 X.2.1 hd (by rw [h32]; exact ha) ht (k p e s m args below meth c H locs ls X hH hS hl)
theorem ze_look {a dflt off : Int} {ps : Array (Int × Int)} {len : Nat} (tgt : Nat) (hd : decode M.2.1 pc = .ok (.lookupswitch dflt ps, len)) (hp : (ps.toList.zip (ps.toList.drop 1)).all (fun (a, next) => a.1 < next.1) = true) (hr : -2147483648 ≤ a ∧ a < 2147483648) (ho : Op.lookupswitch.offset ps.toList dflt a = off) (ht : (pc : Int) + off = (tgt : Int)) (k : ze_V G l R M Z tgt lv st w cu su) : ze_V G l R M Z pc lv (ze_i a :: st) w cu su := by
  intro p e s m args below meth c H locs ls X hH hS hl
  have h32 := ze_t32 hr
  exact lv_lookup X.1 X.2.1 hd hp (by rw [h32]; exact ho) ht (k p e s m args below meth c H locs ls X hH hS hl)
end ZS
section SM
variable {G : ze_G} {w w' : ze_W}
theorem swp_sm {S : Nat} (h : swp G w S) (fr : ∀ u, S ≤ u → u < S + 57 → w'.2 u = w.2 u) : swp G w' S := by
  obtain ⟨x, y, z, g, v, -, h3, h4, h5, h6, h7⟩ := h
  refine ⟨x, y, z, g, v, ⟨rfl, fun _ _ => rfl⟩, h3, (fr S (by omega) (by omega)).trans h4, fun k hk => (fr _ (by omega) (by omega)).trans (h5 k hk), (fr _ (by omega) (by omega)).trans h6, fun k i hk => ?_⟩
  have hk2 := hk
  unfold sok at hk2
  exact whz_sm (h7 k i hk) (fr _ (by omega) (by omega)) (fr _ (by omega) (by omega))
theorem swp_o {S : Nat} (h : swp G w S) : ∃ fs, w.2 S = some (ze_ob 3 fs) := by
  obtain ⟨x, y, z, g, v, h⟩ := h
  exact ⟨_, ss_o h⟩
theorem tlp_sm {E : Nat} (h : tlp G w E) (fr : ∀ u, E ≤ u → u < E + 12 → w'.2 u = w.2 u) : tlp G w' E := by
  obtain ⟨N, K, q, F, ia, la, -, h3, h4, h5⟩ := h
  refine ⟨N, K, q, F, ia, la, ⟨rfl, fun _ _ => rfl⟩, (fr E (by omega) (by omega)).trans h3, fun k hk => ?_, fun k hk => ?_⟩
  · have := til_ne hk
    exact (fr _ (by omega) (by omega)).trans (h4 k hk)
  · have := tll_ne hk
    exact (fr _ (by omega) (by omega)).trans (h5 k hk)
theorem tlp_o {E : Nat} (h : tlp G w E) : ∃ fs, w.2 E = some (ze_ob 4 fs) := by
  obtain ⟨N, K, q, F, ia, la, h⟩ := h
  exact ⟨_, tt_o h⟩
theorem rkp_sm {R : Nat} (h : rkp G w R) (fr : ∀ u, R ≤ u → u < R + 665 → w'.2 u = w.2 u) : rkp G w' R := by
  obtain ⟨a, b, cv, hr, wt, lk, v, -, h3, h4, h5, h6, h7, h8, h9, h10, h11⟩ := h
  refine ⟨a, b, cv, hr, wt, lk, v, ⟨rfl, fun _ _ => rfl⟩, h3, (fr R (by omega) (by omega)).trans h4, fun k hk => (fr _ (by omega) (by omega)).trans (h5 k hk), (fr _ (by omega) (by omega)).trans h6, fun k hk => (fr _ (by omega) (by omega)).trans (h7 k hk), (fr _ (by omega) (by omega)).trans h8, (fr _ (by omega) (by omega)).trans h9, (fr _ (by omega) (by omega)).trans h10, fun k i hk => ?_⟩
  have hk2 := hk
  unfold rwk at hk2
  exact whz_sm (h11 k i hk) (fr _ (by omega) (by omega)) (fr _ (by omega) (by omega))
end SM
def hfs (X C F : Nat) (RK : Option Nat) : List Value := [.ref (X + 1), ze_i (C : Nat), .ref (X + 2), .ref (X + 4), .ref (X + 6), .ref (X + 63), .ref (X + 65), .ref (X + 67), va_rf RK, .ref (X + 79), ze_i (F : Nat)]
/-- the class's object lies at X, 80 cells; its chains and its ranking from lo on -/
def hpc (G : ze_G) (w : ze_W) (X lo C P F : Nat) (ar : Nat → Nat → Int) (V : Nat) (cf : Nat → Option Nat) (pc : Nat → Nat) (RK : Option Nat) : Prop := w.2 X = some (ze_ob 6 (hfs X C F RK)) ∧ w.2 (X + 1) = some (ze_ra G 3 6 cf) ∧ srw G w ar P (X + 2) ∧ whz G w (X + 4) 42 V ∧ swp G w (X + 6) ∧ ((∃ v, whz G w (X + 63) 84 v) ∧ ∃ v, whz G w (X + 65) 84 v) ∧ tlp G w (X + 67) ∧ (∃ ff, w.2 (X + 79) = some (ze_ia G 60 ff) ∧ ∀ i, i < F → ff i = ar 17 i) ∧ (∀ c, c < C → cf c = some (pc c) ∧ chr G w ar c (pc c) ∧ lo ≤ pc c ∧ pc c + 4 ≤ w.1) ∧ (∀ c d, c < d → d < C → pc c + 4 ≤ pc d) ∧ ∀ R, RK = some R → rkp G w R ∧ lo ≤ R ∧ R + 665 ≤ w.1 ∧ ∀ c, c < C → pc c + 4 ≤ R ∨ R + 665 ≤ pc c
/-- what the class leaves alone -/
def kfr (w w' : ze_W) (X lo : Nat) : Prop := w.1 ≤ w'.1 ∧ ∀ u, u < X ∨ (X + 80 ≤ u ∧ u < lo) → w'.2 u = w.2 u
theorem kf_r {w : ze_W} {X lo : Nat} : kfr w w X lo := ⟨Nat.le_refl _, fun _ _ => rfl⟩
section HP
variable {G : ze_G} {w : ze_W} {X lo C P F V : Nat} {ar : Nat → Nat → Int} {cf : Nat → Option Nat} {pc : Nat → Nat} {RK : Option Nat} {w' : ze_W}
theorem hp_o (hH : hpc G w X lo C P F ar V cf pc RK) : w.2 X = some (ze_ob 6 (hfs X C F RK)) := hH.1
theorem hp_r (hH : hpc G w X lo C P F ar V cf pc RK) : w.2 (X + 1) = some (ze_ra G 3 6 cf) := hH.2.1
theorem hp_row (hH : hpc G w X lo C P F ar V cf pc RK) : srw G w ar P (X + 2) := hH.2.2.1
theorem hp_wh (hH : hpc G w X lo C P F ar V cf pc RK) : whz G w (X + 4) 42 V := hH.2.2.2.1
theorem hp_sw (hH : hpc G w X lo C P F ar V cf pc RK) : swp G w (X + 6) := hH.2.2.2.2.1
theorem hp_lf (hH : hpc G w X lo C P F ar V cf pc RK) : ∃ v, whz G w (X + 63) 84 v := hH.2.2.2.2.2.1.1
theorem hp_rt (hH : hpc G w X lo C P F ar V cf pc RK) : ∃ v, whz G w (X + 65) 84 v := hH.2.2.2.2.2.1.2
theorem hp_tl (hH : hpc G w X lo C P F ar V cf pc RK) : tlp G w (X + 67) := hH.2.2.2.2.2.2.1
theorem hp_fd (hH : hpc G w X lo C P F ar V cf pc RK) : ∃ ff, w.2 (X + 79) = some (ze_ia G 60 ff) ∧ ∀ i, i < F → ff i = ar 17 i := hH.2.2.2.2.2.2.2.1
theorem hp_cs (hH : hpc G w X lo C P F ar V cf pc RK) {c : Nat} (hc : c < C) : cf c = some (pc c) ∧ chr G w ar c (pc c) ∧ lo ≤ pc c ∧ pc c + 4 ≤ w.1 := hH.2.2.2.2.2.2.2.2.1 c hc
theorem hp_ch (hH : hpc G w X lo C P F ar V cf pc RK) {c : Nat} (hc : c < C) : chr G w ar c (pc c) := (hp_cs hH hc).2.1
theorem hp_or (hH : hpc G w X lo C P F ar V cf pc RK) {c d : Nat} (hcd : c < d) (hd : d < C) : pc c + 4 ≤ pc d := hH.2.2.2.2.2.2.2.2.2.1 c d hcd hd
theorem hp_rk (hH : hpc G w X lo C P F ar V cf pc RK) {R : Nat} (hR : RK = some R) : rkp G w R ∧ lo ≤ R ∧ R + 665 ≤ w.1 ∧ ∀ c, c < C → pc c + 4 ≤ R ∨ R + 665 ≤ pc c := hH.2.2.2.2.2.2.2.2.2.2 R hR
theorem hp_out (hH : hpc G w X lo C P F ar V cf pc RK) (fr : ∀ u, (X ≤ u ∧ u < X + 80) ∨ lo ≤ u → w'.2 u = w.2 u) (hsz : w.1 ≤ w'.1) : hpc G w' X lo C P F ar V cf pc RK := by
  obtain ⟨hX, h1, hrow, hwh, hsw, ⟨hlf, hrt⟩, htl, hfd, hcs, hor, hrk⟩ := id hH
  exact ⟨(fr X (by omega)).trans hX, (fr (X + 1) (by omega)).trans h1, srw_sm hrow (fun u a1 a2 => fr u (by omega)), whz_sm hwh (fr _ (by omega)) (fr _ (by omega)), swp_sm hsw (fun u a1 a2 => fr u (by omega)), ⟨hlf.elim (fun v q => ⟨v, whz_sm q (fr _ (by omega)) (fr _ (by omega))⟩), hrt.elim (fun v q => ⟨v, whz_sm q (fr _ (by omega)) (fr _ (by omega))⟩)⟩, tlp_sm htl (fun u a1 a2 => fr u (by omega)), hfd.elim (fun ff q => ⟨ff, (fr _ (by omega)).trans q.1, q.2⟩), fun c hc => ⟨(hcs c hc).1, chr_sm (hcs c hc).2.1 (fun u a1 a2 => fr u (by have := (hcs c hc).2.2; omega)), (hcs c hc).2.2.1, Nat.le_trans (hcs c hc).2.2.2 hsz⟩, hor, fun R hR => ⟨rkp_sm (hrk R hR).1 (fun u a1 a2 => fr u (by have := (hrk R hR).2.1; omega)), (hrk R hR).2.1, Nat.le_trans (hrk R hR).2.2.1 hsz, (hrk R hR).2.2.2⟩⟩
theorem hp_sw4 (hH : hpc G w X lo C P F ar V cf pc RK) (hlo : X + 80 ≤ lo) {V' : Nat} (hs : swp G w' (X + 6)) (f : sfr w w' (X + 6) (X + 4)) (hv : whz G w' (X + 4) 42 V') : hpc G w' X lo C P F ar V' cf pc RK ∧ kfr w w' X lo := by
  obtain ⟨hX, h1, hrow, hwh, hsw, ⟨hlf, hrt⟩, htl, hfd, hcs, hor, hrk⟩ := id hH
  have fr : ∀ u, u < X + 4 ∨ u = X + 5 + 58 ∨ X + 63 ≤ u → w'.2 u = w.2 u := fun u hu => f.2 u (by omega) (by omega) (by omega)
  have hsz : w.1 ≤ w'.1 := Nat.le_of_eq f.1.symm
  exact ⟨⟨(fr X (by omega)).trans hX, (fr (X + 1) (by omega)).trans h1, srw_sm hrow (fun u a1 a2 => fr u (by omega)), hv, hs, ⟨hlf.elim (fun v q => ⟨v, whz_sm q (fr _ (by omega)) (fr _ (by omega))⟩), hrt.elim (fun v q => ⟨v, whz_sm q (fr _ (by omega)) (fr _ (by omega))⟩)⟩, tlp_sm htl (fun u a1 a2 => fr u (by omega)), hfd.elim (fun ff q => ⟨ff, (fr _ (by omega)).trans q.1, q.2⟩), fun c hc => ⟨(hcs c hc).1, chr_sm (hcs c hc).2.1 (fun u a1 a2 => fr u (by have := (hcs c hc).2.2; omega)), (hcs c hc).2.2.1, Nat.le_trans (hcs c hc).2.2.2 hsz⟩, hor, fun R hR => ⟨rkp_sm (hrk R hR).1 (fun u a1 a2 => fr u (by have := (hrk R hR).2.1; omega)), (hrk R hR).2.1, Nat.le_trans (hrk R hR).2.2.1 hsz, (hrk R hR).2.2.2⟩⟩, hsz, fun u hu => fr u (by omega)⟩
theorem hp_swl (hH : hpc G w X lo C P F ar V cf pc RK) (hlo : X + 80 ≤ lo) {v : Nat} (hs : swp G w' (X + 6)) (f : sfr w w' (X + 6) (X + 63)) (hv : whz G w' (X + 63) 84 v) : hpc G w' X lo C P F ar V cf pc RK ∧ kfr w w' X lo := by
  obtain ⟨hX, h1, hrow, hwh, hsw, ⟨hlf, hrt⟩, htl, hfd, hcs, hor, hrk⟩ := id hH
  have fr : ∀ u, u < X + 6 ∨ X + 65 ≤ u → w'.2 u = w.2 u := fun u hu => f.2 u (by omega) (by omega) (by omega)
  have hsz : w.1 ≤ w'.1 := Nat.le_of_eq f.1.symm
  exact ⟨⟨(fr X (by omega)).trans hX, (fr (X + 1) (by omega)).trans h1, srw_sm hrow (fun u a1 a2 => fr u (by omega)), whz_sm hwh (fr _ (by omega)) (fr _ (by omega)), hs, ⟨⟨v, hv⟩, hrt.elim (fun v q => ⟨v, whz_sm q (fr _ (by omega)) (fr _ (by omega))⟩)⟩, tlp_sm htl (fun u a1 a2 => fr u (by omega)), hfd.elim (fun ff q => ⟨ff, (fr _ (by omega)).trans q.1, q.2⟩), fun c hc => ⟨(hcs c hc).1, chr_sm (hcs c hc).2.1 (fun u a1 a2 => fr u (by have := (hcs c hc).2.2; omega)), (hcs c hc).2.2.1, Nat.le_trans (hcs c hc).2.2.2 hsz⟩, hor, fun R hR => ⟨rkp_sm (hrk R hR).1 (fun u a1 a2 => fr u (by have := (hrk R hR).2.1; omega)), (hrk R hR).2.1, Nat.le_trans (hrk R hR).2.2.1 hsz, (hrk R hR).2.2.2⟩⟩, hsz, fun u hu => fr u (by omega)⟩
theorem hp_swr (hH : hpc G w X lo C P F ar V cf pc RK) (hlo : X + 80 ≤ lo) {v : Nat} (hs : swp G w' (X + 6)) (f : sfr w w' (X + 6) (X + 65)) (hv : whz G w' (X + 65) 84 v) : hpc G w' X lo C P F ar V cf pc RK ∧ kfr w w' X lo := by
  obtain ⟨hX, h1, hrow, hwh, hsw, ⟨hlf, hrt⟩, htl, hfd, hcs, hor, hrk⟩ := id hH
  have fr : ∀ u, u < X + 6 ∨ (X + 63 ≤ u ∧ u < X + 65) ∨ X + 67 ≤ u → w'.2 u = w.2 u := fun u hu => f.2 u (by omega) (by omega) (by omega)
  have hsz : w.1 ≤ w'.1 := Nat.le_of_eq f.1.symm
  exact ⟨⟨(fr X (by omega)).trans hX, (fr (X + 1) (by omega)).trans h1, srw_sm hrow (fun u a1 a2 => fr u (by omega)), whz_sm hwh (fr _ (by omega)) (fr _ (by omega)), hs, ⟨hlf.elim (fun v q => ⟨v, whz_sm q (fr _ (by omega)) (fr _ (by omega))⟩), ⟨v, hv⟩⟩, tlp_sm htl (fun u a1 a2 => fr u (by omega)), hfd.elim (fun ff q => ⟨ff, (fr _ (by omega)).trans q.1, q.2⟩), fun c hc => ⟨(hcs c hc).1, chr_sm (hcs c hc).2.1 (fun u a1 a2 => fr u (by have := (hcs c hc).2.2; omega)), (hcs c hc).2.2.1, Nat.le_trans (hcs c hc).2.2.2 hsz⟩, hor, fun R hR => ⟨rkp_sm (hrk R hR).1 (fun u a1 a2 => fr u (by have := (hrk R hR).2.1; omega)), (hrk R hR).2.1, Nat.le_trans (hrk R hR).2.2.1 hsz, (hrk R hR).2.2.2⟩⟩, hsz, fun u hu => fr u (by omega)⟩
theorem hp_sw0 (hH : hpc G w X lo C P F ar V cf pc RK) (hlo : X + 80 ≤ lo) (hs : swp G w' (X + 6)) (z1 : w'.1 = w.1) (fr : ∀ u, u < X + 6 ∨ X + 6 + 57 ≤ u → w'.2 u = w.2 u) : hpc G w' X lo C P F ar V cf pc RK ∧ kfr w w' X lo := by
  obtain ⟨hX, h1, hrow, hwh, hsw, ⟨hlf, hrt⟩, htl, hfd, hcs, hor, hrk⟩ := id hH
  have hsz : w.1 ≤ w'.1 := Nat.le_of_eq z1.symm
  exact ⟨⟨(fr X (by omega)).trans hX, (fr (X + 1) (by omega)).trans h1, srw_sm hrow (fun u a1 a2 => fr u (by omega)), whz_sm hwh (fr _ (by omega)) (fr _ (by omega)), hs, ⟨hlf.elim (fun v q => ⟨v, whz_sm q (fr _ (by omega)) (fr _ (by omega))⟩), hrt.elim (fun v q => ⟨v, whz_sm q (fr _ (by omega)) (fr _ (by omega))⟩)⟩, tlp_sm htl (fun u a1 a2 => fr u (by omega)), hfd.elim (fun ff q => ⟨ff, (fr _ (by omega)).trans q.1, q.2⟩), fun c hc => ⟨(hcs c hc).1, chr_sm (hcs c hc).2.1 (fun u a1 a2 => fr u (by have := (hcs c hc).2.2; omega)), (hcs c hc).2.2.1, Nat.le_trans (hcs c hc).2.2.2 hsz⟩, hor, fun R hR => ⟨rkp_sm (hrk R hR).1 (fun u a1 a2 => fr u (by have := (hrk R hR).2.1; omega)), (hrk R hR).2.1, Nat.le_trans (hrk R hR).2.2.1 hsz, (hrk R hR).2.2.2⟩⟩, hsz, fun u hu => fr u (by omega)⟩
theorem hp_tel (hH : hpc G w X lo C P F ar V cf pc RK) (hlo : X + 80 ≤ lo) (ht : tlp G w' (X + 67)) (z1 : w'.1 = w.1) (fr : ∀ u, u < X + 67 ∨ X + 67 + 12 ≤ u → w'.2 u = w.2 u) : hpc G w' X lo C P F ar V cf pc RK ∧ kfr w w' X lo := by
  obtain ⟨hX, h1, hrow, hwh, hsw, ⟨hlf, hrt⟩, htl, hfd, hcs, hor, hrk⟩ := id hH
  have hsz : w.1 ≤ w'.1 := Nat.le_of_eq z1.symm
  exact ⟨⟨(fr X (by omega)).trans hX, (fr (X + 1) (by omega)).trans h1, srw_sm hrow (fun u a1 a2 => fr u (by omega)), whz_sm hwh (fr _ (by omega)) (fr _ (by omega)), swp_sm hsw (fun u a1 a2 => fr u (by omega)), ⟨hlf.elim (fun v q => ⟨v, whz_sm q (fr _ (by omega)) (fr _ (by omega))⟩), hrt.elim (fun v q => ⟨v, whz_sm q (fr _ (by omega)) (fr _ (by omega))⟩)⟩, ht, hfd.elim (fun ff q => ⟨ff, (fr _ (by omega)).trans q.1, q.2⟩), fun c hc => ⟨(hcs c hc).1, chr_sm (hcs c hc).2.1 (fun u a1 a2 => fr u (by have := (hcs c hc).2.2; omega)), (hcs c hc).2.2.1, Nat.le_trans (hcs c hc).2.2.2 hsz⟩, hor, fun R hR => ⟨rkp_sm (hrk R hR).1 (fun u a1 a2 => fr u (by have := (hrk R hR).2.1; omega)), (hrk R hR).2.1, Nat.le_trans (hrk R hR).2.2.1 hsz, (hrk R hR).2.2.2⟩⟩, hsz, fun u hu => fr u (by omega)⟩
theorem chr_ar {ar' : Nat → Nat → Int} {c p : Nat} (h : chr G w ar c p) (e1 : ar' 1 c = ar 1 c) (e2 : ar' 2 c = ar 2 c) (e3 : ar' 3 c = ar 3 c) (e4 : ∀ s, s < 8 → ar' 4 (c * 8 + s) = ar 4 (c * 8 + s)) (e5 : ∀ s t, s < 8 → t < 8 → ar' 5 ((c * 8 + s) * 8 + t) = ar 5 ((c * 8 + s) * 8 + t)) (e6 : ∀ s x, s < 8 → x < 6 → ar' 6 ((c * 8 + s) * 6 + x) = ar 6 ((c * 8 + s) * 6 + x)) : chr G w ar' c p := by
  obtain ⟨hK, h2, bf, gf, sf, h3, h4, h5, h6, h7, h8⟩ := h
  have n8 := (mch_n hK).2.2
  have k6 := (mch_k hK).2.2
  have en : cn ar' c = cn ar c := by unfold cn; rw [e1]
  have ek : ck ar' c = ck ar c := by unfold ck; rw [e2]
  have et : ct ar' c = ct ar c := by unfold ct; rw [e3]
  refine ⟨⟨by rw [e1]; exact hK.1, by rw [e2]; exact hK.2.1, by rw [e3]; exact hK.2.2.1, fun s hs => by rw [e3, e4 s hs]; exact hK.2.2.2.1 s hs, fun s t hs ht => by rw [e3, e5 s t hs ht]; exact hK.2.2.2.2.1 s t hs ht, fun s x hs hx => by rw [e3, e6 s x hs hx]; exact hK.2.2.2.2.2 s x hs hx⟩, by rw [en, ek, et]; exact h2, bf, gf, sf, by rw [en]; exact h3, by rw [en]; exact h4, by rw [en, ek]; exact h5, fun s hs => ?_, fun s t hs ht => ?_, fun s x hs hx => ?_⟩
  · rw [en] at hs
    rw [h6 s hs]
    unfold cb
    rw [e4 s (by omega)]
  · rw [en] at hs ht ⊢
    rw [h7 s t hs ht]
    unfold cg
    rw [e5 s t (by omega) (by omega)]
  · rw [en] at hs
    rw [ek] at hx ⊢
    rw [h8 s x hs hx]
    unfold cw
    rw [e6 s x (by omega) (by omega)]
theorem srw_ar {ar' : Nat → Nat → Int} {p : Nat} (h : srw G w ar P p) (e : ∀ i, i < P → ar' 7 i = ar 7 i) : srw G w ar' P p := by
  obtain ⟨h1, h2, rf, h3, h4⟩ := h
  exact ⟨h1, h2, rf, h3, fun i hi => (h4 i hi).trans (e i hi).symm⟩
/-- other numbers that are alike where the class looks -/
theorem hp_ar {ar' : Nat → Nat → Int} (hH : hpc G w X lo C P F ar V cf pc RK) (e : ∀ k, k ≤ 6 → ar' k = ar k) (e7 : ∀ i, i < P → ar' 7 i = ar 7 i) (e17 : ∀ i, i < F → ar' 17 i = ar 17 i) : hpc G w X lo C P F ar' V cf pc RK := by
  obtain ⟨hX, h1, hrow, hwh, hsw, ⟨hlf, hrt⟩, htl, hfd, hcs, hor, hrk⟩ := id hH
  exact ⟨hX, h1, srw_ar hrow e7, hwh, hsw, ⟨hlf, hrt⟩, htl, hfd.elim (fun ff q => ⟨ff, q.1, fun i hi => (q.2 i hi).trans (e17 i hi).symm⟩), fun c hc => ⟨(hcs c hc).1, chr_ar (hcs c hc).2.1 (by rw [e 1 (by decide)]) (by rw [e 2 (by decide)]) (by rw [e 3 (by decide)]) (fun s _ => by rw [e 4 (by decide)]) (fun s t _ _ => by rw [e 5 (by decide)]) (fun s x _ _ => by rw [e 6 (by decide)]), (hcs c hc).2.2⟩, hor, hrk⟩
theorem hp_rows {ar' : Nat → Nat → Int} {P' : Nat} (hH : hpc G w X lo C P F ar V cf pc RK) (hlo : X + 80 ≤ lo) (f : bfr w w' (X + 2)) (hr : srw G w' ar' P' (X + 2)) (e : ∀ k, k ≠ 7 → ar' k = ar k) : hpc G w' X lo C P' F ar' V cf pc RK ∧ kfr w w' X lo := by
  obtain ⟨hX, h1, hrow, hwh, hsw, ⟨hlf, hrt⟩, htl, hfd, hcs, hor, hrk⟩ := id hH
  have fr : ∀ u, u < X + 2 ∨ X + 4 ≤ u → w'.2 u = w.2 u := fun u hu => f.2 u (by omega) (by omega)
  have hsz : w.1 ≤ w'.1 := Nat.le_of_eq f.1.symm
  exact ⟨⟨(fr X (by omega)).trans hX, (fr (X + 1) (by omega)).trans h1, hr, whz_sm hwh (fr _ (by omega)) (fr _ (by omega)), swp_sm hsw (fun u a1 a2 => fr u (by omega)), ⟨hlf.elim (fun v q => ⟨v, whz_sm q (fr _ (by omega)) (fr _ (by omega))⟩), hrt.elim (fun v q => ⟨v, whz_sm q (fr _ (by omega)) (fr _ (by omega))⟩)⟩, tlp_sm htl (fun u a1 a2 => fr u (by omega)), hfd.elim (fun ff q => ⟨ff, (fr _ (by omega)).trans q.1, fun i hi => (q.2 i hi).trans (by rw [e 17 (by decide)])⟩), fun c hc => ⟨(hcs c hc).1, chr_ar (chr_sm (hcs c hc).2.1 (fun u a1 a2 => fr u (by have := (hcs c hc).2.2; omega))) (by rw [e 1 (by decide)]) (by rw [e 2 (by decide)]) (by rw [e 3 (by decide)]) (fun s _ => by rw [e 4 (by decide)]) (fun s t _ _ => by rw [e 5 (by decide)]) (fun s x _ _ => by rw [e 6 (by decide)]), (hcs c hc).2.2.1, Nat.le_trans (hcs c hc).2.2.2 hsz⟩, hor, fun R hR => ⟨rkp_sm (hrk R hR).1 (fun u a1 a2 => fr u (by have := (hrk R hR).2.1; omega)), (hrk R hR).2.1, Nat.le_trans (hrk R hR).2.2.1 hsz, (hrk R hR).2.2.2⟩⟩, hsz, fun u hu => fr u (by omega)⟩
/-- a chain is written -/
theorem hp_put {ar' : Nat → Nat → Int} {c0 : Nat} (hH : hpc G w X lo C P F ar V cf pc RK) (hlo : X + 80 ≤ lo) (hc0 : c0 < C) (f : cfr w w' (pc c0)) (hc : chr G w' ar' c0 (pc c0)) (e7 : ar' 7 = ar 7) (e17 : ar' 17 = ar 17) (e : ∀ c, c ≠ c0 → ∀ p, chr G w ar c p → chr G w ar' c p) : hpc G w' X lo C P F ar' V cf pc RK ∧ kfr w w' X lo := by
  obtain ⟨hX, h1, hrow, hwh, hsw, ⟨hlf, hrt⟩, htl, hfd, hcs, hor, hrk⟩ := id hH
  have hq := hcs c0 hc0
  have fr : ∀ u, u < pc c0 ∨ pc c0 + 4 ≤ u → w'.2 u = w.2 u := fun u hu => f.2 u (by omega)
  have hsz : w.1 ≤ w'.1 := Nat.le_of_eq f.1.symm
  have hdj : ∀ c, c < C → c ≠ c0 → pc c + 4 ≤ pc c0 ∨ pc c0 + 4 ≤ pc c := fun c h2 h3 => by
    by_cases h4 : c < c0
    · exact Or.inl (hor c c0 h4 hc0)
    · exact Or.inr (hor c0 c (by omega) h2)
  exact ⟨⟨(fr X (by omega)).trans hX, (fr (X + 1) (by omega)).trans h1, srw_ar (srw_sm hrow (fun u a1 a2 => fr u (by omega))) (fun i _ => by rw [e7]), whz_sm hwh (fr _ (by omega)) (fr _ (by omega)), swp_sm hsw (fun u a1 a2 => fr u (by omega)), ⟨hlf.elim (fun v q => ⟨v, whz_sm q (fr _ (by omega)) (fr _ (by omega))⟩), hrt.elim (fun v q => ⟨v, whz_sm q (fr _ (by omega)) (fr _ (by omega))⟩)⟩, tlp_sm htl (fun u a1 a2 => fr u (by omega)), hfd.elim (fun ff q => ⟨ff, (fr _ (by omega)).trans q.1, fun i hi => (q.2 i hi).trans (by rw [e17])⟩), fun c hc2 => ⟨(hcs c hc2).1, (if hcc : c = c0 then hcc ▸ hc else chr_sm (e c hcc _ (hcs c hc2).2.1) (fun u a1 a2 => fr u (by have := hdj c hc2 hcc; omega))), (hcs c hc2).2.2.1, Nat.le_trans (hcs c hc2).2.2.2 hsz⟩, hor, fun R hR => ⟨rkp_sm (hrk R hR).1 (fun u a1 a2 => fr u (by have := (hrk R hR).2.2.2 c0 hc0; omega)), (hrk R hR).2.1, Nat.le_trans (hrk R hR).2.2.1 hsz, (hrk R hR).2.2.2⟩⟩, hsz, fun u hu => fr u (by omega)⟩
end HP
theorem C6_isWithin {G : ze_G} {l : Launch} {w : ze_W} {v a b : Int} (r_v : -2147483648 ≤ v ∧ v < 2147483648) (r_a : -2147483648 ≤ a ∧ a < 2147483648) (r_b : -2147483648 ≤ b ∧ b < 2147483648) : ze_C G l 0 0 0 M6_isWithin [ze_i v, ze_i a, ze_i b] w (ze_qi (fun r w' => r = bi (a ≤ v ∧ v ≤ b) ∧ w' = w)) := by
  refine ze_enter (by decide +kernel) rfl ?_
  change ze_V G l (ze_rm 0 0 0) M6_isWithin _ 0 [(0, ze_i (v)), (1, ze_i (a)), (2, ze_i (b))] [] w 0 0
  refine ze_iload_n dX6_isWithin_0 rfl ?_
  refine ze_iload_n dX6_isWithin_1 rfl ?_
  refine ze_icmp_lt 14 dX6_isWithin_2 (by decide) (by omega) (by omega) (fun q1 => ?_) (fun q1 => ?_)
  · refine ze_iconst dX6_isWithin_14 ?_
    exact ze_zreturn rfl dX6_isWithin_15 (by decide) ⟨_, rfl, bi_f (by omega), rfl⟩ rfl rfl
  · refine ze_iload_n dX6_isWithin_5 rfl ?_
    refine ze_iload_n dX6_isWithin_6 rfl ?_
    refine ze_icmp_gt 14 dX6_isWithin_7 (by decide) (by omega) (by omega) (fun q2 => ?_) (fun q2 => ?_)
    · refine ze_iconst dX6_isWithin_14 ?_
      exact ze_zreturn rfl dX6_isWithin_15 (by decide) ⟨_, rfl, bi_f (by omega), rfl⟩ rfl rfl
    · refine ze_iconst dX6_isWithin_10 ?_
      refine ze_goto 15 dX6_isWithin_11 (by decide) ?_
      exact ze_zreturn rfl dX6_isWithin_15 (by decide) ⟨_, rfl, bi_t (by omega), rfl⟩ rfl rfl
theorem C6_chainNumbered {G : ze_G} {l : Launch} {w : ze_W} {X lo C P F V : Nat} {ar : Nat → Nat → Int} {cf : Nat → Option Nat} {pc : Nat → Nat} {RK : Option Nat} {c : Int} (hH : hpc G w X lo C P F ar V cf pc RK) (hG : mgd C P F ar) (r_c : -2147483648 ≤ c ∧ c < 2147483648) : ze_C G l 1 0 0 M6_chainNumbered [.ref X, ze_i c] w (ze_qr (fun r w' => r = (if 0 ≤ c ∧ c < (C : Int) then some (pc c.toNat) else none) ∧ w' = w)) := by
  have hC6 := hG.1.1
  refine ze_enter (by decide +kernel) rfl ?_
  change ze_V G l (ze_rm 1 0 0) M6_chainNumbered _ 0 [(0, .ref X), (1, ze_i (c))] [] w 0 0
  refine ze_iload_n dX6_chainNumbered_0 rfl ?_
  refine ze_iconst dX6_chainNumbered_1 ?_
  refine ze_aload_n dX6_chainNumbered_2 rfl ?_
  refine ze_getf dX6_chainNumbered_3 fl_X6_15 (hp_o hH) rfl ?_
  refine ze_iconst dX6_chainNumbered_6 ?_
  refine ze_isub dX6_chainNumbered_7 ?_
  refine ze_callS (As := [ze_i (c), ze_i (0), ze_i ((C : Nat) - 1)]) (rest := []) dX6_chainNumbered_8 (C6_isWithin (v := c) (a := 0) (b := (C : Nat) - 1) (by omega) (by omega) (by omega)) mo6_isWithin ml_X6_66 st_6_isWithin rfl rfl rfl ⟨Nat.le_refl _, Nat.le_refl _⟩ rfl (Nat.le_of_ble_eq_true rfl) ?_
  rintro _ w' ⟨r1, rfl, rfl, rfl⟩
  change ze_V G l (ze_rm 1 0 0) M6_chainNumbered _ 11 [(0, .ref X), (1, ze_i (c))] [ze_i (bi (0 ≤ c ∧ c ≤ (C : Nat) - 1))] w' 0 0
  refine ze_if_eq 23 dX6_chainNumbered_11 (by decide) (bi_rng _) (fun q2 => ?_) (fun q2 => ?_)
  · rw [bi_z] at q2
    refine ze_null dX6_chainNumbered_23 ?_
    exact ze_areturn (r := none) rfl (Or.inl ⟨_, rfl⟩) dX6_chainNumbered_24 ⟨none, rfl, by rw [if_neg (by omega)], rfl⟩ rfl rfl
  · rw [bi_n] at q2
    refine ze_aload_n dX6_chainNumbered_14 rfl ?_
    refine ze_getf dX6_chainNumbered_15 fl_X6_11 (hp_o hH) rfl ?_
    refine ze_iload_n dX6_chainNumbered_18 rfl ?_
    refine ze_aald (j := c.toNat) (b := pc c.toNat) dX6_chainNumbered_19 (hp_r hH) rfl (by omega) (by omega) (by omega) (hp_cs hH (by omega)).1 ?_
    refine ze_goto 24 dX6_chainNumbered_20 (by decide) ?_
    exact ze_areturn (r := some (pc c.toNat)) rfl (Or.inl ⟨_, rfl⟩) dX6_chainNumbered_24 ⟨some (pc c.toNat), rfl, by rw [if_pos (by omega)], rfl⟩ rfl rfl
theorem C6_rowRefusal {G : ze_G} {l : Launch} {w : ze_W} {X lo C P F V : Nat} {ar : Nat → Nat → Int} {cf : Nat → Option Nat} {pc : Nat → Nat} {RK : Option Nat} {c : Nat} (hH : hpc G w X lo C P F ar V cf pc RK) (hG : mgd C P F ar) (hc : c < C) : ze_C G l 2 0 0 M6_rowRefusal [.ref X, .ref (pc c)] w (ze_qi (fun r w' => rfs ar P c r ∧ w' = w)) := by
  have hP := hG.1.2.1
  refine ze_enter (by decide +kernel) rfl ?_
  change ze_V G l (ze_rm 2 0 0) M6_rowRefusal _ 0 [(0, .ref X), (1, .ref (pc c))] [] w 0 0
  refine ze_aload_n dX6_rowRefusal_0 rfl ?_
  refine ze_getf dX6_rowRefusal_1 fl_X6_22 (hp_o hH) rfl ?_
  refine ze_callV (As := []) (rest := []) dX6_rowRefusal_4 (C2_length (hp_row hH)) mo2_length ml_X6_117 in_2_length se_2_length (hp_row hH).2.1 rfl rfl rfl rfl rfl ⟨Nat.le_refl _, Nat.le_refl _⟩ rfl (Nat.le_of_ble_eq_true rfl) ?_
  rintro _ w' ⟨r1, rfl, rfl, rfl⟩
  change ze_V G l (ze_rm 2 0 0) M6_rowRefusal _ 7 [(0, .ref X), (1, .ref (pc c))] [ze_i ((P : Nat))] w' 0 0
  refine ze_if_ne 13 dX6_rowRefusal_7 (by decide) (by omega) (fun q2 => ?_) (fun q2 => ?_)
  · refine ze_aload_n dX6_rowRefusal_13 rfl ?_
    refine ze_callV (As := []) (rest := []) dX6_rowRefusal_14 (C0_isSound (hp_ch hH hc)) mo0_isSound ml_X6_98 in_0_isSound se_0_isSound (hp_ch hH (by omega)).2.1 rfl rfl rfl rfl rfl ⟨Nat.le_refl _, Nat.le_refl _⟩ rfl (Nat.le_of_ble_eq_true rfl) ?_
    rintro _ w' ⟨ra, rfl, hra, rfl⟩
    change ze_V G l (ze_rm 2 0 0) M6_rowRefusal _ 17 [(0, .ref X), (1, .ref (pc c))] [ze_i (ra)] w' 0 0
    refine ze_if_ne 23 dX6_rowRefusal_17 (by decide) (tf_rng hra) (fun q3 => ?_) (fun q3 => ?_)
    · refine ze_aload_n dX6_rowRefusal_23 rfl ?_
      refine ze_getf dX6_rowRefusal_24 fl_X6_22 (hp_o hH) rfl ?_
      refine ze_aload_n dX6_rowRefusal_27 rfl ?_
      refine ze_callV (As := [.ref (pc c)]) (rest := []) dX6_rowRefusal_28 (C2_fits (hp_row hH) (hp_ch hH hc) hG.2.2.1) mo2_fits ml_X6_205 in_2_fits se_2_fits (hp_row hH).2.1 rfl rfl rfl rfl rfl ⟨Nat.le_refl _, Nat.le_refl _⟩ rfl (Nat.le_of_ble_eq_true rfl) ?_
      rintro _ w' ⟨rb, rfl, hrb, rfl⟩
      change ze_V G l (ze_rm 2 0 0) M6_rowRefusal _ 31 [(0, .ref X), (1, .ref (pc c))] [ze_i (rb)] w' 0 0
      refine ze_if_eq 38 dX6_rowRefusal_31 (by decide) (tf_rng hrb) (fun q4 => ?_) (fun q4 => ?_)
      · refine ze_bipush dX6_rowRefusal_38 (by decide) ?_
        exact ze_ireturn rfl dX6_rowRefusal_40 ⟨_, rfl, Or.inr (Or.inr (Or.inl ⟨by omega, tf_n hra q3, tf_z hrb q4, rfl⟩)), rfl⟩ rfl rfl
      · refine ze_iconst dX6_rowRefusal_34 ?_
        refine ze_goto 40 dX6_rowRefusal_35 (by decide) ?_
        exact ze_ireturn rfl dX6_rowRefusal_40 ⟨_, rfl, Or.inr (Or.inr (Or.inr ⟨by omega, tf_n hra q3, tf_n hrb q4, rfl⟩)), rfl⟩ rfl rfl
    · refine ze_bipush dX6_rowRefusal_20 (by decide) ?_
      exact ze_ireturn rfl dX6_rowRefusal_22 ⟨_, rfl, Or.inr (Or.inl ⟨by omega, tf_z hra q3, rfl⟩), rfl⟩ rfl rfl
  · refine ze_bipush dX6_rowRefusal_10 (by decide) ?_
    exact ze_ireturn rfl dX6_rowRefusal_12 ⟨_, rfl, Or.inl ⟨by omega, rfl⟩, rfl⟩ rfl rfl
theorem C6_pairRefusal {G : ze_G} {l : Launch} {w : ze_W} {X lo C P F V : Nat} {ar : Nat → Nat → Int} {cf : Nat → Option Nat} {pc : Nat → Nat} {RK : Option Nat} {a b : Int} (hH : hpc G w X lo C P F ar V cf pc RK) (hG : mgd C P F ar) (r_a : -2147483648 ≤ a ∧ a < 2147483648) (r_b : -2147483648 ≤ b ∧ b < 2147483648) : ze_C G l 2 0 0 M6_pairRefusal [.ref X, ze_i a, ze_i b] w (ze_qi (fun r w' => rf2 ar C a b r ∧ w' = w)) := by
  refine ze_enter (by decide +kernel) rfl ?_
  change ze_V G l (ze_rm 2 0 0) M6_pairRefusal _ 0 [(0, .ref X), (1, ze_i (a)), (2, ze_i (b))] [] w 0 0
  refine ze_aload_n dX6_pairRefusal_0 rfl ?_
  refine ze_iload_n dX6_pairRefusal_1 rfl ?_
  refine ze_callV (As := [ze_i (a)]) (rest := []) dX6_pairRefusal_2 (C6_chainNumbered (c := a) hH hG (by omega)) mo6_chainNumbered ml_X6_73 in_6_chainNumbered se_6_chainNumbered (hp_o hH) rfl rfl rfl rfl rfl ⟨Nat.le_refl _, Nat.le_refl _⟩ rfl (Nat.le_of_ble_eq_true rfl) ?_
  rintro _ w' ⟨ro, rfl, hro, rfl⟩
  by_cases qka : 0 ≤ a ∧ a < (C : Int)
  · rw [if_pos qka] at hro
    subst hro
    obtain ⟨ka, hka⟩ : ∃ n, n = (a).toNat := ⟨_, rfl⟩
    rw [← hka]
    change ze_V G l (ze_rm 2 0 0) M6_pairRefusal _ 5 [(0, .ref X), (1, ze_i (a)), (2, ze_i (b))] [.ref (pc ka)] w' 0 0
    have lka : ka < C := by omega
    have ika : ((ka : Nat) : Int) = a := by omega
    refine ze_astore_n (lv' := [(0, .ref X), (1, ze_i (a)), (2, ze_i (b)), (3, .ref (pc ka))]) dX6_pairRefusal_5 rfl rfl ?_
    refine ze_aload_n dX6_pairRefusal_6 rfl ?_
    refine ze_iload_n dX6_pairRefusal_7 rfl ?_
    refine ze_callV (As := [ze_i (b)]) (rest := []) dX6_pairRefusal_8 (C6_chainNumbered (c := b) hH hG (by omega)) mo6_chainNumbered ml_X6_73 in_6_chainNumbered se_6_chainNumbered (hp_o hH) rfl rfl rfl rfl rfl ⟨Nat.le_refl _, Nat.le_refl _⟩ rfl (Nat.le_of_ble_eq_true rfl) ?_
    rintro _ w' ⟨ro, rfl, hro, rfl⟩
    by_cases qkb : 0 ≤ b ∧ b < (C : Int)
    · rw [if_pos qkb] at hro
      subst hro
      obtain ⟨kb, hkb⟩ : ∃ n, n = (b).toNat := ⟨_, rfl⟩
      rw [← hkb]
      change ze_V G l (ze_rm 2 0 0) M6_pairRefusal _ 11 [(0, .ref X), (1, ze_i (a)), (2, ze_i (b)), (3, .ref (pc ka))] [.ref (pc kb)] w' 0 0
      have lkb : kb < C := by omega
      have ikb : ((kb : Nat) : Int) = b := by omega
      refine ze_astore (lv' := [(0, .ref X), (1, ze_i (a)), (2, ze_i (b)), (3, .ref (pc ka)), (4, .ref (pc kb))]) dX6_pairRefusal_11 rfl rfl ?_
      obtain ⟨ea2, ka1, ka6⟩ := mch_k (hp_ch hH lka).1
      obtain ⟨eb2, kb1, kb6⟩ := mch_k (hp_ch hH lkb).1
      obtain ⟨ea3, ta1, ta2⟩ := mch_t (hp_ch hH lka).1
      obtain ⟨eb3, tb1, tb2⟩ := mch_t (hp_ch hH lkb).1
      refine ze_aload_n dX6_pairRefusal_13 rfl ?_
      refine ze_ifnull dX6_pairRefusal_14 ?_
      refine ze_aload dX6_pairRefusal_17 rfl ?_
      refine ze_ifnonnull 24 dX6_pairRefusal_19 (by decide) ?_
      refine ze_aload_n dX6_pairRefusal_24 rfl ?_
      refine ze_callV (As := []) (rest := []) dX6_pairRefusal_25 (C0_isSound (hp_ch hH lka)) mo0_isSound ml_X6_98 in_0_isSound se_0_isSound (hp_ch hH lka).2.1 rfl rfl rfl rfl rfl ⟨Nat.le_refl _, Nat.le_refl _⟩ rfl (Nat.le_of_ble_eq_true rfl) ?_
      rintro _ w' ⟨ra, rfl, hra, rfl⟩
      change ze_V G l (ze_rm 2 0 0) M6_pairRefusal _ 28 [(0, .ref X), (1, ze_i (a)), (2, ze_i (b)), (3, .ref (pc ka)), (4, .ref (pc kb))] [ze_i (ra)] w' 0 0
      refine ze_if_eq 39 dX6_pairRefusal_28 (by decide) (tf_rng hra) (fun q1 => ?_) (fun q1 => ?_)
      · refine ze_bipush dX6_pairRefusal_39 (by decide) ?_
        exact ze_ireturn rfl dX6_pairRefusal_41 ⟨_, rfl, Or.inr (Or.inl ⟨⟨⟨by omega, by omega⟩, ⟨by omega, by omega⟩⟩, fun h => tf_z hra q1 (by have := h.1; rw [← hka] at this; exact this), rfl⟩), rfl⟩ rfl rfl
      · refine ze_aload dX6_pairRefusal_31 rfl ?_
        refine ze_callV (As := []) (rest := []) dX6_pairRefusal_33 (C0_isSound (hp_ch hH lkb)) mo0_isSound ml_X6_98 in_0_isSound se_0_isSound (hp_ch hH lkb).2.1 rfl rfl rfl rfl rfl ⟨Nat.le_refl _, Nat.le_refl _⟩ rfl (Nat.le_of_ble_eq_true rfl) ?_
        rintro _ w' ⟨rb, rfl, hrb, rfl⟩
        change ze_V G l (ze_rm 2 0 0) M6_pairRefusal _ 36 [(0, .ref X), (1, ze_i (a)), (2, ze_i (b)), (3, .ref (pc ka)), (4, .ref (pc kb))] [ze_i (rb)] w' 0 0
        refine ze_if_ne 42 dX6_pairRefusal_36 (by decide) (tf_rng hrb) (fun q2 => ?_) (fun q2 => ?_)
        · refine ze_aload_n dX6_pairRefusal_42 rfl ?_
          refine ze_getf dX6_pairRefusal_43 fl_X6_105 (hp_ch hH lka).2.1 rfl ?_
          refine ze_aload dX6_pairRefusal_46 rfl ?_
          refine ze_getf dX6_pairRefusal_48 fl_X6_105 (hp_ch hH lkb).2.1 rfl ?_
          refine ze_icmp_ne 70 dX6_pairRefusal_51 (by decide) (by omega) (by omega) (fun q3 => ?_) (fun q3 => ?_)
          · refine ze_bipush dX6_pairRefusal_70 (by decide) ?_
            exact ze_ireturn rfl dX6_pairRefusal_72 ⟨_, rfl, Or.inr (Or.inr (Or.inl ⟨⟨⟨by omega, by omega⟩, ⟨by omega, by omega⟩⟩, ⟨(by rw [← hka]; exact tf_n hra q1), (by rw [← hkb]; exact tf_n hrb q2)⟩, (by rw [← hka, ← hkb]; omega), rfl⟩)), rfl⟩ rfl rfl
          · refine ze_aload_n dX6_pairRefusal_54 rfl ?_
            refine ze_getf dX6_pairRefusal_55 fl_X6_108 (hp_ch hH lka).2.1 rfl ?_
            refine ze_aload dX6_pairRefusal_58 rfl ?_
            refine ze_getf dX6_pairRefusal_60 fl_X6_108 (hp_ch hH lkb).2.1 rfl ?_
            refine ze_icmp_ne 70 dX6_pairRefusal_63 (by decide) (by omega) (by omega) (fun q4 => ?_) (fun q4 => ?_)
            · refine ze_bipush dX6_pairRefusal_70 (by decide) ?_
              exact ze_ireturn rfl dX6_pairRefusal_72 ⟨_, rfl, Or.inr (Or.inr (Or.inl ⟨⟨⟨by omega, by omega⟩, ⟨by omega, by omega⟩⟩, ⟨(by rw [← hka]; exact tf_n hra q1), (by rw [← hkb]; exact tf_n hrb q2)⟩, (by rw [← hka, ← hkb]; omega), rfl⟩)), rfl⟩ rfl rfl
            · refine ze_iconst dX6_pairRefusal_66 ?_
              refine ze_goto 72 dX6_pairRefusal_67 (by decide) ?_
              exact ze_ireturn rfl dX6_pairRefusal_72 ⟨_, rfl, Or.inr (Or.inr (Or.inr ⟨⟨⟨by omega, by omega⟩, ⟨by omega, by omega⟩⟩, ⟨(by rw [← hka]; exact tf_n hra q1), (by rw [← hkb]; exact tf_n hrb q2)⟩, (by rw [← hka, ← hkb]; omega), rfl⟩)), rfl⟩ rfl rfl
        · refine ze_bipush dX6_pairRefusal_39 (by decide) ?_
          exact ze_ireturn rfl dX6_pairRefusal_41 ⟨_, rfl, Or.inr (Or.inl ⟨⟨⟨by omega, by omega⟩, ⟨by omega, by omega⟩⟩, fun h => tf_z hrb q2 (by have := h.2; rw [← hkb] at this; exact this), rfl⟩), rfl⟩ rfl rfl
    · rw [if_neg qkb] at hro
      subst hro
      change ze_V G l (ze_rm 2 0 0) M6_pairRefusal _ 11 [(0, .ref X), (1, ze_i (a)), (2, ze_i (b)), (3, .ref (pc ka))] [.null] w' 0 0
      refine ze_astoreN (lv' := [(0, .ref X), (1, ze_i (a)), (2, ze_i (b)), (3, .ref (pc ka)), (4, .null)]) dX6_pairRefusal_11 rfl rfl ?_
      refine ze_aload_n dX6_pairRefusal_13 rfl ?_
      refine ze_ifnull dX6_pairRefusal_14 ?_
      refine ze_aloadN dX6_pairRefusal_17 rfl ?_
      refine ze_ifnonnullN dX6_pairRefusal_19 ?_
      refine ze_iconst dX6_pairRefusal_22 ?_
      exact ze_ireturn rfl dX6_pairRefusal_23 ⟨_, rfl, Or.inl ⟨by omega, rfl⟩, rfl⟩ rfl rfl
  · rw [if_neg qka] at hro
    subst hro
    change ze_V G l (ze_rm 2 0 0) M6_pairRefusal _ 5 [(0, .ref X), (1, ze_i (a)), (2, ze_i (b))] [.null] w' 0 0
    refine ze_astore_nN (lv' := [(0, .ref X), (1, ze_i (a)), (2, ze_i (b)), (3, .null)]) dX6_pairRefusal_5 rfl rfl ?_
    refine ze_aload_n dX6_pairRefusal_6 rfl ?_
    refine ze_iload_n dX6_pairRefusal_7 rfl ?_
    refine ze_callV (As := [ze_i (b)]) (rest := []) dX6_pairRefusal_8 (C6_chainNumbered (c := b) hH hG (by omega)) mo6_chainNumbered ml_X6_73 in_6_chainNumbered se_6_chainNumbered (hp_o hH) rfl rfl rfl rfl rfl ⟨Nat.le_refl _, Nat.le_refl _⟩ rfl (Nat.le_of_ble_eq_true rfl) ?_
    rintro _ w' ⟨ro, rfl, hro, rfl⟩
    by_cases qkb : 0 ≤ b ∧ b < (C : Int)
    · rw [if_pos qkb] at hro
      subst hro
      obtain ⟨kb, hkb⟩ : ∃ n, n = (b).toNat := ⟨_, rfl⟩
      rw [← hkb]
      change ze_V G l (ze_rm 2 0 0) M6_pairRefusal _ 11 [(0, .ref X), (1, ze_i (a)), (2, ze_i (b)), (3, .null)] [.ref (pc kb)] w' 0 0
      have lkb : kb < C := by omega
      have ikb : ((kb : Nat) : Int) = b := by omega
      refine ze_astore (lv' := [(0, .ref X), (1, ze_i (a)), (2, ze_i (b)), (3, .null), (4, .ref (pc kb))]) dX6_pairRefusal_11 rfl rfl ?_
      refine ze_aload_nN dX6_pairRefusal_13 rfl ?_
      refine ze_ifnullN 22 dX6_pairRefusal_14 (by decide) ?_
      refine ze_iconst dX6_pairRefusal_22 ?_
      exact ze_ireturn rfl dX6_pairRefusal_23 ⟨_, rfl, Or.inl ⟨by omega, rfl⟩, rfl⟩ rfl rfl
    · rw [if_neg qkb] at hro
      subst hro
      change ze_V G l (ze_rm 2 0 0) M6_pairRefusal _ 11 [(0, .ref X), (1, ze_i (a)), (2, ze_i (b)), (3, .null)] [.null] w' 0 0
      refine ze_astoreN (lv' := [(0, .ref X), (1, ze_i (a)), (2, ze_i (b)), (3, .null), (4, .null)]) dX6_pairRefusal_11 rfl rfl ?_
      refine ze_aload_nN dX6_pairRefusal_13 rfl ?_
      refine ze_ifnullN 22 dX6_pairRefusal_14 (by decide) ?_
      refine ze_iconst dX6_pairRefusal_22 ?_
      exact ze_ireturn rfl dX6_pairRefusal_23 ⟨_, rfl, Or.inl ⟨by omega, rfl⟩, rfl⟩ rfl rfl
