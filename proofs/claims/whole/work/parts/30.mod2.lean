/-! the reference: sums, soundness, refusals -/
def sm : Nat → (Nat → Nat) → Nat
  | 0, _ => 0
  | n + 1, f => sm n f + f n
theorem sm_s (n : Nat) (f : Nat → Nat) : sm (n + 1) f = sm n f + f n := rfl
theorem sm_le {n B : Nat} {f : Nat → Nat} (h : ∀ j, j < n → f j ≤ B) : sm n f ≤ n * B := by
  induction n with
  | zero => exact Nat.zero_le _
  | succ n ih =>
    rw [sm_s, Nat.add_mul, Nat.one_mul]
    exact Nat.add_le_add (ih (fun j hj => h j (by omega))) (h n (by omega))
theorem sm_congr {n : Nat} {f g : Nat → Nat} (h : ∀ j, j < n → f j = g j) : sm n f = sm n g := by
  induction n with
  | zero => rfl
  | succ n ih => rw [sm_s, sm_s, ih (fun j hj => h j (by omega)), h n (by omega)]
theorem sm_mono {n m : Nat} {f : Nat → Nat} (h : n ≤ m) : sm n f ≤ sm m f := by
  obtain ⟨d, rfl⟩ := Nat.exists_eq_add_of_le h
  induction d with
  | zero => exact Nat.le_refl _
  | succ d ih =>
    rw [← Nat.add_assoc, sm_s]
    exact Nat.le_trans (ih (by omega)) (Nat.le_add_right _ _)
/-- a chain's numbers -/
def cn (ar : Nat → Nat → Int) (c : Nat) : Nat := (ar 1 c).toNat
def ck (ar : Nat → Nat → Int) (c : Nat) : Nat := (ar 2 c).toNat
def ct (ar : Nat → Nat → Int) (c : Nat) : Nat := (ar 3 c).toNat
def cb (ar : Nat → Nat → Int) (c s : Nat) : Nat := (ar 4 (c * 8 + s)).toNat
def cg (ar : Nat → Nat → Int) (c s t : Nat) : Nat := (ar 5 ((c * 8 + s) * 8 + t)).toNat
def cw (ar : Nat → Nat → Int) (c s x : Nat) : Nat := (ar 6 ((c * 8 + s) * 6 + x)).toNat
/-- the chain is sound -/
def snd (ar : Nat → Nat → Int) (c : Nat) : Prop := sm (cn ar c) (cb ar c) = ct ar c ∧ ∀ s, s < cn ar c → sm (cn ar c) (cg ar c s) = ct ar c ∧ sm (ck ar c) (cw ar c s) = ct ar c
/-- a boolean's answer -/
def tf (r : Int) (p : Prop) : Prop := (r = 1 ∧ p) ∨ (r = 0 ∧ ¬ p)
theorem tf_rng {r : Int} {p : Prop} (h : tf r p) : -2147483648 ≤ r ∧ r < 2147483648 := by unfold tf at h; omega
theorem tf_z {r : Int} {p : Prop} (h : tf r p) (h2 : r = 0) : ¬ p := by
  rcases h with ⟨a, b⟩ | ⟨a, b⟩
  · omega
  · exact b
theorem tf_n {r : Int} {p : Prop} (h : tf r p) (h2 : r ≠ 0) : p := by
  rcases h with ⟨a, b⟩ | ⟨a, b⟩
  · exact b
  · omega
theorem mch_n {ar : Nat → Nat → Int} {c : Nat} (h : mch ar c) : ar 1 c = (cn ar c : Nat) ∧ 1 ≤ cn ar c ∧ cn ar c ≤ 8 := by
  have := h.1
  unfold cn
  omega
theorem mch_k {ar : Nat → Nat → Int} {c : Nat} (h : mch ar c) : ar 2 c = (ck ar c : Nat) ∧ 1 ≤ ck ar c ∧ ck ar c ≤ 6 := by
  have := h.2.1
  unfold ck
  omega
theorem mch_t {ar : Nat → Nat → Int} {c : Nat} (h : mch ar c) : ar 3 c = (ct ar c : Nat) ∧ 1 ≤ ct ar c ∧ ct ar c ≤ 1000 := by
  have := h.2.2.1
  unfold ct
  omega
theorem mch_b {ar : Nat → Nat → Int} {c s : Nat} (h : mch ar c) (hs : s < 8) : ar 4 (c * 8 + s) = (cb ar c s : Nat) ∧ cb ar c s ≤ 1000 := by
  have h1 := h.2.2.1
  have h2 := h.2.2.2.1 s hs
  unfold cb
  omega
theorem mch_g {ar : Nat → Nat → Int} {c s t : Nat} (h : mch ar c) (hs : s < 8) (ht : t < 8) : ar 5 ((c * 8 + s) * 8 + t) = (cg ar c s t : Nat) ∧ cg ar c s t ≤ 1000 := by
  have h1 := h.2.2.1
  have h2 := h.2.2.2.2.1 s t hs ht
  unfold cg
  omega
theorem mch_w {ar : Nat → Nat → Int} {c s x : Nat} (h : mch ar c) (hs : s < 8) (hx : x < 6) : ar 6 ((c * 8 + s) * 6 + x) = (cw ar c s x : Nat) ∧ cw ar c s x ≤ 1000 := by
  have h1 := h.2.2.1
  have h2 := h.2.2.2.2.2 s x hs hx
  unfold cw
  omega
theorem C8_isSound {G : ze_G} {l : Launch} {w0 w : ze_W} {m C P F : Nat} {ar : Nat → Nat → Int} {bz : Nat → Int} (hM : mst G w0 w m C P F ar bz) {c : Nat} (hc : c < 6) (hK : mch ar c) : ze_C G l 1 0 0 M8_isSound [.ref m, ze_i (c : Nat)] w (ze_qi (fun r w' => tf r (snd ar c) ∧ w' = w)) := by
  obtain ⟨en, n1, n8⟩ := mch_n hK
  obtain ⟨ek, k1, k6⟩ := mch_k hK
  obtain ⟨et, t1, t1000⟩ := mch_t hK
  refine ze_enter (by decide +kernel) rfl ?_
  generalize hQ : (ze_Q G (ze_qi (fun r w' => tf r (snd ar c) ∧ w' = w)) 0 0) = Z
  have bb : ∀ s, s ≤ cn ar c → sm s (cb ar c) ≤ s * 1000 := fun s hs => sm_le (fun j hj => (mch_b hK (by omega)).2)
  have gb : ∀ s t, s < 8 → t ≤ cn ar c → sm t (cg ar c s) ≤ t * 1000 := fun s t hs ht => sm_le (fun j hj => (mch_g hK hs (by omega)).2)
  have wb : ∀ s t, s < 8 → t ≤ ck ar c → sm t (cw ar c s) ≤ t * 1000 := fun s t hs ht => sm_le (fun j hj => (mch_w hK hs (by omega)).2)
  have outer : ∀ (d s : Nat), s + d = cn ar c → (∀ q, q < s → sm (cn ar c) (cg ar c q) = ct ar c ∧ sm (ck ar c) (cw ar c q) = ct ar c) → ze_V G l (ze_rm 1 0 0) M8_isSound Z 4 [(0, .ref m), (1, ze_i ((c : Nat))), (2, ze_i ((sm s (cb ar c) : Nat))), (3, ze_i ((s : Nat)))] [] w 0 0 := by
    intro d
    induction d with
    | zero =>
      intro s hs he
      have hsn : s = cn ar c := by omega
      have := bb s (by omega)
      rw [← hQ]
      refine ze_iload_n dX8_isSound_4 rfl ?_
      refine ze_aload_n dX8_isSound_5 rfl ?_
      refine ze_getf dX8_isSound_6 fl_X8_9 (ms_o hM) rfl ?_
      refine ze_iload_n dX8_isSound_9 rfl ?_
      refine ze_iald (j := c) dX8_isSound_10 (show w.2 (m + 1) = some (ze_ia G 6 (ar 1)) from ms_i hM 1 (by decide)) (by omega) (by omega) (by omega) ?_
      rw [en]
      refine ze_icmp_ge 130 dX8_isSound_11 (by decide) (by omega) (by omega) (fun q1 => ?_) (fun q1 => ?_)
      · refine ze_iload_n dX8_isSound_130 rfl ?_
        refine ze_aload_n dX8_isSound_131 rfl ?_
        refine ze_getf dX8_isSound_132 fl_X8_16 (ms_o hM) rfl ?_
        refine ze_iload_n dX8_isSound_135 rfl ?_
        refine ze_iald (j := c) dX8_isSound_136 (show w.2 (m + 3) = some (ze_ia G 6 (ar 3)) from ms_i hM 3 (by decide)) (by omega) (by omega) (by omega) ?_
        rw [et]
        refine ze_icmp_ne 144 dX8_isSound_137 (by decide) (by omega) (by omega) (fun q2 => ?_) (fun q2 => ?_)
        · refine ze_iconst dX8_isSound_144 ?_
          exact ze_zreturn rfl dX8_isSound_145 (by decide) ⟨_, rfl, Or.inr ⟨rfl, fun h => q2 (by rw [hsn]; have := h.1; omega)⟩, rfl⟩ rfl rfl
        · refine ze_iconst dX8_isSound_140 ?_
          refine ze_goto 145 dX8_isSound_141 (by decide) ?_
          exact ze_zreturn rfl dX8_isSound_145 (by decide) ⟨_, rfl, Or.inl ⟨rfl, by rw [hsn] at q2; exact ⟨by omega, fun q hq => he q (by omega)⟩⟩, rfl⟩ rfl rfl
      · omega
    | succ d ih =>
      intro s hs he
      have hs8 : s < 8 := by omega
      have b1 := bb (s + 1) (by omega)
      obtain ⟨eb, -⟩ := mch_b hK hs8
      have in2 : ∀ (e t : Nat), t + e = ck ar c → ze_V G l (ze_rm 1 0 0) M8_isSound Z 70 [(0, .ref m), (1, ze_i ((c : Nat))), (2, ze_i ((sm (s + 1) (cb ar c) : Nat))), (3, ze_i ((s : Nat))), (4, ze_i ((sm (cn ar c) (cg ar c s) : Nat))), (5, ze_i ((sm t (cw ar c s) : Nat))), (6, ze_i ((t : Nat)))] [] w 0 0 := by
        intro e
        have b2 := gb s (cn ar c) hs8 (Nat.le_refl _)
        induction e with
        | zero =>
          intro t ht
          have htn : t = ck ar c := by omega
          have b3 := wb s t hs8 (by omega)
          refine ze_iload dX8_isSound_70 rfl ?_
          refine ze_aload_n dX8_isSound_72 rfl ?_
          refine ze_getf dX8_isSound_73 fl_X8_13 (ms_o hM) rfl ?_
          refine ze_iload_n dX8_isSound_76 rfl ?_
          refine ze_iald (j := c) dX8_isSound_77 (show w.2 (m + 2) = some (ze_ia G 6 (ar 2)) from ms_i hM 2 (by decide)) (by omega) (by omega) (by omega) ?_
          rw [ek]
          refine ze_icmp_ge 100 dX8_isSound_78 (by decide) (by omega) (by omega) (fun q1 => ?_) (fun q1 => ?_)
          · refine ze_iload dX8_isSound_100 rfl ?_
            refine ze_aload_n dX8_isSound_102 rfl ?_
            refine ze_getf dX8_isSound_103 fl_X8_16 (ms_o hM) rfl ?_
            refine ze_iload_n dX8_isSound_106 rfl ?_
            refine ze_iald (j := c) dX8_isSound_107 (show w.2 (m + 3) = some (ze_ia G 6 (ar 3)) from ms_i hM 3 (by decide)) (by omega) (by omega) (by omega) ?_
            rw [et]
            refine ze_icmp_ne 122 dX8_isSound_108 (by decide) (by omega) (by omega) (fun q2 => ?_) (fun q2 => ?_)
            · refine ze_iconst dX8_isSound_122 ?_
              rw [← hQ]
              exact ze_zreturn rfl dX8_isSound_123 (by decide) ⟨_, rfl, Or.inr ⟨rfl, fun h => by have := h.2 s (by omega); rw [← htn] at this; omega⟩, rfl⟩ rfl rfl
            · refine ze_iload dX8_isSound_111 rfl ?_
              refine ze_aload_n dX8_isSound_113 rfl ?_
              refine ze_getf dX8_isSound_114 fl_X8_16 (ms_o hM) rfl ?_
              refine ze_iload_n dX8_isSound_117 rfl ?_
              refine ze_iald (j := c) dX8_isSound_118 (show w.2 (m + 3) = some (ze_ia G 6 (ar 3)) from ms_i hM 3 (by decide)) (by omega) (by omega) (by omega) ?_
              rw [et]
              refine ze_icmp_eq 124 dX8_isSound_119 (by decide) (by omega) (by omega) (fun q3 => ?_) (fun q3 => ?_)
              · have hrow : sm (cn ar c) (cg ar c s) = ct ar c ∧ sm (ck ar c) (cw ar c s) = ct ar c := by rw [← htn]; omega
                refine ze_iinc (b := ((s + 1 : Nat))) (lv' := [(0, .ref m), (1, ze_i ((c : Nat))), (2, ze_i ((sm (s + 1) (cb ar c) : Nat))), (3, ze_i (((s + 1 : Nat)))), (4, ze_i ((sm (cn ar c) (cg ar c s) : Nat))), (5, ze_i ((sm t (cw ar c s) : Nat))), (6, ze_i ((t : Nat)))]) dX8_isSound_124 rfl rfl (by omega) rfl ?_
                refine ze_goto 4 dX8_isSound_127 (by decide) ?_
                refine ze_lv (lv' := [(0, .ref m), (1, ze_i ((c : Nat))), (2, ze_i ((sm (s + 1) (cb ar c) : Nat))), (3, ze_i (((s + 1 : Nat))))]) [0, 1, 2, 3] rfl ?_
                exact ih (s + 1) (by omega) (fun q hq => by
                  by_cases h : q = s
                  · rw [h]; exact hrow
                  · exact he q (by omega))
              · refine ze_iconst dX8_isSound_122 ?_
                rw [← hQ]
                exact ze_zreturn rfl dX8_isSound_123 (by decide) ⟨_, rfl, Or.inr ⟨rfl, fun h => by have := h.2 s (by omega); rw [← htn] at this; omega⟩, rfl⟩ rfl rfl
          · omega
        | succ e ihe =>
          intro t ht
          have b3 := wb s (t + 1) hs8 (by omega)
          rw [sm_s] at b3
          obtain ⟨ew, -⟩ := mch_w hK hs8 (show t < 6 by omega)
          have esh : shx ar c s ((t : Nat) : Int) = (cw ar c s t : Nat) := by unfold shx; rw [if_neg (by omega), Int.toNat_natCast, ew]
          refine ze_iload dX8_isSound_70 rfl ?_
          refine ze_aload_n dX8_isSound_72 rfl ?_
          refine ze_getf dX8_isSound_73 fl_X8_13 (ms_o hM) rfl ?_
          refine ze_iload_n dX8_isSound_76 rfl ?_
          refine ze_iald (j := c) dX8_isSound_77 (show w.2 (m + 2) = some (ze_ia G 6 (ar 2)) from ms_i hM 2 (by decide)) (by omega) (by omega) (by omega) ?_
          rw [ek]
          refine ze_icmp_ge 100 dX8_isSound_78 (by decide) (by omega) (by omega) (fun q1 => ?_) (fun q1 => ?_)
          · omega
          · refine ze_iload dX8_isSound_81 rfl ?_
            refine ze_aload_n dX8_isSound_83 rfl ?_
            refine ze_iload_n dX8_isSound_84 rfl ?_
            refine ze_iload_n dX8_isSound_85 rfl ?_
            refine ze_iload dX8_isSound_86 rfl ?_
            refine ze_callV (As := [ze_i ((c : Nat)), ze_i ((s : Nat)), ze_i ((t : Nat))]) (rest := [ze_i ((sm t (cw ar c s) : Nat))]) dX8_isSound_88 (C8_showOf hM (c := c) (s := s) (x := ((t : Nat) : Int)) hc hs8 (by omega)) mo8_showOf ml_X8_120 in_8_showOf se_8_showOf (ms_o hM) rfl rfl rfl rfl rfl ⟨Nat.le_refl _, Nat.le_refl _⟩ rfl (Nat.le_of_ble_eq_true rfl) ?_
            rintro _ w' ⟨r2, rfl, rfl, rfl⟩
            change ze_V G l (ze_rm 1 0 0) M8_isSound _ 91 [(0, .ref m), (1, ze_i ((c : Nat))), (2, ze_i ((sm (s + 1) (cb ar c) : Nat))), (3, ze_i ((s : Nat))), (4, ze_i ((sm (cn ar c) (cg ar c s) : Nat))), (5, ze_i ((sm t (cw ar c s) : Nat))), (6, ze_i ((t : Nat)))] [ze_i (shx ar c s ((t : Nat) : Int)), ze_i ((sm t (cw ar c s) : Nat))] w' 0 0
            rw [esh]
            refine ze_iadd dX8_isSound_91 ?_
            refine ze_ti (b := (sm (t + 1) (cw ar c s) : Nat)) (by rw [sm_s]; omega) ?_
            refine ze_istore (lv' := [(0, .ref m), (1, ze_i ((c : Nat))), (2, ze_i ((sm (s + 1) (cb ar c) : Nat))), (3, ze_i ((s : Nat))), (4, ze_i ((sm (cn ar c) (cg ar c s) : Nat))), (5, ze_i ((sm (t + 1) (cw ar c s) : Nat))), (6, ze_i ((t : Nat)))]) dX8_isSound_92 rfl rfl ?_
            refine ze_iinc (b := ((t + 1 : Nat))) (lv' := [(0, .ref m), (1, ze_i ((c : Nat))), (2, ze_i ((sm (s + 1) (cb ar c) : Nat))), (3, ze_i ((s : Nat))), (4, ze_i ((sm (cn ar c) (cg ar c s) : Nat))), (5, ze_i ((sm (t + 1) (cw ar c s) : Nat))), (6, ze_i (((t + 1 : Nat))))]) dX8_isSound_94 rfl rfl (by omega) rfl ?_
            refine ze_goto 70 dX8_isSound_97 (by decide) ?_
            exact ihe (t + 1) (by omega)
      have in1 : ∀ (e t : Nat), t + e = cn ar c → ze_V G l (ze_rm 1 0 0) M8_isSound Z 37 [(0, .ref m), (1, ze_i ((c : Nat))), (2, ze_i ((sm (s + 1) (cb ar c) : Nat))), (3, ze_i ((s : Nat))), (4, ze_i ((sm t (cg ar c s) : Nat))), (5, ze_i (0)), (6, ze_i ((t : Nat)))] [] w 0 0 := by
        intro e
        induction e with
        | zero =>
          intro t ht
          have htn : t = cn ar c := by omega
          refine ze_iload dX8_isSound_37 rfl ?_
          refine ze_aload_n dX8_isSound_39 rfl ?_
          refine ze_getf dX8_isSound_40 fl_X8_9 (ms_o hM) rfl ?_
          refine ze_iload_n dX8_isSound_43 rfl ?_
          refine ze_iald (j := c) dX8_isSound_44 (show w.2 (m + 1) = some (ze_ia G 6 (ar 1)) from ms_i hM 1 (by decide)) (by omega) (by omega) (by omega) ?_
          rw [en]
          refine ze_icmp_ge 67 dX8_isSound_45 (by decide) (by omega) (by omega) (fun q1 => ?_) (fun q1 => ?_)
          · refine ze_iconst dX8_isSound_67 ?_
            refine ze_ti (b := ((0 : Nat) : Nat)) rfl ?_
            refine ze_istore (lv' := [(0, .ref m), (1, ze_i ((c : Nat))), (2, ze_i ((sm (s + 1) (cb ar c) : Nat))), (3, ze_i ((s : Nat))), (4, ze_i ((sm t (cg ar c s) : Nat))), (5, ze_i (0)), (6, ze_i (((0 : Nat) : Nat)))]) dX8_isSound_68 rfl rfl ?_
            rw [htn]
            exact in2 (ck ar c) 0 (by omega)
          · omega
        | succ e ihe =>
          intro t ht
          have b3 := gb s (t + 1) hs8 (by omega)
          rw [sm_s] at b3
          obtain ⟨eg, -⟩ := mch_g hK hs8 (show t < 8 by omega)
          refine ze_iload dX8_isSound_37 rfl ?_
          refine ze_aload_n dX8_isSound_39 rfl ?_
          refine ze_getf dX8_isSound_40 fl_X8_9 (ms_o hM) rfl ?_
          refine ze_iload_n dX8_isSound_43 rfl ?_
          refine ze_iald (j := c) dX8_isSound_44 (show w.2 (m + 1) = some (ze_ia G 6 (ar 1)) from ms_i hM 1 (by decide)) (by omega) (by omega) (by omega) ?_
          rw [en]
          refine ze_icmp_ge 67 dX8_isSound_45 (by decide) (by omega) (by omega) (fun q1 => ?_) (fun q1 => ?_)
          · omega
          · refine ze_iload dX8_isSound_48 rfl ?_
            refine ze_aload_n dX8_isSound_50 rfl ?_
            refine ze_iload_n dX8_isSound_51 rfl ?_
            refine ze_iload_n dX8_isSound_52 rfl ?_
            refine ze_iload dX8_isSound_53 rfl ?_
            refine ze_callV (As := [ze_i ((c : Nat)), ze_i ((s : Nat)), ze_i ((t : Nat))]) (rest := [ze_i ((sm t (cg ar c s) : Nat))]) dX8_isSound_55 (C8_goOf hM (c := c) (s := s) (t := t) hc hs8 (by omega)) mo8_goOf ml_X8_116 in_8_goOf se_8_goOf (ms_o hM) rfl rfl rfl rfl rfl ⟨Nat.le_refl _, Nat.le_refl _⟩ rfl (Nat.le_of_ble_eq_true rfl) ?_
            rintro _ w' ⟨r2, rfl, rfl, rfl⟩
            change ze_V G l (ze_rm 1 0 0) M8_isSound _ 58 [(0, .ref m), (1, ze_i ((c : Nat))), (2, ze_i ((sm (s + 1) (cb ar c) : Nat))), (3, ze_i ((s : Nat))), (4, ze_i ((sm t (cg ar c s) : Nat))), (5, ze_i (0)), (6, ze_i ((t : Nat)))] [ze_i (ar 5 ((c * 8 + s) * 8 + t)), ze_i ((sm t (cg ar c s) : Nat))] w' 0 0
            rw [eg]
            refine ze_iadd dX8_isSound_58 ?_
            refine ze_ti (b := (sm (t + 1) (cg ar c s) : Nat)) (by rw [sm_s]; omega) ?_
            refine ze_istore (lv' := [(0, .ref m), (1, ze_i ((c : Nat))), (2, ze_i ((sm (s + 1) (cb ar c) : Nat))), (3, ze_i ((s : Nat))), (4, ze_i ((sm (t + 1) (cg ar c s) : Nat))), (5, ze_i (0)), (6, ze_i ((t : Nat)))]) dX8_isSound_59 rfl rfl ?_
            refine ze_iinc (b := ((t + 1 : Nat))) (lv' := [(0, .ref m), (1, ze_i ((c : Nat))), (2, ze_i ((sm (s + 1) (cb ar c) : Nat))), (3, ze_i ((s : Nat))), (4, ze_i ((sm (t + 1) (cg ar c s) : Nat))), (5, ze_i (0)), (6, ze_i (((t + 1 : Nat))))]) dX8_isSound_61 rfl rfl (by omega) rfl ?_
            refine ze_goto 37 dX8_isSound_64 (by decide) ?_
            exact ihe (t + 1) (by omega)
      refine ze_iload_n dX8_isSound_4 rfl ?_
      refine ze_aload_n dX8_isSound_5 rfl ?_
      refine ze_getf dX8_isSound_6 fl_X8_9 (ms_o hM) rfl ?_
      refine ze_iload_n dX8_isSound_9 rfl ?_
      refine ze_iald (j := c) dX8_isSound_10 (show w.2 (m + 1) = some (ze_ia G 6 (ar 1)) from ms_i hM 1 (by decide)) (by omega) (by omega) (by omega) ?_
      rw [en]
      refine ze_icmp_ge 130 dX8_isSound_11 (by decide) (by omega) (by omega) (fun q1 => ?_) (fun q1 => ?_)
      · omega
      · refine ze_iload_n dX8_isSound_14 rfl ?_
        refine ze_aload_n dX8_isSound_15 rfl ?_
        refine ze_getf dX8_isSound_16 fl_X8_19 (ms_o hM) rfl ?_
        refine ze_iload_n dX8_isSound_19 rfl ?_
        refine ze_bipush dX8_isSound_20 (by decide) ?_
        refine ze_imul dX8_isSound_22 ?_
        refine ze_iload_n dX8_isSound_23 rfl ?_
        refine ze_iadd dX8_isSound_24 ?_
        refine ze_iald (j := c * 8 + s) dX8_isSound_25 (show w.2 (m + 4) = some (ze_ia G 48 (ar 4)) from ms_i hM 4 (by decide)) (by omega) (by omega) (by omega) ?_
        rw [eb]
        refine ze_iadd dX8_isSound_26 ?_
        refine ze_ti (b := (sm (s + 1) (cb ar c) : Nat)) (by rw [sm_s]; omega) ?_
        refine ze_istore_n (lv' := [(0, .ref m), (1, ze_i ((c : Nat))), (2, ze_i ((sm (s + 1) (cb ar c) : Nat))), (3, ze_i ((s : Nat)))]) dX8_isSound_27 rfl rfl ?_
        refine ze_iconst dX8_isSound_28 ?_
        refine ze_istore (lv' := [(0, .ref m), (1, ze_i ((c : Nat))), (2, ze_i ((sm (s + 1) (cb ar c) : Nat))), (3, ze_i ((s : Nat))), (4, ze_i (0))]) dX8_isSound_29 rfl rfl ?_
        refine ze_iconst dX8_isSound_31 ?_
        refine ze_istore (lv' := [(0, .ref m), (1, ze_i ((c : Nat))), (2, ze_i ((sm (s + 1) (cb ar c) : Nat))), (3, ze_i ((s : Nat))), (4, ze_i (0)), (5, ze_i (0))]) dX8_isSound_32 rfl rfl ?_
        refine ze_iconst dX8_isSound_34 ?_
        refine ze_ti (b := ((0 : Nat) : Nat)) rfl ?_
        refine ze_istore (lv' := [(0, .ref m), (1, ze_i ((c : Nat))), (2, ze_i ((sm (s + 1) (cb ar c) : Nat))), (3, ze_i ((s : Nat))), (4, ze_i (0)), (5, ze_i (0)), (6, ze_i (((0 : Nat) : Nat)))]) dX8_isSound_35 rfl rfl ?_
        exact in1 (cn ar c) 0 (by omega)
  change ze_V G l (ze_rm 1 0 0) M8_isSound Z 0 [(0, .ref m), (1, ze_i ((c : Nat)))] [] w 0 0
  refine ze_iconst dX8_isSound_0 ?_
  refine ze_ti (b := (sm 0 (cb ar c) : Nat)) rfl ?_
  refine ze_istore_n (lv' := [(0, .ref m), (1, ze_i ((c : Nat))), (2, ze_i ((sm 0 (cb ar c) : Nat)))]) dX8_isSound_1 rfl rfl ?_
  refine ze_iconst dX8_isSound_2 ?_
  refine ze_ti (b := ((0 : Nat) : Nat)) rfl ?_
  refine ze_istore_n (lv' := [(0, .ref m), (1, ze_i ((c : Nat))), (2, ze_i ((sm 0 (cb ar c) : Nat))), (3, ze_i (((0 : Nat) : Nat)))]) dX8_isSound_3 rfl rfl ?_
  exact outer (cn ar c) 0 (by omega) (fun q hq => by omega)
theorem C8_fits {G : ze_G} {l : Launch} {w0 w : ze_W} {m C P F : Nat} {ar : Nat → Nat → Int} {bz : Nat → Int} (hM : mst G w0 w m C P F ar bz) {c : Nat} (hc : c < 6) (hK : mch ar c) (hP : P ≤ 60) (hr : ∀ i, i < P → -1 ≤ ar 7 i ∧ ar 7 i < 6) : ze_C G l 0 0 0 M8_fits [.ref m, ze_i (c : Nat)] w (ze_qi (fun r w' => tf r (∀ i, i < P → ar 7 i < ar 2 c) ∧ w' = w)) := by
  obtain ⟨ek, k1, k6⟩ := mch_k hK
  refine ze_enter (by decide +kernel) rfl ?_
  generalize hQ : (ze_Q G (ze_qi (fun r w' => tf r (∀ i, i < P → ar 7 i < ar 2 c) ∧ w' = w)) 0 0) = Z
  have loop : ∀ (d i : Nat) (f : Int), i + d = P → tf f (∀ q, q < i → ar 7 q < ar 2 c) → ze_V G l (ze_rm 0 0 0) M8_fits Z 4 [(0, .ref m), (1, ze_i ((c : Nat))), (2, ze_i (f)), (3, ze_i ((i : Nat)))] [] w 0 0 := by
    intro d
    induction d with
    | zero =>
      intro i f hi hf
      have hin : i = P := by omega
      rw [hin] at hf
      rw [← hQ]
      refine ze_iload_n dX8_fits_4 rfl ?_
      refine ze_aload_n dX8_fits_5 rfl ?_
      refine ze_getf dX8_fits_6 fl_X8_126 (ms_o hM) rfl ?_
      refine ze_icmp_ge 43 dX8_fits_9 (by decide) (by omega) (by omega) (fun q1 => ?_) (fun q1 => ?_)
      · refine ze_iload_n dX8_fits_43 rfl ?_
        exact ze_zreturn rfl dX8_fits_44 (by unfold tf at hf; omega) ⟨_, rfl, hf, rfl⟩ rfl rfl
      · omega
    | succ d ih =>
      intro i f hi hf
      have hri := hr i (by omega)
      refine ze_iload_n dX8_fits_4 rfl ?_
      refine ze_aload_n dX8_fits_5 rfl ?_
      refine ze_getf dX8_fits_6 fl_X8_126 (ms_o hM) rfl ?_
      refine ze_icmp_ge 43 dX8_fits_9 (by decide) (by omega) (by omega) (fun q1 => ?_) (fun q1 => ?_)
      · omega
      · refine ze_iload_n dX8_fits_12 rfl ?_
        refine ze_if_eq 35 dX8_fits_13 (by decide) (tf_rng hf) (fun q2 => ?_) (fun q2 => ?_)
        · refine ze_iconst dX8_fits_35 ?_
          refine ze_istore_n (lv' := [(0, .ref m), (1, ze_i ((c : Nat))), (2, ze_i (0)), (3, ze_i ((i : Nat)))]) dX8_fits_36 rfl rfl ?_
          refine ze_iinc (b := ((i + 1 : Nat))) (lv' := [(0, .ref m), (1, ze_i ((c : Nat))), (2, ze_i (0)), (3, ze_i (((i + 1 : Nat))))]) dX8_fits_37 rfl rfl (by omega) rfl ?_
          refine ze_goto 4 dX8_fits_40 (by decide) ?_
          exact ih (i + 1) 0 (by omega) (Or.inr ⟨rfl, fun h => tf_z hf q2 (fun q hq => h q (by omega))⟩)
        · refine ze_aload_n dX8_fits_16 rfl ?_
          refine ze_getf dX8_fits_17 fl_X8_28 (ms_o hM) rfl ?_
          refine ze_iload_n dX8_fits_20 rfl ?_
          refine ze_iald (j := i) dX8_fits_21 (show w.2 (m + 7) = some (ze_ia G 60 (ar 7)) from ms_i hM 7 (by decide)) (by omega) (by omega) (by omega) ?_
          refine ze_aload_n dX8_fits_22 rfl ?_
          refine ze_getf dX8_fits_23 fl_X8_13 (ms_o hM) rfl ?_
          refine ze_iload_n dX8_fits_26 rfl ?_
          refine ze_iald (j := c) dX8_fits_27 (show w.2 (m + 2) = some (ze_ia G 6 (ar 2)) from ms_i hM 2 (by decide)) (by omega) (by omega) (by omega) ?_
          refine ze_icmp_ge 35 dX8_fits_28 (by decide) (by omega) (by omega) (fun q3 => ?_) (fun q3 => ?_)
          · refine ze_iconst dX8_fits_35 ?_
            refine ze_istore_n (lv' := [(0, .ref m), (1, ze_i ((c : Nat))), (2, ze_i (0)), (3, ze_i ((i : Nat)))]) dX8_fits_36 rfl rfl ?_
            refine ze_iinc (b := ((i + 1 : Nat))) (lv' := [(0, .ref m), (1, ze_i ((c : Nat))), (2, ze_i (0)), (3, ze_i (((i + 1 : Nat))))]) dX8_fits_37 rfl rfl (by omega) rfl ?_
            refine ze_goto 4 dX8_fits_40 (by decide) ?_
            exact ih (i + 1) 0 (by omega) (Or.inr ⟨rfl, fun h => by have := h i (by omega); omega⟩)
          · refine ze_iconst dX8_fits_31 ?_
            refine ze_goto 36 dX8_fits_32 (by decide) ?_
            refine ze_istore_n (lv' := [(0, .ref m), (1, ze_i ((c : Nat))), (2, ze_i (1)), (3, ze_i ((i : Nat)))]) dX8_fits_36 rfl rfl ?_
            refine ze_iinc (b := ((i + 1 : Nat))) (lv' := [(0, .ref m), (1, ze_i ((c : Nat))), (2, ze_i (1)), (3, ze_i (((i + 1 : Nat))))]) dX8_fits_37 rfl rfl (by omega) rfl ?_
            refine ze_goto 4 dX8_fits_40 (by decide) ?_
            exact ih (i + 1) 1 (by omega) (Or.inl ⟨rfl, fun q hq => by
              by_cases h : q = i
              · rw [h]; omega
              · exact tf_n hf q2 q (by omega)⟩)
  change ze_V G l (ze_rm 0 0 0) M8_fits Z 0 [(0, .ref m), (1, ze_i ((c : Nat)))] [] w 0 0
  refine ze_iconst dX8_fits_0 ?_
  refine ze_istore_n (lv' := [(0, .ref m), (1, ze_i ((c : Nat))), (2, ze_i (1))]) dX8_fits_1 rfl rfl ?_
  refine ze_iconst dX8_fits_2 ?_
  refine ze_ti (b := ((0 : Nat) : Nat)) rfl ?_
  refine ze_istore_n (lv' := [(0, .ref m), (1, ze_i ((c : Nat))), (2, ze_i (1)), (3, ze_i (((0 : Nat) : Nat)))]) dX8_fits_3 rfl rfl ?_
  exact loop P 0 1 (by omega) (Or.inl ⟨rfl, fun q hq => by omega⟩)
/-- why a row is refused -/
def rfs (ar : Nat → Nat → Int) (P c : Nat) (r : Int) : Prop := (P = 0 ∧ r = -2) ∨ (P ≠ 0 ∧ ¬ snd ar c ∧ r = -3) ∨ (P ≠ 0 ∧ snd ar c ∧ ¬ (∀ i, i < P → ar 7 i < ar 2 c) ∧ r = -4) ∨ (P ≠ 0 ∧ snd ar c ∧ (∀ i, i < P → ar 7 i < ar 2 c) ∧ r = 0)
theorem rfs_rng {ar : Nat → Nat → Int} {P c : Nat} {r : Int} (h : rfs ar P c r) : -2147483648 ≤ r ∧ r < 2147483648 := by
  unfold rfs at h
  rcases h with h | h | h | h <;> omega
theorem C8_refusal {G : ze_G} {l : Launch} {w0 w : ze_W} {m C P F : Nat} {ar : Nat → Nat → Int} {bz : Nat → Int} (hM : mst G w0 w m C P F ar bz) {c : Nat} (hc : c < C) (hG : mgd C P F ar) : ze_C G l 2 0 0 M8_refusal [.ref m, ze_i (c : Nat)] w (ze_qi (fun r w' => rfs ar P c r ∧ w' = w)) := by
  have hG1 := hG.1
  have hK := hG.2.1 c hc
  refine ze_enter (by decide +kernel) rfl ?_
  change ze_V G l (ze_rm 2 0 0) M8_refusal _ 0 [(0, .ref m), (1, ze_i ((c : Nat)))] [] w 0 0
  refine ze_aload_n dX8_refusal_0 rfl ?_
  refine ze_getf dX8_refusal_1 fl_X8_126 (ms_o hM) rfl ?_
  refine ze_if_ne 12 dX8_refusal_4 (by decide) (by omega) (fun q1 => ?_) (fun q1 => ?_)
  · refine ze_aload_n dX8_refusal_12 rfl ?_
    refine ze_iload_n dX8_refusal_13 rfl ?_
    refine ze_callV (As := [ze_i ((c : Nat))]) (rest := []) dX8_refusal_14 (C8_isSound hM (by omega) hK) mo8_isSound ml_X8_123 in_8_isSound se_8_isSound (ms_o hM) rfl rfl rfl rfl rfl ⟨Nat.le_refl _, Nat.le_refl _⟩ rfl (Nat.le_of_ble_eq_true rfl) ?_
    rintro _ w' ⟨rs, rfl, hrs, rfl⟩
    change ze_V G l (ze_rm 2 0 0) M8_refusal _ 17 [(0, .ref m), (1, ze_i ((c : Nat)))] [ze_i (rs)] w' 0 0
    refine ze_if_ne 25 dX8_refusal_17 (by decide) (tf_rng hrs) (fun q2 => ?_) (fun q2 => ?_)
    · refine ze_aload_n dX8_refusal_25 rfl ?_
      refine ze_iload_n dX8_refusal_26 rfl ?_
      refine ze_callV (As := [ze_i ((c : Nat))]) (rest := []) dX8_refusal_27 (C8_fits hM (by omega) hK (by omega) hG.2.2.1) mo8_fits ml_X8_129 in_8_fits se_8_fits (ms_o hM) rfl rfl rfl rfl rfl ⟨Nat.le_refl _, Nat.le_refl _⟩ rfl (Nat.le_of_ble_eq_true rfl) ?_
      rintro _ w' ⟨rf, rfl, hrf, rfl⟩
      change ze_V G l (ze_rm 2 0 0) M8_refusal _ 30 [(0, .ref m), (1, ze_i ((c : Nat)))] [ze_i (rf)] w' 0 0
      refine ze_if_ne 38 dX8_refusal_30 (by decide) (tf_rng hrf) (fun q3 => ?_) (fun q3 => ?_)
      · refine ze_iconst dX8_refusal_38 ?_
        exact ze_ireturn rfl dX8_refusal_39 ⟨_, rfl, Or.inr (Or.inr (Or.inr ⟨by omega, tf_n hrs q2, tf_n hrf q3, rfl⟩)), rfl⟩ rfl rfl
      · refine ze_bipush dX8_refusal_33 (by decide) ?_
        refine ze_goto 39 dX8_refusal_35 (by decide) ?_
        exact ze_ireturn rfl dX8_refusal_39 ⟨_, rfl, Or.inr (Or.inr (Or.inl ⟨by omega, tf_n hrs q2, tf_z hrf q3, rfl⟩)), rfl⟩ rfl rfl
    · refine ze_bipush dX8_refusal_20 (by decide) ?_
      refine ze_goto 39 dX8_refusal_22 (by decide) ?_
      exact ze_ireturn rfl dX8_refusal_39 ⟨_, rfl, Or.inr (Or.inl ⟨by omega, tf_z hrs q2, rfl⟩), rfl⟩ rfl rfl
  · refine ze_bipush dX8_refusal_7 (by decide) ?_
    refine ze_goto 39 dX8_refusal_9 (by decide) ?_
    exact ze_ireturn rfl dX8_refusal_39 ⟨_, rfl, Or.inl ⟨by omega, rfl⟩, rfl⟩ rfl rfl
theorem C8_sound {G : ze_G} {l : Launch} {w0 w : ze_W} {m C P F : Nat} {ar : Nat → Nat → Int} {bz : Nat → Int} (hM : mst G w0 w m C P F ar bz) {c : Int} (r_c : -2147483648 ≤ c ∧ c < 2147483648) (hG : mgd C P F ar) : ze_C G l 2 0 0 M8_sound [.ref m, ze_i c] w (ze_qi (fun r w' => (((0 ≤ c ∧ c < (C : Int)) ∧ tf r (snd ar c.toNat)) ∨ (¬ (0 ≤ c ∧ c < (C : Int)) ∧ r = -1)) ∧ w' = w)) := by
  have hG1 := hG.1
  refine ze_enter (by decide +kernel) rfl ?_
  change ze_V G l (ze_rm 2 0 0) M8_sound _ 0 [(0, .ref m), (1, ze_i (c))] [] w 0 0
  refine ze_aload_n dX8_sound_0 rfl ?_
  refine ze_iload_n dX8_sound_1 rfl ?_
  refine ze_callV (As := [ze_i (c)]) (rest := []) dX8_sound_2 (C8_is hM r_c hG.1.1) mo8_is ml_X8_105 in_8_is se_8_is (ms_o hM) rfl rfl rfl rfl rfl ⟨Nat.le_refl _, Nat.le_refl _⟩ rfl (Nat.le_of_ble_eq_true rfl) ?_
  rintro _ w' ⟨r1, rfl, rfl, rfl⟩
  change ze_V G l (ze_rm 2 0 0) M8_sound _ 5 [(0, .ref m), (1, ze_i (c))] [ze_i (bi (0 ≤ c ∧ c < (C : Int)))] w' 0 0
  refine ze_if_eq 24 dX8_sound_5 (by decide) (bi_rng _) (fun q1 => ?_) (fun q1 => ?_)
  · rw [bi_z] at q1
    refine ze_iconst dX8_sound_24 ?_
    exact ze_ireturn rfl dX8_sound_25 ⟨_, rfl, Or.inr ⟨q1, rfl⟩, rfl⟩ rfl rfl
  · rw [bi_n] at q1
    obtain ⟨c, rfl⟩ := Int.eq_ofNat_of_zero_le q1.1
    have hK := hG.2.1 c (by omega)
    change ze_V G l (ze_rm 2 0 0) M8_sound _ 8 [(0, .ref m), (1, ze_i ((c : Nat)))] [] w' 0 0
    refine ze_aload_n dX8_sound_8 rfl ?_
    refine ze_iload_n dX8_sound_9 rfl ?_
    refine ze_callV (As := [ze_i ((c : Nat))]) (rest := []) dX8_sound_10 (C8_isSound hM (by omega) hK) mo8_isSound ml_X8_123 in_8_isSound se_8_isSound (ms_o hM) rfl rfl rfl rfl rfl ⟨Nat.le_refl _, Nat.le_refl _⟩ rfl (Nat.le_of_ble_eq_true rfl) ?_
    rintro _ w' ⟨rs, rfl, hrs, rfl⟩
    change ze_V G l (ze_rm 2 0 0) M8_sound _ 13 [(0, .ref m), (1, ze_i ((c : Nat)))] [ze_i (rs)] w' 0 0
    refine ze_if_eq 20 dX8_sound_13 (by decide) (tf_rng hrs) (fun q2 => ?_) (fun q2 => ?_)
    · refine ze_iconst dX8_sound_20 ?_
      refine ze_goto 25 dX8_sound_21 (by decide) ?_
      exact ze_ireturn rfl dX8_sound_25 ⟨_, rfl, Or.inl ⟨q1, Or.inr ⟨rfl, tf_z hrs q2⟩⟩, rfl⟩ rfl rfl
    · refine ze_iconst dX8_sound_16 ?_
      refine ze_goto 25 dX8_sound_17 (by decide) ?_
      exact ze_ireturn rfl dX8_sound_25 ⟨_, rfl, Or.inl ⟨q1, Or.inl ⟨rfl, tf_n hrs q2⟩⟩, rfl⟩ rfl rfl
