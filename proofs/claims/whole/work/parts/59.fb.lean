/-! the chance of a row: ahead and behind give the same -/
theorem sm_mulr {n : Nat} {f : Nat → Nat} (a : Nat) : sm n (fun j => f j * a) = sm n f * a := by
  induction n with
  | zero => exact (Nat.zero_mul a).symm
  | succ n ih => rw [sm_s, sm_s, ih, Nat.add_mul]
theorem fb_step {ar : Nat → Nat → Int} {c L i : Nat} (hi : i + 1 < L) : sm (cn ar c) (fun s => fk ar c (i + 1) s * bk ar c L (L - 1 - (i + 1)) s) = sm (cn ar c) (fun s => fk ar c i s * bk ar c L (L - 1 - i) s) := by
  obtain ⟨d, hd⟩ : ∃ d, d = L - 1 - (i + 1) := ⟨_, rfl⟩
  have hd2 : L - 1 - i = d + 1 := by omega
  rw [← hd, hd2]
  have e1 : sm (cn ar c) (fun s => fk ar c (i + 1) s * bk ar c L d s) = sm (cn ar c) (fun s => sm (cn ar c) (fun t => fk ar c i t * (bk ar c L d s * (cg ar c t s * ce ar c s (i + 1))))) := by
    apply sm_congr
    intro s _
    show sm (cn ar c) (fun t => fk ar c i t * (cg ar c t s * ce ar c s (i + 1))) * bk ar c L d s = _
    rw [← sm_mulr]
    apply sm_congr
    intro t _
    rw [Nat.mul_assoc, Nat.mul_comm (cg ar c t s * ce ar c s (i + 1))]
  have e2 : sm (cn ar c) (fun t => fk ar c i t * bk ar c L (d + 1) t) = sm (cn ar c) (fun t => sm (cn ar c) (fun s => fk ar c i t * (bk ar c L d s * (cg ar c t s * ce ar c s (i + 1))))) := by
    apply sm_congr
    intro t _
    show fk ar c i t * sm (cn ar c) (fun s => bk ar c L d s * (cg ar c t s * ce ar c s (L - 1 - d))) = _
    rw [show L - 1 - d = i + 1 by omega, sm_mul]
  rw [e1, e2, sm_swap]
theorem fb_sum {ar : Nat → Nat → Int} {c L : Nat} (i : Nat) (hi : i < L) : sm (cn ar c) (fun s => fk ar c i s * bk ar c L (L - 1 - i) s) = chn ar c L := by
  induction i with
  | zero =>
    unfold chn
    rw [Nat.sub_zero]
    apply sm_congr
    intro s _
    show cb ar c s * ce ar c s 0 * bk ar c L (L - 1) s = _
    rw [Nat.mul_comm]
  | succ i ih => rw [fb_step hi, ih (by omega)]
/-- the sum of the last chances ahead is the row's chance -/
theorem fb_end {ar : Nat → Nat → Int} {c L : Nat} (hL : 0 < L) : sm (cn ar c) (fk ar c (L - 1)) = chn ar c L := by
  rw [← fb_sum (L - 1) (show L - 1 < L by omega), Nat.sub_self]
  apply sm_congr
  intro s _
  show _ = fk ar c (L - 1) s * 1
  rw [Nat.mul_one]
