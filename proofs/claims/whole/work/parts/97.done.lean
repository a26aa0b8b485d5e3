/-! ## orders: a done row's parts behind a column's step -/
theorem done_step {N j d i a M : Nat} {H R : Nat → Nat → Int} {hH : Nat → Nat} (hh : Hnf N H hH) (ha : a < N) (ea : hH a = j) (gi : Gh N H (R i)) (hid : i < d) (hdj : R d j = R d (6 + a) * H a j) (n0 : R d j ≠ 0) (hM : ∀ b, b < N → (R d (6 + b)).natAbs ≤ M) : (∀ b, b < N → (cZ R j d i (6 + b)).natAbs * (H a j).natAbs ≤ (R i (6 + b)).natAbs * (H a j).natAbs + ((R i (6 + a)).natAbs * (H a j).natAbs + (ls (fun b => R i (6 + b)) H a j).natAbs + (H a j).natAbs) * M) ∧ (cZ R j d i (6 + a)).natAbs * (H a j).natAbs ≤ (R d (6 + a)).natAbs * (H a j).natAbs + (ls (fun b => R i (6 + b)) H a j).natAbs := by
  have hD : 0 < H a j := by
    have := (hh.1 a ha).2.1
    rw [ea] at this
    exact this
  have ec := Gh_col hh gi ha ea
  have ny : R d (6 + a) ≠ 0 := fun z => n0 (by rw [hdj, z, Int.zero_mul])
  have sg : R d j < 0 ↔ R d (6 + a) < 0 := by
    rw [hdj]
    constructor
    · intro q
      refine Classical.byContradiction (fun z => ?_)
      have := Int.mul_nonneg (show 0 ≤ R d (6 + a) by omega) (Int.le_of_lt hD)
      omega
    · intro q
      exact Int.mul_neg_of_neg_of_pos q hD
  by_cases z : R d (6 + a) < 0
  · have e : ∀ c, cZ R j d i c = R i c - flz (R i (6 + a) * H a j + ls (fun b => R i (6 + b)) H a j) (-R d (6 + a) * H a j) * -R d c := fun c => by
      rw [cZ_lo hid, if_pos (sg.mpr z), if_pos (sg.mpr z), ec, hdj, Int.neg_mul]
    refine ⟨fun b hb => ?_, ?_⟩
    · rw [e]
      exact p_le (by omega) hD (by rw [Int.natAbs_neg]; exact hM b hb)
    · rw [e, ← Int.natAbs_neg (R d (6 + a))]
      exact p_at (by omega) hD
  · have e : ∀ c, cZ R j d i c = R i c - flz (R i (6 + a) * H a j + ls (fun b => R i (6 + b)) H a j) (R d (6 + a) * H a j) * R d c := fun c => by
      rw [cZ_lo hid, if_neg (fun q => z (sg.mp q)), if_neg (fun q => z (sg.mp q)), ec, hdj]
    refine ⟨fun b hb => ?_, ?_⟩
    · rw [e]
      exact p_le (by omega) hD (hM b hb)
    · rw [e]
      exact p_at (by omega) hD
