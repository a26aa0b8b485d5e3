/-! ## orders: what a done row's column reads -/
/-- column j of a done row, by its part there and those ahead -/
theorem read_le {N j a X Y : Nat} {H R : Nat → Nat → Int} {hH : Nat → Nat} {i : Nat} (hh : Hnf N H hH) (ha : a < N) (ea : hH a = j) (gi : Gh N H (R i)) (hx : (R i (6 + a)).natAbs ≤ X) (hs : (ls (fun b => R i (6 + b)) H a j).natAbs ≤ Y) : (R i j).natAbs ≤ X * (H a j).natAbs + Y := by
  rw [Gh_col hh gi ha ea]
  have h1 : (R i (6 + a) * H a j).natAbs ≤ X * (H a j).natAbs := by
    rw [Int.natAbs_mul]
    exact Nat.mul_le_mul_right _ hx
  omega
