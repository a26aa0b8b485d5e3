/-! ## orders: the plain bound of a column's gather -/
theorem min_2 {a b c d : Int} {M : Nat} (ha : a.natAbs ≤ M) (hb : b.natAbs ≤ M) (hc : c.natAbs ≤ M) (hd : d.natAbs ≤ M) : (a * b - c * d).natAbs ≤ 2 * (M * M) := by
  have h1 := na_gg ha hb
  have h2 := na_gg hc hd
  omega
theorem gh_crude {N j d f g M : Nat} {H R R1 : Nat → Nat → Int} {hH : Nat → Nat} {o1 : Nat → Int} (hM : 1 ≤ M) (hh : Hnf N H hH) (hj : j < 6) (gh : ∀ i, d ≤ i → i < f → Gh N H (R i)) (hz : ∀ i, d ≤ i → i < f → ∀ c, c < j → R i c = 0) (h1 : ∀ i b, d ≤ i → i < f → b < N → (R i (6 + b)).natAbs ≤ M) (hdf : d < f) (q : gaZ g R (fun i => R i j) d (f - d) = some (true, R1, o1)) : ∃ a, a < N ∧ hH a = j ∧ (∀ i, d ≤ i → i < f → R1 i j = R1 i (6 + a) * H a j) ∧ ∀ i b, d ≤ i → i < f → b < N → (R1 i (6 + b)).natAbs ≤ 2 * (M * M) := by
  have hMM : M ≤ 2 * (M * M) := by
    have := Nat.le_mul_of_pos_left M hM
    omega
  exact gh_step hh (by omega) hj gh hz (fun i b i1 i2 hb => Nat.le_trans (h1 i b i1 i2 hb) hMM) (fun i k a b i1 i2 k1 k2 ha hb => min_2 (h1 i a i1 i2 ha) (h1 k b k1 k2 hb) (h1 k a k1 k2 ha) (h1 i b i1 i2 hb)) hdf q
/-- one row left: nothing is taken off it -/
theorem gh_one {d g c : Nat} {R R1 : Nat → Nat → Int} {o o1 : Nat → Int} {b : Bool} (q : gaZ g R o d 1 = some (b, R1, o1)) : R1 d c = R d c := by
  refine gaZ_inv (n := 1) (fun S (_ : Nat → Int) => S d c = R d c) ?_ ?_ g rfl q
  · intro S o r h1 h2 h
    rw [show r = d by omega, zsw_f]
    exact h
  · intro S o _ _ _ h
    rw [zR_f]
    exact h
