/-! ## weigh on whole numbers: gains and lacks -/
theorem dt_0 {po : Nat → Int32} {r : Nat → Int64} {R : Nat → Int} (h : E1 r R) : r_dot 0 po 0 r 0 6 = zI (dtZ (fun j => (po j).toInt) R 6) := by
  have := dt_N (po := po) (a := 0) (q := 0) (n := 6) (r := r) (R := R) (fun j hj => by rw [Nat.zero_add]; exact h j hj)
  simpa only [Nat.zero_add] using this
theorem wg_gN {po : Nat → Int32} {f : Nat → Nat → Int64} {ga : Nat → Int64} {F : Nat → Nat → Int} {n i : Nat} (hi : i < n) (hf : E1 (f i) (F i)) : wg_g po f ga n i = zI (dtZ (fun j => (po j).toInt) (F i) 6) := by
  unfold wg_g
  rw [if_pos hi]
  exact dt_0 hf
theorem wg_lN {po : Nat → Int32} {lo : Nat → Nat → Int64} {la : Nat → Int64} {X : Nat → Nat → Int} {b : Nat} (hb : b < 4) (hl : E1 (lo b) (X b)) : wg_l po lo la 4 b = zI (-((po (6 + b)).toInt + dtZ (fun j => (po j).toInt) (X b) 6)) := by
  unfold wg_l pw_l
  rw [if_pos hb, dt_0 hl, i_64, zI_add]
  exact (Int64.ofInt_neg _).symm
/-- a gain is bounded by the sayings' and the rows' numbers -/
theorem dtZ_le {p r : Nat → Int} {A B : Nat} : ∀ {n : Nat}, (∀ j, j < n → (p j).natAbs ≤ A) → (∀ j, j < n → (r j).natAbs ≤ B) → (dtZ p r n).natAbs ≤ n * (A * B)
  | 0, _, _ => by
    show (0 : Int).natAbs ≤ _
    omega
  | n + 1, hp, hr => by
    have ih := dtZ_le (n := n) (fun j hj => hp j (by omega)) (fun j hj => hr j (by omega))
    have h1 : (p n * r n).natAbs ≤ A * B := by
      rw [Int.natAbs_mul]
      exact Nat.mul_le_mul (hp n (by omega)) (hr n (by omega))
    rw [Nat.add_mul, Nat.one_mul]
    show (dtZ p r n + p n * r n).natAbs ≤ _
    omega
