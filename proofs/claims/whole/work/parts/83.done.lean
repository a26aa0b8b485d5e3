/-! ## One column: how far the parts of the rows that are done go -/
/-- how often the new row is taken off: x parts of its own there, s from the heads ahead -/
theorem q_le {x y D s : Int} (hy : 0 < y) (hD : 0 < D) : (flz (x * D + s) (y * D)).natAbs * D.natAbs ≤ x.natAbs * D.natAbs + s.natAbs + D.natAbs := by
  have hyD : 0 < y * D := Int.mul_pos hy hD
  obtain ⟨h1, h2⟩ := @flz_b (x * D + s) (y * D) hyD
  generalize flz (x * D + s) (y * D) = q at *
  have e : x.natAbs * D.natAbs = (x * D).natAbs := (Int.natAbs_mul x D).symm
  rw [e]
  have hle : D ≤ y * D := by
    have := Int.mul_le_mul_of_nonneg_right (show 1 ≤ y by omega) (Int.le_of_lt hD)
    omega
  rcases Int.lt_or_le q 0 with z | z
  · -- q < 0: (-q - 1) * (y * D) < -(x * D + s)
    have k1 : (-q - 1) * (y * D) ≤ -(x * D + s) := by grind
    have k2 : (-q - 1) * D ≤ (-q - 1) * (y * D) := Int.mul_le_mul_of_nonneg_left hle (by omega)
    have k3 : q.natAbs * D.natAbs = (-q * D).natAbs := by rw [Int.natAbs_mul, Int.natAbs_neg]
    have k4 : (-q - 1) * D = -q * D - D := by grind
    have k5 : 0 ≤ -q * D := Int.mul_nonneg (by omega) (by omega)
    rw [k3]
    omega
  · have k1 : q * (y * D) ≤ x * D + s := by omega
    have k2 : q * D ≤ q * (y * D) := Int.mul_le_mul_of_nonneg_left hle z
    have k3 : q.natAbs * D.natAbs = (q * D).natAbs := (Int.natAbs_mul q D).symm
    have k5 : 0 ≤ q * D := Int.mul_nonneg z (by omega)
    rw [k3]
    omega
/-- a part of a done row after the step -/
theorem p_le {x y D s u v : Int} {M : Nat} (hy : 0 < y) (hD : 0 < D) (hv : v.natAbs ≤ M) : (u - flz (x * D + s) (y * D) * v).natAbs * D.natAbs ≤ u.natAbs * D.natAbs + (x.natAbs * D.natAbs + s.natAbs + D.natAbs) * M := by
  have h := @q_le x y D s hy hD
  generalize flz (x * D + s) (y * D) = q at *
  have h1 : (u - q * v).natAbs ≤ u.natAbs + q.natAbs * M := by
    have : (q * v).natAbs ≤ q.natAbs * M := by
      rw [Int.natAbs_mul]
      exact Nat.mul_le_mul_left _ hv
    omega
  refine Nat.le_trans (Nat.mul_le_mul_right _ h1) ?_
  rw [Nat.add_mul, Nat.mul_right_comm]
  exact Nat.add_le_add_left (Nat.mul_le_mul_right _ h) _
/-- the part at the head itself is small after the step -/
theorem p_at {x y D s : Int} (hy : 0 < y) (hD : 0 < D) : (x - flz (x * D + s) (y * D) * y).natAbs * D.natAbs ≤ y.natAbs * D.natAbs + s.natAbs := by
  have hyD : 0 < y * D := Int.mul_pos hy hD
  obtain ⟨h1, h2⟩ := @flz_b (x * D + s) (y * D) hyD
  generalize flz (x * D + s) (y * D) = q at *
  rw [← Int.natAbs_mul, ← Int.natAbs_mul, show (x - q * y) * D = x * D + s - q * (y * D) - s by grind]
  omega
/-- what the heads ahead give in column j: each part less than the head so often -/
theorem s_le {x : Nat → Int} {H : Nat → Nat → Int} {j X : Nat} {D : Int} : ∀ {n : Nat}, (∀ b, b < n → 0 ≤ H b j ∧ H b j < D) → (∀ b, b < n → (x b).natAbs ≤ X) → (ls x H n j).natAbs ≤ n * (X * (D.natAbs - 1))
  | 0, _, _ => by
    show (0 : Int).natAbs ≤ _
    omega
  | n + 1, h, hx => by
    have ih := s_le (n := n) (fun b hb => h b (by omega)) (fun b hb => hx b (by omega))
    have h1 := h n (by omega)
    have h2 := hx n (by omega)
    have h3 : (x n * H n j).natAbs ≤ X * (D.natAbs - 1) := by
      rw [Int.natAbs_mul]
      exact Nat.mul_le_mul h2 (by omega)
    have e : (n + 1) * (X * (D.natAbs - 1)) = n * (X * (D.natAbs - 1)) + X * (D.natAbs - 1) := by rw [Nat.add_mul, Nat.one_mul]
    rw [e]
    show (ls x H n j + x n * H n j).natAbs ≤ _
    omega
/-- column j of a row over the rows H, where b is the part with its head there -/
theorem Gh_col {N j b : Nat} {H : Nat → Nat → Int} {hH : Nat → Nat} {x : Nat → Int} (hh : Hnf N H hH) (hx : Gh N H x) (hb : b < N) (e : hH b = j) : x j = x (6 + b) * H b j + ls (fun b => x (6 + b)) H b j := by
  have hj : j < 6 := by
    have := (hh.1 b hb).1
    omega
  rw [hx j hj]
  have key : ∀ n, b + 1 + n ≤ N → ls (fun b => x (6 + b)) H (b + 1 + n) j = ls (fun b => x (6 + b)) H (b + 1) j := by
    intro n
    induction n with
    | zero => intro _; rfl
    | succ n ih =>
      intro hn
      show ls (fun b => x (6 + b)) H (b + 1 + n) j + x (6 + (b + 1 + n)) * H (b + 1 + n) j = _
      have := hh.2.1 b (b + 1 + n) (by omega) (by omega)
      rw [ih (by omega), (hh.1 (b + 1 + n) (by omega)).2.2 j (by omega), Int.mul_zero, Int.add_zero]
  have := key (N - (b + 1)) (by omega)
  rw [show b + 1 + (N - (b + 1)) = N by omega] at this
  rw [this]
  show ls (fun b => x (6 + b)) H b j + x (6 + b) * H b j = _
  omega
