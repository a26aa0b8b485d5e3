/-! ## To and fro: the row left has no gain, the step has the common one -/
theorem dvZ_K {r q : Nat → Int} {g v : Int} {c : Nat} (hg : rg g) : ((dvZ 200 r q g v).2.2 * (dvZ 200 r q g v).1 c).natAbs = (g * q c - v * r c).natAbs := by
  have := dvZ_200 (fun r2 q2 g2 v2 => (g2 * q2 c - v2 * r2 c).natAbs = (g * q c - v * r c).natAbs) (fun r2 q2 g2 v2 _ h => by
    rw [show (v2 - v2.tdiv g2 * g2) * r2 c - g2 * (q2 c - v2.tdiv g2 * r2 c) = -(g2 * q2 c - v2 * r2 c) by grind, Int.natAbs_neg]
    exact h) hg rfl
  rw [← this, Int.zero_mul, Int.zero_sub, Int.natAbs_neg]
theorem dvZ_g {r q : Nat → Int} {g v : Int} (hg : rg g) : (dvZ 200 r q g v).2.2.natAbs = Nat.gcd g.natAbs v.natAbs := by
  have := dvZ_200 (r := r) (q := q) (fun _ _ g2 v2 => Nat.gcd g2.natAbs v2.natAbs = Nat.gcd g.natAbs v.natAbs) (fun _ _ g2 v2 _ h => by
    rw [td_na, ← Nat.gcd_rec]
    exact h) hg rfl
  rw [← this]
  exact (Nat.gcd_zero_left _).symm
/-- any sum p of the row is its gain: so it is nothing, and the step's is v -/
theorem dvZ_p {p r q : Nat → Int} {g v : Int} (hg : rg g) (h1 : dtZ p r 6 = g) (h2 : dtZ p q 6 = v) : dtZ p (dvZ 200 r q g v).1 6 = 0 ∧ dtZ p (dvZ 200 r q g v).2.1 6 = (dvZ 200 r q g v).2.2 := dvZ_200 (fun r2 q2 g2 v2 => dtZ p r2 6 = g2 ∧ dtZ p q2 6 = v2) (fun r2 q2 g2 v2 _ h => by
    refine ⟨?_, h.1⟩
    rw [dtZ_lin, h.1, h.2]) hg ⟨h1, h2⟩
/-- what is linear stays in both -/
theorem dvZ_lin {r q : Nat → Int} {g v : Int} (P : (Nat → Int) → Prop) (hP : ∀ (x y : Nat → Int) (a : Int), P x → P y → P (fun c => x c - a * y c)) (hg : rg g) (h1 : P r) (h2 : P q) : P (dvZ 200 r q g v).1 ∧ P (dvZ 200 r q g v).2.1 := dvZ_200 (fun r2 q2 _ _ => P r2 ∧ P q2) (fun r2 q2 g2 v2 _ h => ⟨hP _ _ _ h.2 h.1, h.1⟩) hg ⟨h1, h2⟩
/-- and both are made of what comes out -/
theorem dvZ_back {r q : Nat → Int} {g v : Int} (hg : rg g) : ∀ P : (Nat → Int) → Prop, (∀ (x y : Nat → Int) (a : Int), P x → P y → P (fun c => x c - a * y c)) → P (dvZ 200 r q g v).1 → P (dvZ 200 r q g v).2.1 → P r ∧ P q :=
  dvZ_200 (fun r2 q2 _ _ => ∀ P : (Nat → Int) → Prop, (∀ (x y : Nat → Int) (a : Int), P x → P y → P (fun c => x c - a * y c)) → P r2 → P q2 → P r ∧ P q) (fun r2 q2 g2 v2 _ h P hP p1 p2 => by
    refine h P hP p2 ?_
    have := hP _ r2 (-(v2.tdiv g2)) p1 p2
    rw [show (fun c => (fun c => q2 c - v2.tdiv g2 * r2 c) c - -(v2.tdiv g2) * r2 c) = q2 from by
      funext c
      show q2 c - v2.tdiv g2 * r2 c - -(v2.tdiv g2) * r2 c = q2 c
      grind] at this
    exact this) hg (fun P _ p1 p2 => ⟨p1, p2⟩)
/-- the head stays where it is -/
theorem dvZ_hd {r q : Nat → Int} {g v : Int} {h : Nat} (hg : rg g) (hv : v ≠ 0) (hz : ∀ c, c < h → r c = 0) (hn : r h ≠ 0) (hq : ∀ c, c ≤ h → q c = 0) : (∀ c, c < h → (dvZ 200 r q g v).1 c = 0) ∧ (dvZ 200 r q g v).1 h ≠ 0 := by
  have n0 : (dvZ 200 r q g v).2.2 ≠ 0 := fun z => by
    have := dvZ_g (r := r) (q := q) (v := v) hg
    rw [z] at this
    have := Nat.eq_zero_of_gcd_eq_zero_right this.symm
    omega
  refine ⟨fun c hc => ?_, fun z => ?_⟩
  · have := dvZ_K (r := r) (q := q) (v := v) (c := c) hg
    rw [hz c hc, hq c (by omega), Int.mul_zero, Int.mul_zero, Int.sub_self, Int.natAbs_zero, Int.natAbs_eq_zero] at this
    rcases Int.mul_eq_zero.mp this with y | y
    · exact absurd y n0
    · exact y
  · have := dvZ_K (r := r) (q := q) (v := v) (c := h) hg
    rw [z, hq h (Nat.le_refl _), Int.mul_zero, Int.mul_zero, Int.zero_sub, Int.natAbs_zero, Int.natAbs_neg] at this
    rcases Int.mul_eq_zero.mp (Int.natAbs_eq_zero.mp this.symm) with y | y
    · exact hv y
    · exact hn y
