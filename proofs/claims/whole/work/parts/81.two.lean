/-! ## Where two rows are left: their 2-minors divide those of any two of their lattice -/
theorem wedge_le {N : Nat} {x y a b : Nat → Int} {t1 t2 u1 u2 : Int} (ha : ∀ c, c < N → a c = t1 * x c + t2 * y c) (hb : ∀ c, c < N → b c = u1 * x c + u2 * y c) (n0 : ∃ c d, c < N ∧ d < N ∧ a c * b d - a d * b c ≠ 0) : ∀ c d, c < N → d < N → (x c * y d - x d * y c).natAbs ≤ (a c * b d - a d * b c).natAbs := by
  have key : ∀ c d, c < N → d < N → a c * b d - a d * b c = (t1 * u2 - t2 * u1) * (x c * y d - x d * y c) := fun c d hc hd => by
    rw [ha c hc, ha d hd, hb c hc, hb d hd]
    grind
  have nz : t1 * u2 - t2 * u1 ≠ 0 := fun z => by
    obtain ⟨c, d, hc, hd, h⟩ := n0
    rw [key c d hc hd, z, Int.zero_mul] at h
    exact h rfl
  intro c d hc hd
  rw [key c d hc hd, Int.natAbs_mul]
  exact Nat.le_mul_of_pos_left _ (by omega)
/-- what is nothing ahead of j and in the lattice needs no done row -/
theorem Ech_t {f j d : Nat} {R : Nat → Nat → Int} {h : Nat → Nat} {t : Nat → Int} (E : Ech f j d R h) (hd : d ≤ f) (hz : ∀ c, c < j → c < 6 → ls t R f c = 0) : ∀ n i, i < n → i < d → t i = 0
  | 0, i, hi, _ => by omega
  | n + 1, i, hi, hid => by
    have ih : ∀ e, e < i → t e = 0 := fun e he => Ech_t E hd hz n e (by omega) (by omega)
    have H1 := E.1.1 i hid
    have h2 := E.2.1 i hid
    have e := hz (h i) h2 H1.1
    rw [ls_one (k := i) (by omega) (fun k hk hn => by
      rcases Nat.lt_or_ge k i with z | z
      · rw [ih k z, Int.zero_mul]
      · rcases Nat.lt_or_ge k d with y | y
        · rw [(E.1.1 k y).2.2 (h i) (E.1.2.1 i k (by omega) y), Int.mul_zero]
        · rw [E.2.2 k y hk (h i) h2, Int.mul_zero])] at e
    rcases Int.mul_eq_zero.mp e with z | z
    · exact z
    · omega
theorem two_span {N f j d : Nat} {H R : Nat → Nat → Int} {hH h : Nat → Nat} {v : Nat → Int} (hh : Hnf N H hH) (E : Ech f j d R h) (hf : f = d + 2) (gh : ∀ i, d ≤ i → i < f → Gh N H (R i)) (hv : Gh N H v) (hs : Sp f R v) (hz : ∀ c, c < j → c < 6 → v c = 0) : ∃ t u : Int, ∀ b, b < N → v (6 + b) = t * R d (6 + b) + u * R (d + 1) (6 + b) := by
  obtain ⟨t, ht⟩ := hs
  have t0 := Ech_t E (by omega) (t := t) (fun c hc h6 => by rw [← ht c h6]; exact hz c hc h6)
  refine ⟨t d, t (d + 1), fun b hb => ?_⟩
  have g1 : Gh N H (fun c => v c - t d * R d c) := Gh_lin v (R d) (t d) hv (gh d (Nat.le_refl _) (by omega))
  have g2 : Gh N H (fun c => v c - t d * R d c - t (d + 1) * R (d + 1) c) := Gh_lin _ (R (d + 1)) (t (d + 1)) g1 (gh (d + 1) (by omega) (by omega))
  have z2 : ∀ c, c < 6 → v c - t d * R d c - t (d + 1) * R (d + 1) c = 0 := fun c hc => by
    rw [ht c hc]
    subst hf
    show ls t R d c + t d * R d c + t (d + 1) * R (d + 1) c - t d * R d c - t (d + 1) * R (d + 1) c = 0
    rw [ls_z (fun i hi => by rw [t0 d i hi hi, Int.zero_mul])]
    omega
  have := Gh_lo hh g2 z2 N b hb hb (hh.1 b hb).1
  omega
/-- so two vectors of the lattice that are apart bound the 2-minors of the two rows -/
theorem two_wedge {N f j d M : Nat} {H R : Nat → Nat → Int} {hH h : Nat → Nat} {v w : Nat → Int} (hh : Hnf N H hH) (E : Ech f j d R h) (hf : f = d + 2) (gh : ∀ i, d ≤ i → i < f → Gh N H (R i)) (hv : Gh N H v) (sv : Sp f R v) (zv : ∀ c, c < j → c < 6 → v c = 0) (hw : Gh N H w) (sw : Sp f R w) (zw : ∀ c, c < j → c < 6 → w c = 0) (n0 : ∃ c e, c < N ∧ e < N ∧ v (6 + c) * w (6 + e) - v (6 + e) * w (6 + c) ≠ 0) (hM : ∀ c e, c < N → e < N → (v (6 + c) * w (6 + e) - v (6 + e) * w (6 + c)).natAbs ≤ M) : ∀ i k a b, d ≤ i → i < f → d ≤ k → k < f → a < N → b < N → (R i (6 + a) * R k (6 + b) - R k (6 + a) * R i (6 + b)).natAbs ≤ M := by
  obtain ⟨t1, t2, ht⟩ := two_span hh E hf gh hv sv zv
  obtain ⟨u1, u2, hu⟩ := two_span hh E hf gh hw sw zw
  have key := wedge_le (N := N) (x := fun b => R d (6 + b)) (y := fun b => R (d + 1) (6 + b)) (a := fun b => v (6 + b)) (b := fun b => w (6 + b)) ht hu n0
  have k1 : ∀ a b, a < N → b < N → (R d (6 + a) * R (d + 1) (6 + b) - R d (6 + b) * R (d + 1) (6 + a)).natAbs ≤ M := fun a b ha hb => Nat.le_trans (key a b ha hb) (hM a b ha hb)
  intro i k a b i1 i2 k1' k2 ha hb
  by_cases ei : i = d
  · by_cases ek : k = d
    · rw [ei, ek, Int.sub_self]
      exact Nat.zero_le _
    · rw [ei, show k = d + 1 by omega, Int.mul_comm (R (d + 1) (6 + a))]
      exact k1 a b ha hb
  · rw [show i = d + 1 by omega]
    by_cases ek : k = d
    · rw [ek, Int.mul_comm (R (d + 1) (6 + a))]
      exact k1 b a hb ha
    · rw [show k = d + 1 by omega, Int.sub_self]
      exact Nat.zero_le _
