/-! ## One column: how far the parts of the rows that are not done go -/
theorem gzl_cg {o u : Nat → Int} {f : Nat} : ∀ {n : Nat}, (∀ i, f ≤ i → i < f + n → o i = u i) → gzl o f n = gzl u f n
  | 0, _ => rfl
  | n + 1, h => by
    have ih := gzl_cg (n := n) (fun i h1 h2 => h i h1 (by omega))
    have hn := h (f + n) (by omega) (by omega)
    unfold gzl
    rw [ih, hn]
    cases hg : gzl u f n with
    | none => rfl
    | some r =>
      dsimp only
      have hr := gzl_s hg
      rw [h r hr.1 (by omega)]
theorem zm_cg {o u : Nat → Int} {f : Nat} : ∀ {k : Nat}, (∀ i, f < i → i < f + 1 + k → o i = u i) → zm o f k = zm u f k
  | 0, _ => rfl
  | k + 1, h => by
    show (zm o f k || !(decide (o (f + 1 + k) = 0))) = (zm u f k || !(decide (u (f + 1 + k) = 0)))
    rw [zm_cg (fun i h1 h2 => h i h1 (by omega)), h (f + 1 + k) (by omega) (by omega)]
theorem gaZ_cg : ∀ (g : Nat) {f n : Nat} {R R1 : Nat → Nat → Int} {o u o1 : Nat → Int} {b : Bool}, (∀ i, f ≤ i → i < f + n → o i = u i) → gaZ g R o f n = some (b, R1, o1) → ∃ u1 : Nat → Int, gaZ g R u f n = some (b, R1, u1)
  | 0, f, n, R, R1, o, u, o1, b, _, q => by cases q
  | g + 1, f, n, R, R1, o, u, o1, b, h, q => by
    rw [gaZ_1] at q
    rw [gaZ_1, ← gzl_cg h]
    cases hg : gzl o f n with
    | none =>
      rw [hg] at q
      dsimp only at q ⊢
      cases q
      exact ⟨u, rfl⟩
    | some r =>
      rw [hg] at q
      dsimp only at q ⊢
      have hr := gzl_s hg
      have hs : ∀ i, f ≤ i → i < f + n → zsw o f r i = zsw u f r i := fun i i1 i2 => by
        rw [zsw_p, zsw_p]
        have := zp_in hr.1 hr.2.1 i1 i2
        exact h _ this.1 this.2
      have hf := hs f (Nat.le_refl _) (by omega)
      have hO : ∀ i, f ≤ i → i < f + n → zO (zsw o f r) f (n - 1) i = zO (zsw u f r) f (n - 1) i := fun i i1 i2 => by
        unfold zO
        rw [hs i i1 i2, hf]
      have hR : zR (zsw R f r) (zsw o f r) f (n - 1) = zR (zsw R f r) (zsw u f r) f (n - 1) := by
        funext i c
        unfold zR
        by_cases z : f < i ∧ i < f + 1 + (n - 1)
        · rw [if_pos z, if_pos z, hs i (by omega) (by omega), hf]
        · rw [if_neg z, if_neg z]
      have hm : zm (zO (zsw o f r) f (n - 1)) f (n - 1) = zm (zO (zsw u f r) f (n - 1)) f (n - 1) := zm_cg (fun i i1 i2 => hO i (by omega) (by omega))
      rw [hR, hm] at q
      by_cases z : zm (zO (zsw u f r) f (n - 1)) f (n - 1) = true
      · rw [if_pos z] at q ⊢
        exact gaZ_cg g hO q
      · rw [if_neg z] at q ⊢
        cases q
        exact ⟨_, rfl⟩
/-- a gather in column j, of rows over the rows H: 2-minors bound what comes out -/
theorem gh_step {N j d f g M : Nat} {H R R1 : Nat → Nat → Int} {hH : Nat → Nat} {o1 : Nat → Int} (hh : Hnf N H hH) (hd : d ≤ f) (hj : j < 6) (gh : ∀ i, d ≤ i → i < f → Gh N H (R i)) (hz : ∀ i, d ≤ i → i < f → ∀ c, c < j → R i c = 0) (h1 : ∀ i b, d ≤ i → i < f → b < N → (R i (6 + b)).natAbs ≤ M) (h2 : ∀ i k a b, d ≤ i → i < f → d ≤ k → k < f → a < N → b < N → (R i (6 + a) * R k (6 + b) - R k (6 + a) * R i (6 + b)).natAbs ≤ M) (hdf : d < f) (q : gaZ g R (fun i => R i j) d (f - d) = some (true, R1, o1)) : ∃ a, a < N ∧ hH a = j ∧ (∀ i, d ≤ i → i < f → R1 i j = R1 i (6 + a) * H a j) ∧ ∀ i b, d ≤ i → i < f → b < N → (R1 i (6 + b)).natAbs ≤ M := by
  have gh1 : ∀ i, d ≤ i → i < f → Gh N H (R1 i) := fun i i1 i2 => ga_lin (Gh N H) Gh_lin (fun i i1 i2 => gh i i1 (by omega)) q i i1 (by omega)
  have hz1 : ∀ i, d ≤ i → i < f → ∀ c, c < j → R1 i c = 0 := fun i i1 i2 c hc => gaZ_zero (fun i i1 i2 => hz i i1 (by omega) c hc) q i i1 (by omega)
  have n0 := ((gaZ_end g q).1 rfl).1
  rw [gaZ_col g (j := j) (fun _ => rfl) q d] at n0
  by_cases e : ∃ a, a < N ∧ hH a = j
  · obtain ⟨a, ha, ea⟩ := e
    refine ⟨a, ha, ea, fun i i1 i2 => (Gh_at hh (gh1 i i1 i2) hj (hz1 i i1 i2)).1 a ha ea, fun i b i1 i2 hb => ?_⟩
    have hp : 0 < H a j := by
      have := (hh.1 a ha).2.1
      rw [ea] at this
      exact this
    obtain ⟨u1, q1⟩ := gaZ_cg g (u := fun i => H a j * R i (6 + a)) (fun i i1 i2 => by
      rw [(Gh_at hh (gh i i1 (by omega)) hj (hz i i1 (by omega))).1 a ha ea, Int.mul_comm]) q
    obtain ⟨o2, q2, -⟩ := gaZ_scale (o := fun i => R i (6 + a)) hp g q1
    have K : KB d (f - d) M (6 + b) R (fun i => R i (6 + a)) := ⟨fun i i1 i2 => h1 i b i1 (by omega) hb, fun i k i1 i2 k1 k2 => h2 i k a b i1 (by omega) k1 (by omega) ha hb⟩
    exact (KB_ga K q2).1 i i1 (by omega)
  · exact absurd ((Gh_at hh (gh1 d (Nat.le_refl _) hdf) hj (hz1 d (Nat.le_refl _) hdf)).2 (fun b hb z => e ⟨b, hb, z⟩)) n0
