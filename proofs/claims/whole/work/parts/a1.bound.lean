/-! ## orders: the bound that goes along with the columns -/
/-- how much the parts ahead are together -/
def sn (x : Nat → Int) : Nat → Nat
  | 0 => 0
  | n + 1 => sn x n + (x n).natAbs
theorem sn_cg {x y : Nat → Int} : ∀ {n : Nat}, (∀ b, b < n → x b = y b) → sn x n = sn y n
  | 0, _ => rfl
  | n + 1, h => by
    show sn x n + (x n).natAbs = sn y n + (y n).natAbs
    rw [sn_cg (fun b hb => h b (by omega)), h n (by omega)]
theorem sn_0 {x : Nat → Int} : ∀ {n : Nat}, (∀ b, b < n → x b = 0) → sn x n = 0
  | 0, _ => rfl
  | n + 1, h => by
    show sn x n + (x n).natAbs = 0
    rw [sn_0 (fun b hb => h b (by omega)), h n (by omega)]
    rfl
theorem sn_ls {x : Nat → Int} {H : Nat → Nat → Int} {j : Nat} {D : Int} : ∀ {n : Nat}, (∀ b, b < n → 0 ≤ H b j ∧ H b j < D) → (ls x H n j).natAbs ≤ (D.natAbs - 1) * sn x n
  | 0, _ => by
    show (0 : Int).natAbs ≤ _
    exact Nat.zero_le _
  | n + 1, h => by
    have ih := sn_ls (n := n) (x := x) (fun b hb => h b (by omega))
    have h1 := h n (by omega)
    have h3 : (x n * H n j).natAbs ≤ (D.natAbs - 1) * (x n).natAbs := by
      rw [Int.natAbs_mul, Nat.mul_comm]
      exact Nat.mul_le_mul_right _ (by omega)
    show (ls x H n j + x n * H n j).natAbs ≤ (D.natAbs - 1) * (sn x n + (x n).natAbs)
    rw [Nat.mul_add]
    omega
/-- product of the heads of the first rows -/
def hpr (H : Nat → Nat → Int) (hH : Nat → Nat) : Nat → Nat
  | 0 => 1
  | n + 1 => hpr H hH n * (H n (hH n)).natAbs
theorem hpr_1 {N : Nat} {H : Nat → Nat → Int} {hH : Nat → Nat} (hh : Hnf N H hH) : ∀ {n : Nat}, n ≤ N → 1 ≤ hpr H hH n
  | 0, _ => Nat.le_refl _
  | n + 1, h => by
    have a := hpr_1 hh (n := n) (by omega)
    have b := (hh.1 n (by omega)).2.1
    exact Nat.mul_le_mul a (show 1 ≤ (H n (hH n)).natAbs by omega)
theorem hpr_s {N : Nat} {H : Nat → Nat → Int} {hH : Nat → Nat} (hh : Hnf N H hH) {n : Nat} (h : n < N) : hpr H hH n ≤ hpr H hH (n + 1) := by
  have b := (hh.1 n h).2.1
  exact Nat.le_mul_of_pos_right _ (by omega)
theorem hpr_le {N : Nat} {H : Nat → Nat → Int} {hH : Nat → Nat} (hh : Hnf N H hH) : ∀ {k n : Nat}, n + k = N → hpr H hH n ≤ hpr H hH N
  | 0, n, h => by
    rw [show n = N by omega]
    exact Nat.le_refl _
  | k + 1, n, h => Nat.le_trans (hpr_s hh (by omega)) (hpr_le hh (k := k) (n := n + 1) (by omega))
def oX (K : Nat → Nat) : Nat → Nat
  | 0 => 0
  | d + 1 => oX K d + (oX K d + 1) * K d
def oZ (K : Nat → Nat) : Nat → Nat
  | 0 => 0
  | d + 1 => 2 * oZ K d + K d
def oM (G : Nat) (K : Nat → Nat) : Nat → Nat
  | 0 => G
  | d + 1 => K d
theorem oX_2 {K : Nat → Nat} (hK : ∀ d, 1 ≤ K d) {d : Nat} : 2 * oX K d + K d ≤ oX K (d + 1) := by
  show _ ≤ oX K d + (oX K d + 1) * K d
  have := Nat.le_mul_of_pos_right (oX K d) (hK d)
  rw [Nat.add_mul, Nat.one_mul]
  omega
theorem oZ_X {K : Nat → Nat} (hK : ∀ d, 1 ≤ K d) : ∀ {d : Nat}, oZ K d ≤ oX K d
  | 0 => Nat.le_refl _
  | d + 1 => by
    have a := oZ_X hK (d := d)
    have b := @oX_2 K hK d
    show 2 * oZ K d + K d ≤ _
    omega
/-- the head at column j, if there is one -/
theorem hd_next {N j p : Nat} {H : Nat → Nat → Int} {hH : Nat → Nat} (hh : Hnf N H hH) (hp : ∀ b, b < N → (hH b < j ↔ b < p)) (hpN : p ≤ N) : (p < N ∧ hH p = j ∧ (∀ b, b < N → (hH b < j + 1 ↔ b < p + 1)) ∧ ∀ a, a < N → hH a = j → a = p) ∨ ((∀ b, b < N → hH b ≠ j) ∧ ∀ b, b < N → (hH b < j + 1 ↔ b < p)) := by
  have one : ∀ a, a < N → hH a = j → p < N ∧ a = p := fun a ha e => by
    have h1 := hp a ha
    have h2 : p < N := by omega
    have h3 := hp p h2
    refine ⟨h2, ?_⟩
    rcases Nat.lt_trichotomy a p with y | y | y
    · omega
    · exact y
    · have := hh.2.1 p a y ha
      omega
  by_cases e : ∃ a, a < N ∧ hH a = j
  · obtain ⟨a, ha, ea⟩ := e
    obtain ⟨h2, rfl⟩ := one a ha ea
    refine Or.inl ⟨h2, ea, fun b hb => ?_, fun b hb eb => (one b hb eb).2⟩
    have h1 := hp b hb
    rcases Nat.lt_trichotomy b a with y | y | y
    · omega
    · subst y
      omega
    · have := hh.2.1 a b y hb
      omega
  · refine Or.inr ⟨fun b hb q => e ⟨b, hb, q⟩, fun b hb => ?_⟩
    have h1 := hp b hb
    have h2 : hH b ≠ j := fun q => e ⟨b, hb, q⟩
    omega
/-- no more than as many rows as parts are left -/
theorem Ech_dim {N f : Nat} {H : Nat → Nat → Int} {hH : Nat → Nat} (hh : Hnf N H hH) : ∀ (k j d : Nat) (R : Nat → Nat → Int) (h : Nat → Nat) (p : Nat), j + k = 6 → d ≤ f → Ind f R → Ech f j d R h → (∀ i, i < f → Gh N H (R i)) → (∀ b, b < N → (hH b < j ↔ b < p)) → p ≤ N → f + p ≤ d + N
  | 0, j, d, R, h, p, hj, hd, I, E, gh, hp, hpN => by
    rw [show j = 6 by omega] at E
    have := Ech_6 I E hd
    omega
  | k + 1, j, d, R, h, p, hj, hd, I, E, gh, hp, hpN => by
    rcases Nat.eq_or_lt_of_le hd with z | z
    · omega
    · obtain ⟨M, hM⟩ : ∃ M, (∀ i, d ≤ i → i < d + (f - d) → R i j = 0) ∨ ∃ i, d ≤ i ∧ i < d + (f - d) ∧ R i j ≠ 0 ∧ (R i j).natAbs ≤ M := by
        by_cases y : ∀ i, d ≤ i → i < d + (f - d) → R i j = 0
        · exact ⟨0, Or.inl y⟩
        · obtain ⟨i, y⟩ := Classical.not_forall.mp y
          obtain ⟨y1, y⟩ := Classical.not_forall.mp y
          obtain ⟨y2, y⟩ := Classical.not_forall.mp y
          exact ⟨(R i j).natAbs, Or.inr ⟨i, y1, y2, y, Nat.le_refl _⟩⟩
      obtain ⟨b, R1, o1, q⟩ := gaZ_ex (f := d) (n := f - d) M R (fun i => R i j) hM
      cases b with
      | false =>
        have e := ((gaZ_end _ q).2 rfl).1
        have E1 := Ech_no E q
        rw [e] at E1
        rcases hd_next hh hp hpN with ⟨n1, -, n3, -⟩ | ⟨-, n3⟩
        · have := Ech_dim hh k (j + 1) d R h (p + 1) (by omega) hd I E1 gh n3 n1
          omega
        · exact Ech_dim hh k (j + 1) d R h p (by omega) hd I E1 gh n3 hpN
      | true =>
        have E1 := Ech_yes z (by omega) E q
        have L : LI f R R1 := LI_ga (by omega) ⟨Same_rf, I⟩ q
        have I1 := (LI_cZ (j := j) z L).2
        have gh1 : ∀ i, i < f → Gh N H (R1 i) := fun i hi => by
          rcases Nat.lt_or_ge i d with y | y
          · rw [show R1 i = R i from funext (fun c => gaZ_out q i (Or.inl y))]
            exact gh i hi
          · exact ga_lin (Gh N H) Gh_lin (fun i _ i2 => gh i (by omega)) q i y (by omega)
        rcases hd_next hh hp hpN with ⟨n1, -, n3, -⟩ | ⟨n2, -⟩
        · have := Ech_dim hh k (j + 1) (d + 1) _ _ (p + 1) (by omega) z I1 E1 (cZ_lin (Gh N H) Gh_lin z gh1) n3 n1
          omega
        · exfalso
          have n0 := ((gaZ_end _ q).1 rfl).1
          rw [gaZ_col _ (j := j) (fun _ => rfl) q d] at n0
          refine n0 (gaZ_zero (fun i i1 i2 => ?_) q d (Nat.le_refl _) (by omega))
          exact (Gh_at hh (gh i (by omega)) (by omega) (E.2.2 i i1 (by omega))).2 n2
theorem nX {D P X K x xb s x1 y : Nat} (hD : 1 ≤ D) (hP : 1 ≤ P) (hx : x ≤ X * P) (hxb : xb ≤ X * P) (hs : s ≤ (D - 1) * y) (hy : y ≤ 2 * (X * P)) (h : x1 * D ≤ xb * D + (x * D + s + D) * K) : x1 ≤ (X + (X + 1) * K) * (P * D) := by
  obtain ⟨k, rfl⟩ : ∃ k, D = k + 1 := ⟨D - 1, by omega⟩
  rw [Nat.add_sub_cancel] at hs
  have kk : k ≤ k * k := Nat.le_mul_self k
  have h1 : x * (k + 1) ≤ X * P * (k + 1) := Nat.mul_le_mul_right _ hx
  have h2 : xb * (k + 1) ≤ X * P * (k + 1) := Nat.mul_le_mul_right _ hxb
  have h3 : s ≤ k * (2 * (X * P)) := Nat.le_trans hs (Nat.mul_le_mul_left _ hy)
  generalize eA : X * P = A at *
  have h4 : A * k ≤ A * (k * k) := Nat.mul_le_mul_left _ kk
  have h5 : (k + 1) ≤ P * ((k + 1) * (k + 1)) := Nat.le_trans (Nat.le_mul_of_pos_right (k + 1) (by omega)) (Nat.le_mul_of_pos_left _ hP)
  have h6 : x * (k + 1) + s + (k + 1) ≤ (A + P) * ((k + 1) * (k + 1)) := by
    have e1 : (A + P) * ((k + 1) * (k + 1)) = A * (k * k) + 2 * (A * k) + A + P * ((k + 1) * (k + 1)) := by grind
    have e2 : A * (k + 1) = A * k + A := by grind
    have e3 : k * (2 * A) = 2 * (A * k) := by grind
    rw [e1]
    omega
  have h7 := Nat.mul_le_mul_right K h6
  refine Nat.le_of_mul_le_mul_right (c := k + 1) ?_ (by omega)
  have h8 : A * (k + 1) ≤ A * ((k + 1) * (k + 1)) := Nat.mul_le_mul_left _ (Nat.le_mul_of_pos_right _ (by omega))
  have e4 : (X + (X + 1) * K) * (P * (k + 1)) * (k + 1) = A * ((k + 1) * (k + 1)) + (A + P) * ((k + 1) * (k + 1)) * K := by
    rw [← eA]
    grind
  rw [e4]
  omega
theorem nS {D y K x1 s v : Nat} (hD : 1 ≤ D) (hs : s ≤ (D - 1) * y) (hv : v ≤ K) (h : x1 * D ≤ v * D + s) : x1 ≤ K + y := by
  refine Nat.le_of_mul_le_mul_right (c := D) ?_ hD
  have h1 : v * D ≤ K * D := Nat.mul_le_mul_right _ hv
  have h2 : (D - 1) * y ≤ D * y := Nat.mul_le_mul_right _ (by omega)
  rw [Nat.add_mul, Nat.mul_comm y D]
  omega
/-- the bound: parts of rows that are not done, of done ones, and of these the sum ahead -/
def OB (N f G : Nat) (K : Nat → Nat) (H : Nat → Nat → Int) (hH : Nat → Nat) (g : Nat → Int) (j d : Nat) (R : Nat → Nat → Int) : Prop := d < f → (∀ i, i < f → Gh N H (R i)) ∧ (∀ i, i < f → Gk N g (R i)) ∧ (∀ i b, d ≤ i → i < f → b < N → (R i (6 + b)).natAbs ≤ oM G K d) ∧ (d = 0 → ∀ i k a b, i < f → k < f → a < N → b < N → (R i (6 + a) * R k (6 + b) - R k (6 + a) * R i (6 + b)).natAbs ≤ K 0) ∧ ∃ p, p ≤ N ∧ d ≤ p ∧ p ≤ d + 1 ∧ (∀ b, b < N → (hH b < j ↔ b < p)) ∧ (∀ i b, i < d → b < N → (R i (6 + b)).natAbs ≤ oX K d * hpr H hH p) ∧ (∀ i, i < d → sn (fun b => R i (6 + b)) p ≤ (oX K d + oZ K d) * hpr H hH p) ∧ (p ≤ d → ∀ i, i < d → sn (fun b => R i (6 + b)) p ≤ oZ K d * hpr H hH p)
theorem OB_0 {N f G : Nat} {K : Nat → Nat} {H : Nat → Nat → Int} {hH : Nat → Nat} {g : Nat → Int} {j d : Nat} {R : Nat → Nat → Int} {h : Nat → Nat} (hf : f + 1 = N) (hh : Hnf N H hH) (hj : j < 6) (hI : Ind f R) (E : Ech f j d R h) (B : OB N f G K H hH g j d R) (z : ∀ i, d ≤ i → i < f → R i j = 0) : OB N f G K H hH g (j + 1) d R := fun hd => by
  obtain ⟨b1, b2, b3, b4, p, p1, p2, p3, p4, p5, p6, p7⟩ := B hd
  refine ⟨b1, b2, b3, b4, ?_⟩
  rcases hd_next hh p4 p1 with ⟨n1, n2, n3, -⟩ | ⟨-, n3⟩
  · have E1 : Ech f (j + 1) d R h := ⟨E.1, fun i hi => Nat.lt_succ_of_lt (E.2.1 i hi), fun i i1 i2 c hc => by
      rcases Nat.lt_or_ge c j with y | y
      · exact E.2.2 i i1 i2 c y
      · rw [show c = j by omega]
        exact z i i1 i2⟩
    have dm := Ech_dim hh (5 - j) (j + 1) d R h (p + 1) (by omega) (by omega) hI E1 b1 n3 n1
    have hs := hpr_s hh n1
    refine ⟨p + 1, n1, by omega, by omega, n3, fun i b hi hb => Nat.le_trans (p5 i b hi hb) (Nat.mul_le_mul_left _ hs), fun i hi => ?_, fun q => by omega⟩
    have a1 := p7 (by omega) i hi
    have a2 := p5 i p hi n1
    have a3 := Nat.mul_le_mul_left (oX K d + oZ K d) hs
    show sn (fun b => R i (6 + b)) p + (R i (6 + p)).natAbs ≤ _
    rw [Nat.add_mul] at a3
    omega
  · exact ⟨p, p1, p2, p3, n3, p5, p6, p7⟩
theorem OB_rg {N f G W : Nat} {K : Nat → Nat} {H : Nat → Nat → Int} {hH : Nat → Nat} {g : Nat → Int} {j d : Nat} {R : Nat → Nat → Int} {h : Nat → Nat} (hh : Hnf N H hH) (hW : hpr H hH N ≤ W) (c1 : oM G K d * W < 2 ^ 63) (hj : j < 6) (hd : d < f) (E : Ech f j d R h) (B : OB N f G K H hH g j d R) : ∀ i, d ≤ i → i < f → rg (R i j) := fun i i1 i2 => by
  obtain ⟨b1, b2, b3, b4, p, p1, p2, p3, p4, p5, p6, p7⟩ := B hd
  have at' := Gh_at hh (b1 i i2) hj (E.2.2 i i1 i2)
  rcases hd_next hh p4 p1 with ⟨n1, n2, n3, -⟩ | ⟨n2, -⟩
  · rw [at'.1 p n1 n2]
    have h1 := b3 i p i1 i2 n1
    have h2 : (H p (hH p)).natAbs ≤ W := by
      have a := hpr_le hh (n := p + 1) (k := N - (p + 1)) (by omega)
      have b := hpr_1 hh p1
      have c : (H p (hH p)).natAbs ≤ hpr H hH (p + 1) := Nat.le_mul_of_pos_left _ b
      omega
    rw [n2] at h2
    unfold rg
    rw [Int.natAbs_mul]
    exact Nat.lt_of_le_of_lt (Nat.mul_le_mul h1 h2) c1
  · rw [at'.2 n2]
    exact rg_0
theorem nR {P D W X Z x s y : Nat} (hP : 1 ≤ P) (hD : 1 ≤ D) (hW : P * D ≤ W) (hx : x ≤ X * P) (hs : s ≤ (D - 1) * y) (hy : y ≤ (X + Z) * P) : x * D + s ≤ X * (2 * W - 1) + Z * W := by
  obtain ⟨k, rfl⟩ : ∃ k, D = k + 1 := ⟨D - 1, by omega⟩
  rw [Nat.add_sub_cancel] at hs
  have h1 : x * (k + 1) ≤ X * P * (k + 1) := Nat.mul_le_mul_right _ hx
  have h2 : s ≤ k * ((X + Z) * P) := Nat.le_trans hs (Nat.mul_le_mul_left _ hy)
  have e1 : X * P * (k + 1) + k * ((X + Z) * P) = X * (P * (k + 1) + P * k) + Z * (P * k) := by grind
  have e2 : P * (k + 1) = P * k + P := by grind
  have h3 : P * (k + 1) + P * k ≤ 2 * W - 1 := by omega
  have h4 : P * k ≤ W := by omega
  have h5 := Nat.mul_le_mul_left X h3
  have h6 := Nat.mul_le_mul_left Z h4
  omega
theorem OB_rt {N f G W g0 : Nat} {K : Nat → Nat} {H : Nat → Nat → Int} {hH : Nat → Nat} {g : Nat → Int} {j d : Nat} {R R1 : Nat → Nat → Int} {o1 : Nat → Int} {h : Nat → Nat} (hh : Hnf N H hH) (hW : hpr H hH N ≤ W) (c1 : oM G K d * W < 2 ^ 63) (c2 : oX K d * (2 * W - 1) + oZ K d * W < 2 ^ 63) (hj : j < 6) (hd : d < f) (E : Ech f j d R h) (B : OB N f G K H hH g j d R) (q : gaZ g0 R (fun i => R i j) d (f - d) = some (true, R1, o1)) : ∀ i, i < f → rg (R i j) := fun i i2 => by
  rcases Nat.lt_or_ge i d with i1 | i1
  · obtain ⟨b1, b2, b3, b4, p, p1, p2, p3, p4, p5, p6, p7⟩ := B hd
    rcases hd_next hh p4 p1 with ⟨n1, n2, n3, -⟩ | ⟨n2, -⟩
    · have hW1 : hpr H hH p * (H p j).natAbs ≤ W := by
        have a := hpr_le hh (n := p + 1) (k := N - (p + 1)) (by omega)
        have e : hpr H hH (p + 1) = hpr H hH p * (H p (hH p)).natAbs := rfl
        rw [n2] at e
        omega
      have hD := (hh.1 p n1).2.1
      rw [n2] at hD
      have hs := sn_ls (x := fun b => R i (6 + b)) (H := H) (j := j) (D := H p j) (n := p) (fun b hb => by
        have := hh.2.2 b p hb n1
        rw [n2] at this
        exact this)
      unfold rg
      rw [Gh_col hh (b1 i i2) n1 n2]
      have k := nR (hpr_1 hh p1) (show 1 ≤ (H p j).natAbs by omega) hW1 (p5 i p i1 n1) hs (p6 i i1)
      have e := Int.natAbs_mul (R i (6 + p)) (H p j)
      omega
    · exfalso
      have n0 := ((gaZ_end _ q).1 rfl).1
      rw [gaZ_col _ (j := j) (fun _ => rfl) q d] at n0
      refine n0 (gaZ_zero (fun i i1 i2 => ?_) q d (Nat.le_refl _) (by omega))
      exact (Gh_at hh (b1 i (by omega)) hj (E.2.2 i i1 (by omega))).2 n2
  · exact OB_rg hh hW c1 hj hd E B i i1 i2
