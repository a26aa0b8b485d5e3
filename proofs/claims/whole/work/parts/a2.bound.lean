/-! ## orders: a column with a head keeps the bound; so orders ends in the one order -/
/-- 2-minors of the rows that are not done -/
theorem OB_2 {N f G : Nat} {K : Nat → Nat} {H R0 : Nat → Nat → Int} {hH : Nat → Nat} {g : Nat → Int} {j d : Nat} {R : Nat → Nat → Int} {h : Nat → Nat} (hf : f + 1 = N) (hh : Hnf N H hH) (hG : 1 ≤ G) (hg : ∀ b, b < N → (g b).natAbs ≤ G) (hK : 0 < d → 2 * (oM G K d * oM G K d) ≤ K d ∨ (d + 2 = f ∧ G * G ≤ K d)) (K0 : ∀ v, Gh N H v → Gk N g v → Sp f R0 v) (hL : LI f R0 R) (hj : j < 6) (hd : d < f) (E : Ech f j d R h) (B : OB N f G K H hH g j d R) : ∀ i k a b, d ≤ i → i < f → d ≤ k → k < f → a < N → b < N → (R i (6 + a) * R k (6 + b) - R k (6 + a) * R i (6 + b)).natAbs ≤ K d := by
  obtain ⟨b1, b2, b3, b4, -⟩ := B hd
  rcases Nat.eq_zero_or_pos d with z | z
  · subst z
    exact fun i k a b _ i2 _ k2 ha hb => b4 rfl i k a b i2 k2 ha hb
  · rcases hK z with y | ⟨y1, y2⟩
    · exact fun i k a b i1 i2 k1 k2 ha hb => Nat.le_trans (min_2 (b3 i a i1 i2 ha) (b3 k b k1 k2 hb) (b3 k a k1 k2 ha) (b3 i b i1 i2 hb)) y
    · subst y1
      have e : N = d + 3 := by omega
      subst e
      exact fun i k a b i1 i2 k1 k2 ha hb => Nat.le_trans (two_ker hG hh E b1 (fun i _ i2 => b2 i i2) (fun v v1 v2 => Sp_sub hL.1.1 (K0 v v1 v2)) hg (by omega) i k a b i1 i2 k1 k2 ha hb) y2
theorem OB_1 {N f G g0 : Nat} {K : Nat → Nat} {H : Nat → Nat → Int} {hH : Nat → Nat} {g : Nat → Int} {j d : Nat} {R R1 : Nat → Nat → Int} {o1 : Nat → Int} {h : Nat → Nat} (hh : Hnf N H hH) (hK1 : ∀ d, 1 ≤ K d) (hM : d + 1 < f → oM G K d ≤ K d) (m2 : ∀ i k a b, d ≤ i → i < f → d ≤ k → k < f → a < N → b < N → (R i (6 + a) * R k (6 + b) - R k (6 + a) * R i (6 + b)).natAbs ≤ K d) (hj : j < 6) (hd : d < f) (E : Ech f j d R h) (B : OB N f G K H hH g j d R) (q : gaZ g0 R (fun i => R i j) d (f - d) = some (true, R1, o1)) : OB N f G K H hH g (j + 1) (d + 1) (cZ R1 j d) := fun hd1 => by
  obtain ⟨b1, b2, b3, b4, p, p1, p2, p3, p4, p5, p6, p7⟩ := B hd
  have old : ∀ i, i < d → R1 i = R i := fun i y => funext (fun c => gaZ_out q i (Or.inl y))
  have gh1 : ∀ i, i < f → Gh N H (R1 i) := fun i hi => by
    rcases Nat.lt_or_ge i d with y | y
    · rw [old i y]
      exact b1 i hi
    · exact ga_lin (Gh N H) Gh_lin (fun i _ i2 => b1 i (by omega)) q i y (by omega)
  have gk1 : ∀ i, i < f → Gk N g (R1 i) := fun i hi => by
    rcases Nat.lt_or_ge i d with y | y
    · rw [old i y]
      exact b2 i hi
    · exact ga_lin (Gk N g) Gk_lin (fun i _ i2 => b2 i (by omega)) q i y (by omega)
  obtain ⟨a, ha, ea, hat, hle⟩ := gh_step hh (by omega) hj (fun i _ i2 => b1 i i2) E.2.2 (fun i b i1 i2 hb => Nat.le_trans (b3 i b i1 i2 hb) (hM hd1)) m2 hd q
  have n0 := ((gaZ_end _ q).1 rfl).1
  rw [gaZ_col _ (j := j) (fun _ => rfl) q d] at n0
  obtain ⟨n1, n2, n3, n4⟩ : p < N ∧ hH p = j ∧ (∀ b, b < N → (hH b < j + 1 ↔ b < p + 1)) ∧ ∀ a, a < N → hH a = j → a = p := by
    rcases hd_next hh p4 p1 with y | ⟨y, -⟩
    · exact y
    · exact absurd ea (y a ha)
  have e := n4 a ha ea
  subst e
  have hz1 : ∀ c, c < j → R1 d c = 0 := fun c hc => gaZ_zero (fun i i1 i2 => E.2.2 i i1 (by omega) c hc) q d (Nat.le_refl _) (by omega)
  have lo : ∀ b, b < a → R1 d (6 + b) = 0 := fun b hb => Gh_lo hh (gh1 d hd) hz1 N b (by omega) (by omega) ((p4 b (by omega)).mpr hb)
  have hD := (hh.1 a ha).2.1
  rw [ea] at hD
  have hD1 : 1 ≤ (H a j).natAbs := by omega
  have hP := hpr_1 hh p1
  have eP : hpr H hH (a + 1) = hpr H hH a * (H a j).natAbs := by
    show hpr H hH a * (H a (hH a)).natAbs = _
    rw [ea]
  have PD : hpr H hH a ≤ hpr H hH (a + 1) := hpr_s hh n1
  have PD1 : 1 ≤ hpr H hH (a + 1) := hpr_1 hh n1
  have xx := @oX_2 K hK1 d
  have zx := @oZ_X K hK1 d
  have eX : oX K (d + 1) = oX K d + (oX K d + 1) * K d := rfl
  have eZ : oZ K (d + 1) = 2 * oZ K d + K d := rfl
  have ds : ∀ i, i < d → (∀ b, b < N → (cZ R1 j d i (6 + b)).natAbs * (H a j).natAbs ≤ (R i (6 + b)).natAbs * (H a j).natAbs + ((R i (6 + a)).natAbs * (H a j).natAbs + (ls (fun b => R i (6 + b)) H a j).natAbs + (H a j).natAbs) * K d) ∧ (cZ R1 j d i (6 + a)).natAbs * (H a j).natAbs ≤ (R1 d (6 + a)).natAbs * (H a j).natAbs + (ls (fun b => R i (6 + b)) H a j).natAbs := fun i hi => by
    have := done_step (M := K d) hh ha ea (gh1 i (by omega)) hi (hat d (Nat.le_refl _) hd) n0 (fun b hb => hle d b (Nat.le_refl _) hd hb)
    rw [old i hi] at this
    exact this
  have sl : ∀ i, (ls (fun b => R i (6 + b)) H a j).natAbs ≤ ((H a j).natAbs - 1) * sn (fun b => R i (6 + b)) a := fun i => sn_ls (fun b hb => by
    have := hh.2.2 b a hb ha
    rw [ea] at this
    exact this)
  have same : ∀ i, i < d → sn (fun b => cZ R1 j d i (6 + b)) a = sn (fun b => R i (6 + b)) a := fun i hi => sn_cg (fun b hb => by
    show cZ R1 j d i (6 + b) = R i (6 + b)
    rw [cZ_lo hi, lo b hb, old i hi]
    split
    · rw [show (-0 : Int) = 0 from rfl, Int.mul_zero, Int.sub_zero]
    · rw [Int.mul_zero, Int.sub_zero])
  have at1 : ∀ i, i < d → (cZ R1 j d i (6 + a)).natAbs ≤ K d + sn (fun b => R i (6 + b)) a := fun i hi => nS hD1 (sl i) (hle d a (Nat.le_refl _) hd ha) (ds i hi).2
  have dd : ∀ b, (cZ R1 j d d (6 + b)).natAbs = (R1 d (6 + b)).natAbs := fun b => by
    rw [cZ_d]
    split
    · exact Int.natAbs_neg _
    · rfl
  have dn : sn (fun b => cZ R1 j d d (6 + b)) (a + 1) ≤ K d := by
    show sn (fun b => cZ R1 j d d (6 + b)) a + (cZ R1 j d d (6 + a)).natAbs ≤ K d
    rw [dd, sn_0 (fun b hb => by
      have := dd b
      rw [lo b hb] at this
      show cZ R1 j d d (6 + b) = 0
      omega)]
    have := hle d a (Nat.le_refl _) hd ha
    omega
  refine ⟨cZ_lin (Gh N H) Gh_lin hd gh1, cZ_lin (Gk N g) Gk_lin hd gk1, fun i b i1 i2 hb => ?_, fun q => by omega, a + 1, n1, by omega, by omega, n3, fun i b hi hb => ?_, fun i hi => ?_, fun q i hi => ?_⟩
  · rw [cZ_hi (by omega)]
    exact hle i b (by omega) i2 hb
  · rcases Nat.lt_or_ge i d with y | y
    · rw [eX, eP]
      refine nX hD1 hP (p5 i a y ha) (p5 i b y hb) (sl i) ?_ ((ds i y).1 b hb)
      refine Nat.le_trans (p6 i y) ?_
      have := Nat.mul_le_mul_right (hpr H hH a) zx
      rw [Nat.add_mul]
      omega
    · rw [show i = d by omega, dd]
      refine Nat.le_trans (hle d b (Nat.le_refl _) hd hb) ?_
      exact Nat.le_trans (show K d ≤ oX K (d + 1) by omega) (Nat.le_mul_of_pos_right _ PD1)
  · rcases Nat.lt_or_ge i d with y | y
    · show sn (fun b => cZ R1 j d i (6 + b)) a + (cZ R1 j d i (6 + a)).natAbs ≤ _
      rw [same i y]
      have h1 := at1 i y
      have h2 := p6 i y
      have h3 : (2 * (oX K d + oZ K d) + K d) * hpr H hH a ≤ (oX K (d + 1) + oZ K (d + 1)) * hpr H hH (a + 1) := Nat.mul_le_mul (by omega) PD
      have h4 : (2 * (oX K d + oZ K d) + K d) * hpr H hH a = 2 * ((oX K d + oZ K d) * hpr H hH a) + K d * hpr H hH a := by grind
      have h5 := Nat.le_mul_of_pos_right (K d) hP
      omega
    · rw [show i = d by omega]
      refine Nat.le_trans dn (Nat.le_trans (show K d ≤ oX K (d + 1) + oZ K (d + 1) by omega) (Nat.le_mul_of_pos_right _ PD1))
  · rcases Nat.lt_or_ge i d with y | y
    · show sn (fun b => cZ R1 j d i (6 + b)) a + (cZ R1 j d i (6 + a)).natAbs ≤ _
      rw [same i y]
      have h1 := at1 i y
      have h2 := p7 (by omega) i y
      have h3 : (2 * oZ K d + K d) * hpr H hH a ≤ oZ K (d + 1) * hpr H hH (a + 1) := Nat.mul_le_mul (by omega) PD
      have h4 : (2 * oZ K d + K d) * hpr H hH a = 2 * (oZ K d * hpr H hH a) + K d * hpr H hH a := by grind
      have h5 := Nat.le_mul_of_pos_right (K d) hP
      omega
    · rw [show i = d by omega]
      refine Nat.le_trans dn (Nat.le_trans (show K d ≤ oZ K (d + 1) by omega) (Nat.le_mul_of_pos_right _ PD1))
/-- numbers that will do for N rows -/
def OK6 (f G W : Nat) (K : Nat → Nat) : Prop := (∀ d, 1 ≤ K d) ∧ (∀ d, d < f → d + 1 < f → oM G K d ≤ K d) ∧ (∀ d, d < f → 0 < d → d + 1 < f → 2 * (oM G K d * oM G K d) ≤ K d ∨ (d + 2 = f ∧ G * G ≤ K d)) ∧ (∀ d, d < f → oM G K d * W < 2 ^ 63) ∧ ∀ d, d < f → oX K d * (2 * W - 1) + oZ K d * W < 2 ^ 63
theorem OB_hnf {N f G W : Nat} {K : Nat → Nat} {H R0 : Nat → Nat → Int} {hH : Nat → Nat} {g : Nat → Int} (hf : f + 1 = N) (hh : Hnf N H hH) (hG : 1 ≤ G) (hg : ∀ b, b < N → (g b).natAbs ≤ G) (hW : hpr H hH N ≤ W) (hO : OK6 f G W K) (K0 : ∀ v, Gh N H v → Gk N g v → Sp f R0 v) {ro ov : Nat → Int64} {R : Nat → Nat → Int} (h6 : E6 f ro R) (hL : LI f R0 R) (hB : OB N f G K H hH g 0 0 R) : ∃ (ro1 ov1 : Nat → Int64) (R1 : Nat → Nat → Int) (h : Nat → Nat), oC (2 ^ 63 + 1) f 6 0 0 ro ov = some (ro1, ov1) ∧ E6 f ro1 R1 ∧ Hnf f R1 h ∧ Same f R0 R1 := by
  obtain ⟨k1, k2, k3, k4, k5⟩ := hO
  obtain ⟨ro1, ov1, R1, h, q1, q2, q3, q4, -⟩ := oC_hnf (f := f) (R0 := R0) (OB N f G K H hH g) (fun j d R h hj hd a b c => OB_rg hh hW (k4 d hd) hj hd b c) (fun j d R R1 o1 h hj hd a b c q => OB_rt hh hW (k4 d hd) (k5 d hd) hj hd b c q) (fun j d R h hj hd a b c z => OB_0 hf hh hj a.2 b c z) (fun j d R R1 o1 h hj hd a b c q => by
      rcases Nat.lt_or_ge (d + 1) f with y | y
      · exact OB_1 hh k1 (k2 d hd) (OB_2 hf hh hG hg (fun z => k3 d hd z y) K0 a hj hd b c) hj hd b c q
      · exact fun z => by omega) (fun j R _ z => by omega) h6 hL hB
  exact ⟨ro1, ov1, R1, h, q1, q2, q3, q4⟩
/-- where the rows stand at first -/
theorem OB_st {N f G : Nat} {K : Nat → Nat} {H : Nat → Nat → Int} {hH : Nat → Nat} {g : Nat → Int} {R : Nat → Nat → Int} (b1 : ∀ i, i < f → Gh N H (R i)) (b2 : ∀ i, i < f → Gk N g (R i)) (b3 : ∀ i b, i < f → b < N → (R i (6 + b)).natAbs ≤ G) (b4 : ∀ i k a b, i < f → k < f → a < N → b < N → (R i (6 + a) * R k (6 + b) - R k (6 + a) * R i (6 + b)).natAbs ≤ K 0) : OB N f G K H hH g 0 0 R := fun _ => ⟨b1, b2, fun i b _ i2 hb => b3 i b i2 hb, fun _ => b4, 0, Nat.zero_le _, Nat.le_refl _, by omega, fun b _ => by omega, fun i _ hi => by omega, fun i hi => by omega, fun _ i hi => by omega⟩
/-! the numbers for 6, 5, 4, 3, 2, 1 rows -/
def K6 : Nat → Nat := fun d => if d = 0 then 23 else if d = 1 then 1058 else 2238728
def K5 : Nat → Nat := fun d => if d = 0 then 2655 else 14098050
def K4 : Nat → Nat := fun _ => 17006112
def K3 : Nat → Nat := fun _ => 22039921152
def K2 : Nat → Nat := fun _ => 1
theorem five {P : Nat → Prop} (h0 : P 0) (h1 : P 1) (h2 : P 2) (h3 : P 3) (h4 : P 4) {f : Nat} (hf : f ≤ 5) : ∀ d, d < f → P d := fun d hd => by
  have : d = 0 ∨ d = 1 ∨ d = 2 ∨ d = 3 ∨ d = 4 := by omega
  rcases this with e | e | e | e | e <;> subst e <;> assumption
theorem OK_6 : OK6 5 9 1 K6 := ⟨fun d => by unfold K6; split; decide; split <;> decide, by decide, by decide, by decide, by decide⟩
theorem OK_5 : OK6 4 162 9 K5 := ⟨fun d => by unfold K5; split <;> decide, by decide, by decide, by decide, by decide⟩
theorem OK_4 : OK6 3 2916 162 K4 := ⟨fun d => by unfold K4; decide, by decide, by decide, by decide, by decide⟩
theorem OK_3 : OK6 2 104976 2916 K3 := ⟨fun d => by unfold K3; decide, by decide, by decide, by decide, by decide⟩
theorem OK_2 : OK6 1 4723920 104976 K2 := ⟨fun d => by unfold K2; decide, by decide, by decide, by decide, by decide⟩
