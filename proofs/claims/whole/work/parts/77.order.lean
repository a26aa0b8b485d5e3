/-! ## orders: columns come to their one order -/
theorem gaZ_out {d n g c : Nat} {R R1 : Nat → Nat → Int} {o o1 : Nat → Int} {b : Bool} (q : gaZ g R o d n = some (b, R1, o1)) : ∀ i, i < d ∨ d + n ≤ i → R1 i c = R i c := by
  refine gaZ_inv (fun S (_ : Nat → Int) => ∀ i, i < d ∨ d + n ≤ i → S i c = R i c) ?_ ?_ g (fun _ _ => rfl) q
  · intro S o r h1 h2 h i hi
    rw [show zsw S d r i = S i from by
      unfold zsw
      rw [if_neg (by omega), if_neg (by omega)]]
    exact h i hi
  · intro S o hn _ _ h i hi
    rw [show zR S o d (n - 1) i c = S i c from if_neg (by omega)]
    exact h i hi
theorem gaZ_zero {d n g c : Nat} {R R1 : Nat → Nat → Int} {o o1 : Nat → Int} {b : Bool} (h0 : ∀ i, d ≤ i → i < d + n → R i c = 0) (q : gaZ g R o d n = some (b, R1, o1)) : ∀ i, d ≤ i → i < d + n → R1 i c = 0 := by
  refine gaZ_inv (fun S (_ : Nat → Int) => ∀ i, d ≤ i → i < d + n → S i c = 0) ?_ ?_ g h0 q
  · intro S o r h1 h2 h i i1 i2
    rw [zsw_p]
    have := zp_in h1 h2 i1 i2
    exact h _ this.1 this.2
  · intro S o hn _ _ h i i1 i2
    unfold zR
    split
    · rw [h i i1 i2, h d (Nat.le_refl _) (by omega), Int.mul_zero]
      rfl
    · exact h i i1 i2
/-- columns ahead of j are in order, d rows are done -/
def Ech (f j d : Nat) (R : Nat → Nat → Int) (h : Nat → Nat) : Prop := Hnf d R h ∧ (∀ i, i < d → h i < j) ∧ ∀ i, d ≤ i → i < f → ∀ c, c < j → R i c = 0
theorem cZ_lo {R : Nat → Nat → Int} {j d i c : Nat} (hi : i < d) : cZ R j d i c = R i c - flz (R i j) (if R d j < 0 then -R d j else R d j) * (if R d j < 0 then -R d c else R d c) := by
  unfold cZ zF
  rw [if_pos hi]
  have e1 : zNR R (fun i => R i j) d i c = R i c := if_neg (fun q => by omega)
  have e2 : zNo (fun i => R i j) d i = R i j := if_neg (fun q => by omega)
  have e3 : zNo (fun i => R i j) d d = if R d j < 0 then -R d j else R d j := by
    unfold zNo
    by_cases z : R d j < 0
    · rw [if_pos ⟨rfl, z⟩, if_pos z]
    · rw [if_neg (fun q => z q.2), if_neg z]
  have e4 : zNR R (fun i => R i j) d d c = if R d j < 0 then -R d c else R d c := by
    unfold zNR
    by_cases z : R d j < 0
    · rw [if_pos ⟨rfl, z⟩, if_pos z]
    · rw [if_neg (fun q => z q.2), if_neg z]
  rw [e1, e2, e3, e4]
theorem cZ_d {R : Nat → Nat → Int} {j d c : Nat} : cZ R j d d c = if R d j < 0 then -R d c else R d c := by
  unfold cZ zF
  rw [if_neg (by omega)]
  unfold zNR
  by_cases z : R d j < 0
  · rw [if_pos ⟨rfl, z⟩, if_pos z]
  · rw [if_neg (fun q => z q.2), if_neg z]
theorem cZ_hi {R : Nat → Nat → Int} {j d i c : Nat} (hi : d < i) : cZ R j d i c = R i c := by
  unfold cZ zF
  rw [if_neg (by omega)]
  exact if_neg (fun q => by omega)
theorem Ech_0 {f : Nat} {R : Nat → Nat → Int} : Ech f 0 0 R (fun _ => 0) := ⟨⟨fun i hi => by omega, fun i k _ hk => by omega, fun i k _ hk => by omega⟩, fun i hi => by omega, fun i _ _ c hc => by omega⟩
theorem Ech_no {f j d g : Nat} {R R1 : Nat → Nat → Int} {o1 : Nat → Int} {h : Nat → Nat} (E : Ech f j d R h) (q : gaZ g R (fun i => R i j) d (f - d) = some (false, R1, o1)) : Ech f (j + 1) d R1 h := by
  obtain ⟨rfl, -, z⟩ := (gaZ_end g q).2 rfl
  refine ⟨E.1, fun i hi => Nat.lt_succ_of_lt (E.2.1 i hi), fun i i1 i2 c hc => ?_⟩
  rcases Nat.lt_or_ge c j with y | y
  · exact E.2.2 i i1 i2 c y
  · rw [show c = j by omega]
    exact z i i1 (by omega)
theorem Ech_yes {f j d g : Nat} {R R1 : Nat → Nat → Int} {o1 : Nat → Int} {h : Nat → Nat} (hd : d < f) (hj : j < 6) (E : Ech f j d R h) (q : gaZ g R (fun i => R i j) d (f - d) = some (true, R1, o1)) : Ech f (j + 1) (d + 1) (cZ R1 j d) (fun i => if i = d then j else h i) := by
  have ec := gaZ_col g (j := j) (fun _ => rfl) q
  obtain ⟨n0, nz⟩ := (gaZ_end g q).1 rfl
  rw [ec d] at n0
  have out : ∀ i c, i < d → R1 i c = R i c := fun i c hi => gaZ_out q i (Or.inl hi)
  have zer : ∀ i c, d ≤ i → i < f → c < j → R1 i c = 0 := fun i c i1 i2 hc => gaZ_zero (fun i i1 i2 => E.2.2 i i1 (by omega) c hc) q i i1 (by omega)
  have dz : ∀ c, c < j → cZ R1 j d d c = 0 := fun c hc => by
    rw [cZ_d, zer d c (Nat.le_refl _) hd hc]
    split <;> rfl
  have dp : 0 < cZ R1 j d d j := by
    rw [cZ_d]
    split <;> omega
  have lo : ∀ i c, i < d → c < j → cZ R1 j d i c = R i c := fun i c hi hc => by
    rw [cZ_lo hi, zer d c (Nat.le_refl _) hd hc, out i c hi]
    split
    · rw [show (-0 : Int) = 0 from rfl, Int.mul_zero, Int.sub_zero]
    · rw [Int.mul_zero, Int.sub_zero]
  have lj : ∀ i, i < d → 0 ≤ cZ R1 j d i j ∧ cZ R1 j d i j < cZ R1 j d d j := fun i hi => by
    rw [cZ_lo hi, cZ_d]
    rw [cZ_d] at dp
    exact flz_b dp
  obtain ⟨⟨H1, H2, H3⟩, E2, E3⟩ := E
  have hn : ∀ i, i < d → (if i = d then j else h i) = h i := fun i hi => if_neg (by omega)
  refine ⟨⟨fun i hi => ?_, fun i k hik hk => ?_, fun i k hik hk => ?_⟩, fun i hi => ?_, fun i i1 i2 c hc => ?_⟩
  · dsimp only
    rcases Nat.lt_or_ge i d with z | z
    · rw [hn i z]
      have a := H1 i z
      have b := E2 i z
      exact ⟨a.1, by rw [lo i _ z b]; exact a.2.1, fun c hc => by rw [lo i c z (by omega)]; exact a.2.2 c hc⟩
    · have e : i = d := by omega
      subst e
      rw [if_pos rfl]
      exact ⟨hj, dp, dz⟩
  · dsimp only
    rcases Nat.lt_or_ge k d with z | z
    · rw [hn i (by omega), hn k z]
      exact H2 i k hik z
    · rw [hn i (by omega), if_pos (by omega)]
      exact E2 i (by omega)
  · dsimp only
    rcases Nat.lt_or_ge k d with z | z
    · rw [hn k z, lo i _ (by omega) (E2 k z), lo k _ z (E2 k z)]
      exact H3 i k hik z
    · have e : k = d := by omega
      subst e
      rw [if_pos rfl]
      exact lj i hik
  · dsimp only
    rcases Nat.lt_or_ge i d with z | z
    · rw [hn i z]
      have := E2 i z
      omega
    · rw [if_pos (by omega)]
      omega
  · rw [cZ_hi (by omega)]
    rcases Nat.lt_or_ge c j with y | y
    · exact zer i c (by omega) i2 y
    · rw [show c = j by omega, ← ec i]
      exact nz i (by omega) (by omega)
/-- rows that are apart are all done at the end -/
theorem Ech_6 {f d : Nat} {R : Nat → Nat → Int} {h : Nat → Nat} (I : Ind f R) (E : Ech f 6 d R h) (hd : d ≤ f) : d = f := by
  rcases Nat.eq_or_lt_of_le hd with z | z
  · exact z
  · have := I (fun i => if i = d then 1 else 0) (fun c hc => by
      rw [ls_one (t := fun i => if i = d then 1 else 0) z (fun i _ hn => by rw [if_neg hn, Int.zero_mul]), E.2.2 d (Nat.le_refl _) z c hc, Int.mul_zero]) d z
    rw [if_pos rfl] at this
    omega
/-- orders: the machine's rows come to the one order of their lattice, if B keeps what is read in range -/
theorem oC_hnf {f : Nat} {R0 : Nat → Nat → Int} (B : Nat → Nat → (Nat → Nat → Int) → Prop) (hrg : ∀ (j d : Nat) (R : Nat → Nat → Int) (h : Nat → Nat), j < 6 → d < f → LI f R0 R → Ech f j d R h → B j d R → ∀ i, d ≤ i → i < f → rg (R i j))
    (hrt : ∀ (j d : Nat) (R R1 : Nat → Nat → Int) (o1 : Nat → Int) (h : Nat → Nat), j < 6 → d < f → LI f R0 R → Ech f j d R h → B j d R → gaZ (2 ^ 63 + 1) R (fun i => R i j) d (f - d) = some (true, R1, o1) → ∀ i, i < f → rg (R i j))
    (h0 : ∀ (j d : Nat) (R : Nat → Nat → Int) (h : Nat → Nat), j < 6 → d < f → LI f R0 R → Ech f j d R h → B j d R → (∀ i, d ≤ i → i < f → R i j = 0) → B (j + 1) d R)
    (h1 : ∀ (j d : Nat) (R R1 : Nat → Nat → Int) (o1 : Nat → Int) (h : Nat → Nat), j < 6 → d < f → LI f R0 R → Ech f j d R h → B j d R → gaZ (2 ^ 63 + 1) R (fun i => R i j) d (f - d) = some (true, R1, o1) → B (j + 1) (d + 1) (cZ R1 j d))
    (h2 : ∀ (j : Nat) (R : Nat → Nat → Int), B j f R → B 6 f R) {ro ov : Nat → Int64} {R : Nat → Nat → Int} (h6 : E6 f ro R) (hL : LI f R0 R) (hB : B 0 0 R) : ∃ (ro1 ov1 : Nat → Int64) (R1 : Nat → Nat → Int) (h : Nat → Nat), oC (2 ^ 63 + 1) f 6 0 0 ro ov = some (ro1, ov1) ∧ E6 f ro1 R1 ∧ Hnf f R1 h ∧ Same f R0 R1 ∧ B 6 f R1 := by
  obtain ⟨ro1, ov1, R1, d1, q1, q2, ⟨q3, ⟨h, q4⟩, q5⟩, q6⟩ := oC_sim (f := f) (fun j d R => LI f R0 R ∧ (∃ h, Ech f j d R h) ∧ B j d R) (fun j d R hj hd hI => by
      obtain ⟨a, ⟨h, b⟩, c⟩ := hI
      exact hrg j d R h hj hd a b c) (fun j d R R1 o1 hj hd hI q => by
      obtain ⟨a, ⟨h, b⟩, c⟩ := hI
      exact hrt j d R R1 o1 h hj hd a b c q) (fun j d R R1 o1 hj hd hI q => by
      obtain ⟨a, ⟨h, b⟩, c⟩ := hI
      have e := (gaZ_end _ q).2 rfl
      refine ⟨LI_ga (by omega) a q, ⟨h, Ech_no b q⟩, ?_⟩
      rw [e.1]
      exact h0 j d R h hj hd a b c (fun i i1 i2 => e.2.2 i i1 (by omega))) (fun j d R R1 o1 hj hd hI q _ => by
      obtain ⟨a, ⟨h, b⟩, c⟩ := hI
      exact ⟨LI_cZ hd (LI_ga (by omega) a q), ⟨_, Ech_yes hd hj b q⟩, h1 j d R R1 o1 h hj hd a b c q⟩) (fun j R hI => by
      obtain ⟨a, ⟨h, b⟩, c⟩ := hI
      exact ⟨a, ⟨h, b.1, fun i hi => (b.1.1 i hi).1, fun i i1 i2 => by omega⟩, h2 j R c⟩) 6 0 0 ro ov R rfl (Nat.zero_le _) h6 ⟨hL, ⟨_, Ech_0⟩, hB⟩
  have e := Ech_6 q3.2 q4 q6
  subst e
  exact ⟨ro1, ov1, R1, h, q1, q2, q4.1, q3.1, q5⟩
