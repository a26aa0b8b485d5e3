/-! ## adds: the rows, where a saying gains something -/
theorem Hnf_ind {f : Nat} {R : Nat → Nat → Int} {h : Nat → Nat} (H : Hnf f R h) : Ind f R := fun t ht => by
  rcases t_first t f with z | ⟨k, h1, h2, h3⟩
  · exact z
  · exfalso
    have hk := H.1 k h1
    have e := ht (h k) hk.1
    rw [ls_one h1 (fun i hi hn => by
      rcases Nat.lt_or_ge i k with y | y
      · rw [h3 i y, Int.zero_mul]
      · rw [(H.1 i hi).2.2 _ (H.2.1 k i (by omega) hi), Int.mul_zero])] at e
    rcases Int.mul_eq_zero.mp e with y | y
    · exact h2 y
    · omega
theorem Sp_cgR {f : Nat} {R S : Nat → Nat → Int} {v : Nat → Int} (h : ∀ i c, i < f → c < 6 → R i c = S i c) (q : Sp f R v) : Sp f S v := by
  obtain ⟨t, ht⟩ := q
  exact ⟨t, fun c hc => by rw [ht c hc]; exact ls_cg (fun i hi => by rw [h i c hi hc])⟩
theorem Ind_cgR {f : Nat} {R S : Nat → Nat → Int} (h : ∀ i c, i < f → c < 6 → R i c = S i c) (q : Ind f R) : Ind f S := fun t ht => q t (fun c hc => by rw [← ht c hc]; exact ls_cg (fun i hi => by rw [h i c hi hc]))
theorem Gh_gn {N : Nat} {H : Nat → Nat → Int} {v p : Nat → Int} (h : Gh N H v) : gn v p = sm (fun b => v (6 + b) * gn (H b) p) N := by
  unfold gn
  rw [← ls_gain]
  exact sm_cg (fun e he => by rw [h e he])
theorem Gh_gk {N : Nat} {H : Nat → Nat → Int} {v p : Nat → Int} (h : Gh N H v) : Gk N (fun b => gn (H b) p) v ↔ gn v p = 0 := by
  rw [Gh_gn h]
  unfold Gk
  rw [ls_sm]
theorem Gh_sp {N : Nat} {H : Nat → Nat → Int} {v : Nat → Int} (h : Gh N H v) : Sp N H v := ⟨fun b => v (6 + b), h⟩
/-- rows and how often each old row is in them -/
def gR0 (H : Nat → Nat → Int) : Nat → Nat → Int := fun i c => if c < 6 then H i c else if c = 6 + i then 1 else 0
theorem gR0_lo {H : Nat → Nat → Int} {i c : Nat} (h : c < 6) : gR0 H i c = H i c := if_pos h
theorem gR0_hi {H : Nat → Nat → Int} {i b : Nat} : gR0 H i (6 + b) = if 6 + b = 6 + i then 1 else 0 := if_neg (by omega)
theorem gR0_gh {N i : Nat} {H : Nat → Nat → Int} (hi : i < N) : Gh N H (gR0 H i) := fun c hc => by
  rw [gR0_lo hc, ls_one (k := i) hi (fun b hb hn => by rw [gR0_hi, if_neg (by omega), Int.zero_mul]), gR0_hi, if_pos rfl, Int.one_mul]
theorem ga_gn {N g : Nat} {R R1 : Nat → Nat → Int} {o o1 p : Nat → Int} {b : Bool} (h : ∀ i, i < N → o i = gn (R i) p) (q : gaZ g R o 0 N = some (b, R1, o1)) : ∀ i, i < N → o1 i = gn (R1 i) p := by
  refine gaZ_inv (f := 0) (n := N) (fun S u => ∀ i, i < N → u i = gn (S i) p) ?_ ?_ g h q
  · intro S u r h1 h2 h i hi
    rw [zsw_p, zsw_p]
    have := zp_in (i := i) h1 h2 (Nat.zero_le _) (by omega)
    exact h _ (by omega)
  · intro S u hn _ _ h i hi
    by_cases z : 0 < i
    · rw [zO_i z (by omega), show zR S u 0 (N - 1) i = fun c => S i c - (u i).tdiv (u 0) * S 0 c from funext (fun c => zR_i z (by omega)), gn_lin, ← h i hi, ← h 0 (by omega)]
    · rw [show i = 0 by omega, zO_f, show zR S u 0 (N - 1) 0 = S 0 from funext (fun c => zR_f)]
      exact h 0 (by omega)
def Kt (f : Nat) : Nat → Nat := if f = 5 then K6 else if f = 4 then K5 else if f = 3 then K4 else if f = 2 then K3 else K2
theorem OK_t {f : Nat} (hf : f ≤ 5) : OK6 f (Om (6 - f)) (Om (5 - f)) (Kt f) := by
  have : f = 0 ∨ f = 1 ∨ f = 2 ∨ f = 3 ∨ f = 4 ∨ f = 5 := by omega
  rcases this with e | e | e | e | e | e <;> subst e
  · exact ⟨fun _ => Nat.le_refl _, fun d hd => by omega, fun d hd => by omega, fun d hd => by omega, fun d hd => by omega⟩
  · exact OK_2
  · exact OK_3
  · exact OK_4
  · exact OK_5
  · exact OK_6
theorem pw_23 {x : Nat} (h : x ^ 11 * 128 ≤ 9 ^ 11 * 9 ^ 7) : x ≤ 23 := by
  rcases Nat.lt_or_ge 23 x with z | z
  · have := Nat.pow_le_pow_left z 11
    have : (24 : Nat) ^ 11 * 128 ≤ x ^ 11 * 128 := Nat.mul_le_mul_right _ this
    exact absurd (Nat.le_trans this h) (by decide)
  · exact z
theorem pw_2655 {x : Nat} (h : x ^ 11 * 128 ≤ 162 ^ 11 * 162 ^ 7) : x ≤ 2655 := by
  rcases Nat.lt_or_ge 2655 x with z | z
  · have := Nat.pow_le_pow_left z 11
    have : (2656 : Nat) ^ 11 * 128 ≤ x ^ 11 * 128 := Nat.mul_le_mul_right _ this
    exact absurd (Nat.le_trans this h) (by decide)
  · exact z
theorem Om_le {k : Nat} (h : k ≤ 6) : 1 ≤ Om k ∧ Om k < 2 ^ 32 := by
  have : k = 0 ∨ k = 1 ∨ k = 2 ∨ k = 3 ∨ k = 4 ∨ k = 5 ∨ k = 6 := by omega
  rcases this with e | e | e | e | e | e | e <;> subst e <;> decide
theorem ad_rows {L : List (Nat → Int)} {f : Nat} {H : Nat → Nat → Int} {hH : Nat → Nat} {X : Nat → Nat → Int} {p : Nat → Int} (C : Can L (f + 1) H hH X) (hL : Sm L) (hp : ∀ e, e < 10 → (p e).natAbs ≤ 9) (hg : ∃ b, b < f + 1 ∧ gn (H b) p ≠ 0) {ro ov : Nat → Int64} (h6 : E6 (f + 1) ro H) (hO : EO (f + 1) ov (fun i => gn (H i) p)) : ∃ (ro1 ov1 : Nat → Int64) (R1 : Nat → Nat → Int) (o1 : Nat → Int), r_ga (2 ^ 63 + 1) ro ov 0 (f + 1) = some (true, ro1, ov1) ∧ E6 (f + 1) ro1 R1 ∧ EO (f + 1) ov1 o1 ∧ o1 0 ≠ 0 ∧ rg (o1 0) ∧ gn (R1 0) p = o1 0 ∧ (∀ i, 0 < i → i < f + 1 → gn (R1 i) p = 0) ∧ Gh (f + 1) H (R1 0) ∧ (∀ b, b < f + 1 → (R1 0 (6 + b)).natAbs ≤ Om (6 - f)) ∧ (∀ v, Sp (f + 1) H v ↔ Sp (f + 1) R1 v) ∧ ∃ (ro2 ov2 : Nat → Int64) (S : Nat → Nat → Int) (h : Nat → Nat), oC (2 ^ 63 + 1) f 6 0 0 (aS ro1 (6 * f)) ov1 = some (ro2, ov2) ∧ E6 f ro2 S ∧ Hnf f S h ∧ ∀ v, Sp f S v ↔ Sp (f + 1) H v ∧ gn v p = 0 := by
  have C0 := C
  obtain ⟨b1, b2, b3, b4⟩ := can_bd C hL hp
  obtain ⟨c1, c2, c3, c4, A, k, nh, c5, c6⟩ := C
  have f5 : f ≤ 5 := by omega
  rw [show 7 - (f + 1) = 6 - f by omega, show 6 - (f + 1) = 5 - f by omega] at *
  have oG := @Om_le (6 - f) (by omega)
  have gG : ∀ i, i < f + 1 → (gn (H i) p).natAbs ≤ Om (6 - f) := fun i hi => (b3 i hi).2
  have gr : ∀ i, i < f + 1 → rg (gn (H i) p) := fun i hi => by
    have := gG i hi
    unfold rg
    omega
  have h60 : E6 (f + 1) ro (gR0 H) := fun i hi c hc => by
    rw [gR0_lo hc]
    exact h6 i hi c hc
  obtain ⟨b, R1, o1, q⟩ := gaZ_ex (f := 0) (n := f + 1) (2 ^ 63) (gR0 H) (fun i => gn (H i) p) (by
    obtain ⟨i, i1, i2⟩ := hg
    exact Or.inr ⟨i, Nat.zero_le _, by omega, i2, Nat.le_of_lt (gr i i1)⟩)
  obtain ⟨ro1, ov1, q2, g6, gO⟩ := ga_sim (2 ^ 63 + 1) (m := f + 1) (by omega) h60 hO (fun i _ i2 => gr i (by omega)) q
  cases b with
  | false =>
    exfalso
    obtain ⟨i, i1, i2⟩ := hg
    exact i2 (((gaZ_end _ q).2 rfl).2.2 i (Nat.zero_le _) (by omega))
  | true =>
    obtain ⟨n0, nz⟩ := (gaZ_end _ q).1 rfl
    have o1r : ∀ i, i < f + 1 → rg (o1 i) := by
      refine gaZ_inv (f := 0) (n := f + 1) (fun (_ : Nat → Nat → Int) (o : Nat → Int) => ∀ i, i < f + 1 → rg (o i)) ?_ ?_ (2 ^ 63 + 1) gr q
      · intro R o r a1 a2 h i hi
        rw [zsw_p]
        have := zp_in (i := i) a1 a2 (Nat.zero_le _) (by omega)
        exact h _ (by omega)
      · intro R o _ hf _ h i hi
        exact zO_rg hf (h i hi)
    have og := ga_gn (p := p) (fun i hi => gn_cg (fun c hc => (gR0_lo hc).symm)) q
    have gh1 : ∀ i, i < f + 1 → Gh (f + 1) H (R1 i) := fun i hi => ga_lin (Gh (f + 1) H) Gh_lin (fun i _ i2 => gR0_gh (by omega)) q i (Nat.zero_le _) (by omega)
    have t1 : ∀ i b, i < f + 1 → b < f + 1 → (R1 i (6 + b)).natAbs ≤ Om (6 - f) := fun i b hi hb => T0_1 (c := 6 + b) oG.1 (fun i _ => gR0_hi) gG q i hi
    have I0 : Ind (f + 1) (gR0 H) := Ind_cgR (fun i c _ hc => (gR0_lo hc).symm) (Hnf_ind c1)
    have L1 : LI (f + 1) (gR0 H) R1 := LI_ga (by omega) ⟨Same_rf, I0⟩ q
    have sp1 : ∀ v, Sp (f + 1) H v ↔ Sp (f + 1) R1 v := fun v => ⟨fun y => Sp_sub L1.1.1 (Sp_cgR (fun i c _ hc => (gR0_lo hc).symm) y), fun y => Sp_cgR (fun i c _ hc => gR0_lo hc) (Sp_sub L1.1.2 y)⟩
    have gz : ∀ i, 0 < i → i < f + 1 → gn (R1 i) p = 0 := fun i i1 i2 => by
      rw [← og i i2]
      exact nz i i1 (by omega)
    refine ⟨ro1, ov1, R1, o1, q2, g6, gO, n0, o1r 0 (by omega), (og 0 (by omega)).symm, gz, gh1 0 (by omega), fun b hb => t1 0 b (by omega) hb, sp1, ?_⟩
    have e62 : E6 f (aS ro1 (6 * f)) (fun i c => R1 (i + 1) c) := fun i hi c hc => by
      show aS ro1 (6 * f) (6 * i + c) = _
      unfold aS
      rw [if_pos (by omega), show 6 * i + c + 6 = 6 * (i + 1) + c by omega]
      exact g6 (i + 1) (by omega) c hc
    have ls2 : ∀ (t : Nat → Int) c n, ls t R1 (n + 1) c = t 0 * R1 0 c + ls (fun i => t (i + 1)) (fun i c => R1 (i + 1) c) n c := fun t c n => by
      induction n with
      | zero =>
        show 0 + t 0 * R1 0 c = t 0 * R1 0 c + 0
        omega
      | succ n ih =>
        show ls t R1 (n + 1) c + t (n + 1) * R1 (n + 1) c = t 0 * R1 0 c + (ls (fun i => t (i + 1)) (fun i c => R1 (i + 1) c) n c + t (n + 1) * R1 (n + 1) c)
        rw [ih]
        omega
    have I2 : Ind f (fun i c => R1 (i + 1) c) := fun t ht i hi => by
      have := L1.2 (fun i => if i = 0 then 0 else t (i - 1)) (fun c hc => by
        rw [ls2, if_pos rfl, Int.zero_mul, Int.zero_add, ← ht c hc]
        exact ls_cg (fun i hi => by
          rw [if_neg (by omega)]
          rfl)) (i + 1) (by omega)
      rw [if_neg (by omega)] at this
      exact this
    have sp2 : ∀ v, Sp f (fun i c => R1 (i + 1) c) v ↔ Sp (f + 1) H v ∧ gn v p = 0 := fun v => by
      rw [sp1]
      constructor
      · rintro ⟨t, ht⟩
        refine ⟨⟨fun i => if i = 0 then 0 else t (i - 1), fun c hc => ?_⟩, ?_⟩
        · rw [ls2, if_pos rfl, Int.zero_mul, Int.zero_add, ht c hc]
          exact ls_cg (fun i hi => by
            rw [if_neg (by omega)]
            rfl)
        · unfold gn
          rw [sm_cg (G := fun e => ls t (fun i c => R1 (i + 1) c) f e * p e) (fun e he => by rw [ht e he]), ls_gain]
          exact sm_0 (fun b hb => by
            have := gz (b + 1) (by omega) (by omega)
            unfold gn at this
            rw [this, Int.mul_zero])
      · rintro ⟨⟨t, ht⟩, hz⟩
        have e : gn v p = t 0 * o1 0 := by
          unfold gn
          rw [sm_cg (G := fun e => ls t R1 (f + 1) e * p e) (fun e he => by rw [ht e he]), ls_gain, sm_out (show 0 < f + 1 by omega), sm_0 (F := fun e => if e = 0 then 0 else t e * sm (fun e_1 => R1 e e_1 * p e_1) 6) (fun b hb => by
            by_cases z : b = 0
            · rw [if_pos z]
            · have := gz b (by omega) hb
              unfold gn at this
              rw [if_neg z, this, Int.mul_zero]), Int.add_zero, og 0 (by omega)]
          rfl
        rw [hz] at e
        have t0 : t 0 = 0 := by
          rcases Int.mul_eq_zero.mp e.symm with y | y
          · exact y
          · exact absurd y n0
        exact ⟨fun i => t (i + 1), fun c hc => by rw [ht c hc, ls2, t0, Int.zero_mul, Int.zero_add]⟩
    have B : OB (f + 1) f (Om (6 - f)) (Kt f) H hH (fun b => gn (H b) p) 0 0 (fun i c => R1 (i + 1) c) := by
      refine OB_st (fun i hi => gh1 (i + 1) (by omega)) (fun i hi => (Gh_gk (gh1 (i + 1) (by omega))).mpr (gz (i + 1) (by omega) (by omega))) (fun i b hi hb => t1 (i + 1) b (by omega) hb) (fun i k a b hi hk ha hb => ?_)
      have cr := min_2 (t1 (i + 1) a (by omega) ha) (t1 (k + 1) b (by omega) hb) (t1 (k + 1) a (by omega) ha) (t1 (i + 1) b (by omega) hb)
      have sh : 4 ≤ f → a ≠ b → (R1 (i + 1) (6 + a) * R1 (k + 1) (6 + b) - R1 (i + 1) (6 + b) * R1 (k + 1) (6 + a)).natAbs ^ 11 * 128 ≤ Om (6 - f) ^ 11 * Om (6 - f) ^ 7 := fun f4 hab => T0_2 (c := 6 + a) (d := 6 + b) (by
        have : f = 4 ∨ f = 5 := by omega
        rcases this with e | e <;> subst e <;> decide) (by omega) (fun i _ => ⟨gR0_hi, gR0_hi⟩) gG (by omega) q (i + 1) (k + 1) (by omega) (by omega) (by omega) (by omega)
      rw [Int.mul_comm (R1 (k + 1) (6 + a))]
      rw [Int.mul_comm (R1 (k + 1) (6 + a))] at cr
      have : f = 1 ∨ f = 2 ∨ f = 3 ∨ f = 4 ∨ f = 5 := by omega
      by_cases hab : a = b
      · rw [hab, Int.sub_self]
        exact Nat.zero_le _
      · rcases this with e | e | e | e | e
        · subst e
          rw [show i = k by omega, Int.mul_comm, Int.sub_self]
          exact Nat.zero_le _
        · subst e
          exact cr
        · subst e
          exact cr
        · subst e
          exact pw_2655 (sh (by omega) hab)
        · subst e
          exact pw_23 (sh (by omega) hab)
    obtain ⟨ro2, ov2, S, h, r1, r2, r3, r4⟩ := OB_hnf (R0 := fun i c => R1 (i + 1) c) (ro := aS ro1 (6 * f)) (ov := ov1) rfl c1 oG.1 gG b2 (OK_t f5) (fun v v1 v2 => (sp2 v).mpr ⟨Gh_sp v1, (Gh_gk v1).mp v2⟩) e62 ⟨Same_rf, I2⟩ B
    refine ⟨ro2, ov2, S, h, r1, r2, r3, fun v => ?_⟩
    rw [← sp2]
    exact ⟨fun y => Sp_sub r4.2 y, fun y => Sp_sub r4.1 y⟩
