/-! ## adds, where a saying gains nothing; both -/
theorem flz_0 {x D : Int} (h0 : 0 ≤ x) (h1 : x < D) : flz x D = 0 := by
  obtain ⟨a, b⟩ := @flz_b x D (by omega)
  generalize flz x D = q at *
  rcases Int.lt_trichotomy q 0 with z | z | z
  · have := Int.mul_le_mul_of_nonneg_right (show q ≤ -1 by omega) (show 0 ≤ D by omega)
    omega
  · exact z
  · have := Int.mul_le_mul_of_nonneg_right (show 1 ≤ q by omega) (show 0 ≤ D by omega)
    omega
theorem ga_self {d n g : Nat} {R R1 : Nat → Nat → Int} {o o1 : Nat → Int} (ho : ∀ i, d < i → i < d + n → o i = 0) (q : gaZ g R o d n = some (true, R1, o1)) : R1 = R := by
  have := gaZ_stp (f := d) (n := n) (fun S u => S = R ∧ ∀ i, d < i → i < d + n → u i = 0) (fun S u r h1 h2 h3 _ h => by
    obtain ⟨rfl, h⟩ := h
    have e : r = d := by
      rcases Nat.eq_or_lt_of_le h1 with y | y
      · exact y.symm
      · exact absurd (h r y h2) h3
    subst e
    have zs : zsw S r r = S := by
      funext i
      unfold zsw
      by_cases z : i = r
      · rw [if_pos z, z]
      · rw [if_neg z, if_neg z]
    have zu : zsw u r r = u := by
      funext i
      unfold zsw
      by_cases z : i = r
      · rw [if_pos z, z]
      · rw [if_neg z, if_neg z]
    rw [zs, zu]
    constructor
    · funext i c
      unfold zR
      by_cases z : r < i ∧ i < r + 1 + (n - 1)
      · rw [if_pos z, h i z.1 (by omega), Int.zero_tdiv, Int.zero_mul, Int.sub_zero]
      · rw [if_neg z]
    · intro i i1 i2
      unfold zO
      rw [if_pos (by omega), h i i1 i2, Int.zero_tdiv, Int.zero_mul]
      rfl) g ⟨rfl, ho⟩ q
  exact this.1
/-- rows in their order stay -/
theorem oC_same {f : Nat} {H : Nat → Nat → Int} {h : Nat → Nat} (hH : Hnf f H h) (hr : ∀ i c, i < f → c < 6 → rg (H i c)) {ro ov : Nat → Int64} (h6 : E6 f ro H) : ∃ ro1 ov1, oC (2 ^ 63 + 1) f 6 0 0 ro ov = some (ro1, ov1) ∧ E6 f ro1 H := by
  have ge : ∀ (j d : Nat) (R : Nat → Nat → Int) (h2 : Nat → Nat), j < 6 → Ech f j d R h2 → (∀ i c, i < f → c < 6 → R i c = H i c) → ∀ i, d ≤ i → i < f → j ≤ h i := fun j d R h2 hj E B i i1 i2 => by
    rcases Nat.lt_or_ge (h i) j with z | z
    · have a := E.2.2 i i1 i2 (h i) z
      rw [B i _ i2 (hH.1 i i2).1] at a
      have := (hH.1 i i2).2.1
      omega
    · exact z
  obtain ⟨ro1, ov1, R1, h1, q1, q2, -, -, q5⟩ := oC_hnf (f := f) (R0 := H) (fun _ _ R => ∀ i c, i < f → c < 6 → R i c = H i c) (fun j d R h2 hj hd _ E B i i1 i2 => by
      rw [B i j i2 hj]
      exact hr i j i2 hj) (fun j d R R1 o1 h2 hj hd _ E B q i i2 => by
      rw [B i j i2 hj]
      exact hr i j i2 hj) (fun j d R h2 hj hd _ E B z => B) (fun j d R R1 o1 h2 hj hd _ E B q => by
      have gd := ge j d R h2 hj E B
      have zz : ∀ i, d < i → i < f → R i j = 0 := fun i i1 i2 => by
        rw [B i j i2 hj]
        have := gd d (Nat.le_refl _) hd
        have := hH.2.1 d i i1 i2
        exact (hH.1 i i2).2.2 j (by omega)
      have e := ga_self (fun i i1 i2 => zz i i1 (by omega)) q
      have n0 := ((gaZ_end _ q).1 rfl).1
      rw [gaZ_col _ (j := j) (fun _ => rfl) q d, e, B d j hd hj] at n0
      rw [e]
      have hdj : h d = j := by
        have := gd d (Nat.le_refl _) hd
        rcases Nat.eq_or_lt_of_le this with y | y
        · exact y.symm
        · exact absurd ((hH.1 d hd).2.2 j y) n0
      have pos := (hH.1 d hd).2.1
      rw [hdj] at pos
      intro i c hi hc
      rcases Nat.lt_trichotomy i d with z | z | z
      · have w := hH.2.2 i d z hd
        rw [hdj] at w
        rw [cZ_lo z, B d j hd hj, if_neg (by omega), B i j hi hj, flz_0 w.1 w.2, Int.zero_mul, Int.sub_zero]
        exact B i c hi hc
      · rw [z, cZ_d, B d j hd hj, if_neg (by omega)]
        exact B d c hd hc
      · rw [cZ_hi z]
        exact B i c hi hc) (fun _ _ B => B) (ro := ro) (ov := ov) h6 ⟨Same_rf, Hnf_ind hH⟩ (fun _ _ _ _ => rfl)
  exact ⟨ro1, ov1, q1, fun i hi c hc => by rw [q2 i hi c hc, q5 i c hi hc]⟩
theorem yZ_same {f : Nat} {S : Nat → Nat → Int} {h : Nat → Nat} {Y : Nat → Int} (hY : ∀ l, l < f → 0 ≤ Y (h l) ∧ Y (h l) < S l (h l)) : ∀ {n : Nat}, n ≤ f → yZ S h Y n = Y
  | 0, _ => rfl
  | n + 1, hn => by
    funext j
    show yZ S h Y n j - flz (yZ S h Y n (h n)) (S n (h n)) * S n j = Y j
    have w := hY n (by omega)
    rw [yZ_same hY (n := n) (by omega), flz_0 w.1 w.2, Int.zero_mul, Int.sub_zero]
theorem Sp_gn0 {N : Nat} {H : Nat → Nat → Int} {v p : Nat → Int} (hg : ∀ b, b < N → gn (H b) p = 0) (hv : Sp N H v) : gn v p = 0 := by
  obtain ⟨t, ht⟩ := hv
  unfold gn
  rw [sm_cg (G := fun e => ls t H N e * p e) (fun e he => by rw [ht e he]), ls_gain]
  exact sm_0 (fun b hb => by
    have := hg b hb
    unfold gn at this
    rw [this, Int.mul_zero])
theorem ad_none {L : List (Nat → Int)} {N q : Nat} {H : Nat → Nat → Int} {hH : Nat → Nat} {X : Nat → Nat → Int} {po : Nat → Int32} (C : Can L N H hH X) (hL : Sm L) (hp : ∀ e, e < 10 → (po (q + e)).toInt.natAbs ≤ 9) (hg : ∀ b, b < N → gn (H b) (fun j => (po (q + j)).toInt) = 0) {ro ov c : Nat → Int64} (h6 : E6 N ro H) (hc : EC c X) : ∃ (is : Bool) (ro2 ov2 c2 : Nat → Int64), r_ad (2 ^ 63 + 1) N po q ro ov c = some (is, N, ro2, ov2, c2) ∧ (is = true ↔ Cons ((fun j => (po (q + j)).toInt) :: L)) ∧ (is = true → ∃ (S : Nat → Nat → Int) (h : Nat → Nat) (Y : Nat → Nat → Int), Can ((fun j => (po (q + j)).toInt) :: L) N S h Y ∧ E6 N ro2 S ∧ EC c2 Y) := by
  generalize ep : (fun j => (po (q + j)).toInt) = p at *
  have pe : ∀ j, (po (q + j)).toInt = p j := fun j => by rw [← ep]
  have hp9 : ∀ e, e < 10 → (p e).natAbs ≤ 9 := fun e he => by
    rw [← pe]
    exact hp e he
  obtain ⟨b1, b2, b3, b4⟩ := can_bd C hL hp9
  have oG := @Om_le (6 - N) (by omega)
  obtain ⟨c1, c2, c3, c4, A, k, nh, c5, c6⟩ := C
  have oG7 : Om (7 - N) < 2 ^ 63 := by
    have : N = 0 ∨ 7 - N ≤ 6 := by omega
    rcases this with e | e
    · subst e
      decide
    · have := (Om_le e).2
      omega
  have rr : ∀ b, b < 4 → rg (gn (X b) p + p (6 + b)) := fun b hb => by
    have := (b4 b hb).2
    unfold rg
    omega
  have Hr : ∀ i c, i < N → c < 6 → rg (H i c) := fun i c hi hc => by
    have := (b3 i hi).1 c hc
    unfold rg
    omega
  obtain ⟨ro1, ov1, q1, g6⟩ : ∃ ro1 ov1, aG (2 ^ 63 + 1) N ro (aK po q ro ov N) = some (false, ro1, ov1) ∧ E6 N ro1 H := by
    unfold aG
    by_cases z : 0 < N
    · rw [if_pos z]
      have hO := EO_aK (po := po) (q := q) (ov := ov) h6
      rw [ep] at hO
      have e : gaZ (2 ^ 63 + 1) H (fun i => gn (H i) p) 0 N = some (false, H, fun i => gn (H i) p) := by
        rw [gaZ_1]
        cases hz : gzl (fun i => gn (H i) p) 0 N with
        | none => rfl
        | some r =>
          exfalso
          have := gzl_s hz
          exact this.2.2.1 (hg r (by omega))
      obtain ⟨ro1, ov1, q2, g6, -⟩ := ga_sim (2 ^ 63 + 1) (m := N) (by omega) h6 hO (fun i _ i2 => by
        rw [hg i (by omega)]
        exact rg_0) e
      exact ⟨ro1, ov1, q2, g6⟩
    · rw [if_neg z]
      exact ⟨ro, _, rfl, h6⟩
  obtain ⟨ro2, ov2, r1, r2⟩ := oC_same (ov := ov1) c1 Hr g6
  have ab := aB_f (po := po) (q := q) (ro := ro1) (o0 := ov1 0) (c := c) (X := X) hc (by
    rw [ep]
    exact fun b hb => by rw [pe]; exact rr b hb) (k := 4) (Nat.le_refl _)
  rw [ep] at ab
  simp only [pe] at ab
  obtain ⟨ce, hce, hE⟩ := oF_sim (c := c) (Y := X) c1 r2 (fun i hi => Hr i _ hi (c1.1 i hi).1) hc (Nat.le_refl N) (fun b i hb hi => by
    rw [yZ_same (fun l hl => c4 b l hb hl) (by omega)]
    have := (b4 b hb).1 _ (c1.1 i hi).1
    unfold rg
    omega)
  have ead : r_ad (2 ^ 63 + 1) N po q ro ov c = some ((aB false po q ro1 (ov1 0) c 4).1, N, ro2, ov2, ce) := by
    unfold r_ad
    rw [q1]
    show (match r_or (2 ^ 63 + 1) N ro1 ov1 (aB false po q ro1 (ov1 0) c 4).2 with
      | none => none
      | some (ro2, ov2, c2) => some ((aB false po q ro1 (ov1 0) c 4).1, N, ro2, ov2, c2)) = _
    rw [ab.2]
    unfold r_or
    rw [r1]
    dsimp only
    rw [hce]
  refine ⟨_, ro2, ov2, ce, ead, ?_, fun is => ⟨H, hH, X, ⟨c1, fun v => ?_, fun b hb => Sl_cons.mpr ⟨ab.1.mp is b hb, c3 b hb⟩, c4, A, k, nh, c5, fun r hr => List.mem_cons_of_mem _ (c6 r hr)⟩, r2, fun b hb j hj => ?_⟩⟩
  · rw [ab.1]
    constructor
    · exact fun u b hb => ⟨X b, Sl_cons.mpr ⟨u b hb, c3 b hb⟩⟩
    · intro u b hb
      obtain ⟨x, hx⟩ := u b hb
      obtain ⟨x1, x2⟩ := Sl_cons.mp hx
      have d1 := Sp_gn0 hg ((c2 _).mpr (Sl_sub x2 (c3 b hb)))
      rw [gn_lin] at d1
      omega
  · rw [c2]
    constructor
    · intro u r hr
      rcases List.mem_cons.mp hr with e | e
      · rw [e]
        exact Sp_gn0 hg ((c2 v).mpr u)
      · exact u r e
    · exact fun u r hr => u r (List.mem_cons_of_mem _ hr)
  · rw [hE b hb j hj]
    dsimp only
    rw [yZ_same (fun l hl => c4 b l hb hl) (Nat.le_refl _)]
/-- adds -/
theorem ad_all {L : List (Nat → Int)} {N q : Nat} {H : Nat → Nat → Int} {hH : Nat → Nat} {X : Nat → Nat → Int} {po : Nat → Int32} (C : Can L N H hH X) (hL : Sm L) (hp : ∀ e, e < 10 → (po (q + e)).toInt.natAbs ≤ 9) {ro ov c : Nat → Int64} (h6 : E6 N ro H) (hc : EC c X) : ∃ (is : Bool) (f2 : Nat) (ro2 ov2 c2 : Nat → Int64), r_ad (2 ^ 63 + 1) N po q ro ov c = some (is, f2, ro2, ov2, c2) ∧ (is = true ↔ Cons ((fun j => (po (q + j)).toInt) :: L)) ∧ (is = true → ∃ (S : Nat → Nat → Int) (h : Nat → Nat) (Y : Nat → Nat → Int), Can ((fun j => (po (q + j)).toInt) :: L) f2 S h Y ∧ E6 f2 ro2 S ∧ EC c2 Y) := by
  by_cases z : ∃ b, b < N ∧ gn (H b) (fun j => (po (q + j)).toInt) ≠ 0
  · cases N with
    | zero =>
      obtain ⟨b, b1, -⟩ := z
      omega
    | succ f =>
      obtain ⟨is, ro2, ov2, c2, a⟩ := ad_one (ov := ov) C hL hp z h6 hc
      exact ⟨is, f, ro2, ov2, c2, a⟩
  · obtain ⟨is, ro2, ov2, c2, a⟩ := ad_none (ov := ov) C hL hp (fun b hb => Decidable.of_not_not (fun q => z ⟨b, hb, q⟩)) h6 hc
    exact ⟨is, N, ro2, ov2, c2, a⟩
