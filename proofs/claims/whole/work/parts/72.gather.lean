/-! ## gathers: the machine's numbers go as the whole numbers do; what stays; the end -/
theorem gaZ_1 {g : Nat} {R : Nat → Nat → Int} {o : Nat → Int} {f n : Nat} : gaZ (g + 1) R o f n = (match gzl o f n with
    | none => some (false, R, o)
    | some r => if zm (zO (zsw o f r) f (n - 1)) f (n - 1) = true then gaZ g (zR (zsw R f r) (zsw o f r) f (n - 1)) (zO (zsw o f r) f (n - 1)) f n else some (true, zR (zsw R f r) (zsw o f r) f (n - 1), zO (zsw o f r) f (n - 1))) := rfl
theorem zsw_f {α : Type} {a : Nat → α} {f r : Nat} : zsw a f r f = a r := by
  unfold zsw
  by_cases e : f = r
  · rw [if_pos e, e]
  · rw [if_neg e, if_pos rfl]
theorem zsw_in {α : Type} {a : Nat → α} {f r n : Nat} (h1 : f ≤ r) (h2 : r < f + n) {P : α → Prop} (h : ∀ i, f ≤ i → i < f + n → P (a i)) : ∀ i, f ≤ i → i < f + n → P (zsw a f r i) := fun i i1 i2 => by
  unfold zsw
  by_cases e : i = r
  · rw [if_pos e]
    exact h f (Nat.le_refl _) (by omega)
  · rw [if_neg e]
    by_cases e2 : i = f
    · rw [if_pos e2]
      exact h r h1 h2
    · rw [if_neg e2]
      exact h i i1 i2
/-- the least comes first: what a round stands on -/
theorem zsw_le {o : Nat → Int} {f r n : Nat} (h1 : f ≤ r) (h2 : r < f + n) (h3 : o r ≠ 0) (h4 : ∀ i, f ≤ i → i < f + n → o i = 0 ∨ (o r).natAbs ≤ (o i).natAbs) : zsw o f r f ≠ 0 ∧ ∀ i, f ≤ i → i < f + n → zsw o f r i = 0 ∨ (zsw o f r f).natAbs ≤ (zsw o f r i).natAbs := by
  rw [zsw_f]
  exact ⟨h3, zsw_in h1 h2 (P := fun (x : Int) => x = 0 ∨ (o r).natAbs ≤ x.natAbs) h4⟩
theorem ga_sim : ∀ (g : Nat) {m f n : Nat} {ro ov : Nat → Int64} {R R1 : Nat → Nat → Int} {o o1 : Nat → Int} {b : Bool}, f + n ≤ m → E6 m ro R → EO m ov o → (∀ i, f ≤ i → i < f + n → rg (o i)) → gaZ g R o f n = some (b, R1, o1) → ∃ ro1 ov1 : Nat → Int64, r_ga g ro ov f n = some (b, ro1, ov1) ∧ E6 m ro1 R1 ∧ EO m ov1 o1
  | 0, m, f, n, ro, ov, R, R1, o, o1, b, hm, h6, hO, hr, q => by cases q
  | g + 1, m, f, n, ro, ov, R, R1, o, o1, b, hm, h6, hO, hr, q => by
    have eg := gzl_sim (n := n) (f := f) (ov := ov) (o := o) (fun i h1 h2 => ⟨hO i (by omega), hr i h1 h2⟩)
    rw [gaZ_1] at q
    cases hg : gzl o f n with
    | none =>
      rw [hg] at q
      dsimp only at q
      cases q
      refine ⟨ro, ov, ?_, h6, hO⟩
      show (match gl ov f n with
        | none => some (false, ro, ov)
        | some r => _) = _
      rw [eg, hg]
    | some r =>
      rw [hg] at q
      dsimp only at q
      obtain ⟨a1, a2, a3, a4⟩ := gzl_s hg
      have s6 := E6_sw h6 (f := f) (r := r) (by omega) (by omega)
      have sO := EO_sw hO (f := f) (r := r) (by omega) (by omega)
      have sr : ∀ i, f ≤ i → i < f + n → rg (zsw o f r i) := zsw_in a1 a2 hr
      have s0 : zsw o f r f ≠ 0 := by rw [zsw_f]; exact a3
      have t6 := gt_sim s6 sO (f := f) (by omega) (sr f (Nat.le_refl _) (by omega)) (n - 1) (by omega) (fun i h1 h2 => sr i (by omega) (by omega))
      have tm := gm_sim s6 sO (f := f) (by omega) (sr f (Nat.le_refl _) (by omega)) s0 (n - 1) (by omega) (fun i h1 h2 => sr i (by omega) (by omega)) (n - 1) (Nat.le_refl _)
      have er : r_ga (g + 1) ro ov f n = if gm (sw_row ro f r 6) (gsw ov f r) f (n - 1) = true then r_ga g (gtS (sw_row ro f r 6) (gsw ov f r) f (n - 1)).1 (gtS (sw_row ro f r 6) (gsw ov f r) f (n - 1)).2 f n else some (true, (gtS (sw_row ro f r 6) (gsw ov f r) f (n - 1)).1, (gtS (sw_row ro f r 6) (gsw ov f r) f (n - 1)).2) := by
        show (match gl ov f n with
          | none => some (false, ro, ov)
          | some r => _) = _
        rw [eg, hg]
      rw [er, tm]
      by_cases z : zm (zO (zsw o f r) f (n - 1)) f (n - 1) = true
      · rw [if_pos z] at q ⊢
        exact ga_sim g hm t6.1 t6.2 (fun i h1 h2 => zO_rg s0 (sr i h1 h2)) q
      · rw [if_neg z] at q ⊢
        cases q
        exact ⟨_, _, rfl, t6.1, t6.2⟩
/-- what stays when two change places and in a round stays to the end -/
theorem gaZ_inv {f n : Nat} (P : (Nat → Nat → Int) → (Nat → Int) → Prop) (hs : ∀ (R : Nat → Nat → Int) (o : Nat → Int) (r : Nat), f ≤ r → r < f + n → P R o → P (zsw R f r) (zsw o f r)) (hr : ∀ (R : Nat → Nat → Int) (o : Nat → Int), 0 < n → o f ≠ 0 → (∀ i, f ≤ i → i < f + n → o i = 0 ∨ (o f).natAbs ≤ (o i).natAbs) → P R o → P (zR R o f (n - 1)) (zO o f (n - 1))) : ∀ (g : Nat) {R R1 : Nat → Nat → Int} {o o1 : Nat → Int} {b : Bool}, P R o → gaZ g R o f n = some (b, R1, o1) → P R1 o1
  | 0, R, R1, o, o1, b, _, q => by cases q
  | g + 1, R, R1, o, o1, b, h, q => by
    rw [gaZ_1] at q
    cases hg : gzl o f n with
    | none =>
      rw [hg] at q
      dsimp only at q
      cases q
      exact h
    | some r =>
      rw [hg] at q
      dsimp only at q
      obtain ⟨a1, a2, a3, a4⟩ := gzl_s hg
      obtain ⟨b1, b2⟩ := zsw_le a1 a2 a3 a4
      have h2 := hr _ _ (by omega) b1 b2 (hs R o r a1 a2 h)
      split at q
      · exact gaZ_inv P hs hr g h2 q
      · cases q
        exact h2
/-- the end -/
theorem gaZ_end : ∀ (g : Nat) {f n : Nat} {R R1 : Nat → Nat → Int} {o o1 : Nat → Int} {b : Bool}, gaZ g R o f n = some (b, R1, o1) → (b = true → o1 f ≠ 0 ∧ ∀ i, f < i → i < f + n → o1 i = 0) ∧ (b = false → R1 = R ∧ o1 = o ∧ ∀ i, f ≤ i → i < f + n → o i = 0)
  | 0, f, n, R, R1, o, o1, b, q => by cases q
  | g + 1, f, n, R, R1, o, o1, b, q => by
    rw [gaZ_1] at q
    cases hg : gzl o f n with
    | none =>
      rw [hg] at q
      dsimp only at q
      cases q
      exact ⟨(fun z => by cases z), fun _ => ⟨rfl, rfl, gzl_n hg⟩⟩
    | some r =>
      rw [hg] at q
      dsimp only at q
      obtain ⟨a1, a2, a3, a4⟩ := gzl_s hg
      by_cases z : zm (zO (zsw o f r) f (n - 1)) f (n - 1) = true
      · rw [if_pos z] at q
        have ih := gaZ_end g q
        refine ⟨ih.1, fun y => ?_⟩
        have h0 := (ih.2 y).2.2 f (Nat.le_refl _) (by omega)
        rw [show zO (zsw o f r) f (n - 1) f = zsw o f r f from if_neg (by omega), zsw_f] at h0
        exact absurd h0 a3
      · rw [if_neg z] at q
        cases q
        refine ⟨fun _ => ⟨?_, fun i h1 h2 => ?_⟩, fun y => by cases y⟩
        · rw [show zO (zsw o f r) f (n - 1) f = zsw o f r f from if_neg (by omega), zsw_f]
          exact a3
        · exact zm_iff.mp (Bool.eq_false_iff.mpr z) i h1 (by omega)
/-- it ends -/
theorem gaZ_ex {f n : Nat} : ∀ (M : Nat) (R : Nat → Nat → Int) (o : Nat → Int), ((∀ i, f ≤ i → i < f + n → o i = 0) ∨ ∃ i, f ≤ i ∧ i < f + n ∧ o i ≠ 0 ∧ (o i).natAbs ≤ M) → ∃ (b : Bool) (R1 : Nat → Nat → Int) (o1 : Nat → Int), gaZ (M + 1) R o f n = some (b, R1, o1)
  | M, R, o, h => by
    rw [gaZ_1]
    cases hg : gzl o f n with
    | none => exact ⟨_, _, _, rfl⟩
    | some r =>
      dsimp only
      obtain ⟨a1, a2, a3, a4⟩ := gzl_s hg
      by_cases z : zm (zO (zsw o f r) f (n - 1)) f (n - 1) = true
      · rw [if_pos z]
        have hM : (o r).natAbs ≤ M := by
          rcases h with h | ⟨i, h1, h2, h3, h4⟩
          · exact absurd (h r a1 a2) a3
          · rcases a4 i h1 h2 with y | y
            · exact absurd y h3
            · omega
        obtain ⟨M1, rfl⟩ : ∃ M1, M = M1 + 1 := ⟨M - 1, by omega⟩
        refine gaZ_ex M1 _ _ (Or.inr ?_)
        have hz : ¬ ∀ i, f < i → i < f + 1 + (n - 1) → zO (zsw o f r) f (n - 1) i = 0 := fun y => by
          rw [zm_iff.mpr y] at z
          cases z
        obtain ⟨i, hi⟩ := Classical.not_forall.mp hz
        obtain ⟨h1, hi⟩ := Classical.not_forall.mp hi
        obtain ⟨h2, hi⟩ := Classical.not_forall.mp hi
        refine ⟨i, by omega, by omega, hi, ?_⟩
        rw [show zO (zsw o f r) f (n - 1) i = zsw o f r i - (zsw o f r i).tdiv (zsw o f r f) * zsw o f r f from if_pos ⟨h1, h2⟩]
        have := (@td_facts (zsw o f r i) (zsw o f r f) (by rw [zsw_f]; exact a3)).1
        rw [zsw_f] at this ⊢
        omega
      · rw [if_neg z]
        exact ⟨_, _, _, rfl⟩
