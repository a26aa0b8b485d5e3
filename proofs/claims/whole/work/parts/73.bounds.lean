/-! ## What stays bounded in gathers -/
def zp (f r i : Nat) : Nat := if i = r then f else if i = f then r else i
theorem zsw_p {α : Type} {a : Nat → α} {f r i : Nat} : zsw a f r i = a (zp f r i) := by
  unfold zsw zp
  by_cases e : i = r
  · rw [if_pos e, if_pos e]
  · rw [if_neg e, if_neg e]
    by_cases e2 : i = f
    · rw [if_pos e2, if_pos e2]
    · rw [if_neg e2, if_neg e2]
theorem zp_in {f r n i : Nat} (h1 : f ≤ r) (h2 : r < f + n) (i1 : f ≤ i) (i2 : i < f + n) : f ≤ zp f r i ∧ zp f r i < f + n := by
  unfold zp
  split
  · omega
  · split <;> omega
/-- a column and its 2-minors with what is gathered are bounded -/
def KB (f n M c : Nat) (R : Nat → Nat → Int) (o : Nat → Int) : Prop := (∀ i, f ≤ i → i < f + n → (R i c).natAbs ≤ M) ∧ ∀ i j, f ≤ i → i < f + n → f ≤ j → j < f + n → (o i * R j c - o j * R i c).natAbs ≤ M
theorem zR_f {R : Nat → Nat → Int} {o : Nat → Int} {f k c : Nat} : zR R o f k f c = R f c := if_neg (by omega)
theorem zO_f {o : Nat → Int} {f k : Nat} : zO o f k f = o f := if_neg (by omega)
theorem zR_i {R : Nat → Nat → Int} {o : Nat → Int} {f n c i : Nat} (h1 : f < i) (h2 : i < f + n) : zR R o f (n - 1) i c = R i c - (o i).tdiv (o f) * R f c := if_pos (by omega)
theorem zO_i {o : Nat → Int} {f n i : Nat} (h1 : f < i) (h2 : i < f + n) : zO o f (n - 1) i = o i - (o i).tdiv (o f) * o f := if_pos (by omega)
theorem KB_ga {f n M c g : Nat} {R R1 : Nat → Nat → Int} {o o1 : Nat → Int} {b : Bool} (h : KB f n M c R o) (q : gaZ g R o f n = some (b, R1, o1)) : KB f n M c R1 o1 := by
  refine gaZ_inv (KB f n M c) ?_ ?_ g h q
  · intro R o r h1 h2 h
    refine ⟨fun i i1 i2 => ?_, fun i j i1 i2 j1 j2 => ?_⟩
    · rw [zsw_p]
      have := zp_in h1 h2 i1 i2
      exact h.1 _ this.1 this.2
    · rw [zsw_p, zsw_p, zsw_p, zsw_p]
      have a := zp_in h1 h2 i1 i2
      have b := zp_in h1 h2 j1 j2
      exact h.2 _ _ a.1 a.2 b.1 b.2
  · intro R o hn hf hl h
    have hff : f < f + n := by omega
    refine ⟨fun i i1 i2 => ?_, fun i j i1 i2 j1 j2 => ?_⟩
    · rcases Nat.eq_or_lt_of_le i1 with e | e
      · subst e
        rw [zR_f]
        exact h.1 _ i1 i2
      · rw [zR_i e i2]
        exact v_round hf (h.2 f i (Nat.le_refl _) hff i1 i2) (h.1 f (Nat.le_refl _) hff)
    · rcases Nat.eq_or_lt_of_le i1 with e | e
      · subst e
        rcases Nat.eq_or_lt_of_le j1 with e2 | e2
        · subst e2
          rw [Int.sub_self]
          exact Nat.zero_le _
        · rw [zR_f, zO_f, zR_i e2 j2, zO_i e2 j2, show o f * (R j c - (o j).tdiv (o f) * R f c) - (o j - (o j).tdiv (o f) * o f) * R f c = o f * R j c - o j * R f c by grind]
          exact h.2 f j i1 i2 j1 j2
      · rcases Nat.eq_or_lt_of_le j1 with e2 | e2
        · subst e2
          rw [zR_f, zO_f, zR_i e i2, zO_i e i2, show (o i - (o i).tdiv (o f) * o f) * R f c - o f * (R i c - (o i).tdiv (o f) * R f c) = o i * R f c - o f * R i c by grind]
          exact h.2 i f i1 i2 j1 j2
        · rw [zR_i e i2, zO_i e i2, zR_i e2 j2, zO_i e2 j2]
          exact k_round hf (h.2 f i (Nat.le_refl _) hff i1 i2) (h.2 f j (Nat.le_refl _) hff j1 j2) (h.2 i j i1 i2 j1 j2)
/-- a step: the least comes first, and a round -/
theorem gaZ_stp {f n : Nat} (P : (Nat → Nat → Int) → (Nat → Int) → Prop) (hs : ∀ (R : Nat → Nat → Int) (o : Nat → Int) (r : Nat), f ≤ r → r < f + n → o r ≠ 0 → (∀ i, f ≤ i → i < f + n → o i = 0 ∨ (o r).natAbs ≤ (o i).natAbs) → P R o → P (zR (zsw R f r) (zsw o f r) f (n - 1)) (zO (zsw o f r) f (n - 1))) : ∀ (g : Nat) {R R1 : Nat → Nat → Int} {o o1 : Nat → Int} {b : Bool}, P R o → gaZ g R o f n = some (b, R1, o1) → P R1 o1
  | 0, R, R1, o, o1, b, _, q => by cases q
  | g + 1, R, R1, o, o1, b, h, q => by
    rw [gaZ_1] at q
    cases hg : gzl o f n with
    | none =>
      rw [hg] at q
      dsimp only at q
      cases q
      exact h
    | some r =>
      rw [hg] at q
      dsimp only at q
      obtain ⟨a1, a2, a3, a4⟩ := gzl_s hg
      have h2 := hs R o r a1 a2 a3 a4 h
      split at q
      · exact gaZ_stp P hs g h2 q
      · cases q
        exact h2
def w3r (R : Nat → Nat → Int) (o : Nat → Int) (c d i j k : Nat) : Int := w3 (o i) (R i c) (R i d) (o j) (R j c) (R j d) (o k) (R k c) (R k d)
theorem w3_ii {a b c x y z : Int} : w3 a b c a b c x y z = 0 := by
  unfold w3
  grind
theorem w3_ik {a b c x y z : Int} : w3 a b c x y z a b c = 0 := by
  unfold w3
  grind
theorem w3_jk {a b c x y z : Int} : w3 x y z a b c a b c = 0 := by
  unfold w3
  grind
theorem w3_12 {a b c x y z u v w : Int} : w3 a b c x y z u v w = -w3 x y z a b c u v w := by
  unfold w3
  grind
theorem w3_23 {a b c x y z u v w : Int} : w3 a b c x y z u v w = -w3 a b c u v w x y z := by
  unfold w3
  grind
/-- 3-minors with what is gathered: all by W, those of the first row so that V holds; what is gathered by P -/
def WB (f n C c d : Nat) (R : Nat → Nat → Int) (o : Nat → Int) : Prop := ∃ W P : Nat, (∀ i, f ≤ i → i < f + n → (o i).natAbs ≤ P) ∧ (∀ i j k, f ≤ i → i < f + n → f ≤ j → j < f + n → f ≤ k → k < f + n → (w3r R o c d i j k).natAbs ≤ W) ∧ W ^ 11 * P ^ 7 ≤ C ∧ (∀ j k, f ≤ j → j < f + n → f ≤ k → k < f + n → (w3r R o c d f j k).natAbs ^ 11 * 128 ≤ C) ∧ (2 ≤ P ∨ ∀ i, f < i → i < f + n → o i = 0)
theorem td_q {x y : Int} {P : Nat} (hy : y ≠ 0) (h : x.natAbs ≤ P) : (x.tdiv y).natAbs ≤ P / y.natAbs := by
  rw [Int.natAbs_tdiv]
  exact Nat.div_le_div_right h
theorem WB_st {f n C c d : Nat} : ∀ (R : Nat → Nat → Int) (o : Nat → Int) (r : Nat), f ≤ r → r < f + n → o r ≠ 0 → (∀ i, f ≤ i → i < f + n → o i = 0 ∨ (o r).natAbs ≤ (o i).natAbs) → WB f n C c d R o → WB f n C c d (zR (zsw R f r) (zsw o f r) f (n - 1)) (zO (zsw o f r) f (n - 1)) := by
  intro R o r r1 r2 r3 r4 h
  obtain ⟨W, P, hP, hW, hC, hV, h2⟩ := h
  rcases h2 with h2 | h2
  · -- a true round
    have hrP := hP r r1 r2
    have hrn : 0 < (o r).natAbs := by omega
    generalize hq : P / (o r).natAbs = q
    have hq1 : 1 ≤ q := by rw [← hq]; exact Nat.div_pos hrP hrn
    have hqP : q * (o r).natAbs ≤ P := by rw [← hq]; exact Nat.div_mul_le_self _ _
    have s0 : zsw o f r f = o r := zsw_f
    have sle := (zsw_le r1 r2 r3 r4)
    have hff : f < f + n := by omega
    have sP : ∀ i, f ≤ i → i < f + n → (zsw o f r i).natAbs ≤ P := fun i i1 i2 => by
      rw [zsw_p]
      have := zp_in r1 r2 i1 i2
      exact hP _ this.1 this.2
    have sW : ∀ i j k, f ≤ i → i < f + n → f ≤ j → j < f + n → f ≤ k → k < f + n → (w3r (zsw R f r) (zsw o f r) c d i j k).natAbs ≤ W := fun i j k i1 i2 j1 j2 k1 k2 => by
      unfold w3r
      rw [zsw_p, zsw_p, zsw_p, zsw_p, zsw_p, zsw_p]
      have a := zp_in r1 r2 i1 i2
      have b := zp_in r1 r2 j1 j2
      have e := zp_in r1 r2 k1 k2
      exact hW _ _ _ a.1 a.2 b.1 b.2 e.1 e.2
    generalize zsw R f r = S at sW ⊢
    generalize hp : zsw o f r = p at s0 sle sP sW ⊢
    have qi : ∀ i, f ≤ i → i < f + n → ((p i).tdiv (p f)).natAbs ≤ q := fun i i1 i2 => by
      rw [← hq, ← s0]
      exact td_q sle.1 (sP i i1 i2)
    -- triples with the first row do not change
    have t0 : ∀ j k, f ≤ j → j < f + n → f ≤ k → k < f + n → w3r (zR S p f (n - 1)) (zO p f (n - 1)) c d f j k = w3r S p c d f j k := fun j k j1 j2 k1 k2 => by
      unfold w3r
      rcases Nat.eq_or_lt_of_le j1 with e | e
      · subst e
        rw [w3_ii, w3_ii]
      · rcases Nat.eq_or_lt_of_le k1 with e2 | e2
        · subst e2
          rw [w3_ik, w3_ik]
        · rw [zR_f, zR_f, zO_f, zR_i e j2, zR_i e j2, zO_i e j2, zR_i e2 k2, zR_i e2 k2, zO_i e2 k2]
          exact w_piv
    have t1 : ∀ i j k, f ≤ i → i < f + n → f ≤ j → j < f + n → f ≤ k → k < f + n → 2 * (w3r (zR S p f (n - 1)) (zO p f (n - 1)) c d i j k).natAbs ≤ (q + 1) * W ∧ (w3r (zR S p f (n - 1)) (zO p f (n - 1)) c d i j k).natAbs ≤ 2 * W := fun i j k i1 i2 j1 j2 k1 k2 => by
      have big : ∀ x : Nat, x ≤ W → 2 * x ≤ (q + 1) * W ∧ x ≤ 2 * W := fun x hx => by
        refine ⟨?_, by omega⟩
        have : 2 * W ≤ (q + 1) * W := Nat.mul_le_mul_right _ (by omega)
        omega
      rcases Nat.eq_or_lt_of_le i1 with e | e
      · subst e
        rw [t0 j k j1 j2 k1 k2]
        exact big _ (sW _ _ _ i1 i2 j1 j2 k1 k2)
      · rcases Nat.eq_or_lt_of_le j1 with e2 | e2
        · subst e2
          have z := t0 i k i1 i2 k1 k2
          unfold w3r at z ⊢
          rw [w3_12, Int.natAbs_neg, z]
          exact big _ (sW _ _ _ j1 j2 i1 i2 k1 k2)
        · rcases Nat.eq_or_lt_of_le k1 with e3 | e3
          · subst e3
            have z := t0 i j i1 i2 j1 j2
            unfold w3r at z ⊢
            rw [w3_23, Int.natAbs_neg, w3_12, Int.natAbs_neg, z]
            exact big _ (sW _ _ _ k1 k2 i1 i2 j1 j2)
          · unfold w3r
            rw [zR_i e i2, zR_i e i2, zO_i e i2, zR_i e2 j2, zR_i e2 j2, zO_i e2 j2, zR_i e3 k2, zR_i e3 k2, zO_i e3 k2]
            exact w_round sle.1 hq1 (sle.2 i i1 i2) (sle.2 j j1 j2) (sle.2 k k1 k2) (qi i i1 i2) (qi j j1 j2) (qi k k1 k2) (sW _ _ _ (Nat.le_refl _) hff j1 j2 k1 k2) (sW _ _ _ (Nat.le_refl _) hff i1 i2 k1 k2) (sW _ _ _ (Nat.le_refl _) hff i1 i2 j1 j2) (sW _ _ _ i1 i2 j1 j2 k1 k2)
    refine ⟨min ((q + 1) * W / 2) (2 * W), (o r).natAbs, fun i i1 i2 => ?_, fun i j k i1 i2 j1 j2 k1 k2 => ?_, ?_, fun j k j1 j2 k1 k2 => ?_, ?_⟩
    · rcases Nat.eq_or_lt_of_le i1 with e | e
      · subst e
        rw [zO_f, s0]
        exact Nat.le_refl _
      · rw [zO_i e i2, ← s0]
        exact Nat.le_of_lt (@td_facts (p i) (p f) sle.1).1
    · have := t1 i j k i1 i2 j1 j2 k1 k2
      omega
    · refine Nat.le_trans (w_pot hq1 ?_ ?_ hqP) hC
      · omega
      · omega
    · rw [t0 j k j1 j2 k1 k2]
      have a := sW f j k (Nat.le_refl _) hff j1 j2 k1 k2
      refine Nat.le_trans (Nat.mul_le_mul (Nat.pow_le_pow_left a 11) (show 128 ≤ P ^ 7 from ?_)) hC
      exact Nat.le_trans (by decide : 128 ≤ 2 ^ 7) (Nat.pow_le_pow_left h2 7)
    · rcases Nat.lt_or_ge 1 (o r).natAbs with z | z
      · exact Or.inl z
      · refine Or.inr (fun i i1 i2 => ?_)
        rw [zO_i i1 i2]
        have := (@td_facts (p i) (p f) sle.1).1
        rw [s0] at this ⊢
        omega
  · -- only the first is not 0
    have er : r = f := by
      rcases Nat.eq_or_lt_of_le r1 with e | e
      · exact e.symm
      · exact absurd (h2 r e r2) r3
    subst er
    have e1 : ∀ {α : Type} (a : Nat → α), zsw a r r = a := fun a => by
      funext i
      unfold zsw
      by_cases e : i = r
      · rw [if_pos e, e]
      · rw [if_neg e, if_neg e]
    rw [e1, e1]
    have e2 : ∀ i, r ≤ i → i < r + n → zO o r (n - 1) i = o i := fun i i1 i2 => by
      rcases Nat.eq_or_lt_of_le i1 with e | e
      · subst e
        exact zO_f
      · rw [zO_i e i2, h2 i e i2, Int.zero_tdiv, Int.zero_mul, Int.sub_zero]
    have e3 : ∀ i c, r ≤ i → i < r + n → zR R o r (n - 1) i c = R i c := fun i c i1 i2 => by
      rcases Nat.eq_or_lt_of_le i1 with e | e
      · subst e
        exact zR_f
      · rw [zR_i e i2, h2 i e i2, Int.zero_tdiv, Int.zero_mul, Int.sub_zero]
    refine ⟨W, P, fun i i1 i2 => ?_, fun i j k i1 i2 j1 j2 k1 k2 => ?_, hC, fun j k j1 j2 k1 k2 => ?_, Or.inr (fun i i1 i2 => ?_)⟩
    · rw [e2 i i1 i2]
      exact hP i i1 i2
    · unfold w3r
      rw [e2 i i1 i2, e2 j j1 j2, e2 k k1 k2, e3 i c i1 i2, e3 i d i1 i2, e3 j c j1 j2, e3 j d j1 j2, e3 k c k1 k2, e3 k d k1 k2]
      exact hW i j k i1 i2 j1 j2 k1 k2
    · unfold w3r
      rw [e2 r r1 r2, e2 j j1 j2, e2 k k1 k2, e3 r c r1 r2, e3 r d r1 r2, e3 j c j1 j2, e3 j d j1 j2, e3 k c k1 k2, e3 k d k1 k2]
      exact hV j k j1 j2 k1 k2
    · rw [e2 i (by omega) i2]
      exact h2 i i1 i2
