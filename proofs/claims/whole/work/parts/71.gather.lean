/-! ## gathers as it is: on whole numbers, with any columns beside the six -/
abbrev zI (a : Int) : Int64 := Int64.ofInt a
/-- in range -/
def rg (a : Int) : Prop := a.natAbs < 2 ^ 63
theorem zI_toInt {a : Int} (h : rg a) : (zI a).toInt = a := by
  unfold rg at h
  exact Int64.toInt_ofInt_of_le (by omega) (by omega)
theorem zI_div {a b : Int} (ha : rg a) : zI a / zI b = zI (a.tdiv b) ∨ ¬ rg b := by
  by_cases hb : rg b
  · refine Or.inl ?_
    unfold rg at ha hb
    refine (Int64.ofInt_tdiv ?_ ?_ ?_ ?_).symm <;> simp [Int64.toInt_minValue, Int64.toInt_maxValue] <;> omega
  · exact Or.inr hb
theorem zI_d {a b : Int} (ha : rg a) (hb : rg b) : zI a / zI b = zI (a.tdiv b) := (zI_div ha).resolve_right (fun z => z hb)
theorem zI_0 : zI 0 = 0 := rfl
theorem zI_eq0 {a : Int} (h : rg a) : zI a = 0 ↔ a = 0 := by
  constructor
  · intro z
    have := congrArg Int64.toInt z
    rw [zI_toInt h] at this
    exact this
  · intro z
    rw [z]
    rfl
theorem zI_lt {a b : Int} (ha : rg a) (hb : rg b) : zI a < zI b ↔ a < b := by
  rw [Int64.lt_iff_toInt_lt, zI_toInt ha, zI_toInt hb]
theorem rg_n {a : Int} (h : rg a) : rg (a.natAbs : Int) := by
  unfold rg at *
  omega
theorem rg_0 : rg 0 := by
  unfold rg
  decide
theorem zI_abs {a : Int} (h : rg a) : r_abs (zI a) = zI (a.natAbs : Int) := by
  unfold r_abs
  by_cases z : zI a < 0
  · rw [if_pos z]
    have y : a < 0 := (zI_lt h rg_0).mp z
    rw [show (a.natAbs : Int) = -a by omega]
    exact (Int64.ofInt_neg a).symm
  · rw [if_neg z]
    have y : ¬ a < 0 := fun q => z ((zI_lt h rg_0).mpr q)
    rw [show (a.natAbs : Int) = a by omega]
theorem zI_alt {a b : Int} (ha : rg a) (hb : rg b) : r_abs (zI a) < r_abs (zI b) ↔ a.natAbs < b.natAbs := by
  rw [zI_abs ha, zI_abs hb, zI_lt (rg_n ha) (rg_n hb)]
  omega
def gzl (o : Nat → Int) (f : Nat) : Nat → Option Nat
  | 0 => none
  | k + 1 => match gzl o f k with
    | none => if o (f + k) = 0 then none else some (f + k)
    | some r => if ¬ o (f + k) = 0 ∧ (o (f + k)).natAbs < (o r).natAbs then some (f + k) else some r
theorem gzl_n {o : Nat → Int} {f : Nat} : ∀ {k : Nat}, gzl o f k = none → ∀ i, f ≤ i → i < f + k → o i = 0
  | 0, _, i, h1, h2 => by omega
  | k + 1, q, i, h1, h2 => by
    unfold gzl at q
    cases hg : gzl o f k with
    | none =>
      rw [hg] at q
      dsimp only at q
      by_cases z : o (f + k) = 0
      · rcases Nat.lt_or_ge i (f + k) with y | y
        · exact gzl_n hg i h1 y
        · rw [show i = f + k by omega]; exact z
      · rw [if_neg z] at q; cases q
    | some r =>
      rw [hg] at q
      dsimp only at q
      split at q <;> cases q
theorem gzl_s {o : Nat → Int} {f : Nat} : ∀ {k r : Nat}, gzl o f k = some r → f ≤ r ∧ r < f + k ∧ o r ≠ 0 ∧ ∀ i, f ≤ i → i < f + k → o i = 0 ∨ (o r).natAbs ≤ (o i).natAbs
  | 0, r, q => by cases q
  | k + 1, r, q => by
    unfold gzl at q
    cases hg : gzl o f k with
    | none =>
      rw [hg] at q
      dsimp only at q
      by_cases z : o (f + k) = 0
      · rw [if_pos z] at q; cases q
      · rw [if_neg z] at q
        cases q
        refine ⟨by omega, by omega, z, fun i h1 h2 => ?_⟩
        rcases Nat.lt_or_ge i (f + k) with y | y
        · exact Or.inl (gzl_n hg i h1 y)
        · rw [show i = f + k by omega]; exact Or.inr (Nat.le_refl _)
    | some r2 =>
      rw [hg] at q
      dsimp only at q
      obtain ⟨a1, a2, a3, a4⟩ := gzl_s hg
      by_cases z : ¬ o (f + k) = 0 ∧ (o (f + k)).natAbs < (o r2).natAbs
      · rw [if_pos z] at q
        cases q
        refine ⟨by omega, by omega, z.1, fun i h1 h2 => ?_⟩
        rcases Nat.lt_or_ge i (f + k) with y | y
        · rcases a4 i h1 y with x | x
          · exact Or.inl x
          · exact Or.inr (by omega)
        · rw [show i = f + k by omega]; exact Or.inr (Nat.le_refl _)
      · rw [if_neg z] at q
        cases q
        refine ⟨a1, by omega, a3, fun i h1 h2 => ?_⟩
        rcases Nat.lt_or_ge i (f + k) with y | y
        · exact a4 i h1 y
        · rw [show i = f + k by omega]
          by_cases x : o (f + k) = 0
          · exact Or.inl x
          · exact Or.inr (by omega)
theorem gzl_sim {ov : Nat → Int64} {o : Nat → Int} {f : Nat} : ∀ {n : Nat}, (∀ i, f ≤ i → i < f + n → ov i = zI (o i) ∧ rg (o i)) → gl ov f n = gzl o f n
  | 0, _ => rfl
  | n + 1, h => by
    have ih := gzl_sim (n := n) (fun i h1 h2 => h i h1 (by omega))
    have hn := h (f + n) (by omega) (by omega)
    unfold gl gzl
    rw [ih]
    cases hg : gzl o f n with
    | none =>
      dsimp only
      rw [hn.1]
      by_cases z : o (f + n) = 0
      · rw [if_pos z, if_pos ((zI_eq0 hn.2).mpr z)]
      · rw [if_neg z, if_neg (fun y => z ((zI_eq0 hn.2).mp y))]
    | some r =>
      dsimp only
      have hr := gzl_s hg
      have hr2 := h r hr.1 (by omega)
      rw [hn.1, hr2.1]
      by_cases z : ¬ o (f + n) = 0 ∧ (o (f + n)).natAbs < (o r).natAbs
      · rw [if_pos z, if_pos ⟨fun y => z.1 ((zI_eq0 hn.2).mp y), (zI_alt hn.2 hr2.2).mpr z.2⟩]
      · rw [if_neg z, if_neg (fun y => z ⟨fun x => y.1 ((zI_eq0 hn.2).mpr x), (zI_alt hn.2 hr2.2).mp y.2⟩)]
/-- two change places -/
def zsw {α : Type} (a : Nat → α) (f r : Nat) : Nat → α := fun i => if i = r then a f else if i = f then a r else a i
def zR (R : Nat → Nat → Int) (o : Nat → Int) (f k : Nat) : Nat → Nat → Int := fun i c => if f < i ∧ i < f + 1 + k then R i c - (o i).tdiv (o f) * R f c else R i c
def zO (o : Nat → Int) (f k : Nat) : Nat → Int := fun i => if f < i ∧ i < f + 1 + k then o i - (o i).tdiv (o f) * o f else o i
def zm (o : Nat → Int) (f : Nat) : Nat → Bool
  | 0 => false
  | k + 1 => zm o f k || !(decide (o (f + 1 + k) = 0))
theorem zm_iff {o : Nat → Int} {f : Nat} : ∀ {k : Nat}, zm o f k = false ↔ ∀ i, f < i → i < f + 1 + k → o i = 0
  | 0 => ⟨fun _ i h1 h2 => by omega, fun _ => rfl⟩
  | k + 1 => by
    show (zm o f k || !(decide (o (f + 1 + k) = 0))) = false ↔ _
    rw [Bool.or_eq_false_iff, zm_iff, Bool.not_eq_false', decide_eq_true_eq]
    constructor
    · intro z i h1 h2
      rcases Nat.lt_or_ge i (f + 1 + k) with y | y
      · exact z.1 i h1 y
      · rw [show i = f + 1 + k by omega]; exact z.2
    · intro z
      exact ⟨fun i h1 h2 => z i h1 (by omega), z _ (by omega) (by omega)⟩
/-- gathers, on whole numbers -/
def gaZ : Nat → (Nat → Nat → Int) → (Nat → Int) → Nat → Nat → Option (Bool × (Nat → Nat → Int) × (Nat → Int))
  | 0, _, _, _, _ => none
  | g + 1, R, o, f, n => match gzl o f n with
    | none => some (false, R, o)
    | some r => if zm (zO (zsw o f r) f (n - 1)) f (n - 1) = true then gaZ g (zR (zsw R f r) (zsw o f r) f (n - 1)) (zO (zsw o f r) f (n - 1)) f n else some (true, zR (zsw R f r) (zsw o f r) f (n - 1), zO (zsw o f r) f (n - 1))
def E6 (m : Nat) (ro : Nat → Int64) (R : Nat → Nat → Int) : Prop := ∀ i, i < m → ∀ j, j < 6 → ro (6 * i + j) = zI (R i j)
def EO (m : Nat) (ov : Nat → Int64) (o : Nat → Int) : Prop := ∀ i, i < m → ov i = zI (o i)
theorem E6_sw {m f r : Nat} {ro : Nat → Int64} {R : Nat → Nat → Int} (h : E6 m ro R) (hf : f < m) (hr : r < m) : E6 m (sw_row ro f r 6) (zsw R f r) := fun i hi j hj => by
  unfold sw_row zsw
  by_cases e : i = f
  · subst e
    rw [if_pos (by omega), show 6 * r + (6 * i + j - 6 * i) = 6 * r + j by omega, h r hr j hj]
    by_cases e2 : i = r
    · rw [if_pos e2, e2]
    · rw [if_neg e2, if_pos rfl]
  · rw [if_neg (by omega)]
    by_cases e2 : i = r
    · subst e2
      rw [if_pos (by omega), if_pos rfl, show 6 * f + (6 * i + j - 6 * i) = 6 * f + j by omega]
      exact h f hf j hj
    · rw [if_neg (by omega), if_neg e2, if_neg e]
      exact h i hi j hj
theorem EO_sw {m f r : Nat} {ov : Nat → Int64} {o : Nat → Int} (h : EO m ov o) (hf : f < m) (hr : r < m) : EO m (gsw ov f r) (zsw o f r) := fun i hi => by
  unfold gsw vp_updL zsw
  by_cases e : i = r
  · rw [if_pos e, if_pos e]
    exact h f hf
  · rw [if_neg e, if_neg e]
    by_cases e2 : i = f
    · rw [if_pos e2, if_pos e2]
      exact h r hr
    · rw [if_neg e2, if_neg e2]
      exact h i hi
theorem gt_sim {m f : Nat} {ro ov : Nat → Int64} {R : Nat → Nat → Int} {o : Nat → Int} (h6 : E6 m ro R) (hO : EO m ov o) (hf : f < m) (h0 : rg (o f)) : ∀ k : Nat, f + 1 + k ≤ m → (∀ i, f < i → i < f + 1 + k → rg (o i)) → E6 m (gtS ro ov f k).1 (zR R o f k) ∧ EO m (gtS ro ov f k).2 (zO o f k)
  | 0 => fun _ _ => by
    constructor
    · intro i hi j hj
      rw [show zR R o f 0 i j = R i j from if_neg (by omega)]
      exact h6 i hi j hj
    · intro i hi
      rw [show zO o f 0 i = o i from if_neg (by omega)]
      exact hO i hi
  | k + 1 => fun hk hr => by
    obtain ⟨i6, iO⟩ := gt_sim h6 hO hf h0 k (by omega) (fun i h1 h2 => hr i h1 (by omega))
    have ef : (gtS ro ov f k).2 f = zI (o f) := by
      rw [iO f hf, show zO o f k f = o f from if_neg (by omega)]
    have ek : (gtS ro ov f k).2 (f + 1 + k) = zI (o (f + 1 + k)) := by
      rw [iO _ (by omega), show zO o f k (f + 1 + k) = o (f + 1 + k) from if_neg (by omega)]
    have ed : (gtS ro ov f k).2 (f + 1 + k) / (gtS ro ov f k).2 f = zI ((o (f + 1 + k)).tdiv (o f)) := by
      rw [ef, ek]
      exact zI_d (hr _ (by omega) (by omega)) h0
    constructor
    · intro i hi j hj
      show tk_row (gtS ro ov f k).1 (f + 1 + k) f ((gtS ro ov f k).2 (f + 1 + k) / (gtS ro ov f k).2 f) 6 (6 * i + j) = _
      rw [ed]
      unfold tk_row
      by_cases e : i = f + 1 + k
      · subst e
        rw [if_pos (by omega), show 6 * f + (6 * (f + 1 + k) + j - 6 * (f + 1 + k)) = 6 * f + j by omega, i6 _ hi j hj, i6 f hf j hj, show zR R o f k (f + 1 + k) j = R (f + 1 + k) j from if_neg (by omega), show zR R o f k f j = R f j from if_neg (by omega), show zR R o f (k + 1) (f + 1 + k) j = R (f + 1 + k) j - (o (f + 1 + k)).tdiv (o f) * R f j from if_pos (by omega)]
        show _ = Int64.ofInt _
        rw [Int64.ofInt_sub, Int64.ofInt_mul]
      · rw [if_neg (by omega), i6 i hi j hj]
        unfold zR
        by_cases e2 : f < i ∧ i < f + 1 + k
        · rw [if_pos e2, if_pos (by omega)]
        · rw [if_neg e2, if_neg (by omega)]
    · intro i hi
      show vp_updL (gtS ro ov f k).2 (f + 1 + k) ((gtS ro ov f k).2 (f + 1 + k) - (gtS ro ov f k).2 (f + 1 + k) / (gtS ro ov f k).2 f * (gtS ro ov f k).2 f) i = _
      rw [ed, ek, ef]
      unfold vp_updL
      by_cases e : i = f + 1 + k
      · subst e
        rw [if_pos rfl, show zO o f (k + 1) (f + 1 + k) = o (f + 1 + k) - (o (f + 1 + k)).tdiv (o f) * o f from if_pos (by omega)]
        show _ = Int64.ofInt _
        rw [Int64.ofInt_sub, Int64.ofInt_mul]
      · rw [if_neg e, iO i hi]
        unfold zO
        by_cases e2 : f < i ∧ i < f + 1 + k
        · rw [if_pos e2, if_pos (by omega)]
        · rw [if_neg e2, if_neg (by omega)]
theorem zO_rg {o : Nat → Int} {f k i : Nat} (hf : o f ≠ 0) (h : rg (o i)) : rg (zO o f k i) := by
  unfold zO
  split
  · have := (@td_facts (o i) (o f) hf).2.2.2.2
    unfold rg at *
    omega
  · exact h
theorem gm_sim {m f : Nat} {ro ov : Nat → Int64} {R : Nat → Nat → Int} {o : Nat → Int} (h6 : E6 m ro R) (hO : EO m ov o) (hf : f < m) (h0 : rg (o f)) (hf0 : o f ≠ 0) (K : Nat) (hK : f + 1 + K ≤ m) (hr : ∀ i, f < i → i < f + 1 + K → rg (o i)) : ∀ k : Nat, k ≤ K → gm ro ov f k = zm (zO o f K) f k
  | 0 => fun _ => rfl
  | k + 1 => fun hk => by
    have ih := gm_sim h6 hO hf h0 hf0 K hK hr k (by omega)
    show (gm ro ov f k || !((gtS ro ov f (k + 1)).2 (f + 1 + k) == 0)) = (zm (zO o f K) f k || !(decide (zO o f K (f + 1 + k) = 0)))
    have e := (gt_sim h6 hO hf h0 (k + 1) (by omega) (fun i h1 h2 => hr i h1 (by omega))).2 (f + 1 + k) (by omega)
    have e2 : zO o f (k + 1) (f + 1 + k) = zO o f K (f + 1 + k) := by
      unfold zO
      rw [if_pos (by omega), if_pos (by omega)]
    rw [ih, e, e2]
    congr 2
    have hg := @zO_rg o f K (f + 1 + k) hf0 (hr _ (by omega) (by omega))
    by_cases z : zO o f K (f + 1 + k) = 0
    · rw [z]
      rfl
    · rw [decide_eq_false z, beq_eq_false_iff_ne]
      exact fun y => z ((zI_eq0 hg).mp y)
