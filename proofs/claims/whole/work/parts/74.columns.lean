/-! ## orders, a column: on whole numbers, and that the machine goes so -/
def flz (a b : Int) : Int := if ¬ (a - a.tdiv b * b = 0) ∧ ¬ (a < 0 ↔ b < 0) then a.tdiv b - 1 else a.tdiv b
theorem flz_b {a b : Int} (hb : 0 < b) : 0 ≤ a - flz a b * b ∧ a - flz a b * b < b := by
  have h := @td_facts a b (by omega)
  unfold flz
  by_cases z : ¬ (a - a.tdiv b * b = 0) ∧ ¬ (a < 0 ↔ b < 0)
  · rw [if_pos z]
    have ha : a < 0 := by
      rcases Int.lt_or_le a 0 with y | y
      · exact y
      · exact absurd ⟨fun q => by omega, fun q => by omega⟩ z.2
    have h2 := h.2.2.1 (by omega)
    have e : (a.tdiv b - 1) * b = a.tdiv b * b - b := by grind
    rw [e]
    omega
  · rw [if_neg z]
    rcases Int.lt_or_le a 0 with y | y
    · have h2 := h.2.2.1 (by omega)
      have h3 : a - a.tdiv b * b = 0 := Decidable.of_not_not (fun q => z ⟨q, fun w => by have := w.mp y; omega⟩)
      omega
    · have h2 := h.2.1 y
      omega
theorem fl_sim {a b : Int} (ha : rg a) (hb : rg b) (h0 : b ≠ 0) : r_floor (zI a) (zI b) = zI (flz a b) := by
  have h := @td_facts a b h0
  have e1 : zI a / zI b = zI (a.tdiv b) := zI_d ha hb
  have e2 : zI a - zI a / zI b * zI b = zI (a - a.tdiv b * b) := by
    rw [e1]
    show _ = Int64.ofInt _
    rw [Int64.ofInt_sub, Int64.ofInt_mul]
  have r2 : rg (a - a.tdiv b * b) := by
    unfold rg at *
    omega
  have c1 : (zI a - zI a / zI b * zI b = 0) ↔ (a - a.tdiv b * b = 0) := by rw [e2]; exact zI_eq0 r2
  have c2 : (zI a < 0 ↔ zI b < 0) ↔ (a < 0 ↔ b < 0) := by
    rw [show (0 : Int64) = zI 0 from rfl, zI_lt ha rg_0, zI_lt hb rg_0]
  unfold r_floor flz
  by_cases z : ¬ (a - a.tdiv b * b = 0) ∧ ¬ (a < 0 ↔ b < 0)
  · rw [if_pos z, if_pos ⟨fun q => z.1 (c1.mp q), fun q => z.2 (c2.mp q)⟩, e1]
    show _ = Int64.ofInt _
    rw [Int64.ofInt_sub]
    rfl
  · rw [if_neg z, if_neg (fun q => z ⟨fun y => q.1 (c1.mpr y), fun y => q.2 (c2.mpr y)⟩), e1]
/-- the done rows less the new one so often -/
def zF (R : Nat → Nat → Int) (o : Nat → Int) (d k : Nat) : Nat → Nat → Int := fun i c => if i < k then R i c - flz (o i) (o d) * R d c else R i c
def zFo (o : Nat → Int) (d k : Nat) : Nat → Int := fun i => if i < k then o i - flz (o i) (o d) * o d else o i
theorem oR_sim {m d : Nat} {ro ov : Nat → Int64} {R : Nat → Nat → Int} {o : Nat → Int} (h6 : E6 m ro R) (hO : EO m ov o) (hd : d < m) (h0 : rg (o d)) (hd0 : o d ≠ 0) : ∀ k : Nat, k ≤ d → (∀ i, i < k → rg (o i)) → E6 m (oR ro ov d k).1 (zF R o d k) ∧ EO m (oR ro ov d k).2 (zFo o d k)
  | 0 => fun _ _ => by
    constructor
    · intro i hi j hj
      rw [show zF R o d 0 i j = R i j from if_neg (by omega)]
      exact h6 i hi j hj
    · intro i hi
      rw [show zFo o d 0 i = o i from if_neg (by omega)]
      exact hO i hi
  | k + 1 => fun hk hr => by
    obtain ⟨i6, iO⟩ := oR_sim h6 hO hd h0 hd0 k (by omega) (fun i h1 => hr i (by omega))
    have ed : (oR ro ov d k).2 d = zI (o d) := by
      rw [iO d hd, show zFo o d k d = o d from if_neg (by omega)]
    have ek : (oR ro ov d k).2 k = zI (o k) := by
      rw [iO k (by omega), show zFo o d k k = o k from if_neg (by omega)]
    have ef : r_floor ((oR ro ov d k).2 k) ((oR ro ov d k).2 d) = zI (flz (o k) (o d)) := by
      rw [ed, ek]
      exact fl_sim (hr k (by omega)) h0 hd0
    constructor
    · intro i hi j hj
      show tk_row (oR ro ov d k).1 k d (r_floor ((oR ro ov d k).2 k) ((oR ro ov d k).2 d)) 6 (6 * i + j) = _
      rw [ef]
      unfold tk_row
      by_cases e : i = k
      · subst e
        rw [if_pos (by omega), show 6 * d + (6 * i + j - 6 * i) = 6 * d + j by omega, i6 _ hi j hj, i6 d hd j hj, show zF R o d i i j = R i j from if_neg (by omega), show zF R o d i d j = R d j from if_neg (by omega), show zF R o d (i + 1) i j = R i j - flz (o i) (o d) * R d j from if_pos (by omega)]
        show _ = Int64.ofInt _
        rw [Int64.ofInt_sub, Int64.ofInt_mul]
      · rw [if_neg (by omega), i6 i hi j hj]
        unfold zF
        by_cases e2 : i < k
        · rw [if_pos e2, if_pos (by omega)]
        · rw [if_neg e2, if_neg (by omega)]
    · intro i hi
      show vp_updL (oR ro ov d k).2 k ((oR ro ov d k).2 k - r_floor ((oR ro ov d k).2 k) ((oR ro ov d k).2 d) * (oR ro ov d k).2 d) i = _
      rw [ef, ek, ed]
      unfold vp_updL
      by_cases e : i = k
      · subst e
        rw [if_pos rfl, show zFo o d (i + 1) i = o i - flz (o i) (o d) * o d from if_pos (by omega)]
        show _ = Int64.ofInt _
        rw [Int64.ofInt_sub, Int64.ofInt_mul]
      · rw [if_neg e, iO i hi]
        unfold zFo
        by_cases e2 : i < k
        · rw [if_pos e2, if_pos (by omega)]
        · rw [if_neg e2, if_neg (by omega)]
/-- the new row's head is above 0 -/
def zN {α : Type} [Neg α] (o : Nat → Int) (d : Nat) (a : Nat → α) : Nat → α := fun i => if i = d ∧ o d < 0 then -a i else a i
def zNR (R : Nat → Nat → Int) (o : Nat → Int) (d : Nat) : Nat → Nat → Int := fun i c => if i = d ∧ o d < 0 then -R i c else R i c
def zNo (o : Nat → Int) (d : Nat) : Nat → Int := fun i => if i = d ∧ o d < 0 then -o i else o i
theorem oN_sim {m d : Nat} {ro ov : Nat → Int64} {R : Nat → Nat → Int} {o : Nat → Int} (h6 : E6 m ro R) (hO : EO m ov o) (hd : d < m) (h0 : rg (o d)) : E6 m (oN ro ov d).1 (zNR R o d) ∧ EO m (oN ro ov d).2 (zNo o d) := by
  unfold oN
  have e0 : ov d = zI (o d) := hO d hd
  have c0 : ov d < 0 ↔ o d < 0 := by
    rw [e0, show (0 : Int64) = zI 0 from rfl]
    exact zI_lt h0 rg_0
  have two : ∀ x : Int, zI x - 2 * zI x = zI (-x) := fun x => by
    show _ = Int64.ofInt _
    rw [show -x = x - 2 * x by omega, Int64.ofInt_sub, Int64.ofInt_mul]
    rfl
  by_cases z : o d < 0
  · rw [if_pos (c0.mpr z)]
    constructor
    · intro i hi j hj
      show tk_row ro d d 2 6 (6 * i + j) = _
      unfold tk_row zNR
      by_cases e : i = d
      · subst e
        rw [if_pos (by omega), if_pos ⟨rfl, z⟩, show 6 * i + (6 * i + j - 6 * i) = 6 * i + j by omega, h6 i hi j hj]
        exact two _
      · rw [if_neg (by omega), if_neg (fun q => e q.1)]
        exact h6 i hi j hj
    · intro i hi
      show vp_updL ov d (ov d - 2 * ov d) i = _
      unfold vp_updL zNo
      by_cases e : i = d
      · subst e
        rw [if_pos rfl, if_pos ⟨rfl, z⟩, e0]
        exact two _
      · rw [if_neg e, if_neg (fun q => e q.1)]
        exact hO i hi
  · rw [if_neg (fun q => z (c0.mp q))]
    constructor
    · intro i hi j hj
      rw [show zNR R o d i j = R i j from if_neg (fun q => z q.2)]
      exact h6 i hi j hj
    · intro i hi
      rw [show zNo o d i = o i from if_neg (fun q => z q.2)]
      exact hO i hi
/-- what is gathered is the column all along -/
theorem gaZ_col {f n j : Nat} (g : Nat) {R R1 : Nat → Nat → Int} {o o1 : Nat → Int} {b : Bool} (h : ∀ i, o i = R i j) (q : gaZ g R o f n = some (b, R1, o1)) : ∀ i, o1 i = R1 i j := by
  refine gaZ_inv (fun R o => ∀ i, o i = R i j) ?_ ?_ g h q
  · intro R o r _ _ h i
    rw [zsw_p, zsw_p]
    exact h _
  · intro R o _ _ _ h i
    unfold zO zR
    rw [h i, h f]
/-- a column of orders: how many are done then, the rows -/
def cZ (R : Nat → Nat → Int) (j d : Nat) : Nat → Nat → Int := zF (zNR R (fun i => R i j) d) (zNo (fun i => R i j) d) d d
theorem EO_col {m j f : Nat} {ro ov : Nat → Int64} {R : Nat → Nat → Int} (h6 : E6 m ro R) (hj : j < 6) (hf : m ≤ f) : EO m (oK ro ov j f) (fun i => R i j) := fun i hi => by
  rw [show oK ro ov j f i = ro (6 * i + j) from if_pos (by omega)]
  exact h6 i hi j hj
/-- orders goes as the whole numbers do, if what it reads stays in range: Inv says so -/
theorem oC_sim {f : Nat} (Inv : Nat → Nat → (Nat → Nat → Int) → Prop) (hrg : ∀ (j d : Nat) (R : Nat → Nat → Int), j < 6 → d < f → Inv j d R → ∀ i, d ≤ i → i < f → rg (R i j)) (hrt : ∀ (j d : Nat) (R R1 : Nat → Nat → Int) (o1 : Nat → Int), j < 6 → d < f → Inv j d R → gaZ (2 ^ 63 + 1) R (fun i => R i j) d (f - d) = some (true, R1, o1) → ∀ i, i < f → rg (R i j)) (h0 : ∀ (j d : Nat) (R R1 : Nat → Nat → Int) (o1 : Nat → Int), j < 6 → d < f → Inv j d R → gaZ (2 ^ 63 + 1) R (fun i => R i j) d (f - d) = some (false, R1, o1) → Inv (j + 1) d R1) (h1 : ∀ (j d : Nat) (R R1 : Nat → Nat → Int) (o1 : Nat → Int), j < 6 → d < f → Inv j d R → gaZ (2 ^ 63 + 1) R (fun i => R i j) d (f - d) = some (true, R1, o1) → (∀ i, i < f → rg (R1 i j)) → Inv (j + 1) (d + 1) (cZ R1 j d))
    (hd : ∀ (j : Nat) (R : Nat → Nat → Int), Inv j f R → Inv 6 f R) : ∀ (k j d : Nat) (ro ov : Nat → Int64) (R : Nat → Nat → Int), j + k = 6 → d ≤ f → E6 f ro R → Inv j d R → ∃ (ro1 ov1 : Nat → Int64) (R1 : Nat → Nat → Int) (d1 : Nat), oC (2 ^ 63 + 1) f k j d ro ov = some (ro1, ov1) ∧ E6 f ro1 R1 ∧ Inv 6 d1 R1 ∧ d1 ≤ f
  | 0, j, d, ro, ov, R, hj, hdf, h6, hI => ⟨ro, ov, R, d, rfl, h6, by rw [show j = 6 by omega] at hI; exact hI, hdf⟩
  | k + 1, j, d, ro, ov, R, hj, hdf, h6, hI => by
    have e : oC (2 ^ 63 + 1) f (k + 1) j d ro ov = (if d < f then match r_ga (2 ^ 63 + 1) ro (oK ro ov j f) d (f - d) with
      | none => none
      | some (false, ro1, ov1) => oC (2 ^ 63 + 1) f k (j + 1) d ro1 ov1
      | some (true, ro1, ov1) => oC (2 ^ 63 + 1) f k (j + 1) (d + 1) (oR (oN ro1 ov1 d).1 (oN ro1 ov1 d).2 d d).1 (oR (oN ro1 ov1 d).1 (oN ro1 ov1 d).2 d d).2
    else some (ro, ov)) := rfl
    rw [e]
    by_cases z : d < f
    · rw [if_pos z]
      have r0 := hrg j d R (by omega) z hI
      have hO : EO f (oK ro ov j f) (fun i => R i j) := EO_col h6 (by omega) (Nat.le_refl _)
      obtain ⟨b, R1, o1, q⟩ := gaZ_ex (f := d) (n := f - d) (2 ^ 63) R (fun i => R i j) (by
        by_cases y : ∀ i, d ≤ i → i < d + (f - d) → R i j = 0
        · exact Or.inl y
        · obtain ⟨i, y⟩ := Classical.not_forall.mp y
          obtain ⟨y1, y⟩ := Classical.not_forall.mp y
          obtain ⟨y2, y⟩ := Classical.not_forall.mp y
          have := r0 i y1 (by omega)
          unfold rg at this
          exact Or.inr ⟨i, y1, y2, y, by omega⟩)
      obtain ⟨ro1, ov1, q2, g6, gO⟩ := ga_sim (2 ^ 63 + 1) (m := f) (by omega) h6 hO (fun i i1 i2 => r0 i i1 (by omega)) q
      rw [q2]
      have ec := gaZ_col (2 ^ 63 + 1) (j := j) (fun _ => rfl) q
      cases b with
      | false => exact oC_sim Inv hrg hrt h0 h1 hd k (j + 1) d ro1 ov1 R1 (by omega) hdf g6 (h0 j d R R1 o1 (by omega) z hI q)
      | true =>
        have r1 : ∀ i, i < f → rg (R1 i j) := by
          have := gaZ_inv (f := d) (n := f - d) (fun (_ : Nat → Nat → Int) (o : Nat → Int) => ∀ i, i < f → rg (o i)) (fun R o r a1 a2 h i hi => by
            rw [zsw_p]
            refine h _ ?_
            unfold zp
            split
            · omega
            · split <;> omega) (fun R o _ hf _ h i hi => zO_rg hf (h i hi)) (2 ^ 63 + 1) (hrt j d R R1 o1 (by omega) z hI q) q
          exact fun i hi => by rw [← ec i]; exact this i hi
        dsimp only
        have eo : o1 = fun i => R1 i j := funext ec
        rw [eo] at gO
        have n6 := oN_sim g6 gO z (r1 d z)
        have hne : R1 d j ≠ 0 := by
          have := ((gaZ_end (2 ^ 63 + 1) q).1 rfl).1
          rw [ec d] at this
          exact this
        have hno : ∀ i, i < f → rg (zNo (fun i => R1 i j) d i) := fun i hi => by
          unfold zNo
          have := r1 i hi
          split
          · show rg (-R1 i j)
            unfold rg at *
            omega
          · exact this
        have hn0 : zNo (fun i => R1 i j) d d ≠ 0 := by
          unfold zNo
          split
          · dsimp only
            omega
          · exact hne
        have f6 := oR_sim n6.1 n6.2 z (hno d z) hn0 d (Nat.le_refl _) (fun i hi => hno i (by omega))
        exact oC_sim Inv hrg hrt h0 h1 hd k (j + 1) (d + 1) _ _ _ (by omega) z f6.1 (h1 j d R R1 o1 (by omega) z hI q r1)
    · rw [if_neg z]
      have ed : d = f := by omega
      subst ed
      exact ⟨ro, ov, R, d, rfl, h6, hd j R hI, Nat.le_refl _⟩
