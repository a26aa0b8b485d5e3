/-! ## What is gathered may be so many times as much; the rows behind the gains -/
theorem td_scale {s a b : Int} (hs : 0 < s) : (s * a).tdiv (s * b) = a.tdiv b := Int.mul_tdiv_mul_of_pos a b hs
theorem na_scale {s a b : Int} (hs : 0 < s) : (s * a).natAbs < (s * b).natAbs ↔ a.natAbs < b.natAbs := by
  rw [Int.natAbs_mul, Int.natAbs_mul]
  exact Nat.mul_lt_mul_left (by omega)
theorem sz_scale {s a : Int} (hs : 0 < s) : s * a = 0 ↔ a = 0 := by
  rw [Int.mul_eq_zero]
  constructor
  · intro h
    rcases h with h | h
    · omega
    · exact h
  · exact Or.inr
theorem gzl_scale {s : Int} (hs : 0 < s) {o : Nat → Int} {f : Nat} : ∀ {n : Nat}, gzl (fun i => s * o i) f n = gzl o f n
  | 0 => rfl
  | n + 1 => by
    unfold gzl
    rw [gzl_scale hs]
    cases gzl o f n with
    | none =>
      dsimp only
      by_cases z : o (f + n) = 0
      · rw [if_pos z, if_pos ((sz_scale hs).mpr z)]
      · rw [if_neg z, if_neg (fun y => z ((sz_scale hs).mp y))]
    | some r =>
      dsimp only
      by_cases z : ¬ o (f + n) = 0 ∧ (o (f + n)).natAbs < (o r).natAbs
      · rw [if_pos z, if_pos ⟨fun y => z.1 ((sz_scale hs).mp y), (na_scale hs).mpr z.2⟩]
      · rw [if_neg z, if_neg (fun y => z ⟨fun x => y.1 ((sz_scale hs).mpr x), (na_scale hs).mp y.2⟩)]
theorem zsw_scale {s : Int} {o : Nat → Int} {f r : Nat} : zsw (fun i => s * o i) f r = fun i => s * zsw o f r i := by
  funext i
  rw [zsw_p, zsw_p]
theorem zO_scale {s : Int} (hs : 0 < s) {o : Nat → Int} {f k : Nat} : zO (fun i => s * o i) f k = fun i => s * zO o f k i := by
  funext i
  unfold zO
  by_cases z : f < i ∧ i < f + 1 + k
  · rw [if_pos z, if_pos z, td_scale hs]
    grind
  · rw [if_neg z, if_neg z]
theorem zR_scale {s : Int} (hs : 0 < s) {R : Nat → Nat → Int} {o : Nat → Int} {f k : Nat} : zR R (fun i => s * o i) f k = zR R o f k := by
  funext i c
  unfold zR
  rw [td_scale hs]
theorem zm_scale {s : Int} (hs : 0 < s) {o : Nat → Int} {f : Nat} : ∀ {k : Nat}, zm (fun i => s * o i) f k = zm o f k
  | 0 => rfl
  | k + 1 => by
    show (zm (fun i => s * o i) f k || !(decide (s * o (f + 1 + k) = 0))) = (zm o f k || !(decide (o (f + 1 + k) = 0)))
    rw [zm_scale hs]
    congr 2
    exact decide_eq_decide.mpr (sz_scale hs)
theorem gaZ_scale {s : Int} (hs : 0 < s) : ∀ (g : Nat) {f n : Nat} {R R1 : Nat → Nat → Int} {o o1 : Nat → Int} {b : Bool}, gaZ g R (fun i => s * o i) f n = some (b, R1, o1) → ∃ o2 : Nat → Int, gaZ g R o f n = some (b, R1, o2) ∧ o1 = fun i => s * o2 i
  | 0, f, n, R, R1, o, o1, b, q => by cases q
  | g + 1, f, n, R, R1, o, o1, b, q => by
    rw [gaZ_1, gzl_scale hs] at q
    rw [gaZ_1]
    cases hg : gzl o f n with
    | none =>
      rw [hg] at q
      dsimp only at q ⊢
      cases q
      exact ⟨o, rfl, rfl⟩
    | some r =>
      rw [hg] at q
      dsimp only at q ⊢
      rw [zsw_scale, zO_scale hs, zR_scale hs, zm_scale hs] at q
      by_cases z : zm (zO (zsw o f r) f (n - 1)) f (n - 1) = true
      · rw [if_pos z] at q ⊢
        exact gaZ_scale hs g q
      · rw [if_neg z] at q ⊢
        cases q
        exact ⟨_, rfl, rfl⟩
theorem WB_ga {f n C c d g : Nat} {R R1 : Nat → Nat → Int} {o o1 : Nat → Int} {b : Bool} (h : WB f n C c d R o) (q : gaZ g R o f n = some (b, R1, o1)) : WB f n C c d R1 o1 := gaZ_stp (WB f n C c d) WB_st g h q
/-- the coefficients behind the gains: each by the greatest gain, their 2-minors by more -/
theorem T0_1 {N G g c : Nat} {R R1 : Nat → Nat → Int} {o o1 : Nat → Int} {b : Bool} (hG : 1 ≤ G) (hI : ∀ i, i < N → R i c = if c = 6 + i then 1 else 0) (ho : ∀ i, i < N → (o i).natAbs ≤ G) (q : gaZ g R o 0 N = some (b, R1, o1)) : ∀ i, i < N → (R1 i c).natAbs ≤ G := by
  have K : KB 0 N G c R o := by
    refine ⟨fun i _ hi => ?_, fun i j _ hi _ hj => ?_⟩
    · rw [hI i (by omega)]
      split <;> omega
    · rw [hI i (by omega), hI j (by omega)]
      have a := ho i (by omega)
      have b := ho j (by omega)
      split
      · split
        · rw [show i = j by omega]
          omega
        · omega
      · split <;> omega
  exact fun i hi => (KB_ga K q).1 i (Nat.zero_le _) (by omega)
theorem w3_e {x y z a1 a2 b1 b2 c1 c2 : Int} {G : Nat} (hx : x.natAbs ≤ G) (hy : y.natAbs ≤ G) (hz : z.natAbs ≤ G) (h : (a1 = 0 ∧ a2 = 0) ∨ (b1 = 0 ∧ b2 = 0) ∨ (c1 = 0 ∧ c2 = 0)) (ha : (a1 = 0 ∨ a1 = 1) ∧ (a2 = 0 ∨ a2 = 1)) (hb : (b1 = 0 ∨ b1 = 1) ∧ (b2 = 0 ∨ b2 = 1)) (hc : (c1 = 0 ∨ c1 = 1) ∧ (c2 = 0 ∨ c2 = 1)) (na : ¬ (a1 = 1 ∧ a2 = 1)) (nb : ¬ (b1 = 1 ∧ b2 = 1)) (nc : ¬ (c1 = 1 ∧ c2 = 1)) : (w3 x a1 a2 y b1 b2 z c1 c2).natAbs ≤ G := by
  unfold w3
  rcases ha with ⟨rfl | rfl, rfl | rfl⟩ <;> rcases hb with ⟨rfl | rfl, rfl | rfl⟩ <;> rcases hc with ⟨rfl | rfl, rfl | rfl⟩ <;> first | omega | exact absurd ⟨rfl, rfl⟩ na | exact absurd ⟨rfl, rfl⟩ nb | exact absurd ⟨rfl, rfl⟩ nc
theorem T0_2 {N G g c d : Nat} {R R1 : Nat → Nat → Int} {o o1 : Nat → Int} (hG : 2 ≤ G) (hcd : c ≠ d) (hI : ∀ i, i < N → (R i c = if c = 6 + i then 1 else 0) ∧ (R i d = if d = 6 + i then 1 else 0)) (ho : ∀ i, i < N → (o i).natAbs ≤ G) (hN : 0 < N) (q : gaZ g R o 0 N = some (true, R1, o1)) : ∀ i j, 0 < i → i < N → 0 < j → j < N → (R1 i c * R1 j d - R1 i d * R1 j c).natAbs ^ 11 * 128 ≤ G ^ 11 * G ^ 7 := by
  have big : G ^ 11 * 128 ≤ G ^ 11 * G ^ 7 := Nat.mul_le_mul_left _ (Nat.le_trans (by decide : 128 ≤ 2 ^ 7) (Nat.pow_le_pow_left hG 7))
  have w0 : ∀ i j k, i < N → j < N → k < N → (w3r R o c d i j k).natAbs ≤ G := fun i j k hi hj hk => by
    unfold w3r
    by_cases e1 : i = j
    · rw [e1, w3_ii]
      exact Nat.zero_le _
    · by_cases e2 : i = k
      · rw [e2, w3_ik]
        exact Nat.zero_le _
      · by_cases e3 : j = k
        · rw [e3, w3_jk]
          exact Nat.zero_le _
        · have a := hI i hi
          have b := hI j hj
          have e := hI k hk
          have one : ∀ {x m : Nat} {y : Int}, (y = if x = m then 1 else 0) → (x = m ∧ y = 1) ∨ (x ≠ m ∧ y = 0) := fun {x m y} h => by
            by_cases z : x = m
            · rw [if_pos z] at h
              exact Or.inl ⟨z, h⟩
            · rw [if_neg z] at h
              exact Or.inr ⟨z, h⟩
          have a1 := one a.1
          have a2 := one a.2
          have b1 := one b.1
          have b2 := one b.2
          have c1 := one e.1
          have c2 := one e.2
          exact w3_e (ho i hi) (ho j hj) (ho k hk) (by omega) (by omega) (by omega) (by omega) (by omega) (by omega) (by omega)
  have K : WB 0 N (G ^ 11 * G ^ 7) c d R o := ⟨G, G, fun i _ hi => ho i (by omega), fun i j k _ hi _ hj _ hk => w0 i j k (by omega) (by omega) (by omega), Nat.le_refl _, fun j k _ hj _ hk => Nat.le_trans (Nat.mul_le_mul_right _ (Nat.pow_le_pow_left (w0 0 j k hN (by omega) (by omega)) 11)) big, Or.inl hG⟩
  obtain ⟨W, P, -, -, -, hV, -⟩ := WB_ga K q
  obtain ⟨n0, nz⟩ := (gaZ_end g q).1 rfl
  intro i j i0 hi j0 hj
  have h1 := hV i j (Nat.zero_le _) (by omega) (Nat.zero_le _) (by omega)
  have e : w3r R1 o1 c d 0 i j = o1 0 * (R1 i c * R1 j d - R1 i d * R1 j c) := by
    unfold w3r w3
    rw [nz i i0 (by omega), nz j j0 (by omega)]
    grind
  rw [e, Int.natAbs_mul] at h1
  refine Nat.le_trans (Nat.mul_le_mul_right _ (Nat.pow_le_pow_left ?_ 11)) h1
  exact Nat.le_mul_of_pos_left _ (by omega)
