/-! ## Rows of six whole numbers and what comes of them; rows in their one order -/
def ls (t : Nat → Int) (R : Nat → Nat → Int) : Nat → Nat → Int
  | 0, _ => 0
  | k + 1, c => ls t R k c + t k * R k c
theorem ls_z {t : Nat → Int} {R : Nat → Nat → Int} {c : Nat} : ∀ {f : Nat}, (∀ i, i < f → t i * R i c = 0) → ls t R f c = 0
  | 0, _ => rfl
  | f + 1, h => by
    show ls t R f c + t f * R f c = 0
    rw [ls_z (fun i hi => h i (by omega)), h f (by omega)]
    rfl
theorem ls_one {t : Nat → Int} {R : Nat → Nat → Int} {c k : Nat} : ∀ {f : Nat}, k < f → (∀ i, i < f → i ≠ k → t i * R i c = 0) → ls t R f c = t k * R k c
  | 0, hk, _ => by omega
  | f + 1, hk, h => by
    show ls t R f c + t f * R f c = _
    rcases Nat.lt_or_ge k f with z | z
    · rw [ls_one z (fun i hi hn => h i (by omega) hn), h f (by omega) (by omega), Int.add_zero]
    · rw [show f = k by omega, ls_z (fun i hi => h i (by omega) (by omega)), Int.zero_add]
theorem ls_add {t u : Nat → Int} {R : Nat → Nat → Int} {c : Nat} : ∀ {f : Nat}, ls (fun i => t i + u i) R f c = ls t R f c + ls u R f c
  | 0 => rfl
  | f + 1 => by
    show ls (fun i => t i + u i) R f c + (t f + u f) * R f c = ls t R f c + t f * R f c + (ls u R f c + u f * R f c)
    rw [ls_add, Int.add_mul]
    omega
theorem ls_mul {t : Nat → Int} {R : Nat → Nat → Int} {c : Nat} {a : Int} : ∀ {f : Nat}, ls (fun i => a * t i) R f c = a * ls t R f c
  | 0 => by
    show (0 : Int) = a * 0
    rw [Int.mul_zero]
  | f + 1 => by
    show ls (fun i => a * t i) R f c + a * t f * R f c = a * (ls t R f c + t f * R f c)
    rw [ls_mul, Int.mul_add, Int.mul_assoc]
theorem ls_cg {t u : Nat → Int} {R S : Nat → Nat → Int} {c : Nat} : ∀ {f : Nat}, (∀ i, i < f → t i * R i c = u i * S i c) → ls t R f c = ls u S f c
  | 0, _ => rfl
  | f + 1, h => by
    show ls t R f c + t f * R f c = ls u S f c + u f * S f c
    rw [ls_cg (fun i hi => h i (by omega)), h f (by omega)]
/-- comes of the first f rows -/
def Sp (f : Nat) (R : Nat → Nat → Int) (x : Nat → Int) : Prop := ∃ t : Nat → Int, ∀ c, c < 6 → x c = ls t R f c
theorem Sp_row {f i : Nat} {R : Nat → Nat → Int} (hi : i < f) : Sp f R (R i) := ⟨fun k => if k = i then 1 else 0, fun c _ => by
  rw [ls_one hi (fun k _ hn => by rw [if_neg hn, Int.zero_mul]), if_pos rfl, Int.one_mul]⟩
theorem Sp_add {f : Nat} {R : Nat → Nat → Int} {x y : Nat → Int} (hx : Sp f R x) (hy : Sp f R y) : Sp f R (fun c => x c + y c) := by
  obtain ⟨t, ht⟩ := hx
  obtain ⟨u, hu⟩ := hy
  exact ⟨fun i => t i + u i, fun c hc => by rw [ls_add, ← ht c hc, ← hu c hc]⟩
theorem Sp_mul {f : Nat} {R : Nat → Nat → Int} {x : Nat → Int} (a : Int) (hx : Sp f R x) : Sp f R (fun c => a * x c) := by
  obtain ⟨t, ht⟩ := hx
  exact ⟨fun i => a * t i, fun c hc => by rw [ls_mul, ← ht c hc]⟩
theorem Sp_0 {f : Nat} {R : Nat → Nat → Int} : Sp f R (fun _ => 0) := ⟨fun _ => 0, fun c _ => (ls_z (fun i _ => Int.zero_mul _)).symm⟩
theorem Sp_cg {f : Nat} {R : Nat → Nat → Int} {x y : Nat → Int} (h : ∀ c, c < 6 → x c = y c) (hx : Sp f R x) : Sp f R y := by
  obtain ⟨t, ht⟩ := hx
  exact ⟨t, fun c hc => by rw [← h c hc, ht c hc]⟩
theorem Sp_sub {f e : Nat} {R S : Nat → Nat → Int} (h : ∀ i, i < f → Sp e S (R i)) {x : Nat → Int} (hx : Sp f R x) : Sp e S x := by
  obtain ⟨t, ht⟩ := hx
  have key : ∀ k, k ≤ f → Sp e S (fun c => ls t R k c) := by
    intro k
    induction k with
    | zero => intro _; exact Sp_0
    | succ k ih =>
      intro hk
      exact Sp_add (ih (by omega)) (Sp_mul (t k) (h k (by omega)))
  exact Sp_cg (fun c hc => (ht c hc).symm) (key f (Nat.le_refl _))
/-- no row comes of the others -/
def Ind (f : Nat) (R : Nat → Nat → Int) : Prop := ∀ t : Nat → Int, (∀ c, c < 6 → ls t R f c = 0) → ∀ i, i < f → t i = 0
/-- rows told as the document tells them; h: where the heads are -/
def Hnf (f : Nat) (R : Nat → Nat → Int) (h : Nat → Nat) : Prop := (∀ i, i < f → h i < 6 ∧ 0 < R i (h i) ∧ ∀ c, c < h i → R i c = 0) ∧ (∀ i k, i < k → k < f → h i < h k) ∧ ∀ i k, i < k → k < f → 0 ≤ R i (h k) ∧ R i (h k) < R k (h k)
theorem t_first (t : Nat → Int) : ∀ f : Nat, (∀ i, i < f → t i = 0) ∨ ∃ k, k < f ∧ t k ≠ 0 ∧ ∀ i, i < k → t i = 0
  | 0 => Or.inl (fun i hi => by omega)
  | f + 1 => by
    rcases t_first t f with h | ⟨k, h1, h2, h3⟩
    · by_cases z : t f = 0
      · refine Or.inl (fun i hi => ?_)
        rcases Nat.lt_or_ge i f with y | y
        · exact h i y
        · rw [show i = f by omega]; exact z
      · exact Or.inr ⟨f, by omega, z, h⟩
    · exact Or.inr ⟨k, by omega, h2, h3⟩
/-- where a number that is not 0 comes first -/
theorem Hnf_lead {f : Nat} {R : Nat → Nat → Int} {h : Nat → Nat} (H : Hnf f R h) {x : Nat → Int} (hx : Sp f R x) : (∀ c, c < 6 → x c = 0) ∨ ∃ k, k < f ∧ (∀ c, c < h k → x c = 0) ∧ ∃ a : Int, a ≠ 0 ∧ x (h k) = a * R k (h k) := by
  obtain ⟨t, ht⟩ := hx
  rcases t_first t f with z | ⟨k, h1, h2, h3⟩
  · exact Or.inl (fun c hc => by rw [ht c hc]; exact ls_z (fun i hi => by rw [z i hi, Int.zero_mul]))
  · have key : ∀ c, c ≤ h k → ls t R f c = t k * R k c := fun c hc => ls_one h1 (fun i hi hn => by
      rcases Nat.lt_or_ge i k with y | y
      · rw [h3 i y, Int.zero_mul]
      · have := H.2.1 k i (by omega) hi
        rw [(H.1 i hi).2.2 c (by omega), Int.mul_zero])
    have hk := H.1 k h1
    refine Or.inr ⟨k, h1, fun c hc => ?_, t k, h2, ?_⟩
    · rw [ht c (by omega), key c (by omega), hk.2.2 c hc, Int.mul_zero]
    · rw [ht _ hk.1, key _ (Nat.le_refl _)]
theorem Hnf_head {f e : Nat} {R S : Nat → Nat → Int} {h g : Nat → Nat} (H : Hnf f R h) (K : Hnf e S g) (hs : ∀ i, i < f → Sp e S (R i)) {i : Nat} (hi : i < f) : ∃ k, k < e ∧ h i = g k ∧ ∃ a : Int, a ≠ 0 ∧ R i (h i) = a * S k (g k) := by
  have r := H.1 i hi
  rcases Hnf_lead K (hs i hi) with z | ⟨k, k1, k2, a, a0, k3⟩
  · have := z _ r.1
    omega
  · have s := K.1 k k1
    have n0 : R i (g k) ≠ 0 := by
      rw [k3]
      exact Int.mul_ne_zero a0 (by omega)
    have e1 : h i = g k := by
      rcases Nat.lt_trichotomy (h i) (g k) with y | y | y
      · have := k2 _ y
        omega
      · exact y
      · exact absurd (r.2.2 _ y) n0
    exact ⟨k, k1, e1, a, a0, by rw [e1]; exact k3⟩
theorem Hnf_hh {f e : Nat} {R S : Nat → Nat → Int} {h g : Nat → Nat} (H : Hnf f R h) (K : Hnf e S g) (hs : ∀ i, i < f → Sp e S (R i)) (hr : ∀ i, i < e → Sp f R (S i)) : ∀ n, ∀ i, i < n → (i < f → i < e ∧ h i = g i) ∧ (i < e → i < f ∧ h i = g i)
  | 0, i, hi => by omega
  | n + 1, i, hi => by
    rcases Nat.lt_or_ge i n with z | z
    · exact Hnf_hh H K hs hr n i z
    · have ih := Hnf_hh H K hs hr n
      have en : i = n := by omega
      subst en
      have mono : ∀ {f : Nat} {R : Nat → Nat → Int} {h : Nat → Nat}, Hnf f R h → ∀ {a b : Nat}, a ≤ b → b < f → h a ≤ h b := fun {f R h} H {a b} hab hb => by
        rcases Nat.eq_or_lt_of_le hab with y | y
        · rw [y]; exact Nat.le_refl _
        · exact Nat.le_of_lt (H.2.1 a b y hb)
      have A : i < f → i < e ∧ g i ≤ h i := fun hf => by
        obtain ⟨k, k1, k2, -⟩ := Hnf_head H K hs hf
        have hk : i ≤ k := by
          rcases Nat.lt_or_ge k i with y | y
          · have := ((ih k y).2 k1).2
            have := H.2.1 k i y hf
            omega
          · exact y
        have := mono K hk k1
        exact ⟨by omega, by omega⟩
      have B : i < e → i < f ∧ h i ≤ g i := fun he => by
        obtain ⟨k, k1, k2, -⟩ := Hnf_head K H hr he
        have hk : i ≤ k := by
          rcases Nat.lt_or_ge k i with y | y
          · have := ((ih k y).1 k1).2
            have := K.2.1 k i y he
            omega
          · exact y
        have := mono H hk k1
        exact ⟨by omega, by omega⟩
      refine ⟨fun hf => ?_, fun he => ?_⟩
      · have a := A hf
        have b := B a.1
        exact ⟨a.1, by omega⟩
      · have b := B he
        have a := A b.1
        exact ⟨b.1, by omega⟩
/-- the one order: rows of one lattice told so are the same -/
theorem Hnf_uniq {f e : Nat} {R S : Nat → Nat → Int} {h g : Nat → Nat} (H : Hnf f R h) (K : Hnf e S g) (hs : ∀ i, i < f → Sp e S (R i)) (hr : ∀ i, i < e → Sp f R (S i)) : f = e ∧ ∀ i, i < f → h i = g i ∧ ∀ c, c < 6 → R i c = S i c := by
  have hh := Hnf_hh H K hs hr
  have fe : f = e := by
    rcases Nat.lt_trichotomy f e with z | z | z
    · have := ((hh (f + 1) f (by omega)).2 z).1
      omega
    · exact z
    · have := ((hh (e + 1) e (by omega)).1 z).1
      omega
  subst fe
  have hg : ∀ i, i < f → h i = g i := fun i hi => ((hh (i + 1) i (by omega)).1 hi).2
  have hd : ∀ i, i < f → R i (h i) = S i (h i) := fun i hi => by
    obtain ⟨k, k1, k2, a, a0, k3⟩ := Hnf_head H K hs hi
    obtain ⟨k', l1, l2, b, b0, l3⟩ := Hnf_head K H hr hi
    have inj : ∀ {f : Nat} {R : Nat → Nat → Int} {h : Nat → Nat}, Hnf f R h → ∀ {a b : Nat}, a < f → b < f → h a = h b → a = b := fun {f R h} H {a b} ha hb e => by
      rcases Nat.lt_trichotomy a b with y | y | y
      · have := H.2.1 a b y hb
        omega
      · exact y
      · have := H.2.1 b a y ha
        omega
    have ek : k = i := inj K k1 hi (by rw [← k2]; exact hg i hi)
    have ek' : k' = i := inj H l1 hi (by rw [← l2]; exact (hg i hi).symm)
    rw [ek, ← hg i hi] at k3
    rw [ek', ← hg i hi] at l3
    have p1 := (H.1 i hi).2.1
    have p2 := (K.1 i hi).2.1
    rw [← hg i hi] at p2
    have q1 : S i (h i) ≤ R i (h i) := by
      rw [k3]
      have ha : 1 ≤ a := by
        rcases Int.lt_or_le 0 a with y | y
        · omega
        · have := Int.mul_nonpos_of_nonpos_of_nonneg y (Int.le_of_lt p2)
          omega
      have := Int.mul_le_mul_of_nonneg_right ha (Int.le_of_lt p2)
      omega
    have q2 : R i (h i) ≤ S i (h i) := by
      rw [l3]
      have hb : 1 ≤ b := by
        rcases Int.lt_or_le 0 b with y | y
        · omega
        · have := Int.mul_nonpos_of_nonpos_of_nonneg y (Int.le_of_lt p1)
          omega
      have := Int.mul_le_mul_of_nonneg_right hb (Int.le_of_lt p1)
      omega
    omega
  refine ⟨rfl, fun i hi => ⟨hg i hi, fun c hc => ?_⟩⟩
  have hD : Sp f R (fun c => R i c + -1 * S i c) := Sp_add (Sp_row hi) (Sp_mul (-1) (hr i hi))
  rcases Hnf_lead H hD with z | ⟨k, k1, k2, a, a0, k3⟩
  · have := z c hc
    omega
  · exfalso
    have pk := (H.1 k k1).2.1
    rcases Nat.lt_trichotomy k i with y | y | y
    · have e1 := (H.1 i hi).2.2 _ (H.2.1 k i y hi)
      have e2 := (K.1 i hi).2.2 (h k) (by rw [hg k k1]; exact K.2.1 k i y hi)
      rw [e1, e2] at k3
      exact absurd k3.symm (Int.mul_ne_zero a0 (by omega))
    · subst y
      rw [hd k hi] at k3
      rw [show S k (h k) + -1 * S k (h k) = 0 by omega] at k3
      exact absurd k3.symm (Int.mul_ne_zero a0 (by rw [← hd k hi]; omega))
    · have e1 := H.2.2 i k y k1
      have e2 := K.2.2 i k y k1
      rw [← hg k k1, ← hd k k1] at e2
      have : (a * R k (h k)).natAbs < (R k (h k)).natAbs := by
        rw [← k3]
        omega
      rw [Int.natAbs_mul] at this
      have h1 : 1 * (R k (h k)).natAbs ≤ a.natAbs * (R k (h k)).natAbs := Nat.mul_le_mul_right _ (by omega)
      omega
