/-! ## How great minors are -/
theorem vtx {x a b : Int} {M : Nat} (hx : x.natAbs ≤ 9) (h1 : (a * 9 + b).natAbs ≤ M) (h2 : (a * -9 + b).natAbs ≤ M) : (a * x + b).natAbs ≤ M := by
  rcases Int.le_total 0 a with z | z
  · have k1 := Int.mul_le_mul_of_nonneg_left (show x ≤ 9 by omega) z
    have k2 := Int.mul_le_mul_of_nonneg_left (show -9 ≤ x by omega) z
    omega
  · have k1 := Int.mul_le_mul_of_nonpos_left z (show x ≤ 9 by omega)
    have k2 := Int.mul_le_mul_of_nonpos_left z (show -9 ≤ x by omega)
    omega
def e9 (x : Int) : Prop := x = 9 ∨ x = -9
def d3 (a b c d e f g h i : Int) : Int := g * (b * f - c * e) - h * (a * f - c * d) + i * (a * e - b * d)
theorem d3_0 {a b c d e f g h i : Int} (ha : e9 a) (hb : e9 b) (hc : e9 c) (hd : e9 d) (he : e9 e) (hf : e9 f) (hg : e9 g) (hh : e9 h) (hi : e9 i) : (d3 a b c d e f g h i).natAbs ≤ 2916 := by
  rcases ha with rfl | rfl <;> rcases hb with rfl | rfl <;> rcases hc with rfl | rfl <;> rcases hd with rfl | rfl <;> rcases he with rfl | rfl <;> rcases hf with rfl | rfl <;> rcases hg with rfl | rfl <;> rcases hh with rfl | rfl <;> rcases hi with rfl | rfl <;> decide
theorem d3_1 {a b c d e f g h i : Int} (ha : a.natAbs ≤ 9) (hb : e9 b) (hc : e9 c) (hd : e9 d) (he : e9 e) (hf : e9 f) (hg : e9 g) (hh : e9 h) (hi : e9 i) : (d3 a b c d e f g h i).natAbs ≤ 2916 := by
  have k : ∀ a, d3 a b c d e f g h i = (i * e - h * f) * a + d3 0 b c d e f g h i := fun a => by unfold d3; grind
  rw [k]
  exact vtx ha (by rw [← k]; exact d3_0 (Or.inl rfl) hb hc hd he hf hg hh hi) (by rw [← k]; exact d3_0 (Or.inr rfl) hb hc hd he hf hg hh hi)
theorem d3_2 {a b c d e f g h i : Int} (ha : a.natAbs ≤ 9) (hb : b.natAbs ≤ 9) (hc : e9 c) (hd : e9 d) (he : e9 e) (hf : e9 f) (hg : e9 g) (hh : e9 h) (hi : e9 i) : (d3 a b c d e f g h i).natAbs ≤ 2916 := by
  have k : ∀ b, d3 a b c d e f g h i = (g * f - i * d) * b + d3 a 0 c d e f g h i := fun b => by unfold d3; grind
  rw [k]
  exact vtx hb (by rw [← k]; exact d3_1 ha (Or.inl rfl) hc hd he hf hg hh hi) (by rw [← k]; exact d3_1 ha (Or.inr rfl) hc hd he hf hg hh hi)
theorem d3_3 {a b c d e f g h i : Int} (ha : a.natAbs ≤ 9) (hb : b.natAbs ≤ 9) (hc : c.natAbs ≤ 9) (hd : e9 d) (he : e9 e) (hf : e9 f) (hg : e9 g) (hh : e9 h) (hi : e9 i) : (d3 a b c d e f g h i).natAbs ≤ 2916 := by
  have k : ∀ c, d3 a b c d e f g h i = (h * d - g * e) * c + d3 a b 0 d e f g h i := fun c => by unfold d3; grind
  rw [k]
  exact vtx hc (by rw [← k]; exact d3_2 ha hb (Or.inl rfl) hd he hf hg hh hi) (by rw [← k]; exact d3_2 ha hb (Or.inr rfl) hd he hf hg hh hi)
theorem d3_4 {a b c d e f g h i : Int} (ha : a.natAbs ≤ 9) (hb : b.natAbs ≤ 9) (hc : c.natAbs ≤ 9) (hd : d.natAbs ≤ 9) (he : e9 e) (hf : e9 f) (hg : e9 g) (hh : e9 h) (hi : e9 i) : (d3 a b c d e f g h i).natAbs ≤ 2916 := by
  have k : ∀ d, d3 a b c d e f g h i = (h * c - i * b) * d + d3 a b c 0 e f g h i := fun d => by unfold d3; grind
  rw [k]
  exact vtx hd (by rw [← k]; exact d3_3 ha hb hc (Or.inl rfl) he hf hg hh hi) (by rw [← k]; exact d3_3 ha hb hc (Or.inr rfl) he hf hg hh hi)
theorem d3_5 {a b c d e f g h i : Int} (ha : a.natAbs ≤ 9) (hb : b.natAbs ≤ 9) (hc : c.natAbs ≤ 9) (hd : d.natAbs ≤ 9) (he : e.natAbs ≤ 9) (hf : e9 f) (hg : e9 g) (hh : e9 h) (hi : e9 i) : (d3 a b c d e f g h i).natAbs ≤ 2916 := by
  have k : ∀ e, d3 a b c d e f g h i = (i * a - g * c) * e + d3 a b c d 0 f g h i := fun e => by unfold d3; grind
  rw [k]
  exact vtx he (by rw [← k]; exact d3_4 ha hb hc hd (Or.inl rfl) hf hg hh hi) (by rw [← k]; exact d3_4 ha hb hc hd (Or.inr rfl) hf hg hh hi)
theorem d3_6 {a b c d e f g h i : Int} (ha : a.natAbs ≤ 9) (hb : b.natAbs ≤ 9) (hc : c.natAbs ≤ 9) (hd : d.natAbs ≤ 9) (he : e.natAbs ≤ 9) (hf : f.natAbs ≤ 9) (hg : e9 g) (hh : e9 h) (hi : e9 i) : (d3 a b c d e f g h i).natAbs ≤ 2916 := by
  have k : ∀ f, d3 a b c d e f g h i = (g * b - h * a) * f + d3 a b c d e 0 g h i := fun f => by unfold d3; grind
  rw [k]
  exact vtx hf (by rw [← k]; exact d3_5 ha hb hc hd he (Or.inl rfl) hg hh hi) (by rw [← k]; exact d3_5 ha hb hc hd he (Or.inr rfl) hg hh hi)
theorem d3_7 {a b c d e f g h i : Int} (ha : a.natAbs ≤ 9) (hb : b.natAbs ≤ 9) (hc : c.natAbs ≤ 9) (hd : d.natAbs ≤ 9) (he : e.natAbs ≤ 9) (hf : f.natAbs ≤ 9) (hg : g.natAbs ≤ 9) (hh : e9 h) (hi : e9 i) : (d3 a b c d e f g h i).natAbs ≤ 2916 := by
  have k : ∀ g, d3 a b c d e f g h i = (b * f - c * e) * g + d3 a b c d e f 0 h i := fun g => by unfold d3; grind
  rw [k]
  exact vtx hg (by rw [← k]; exact d3_6 ha hb hc hd he hf (Or.inl rfl) hh hi) (by rw [← k]; exact d3_6 ha hb hc hd he hf (Or.inr rfl) hh hi)
theorem d3_8 {a b c d e f g h i : Int} (ha : a.natAbs ≤ 9) (hb : b.natAbs ≤ 9) (hc : c.natAbs ≤ 9) (hd : d.natAbs ≤ 9) (he : e.natAbs ≤ 9) (hf : f.natAbs ≤ 9) (hg : g.natAbs ≤ 9) (hh : h.natAbs ≤ 9) (hi : e9 i) : (d3 a b c d e f g h i).natAbs ≤ 2916 := by
  have k : ∀ h, d3 a b c d e f g h i = (c * d - a * f) * h + d3 a b c d e f g 0 i := fun h => by unfold d3; grind
  rw [k]
  exact vtx hh (by rw [← k]; exact d3_7 ha hb hc hd he hf hg (Or.inl rfl) hi) (by rw [← k]; exact d3_7 ha hb hc hd he hf hg (Or.inr rfl) hi)
theorem d3_9 {a b c d e f g h i : Int} (ha : a.natAbs ≤ 9) (hb : b.natAbs ≤ 9) (hc : c.natAbs ≤ 9) (hd : d.natAbs ≤ 9) (he : e.natAbs ≤ 9) (hf : f.natAbs ≤ 9) (hg : g.natAbs ≤ 9) (hh : h.natAbs ≤ 9) (hi : i.natAbs ≤ 9) : (d3 a b c d e f g h i).natAbs ≤ 2916 := by
  have k : ∀ i, d3 a b c d e f g h i = (a * e - b * d) * i + d3 a b c d e f g h 0 := fun i => by unfold d3; grind
  rw [k]
  exact vtx hi (by rw [← k]; exact d3_8 ha hb hc hd he hf hg hh (Or.inl rfl)) (by rw [← k]; exact d3_8 ha hb hc hd he hf hg hh (Or.inr rfl))
def Om : Nat → Nat
  | 0 => 1
  | 1 => 9
  | 2 => 162
  | 3 => 2916
  | k + 4 => (k + 4) * (9 * Om (k + 3))
theorem mi_up {A : Nat → Nat → Int} {k M : Nat} {c : Nat → Nat} (hA : ∀ m, m < k + 1 → (A k (c m)).natAbs ≤ 9) (hM : ∀ m, m < k + 1 → (mi A k (sk m c)).natAbs ≤ M) : (mi A (k + 1) c).natAbs ≤ (k + 1) * (9 * M) := by
  rw [mi_s]
  refine sm_le (fun m hm => ?_)
  rw [Int.natAbs_mul, sgn_abs, Nat.one_mul, Int.natAbs_mul]
  exact Nat.mul_le_mul (hA m hm) (hM m hm)
theorem mi_3 {A : Nat → Nat → Int} {c : Nat → Nat} : mi A 3 c = -d3 (A 0 (c 0)) (A 0 (c 1)) (A 0 (c 2)) (A 1 (c 0)) (A 1 (c 1)) (A 1 (c 2)) (A 2 (c 0)) (A 2 (c 1)) (A 2 (c 2)) := by
  simp only [mi, sm, sgn, sk, d3]
  simp
  grind
theorem mi_le {A : Nat → Nat → Int} : ∀ {k : Nat} {c : Nat → Nat}, (∀ r m, r < k → m < k → (A r (c m)).natAbs ≤ 9) → (mi A k c).natAbs ≤ Om k
  | 0, _, _ => Nat.le_refl _
  | 1, c, h => mi_up (M := 1) (fun m hm => h 0 m (by omega) hm) (fun m hm => Nat.le_refl _)
  | 2, c, h => mi_up (M := 9) (fun m hm => h 1 m (by omega) hm) (fun m hm => mi_le (k := 1) (fun r i hr hi => by
    unfold sk
    split
    · exact h r i (by omega) (by omega)
    · exact h r (i + 1) (by omega) (by omega)))
  | 3, c, h => by
    rw [mi_3, Int.natAbs_neg]
    exact d3_9 (h _ _ (by omega) (by omega)) (h _ _ (by omega) (by omega)) (h _ _ (by omega) (by omega)) (h _ _ (by omega) (by omega)) (h _ _ (by omega) (by omega)) (h _ _ (by omega) (by omega)) (h _ _ (by omega) (by omega)) (h _ _ (by omega) (by omega)) (h _ _ (by omega) (by omega))
  | k + 4, c, h => mi_up (M := Om (k + 3)) (fun m hm => h _ m (by omega) hm) (fun m hm => mi_le (k := k + 3) (fun r i hr hi => by
    unfold sk
    split
    · exact h r i (by omega) (by omega)
    · exact h r (i + 1) (by omega) (by omega)))
