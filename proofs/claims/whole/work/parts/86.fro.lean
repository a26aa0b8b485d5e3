/-! ## divideToAndFro on whole numbers: it goes the same way, and it ends -/
def E1 (r : Nat → Int64) (R : Nat → Int) : Prop := ∀ c, c < 6 → r c = zI (R c)
def dvZ : Nat → (Nat → Int) → (Nat → Int) → Int → Int → (Nat → Int) × (Nat → Int) × Int
  | 0, r, q, _, v => (r, q, v)
  | t + 1, r, q, g, v => if g = 0 then (r, q, v) else dvZ t (fun c => q c - v.tdiv g * r c) r (v - v.tdiv g * g) g
theorem td_na (v g : Int) : (v - v.tdiv g * g).natAbs = v.natAbs % g.natAbs := by
  rw [show v - v.tdiv g * g = v.tmod g from by
    have := Int.mul_tdiv_add_tmod v g
    rw [Int.mul_comm] at this
    omega, Int.natAbs_tmod]
theorem E1_at {q r : Nat → Int64} {Q R : Nat → Int} {a : Int} (hq : E1 q Q) (hr : E1 r R) : E1 (at_s q r (-(zI a)) 6) (fun c => Q c - a * R c) := fun c hc => by
  unfold at_s
  rw [if_pos hc, hq c hc, hr c hc, show -(zI a) = zI (-a) from (Int64.ofInt_neg a).symm, zI_mul, zI_add, Int.neg_mul]
  rfl
theorem dv_sim : ∀ (t : Nat) {r q : Nat → Int64} {R Q : Nat → Int} {g v : Int}, E1 r R → E1 q Q → rg g → rg v → E1 (dv t r q (zI g) (zI v)).1 (dvZ t R Q g v).1 ∧ E1 (dv t r q (zI g) (zI v)).2.1 (dvZ t R Q g v).2.1 ∧ (dv t r q (zI g) (zI v)).2.2 = zI (dvZ t R Q g v).2.2 ∧ rg (dvZ t R Q g v).2.2
  | 0, r, q, R, Q, g, v, hr, hq, hg, hv => ⟨hr, hq, rfl, hv⟩
  | t + 1, r, q, R, Q, g, v, hr, hq, hg, hv => by
    unfold dv dvZ
    by_cases z : g = 0
    · rw [if_pos ((zI_eq0 hg).mpr z), if_pos z]
      exact ⟨hr, hq, rfl, hv⟩
    · rw [if_neg (fun y => z ((zI_eq0 hg).mp y)), if_neg z, zI_d hv hg, zI_mul, zI_sub]
      refine dv_sim t (E1_at hq hr) hr ?_ hg
      unfold rg at *
      rw [td_na]
      exact Nat.lt_of_le_of_lt (Nat.mod_le _ _) hv
theorem dvZ_0 {t : Nat} {r q : Nat → Int} {v : Int} : dvZ t r q 0 v = (r, q, v) := by
  cases t with
  | zero => rfl
  | succ t => exact if_pos rfl
theorem mod_half {a b : Nat} (h0 : 0 < b) (h : b ≤ a) : 2 * (a % b) < a := by
  have h1 := Nat.mod_lt a h0
  have h2 := Nat.div_add_mod a b
  have h3 : b ≤ b * (a / b) := Nat.le_mul_of_pos_right _ (Nat.div_pos h h0)
  omega
/-- what stays in a turn holds at the end, and there the row's gain is nothing -/
theorem dvZ_fin (P : (Nat → Int) → (Nat → Int) → Int → Int → Prop) (hP : ∀ (r q : Nat → Int) (g v : Int), g ≠ 0 → P r q g v → P (fun c => q c - v.tdiv g * r c) r (v - v.tdiv g * g) g) : ∀ (k t : Nat) (r q : Nat → Int) (g v : Int), g.natAbs < 2 ^ k → 2 * k ≤ t → P r q g v → P (dvZ t r q g v).1 (dvZ t r q g v).2.1 0 (dvZ t r q g v).2.2
  | 0, t, r, q, g, v, hg, _, h => by
    have e : g = 0 := by omega
    subst e
    rw [dvZ_0]
    exact h
  | k + 1, t, r, q, g, v, hg, ht, h => by
    by_cases z : g = 0
    · subst z
      rw [dvZ_0]
      exact h
    · obtain ⟨t2, rfl⟩ : ∃ t2, t = t2 + 1 + 1 := ⟨t - 2, by omega⟩
      have h1 := hP r q g v z h
      rw [show dvZ (t2 + 1 + 1) r q g v = dvZ (t2 + 1) (fun c => q c - v.tdiv g * r c) r (v - v.tdiv g * g) g from if_neg z]
      have e1 := td_na v g
      have l1 := Nat.mod_lt v.natAbs (show 0 < g.natAbs by omega)
      generalize (fun c => q c - v.tdiv g * r c) = r1 at *
      generalize v - v.tdiv g * g = g1 at *
      by_cases z1 : g1 = 0
      · subst z1
        rw [dvZ_0]
        exact h1
      · have h2 := hP r1 r g1 g z1 h1
        rw [show dvZ (t2 + 1) r1 r g1 g = dvZ t2 (fun c => r c - g.tdiv g1 * r1 c) r1 (g - g.tdiv g1 * g1) g1 from if_neg z1]
        refine dvZ_fin P hP k t2 _ _ _ _ ?_ (by omega) h2
        rw [td_na]
        have := mod_half (a := g.natAbs) (b := g1.natAbs) (by omega) (by omega)
        rw [Nat.pow_succ] at hg
        omega
/-- as class puts it: 200 turns are enough for every number of the machine -/
theorem dvZ_200 (P : (Nat → Int) → (Nat → Int) → Int → Int → Prop) (hP : ∀ (r q : Nat → Int) (g v : Int), g ≠ 0 → P r q g v → P (fun c => q c - v.tdiv g * r c) r (v - v.tdiv g * g) g) {r q : Nat → Int} {g v : Int} (hg : rg g) (h : P r q g v) : P (dvZ 200 r q g v).1 (dvZ 200 r q g v).2.1 0 (dvZ 200 r q g v).2.2 := dvZ_fin P hP 63 200 r q g v hg (by decide) h
