/-! ## commonDivisor, commonGain: the greatest common divisor; what to and fro leaves bounded -/
theorem cd_1 {n x y : Nat} (hx : x < 2 ^ 63) (hy : y < 2 ^ 63) (h0 : y ≠ 0) : cd_l (n + 1) (zI x) (zI y) = cd_l n (zI y) (zI (x % y : Nat)) := by
  have e : ¬ zI y = 0 := fun q => by
    have := (zI_eq0 (a := y) (by unfold rg; omega)).mp q
    omega
  rw [show cd_l (n + 1) (zI x) (zI y) = cd_l n (zI y) (zI x - zI x / zI y * zI y) from if_neg e, zI_dN hx hy, zI_mul, zI_sub]
  congr 2
  have h1 := Nat.div_add_mod x y
  rw [Nat.mul_comm] at h1
  have h2 : ((x / y * y + x % y : Nat) : Int) = (x : Int) := by rw [h1]
  rw [Int.natCast_add, Int.natCast_mul] at h2
  omega
theorem cd_z {n x : Nat} : cd_l n (zI x) (zI (0 : Nat)) = zI x := by
  cases n with
  | zero => rfl
  | succ n => exact if_pos rfl
theorem gcd_st (x y : Nat) : Nat.gcd y (x % y) = Nat.gcd x y := by
  rw [Nat.gcd_comm y, ← Nat.gcd_rec, Nat.gcd_comm]
theorem cd_gcd : ∀ (k n x y : Nat), y < 2 ^ k → 2 * k ≤ n → x < 2 ^ 63 → y < 2 ^ 63 → cd_l n (zI x) (zI y) = zI (Nat.gcd x y)
  | 0, n, x, y, hk, _, hx, hy => by
    have e : y = 0 := by omega
    subst e
    rw [cd_z, Nat.gcd_zero_right]
  | k + 1, n, x, y, hk, hn, hx, hy => by
    by_cases z : y = 0
    · subst z
      rw [cd_z, Nat.gcd_zero_right]
    · obtain ⟨n2, rfl⟩ : ∃ n2, n = n2 + 1 + 1 := ⟨n - 2, by omega⟩
      have l1 := Nat.mod_lt x (show 0 < y by omega)
      rw [cd_1 hx hy z, ← gcd_st x y]
      generalize x % y = w at *
      by_cases z1 : w = 0
      · subst z1
        rw [cd_z, Nat.gcd_zero_right]
      · have l2 := Nat.mod_lt y (show 0 < w by omega)
        have l3 := mod_half (a := y) (b := w) (by omega) (by omega)
        rw [Nat.pow_succ] at hk
        rw [cd_1 hy (by omega) z1, ← gcd_st y w]
        exact cd_gcd k n2 w (y % w) (by omega) (by omega) (by omega) (by omega)
theorem ab_N {a : Int} (h : rg a) : ab_l (zI a) = zI (a.natAbs : Int) := by
  unfold ab_l
  rw [← zI_0]
  by_cases z : 0 < a
  · rw [if_pos ((zI_lt rg_0 h).mpr z), show (a.natAbs : Int) = a by omega]
  · rw [if_neg (fun q => z ((zI_lt rg_0 h).mp q)), show (a.natAbs : Int) = -a by omega]
    exact (Int64.ofInt_neg a).symm
def gcN (g : Nat → Int) : Nat → Nat
  | 0 => 0
  | j + 1 => Nat.gcd (gcN g j) (g j).natAbs
theorem gcd_lt {a b m : Nat} (ha : a < m) (hb : b < m) : Nat.gcd a b < m := by
  rcases Nat.eq_zero_or_pos a with z | z
  · rw [z, Nat.gcd_zero_left]
    exact hb
  · exact Nat.lt_of_le_of_lt (Nat.gcd_le_left _ z) ha
theorem gcN_lt {g : Nat → Int} : ∀ {j : Nat}, (∀ i, i < j → rg (g i)) → gcN g j < 2 ^ 63
  | 0, _ => by
    show 0 < 2 ^ 63
    decide
  | j + 1, h => gcd_lt (gcN_lt (fun i hi => h i (by omega))) (h j (by omega))
theorem cg_N {ga : Nat → Int64} {g : Nat → Int} : ∀ {j : Nat}, (∀ i, i < j → ga i = zI (g i) ∧ rg (g i)) → cg_l ga j = zI (gcN g j)
  | 0, _ => rfl
  | j + 1, h => by
    have hl := gcN_lt (g := g) (j := j) (fun i hi => (h i (by omega)).2)
    have hj := h j (by omega)
    show cd_l 200 (ab_l (cg_l ga j)) (ab_l (ga j)) = _
    rw [cg_N (fun i hi => h i (by omega)), hj.1, ab_N hj.2, ab_N (by unfold rg; omega), Int.natAbs_natCast]
    exact cd_gcd 63 200 _ _ hj.2 (by decide) hl hj.2
/-- commonGain divides each gain, and is nothing only where all are -/
theorem gcN_dvd {g : Nat → Int} : ∀ {j : Nat}, ∀ i, i < j → gcN g j ∣ (g i).natAbs
  | 0, i, hi => by omega
  | j + 1, i, hi => by
    rcases Nat.lt_or_ge i j with z | z
    · exact Nat.dvd_trans (Nat.gcd_dvd_left _ _) (gcN_dvd i z)
    · rw [show i = j by omega]
      exact Nat.gcd_dvd_right _ _
theorem gcN_gr {g : Nat → Int} {d : Nat} : ∀ {j : Nat}, (∀ i, i < j → d ∣ (g i).natAbs) → d ∣ gcN g j
  | 0, _ => Nat.dvd_zero _
  | j + 1, h => Nat.dvd_gcd (gcN_gr (fun i hi => h i (by omega))) (h j (by omega))
/-- to and fro: both rows stay within what bounds them and their 2-minor with the gains -/
theorem dvZ_b {r q : Nat → Int} {g v : Int} {M c : Nat} (hg : rg g) (h1 : (r c).natAbs ≤ M) (h2 : (q c).natAbs ≤ M) (h3 : (g * q c - v * r c).natAbs ≤ M) : ((dvZ 200 r q g v).1 c).natAbs ≤ M ∧ ((dvZ 200 r q g v).2.1 c).natAbs ≤ M := by
  have := dvZ_200 (fun r q g v => (r c).natAbs ≤ M ∧ (q c).natAbs ≤ M ∧ (g * q c - v * r c).natAbs ≤ M) (fun r q g v hg h => by
    refine ⟨v_round hg h.2.2 h.1, h.1, ?_⟩
    dsimp only
    rw [show (v - v.tdiv g * g) * r c - g * (q c - v.tdiv g * r c) = -(g * q c - v * r c) by grind, Int.natAbs_neg]
    exact h.2.2) hg ⟨h1, h2, h3⟩
  exact ⟨this.1, this.2.1⟩
