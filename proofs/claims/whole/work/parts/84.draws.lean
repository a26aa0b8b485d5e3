/-! ## Draws: class and reference draw the same -/
def dN' (s : Nat) : Nat := (s * 1103515245 + 12345) % 2147483648
theorem lN_zI (n : Nat) : lN n = zI n := rfl
theorem nI_64 {s : Nat} (h : s < 2 ^ 31) : (nI s).toInt64 = zI s := by
  apply Int64.toInt_inj.mp
  rw [Int32.toInt_toInt64, nI_toInt h, zI_toInt (by unfold rg; omega)]
theorem zI_mul (a b : Int) : zI a * zI b = zI (a * b) := (Int64.ofInt_mul a b).symm
theorem zI_add (a b : Int) : zI a + zI b = zI (a + b) := (Int64.ofInt_add a b).symm
theorem zI_sub (a b : Int) : zI a - zI b = zI (a - b) := (Int64.ofInt_sub a b).symm
theorem dr_N {s : Nat} (h : s < 2 ^ 31) : dr_s (zI s) = zI (dN' s) := by
  unfold dr_s dN'
  rw [show (1103515245 : Int64) = zI 1103515245 from rfl, show (12345 : Int64) = zI 12345 from rfl, show (2147483648 : Int64) = zI 2147483648 from rfl, zI_mul, zI_add, zI_d (by unfold rg; omega) (by unfold rg; omega), zI_mul, zI_sub, Int.tdiv_eq_ediv_of_nonneg (by omega)]
  congr 1
  omega
theorem zI_and {t : Nat} (h : t < 2 ^ 63) : zI t &&& 2147483647 = zI (t % 2147483648 : Nat) := by
  apply Int64.toBitVec_inj.mp
  apply BitVec.eq_of_toNat_eq
  rw [Int64.toBitVec_and, BitVec.toNat_and]
  have e : ∀ n : Nat, n < 2 ^ 63 → (zI n).toBitVec.toNat = n := fun n hn => by
    show (BitVec.ofInt 64 n).toNat = n
    rw [BitVec.toNat_ofInt]
    omega
  rw [e t h, e _ (by omega), show (2147483647 : Int64).toBitVec.toNat = 2 ^ 31 - 1 from rfl, Nat.and_two_pow_sub_one_eq_mod]
theorem zI_32 {n : Nat} (h : n < 2 ^ 31) : (zI n).toInt32 = nI n := by
  apply Int32.toInt_inj.mp
  rw [Int64.toInt_toInt32, zI_toInt (by unfold rg; omega), nI_toInt h]
  exact Int.bmod_eq_of_le (by omega) (by omega)
theorem dc_N {s : Nat} (h : s < 2 ^ 31) : dc_s (nI s) = nI (dN' s) := by
  unfold dc_s dN'
  rw [nI_64 h, show (1103515245 : Int64) = zI 1103515245 from rfl, show (12345 : Int64) = zI 12345 from rfl, zI_mul, zI_add]
  rw [show ((s : Int) * 1103515245 + 12345) = ((s * 1103515245 + 12345 : Nat) : Int) by omega, zI_and (by omega), zI_32 (by omega)]
theorem dNx_lt (s : Nat) : dN' s < 2 ^ 31 := by
  unfold dN'
  omega
theorem zI_dN {a b : Nat} (ha : a < 2 ^ 63) (hb : b < 2 ^ 63) : zI a / zI b = zI (a / b : Nat) := by
  rw [zI_d (by unfold rg; omega) (by unfold rg; omega), Int.tdiv_eq_ediv_of_nonneg (by omega)]
  rfl
theorem nI_dN {a b : Nat} (ha : a < 2 ^ 31) (hb : b < 2 ^ 31) : nI a / nI b = nI (a / b) := by
  have h1 : a / b ≤ a := Nat.div_le_self a b
  apply Int32.toInt_inj.mp
  rw [Int32.toInt_div_of_ne_left _ _ (fun q => by
    have := congrArg Int32.toInt q
    rw [nI_toInt ha, Int32.toInt_minValue] at this
    omega), nI_toInt ha, nI_toInt hb, nI_toInt (by omega), Int.tdiv_eq_ediv_of_nonneg (by omega)]
  rfl
theorem dv_N {s n : Nat} (h : s < 2 ^ 31) (hn : n < 2 ^ 31) : dc_v (nI s) (nI n) = nI (dN' s / 65536 % n) ∧ dr_v (zI s) (nI n) = nI (dN' s / 65536 % n) := by
  have hd := dNx_lt s
  have h1 : dN' s / 65536 < 2 ^ 31 := by omega
  have h2 : dN' s / 65536 / n * n ≤ dN' s / 65536 := Nat.div_mul_le_self _ _
  have h3 : dN' s / 65536 - dN' s / 65536 / n * n = dN' s / 65536 % n := by
    rw [Nat.mod_eq_sub_mul_div, Nat.mul_comm]
  have h4 : dN' s / 65536 / n ≤ dN' s / 65536 := Nat.div_le_self _ _
  constructor
  · unfold dc_v
    rw [dc_N h, show (65536 : Int32) = nI 65536 from rfl, nI_dN hd (by omega), nI_dN h1 hn]
    rw [show nI (dN' s / 65536 / n) * nI n = nI (dN' s / 65536 / n * n) from (Int32.ofNat_mul _ _).symm, pk_sub h2, h3]
  · unfold dr_v
    rw [dr_N h, nI_64 hn, show (65536 : Int64) = zI (65536 : Nat) from rfl, zI_dN (by omega) (by omega), zI_dN (by omega) (by omega), zI_mul, zI_sub]
    rw [show ((dN' s / 65536 : Nat) : Int) - ((dN' s / 65536 / n : Nat) : Int) * (n : Int) = ((dN' s / 65536 % n : Nat) : Int) by rw [← h3, Int.ofNat_sub h2, Int.natCast_mul]]
    exact zI_32 (Nat.lt_of_le_of_lt (Nat.mod_le _ _) h1)
