/-! ## Numbers converted, on both sides -/
theorem sp_cv {x u : Int64} : ∀ {n : Nat}, cv_m x u n = sp_p u x n
  | 0 => rfl
  | n + 1 => by
    show cv_m x u n * x = sp_p u x n * x
    rw [sp_cv]
theorem sp_u {u a t : Int64} : ∀ {n : Nat}, sp_p (u * a) t n = u * sp_p a t n
  | 0 => rfl
  | n + 1 => by
    show sp_p (u * a) t n * t = u * (sp_p a t n * t)
    rw [sp_u, Int64.mul_assoc]
theorem i3 {q : Int32} (h : q.toInt.natAbs ≤ 9) : ((-3) ≤ q ∧ q ≤ nI 3 ↔ ¬ nI 3 < q ∧ (-3) ≤ q) := by
  rw [Int32.le_iff_toInt_le, Int32.le_iff_toInt_le, Int32.lt_iff_toInt_lt]
  omega
section
variable {st : Nat → Int32} {sc : Nat → Nat → Int32} {ab be : Nat → Int32} {n : Nat} {po rd : Nat → Int32}
theorem ccq_iff (P : PoR po rd) : cc_q rd ↔ ∀ k, k < 10 → cv_k k (po k) = true := by
  unfold cc_q cv_k
  constructor
  · rintro ⟨a, b⟩ k hk
    rw [(P k hk).1]
    by_cases z : k < 6
    · rw [if_pos z]
      exact decide_eq_true (a k z)
    · rw [if_neg z]
      exact decide_eq_true ((i3 (P k hk).2).mpr (b k (by omega) hk))
  · intro a
    refine ⟨fun i hi => ?_, fun i h1 h2 => ?_⟩
    · have := a i (by omega)
      rw [if_pos hi, (P i (by omega)).1] at this
      exact of_decide_eq_true this
    · have := a i h2
      rw [if_neg (by omega), (P i h2).1] at this
      exact (i3 (P i h2).2).mp (of_decide_eq_true this)
theorem cv_no {u d : Int64} {i : Nat} (h : ¬ cv_k i (po i) = true) : ∀ {k : Nat}, i < k → cv st po u d k = none
  | 0, hk => by omega
  | k + 1, hk => by
    by_cases z : i = k
    · subst z
      unfold cv
      cases cv st po u d i with
      | none => rfl
      | some y =>
        dsimp only
        rw [if_neg h]
    · unfold cv
      rw [cv_no h (k := k) (by omega)]
theorem cv_6 {u d : Int64} (h : ∀ i, i < 6 → po i = 0) : ∀ {k : Nat}, k ≤ 6 → cv st po u d k = some (u, d)
  | 0, _ => rfl
  | k + 1, hk => by
    unfold cv
    rw [cv_6 h (k := k) (by omega)]
    dsimp only
    have e : po k = 0 := h k (by omega)
    have c1 : cv_k k (po k) = true := by
      unfold cv_k
      rw [if_pos (by omega), e]
      rfl
    rw [if_pos c1, e, show cv_a 0 = 0 from rfl, show cv_b 0 = 0 from rfl]
    rfl
/-- a step of the bases -/
theorem cv_st {u A B : Int64} {q ax bx : Int32} {x m : Nat} (hq : q.toInt.natAbs = m) : cv_m bx.toInt64 (cv_m ax.toInt64 (u * A) (cv_a q)) (cv_b q) = u * sp_p A (if x_b (0 < q) = nI 1 then ax else bx).toInt64 m ∧ cv_m ax.toInt64 (cv_m bx.toInt64 B (cv_a q)) (cv_b q) = sp_p B (if x_b (0 < q) = nI 0 then ax else bx).toInt64 m := by
  have q0 : (0 : Int32).toInt = 0 := rfl
  rw [sp_cv, sp_cv, sp_cv, sp_cv]
  unfold cv_a cv_b x_b
  by_cases z : 0 < q
  · have z1 := Int32.lt_iff_toInt_lt.mp z
    rw [q0] at z1
    rw [if_pos z, if_pos (show (1 : Int32) = nI 1 from rfl), if_neg (show ¬ (1 : Int32) = nI 0 by decide), show (-q.toInt).toNat = 0 by omega, show q.toInt.toNat = m by omega]
    exact ⟨sp_u, rfl⟩
  · have z1 : ¬ 0 < q.toInt := fun y => z (Int32.lt_iff_toInt_lt.mpr (by rw [q0]; exact y))
    rw [if_neg z, if_neg (show ¬ (0 : Int32) = nI 1 by decide), if_pos (show (0 : Int32) = nI 0 from rfl), show q.toInt.toNat = 0 by omega, show (-q.toInt).toNat = m by omega]
    exact ⟨sp_u, rfl⟩
theorem cv_all {u : Int64} {mu : Nat → Nat} (R : StR st sc ab be n) (P : PoR po rd) (hc : cc_q rd) (hm : ∀ j, j < 4 → (rd (6 + j)).toInt.natAbs = mu j) : ∀ {j : Nat}, j ≤ 4 → cv st po u 1 (6 + j) = some (u * sp_a rd ab be (nI 1) mu j, sp_a rd ab be (nI 0) mu j)
  | 0, _ => by
    rw [cv_6 (fun i hi => by rw [(P i (by omega)).1]; exact hc.1 i hi) (Nat.le_refl 6)]
    show some (u, (1 : Int64)) = some (u * 1, 1)
    rw [Int64.mul_one]
  | j + 1, hj => by
    have c1 := (ccq_iff P).mp hc (6 + j) (by omega)
    show (match cv st po u 1 (6 + j) with
      | none => none
      | some y => if cv_k (6 + j) (po (6 + j)) = true then some (cv_m (st (59 + (6 + j))).toInt64 (cv_m (st (55 + (6 + j))).toInt64 y.1 (cv_a (po (6 + j)))) (cv_b (po (6 + j))), cv_m (st (55 + (6 + j))).toInt64 (cv_m (st (59 + (6 + j))).toInt64 y.2 (cv_a (po (6 + j)))) (cv_b (po (6 + j)))) else none) = _
    rw [cv_all R P hc hm (j := j) (by omega)]
    dsimp only
    obtain ⟨a1, a2⟩ := R.2.2.2.1 j (by omega)
    have s := @cv_st u (sp_a rd ab be (nI 1) mu j) (sp_a rd ab be (nI 0) mu j) (rd (6 + j)) (ab j) (be j) 0 (mu j) (hm j (by omega))
    rw [if_pos c1, (P (6 + j) (by omega)).1, show 59 + (6 + j) = 65 + j by omega, show 55 + (6 + j) = 61 + j by omega, ← a1, ← a2, s.1, s.2]
    rfl
/-- how great the products are -/
theorem sp_N {a t : Nat} : ∀ {k : Nat}, sp_p (zI a) (zI t) k = zI (a * t ^ k : Nat)
  | 0 => by
    show zI a = _
    rw [Nat.pow_zero, Nat.mul_one]
  | k + 1 => by
    show sp_p (zI a) (zI t) k * zI t = _
    rw [sp_N, zI_mul, ← Int.natCast_mul, Nat.mul_assoc, ← Nat.pow_succ]
theorem sp_le {v : Int32} {mu : Nat → Nat} (R : StR st sc ab be n) (hm : ∀ j, j < 4 → mu j ≤ 3) : ∀ {j : Nat}, j ≤ 4 → ∃ N : Nat, 1 ≤ N ∧ N ≤ 1728 ^ j ∧ sp_a rd ab be v mu j = zI N
  | 0, _ => ⟨1, Nat.le_refl _, Nat.le_refl _, rfl⟩
  | j + 1, hj => by
    obtain ⟨N, n1, n2, n3⟩ := sp_le (v := v) R hm (j := j) (by omega)
    obtain ⟨t, t1, t2, t3⟩ : ∃ t : Nat, 1 ≤ t ∧ t ≤ 12 ∧ (sp_t rd ab be v j).toInt64 = zI t := by
      obtain ⟨a1, a2⟩ := R.2.2.2.1 j (by omega)
      obtain ⟨b1, b2⟩ := R.2.2.2.2.2.2 j (by omega)
      unfold sp_t
      by_cases z : x_b (0 < rd (6 + j)) = v
      · rw [if_pos z, a1, i_64]
        exact ⟨(st (61 + j)).toInt.toNat, by omega, by omega, by congr 1; omega⟩
      · rw [if_neg z, a2, i_64]
        exact ⟨(st (65 + j)).toInt.toNat, by omega, by omega, by congr 1; omega⟩
    refine ⟨N * t ^ mu j, Nat.mul_le_mul n1 (Nat.one_le_pow _ _ t1), ?_, ?_⟩
    · rw [Nat.pow_succ]
      refine Nat.mul_le_mul n2 ?_
      refine Nat.le_trans (Nat.pow_le_pow_left t2 _) ?_
      exact Nat.le_trans (Nat.pow_le_pow_right (by decide) (hm j (by omega))) (by decide : 12 ^ 3 ≤ 1728)
    · show sp_p (sp_a rd ab be v mu j) (sp_t rd ab be v j).toInt64 (mu j) = _
      rw [n3, t3, sp_N]
end
/-- made whole: the same -/
theorem mw_eq {U D w : Nat} (hU : U < 2 ^ 63) (hD : 1 ≤ D) (hD2 : D < 2 ^ 62) (hw : w ≤ 3) : (cw_q (zI U) (zI D) w → r_mw (zI U) (zI D) (nI w) = zI U / zI D + 1) ∧ (¬ cw_q (zI U) (zI D) w → r_mw (zI U) (zI D) (nI w) = zI U / zI D) := by
  have q : zI (U : Int) / zI (D : Int) = zI ((U / D : Nat) : Int) := zI_dN hU (by omega)
  have ml := Nat.mod_lt U hD
  have r : zI (U : Int) - zI (U : Int) / zI (D : Int) * zI (D : Int) = zI ((U % D : Nat) : Int) := by
    rw [q, zI_mul, zI_sub]
    congr 1
    have := Nat.div_add_mod U D
    have h2 : (D : Int) * ((U / D : Nat) : Int) + ((U % D : Nat) : Int) = (U : Int) := by exact_mod_cast this
    rw [Int.mul_comm]
    omega
  have two : 2 * zI ((U % D : Nat) : Int) = zI ((2 * (U % D) : Nat) : Int) := by
    show zI 2 * _ = _
    rw [zI_mul]
    rfl
  have od : zI ((U / D : Nat) : Int) - zI ((U / D : Nat) : Int) / 2 * 2 = zI ((U / D % 2 : Nat) : Int) := by
    have ud : U / D < 2 ^ 63 := Nat.lt_of_le_of_lt (Nat.div_le_self _ _) hU
    rw [show (2 : Int64) = zI ((2 : Nat) : Int) from rfl, zI_dN ud (by decide), zI_mul, zI_sub]
    congr 1
    omega
  have g1 : rg ((U % D : Nat) : Int) := by
    unfold rg
    omega
  have g2 : rg ((2 * (U % D) : Nat) : Int) := by
    unfold rg
    omega
  have gD : rg ((D : Nat) : Int) := by
    unfold rg
    omega
  have go : rg ((U / D % 2 : Nat) : Int) := by
    unfold rg
    omega
  have cEq : ∀ {a b : Int}, rg a → rg b → (zI a = zI b ↔ a = b) := fun {a b} ha hb => ⟨fun e => by
    have := congrArg Int64.toInt e
    rw [zI_toInt ha, zI_toInt hb] at this
    exact this, fun e => by rw [e]⟩
  have k0 : zI ((U % D : Nat) : Int) = 0 ↔ U % D = 0 := by
    rw [zI_eq0 g1]
    omega
  have k1 : zI ((D : Nat) : Int) < zI ((2 * (U % D) : Nat) : Int) ↔ D < 2 * (U % D) := by
    rw [zI_lt gD g2]
    omega
  have k2 : zI ((2 * (U % D) : Nat) : Int) = zI ((D : Nat) : Int) ↔ 2 * (U % D) = D := by
    rw [cEq g2 gD]
    omega
  have k3 : zI ((U / D % 2 : Nat) : Int) = 1 ↔ U / D % 2 = 1 := by
    rw [show (1 : Int64) = zI 1 from rfl, cEq go (by unfold rg; decide)]
    omega
  have k4 : zI ((U / D % 2 : Nat) : Int) = 0 ↔ U / D % 2 = 0 := by
    rw [zI_eq0 go]
    omega
  have k5 : 0 < zI ((2 * (U % D) : Nat) : Int) ↔ 0 < U % D := by
    rw [show (0 : Int64) = zI 0 from rfl, zI_lt rg_0 g2]
    omega
  have k6 : zI ((D : Nat) : Int) ≤ zI ((2 * (U % D) : Nat) : Int) ↔ D ≤ 2 * (U % D) := by
    rw [Int64.le_iff_toInt_le, zI_toInt gD, zI_toInt g2]
    omega
  have ln : ∀ i, i ≤ 3 → (nI w = nI i ↔ w = i) := fun i hi => ⟨fun e => by
    have := congrArg Int32.toInt e
    rw [nI_toInt (by omega), nI_toInt (by omega)] at this
    omega, fun e => by rw [e]⟩
  have l0 : nI w = 0 ↔ w = 0 := ln 0 (by omega)
  have l1 := ln 1 (by omega)
  have l2 := ln 2 (by omega)
  have eR : r_mw (zI (U : Int)) (zI (D : Int)) (nI w) = if U % D = 0 ∨ w = 0 then zI ((U / D : Nat) : Int) else if w = 1 ∨ D < 2 * (U % D) ∨ (2 * (U % D) = D ∧ (w = 2 ∨ U / D % 2 = 1)) then zI ((U / D : Nat) : Int) + 1 else zI ((U / D : Nat) : Int) := by
    unfold r_mw
    rw [r, q, two, od]
    simp only [k0, k1, k2, k3, l0, l1, l2]
  have eC : cw_q (zI (U : Int)) (zI (D : Int)) w ↔ (w = 1 ∧ 0 < U % D) ∨ (w = 2 ∧ D ≤ 2 * (U % D)) ∨ (w = 3 ∧ (D < 2 * (U % D) ∨ (2 * (U % D) = D ∧ ¬ U / D % 2 = 0))) := by
    unfold cw_q
    rw [r, q, two, od]
    simp only [k1, k2, k4, k5, k6]
  rw [eC, eR, q]
  constructor
  · intro h
    rw [if_neg (by omega), if_pos (by omega)]
  · intro h
    by_cases z : U % D = 0 ∨ w = 0
    · rw [if_pos z]
    · rw [if_neg z, if_neg (by omega)]
theorem mu_N {q : Int32} (h : q.toInt.natAbs ≤ 9) : (ab_i q).toNatClampNeg = q.toInt.natAbs := by
  have z0 : (0 : Int32).toInt = 0 := rfl
  unfold ab_i
  show (Int32.toInt _).toNat = _
  by_cases z : 0 ≤ q
  · have z1 := Int32.le_iff_toInt_le.mp z
    rw [z0] at z1
    rw [if_pos z]
    omega
  · have z1 : ¬ 0 ≤ q.toInt := fun y => z (Int32.le_iff_toInt_le.mpr (by rw [z0]; exact y))
    rw [if_neg z, show (0 : Int32) - q = iZ (0 - q.toInt) from by
      rw [← iZ_sub, iZ_id]
      rfl, iZ_toInt (by omega)]
    omega
section
variable {st : Nat → Int32} {sc : Nat → Nat → Int32} {ab be : Nat → Int32} {n : Nat} {po rd : Nat → Int32}
/-- converted: what the class needs and the reference needs, and that they answer alike -/
theorem al_cv (R : StR st sc ab be n) (P : PoR po rd) {v : Int32} (hv : nI 0 ≤ v ∧ v ≤ 1000000) : (¬ cc_q rd → cv st po v.toInt64 1 10 = none) ∧ (cc_q rd → cv st po v.toInt64 1 10 = some (v.toInt64 * sp_a rd ab be (nI 1) (mu_f rd) 4, sp_a rd ab be (nI 0) (mu_f rd) 4) ∧ 0 < sp_a rd ab be (nI 0) (mu_f rd) 4 ∧ ¬ sp_a rd ab be (nI 0) (mu_f rd) 4 = 0 ∧ ∀ w, w ≤ 3 → (cw_q (v.toInt64 * sp_a rd ab be (nI 1) (mu_f rd) 4) (sp_a rd ab be (nI 0) (mu_f rd) 4) w → r_mw (v.toInt64 * sp_a rd ab be (nI 1) (mu_f rd) 4) (sp_a rd ab be (nI 0) (mu_f rd) 4) (nI w) = v.toInt64 * sp_a rd ab be (nI 1) (mu_f rd) 4 / sp_a rd ab be (nI 0) (mu_f rd) 4 + 1) ∧ (¬ cw_q (v.toInt64 * sp_a rd ab be (nI 1) (mu_f rd) 4) (sp_a rd ab be (nI 0) (mu_f rd) 4) w → r_mw (v.toInt64 * sp_a rd ab be (nI 1) (mu_f rd) 4) (sp_a rd ab be (nI 0) (mu_f rd) 4) (nI w) = v.toInt64 * sp_a rd ab be (nI 1) (mu_f rd) 4 / sp_a rd ab be (nI 0) (mu_f rd) 4)) := by
  constructor
  · intro hc
    obtain ⟨i, hi⟩ := Classical.not_forall.mp (fun y => hc ((ccq_iff P).mpr y))
    obtain ⟨i1, i2⟩ := Classical.not_forall.mp hi
    exact cv_no i2 i1
  · intro hc
    have hm : ∀ j, j < 4 → (rd (6 + j)).toInt.natAbs = mu_f rd j := fun j hj => (mu_N (P (6 + j) (by omega)).2).symm
    have hm3 : ∀ j, j < 4 → mu_f rd j ≤ 3 := fun j hj => by
      have c := hc.2 (6 + j) (by omega) (by omega)
      have c1 := (i3 (P (6 + j) (by omega)).2).mpr c
      have a1 := Int32.le_iff_toInt_le.mp c1.1
      have a2 := Int32.le_iff_toInt_le.mp c1.2
      rw [show (-3 : Int32).toInt = -3 from by decide] at a1
      rw [show (nI 3).toInt = 3 from by decide] at a2
      rw [← hm j hj]
      omega
    have e := cv_all (u := v.toInt64) R P hc hm (j := 4) (Nat.le_refl _)
    obtain ⟨A, a1, a2, a3⟩ := sp_le (rd := rd) (v := nI 1) R hm3 (j := 4) (Nat.le_refl _)
    obtain ⟨B, b1, b2, b3⟩ := sp_le (rd := rd) (v := nI 0) R hm3 (j := 4) (Nat.le_refl _)
    have h1 := Int32.le_iff_toInt_le.mp hv.1
    have h2 := Int32.le_iff_toInt_le.mp hv.2
    rw [show (nI 0).toInt = 0 from by decide] at h1
    rw [show (1000000 : Int32).toInt = 1000000 from by decide] at h2
    have e12 : (1728 : Nat) ^ 4 = 8916100448256 := by decide
    rw [e12] at a2 b2
    have ev : v.toInt64 * zI (A : Int) = zI ((v.toInt.toNat * A : Nat) : Int) := by
      rw [i_64, zI_mul, Int.natCast_mul, show ((v.toInt.toNat : Nat) : Int) = v.toInt by omega]
    have hU : v.toInt.toNat * A < 2 ^ 63 := Nat.lt_of_le_of_lt (Nat.mul_le_mul (show v.toInt.toNat ≤ 1000000 by omega) a2) (by decide)
    have gB : rg ((B : Nat) : Int) := by
      unfold rg
      omega
    refine ⟨e, ?_, ?_, fun w hw => ?_⟩
    · rw [b3, show (0 : Int64) = zI 0 from rfl, zI_lt rg_0 gB]
      omega
    · rw [b3, zI_eq0 gB]
      omega
    · rw [a3, b3, ev]
      exact mw_eq hU b1 (by omega) hw
end
