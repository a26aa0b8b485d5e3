/-! ## Reading: the class goes letter by letter, the reference part by part -/
def iZ (x : Int) : Int32 := Int32.ofInt x
theorem iZ_add (a b : Int) : iZ a + iZ b = iZ (a + b) := (Int32.ofInt_add a b).symm
theorem iZ_mul (a b : Int) : iZ a * iZ b = iZ (a * b) := (Int32.ofInt_mul a b).symm
theorem iZ_sub (a b : Int) : iZ a - iZ b = iZ (a - b) := (Int32.ofInt_sub a b).symm
theorem iZ_neg (a : Int) : -(iZ a) = iZ (-a) := (Int32.ofInt_neg a).symm
theorem nI_iZ (n : Nat) : nI n = iZ n := rfl
theorem iZ_id (x : Int32) : iZ x.toInt = x := Int32.ofInt_toInt x
theorem iZ_toInt {x : Int} (h : x.natAbs < 2 ^ 31) : (iZ x).toInt = x := by
  unfold iZ
  rw [Int32.toInt_ofInt]
  have e : Int32.size = 4294967296 := rfl
  rw [e]
  exact Int.bmod_eq_of_le (by omega) (by omega)
theorem iZ_64 {x : Int} (h : x.natAbs < 2 ^ 31) : (iZ x).toInt64 = zI x := by rw [i_64, iZ_toInt h]
theorem zI_i32 {x : Int} : (zI x).toInt32 = iZ x := Int64.toInt32_ofInt
theorem skp_n {tx : Nat → Int32} : ∀ {k p : Nat}, skp tx k p < p + k → ¬ tx (skp tx k p) = nI 32
  | 0, p, h => by
    unfold skp at h
    omega
  | k + 1, p, h => by
    unfold skp at h ⊢
    by_cases z : tx p = nI 32
    · rw [if_pos z] at h ⊢
      exact skp_n (by omega)
    · rw [if_neg z]
      exact z
theorem skp_s {tx : Nat → Int32} {k p : Nat} (h : ¬ tx p = nI 32) : skp tx k p = p := by
  cases k with
  | zero => rfl
  | succ k =>
    unfold skp
    rw [if_neg h]
section
variable {tx : Nat → Int32} {n p : Nat}
theorem pl_n (hp : p ≤ n) (h : r_pl tx n p < n) : ¬ tx (r_pl tx n p) = nI 32 := by
  unfold r_pl at h ⊢
  exact skp_n (by omega)
theorem pl_pl (hp : p ≤ n) : r_pl tx n (r_pl tx n p) = r_pl tx n p := by
  have b := r_pl_b (tx := tx) hp
  rcases Nat.eq_or_lt_of_le b.2 with e | e
  · rw [e]
    have := r_pl_b (tx := tx) (Nat.le_refl n)
    omega
  · show skp tx (n - r_pl tx n p) (r_pl tx n p) = r_pl tx n p
    exact skp_s (pl_n hp e)
theorem hc_pl (hp : p ≤ n) : r_hc tx n (r_pl tx n p) = r_hc tx n p := by
  unfold r_hc
  rw [pl_pl hp]
theorem tk_0 {v : Int32} {tt : Nat → Nat → Int64} {sn : Nat → Int32} {fc : Nat → Int64} {op : Nat} {ps sd le : Int32} : q_take v (tt, sn, fc, op, 0, ps, sd, le) = q_atom v (tt, sn, fc, op, 0, ps, sd, le) := rfl
theorem tk_1 {v : Int32} {tt : Nat → Nat → Int64} {sn : Nat → Int32} {fc : Nat → Int64} {op : Nat} {ps sd le : Int32} : q_take v (tt, sn, fc, op, 1, ps, sd, le) = if v = nI 94 then (0, (tt, sn, fc, op, 2, 1, sd, le)) else q_jnt v (tt, sn, fc, op, 1, ps, sd, le) := rfl
theorem tk_2 {v : Int32} {tt : Nat → Nat → Int64} {sn : Nat → Int32} {fc : Nat → Int64} {op : Nat} {ps sd le : Int32} : q_take v (tt, sn, fc, op, 2, ps, sd, le) = if v = nI 45 then (0, (tt, sn, fc, op, 3, -1, sd, le)) else q_fig v (tt, sn, fc, op, 2, ps, sd, le) := rfl
theorem tk_4 {v : Int32} {tt : Nat → Nat → Int64} {sn : Nat → Int32} {fc : Nat → Int64} {op : Nat} {ps sd le : Int32} : q_take v (tt, sn, fc, op, 4, ps, sd, le) = q_jnt v (tt, sn, fc, op, 4, ps, sd, le) := rfl
def RunQ (tx : Nat → Int32) (n p : Nat) (x : rT) : Nat × Nat × rT := q_run tx (n - p) p x
theorem q_sk {x : rT} : ∀ {k p : Nat}, q_run tx k p x = q_run tx (k - (skp tx k p - p)) (skp tx k p) x
  | 0, p => by
    show q_run tx 0 p x = q_run tx (0 - (p - p)) p x
    rw [Nat.sub_self, Nat.sub_self]
  | k + 1, p => by
    have b := @skp_b tx k (p + 1)
    by_cases z : tx p = nI 32
    · have e1 : skp tx (k + 1) p = skp tx k (p + 1) := by
        show (if tx p = nI 32 then skp tx k (p + 1) else p) = _
        rw [if_pos z]
      have e2 : q_run tx (k + 1) p x = q_run tx k (p + 1) x := by
        show (if tx p = nI 32 then q_run tx k (p + 1) x else _) = _
        rw [if_pos z]
      rw [e1, e2, q_sk (k := k) (p := p + 1), show k + 1 - (skp tx k (p + 1) - p) = k - (skp tx k (p + 1) - (p + 1)) by omega]
    · rw [skp_s z, Nat.sub_self, Nat.sub_zero]
theorem run_sk {x : rT} (hp : p ≤ n) : RunQ tx n p x = RunQ tx n (r_pl tx n p) x := by
  have b := r_pl_b (tx := tx) hp
  unfold RunQ
  rw [q_sk]
  show q_run tx (n - p - (r_pl tx n p - p)) (r_pl tx n p) x = _
  rw [show n - p - (r_pl tx n p - p) = n - r_pl tx n p by omega]
theorem run_hc {x : rT} (hp : p ≤ n) (h : ¬ r_hc tx n p = -1) : RunQ tx n p x = if (q_take (r_hc tx n p) x).1 = 0 then RunQ tx n (r_pl tx n p + 1) (q_take (r_hc tx n p) x).2 else ((q_take (r_hc tx n p) x).1, r_pl tx n p, (q_take (r_hc tx n p) x).2) := by
  have lt := r_hc_lt h
  have e : r_hc tx n p = tx (r_pl tx n p) := if_pos lt
  rw [run_sk hp, e]
  unfold RunQ
  obtain ⟨k, hk⟩ : ∃ k, n - r_pl tx n p = k + 1 := ⟨n - r_pl tx n p - 1, by omega⟩
  rw [hk, show n - (r_pl tx n p + 1) = k by omega]
  show (if tx (r_pl tx n p) = nI 32 then _ else _) = _
  rw [if_neg (pl_n hp lt)]
theorem run_e {x : rT} (hT : ∀ i, i < n → 0 ≤ (tx i).toInt) (hp : p ≤ n) (h : r_hc tx n p = -1) : r_pl tx n p = n ∧ RunQ tx n p x = ((q_end x).1, n, (q_end x).2) := by
  have b := r_pl_b (tx := tx) hp
  have e : r_pl tx n p = n := by
    rcases Nat.eq_or_lt_of_le b.2 with y | y
    · exact y
    · exfalso
      have e : r_hc tx n p = tx (r_pl tx n p) := if_pos y
      have := hT _ y
      rw [← e, h] at this
      exact absurd this (by decide)
  refine ⟨e, ?_⟩
  rw [run_sk hp, e]
  unfold RunQ
  rw [Nat.sub_self]
  rfl
/-- a factor on both sides -/
def RF (fc : Nat → Int32) (fq : Nat → Int64) (Fc : Nat → Int) (m : Nat) : Prop := ∀ k, k < 10 → fc k = iZ (Fc k) ∧ fq k = zI (Fc k) ∧ (Fc k).natAbs ≤ m
theorem fig_q {c : Int32} (h : nI 48 ≤ c ∧ c ≤ nI 57) : ∃ q : Nat, q ≤ 9 ∧ c = nI (48 + q) := by
  have h1 := Int32.le_iff_toInt_le.mp h.1
  have h2 := Int32.le_iff_toInt_le.mp h.2
  rw [show (nI 48).toInt = 48 from by decide] at h1
  rw [show (nI 57).toInt = 57 from by decide] at h2
  refine ⟨(c.toInt - 48).toNat, by omega, ?_⟩
  rw [nI_iZ, show ((48 + (c.toInt - 48).toNat : Nat) : Int) = c.toInt by omega, iZ_id]
theorem RF_pow {fc : Nat → Int32} {fq : Nat → Int64} {Fc : Nat → Int} {m : Nat} {a : Int32} {t : Int} {u : Int64} (hF : RF fc fq Fc m) (ha : a = iZ t) (hu : u = zI t) (ht : t.natAbs ≤ 9) : RF (pw_f fc a 10) (fg_s fq u 10) (fun k => Fc k * t) (9 * m) := fun k hk => by
  obtain ⟨h1, h2, h3⟩ := hF k hk
  refine ⟨?_, ?_, ?_⟩
  · show (if k < 10 then fc k * a else fc k) = _
    rw [if_pos hk, h1, ha, iZ_mul]
  · show (if k < 10 then fq k * u else fq k) = _
    rw [if_pos hk, h2, hu, zI_mul]
  · rw [Int.natAbs_mul, Nat.mul_comm]
    exact Nat.mul_le_mul ht h3
theorem hc_ne {v : Int32} (h : nI 0 ≤ v) : ¬ v = -1 := fun e => by
  rw [e] at h
  exact absurd h (by decide)
/-- a power behind a factor, or none -/
theorem PW {fc : Nat → Int32} {fq : Nat → Int64} {Fc : Nat → Int} {m : Nat} {tt : Nat → Nat → Int64} {sn : Nat → Int32} {op : Nat} {ps sd le : Int32} (hT : ∀ i, i < n → 0 ≤ (tx i).toInt) (hp : p ≤ n) (hF : RF fc fq Fc m) : ((r_pw tx n p 0 fc).2.1 = 0 ∧ ∃ (fq1 : Nat → Int64) (ex1 : Nat) (ps1 : Int32) (Fc1 : Nat → Int) (m1 : Nat), RunQ tx n p (tt, sn, fq, op, 1, ps, sd, le) = RunQ tx n (r_pw tx n p 0 fc).1 (tt, sn, fq1, op, ex1, ps1, sd, le) ∧ RF (r_pw tx n p 0 fc).2.2 fq1 Fc1 m1 ∧ ((ex1 = 1 ∧ ¬ r_hc tx n (r_pw tx n p 0 fc).1 = nI 94 ∧ m1 = m) ∨ (ex1 = 4 ∧ m1 = 9 * m))) ∨ ((r_pw tx n p 0 fc).2.1 = 1 ∧ r_pl tx n (r_pw tx n p 0 fc).1 = (r_pw tx n p 0 fc).1 ∧ ∃ x1, RunQ tx n p (tt, sn, fq, op, 1, ps, sd, le) = (1, (r_pw tx n p 0 fc).1, x1)) := by
  by_cases c : r_hc tx n p = nI 94
  · -- a power
    have n1 : ¬ r_hc tx n p = -1 := by
      rw [c]
      decide
    have lt := r_hc_lt n1
    have e1 : RunQ tx n p (tt, sn, fq, op, 1, ps, sd, le) = RunQ tx n (r_pl tx n p + 1) (tt, sn, fq, op, 2, 1, sd, le) := by
      have q : q_take (nI 94) (tt, sn, fq, op, 1, ps, sd, le) = (0, (tt, sn, fq, op, 2, 1, sd, le)) := by
        rw [tk_1, if_pos rfl]
      rw [run_hc hp n1, c, q]
      rfl
    rw [e1]
    -- behind a minus, or where it would be
    obtain ⟨ex, ps1, e2, h2, hx⟩ : ∃ (ex : Nat) (ps1 : Int32), RunQ tx n (r_pl tx n p + 1) (tt, sn, fq, op, 2, 1, sd, le) = RunQ tx n (pw_2 tx n p) (tt, sn, fq, op, ex, ps1, sd, le) ∧ pw_2 tx n p ≤ n ∧ ((pw_mi tx n p = true ∧ ex = 3 ∧ ps1 = -1) ∨ (pw_mi tx n p = false ∧ ex = 2 ∧ ps1 = 1 ∧ ¬ r_hc tx n (pw_2 tx n p) = nI 45)) := by
      have b := r_pl_b (tx := tx) (n := n) (p := r_pl tx n p + 1) lt
      by_cases z : r_hc tx n (r_pl tx n p + 1) = nI 45
      · have mi : pw_mi tx n p = true := decide_eq_true z
        have n2 : ¬ r_hc tx n (r_pl tx n p + 1) = -1 := by
          rw [z]
          decide
        have lt2 := r_hc_lt n2
        have e : pw_2 tx n p = r_pl tx n (r_pl tx n p + 1) + 1 := by
          unfold pw_2
          rw [mi, if_pos rfl]
        refine ⟨3, -1, ?_, by omega, Or.inl ⟨mi, rfl, rfl⟩⟩
        have q : q_take (nI 45) (tt, sn, fq, op, 2, 1, sd, le) = (0, (tt, sn, fq, op, 3, -1, sd, le)) := by
          rw [tk_2, if_pos rfl]
        rw [run_hc lt n2, z, q, e]
        rfl
      · have mi : pw_mi tx n p = false := decide_eq_false z
        have e : pw_2 tx n p = r_pl tx n (r_pl tx n p + 1) := by
          unfold pw_2
          rw [mi, if_neg (by decide)]
          rfl
        refine ⟨2, 1, ?_, by omega, Or.inr ⟨mi, rfl, rfl, ?_⟩⟩
        · rw [e]
          exact run_sk lt
        · rw [e, hc_pl lt]
          exact z
    rw [e2]
    have tk : ∀ v, (pw_mi tx n p = false → ¬ v = nI 45) → q_take v (tt, sn, fq, op, ex, ps1, sd, le) = q_fig v (tt, sn, fq, op, ex, ps1, sd, le) := fun v hv => by
      rcases hx with ⟨-, rfl, rfl⟩ | ⟨h3, rfl, rfl, -⟩
      · rfl
      · rw [tk_2, if_neg (hv h3)]
    have nm : pw_mi tx n p = false → ¬ r_hc tx n (pw_2 tx n p) = nI 45 := fun h3 => by
      rcases hx with ⟨h4, -⟩ | ⟨-, -, -, h4⟩
      · rw [h4] at h3
        cases h3
      · exact h4
    by_cases g : nI 48 ≤ r_hc tx n (pw_2 tx n p) ∧ r_hc tx n (pw_2 tx n p) ≤ nI 57
    · obtain ⟨q, q9, eq⟩ := fig_q g
      have n3 : ¬ r_hc tx n (pw_2 tx n p) = -1 := hc_ne (Int32.le_trans (by decide) g.1)
      have er : r_pw tx n p 0 fc = (r_pl tx n (pw_2 tx n p) + 1, 0, pw_f fc (pw_m (pw_mi tx n p) (r_hc tx n (pw_2 tx n p))) 10) := by
        unfold r_pw
        rw [if_neg (fun y => y c), if_pos g]
      rw [er]
      refine Or.inl ⟨rfl, fg_s fq (ps1 * (r_hc tx n (pw_2 tx n p) - nI 48)).toInt64 10, 4, ps1, fun k => Fc k * (if pw_mi tx n p = true then -(q : Int) else q), 9 * m, ?_, ?_, Or.inr ⟨rfl, rfl⟩⟩
      · rw [run_hc h2 n3, tk _ nm]
        have e : q_fig (r_hc tx n (pw_2 tx n p)) (tt, sn, fq, op, ex, ps1, sd, le) = (0, (tt, sn, fg_s fq (ps1 * (r_hc tx n (pw_2 tx n p) - nI 48)).toInt64 10, op, 4, ps1, sd, le)) := if_pos g
        rw [e]
        rfl
      · have ec : r_hc tx n (pw_2 tx n p) - nI 48 = iZ q := by
          rw [eq, nI_iZ, nI_iZ, iZ_sub]
          congr 1
          omega
        refine RF_pow hF ?_ ?_ (by split <;> omega)
        · show (if pw_mi tx n p = true then nI 48 - r_hc tx n (pw_2 tx n p) else r_hc tx n (pw_2 tx n p) - nI 48) = _
          by_cases z : pw_mi tx n p = true
          · rw [if_pos z, if_pos z, eq, nI_iZ, nI_iZ, iZ_sub]
            congr 1
            omega
          · rw [if_neg z, if_neg z, ec]
        · rw [ec]
          rcases hx with ⟨h3, -, rfl⟩ | ⟨h3, -, rfl, -⟩
          · rw [h3, if_pos rfl, show (-1 : Int32) = iZ (-1) from rfl, iZ_mul, iZ_64 (by omega)]
            congr 1
            omega
          · rw [h3, if_neg (by decide), show (1 : Int32) = iZ 1 from rfl, iZ_mul, iZ_64 (by omega)]
            congr 1
            omega
    · have er : r_pw tx n p 0 fc = (r_pl tx n (pw_2 tx n p), 1, fc) := by
        unfold r_pw
        rw [if_neg (fun y => y c), if_neg g]
        rfl
      rw [er]
      refine Or.inr ⟨rfl, pl_pl h2, ?_⟩
      by_cases z : r_hc tx n (pw_2 tx n p) = -1
      · obtain ⟨y1, y2⟩ := run_e (x := (tt, sn, fq, op, ex, ps1, sd, le)) hT h2 z
        refine ⟨(tt, sn, fq, op, ex, ps1, sd, le), ?_⟩
        rw [y2, y1]
        have : q_end (tt, sn, fq, op, ex, ps1, sd, le) = (1, (tt, sn, fq, op, ex, ps1, sd, le)) := by
          refine if_neg (fun y => ?_)
          have := y.1
          rcases hx with ⟨-, rfl, -⟩ | ⟨-, rfl, -⟩ <;> omega
        rw [this]
      · refine ⟨(tt, sn, fq, op, ex, ps1, sd, le), ?_⟩
        have e : q_fig (r_hc tx n (pw_2 tx n p)) (tt, sn, fq, op, ex, ps1, sd, le) = (1, (tt, sn, fq, op, ex, ps1, sd, le)) := if_neg g
        rw [run_hc h2 z, tk _ nm, e]
        rfl
  · have er : r_pw tx n p 0 fc = (r_pl tx n p, 0, fc) := by
      unfold r_pw
      rw [if_pos c]
    rw [er]
    exact Or.inl ⟨rfl, fq, 1, ps, Fc, m, run_sk hp, hF, Or.inl ⟨rfl, by rw [hc_pl hp]; exact c, rfl⟩⟩
end
