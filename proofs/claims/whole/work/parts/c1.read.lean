/-! ## Reading: brackets, sides -/
def phi (b : Nat → Nat) : Nat → Nat
  | 0 => b 0
  | d + 1 => phi b d + b (d + 1) * 9 ^ (d + 1)
theorem phi_cg {b c : Nat → Nat} : ∀ {d : Nat}, (∀ e, e ≤ d → b e = c e) → phi b d = phi c d
  | 0, h => h 0 (Nat.le_refl _)
  | d + 1, h => by
    show phi b d + b (d + 1) * 9 ^ (d + 1) = phi c d + c (d + 1) * 9 ^ (d + 1)
    rw [phi_cg (fun e he => h e (by omega)), h (d + 1) (Nat.le_refl _)]
theorem phi_put {b : Nat → Nat} {m : Nat} : ∀ {d : Nat}, phi (fun e => if e = d then b e + m else b e) d = phi b d + m * 9 ^ d
  | 0 => by
    show (if 0 = 0 then b 0 + m else b 0) = b 0 + m * 1
    rw [if_pos rfl, Nat.mul_one]
  | d + 1 => by
    show phi (fun e => if e = d + 1 then b e + m else b e) d + (if d + 1 = d + 1 then b (d + 1) + m else b (d + 1)) * 9 ^ (d + 1) = phi b d + b (d + 1) * 9 ^ (d + 1) + m * 9 ^ (d + 1)
    rw [if_pos rfl, phi_cg (c := b) (fun e he => if_neg (by omega)), Nat.add_mul]
    omega
theorem phi_0 {b : Nat → Nat} : ∀ {d : Nat}, b 0 ≤ phi b d
  | 0 => Nat.le_refl _
  | d + 1 => Nat.le_trans (phi_0 (d := d)) (Nat.le_add_right _ _)
/-- sums and signs of the open brackets on both sides; s, L: the side of the saying and what stood ahead of it -/
def RA (s : Int) (L : Nat → Int) (d : Nat) (su wa : Nat → Int32) (tt : Nat → Nat → Int64) (sn : Nat → Int32) (T : Nat → Nat → Int) (W : Nat → Int) (b : Nat → Nat) : Prop := (∀ e k, e ≤ d → k < 10 → su (10 * e + k) = iZ (T e k) ∧ tt e k = zI (if e = 0 then L k + s * T 0 k else T e k) ∧ (T e k).natAbs ≤ b e) ∧ ∀ e, e ≤ d → wa e = iZ (W e) ∧ sn e = iZ (if e = 0 then s * W 0 else W e) ∧ (W e).natAbs = 1
theorem RA_put {s : Int} {L : Nat → Int} {d : Nat} {su wa : Nat → Int32} {tt : Nat → Nat → Int64} {sn : Nat → Int32} {T : Nat → Nat → Int} {W : Nat → Int} {b : Nat → Nat} {fc : Nat → Int32} {fq : Nat → Int64} {Fc : Nat → Int} {m : Nat} (hs : s.natAbs = 1) (R : RA s L d su wa tt sn T W b) (hF : RF fc fq Fc m) {k : Nat} (hk : k < 10) : ct_su su (wa d) fc d 10 (10 * d + k) = iZ (T d k + W d * Fc k) ∧ at_s (tt d) fq (sn d).toInt64 10 k = zI (if d = 0 then L k + s * (T 0 k + W 0 * Fc k) else T d k + W d * Fc k) ∧ (T d k + W d * Fc k).natAbs ≤ b d + m := by
  obtain ⟨r1, r2, r3⟩ := R.1 d k (Nat.le_refl _) hk
  obtain ⟨w1, w2, w3⟩ := R.2 d (Nat.le_refl _)
  obtain ⟨f1, f2, f3⟩ := hF k hk
  refine ⟨?_, ?_, ?_⟩
  · show (if 10 * d ≤ 10 * d + k ∧ 10 * d + k < 10 * d + 10 then su (10 * d + k) + wa d * fc (10 * d + k - 10 * d) else _) = _
    rw [if_pos (by omega), show 10 * d + k - 10 * d = k by omega, r1, w1, f1, iZ_mul, iZ_add]
  · show (if k < 10 then tt d k + (sn d).toInt64 * fq k else tt d k) = _
    rw [if_pos hk, r2, f2, w2]
    by_cases z : d = 0
    · subst z
      rw [if_pos rfl, if_pos rfl, if_pos rfl, iZ_64 (by rw [Int.natAbs_mul, hs, w3]; decide), zI_mul, zI_add]
      congr 1
      grind
    · rw [if_neg z, if_neg z, if_neg z, iZ_64 (by rw [w3]; decide), zI_mul, zI_add]
  · have : (W d * Fc k).natAbs ≤ m := by
      rw [Int.natAbs_mul, w3, Nat.one_mul]
      exact f3
    omega
theorem ct_lo {su : Nat → Int32} {w : Int32} {fc : Nat → Int32} {d e k : Nat} (h : e < d) (hk : k < 10) : ct_su su w fc d 10 (10 * e + k) = su (10 * e + k) := if_neg (by omega)
/-- behind a factor: what may come next -/
def Bx (ex : Nat) (v : Int32) : Prop := (ex = 1 ∧ ¬ v = nI 94) ∨ ex = 4
theorem tk_b {v : Int32} {tt : Nat → Nat → Int64} {sn : Nat → Int32} {fc : Nat → Int64} {op ex : Nat} {ps sd le : Int32} (h : Bx ex v) : q_take v (tt, sn, fc, op, ex, ps, sd, le) = q_jnt v (tt, sn, fc, op, ex, ps, sd, le) := by
  rcases h with ⟨rfl, h⟩ | rfl
  · rw [tk_1, if_neg h]
  · rw [tk_4]
theorem jn_e {v : Int32} {tt : Nat → Nat → Int64} {sn : Nat → Int32} {fc : Nat → Int64} {op ex : Nat} {ps sd le : Int32} : q_jnt v (tt, sn, fc, op, ex, ps, sd, le) = if v = nI 42 then (0, q_join (if op = 0 then sd else nI 1) (tt, sn, fc, op, ex, ps, sd, le)) else if v = nI 47 then (0, q_join (-(if op = 0 then sd else nI 1)) (tt, sn, fc, op, ex, ps, sd, le)) else if v = nI 41 ∧ 0 < op then (0, q_close (tt, sn, fc, op, ex, ps, sd, le)) else if v = nI 61 ∧ op = 0 ∧ ¬ le = 0 then (0, q_join (-1) (tt, sn, fc, op, ex, ps, -1, 0)) else (1, (tt, sn, fc, op, ex, ps, sd, le)) := rfl
def wt (ex d : Nat) : Nat := 9 ^ (if ex = 1 then d + 1 else d)
theorem wt_ge {ex d : Nat} : 9 ^ d ≤ wt ex d := by
  unfold wt
  split
  · exact Nat.pow_le_pow_right (by decide) (by omega)
  · exact Nat.le_refl _
section
variable {tx : Nat → Int32} {n : Nat}
theorem clw {wa : Nat → Int32} {d p : Nat} {su fc : Nat → Int32} : (r_cl tx n wa d p 1 su fc).1 = p ∧ (r_cl tx n wa d p 1 su fc).2.1 = 1 := by
  cases d with
  | zero => exact ⟨rfl, rfl⟩
  | succ d =>
    unfold r_cl
    rw [if_pos (by decide)]
    exact ⟨rfl, rfl⟩
/-- brackets that are closed behind a factor -/
theorem CL {s : Int} {L : Nat → Int} {bL : Nat} {wa : Nat → Int32} {sn : Nat → Int32} {W : Nat → Int} {sd le : Int32} (hT : ∀ i, i < n → 0 ≤ (tx i).toInt) (hs : s.natAbs = 1) : ∀ {d p : Nat} {su fc : Nat → Int32} {tt : Nat → Nat → Int64} {fq : Nat → Int64} {ex : Nat} {ps : Int32} {T : Nat → Nat → Int} {b : Nat → Nat} {Fc : Nat → Int} {m : Nat}, p ≤ n → RA s L d su wa tt sn T W b → RF fc fq Fc m → Bx ex (r_hc tx n p) → bL + phi b d + m * wt ex d ≤ p * 9 ^ 7 → ((r_cl tx n wa d p 0 su fc).2.1 = 0 ∧ (r_cl tx n wa d p 0 su fc).1 ≤ n ∧ (r_cl tx n wa d p 0 su fc).2.2.1 ≤ d ∧ p ≤ (r_cl tx n wa d p 0 su fc).1 ∧ ∃ (tt1 : Nat → Nat → Int64) (fq1 : Nat → Int64) (ex1 : Nat) (ps1 : Int32) (T1 : Nat → Nat → Int) (b1 : Nat → Nat) (Fc1 : Nat → Int) (m1 : Nat), RunQ tx n p (tt, sn, fq, d, ex, ps, sd, le) = RunQ tx n (r_cl tx n wa d p 0 su fc).1 (tt1, sn, fq1, (r_cl tx n wa d p 0 su fc).2.2.1, ex1, ps1, sd, le) ∧ RA s L (r_cl tx n wa d p 0 su fc).2.2.1 (r_cl tx n wa d p 0 su fc).2.2.2.1 wa tt1 sn T1 W b1 ∧ RF (r_cl tx n wa d p 0 su fc).2.2.2.2 fq1 Fc1 m1 ∧ Bx ex1 (r_hc tx n (r_cl tx n wa d p 0 su fc).1) ∧ bL + phi b1 (r_cl tx n wa d p 0 su fc).2.2.1 + m1 * wt ex1 (r_cl tx n wa d p 0 su fc).2.2.1 ≤ (r_cl tx n wa d p 0 su fc).1 * 9 ^ 7 ∧ ((r_cl tx n wa d p 0 su fc).2.2.1 = 0 ∨ ¬ r_hc tx n (r_cl tx n wa d p 0 su fc).1 = nI 41)) ∨ ((r_cl tx n wa d p 0 su fc).2.1 = 1 ∧ (r_cl tx n wa d p 0 su fc).1 ≤ n ∧ r_pl tx n (r_cl tx n wa d p 0 su fc).1 = (r_cl tx n wa d p 0 su fc).1 ∧ ∃ x1, RunQ tx n p (tt, sn, fq, d, ex, ps, sd, le) = (1, (r_cl tx n wa d p 0 su fc).1, x1))
  | 0, p, su, fc, tt, fq, ex, ps, T, b, Fc, m, hp, R, hF, hB, hP => Or.inl ⟨rfl, hp, Nat.le_refl _, Nat.le_refl _, tt, fq, ex, ps, T, b, Fc, m, rfl, R, hF, hB, hP, Or.inl rfl⟩
  | d + 1, p, su, fc, tt, fq, ex, ps, T, b, Fc, m, hp, R, hF, hB, hP => by
    by_cases c : r_hc tx n p = nI 41
    · have n1 : ¬ r_hc tx n p = -1 := by
        rw [c]
        decide
      have lt := r_hc_lt n1
      have er : r_cl tx n wa (d + 1) p 0 su fc = r_cl tx n wa d (r_pw tx n (r_pl tx n p + 1) 0 (va_cpy (ct_su su (wa (d + 1)) fc (d + 1) 10) fc (10 * (d + 1)) 0 10)).1 (r_pw tx n (r_pl tx n p + 1) 0 (va_cpy (ct_su su (wa (d + 1)) fc (d + 1) 10) fc (10 * (d + 1)) 0 10)).2.1 (ct_su su (wa (d + 1)) fc (d + 1) 10) (r_pw tx n (r_pl tx n p + 1) 0 (va_cpy (ct_su su (wa (d + 1)) fc (d + 1) 10) fc (10 * (d + 1)) 0 10)).2.2 := by
        show (if ¬ (0 : Nat) = 0 then _ else if r_hc tx n p = nI 41 then _ else _) = _
        rw [if_neg (by decide), if_pos c]
      have er2 : RunQ tx n p (tt, sn, fq, d + 1, ex, ps, sd, le) = RunQ tx n (r_pl tx n p + 1) (sl_u tt (d + 1) (at_s (tt (d + 1)) fq (sn (d + 1)).toInt64 10), sn, va_cpy (at_s (tt (d + 1)) fq (sn (d + 1)).toInt64 10) fq 0 0 10, d, 1, ps, sd, le) := by
        have q : q_jnt (nI 41) (tt, sn, fq, d + 1, ex, ps, sd, le) = (0, (sl_u tt (d + 1) (at_s (tt (d + 1)) fq (sn (d + 1)).toInt64 10), sn, va_cpy (at_s (tt (d + 1)) fq (sn (d + 1)).toInt64 10) fq 0 0 10, d, 1, ps, sd, le)) := by
          rw [jn_e, if_neg (by decide), if_neg (by decide), if_pos ⟨rfl, by omega⟩]
          rfl
        rw [run_hc hp n1, tk_b hB, c, q]
        rfl
      rw [er, er2]
      have hF1 : RF (va_cpy (ct_su su (wa (d + 1)) fc (d + 1) 10) fc (10 * (d + 1)) 0 10) (va_cpy (at_s (tt (d + 1)) fq (sn (d + 1)).toInt64 10) fq 0 0 10) (fun k => T (d + 1) k + W (d + 1) * Fc k) (b (d + 1) + m) := fun k hk => by
        obtain ⟨u1, u2, u3⟩ := RA_put hs R hF hk
        refine ⟨?_, ?_, u3⟩
        · unfold va_cpy
          rw [if_pos (by omega), Nat.sub_zero]
          exact u1
        · unfold va_cpy
          rw [if_pos (by omega), Nat.sub_zero, Nat.zero_add, u2, if_neg (by omega)]
      have R1 : RA s L d (ct_su su (wa (d + 1)) fc (d + 1) 10) wa (sl_u tt (d + 1) (at_s (tt (d + 1)) fq (sn (d + 1)).toInt64 10)) sn T W b := by
        refine ⟨fun e k he hk => ?_, fun e he => R.2 e (by omega)⟩
        rw [ct_lo (by omega) hk, sl_ne (by omega)]
        exact R.1 e k (by omega) hk
      have hb := r_pw_b (tx := tx) (n := n) (p := r_pl tx n p + 1) (w := 0) (fc := va_cpy (ct_su su (wa (d + 1)) fc (d + 1) 10) fc (10 * (d + 1)) 0 10) lt (by omega)
      have lp := (r_pl_b (tx := tx) hp).1
      rcases PW (tt := sl_u tt (d + 1) (at_s (tt (d + 1)) fq (sn (d + 1)).toInt64 10)) (sn := sn) (op := d) (ps := ps) (sd := sd) (le := le) hT lt hF1 with ⟨p1, fq1, ex1, ps1, Fc1, m1, p2, p3, p4⟩ | ⟨p1, p2, x1, p3⟩
      · rw [p1, p2]
        have hw : bL + phi b d + m1 * wt ex1 d ≤ (r_pw tx n (r_pl tx n p + 1) 0 (va_cpy (ct_su su (wa (d + 1)) fc (d + 1) 10) fc (10 * (d + 1)) 0 10)).1 * 9 ^ 7 := by
          have e1 : m1 * wt ex1 d = (b (d + 1) + m) * 9 ^ (d + 1) := by
            rcases p4 with ⟨rfl, -, rfl⟩ | ⟨rfl, rfl⟩
            · rfl
            · show 9 * (b (d + 1) + m) * 9 ^ d = _
              rw [Nat.pow_succ]
              grind
          have e2 : phi b (d + 1) = phi b d + b (d + 1) * 9 ^ (d + 1) := rfl
          have e3 := Nat.mul_le_mul_left m (@wt_ge ex (d + 1))
          have e4 : p * 9 ^ 7 ≤ (r_pw tx n (r_pl tx n p + 1) 0 (va_cpy (ct_su su (wa (d + 1)) fc (d + 1) 10) fc (10 * (d + 1)) 0 10)).1 * 9 ^ 7 := Nat.mul_le_mul_right _ (by omega)
          rw [e1, Nat.add_mul]
          omega
        have hB1 : Bx ex1 (r_hc tx n (r_pw tx n (r_pl tx n p + 1) 0 (va_cpy (ct_su su (wa (d + 1)) fc (d + 1) 10) fc (10 * (d + 1)) 0 10)).1) := by
          rcases p4 with ⟨h1, h2, -⟩ | ⟨h1, -⟩
          · exact Or.inl ⟨h1, h2⟩
          · exact Or.inr h1
        rcases CL hT hs hb.1 R1 p3 hB1 hw with ⟨y1, y2, y3, y4, y5⟩ | y
        · exact Or.inl ⟨y1, y2, Nat.le_succ_of_le y3, Nat.le_trans (Nat.le_trans (Nat.le_succ_of_le lp) hb.2.2) y4, y5⟩
        · exact Or.inr y
      · rw [p1, p3]
        obtain ⟨w1, w2⟩ := @clw tx n wa d (r_pw tx n (r_pl tx n p + 1) 0 (va_cpy (ct_su su (wa (d + 1)) fc (d + 1) 10) fc (10 * (d + 1)) 0 10)).1 (ct_su su (wa (d + 1)) fc (d + 1) 10) (r_pw tx n (r_pl tx n p + 1) 0 (va_cpy (ct_su su (wa (d + 1)) fc (d + 1) 10) fc (10 * (d + 1)) 0 10)).2.2
        exact Or.inr ⟨w2, by rw [w1]; exact hb.1, by rw [w1]; exact p2, x1, by rw [w1]⟩
    · have er : r_cl tx n wa (d + 1) p 0 su fc = (r_pl tx n p, 0, d + 1, su, fc) := by
        show (if ¬ (0 : Nat) = 0 then _ else if r_hc tx n p = nI 41 then _ else _) = _
        rw [if_neg (by decide), if_neg c]
      have lp := r_pl_b (tx := tx) hp
      rw [er]
      refine Or.inl ⟨rfl, lp.2, Nat.le_refl _, lp.1, tt, fq, ex, ps, T, b, Fc, m, run_sk hp, R, hF, by rw [hc_pl hp]; exact hB, ?_, Or.inr (by rw [hc_pl hp]; exact c)⟩
      have : p * 9 ^ 7 ≤ r_pl tx n p * 9 ^ 7 := Nat.mul_le_mul_right _ lp.1
      exact Nat.le_trans hP this
/-- a letter and what is closed behind it -/
theorem CSr {s : Int} {L : Nat → Int} {bL : Nat} {wa : Nat → Int32} {sn : Nat → Int32} {W : Nat → Int} {sd le ps : Int32} (hT : ∀ i, i < n → 0 ≤ (tx i).toInt) (hs : s.natAbs = 1) {d p : Nat} {su fc : Nat → Int32} {tt : Nat → Nat → Int64} {fq : Nat → Int64} {T : Nat → Nat → Int} {b : Nat → Nat} {Fc : Nat → Int} (hp : p + 1 ≤ n) (hd : d ≤ 6) (R : RA s L d su wa tt sn T W b) (hF : RF fc fq Fc 1) (hP : bL + phi b d ≤ p * 9 ^ 7) : ((r_cs tx n wa d (p + 1) 0 su fc).2.1 = 0 ∧ (r_cs tx n wa d (p + 1) 0 su fc).1 ≤ n ∧ (r_cs tx n wa d (p + 1) 0 su fc).2.2.1 ≤ 6 ∧ p + 1 ≤ (r_cs tx n wa d (p + 1) 0 su fc).1 ∧ ∃ (su0 : Nat → Int32) (tt1 : Nat → Nat → Int64) (fq1 : Nat → Int64) (ex1 : Nat) (ps1 : Int32) (T1 : Nat → Nat → Int) (b1 : Nat → Nat) (Fc1 : Nat → Int) (m1 : Nat), (r_cs tx n wa d (p + 1) 0 su fc).2.2.2.1 = ct_su su0 (wa (r_cs tx n wa d (p + 1) 0 su fc).2.2.1) (r_cs tx n wa d (p + 1) 0 su fc).2.2.2.2 (r_cs tx n wa d (p + 1) 0 su fc).2.2.1 10 ∧ RunQ tx n (p + 1) (tt, sn, fq, d, 1, ps, sd, le) = RunQ tx n (r_cs tx n wa d (p + 1) 0 su fc).1 (tt1, sn, fq1, (r_cs tx n wa d (p + 1) 0 su fc).2.2.1, ex1, ps1, sd, le) ∧ RA s L (r_cs tx n wa d (p + 1) 0 su fc).2.2.1 su0 wa tt1 sn T1 W b1 ∧ RF (r_cs tx n wa d (p + 1) 0 su fc).2.2.2.2 fq1 Fc1 m1 ∧ Bx ex1 (r_hc tx n (r_cs tx n wa d (p + 1) 0 su fc).1) ∧ bL + phi b1 (r_cs tx n wa d (p + 1) 0 su fc).2.2.1 + m1 * wt ex1 (r_cs tx n wa d (p + 1) 0 su fc).2.2.1 ≤ (r_cs tx n wa d (p + 1) 0 su fc).1 * 9 ^ 7 ∧ ((r_cs tx n wa d (p + 1) 0 su fc).2.2.1 = 0 ∨ ¬ r_hc tx n (r_cs tx n wa d (p + 1) 0 su fc).1 = nI 41)) ∨ ((r_cs tx n wa d (p + 1) 0 su fc).2.1 = 1 ∧ (r_cs tx n wa d (p + 1) 0 su fc).1 ≤ n ∧ r_pl tx n (r_cs tx n wa d (p + 1) 0 su fc).1 = (r_cs tx n wa d (p + 1) 0 su fc).1 ∧ ∃ x1, RunQ tx n (p + 1) (tt, sn, fq, d, 1, ps, sd, le) = (1, (r_cs tx n wa d (p + 1) 0 su fc).1, x1)) := by
  have hb := r_pw_b (tx := tx) (n := n) (p := p + 1) (w := 0) (fc := fc) hp (by omega)
  rcases PW (tt := tt) (sn := sn) (op := d) (ps := ps) (sd := sd) (le := le) hT hp hF with ⟨p1, fq1, ex1, ps1, Fc1, m1, p2, p3, p4⟩ | ⟨p1, p2, x1, p3⟩
  · have hw : bL + phi b d + m1 * wt ex1 d ≤ (r_pw tx n (p + 1) 0 fc).1 * 9 ^ 7 := by
      have e1 : m1 * wt ex1 d = 9 ^ (d + 1) := by
        rcases p4 with ⟨rfl, -, rfl⟩ | ⟨rfl, rfl⟩
        · show 1 * 9 ^ (d + 1) = _
          rw [Nat.one_mul]
        · show 9 * 1 * 9 ^ d = _
          rw [Nat.pow_succ]
          grind
      have e2 : 9 ^ (d + 1) ≤ 9 ^ 7 := Nat.pow_le_pow_right (by decide) (by omega)
      have e3 : (p + 1) * 9 ^ 7 ≤ (r_pw tx n (p + 1) 0 fc).1 * 9 ^ 7 := Nat.mul_le_mul_right _ hb.2.2
      rw [Nat.add_mul, Nat.one_mul] at e3
      omega
    have hB1 : Bx ex1 (r_hc tx n (r_pw tx n (p + 1) 0 fc).1) := by
      rcases p4 with ⟨h1, h2, -⟩ | ⟨h1, -⟩
      · exact Or.inl ⟨h1, h2⟩
      · exact Or.inr h1
    have ex : r_cs tx n wa d (p + 1) 0 su fc = ((r_cl tx n wa d (r_pw tx n (p + 1) 0 fc).1 0 su (r_pw tx n (p + 1) 0 fc).2.2).1, (r_cl tx n wa d (r_pw tx n (p + 1) 0 fc).1 0 su (r_pw tx n (p + 1) 0 fc).2.2).2.1, (r_cl tx n wa d (r_pw tx n (p + 1) 0 fc).1 0 su (r_pw tx n (p + 1) 0 fc).2.2).2.2.1, if (r_cl tx n wa d (r_pw tx n (p + 1) 0 fc).1 0 su (r_pw tx n (p + 1) 0 fc).2.2).2.1 = 0 then ct_su (r_cl tx n wa d (r_pw tx n (p + 1) 0 fc).1 0 su (r_pw tx n (p + 1) 0 fc).2.2).2.2.2.1 (wa (r_cl tx n wa d (r_pw tx n (p + 1) 0 fc).1 0 su (r_pw tx n (p + 1) 0 fc).2.2).2.2.1) (r_cl tx n wa d (r_pw tx n (p + 1) 0 fc).1 0 su (r_pw tx n (p + 1) 0 fc).2.2).2.2.2.2 (r_cl tx n wa d (r_pw tx n (p + 1) 0 fc).1 0 su (r_pw tx n (p + 1) 0 fc).2.2).2.2.1 10 else (r_cl tx n wa d (r_pw tx n (p + 1) 0 fc).1 0 su (r_pw tx n (p + 1) 0 fc).2.2).2.2.2.1, (r_cl tx n wa d (r_pw tx n (p + 1) 0 fc).1 0 su (r_pw tx n (p + 1) 0 fc).2.2).2.2.2.2) := by
      unfold r_cs
      rw [p1]
    rw [ex]
    dsimp only
    rw [p2]
    rcases CL (bL := bL) hT hs hb.1 R p3 hB1 hw with ⟨y1, y2, y3, y4, tt2, fq2, ex2, ps2, T2, b2, Fc2, m2, z1, z2, z3, z4, z5, z6⟩ | ⟨y1, y2, y3, x1, y4⟩
    · rw [y1, if_pos rfl]
      exact Or.inl ⟨rfl, y2, by omega, by omega, _, tt2, fq2, ex2, ps2, T2, b2, Fc2, m2, rfl, z1, z2, z3, z4, z5, z6⟩
    · rw [y1]
      exact Or.inr ⟨rfl, y2, y3, x1, y4⟩
  · obtain ⟨w1, w2⟩ := @clw tx n wa d (r_pw tx n (p + 1) 0 fc).1 su (r_pw tx n (p + 1) 0 fc).2.2
    have e1 : (r_cs tx n wa d (p + 1) 0 su fc).1 = (r_pw tx n (p + 1) 0 fc).1 := by
      unfold r_cs
      dsimp only
      rw [p1, w1]
    have e2 : (r_cs tx n wa d (p + 1) 0 su fc).2.1 = 1 := by
      unfold r_cs
      dsimp only
      rw [p1, w2]
    rw [e1, e2, p3]
    exact Or.inr ⟨rfl, hb.1, p2, x1, rfl⟩
end
