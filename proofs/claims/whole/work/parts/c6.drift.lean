/-! ## drift: both sides draw alike -/
theorem dN_e (s : Nat) : dN' s = dN s := rfl
/-- class's and reference's state in the course of a drift -/
def JR (ab be : Nat → Int32) (t : dT) (st de : Nat → Int32) (d s : Nat) : Prop := StR st t.2.1 ab be t.2.2.1 ∧ SoR t.2.1 t.2.2.1 t.2.2.2.2.2.2.2 ∧ DeR de d t.2.2.2.2.1 t.2.2.2.2.2.1 ∧ d = t.2.2.2.2.2.2.1 ∧ t.2.2.2.1 = nI s ∧ s < 2147483648
theorem fl_10 {rd : Nat → Int32} {e : Nat} (h : e < 10) : fl_I rd 0 10 e = 0 := by
  unfold fl_I
  rw [if_pos h]
theorem PoR_dw {po rd r1 r2 r3 : Nat → Int32} {f1 f2 d3 d4 : Nat} (h1 : f1 < 6) (h2 : f2 < 6) (h3 : d3 < 5) (h4 : d4 < 4) (e1 : upd (fl_I rd 0 10) f1 (fl_I rd 0 10 f1 + nI 1) = r1) (e2 : upd r1 f2 (r1 f2 + (nI d3 - nI 2)) = r2) (e3 : upd r2 (6 + d4) (r2 (6 + d4) - nI 1) = r3) : PoR (dw_q (dw_z po 10) f1 f2 d3 d4) r3 := by
  have z1 : ∀ e, e < 10 → dw_z po 10 e = fl_I rd 0 10 e := fun e he => by
    rw [fl_10 he]
    exact if_pos he
  have a1 : ∀ e, e < 10 → upd (dw_z po 10) f1 (dw_z po 10 f1 + nI 1) e = r1 e := fun e he => by
    rw [← e1]
    unfold upd
    rw [z1 f1 (by omega), z1 e he]
  have a2 : ∀ e, e < 10 → upd (upd (dw_z po 10) f1 (dw_z po 10 f1 + nI 1)) f2 (upd (dw_z po 10) f1 (dw_z po 10 f1 + nI 1) f2 + (nI d3 - nI 2)) e = r2 e := fun e he => by
    rw [← e2, a1 f2 (by omega)]
    unfold upd
    by_cases z : e = f2
    · rw [if_pos z, if_pos z]
    · rw [if_neg z, if_neg z]
      have := a1 e he
      unfold upd at this
      exact this
  have a3 : ∀ e, e < 10 → dw_q (dw_z po 10) f1 f2 d3 d4 e = r3 e := fun e he => by
    unfold dw_q
    rw [← e3, a2 (6 + d4) (by omega)]
    show (if e = 6 + d4 then _ else _) = (if e = 6 + d4 then _ else _)
    by_cases z : e = 6 + d4
    · rw [if_pos z, if_pos z]
    · rw [if_neg z, if_neg z]
      exact a2 e he
  -- small numbers
  have b1 : ∀ e, e < 10 → ∃ x : Int, r1 e = iZ x ∧ 0 ≤ x ∧ x ≤ 1 := fun e he => by
    rw [← e1]
    unfold upd
    by_cases z : e = f1
    · rw [if_pos z, fl_10 (by omega)]
      exact ⟨1, rfl, by omega, by omega⟩
    · rw [if_neg z, fl_10 he]
      exact ⟨0, rfl, by omega, by omega⟩
  have ed : nI d3 - nI 2 = iZ ((d3 : Int) - 2) := by
    rw [nI_iZ, nI_iZ, iZ_sub]
    rfl
  have b2 : ∀ e, e < 10 → ∃ x : Int, r2 e = iZ x ∧ -2 ≤ x ∧ x ≤ 3 := fun e he => by
    rw [← e2]
    unfold upd
    by_cases z : e = f2
    · obtain ⟨x, x1, x2, x3⟩ := b1 f2 (by omega)
      rw [if_pos z, x1, ed, iZ_add]
      exact ⟨_, rfl, by omega, by omega⟩
    · obtain ⟨x, x1, x2, x3⟩ := b1 e he
      rw [if_neg z]
      exact ⟨x, x1, by omega, by omega⟩
  intro e he
  refine ⟨a3 e he, ?_⟩
  rw [← e3]
  unfold upd
  by_cases z : e = 6 + d4
  · obtain ⟨x, x1, x2, x3⟩ := b2 (6 + d4) (by omega)
    rw [if_pos z, x1, nI_iZ, iZ_sub, iZ_toInt (by omega)]
    omega
  · obtain ⟨x, x1, x2, x3⟩ := b2 e he
    rw [if_neg z, x1, iZ_toInt (by omega)]
    omega
/-- one draw: the class's next state, the reference's, alike -/
theorem JR_step {ab be : Nat → Int32} {kp : Int32} {t : dT} {st de : Nat → Int32} {d s : Nat} (J : JR ab be t st de d s) : dnI t ∧ ∃ (n s1 s2 s3 s4 f1 f2 d3 d4 : Nat) (F : Nat → Nat) (Rw Cw : Nat → Nat → Int64) (t1 : dT), st 0 = nI n ∧ n ≤ 6 ∧ Ans st n F Rw Cw ∧ s < 2147483648 ∧ d ≤ 20 ∧ s1 = dN s ∧ s2 = dN s1 ∧ s3 = dN s2 ∧ s4 = dN s3 ∧ f1 = s1 / 65536 % 6 ∧ f2 = s2 / 65536 % 6 ∧ d3 = s3 / 65536 % 5 ∧ d4 = s4 / 65536 % 4 ∧ dnC ab be kp t t1 ∧ ∀ po : Nat → Int32, ∃ res : Bool, (n < 6 → dw_a (dw_q (dw_z po 10) f1 f2 d3 d4) f1 f2 = true → May n F Rw Cw (dw_q (dw_z po 10) f1 f2 d3 d4) res) ∧ JR ab be t1 (if (decide (n < 6) && dw_a (dw_q (dw_z po 10) f1 f2 d3 d4) f1 f2 && res) = true then sy_st st (dw_q (dw_z po 10) f1 f2 d3 d4) n else st) (nt_e de st d) (nt_d d) s4 := by
  obtain ⟨rd, sy, n, dw, ss, mx, ct, so⟩ := t
  obtain ⟨j1, j2, j3, j4, j5, j6⟩ := J
  dsimp only at j1 j2 j3 j4 j5
  subst j4
  have n6 := j1.2.1
  have s6 := al_le j1 j2
  have m1 := dN_lt s
  have m2 := dN_lt (dN s)
  have m3 := dN_lt (dN (dN s))
  have g1 := dc_N (s := s) j6
  have g2 := dc_N (s := dN s) m1
  have g3 := dc_N (s := dN (dN s)) m2
  have g4 := dc_N (s := dN (dN (dN s))) m3
  have v1 := (dv_N (s := s) (n := 6) j6 (by decide)).1
  have v2 := (dv_N (s := dN s) (n := 6) m1 (by decide)).1
  have v3 := (dv_N (s := dN (dN s)) (n := 5) m2 (by decide)).1
  have v4 := (dv_N (s := dN (dN (dN s))) (n := 4) m3 (by decide)).1
  rw [dN_e] at g1 g2 g3 g4 v1 v2 v3 v4
  have l1 : dN s / 65536 % 6 < 6 := Nat.mod_lt _ (by decide)
  have l2 : dN (dN s) / 65536 % 6 < 6 := Nat.mod_lt _ (by decide)
  have l3 : dN (dN (dN s)) / 65536 % 5 < 5 := Nat.mod_lt _ (by decide)
  have l4 : dN (dN (dN (dN s))) / 65536 % 4 < 4 := Nat.mod_lt _ (by decide)
  have m4 := dN_lt (dN (dN (dN s)))
  obtain ⟨F, S, h, X, hZ, hA⟩ := al_ans j1
  generalize e1 : dN s = q1 at *
  generalize e2 : dN q1 = q2 at *
  generalize e3 : dN q2 = q3 at *
  generalize e4 : dN q3 = q4 at *
  generalize ea : q1 / 65536 % 6 = a at *
  generalize ec : q2 / 65536 % 6 = c at *
  generalize eo : q3 / 65536 % 5 = o at *
  generalize ed : q4 / 65536 % 4 = d4 at *
  generalize x1 : upd (fl_I rd 0 10) a (fl_I rd 0 10 a + nI 1) = r1 at *
  generalize x2 : upd r1 c (r1 c + (nI o - nI 2)) = r2 at *
  generalize x3 : upd r2 (6 + d4) (r2 (6 + d4) - nI 1) = r3 at *
  have P : ∀ po : Nat → Int32, PoR (dw_q (dw_z po 10) a c o d4) r3 := fun po => PoR_dw l1 l2 l3 l4 x1 x2 x3
  have dr : dw = nI s := j5
  have hI : dnI (rd, sy, n, dw, ss, mx, d, so) := ⟨s6, n6, j3.2.1, j3.1, nI q1, nI q2, nI q3, a, c, d4, by rw [dr]; exact g1, g2, g3, by rw [dr]; exact v1, v2, v4, l1, l2, l4⟩
  have dn := fun (sy1 : Nat → Nat → Int32) (n1 : Nat) (so1 : slT) (q : ((¬ ((¬ r3 a = 0 ∨ ¬ r3 c = 0) ∧ n < 6) ∧ sy1 = sy ∧ n1 = n ∧ so1 = so) ∨ (((¬ r3 a = 0 ∨ ¬ r3 c = 0) ∧ n < 6) ∧ ¬ ag_u r3 so = true ∧ sy1 = sy ∧ n1 = n ∧ so1 = sw_u2 r3 so) ∨ (((¬ r3 a = 0 ∨ ¬ r3 c = 0) ∧ n < 6) ∧ ag_u r3 so = true ∧ sy1 = (fun i => if i = n then va_cpy r3 (sy n) 0 0 10 else sy i) ∧ n1 = n + 1 ∧ so1 = su r3 (sw_u2 r3 so)))) => (show dnC ab be kp (rd, sy, n, dw, ss, mx, d, so) (r3, sy1, n1, nI q4, nt_s ss mx (sy, ab, be, nI n, dw, kp), (mx + 1) % 20, nt_c d, so1) from ⟨nI q1, nI q2, nI q3, nI o - nI 2, a, c, d4, fl_I rd 0 10, r1, r2, by rw [dr]; exact g1, g2, g3, g4, by rw [dr]; exact v1, v2, by rw [v3], v4, l1, l2, l4, rfl, x1, x2, x3, rfl, rfl, rfl, q⟩)
  obtain ⟨D1, D2⟩ := DeR_nt (n := n) (st := st) (t := (sy, ab, be, nI n, dw, kp)) j3 ⟨j1, rfl⟩
  have dwa : ∀ po : Nat → Int32, (dw_a (dw_q (dw_z po 10) a c o d4) a c = true ↔ (¬ r3 a = 0 ∨ ¬ r3 c = 0)) := fun po => by
    unfold dw_a
    rw [(P po a (by omega)).1, (P po c (by omega)).1]
    simp
  refine ⟨hI, ?_⟩
  by_cases z : (¬ r3 a = 0 ∨ ¬ r3 c = 0) ∧ n < 6
  · by_cases y : ag_u r3 so = true
    · refine ⟨n, q1, q2, q3, q4, a, c, o, d4, F, _, _, _, j1.1, n6, hA, j6, j3.1, rfl, e2.symm, e3.symm, e4.symm, ea.symm, ec.symm, eo.symm, ed.symm, dn _ _ _ (Or.inr (Or.inr ⟨z, y, rfl, rfl, rfl⟩)), fun po => ⟨true, fun _ _ => ?_, ?_⟩⟩
      · have := al_may j1 hZ j2 (P po)
        rw [y] at this
        exact this
      · rw [if_pos (by rw [decide_eq_true z.2, (dwa po).mpr z.1]; rfl)]
        obtain ⟨w1, w2⟩ := StR_say j1 j2 (P po) z.2 y
        exact ⟨w1, w2, D1, D2, rfl, m4⟩
    · refine ⟨n, q1, q2, q3, q4, a, c, o, d4, F, _, _, _, j1.1, n6, hA, j6, j3.1, rfl, e2.symm, e3.symm, e4.symm, ea.symm, ec.symm, eo.symm, ed.symm, dn _ _ _ (Or.inr (Or.inl ⟨z, y, rfl, rfl, rfl⟩)), fun po => ⟨false, fun _ _ => ?_, ?_⟩⟩
      · have := al_may j1 hZ j2 (P po)
        rw [show ag_u r3 so = false from by
          cases q : ag_u r3 so with
          | true => exact absurd q y
          | false => rfl] at this
        exact this
      · rw [if_neg (by rw [Bool.and_false]; decide)]
        exact ⟨j1, sw_N j2, D1, D2, rfl, m4⟩
  · refine ⟨n, q1, q2, q3, q4, a, c, o, d4, F, _, _, _, j1.1, n6, hA, j6, j3.1, rfl, e2.symm, e3.symm, e4.symm, ea.symm, ec.symm, eo.symm, ed.symm, dn _ _ _ (Or.inl ⟨z, rfl, rfl, rfl⟩), fun po => ⟨true, fun h1 h2 => absurd ⟨(dwa po).mp h2, h1⟩ z, ?_⟩⟩
    rw [if_neg (fun q => by
      rw [Bool.and_true, Bool.and_eq_true, decide_eq_true_eq] at q
      exact z ⟨(dwa po).mp q.2, q.1⟩)]
    exact ⟨j1, j2, D1, D2, rfl, m4⟩
theorem nI_inj {a b : Nat} (ha : a < 100) (hb : b < 100) (e : nI a = nI b) : a = b := by
  have := congrArg Int32.toInt e
  rw [nI_toInt (by omega), nI_toInt (by omega)] at this
  omega
/-- the class's next state is one -/
theorem dnC_u {ab be : Nat → Int32} {kp : Int32} {t x y : dT} (h1 : dnC ab be kp t x) (h2 : dnC ab be kp t y) : x = y := by
  obtain ⟨rd, sy, n, dw, ss, mx, ct, so⟩ := t
  obtain ⟨a1, a2, a3, a4, a5, a6, a7, a8⟩ := x
  obtain ⟨b1, b2, b3, b4, b5, b6, b7, b8⟩ := y
  obtain ⟨w1, w2, w3, o, a, c, d, r0, r1, r2, p1, p2, p3, p4, p5, p6, p7, p8, p9, p10, p11, p12, p13, p14, p15, p16, p17, p18, p19⟩ := h1
  obtain ⟨w1', w2', w3', o', a', c', d', r0', r1', r2', q1, q2, q3, q4, q5, q6, q7, q8, q9, q10, q11, q12, q13, q14, q15, q16, q17, q18, q19⟩ := h2
  dsimp only at *
  have u1 : w1' = w1 := by rw [← q1, p1]
  subst u1
  have u2 : w2' = w2 := by rw [← q2, p2]
  subst u2
  have u3 : w3' = w3 := by rw [← q3, p3]
  subst u3
  have ua : a' = a := nI_inj (by omega) (by omega) (by rw [← q5, p5])
  subst ua
  have uc : c' = c := nI_inj (by omega) (by omega) (by rw [← q6, p6])
  subst uc
  have ud : d' = d := nI_inj (by omega) (by omega) (by rw [← q8, p8])
  subst ud
  have uo : o' = o := by rw [← q7, p7]
  subst uo
  have v0 : r0' = r0 := by rw [← q12, p12]
  subst v0
  have v1 : r1' = r1 := by rw [← q13, p13]
  subst v1
  have v2 : r2' = r2 := by rw [← q14, p14]
  subst v2
  have e1 : b1 = a1 := by rw [← q15, p15]
  have e4 : b4 = a4 := by rw [← q4, p4]
  subst e1 e4 p16 p17 p18 q16 q17 q18
  rcases p19 with ⟨z, z2, z3, z4⟩ | ⟨z, y, z2, z3, z4⟩ | ⟨z, y, z2, z3, z4⟩ <;> rcases q19 with ⟨w, w2, w3, w4⟩ | ⟨w, v, w2, w3, w4⟩ | ⟨w, v, w2, w3, w4⟩ <;> first | exact absurd w z | exact absurd z w | exact absurd v y | exact absurd y v | (subst z2 z3 z4 w2 w3 w4; rfl)
/-- the class's states in the course of a drift -/
def CT (ab be : Nat → Int32) (kp : Int32) (t0 : dT) : Nat → dT → Prop
  | 0, t => t = t0
  | j + 1, t => ∃ x, CT ab be kp t0 j x ∧ dnC ab be kp x t
theorem CT_u {ab be : Nat → Int32} {kp : Int32} {t0 : dT} : ∀ {j : Nat} {x y : dT}, CT ab be kp t0 j x → CT ab be kp t0 j y → x = y
  | 0, x, y, h1, h2 => by
    have e1 : x = t0 := h1
    have e2 : y = t0 := h2
    rw [e1, e2]
  | j + 1, x, y, ⟨u, u1, u2⟩, ⟨v, v1, v2⟩ => by
    have := CT_u u1 v1
    subst this
    exact dnC_u u2 v2
