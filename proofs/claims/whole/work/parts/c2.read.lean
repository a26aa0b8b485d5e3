/-! ## Reading: one side -/
section
variable {tx : Nat → Int32} {n : Nat}
theorem sl_tt {g p d p1 d1 : Nat} {su wa fc su1 wa1 fc1 : Nat → Int32} (h : r_lt tx n p 0 d su wa fc = (true, p1, 0, d1, su1, wa1, fc1)) : r_sl tx n (g + 1) p 0 d su wa fc = if ¬ (r_cs tx n wa1 d1 p1 0 su1 fc1).2.1 = 0 ∨ (¬ r_hc tx n (r_cs tx n wa1 d1 p1 0 su1 fc1).1 = nI 42 ∧ ¬ r_hc tx n (r_cs tx n wa1 d1 p1 0 su1 fc1).1 = nI 47) then some (r_pl tx n (r_cs tx n wa1 d1 p1 0 su1 fc1).1, (r_cs tx n wa1 d1 p1 0 su1 fc1).2.1, (r_cs tx n wa1 d1 p1 0 su1 fc1).2.2.1, (r_cs tx n wa1 d1 p1 0 su1 fc1).2.2.2.1, wa1, (r_cs tx n wa1 d1 p1 0 su1 fc1).2.2.2.2) else r_sl tx n g (r_pl tx n (r_cs tx n wa1 d1 p1 0 su1 fc1).1 + 1) (r_cs tx n wa1 d1 p1 0 su1 fc1).2.1 (r_cs tx n wa1 d1 p1 0 su1 fc1).2.2.1 (r_cs tx n wa1 d1 p1 0 su1 fc1).2.2.2.1 (upd wa1 (r_cs tx n wa1 d1 p1 0 su1 fc1).2.2.1 (if r_hc tx n (r_cs tx n wa1 d1 p1 0 su1 fc1).1 = nI 42 then nI 1 else -1)) (r_cs tx n wa1 d1 p1 0 su1 fc1).2.2.2.2 := by
  show (if ¬ (0 : Nat) = 0 then _ else match r_lt tx n p 0 d su wa fc with
      | (false, p1, w1, d1, su1, wa1, fc1) => r_sl tx n g p1 w1 d1 su1 wa1 fc1
      | (true, p1, w1, d1, su1, wa1, fc1) => match r_cs tx n wa1 d1 p1 w1 su1 fc1 with
        | (p2, w2, d2, su2, fc2) => if ¬ w2 = 0 ∨ (¬ r_hc tx n p2 = nI 42 ∧ ¬ r_hc tx n p2 = nI 47) then some (r_pl tx n p2, w2, d2, su2, wa1, fc2) else r_sl tx n g (r_pl tx n p2 + 1) w2 d2 su2 (upd wa1 d2 (if r_hc tx n p2 = nI 42 then nI 1 else -1)) fc2) = _
  rw [if_neg (by decide), h]
theorem sl_ff {g p d p1 w1 d1 : Nat} {su wa fc su1 wa1 fc1 : Nat → Int32} (h : r_lt tx n p 0 d su wa fc = (false, p1, w1, d1, su1, wa1, fc1)) : r_sl tx n (g + 1) p 0 d su wa fc = r_sl tx n g p1 w1 d1 su1 wa1 fc1 := by
  show (if ¬ (0 : Nat) = 0 then _ else match r_lt tx n p 0 d su wa fc with
      | (false, p1, w1, d1, su1, wa1, fc1) => r_sl tx n g p1 w1 d1 su1 wa1 fc1
      | (true, p1, w1, d1, su1, wa1, fc1) => match r_cs tx n wa1 d1 p1 w1 su1 fc1 with
        | (p2, w2, d2, su2, fc2) => if ¬ w2 = 0 ∨ (¬ r_hc tx n p2 = nI 42 ∧ ¬ r_hc tx n p2 = nI 47) then some (r_pl tx n p2, w2, d2, su2, wa1, fc2) else r_sl tx n g (r_pl tx n p2 + 1) w2 d2 su2 (upd wa1 d2 (if r_hc tx n p2 = nI 42 then nI 1 else -1)) fc2) = _
  rw [if_neg (by decide), h]
theorem sl_ww {g p w d : Nat} {su wa fc : Nat → Int32} (h : ¬ w = 0) : r_sl tx n (g + 1) p w d su wa fc = some (p, w, d, su, wa, fc) := by
  unfold r_sl
  rw [if_pos h]
theorem at_e {v : Int32} {tt : Nat → Nat → Int64} {sn : Nat → Int32} {fc : Nat → Int64} {op ex : Nat} {ps sd le : Int32} : q_atom v (tt, sn, fc, op, ex, ps, sd, le) = if v = nI 40 then q_open (tt, sn, fc, op, ex, ps, sd, le) else if nI 117 ≤ v ∧ v ≤ nI 122 then (0, (tt, sn, vp_updL (fl_L fc 0 10) (v - nI 117).toNatClampNeg 1, op, 1, ps, sd, le)) else if nI 97 ≤ v ∧ v ≤ nI 100 then (0, (tt, sn, vp_updL (fl_L fc 0 10) (nI 6 + v - nI 97).toNatClampNeg 1, op, 1, ps, sd, le)) else if v = nI 49 then (0, (tt, sn, fl_L fc 0 10, op, 1, ps, sd, le)) else (1, (tt, sn, fl_L fc 0 10, op, ex, ps, sd, le)) := rfl
theorem en_e {tt : Nat → Nat → Int64} {sn : Nat → Int32} {fc : Nat → Int64} {op ex : Nat} {ps sd le : Int32} : q_end (tt, sn, fc, op, ex, ps, sd, le) = if (ex = 1 ∨ ex = 4) ∧ op = 0 ∧ le = 0 then ((if q_ok (at_s (tt 0) fc (sn 0).toInt64 10) 10 = true then 0 else 3), q_put (tt, sn, fc, op, ex, ps, sd, le)) else (1, (tt, sn, fc, op, ex, ps, sd, le)) := rfl
theorem RF_one {fc : Nat → Int32} {fq : Nat → Int64} {i : Nat} : RF (upd (dw_z fc 10) i (nI 1)) (vp_updL (fl_L fq 0 10) i 1) (fun k => if k = i then 1 else 0) 1 := fun k hk => by
  unfold upd vp_updL
  dsimp only
  by_cases z : k = i
  · rw [if_pos z, if_pos z, if_pos z]
    exact ⟨rfl, rfl, by decide⟩
  · rw [if_neg z, if_neg z, if_neg z]
    unfold dw_z fl_L
    rw [if_pos hk, if_pos hk]
    exact ⟨rfl, rfl, by decide⟩
theorem RF_no {fc : Nat → Int32} {fq : Nat → Int64} : RF (dw_z fc 10) (fl_L fq 0 10) (fun _ => 0) 1 := fun k hk => by
  unfold dw_z fl_L
  rw [if_pos hk, if_pos hk]
  exact ⟨rfl, rfl, Nat.zero_le _⟩
theorem two_r {c : Int32} (h : nI 97 ≤ c ∧ c ≤ nI 100) : ¬ c = -1 ∧ ¬ c = nI 40 ∧ ¬ (nI 117 ≤ c ∧ c ≤ nI 122) := by
  have h1 := Int32.le_iff_toInt_le.mp h.1
  have h2 := Int32.le_iff_toInt_le.mp h.2
  rw [show (nI 97).toInt = 97 from by decide] at h1
  rw [show (nI 100).toInt = 100 from by decide] at h2
  refine ⟨fun e => ?_, fun e => ?_, fun e => ?_⟩
  · rw [e, show (-1 : Int32).toInt = -1 from by decide] at h1
    omega
  · rw [e, show (nI 40).toInt = 40 from by decide] at h1
    omega
  · have h3 := Int32.le_iff_toInt_le.mp e.1
    rw [show (nI 117).toInt = 117 from by decide] at h3
    omega
theorem two_u {c : Int32} (h : nI 117 ≤ c ∧ c ≤ nI 122) : ¬ c = -1 ∧ ¬ c = nI 40 := by
  have h1 := Int32.le_iff_toInt_le.mp h.1
  rw [show (nI 117).toInt = 117 from by decide] at h1
  refine ⟨fun e => ?_, fun e => ?_⟩
  · rw [e, show (-1 : Int32).toInt = -1 from by decide] at h1
    omega
  · rw [e, show (nI 40).toInt = 40 from by decide] at h1
    omega
theorem SLr {s : Int} {L : Nat → Int} {bL : Nat} {sd le : Int32} (hT : ∀ i, i < n → 0 ≤ (tx i).toInt) (hs : s.natAbs = 1) (hsd : sd = iZ s) : ∀ (k : Nat) {p d : Nat} {su wa fc : Nat → Int32} {tt : Nat → Nat → Int64} {sn : Nat → Int32} {fq : Nat → Int64} {ps : Int32} {T : Nat → Nat → Int} {W : Nat → Int} {b : Nat → Nat}, n - p ≤ k → p ≤ n → d ≤ 6 → RA s L d su wa tt sn T W b → bL + phi b d ≤ p * 9 ^ 7 → ∃ (p9 w9 d9 : Nat) (su9 wa9 fc9 : Nat → Int32), r_sl tx n (k + 2) p 0 d su wa fc = some (p9, w9, d9, su9, wa9, fc9) ∧ ((w9 = 0 ∧ p9 ≤ n ∧ r_pl tx n p9 = p9 ∧ d9 ≤ 6 ∧ ∃ (su0 : Nat → Int32) (tt9 : Nat → Nat → Int64) (sn9 : Nat → Int32) (fq9 : Nat → Int64) (ex9 : Nat) (ps9 : Int32) (T9 : Nat → Nat → Int) (W9 : Nat → Int) (b9 : Nat → Nat) (Fc9 : Nat → Int) (m9 : Nat), su9 = ct_su su0 (wa9 d9) fc9 d9 10 ∧ RunQ tx n p (tt, sn, fq, d, 0, ps, sd, le) = RunQ tx n p9 (tt9, sn9, fq9, d9, ex9, ps9, sd, le) ∧ RA s L d9 su0 wa9 tt9 sn9 T9 W9 b9 ∧ RF fc9 fq9 Fc9 m9 ∧ Bx ex9 (r_hc tx n p9) ∧ bL + phi b9 d9 + m9 * wt ex9 d9 ≤ p9 * 9 ^ 7 ∧ (d9 = 0 ∨ ¬ r_hc tx n p9 = nI 41) ∧ ¬ r_hc tx n p9 = nI 42 ∧ ¬ r_hc tx n p9 = nI 47) ∨ ((w9 = 1 ∨ w9 = 2) ∧ p9 ≤ n ∧ r_pl tx n p9 = p9 ∧ ∃ x1, RunQ tx n p (tt, sn, fq, d, 0, ps, sd, le) = (w9, p9, x1))) := by
  intro k
  induction k with
  | zero =>
    intro p d su wa fc tt sn fq ps T W b hk hp hd R hP
    have e : p = n := by omega
    subst e
    have pl : r_pl tx p p = p := by
      have := r_pl_b (tx := tx) (Nat.le_refl p)
      omega
    have hc : r_hc tx p p = -1 := by
      unfold r_hc
      rw [pl, if_neg (by omega)]
    have er : r_lt tx p p 0 d su wa fc = (false, p, 1, d, su, wa, dw_z fc 10) := by
      unfold r_lt
      rw [hc, if_neg (by decide), if_neg (by decide), if_neg (by decide), if_neg (by decide), pl]
      rfl
    refine ⟨p, 1, d, su, wa, dw_z fc 10, ?_, Or.inr ⟨Or.inl rfl, Nat.le_refl _, pl, (tt, sn, fq, d, 0, ps, sd, le), ?_⟩⟩
    · rw [sl_ff er, sl_ww (by decide)]
    · rw [(run_e hT (Nat.le_refl p) hc).2]
      have : q_end (tt, sn, fq, d, 0, ps, sd, le) = (1, (tt, sn, fq, d, 0, ps, sd, le)) := by
        rw [en_e, if_neg (fun y => by have := y.1; omega)]
      rw [this]
  | succ k ih =>
    intro p d su wa fc tt sn fq ps T W b hk hp hd R hP
    have lp := r_pl_b (tx := tx) hp
    have hP1 : bL + phi b d ≤ r_pl tx n p * 9 ^ 7 := Nat.le_trans hP (Nat.mul_le_mul_right _ lp.1)
    have fin : ∀ (fc1 : Nat → Int32) (fq1 : Nat → Int64) (Fc1 : Nat → Int), ¬ r_hc tx n p = -1 → r_lt tx n p 0 d su wa fc = (true, r_pl tx n p + 1, 0, d, su, wa, fc1) → q_atom (r_hc tx n p) (tt, sn, fq, d, 0, ps, sd, le) = (0, (tt, sn, fq1, d, 1, ps, sd, le)) → RF fc1 fq1 Fc1 1 → ∃ (p9 w9 d9 : Nat) (su9 wa9 fc9 : Nat → Int32), r_sl tx n (k + 1 + 2) p 0 d su wa fc = some (p9, w9, d9, su9, wa9, fc9) ∧ ((w9 = 0 ∧ p9 ≤ n ∧ r_pl tx n p9 = p9 ∧ d9 ≤ 6 ∧ ∃ (su0 : Nat → Int32) (tt9 : Nat → Nat → Int64) (sn9 : Nat → Int32) (fq9 : Nat → Int64) (ex9 : Nat) (ps9 : Int32) (T9 : Nat → Nat → Int) (W9 : Nat → Int) (b9 : Nat → Nat) (Fc9 : Nat → Int) (m9 : Nat), su9 = ct_su su0 (wa9 d9) fc9 d9 10 ∧ RunQ tx n p (tt, sn, fq, d, 0, ps, sd, le) = RunQ tx n p9 (tt9, sn9, fq9, d9, ex9, ps9, sd, le) ∧ RA s L d9 su0 wa9 tt9 sn9 T9 W9 b9 ∧ RF fc9 fq9 Fc9 m9 ∧ Bx ex9 (r_hc tx n p9) ∧ bL + phi b9 d9 + m9 * wt ex9 d9 ≤ p9 * 9 ^ 7 ∧ (d9 = 0 ∨ ¬ r_hc tx n p9 = nI 41) ∧ ¬ r_hc tx n p9 = nI 42 ∧ ¬ r_hc tx n p9 = nI 47) ∨ ((w9 = 1 ∨ w9 = 2) ∧ p9 ≤ n ∧ r_pl tx n p9 = p9 ∧ ∃ x1, RunQ tx n p (tt, sn, fq, d, 0, ps, sd, le) = (w9, p9, x1))) := fun fc1 fq1 Fc1 n1 er eq hF => by
      have lt := r_hc_lt n1
      have e0 : RunQ tx n p (tt, sn, fq, d, 0, ps, sd, le) = RunQ tx n (r_pl tx n p + 1) (tt, sn, fq1, d, 1, ps, sd, le) := by
        rw [run_hc hp n1, tk_0, eq]
        rfl
      rw [sl_tt er, e0]
      rcases CSr (bL := bL) (ps := ps) (sd := sd) (le := le) hT hs lt hd R hF hP1 with ⟨y1, y2, y3, y4, su0, tt1, fq2, ex1, ps1, T1, b1, Fc2, m1, z0, z1, z2, z3, z4, z5, z6⟩ | ⟨y1, y2, y3, x1, y4⟩
      · rw [y1, z1]
        generalize r_cs tx n wa d (r_pl tx n p + 1) 0 su fc1 = y at *
        obtain ⟨p2, w2, d2, su2, fc2⟩ := y
        dsimp only at *
        have lp2 := r_pl_b (tx := tx) y2
        by_cases c : ¬ r_hc tx n p2 = nI 42 ∧ ¬ r_hc tx n p2 = nI 47
        · rw [if_pos (Or.inr c)]
          refine ⟨_, _, _, _, _, _, rfl, Or.inl ⟨rfl, lp2.2, pl_pl y2, y3, su0, tt1, sn, fq2, ex1, ps1, T1, W, b1, Fc2, m1, z0, run_sk y2, z2, z3, by rw [hc_pl y2]; exact z4, Nat.le_trans z5 (Nat.mul_le_mul_right _ lp2.1), by rw [hc_pl y2]; exact z6, by rw [hc_pl y2]; exact c.1, by rw [hc_pl y2]; exact c.2⟩⟩
        · rw [if_neg (fun y => by
            rcases y with y | y
            · exact y rfl
            · exact c y)]
          have cc : r_hc tx n p2 = nI 42 ∨ r_hc tx n p2 = nI 47 := by
            by_cases a : r_hc tx n p2 = nI 42
            · exact Or.inl a
            · exact Or.inr (Decidable.of_not_not (fun a2 => c ⟨a, a2⟩))
          have n2 : ¬ r_hc tx n p2 = -1 := by
            rcases cc with a | a <;> rw [a] <;> decide
          have lt2 := r_hc_lt n2
          -- the sign of the next factor
          obtain ⟨σ, σ1, σ2, σ3⟩ : ∃ σ : Int, σ.natAbs = 1 ∧ (if r_hc tx n p2 = nI 42 then nI 1 else -1) = iZ σ ∧ q_jnt (r_hc tx n p2) (tt1, sn, fq2, d2, ex1, ps1, sd, le) = (0, q_join (iZ (if d2 = 0 then s * σ else σ)) (tt1, sn, fq2, d2, ex1, ps1, sd, le)) := by
            by_cases a : r_hc tx n p2 = nI 42
            · refine ⟨1, rfl, by rw [if_pos a]; rfl, ?_⟩
              rw [jn_e, if_pos a]
              by_cases w : d2 = 0
              · rw [if_pos w, if_pos w, hsd, Int.mul_one]
              · rw [if_neg w, if_neg w]
                rfl
            · have a2 : r_hc tx n p2 = nI 47 := by
                rcases cc with q | q
                · exact absurd q a
                · exact q
              refine ⟨-1, rfl, by rw [if_neg a]; rfl, ?_⟩
              rw [jn_e, if_neg a, if_pos a2]
              by_cases w : d2 = 0
              · rw [if_pos w, if_pos w, hsd, iZ_neg, show s * -1 = -s by omega]
              · rw [if_neg w, if_neg w]
                rfl
          have e1 : RunQ tx n p2 (tt1, sn, fq2, d2, ex1, ps1, sd, le) = RunQ tx n (r_pl tx n p2 + 1) (sl_u tt1 d2 (at_s (tt1 d2) fq2 (sn d2).toInt64 10), upd sn d2 (iZ (if d2 = 0 then s * σ else σ)), fq2, d2, 0, ps1, sd, le) := by
            rw [run_hc y2 n2, tk_b z4, σ3]
            rfl
          rw [e1, σ2, z0]
          have R2 : RA s L d2 (ct_su su0 (wa d2) fc2 d2 10) (upd wa d2 (iZ σ)) (sl_u tt1 d2 (at_s (tt1 d2) fq2 (sn d2).toInt64 10)) (upd sn d2 (iZ (if d2 = 0 then s * σ else σ))) (fun e k => if e = d2 then T1 d2 k + W d2 * Fc2 k else T1 e k) (fun e => if e = d2 then σ else W e) (fun e => if e = d2 then b1 e + m1 else b1 e) := by
            refine ⟨fun e k he hk2 => ?_, fun e he => ?_⟩
            · dsimp only
              by_cases w : e = d2
              · subst w
                obtain ⟨u1, u2, u3⟩ := RA_put hs z2 z3 hk2
                rw [if_pos rfl, if_pos rfl, sl_eq]
                refine ⟨u1, ?_, u3⟩
                rw [u2]
                by_cases v : e = 0
                · subst v
                  rw [if_pos rfl, if_pos rfl, if_pos rfl]
                · rw [if_neg v, if_neg v]
              · rw [if_neg w, if_neg w, ct_lo (by omega) hk2, sl_ne w]
                obtain ⟨u1, u2, u3⟩ := z2.1 e k he hk2
                refine ⟨u1, ?_, u3⟩
                rw [u2]
                by_cases v : e = 0
                · rw [if_pos v, if_pos v, if_neg (by omega)]
                · rw [if_neg v, if_neg v]
            · dsimp only
              unfold upd
              by_cases w : e = d2
              · subst w
                rw [if_pos rfl, if_pos rfl, if_pos rfl]
                refine ⟨rfl, ?_, σ1⟩
                by_cases v : e = 0
                · subst v
                  rw [if_pos rfl, if_pos rfl, if_pos rfl]
                · rw [if_neg v, if_neg v]
              · rw [if_neg w, if_neg w, if_neg w]
                obtain ⟨u1, u2, u3⟩ := z2.2 e he
                refine ⟨u1, ?_, u3⟩
                rw [u2]
                by_cases v : e = 0
                · rw [if_pos v, if_pos v, if_neg (by omega)]
                · rw [if_neg v, if_neg v]
          have hP2 : bL + phi (fun e => if e = d2 then b1 e + m1 else b1 e) d2 ≤ (r_pl tx n p2 + 1) * 9 ^ 7 := by
            rw [phi_put]
            have w1 := Nat.mul_le_mul_left m1 (@wt_ge ex1 d2)
            have w2 : p2 * 9 ^ 7 ≤ (r_pl tx n p2 + 1) * 9 ^ 7 := Nat.mul_le_mul_right _ (by omega)
            omega
          have := ih (p := r_pl tx n p2 + 1) (d := d2) (fc := fc2) (fq := fq2) (ps := ps1) (by omega) lt2 y3 R2 hP2
          exact this
      · rw [y1, if_pos (Or.inl (by decide)), y4]
        exact ⟨_, _, _, _, _, _, rfl, Or.inr ⟨Or.inl rfl, by rw [y3]; exact y2, by rw [y3, y3], x1, by rw [y3]⟩⟩
    by_cases c1 : nI 97 ≤ r_hc tx n p ∧ r_hc tx n p ≤ nI 100
    · obtain ⟨h1, h2, h3⟩ := two_r c1
      exact fin _ _ _ h1 (by unfold r_lt; rw [if_pos c1]) (by rw [at_e, if_neg h2, if_neg h3, if_pos c1]) RF_one
    · by_cases c2 : nI 117 ≤ r_hc tx n p ∧ r_hc tx n p ≤ nI 122
      · obtain ⟨h1, h2⟩ := two_u c2
        exact fin _ _ _ h1 (by unfold r_lt; rw [if_neg c1, if_pos c2]) (by rw [at_e, if_neg h2, if_pos c2]) RF_one
      · by_cases c3 : r_hc tx n p = nI 40
        · have n1 : ¬ r_hc tx n p = -1 := by
            rw [c3]
            decide
          have lt := r_hc_lt n1
          by_cases d6 : d = 6
          · have er : r_lt tx n p 0 d su wa fc = (false, r_pl tx n p, 2, d, su, wa, dw_z fc 10) := by
              unfold r_lt
              rw [if_neg c1, if_neg c2, if_pos c3, if_pos d6]
              rfl
            refine ⟨r_pl tx n p, 2, d, su, wa, dw_z fc 10, ?_, Or.inr ⟨Or.inr rfl, lp.2, pl_pl hp, (tt, sn, fq, d, 0, ps, sd, le), ?_⟩⟩
            · rw [sl_ff er, sl_ww (by decide)]
            · have q : q_open (tt, sn, fq, d, 0, ps, sd, le) = (2, (tt, sn, fq, d, 0, ps, sd, le)) := if_neg (by omega)
              rw [run_hc hp n1, tk_0, at_e, if_pos c3, q]
              rfl
          · have er : r_lt tx n p 0 d su wa fc = (false, r_pl tx n p + 1, 0, d + 1, op_su su (d + 1) 10, upd wa (d + 1) (nI 1), dw_z fc 10) := by
              unfold r_lt
              rw [if_neg c1, if_neg c2, if_pos c3, if_neg d6]
            have q : q_open (tt, sn, fq, d, 0, ps, sd, le) = (0, (sl_u tt (d + 1) (fl_L (tt (d + 1)) 0 10), upd sn (d + 1) 1, fq, d + 1, 0, ps, sd, le)) := if_pos (by omega)
            have e1 : RunQ tx n p (tt, sn, fq, d, 0, ps, sd, le) = RunQ tx n (r_pl tx n p + 1) (sl_u tt (d + 1) (fl_L (tt (d + 1)) 0 10), upd sn (d + 1) 1, fq, d + 1, 0, ps, sd, le) := by
              rw [run_hc hp n1, tk_0, at_e, if_pos c3, q]
              rfl
            rw [sl_ff er, e1]
            have R2 : RA s L (d + 1) (op_su su (d + 1) 10) (upd wa (d + 1) (nI 1)) (sl_u tt (d + 1) (fl_L (tt (d + 1)) 0 10)) (upd sn (d + 1) 1) (fun e k => if e = d + 1 then 0 else T e k) (fun e => if e = d + 1 then 1 else W e) (fun e => if e = d + 1 then 0 else b e) := by
              refine ⟨fun e k he hk2 => ?_, fun e he => ?_⟩
              · dsimp only
                by_cases w : e = d + 1
                · subst w
                  rw [if_pos rfl, if_pos rfl, sl_eq, if_neg (by omega)]
                  refine ⟨?_, ?_, Nat.le_refl _⟩
                  · exact if_pos (by omega)
                  · exact if_pos hk2
                · rw [if_neg w, if_neg w, sl_ne w]
                  obtain ⟨u1, u2, u3⟩ := R.1 e k (by omega) hk2
                  refine ⟨?_, ?_, u3⟩
                  · rw [← u1]
                    exact if_neg (by omega)
                  · rw [u2, if_neg (show ¬ 0 = d + 1 by omega)]
              · dsimp only
                unfold upd
                by_cases w : e = d + 1
                · subst w
                  rw [if_pos rfl, if_pos rfl, if_pos rfl, if_neg (by omega)]
                  exact ⟨rfl, rfl, rfl⟩
                · rw [if_neg w, if_neg w, if_neg w]
                  obtain ⟨u1, u2, u3⟩ := R.2 e (by omega)
                  refine ⟨u1, ?_, u3⟩
                  rw [u2, if_neg (show ¬ 0 = d + 1 by omega)]
            have hP2 : bL + phi (fun e => if e = d + 1 then 0 else b e) (d + 1) ≤ (r_pl tx n p + 1) * 9 ^ 7 := by
              have e2 : phi (fun e => if e = d + 1 then 0 else b e) (d + 1) = phi b d := by
                show phi (fun e => if e = d + 1 then 0 else b e) d + (if d + 1 = d + 1 then 0 else b (d + 1)) * 9 ^ (d + 1) = phi b d
                rw [if_pos rfl, Nat.zero_mul, Nat.add_zero]
                exact phi_cg (fun e he => if_neg (by omega))
              rw [e2]
              exact Nat.le_trans hP1 (Nat.mul_le_mul_right _ (by omega))
            exact ih (p := r_pl tx n p + 1) (d := d + 1) (fc := dw_z fc 10) (fq := fq) (ps := ps) (by omega) lt (by omega) R2 hP2
        · by_cases c4 : r_hc tx n p = nI 49
          · have n1 : ¬ r_hc tx n p = -1 := by
              rw [c4]
              decide
            exact fin _ _ _ n1 (by unfold r_lt; rw [if_neg c1, if_neg c2, if_neg c3, if_pos c4]) (by rw [at_e, if_neg c3, if_neg c2, if_neg c1, if_pos c4]) RF_no
          · have er : r_lt tx n p 0 d su wa fc = (false, r_pl tx n p, 1, d, su, wa, dw_z fc 10) := by
              unfold r_lt
              rw [if_neg c1, if_neg c2, if_neg c3, if_neg c4]
              rfl
            by_cases n1 : r_hc tx n p = -1
            · obtain ⟨y1, y2⟩ := run_e (x := (tt, sn, fq, d, 0, ps, sd, le)) hT hp n1
              refine ⟨r_pl tx n p, 1, d, su, wa, dw_z fc 10, by rw [sl_ff er, sl_ww (by decide)], Or.inr ⟨Or.inl rfl, lp.2, pl_pl hp, (tt, sn, fq, d, 0, ps, sd, le), ?_⟩⟩
              have : q_end (tt, sn, fq, d, 0, ps, sd, le) = (1, (tt, sn, fq, d, 0, ps, sd, le)) := by
                rw [en_e, if_neg (fun y => by have := y.1; omega)]
              rw [y2, this, y1]
            · refine ⟨r_pl tx n p, 1, d, su, wa, dw_z fc 10, by rw [sl_ff er, sl_ww (by decide)], Or.inr ⟨Or.inl rfl, lp.2, pl_pl hp, (tt, sn, fl_L fq 0 10, d, 0, ps, sd, le), ?_⟩⟩
              rw [run_hc hp n1, tk_0, at_e, if_neg c3, if_neg c2, if_neg c1, if_neg c4]
              rfl
end
