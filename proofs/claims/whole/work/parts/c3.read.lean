/-! ## Reading: the whole text -/
theorem rd_lw {po : Nat → Int32} {w : Nat} (h : ¬ w = 0) : ∀ {k : Nat}, rd_l po w k = w
  | 0 => rfl
  | k + 1 => by
    unfold rd_l
    rw [rd_lw h, if_neg h]
theorem rd_l0 {po : Nat → Int32} {t : Nat → Int64} : ∀ {k : Nat}, (∀ j, j < k → (((-9) ≤ po j ∧ po j ≤ nI 9) ↔ ab_l (t j) ≤ 9)) → rd_l po 0 k = if q_ok t k = true then 0 else 3
  | 0, _ => by
    show 0 = if true = true then 0 else 3
    rw [if_pos rfl]
  | k + 1, h => by
    have ih := rd_l0 (po := po) (t := t) (k := k) (fun j hj => h j (by omega))
    show (if rd_l po 0 k = 0 then (if (-9) ≤ po k ∧ po k ≤ nI 9 then 0 else 3) else rd_l po 0 k) = if (q_ok t k && decide (ab_l (t k) ≤ 9)) = true then 0 else 3
    rw [ih]
    have hk := h k (by omega)
    by_cases z : q_ok t k = true
    · rw [if_pos z, if_pos rfl, z, Bool.true_and]
      by_cases y : ab_l (t k) ≤ 9
      · rw [if_pos (hk.mpr y), if_pos (decide_eq_true y)]
      · rw [if_neg (fun q => y (hk.mp q)), if_neg (by rw [decide_eq_false y]; decide)]
    · have zf : q_ok t k = false := by
        cases h2 : q_ok t k with
        | true => exact absurd h2 z
        | false => rfl
      rw [zf, Bool.false_and, if_neg (by decide), if_neg (by decide)]
theorem nine {Y : Int} (h : Y.natAbs < 2 ^ 31) : ((-9) ≤ iZ Y ∧ iZ Y ≤ nI 9) ↔ ab_l (zI Y) ≤ 9 := by
  have r1 : rg Y := by
    unfold rg
    omega
  rw [ab_N r1, Int32.le_iff_toInt_le, Int32.le_iff_toInt_le, Int64.le_iff_toInt_le, iZ_toInt h, zI_toInt (rg_n r1), show (-9 : Int32).toInt = -9 from by decide, show (nI 9).toInt = 9 from by decide, show (9 : Int64).toInt = 9 from by decide]
  omega
section
variable {tx : Nat → Int32} {n : Nat}
/-- a letter that cannot stand behind a factor -/
theorem bad_b {p : Nat} {tt : Nat → Nat → Int64} {sn : Nat → Int32} {fq : Nat → Int64} {op ex : Nat} {ps sd le : Int32} (hT : ∀ i, i < n → 0 ≤ (tx i).toInt) (hp : p ≤ n) (pl : r_pl tx n p = p) (hB : Bx ex (r_hc tx n p)) (h1 : op = 0 ∨ ¬ r_hc tx n p = nI 41) (h2 : ¬ r_hc tx n p = nI 42) (h3 : ¬ r_hc tx n p = nI 47) (h4 : ¬ (r_hc tx n p = nI 61 ∧ op = 0 ∧ ¬ le = 0)) (h5 : r_hc tx n p = -1 → ¬ (op = 0 ∧ le = 0)) : ∃ x1, RunQ tx n p (tt, sn, fq, op, ex, ps, sd, le) = (1, p, x1) := by
  by_cases z : r_hc tx n p = -1
  · obtain ⟨y1, y2⟩ := run_e (x := (tt, sn, fq, op, ex, ps, sd, le)) hT hp z
    refine ⟨(tt, sn, fq, op, ex, ps, sd, le), ?_⟩
    rw [y2, en_e, if_neg (fun q => h5 z q.2), ← y1, pl]
  · refine ⟨(tt, sn, fq, op, ex, ps, sd, le), ?_⟩
    have nc : ¬ (r_hc tx n p = nI 41 ∧ 0 < op) := fun q => by
      rcases h1 with w | w
      · omega
      · exact w q.1
    have q : q_jnt (r_hc tx n p) (tt, sn, fq, op, ex, ps, sd, le) = (1, (tt, sn, fq, op, ex, ps, sd, le)) := by
      rw [jn_e, if_neg h2, if_neg h3, if_neg nc, if_neg h4]
    rw [run_hc hp z, tk_b hB, q, pl]
    rfl
/-- a text on both sides: number of the fault, place, powers -/
def RdR (tx : Nat → Int32) (t : Nat) (r : Nat × Nat × rT) (rd : Nat → Int32) (W p9 : Nat) (po9 : Nat → Int32) : Prop := W ≤ 3 ∧ r.1 = W ∧ rt_p r = rd_f W p9 t ∧ (W = 0 → PoR po9 (rt_d (r.2.2.1 0) rd 10))
theorem rr_w {r : Nat × Nat × rT} {rd po9 : Nat → Int32} {w p : Nat} {x1 : rT} (hw : w = 1 ∨ w = 2) (h : r = (w, p, x1)) : RdR tx n r rd w p po9 := by
  rw [h]
  refine ⟨by omega, rfl, ?_, fun z => by omega⟩
  show (if w = 0 then -1 else nI p) = rd_f w p n
  unfold rd_f
  rw [if_neg (by omega), if_neg (by omega), if_neg (by omega)]
theorem rr_end {s : Int} {L : Nat → Int} {bL p : Nat} {su0 wa : Nat → Int32} {tt : Nat → Nat → Int64} {sn : Nat → Int32} {T : Nat → Nat → Int} {W : Nat → Int} {b : Nat → Nat} {fc : Nat → Int32} {fq : Nat → Int64} {Fc : Nat → Int} {m ex : Nat} {ps sd : Int32} {rd po9 : Nat → Int32} (hT : ∀ i, i < n → 0 ≤ (tx i).toInt) (hn : n ≤ 60) (hs : s.natAbs = 1) (hL : ∀ k, k < 10 → (L k).natAbs ≤ bL) (hp : p ≤ n) (R : RA s L 0 su0 wa tt sn T W b) (hF : RF fc fq Fc m) (hB : Bx ex (r_hc tx n p)) (hP : bL + phi b 0 + m * wt ex 0 ≤ p * 9 ^ 7) (he : r_hc tx n p = -1) (hpo : ∀ k, k < 10 → po9 k = iZ (L k + s * (T 0 k + W 0 * Fc k))) : RdR tx n (RunQ tx n p (tt, sn, fq, 0, ex, ps, sd, 0)) rd (rd_l po9 0 10) (r_pl tx n p) po9 := by
  obtain ⟨y1, y2⟩ := run_e (x := (tt, sn, fq, 0, ex, ps, sd, 0)) hT hp he
  have hex : ex = 1 ∨ ex = 4 := by
    rcases hB with q | q
    · exact Or.inl q.1
    · exact Or.inr q
  have tot : ∀ k, k < 10 → at_s (tt 0) fq (sn 0).toInt64 10 k = zI (L k + s * (T 0 k + W 0 * Fc k)) := fun k hk => by
    have := (RA_put hs R hF hk).2.1
    rw [if_pos rfl] at this
    exact this
  have bd : ∀ k, k < 10 → (L k + s * (T 0 k + W 0 * Fc k)).natAbs < 2 ^ 31 := fun k hk => by
    have a := (RA_put hs R hF hk).2.2
    have c := hL k hk
    have e1 : (s * (T 0 k + W 0 * Fc k)).natAbs ≤ b 0 + m := by
      rw [Int.natAbs_mul, hs, Nat.one_mul]
      exact a
    have e2 : m ≤ m * wt ex 0 := Nat.le_mul_of_pos_right _ (Nat.lt_of_lt_of_le (by decide) wt_ge)
    have e3 : p * 9 ^ 7 ≤ 60 * 9 ^ 7 := Nat.mul_le_mul_right _ (by omega)
    have e4 : phi b 0 = b 0 := rfl
    have e5 : (60 : Nat) * 9 ^ 7 = 286978140 := by decide
    omega
  have eW := rd_l0 (po := po9) (t := at_s (tt 0) fq (sn 0).toInt64 10) (k := 10) (fun j hj => by
    rw [hpo j hj, tot j hj]
    exact nine (bd j hj))
  have eE : q_end (tt, sn, fq, 0, ex, ps, sd, 0) = ((if q_ok (at_s (tt 0) fq (sn 0).toInt64 10) 10 = true then 0 else 3), (sl_u tt 0 (at_s (tt 0) fq (sn 0).toInt64 10), sn, fq, 0, ex, ps, sd, 0)) := by
    rw [en_e, if_pos ⟨hex, rfl, rfl⟩]
    rfl
  generalize rd_l po9 0 10 = V at *
  rw [y2, eE, ← eW, y1]
  have w3 : V = 0 ∨ V = 3 := by
    rw [eW]
    by_cases o : q_ok (at_s (tt 0) fq (sn 0).toInt64 10) 10 = true
    · rw [if_pos o]
      exact Or.inl rfl
    · rw [if_neg o]
      exact Or.inr rfl
  have ok : V = 0 → q_ok (at_s (tt 0) fq (sn 0).toInt64 10) 10 = true := fun z => by
    cases h2 : q_ok (at_s (tt 0) fq (sn 0).toInt64 10) 10 with
    | true => rfl
    | false =>
      rw [h2, if_neg (by decide)] at eW
      omega
  generalize at_s (tt 0) fq (sn 0).toInt64 10 = A at *
  have ev : ∀ k, k < 10 → rt_d ((sl_u tt 0 A) 0) rd 10 k = iZ (L k + s * (T 0 k + W 0 * Fc k)) := fun k hk => by
    show (if k < 10 then (sl_u tt 0 A 0 k).toInt32 else rd k) = _
    rw [if_pos hk, sl_eq, tot k hk, zI_i32]
  refine ⟨by omega, rfl, ?_, fun z k hk => ?_⟩
  · unfold rt_p rd_f
    dsimp only
    rcases w3 with e | e
    · rw [e, if_pos rfl, if_pos rfl]
    · rw [e, if_neg (by decide), if_neg (by decide), if_pos rfl]
  · have le9 := q_ok_iff.mp (ok z) k hk
    rw [tot k hk] at le9
    have nn := (nine (bd k hk)).mpr le9
    have n1 := Int32.le_iff_toInt_le.mp nn.1
    have n2 := Int32.le_iff_toInt_le.mp nn.2
    rw [show (-9 : Int32).toInt = -9 from by decide] at n1
    rw [show (nI 9).toInt = 9 from by decide] at n2
    dsimp only
    rw [ev k hk, hpo k hk]
    exact ⟨rfl, by omega⟩
theorem RA_st {s : Int} {L : Nat → Int} {su wa : Nat → Int32} {tt : Nat → Nat → Int64} {sn : Nat → Int32} (h1 : ∀ k, k < 10 → tt 0 k = zI (L k)) (h2 : sn 0 = iZ s) : RA s L 0 (op_su su 0 10) (upd wa 0 (nI 1)) tt sn (fun _ _ => 0) (fun _ => 1) (fun _ => 0) := by
  refine ⟨fun e k he hk => ?_, fun e he => ?_⟩
  · have e0 : e = 0 := by omega
    subst e0
    refine ⟨if_pos (by omega), ?_, Nat.le_refl _⟩
    rw [if_pos rfl, Int.mul_zero, Int.add_zero]
    exact h1 k hk
  · have e0 : e = 0 := by omega
    subst e0
    refine ⟨if_pos rfl, ?_, rfl⟩
    rw [if_pos rfl, Int.mul_one]
    exact h2
theorem sw_e {w d : Nat} : r_sw w d = if w = 0 ∧ 0 < d then 1 else w := by
  unfold r_sw r_fl
  split
  · rename_i h
    rw [if_pos h.1]
  · rfl
/-- THE TEXT, read on both sides -/
theorem read_eq (hn : n ≤ 60) (hT : ∀ i, i < n → 0 ≤ (tx i).toInt) (sg : Bool) (su wa fc po : Nat → Int32) (x : rT) (rd : Nat → Int32) : ∃ (g : Nat) (c9 : Int32) (p9 w9 : Nat) (po9 : Nat → Int32), rd_m tx n g sg su wa fc po = some (c9, p9, w9, po9) ∧ RdR tx n (rt tx n x (if sg = true then nI 1 else nI 0)) rd (rd_l po9 (rd_w w9 c9) 10) p9 po9 := by
  have e0 : rt tx n x (if sg = true then nI 1 else nI 0) = RunQ tx n 0 (sl_u x.1 0 (fl_L (x.1 0) 0 10), upd x.2.1 0 1, x.2.2.1, 0, 0, x.2.2.2.2.2.1, 1, (if sg = true then nI 1 else nI 0)) := rfl
  have R0 : RA 1 (fun _ => 0) 0 (op_su su 0 10) (upd wa 0 (nI 1)) (sl_u x.1 0 (fl_L (x.1 0) 0 10)) (upd x.2.1 0 1) (fun _ _ => 0) (fun _ => 1) (fun _ => 0) := RA_st (fun k hk => by
    rw [sl_eq]
    exact if_pos hk) rfl
  obtain ⟨p1, w1, d1, su1, wa1, fc1, q1, alt⟩ := SLr (bL := 0) (sd := 1) (le := if sg = true then nI 1 else nI 0) (fc := fc) (fq := x.2.2.1) (ps := x.2.2.2.2.2.1) hT (by decide) rfl n (by omega) (Nat.zero_le n) (by omega) R0 (by decide)
  have eY : r_sY tx n (n + 2) 0 su wa fc = some (r_hc tx n p1, r_pl tx n p1, r_sw w1 d1, d1, su1, wa1, fc1) := by
    unfold r_sY
    rw [q1]
  rcases alt with ⟨rfl, hp1, pl1, hd1, su0, tt9, sn9, fq9, ex9, ps9, T9, W9, b9, Fc9, m9, z0, z1, z2, z3, z4, z5, z6, z7, z8⟩ | ⟨hw, hp1, pl1, x1, z1⟩
  · rw [e0, z1]
    rcases Nat.eq_zero_or_pos d1 with hd | hd
    · subst hd
      have esw : r_sw 0 0 = 0 := rfl
      have esu : ∀ k, k < 10 → su1 k = iZ (T9 0 k + W9 0 * Fc9 k) := fun k hk => by
        have := (RA_put (by decide : (1 : Int).natAbs = 1) z2 z3 hk).1
        rw [show 10 * 0 + k = k by omega] at this
        rw [z0]
        exact this
      cases sg with
      | false =>
        have em : rd_m tx n (n + 2) false su wa fc po = some (r_hc tx n p1, p1, 0, va_cpy su1 po 0 0 10) := by
          unfold rd_m
          rw [eY, esw, pl1]
          rfl
        refine ⟨n + 2, _, _, _, _, em, ?_⟩
        rw [if_neg (by decide)]
        by_cases c : r_hc tx n p1 = -1
        · have ew : rd_w 0 (r_hc tx n p1) = 0 := by
            unfold rd_w
            rw [if_neg (fun q => q.2 c)]
          rw [ew]
          have := rr_end (rd := rd) (po9 := va_cpy su1 po 0 0 10) (ps := ps9) (sd := 1) hT hn (by decide) (fun k _ => Nat.le_refl 0) hp1 z2 z3 z4 z5 c (fun k hk => by
            unfold va_cpy
            rw [if_pos (by omega), Nat.sub_zero, Nat.zero_add, esu k hk]
            congr 1
            omega)
          rw [pl1] at this
          exact this
        · have ew : rd_w 0 (r_hc tx n p1) = 1 := by
            unfold rd_w
            rw [if_pos ⟨rfl, c⟩]
            rfl
          rw [ew, rd_lw (by decide)]
          obtain ⟨x1, hx⟩ := bad_b (tt := tt9) (sn := sn9) (fq := fq9) (op := 0) (ps := ps9) (sd := 1) (le := nI 0) hT hp1 pl1 z4 (Or.inl rfl) z7 z8 (fun q => q.2.2 rfl) (fun q => absurd q c)
          exact rr_w (Or.inl rfl) hx
      | true =>
        rw [if_pos rfl]
        by_cases c : r_hc tx n p1 = nI 61
        · have n1 : ¬ r_hc tx n p1 = -1 := by
            rw [c]
            decide
          have lt := r_hc_lt n1
          rw [pl1] at lt
          have e2 : RunQ tx n p1 (tt9, sn9, fq9, 0, ex9, ps9, 1, nI 1) = RunQ tx n (p1 + 1) (sl_u tt9 0 (at_s (tt9 0) fq9 (sn9 0).toInt64 10), upd sn9 0 (-1), fq9, 0, 0, ps9, -1, 0) := by
            have q : q_jnt (r_hc tx n p1) (tt9, sn9, fq9, 0, ex9, ps9, 1, nI 1) = (0, q_join (-1) (tt9, sn9, fq9, 0, ex9, ps9, -1, 0)) := by
              have nc : ¬ (r_hc tx n p1 = nI 41 ∧ 0 < 0) := fun q => by omega
              have yc : r_hc tx n p1 = nI 61 ∧ (0 : Nat) = 0 ∧ ¬ nI 1 = 0 := ⟨c, rfl, by decide⟩
              rw [jn_e, if_neg z7, if_neg z8, if_neg nc, if_pos yc]
            rw [run_hc hp1 n1, tk_b z4, q, pl1]
            rfl
          rw [e2]
          have R2 : RA (-1) (fun k => T9 0 k + W9 0 * Fc9 k) 0 (op_su su1 0 10) (upd wa1 0 (nI 1)) (sl_u tt9 0 (at_s (tt9 0) fq9 (sn9 0).toInt64 10)) (upd sn9 0 (-1)) (fun _ _ => 0) (fun _ => 1) (fun _ => 0) := RA_st (fun k hk => by
            have := (RA_put (by decide : (1 : Int).natAbs = 1) z2 z3 hk).2.1
            rw [if_pos rfl] at this
            rw [sl_eq, this]
            congr 1
            omega) rfl
          have hP2 : b9 0 + m9 + phi (fun _ => 0) 0 ≤ (p1 + 1) * 9 ^ 7 := by
            have e4 : phi b9 0 = b9 0 := rfl
            have e5 : phi (fun _ => 0) 0 = 0 := rfl
            have e6 : m9 ≤ m9 * wt ex9 0 := Nat.le_mul_of_pos_right _ (Nat.lt_of_lt_of_le (by decide) wt_ge)
            have e7 : p1 * 9 ^ 7 ≤ (p1 + 1) * 9 ^ 7 := Nat.mul_le_mul_right _ (by omega)
            omega
          obtain ⟨p2, w2, d2, su2, wa2, fc2, q2, alt⟩ := SLr (bL := b9 0 + m9) (sd := -1) (le := 0) (fc := fc1) (fq := fq9) (ps := ps9) hT (by decide : (-1 : Int).natAbs = 1) rfl n (show n - (p1 + 1) ≤ n by omega) lt (by omega) R2 hP2
          have eY2 : r_sY tx n (n + 2) (p1 + 1) su1 wa1 fc1 = some (r_hc tx n p2, r_pl tx n p2, r_sw w2 d2, d2, su2, wa2, fc2) := by
            unfold r_sY
            rw [q2]
          have em : rd_m tx n (n + 2) true su wa fc po = some (r_hc tx n p2, r_pl tx n p2, r_sw w2 d2, rd_s (va_cpy su1 po 0 0 10) su2 10) := by
            unfold rd_m
            rw [eY, esw, pl1]
            dsimp only
            rw [if_pos ⟨rfl, rfl⟩, if_pos c, eY2]
          refine ⟨n + 2, _, _, _, _, em, ?_⟩
          rcases alt with ⟨rfl, hp2, pl2, hd2, su02, tt92, sn92, fq92, ex92, ps92, T92, W92, b92, Fc92, m92, y0, y1, y2, y3, y4, y5, y6, y7, y8⟩ | ⟨hw, hp2, pl2, x1, y1⟩
          · rw [y1, pl2]
            rcases Nat.eq_zero_or_pos d2 with hd | hd
            · subst hd
              rw [esw]
              by_cases c2 : r_hc tx n p2 = -1
              · have ew : rd_w 0 (r_hc tx n p2) = 0 := by
                  unfold rd_w
                  rw [if_neg (fun q => q.2 c2)]
                rw [ew]
                have := rr_end (rd := rd) (po9 := rd_s (va_cpy su1 po 0 0 10) su2 10) (ps := ps92) (sd := -1) hT hn (by decide : (-1 : Int).natAbs = 1) (fun k hk => (RA_put (by decide : (1 : Int).natAbs = 1) z2 z3 hk).2.2) hp2 y2 y3 y4 y5 c2 (fun k hk => by
                  have s2 := (RA_put (by decide : (-1 : Int).natAbs = 1) y2 y3 hk).1
                  rw [show 10 * 0 + k = k by omega] at s2
                  show (if k < 10 then va_cpy su1 po 0 0 10 k - su2 k else va_cpy su1 po 0 0 10 k) = _
                  rw [if_pos hk, y0, s2]
                  unfold va_cpy
                  rw [if_pos (by omega), Nat.sub_zero, Nat.zero_add, esu k hk, iZ_sub]
                  congr 1
                  omega)
                rw [pl2] at this
                exact this
              · have ew : rd_w 0 (r_hc tx n p2) = 1 := by
                  unfold rd_w
                  rw [if_pos ⟨rfl, c2⟩]
                  rfl
                rw [ew, rd_lw (by decide)]
                obtain ⟨x1, hx⟩ := bad_b (tt := tt92) (sn := sn92) (fq := fq92) (op := 0) (ps := ps92) (sd := -1) (le := 0) hT hp2 pl2 y4 (Or.inl rfl) y7 y8 (fun q => q.2.2 rfl) (fun q => absurd q c2)
                exact rr_w (Or.inl rfl) hx
            · have es : r_sw 0 d2 = 1 := by
                rw [sw_e, if_pos ⟨rfl, hd⟩]
              have ew : rd_w 1 (r_hc tx n p2) = 1 := by
                unfold rd_w
                rw [if_neg (fun q => by omega)]
              rw [es, ew, rd_lw (by decide)]
              obtain ⟨x1, hx⟩ := bad_b (tt := tt92) (sn := sn92) (fq := fq92) (op := d2) (ps := ps92) (sd := -1) (le := 0) hT hp2 pl2 y4 y6 y7 y8 (fun q => by omega) (fun _ q => by omega)
              exact rr_w (Or.inl rfl) hx
          · have es : r_sw w2 d2 = w2 := by
              rw [sw_e, if_neg (fun q => by omega)]
            have ew : rd_w w2 (r_hc tx n p2) = w2 := by
              unfold rd_w
              rw [if_neg (fun q => by omega)]
            rw [es, ew, rd_lw (by omega), pl2]
            exact rr_w hw y1
        · have em : rd_m tx n (n + 2) true su wa fc po = some (r_hc tx n p1, p1, 1, va_cpy su1 po 0 0 10) := by
            unfold rd_m
            rw [eY, esw, pl1]
            dsimp only
            rw [if_pos ⟨rfl, rfl⟩, if_neg c]
            rfl
          refine ⟨n + 2, _, _, _, _, em, ?_⟩
          have ew : rd_w 1 (r_hc tx n p1) = 1 := by
            unfold rd_w
            rw [if_neg (fun q => by omega)]
          rw [ew, rd_lw (by decide)]
          obtain ⟨x1, hx⟩ := bad_b (tt := tt9) (sn := sn9) (fq := fq9) (op := 0) (ps := ps9) (sd := 1) (le := nI 1) hT hp1 pl1 z4 (Or.inl rfl) z7 z8 (fun q => c q.1) (fun _ q => absurd q.2 (by decide))
          exact rr_w (Or.inl rfl) hx
    · have es : r_sw 0 d1 = 1 := by
        rw [sw_e, if_pos ⟨rfl, hd⟩]
      have em : rd_m tx n (n + 2) sg su wa fc po = some (r_hc tx n p1, p1, 1, va_cpy su1 po 0 0 10) := by
        unfold rd_m
        rw [eY, es, pl1]
        dsimp only
        rw [if_neg (fun q => by omega)]
      refine ⟨n + 2, _, _, _, _, em, ?_⟩
      have ew : rd_w 1 (r_hc tx n p1) = 1 := by
        unfold rd_w
        rw [if_neg (fun q => by omega)]
      rw [ew, rd_lw (by decide)]
      obtain ⟨x1, hx⟩ := bad_b (tt := tt9) (sn := sn9) (fq := fq9) (op := d1) (ps := ps9) (sd := 1) (le := if sg = true then nI 1 else nI 0) hT hp1 pl1 z4 z6 z7 z8 (fun q => by omega) (fun _ q => by omega)
      exact rr_w (Or.inl rfl) hx
  · have es : r_sw w1 d1 = w1 := by
      rw [sw_e, if_neg (fun q => by omega)]
    have em : rd_m tx n (n + 2) sg su wa fc po = some (r_hc tx n p1, p1, w1, va_cpy su1 po 0 0 10) := by
      unfold rd_m
      rw [eY, es, pl1]
      dsimp only
      rw [if_neg (fun q => by omega)]
    refine ⟨n + 2, _, _, _, _, em, ?_⟩
    have ew : rd_w w1 (r_hc tx n p1) = w1 := by
      unfold rd_w
      rw [if_neg (fun q => by omega)]
    rw [ew, rd_lw (by omega), e0]
    exact rr_w hw z1
end
