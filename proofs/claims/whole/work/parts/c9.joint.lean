/-! ## Calls on both objects: the others -/
section
variable {l : Launch} {D : va_G} {dA : Nat → ClassId} {b : Nat} {h : xH} {sz : Nat} {v w z : Int32}
theorem j_back (R : ReH dA h b) : JC Value.int l D dA b h sz yX4_back wsX4_back 5 122 yX5_back wsX5_back 2 45 [.int v] := by
  obtain ⟨tx, ln, fa, sc, ab, be, n, s, im, ss, mx, ct, so, st, de, ir, se, kp, ⟨x, pl, rd, kq, ot, U⟩, ⟨q1, q2, q3, q4, q5, q6, q7, M⟩, V⟩ := R
  have V0 := V
  obtain ⟨v1, v2, v3, v4, v5, v6, v7⟩ := V
  have n6 := v3.2.1
  by_cases c : nI 0 ≤ v ∧ v ≤ nI n - nI 1
  · obtain ⟨k, kn, rfl⟩ := in_nat (by omega) c
    have w1 := StR_back v3 kn
    have w2 := SoR_sa w1 so
    obtain ⟨D1, D2⟩ := DeR_nt (n := n) (st := st) (t := (sc, ab, be, nI n, nI s, kq)) v5 ⟨v3, rfl⟩
    refine ⟨nI (n - 1), fun h1 => Uv dA h1 b tx ln fa x pl rd (rm_s sc k (n - 1), ab, be, nI (n - 1), nI s, kq) im (nt_s ss mx (sc, ab, be, nI n, nI s, kq)) ((mx + 1) % 20) (nt_c ct) (sa (rm_s sc k (n - 1)) so (n - 1)) ot ∧ xF b (b + 279) h h1, c_X4_back l D n6 v5.2.1 v5.1 U (fun q => absurd c q) (fun k2 hk2 e h1 sz1 U1 F1 => ?_) trivial, fun h1 sz1 e => ?_⟩
    · have := nI_inj (by omega) (by omega) e
      subst this
      exact ⟨rfl, U1, F1⟩
    · obtain ⟨U1, F1⟩ := e
      have M2 := ms_fo M F1 (by omega)
      refine ⟨ms_o M2, ?_⟩
      obtain ⟨ro, fr, ch, ov, M1⟩ := M2
      refine c_back l D v3.1 n6 v5.1 M1 (fun q => absurd c q) (fun k2 hk2 e h2 sz2 M3 F2 => ?_) trivial
      have := nI_inj (by omega) (by omega) e
      subst this
      exact ⟨rfl, ⟨_, _, _, _, _, _, _, _, _, _, _, _, _, _, _, _, _, _, ⟨_, _, _, _, _, uv_fo U1 F2 (by omega)⟩, ⟨_, _, _, _, _, _, _, _, _, _, _, by rw [← D2]; exact M3⟩, ⟨v1, v2, w1, w2, by rw [← D2]; exact D1, v6, v7⟩⟩⟩
  · have no : ∀ k, k < n → ¬ v = nI k := fun k hk e => c (by
      rw [e, pk_sub (by omega)]
      exact no_in (Nat.zero_le _) (by omega) (by omega))
    refine ⟨-1000000001, fun h1 => h = h1, c_X4_back l D n6 v5.2.1 v5.1 U (fun _ => ⟨rfl, rfl⟩) (fun k hk e => absurd e (no k hk)) trivial, fun h1 sz1 e => ?_⟩
    subst e
    refine ⟨ms_o M, ?_⟩
    obtain ⟨ro, fr, ch, ov, M1⟩ := M
    exact c_back l D v3.1 n6 v5.1 M1 (fun _ => ⟨rfl, ⟨_, _, _, _, _, _, _, _, _, _, _, _, _, _, _, _, _, _, ⟨_, _, _, _, _, U⟩, ⟨_, _, _, _, _, _, _, _, _, _, _, M1⟩, V0⟩⟩) (fun k hk e => absurd e (no k hk)) trivial
theorem j_scale (R : ReH dA h b) : JC Value.int l D dA b h sz yX4_scale wsX4_scale 3 92 yX5_scale wsX5_scale 2 45 [.int v, .int w, .int z] := by
  obtain ⟨tx, ln, fa, sc, ab, be, n, s, im, ss, mx, ct, so, st, de, ir, se, kp, ⟨x, pl, rd, kq, ot, U⟩, ⟨q1, q2, q3, q4, q5, q6, q7, M⟩, V⟩ := R
  have V0 := V
  obtain ⟨v1, v2, v3, v4, v5, v6, v7⟩ := V
  by_cases c : nI 0 ≤ v ∧ v ≤ nI 3
  · by_cases d : (nI 1 ≤ w ∧ w ≤ nI 12) ∧ (nI 1 ≤ z ∧ z ≤ nI 12)
    · obtain ⟨k, -, k3, rfl⟩ := in_nat2 (by omega) (by decide) c
      have w1 := StR_scale v3 k3 d.1 d.2
      obtain ⟨D1, D2⟩ := DeR_nt (n := n) (st := st) (t := (sc, ab, be, nI n, nI s, kq)) v5 ⟨v3, rfl⟩
      have ea : r_ct (fun i => decide (¬ (upd ab k w) i = (upd be k z) i)) 4 = r_ct (sc_n (sc_st st k w z)) 4 := r_ct_c (fun j hj => by
        obtain ⟨a1, a2⟩ := w1.2.2.2.1 j hj
        rw [a1, a2]
        unfold sc_n
        by_cases y : sc_st st k w z (61 + j) = sc_st st k w z (65 + j)
        · rw [decide_eq_false (fun q => q y), y]
          simp
        · rw [decide_eq_true y]
          simp [y])
      refine ⟨nI (r_ct (fun i => decide (¬ (upd ab k w) i = (upd be k z) i)) 4), fun h1 => Uv dA h1 b tx ln fa x pl rd (sc, upd ab k w, upd be k z, nI n, nI s, kq) im (nt_s ss mx (sc, ab, be, nI n, nI s, kq)) ((mx + 1) % 20) (nt_c ct) so ot ∧ xF b (b + 279) h h1, c_X4_scale l D v5.2.1 v5.1 U (fun q => absurd c q) (fun _ q => absurd d q) (fun k2 hk2 e _ _ h1 sz1 U1 F1 => ?_) trivial, fun h1 sz1 e => ?_⟩
      · have := nI_inj (by omega) (by omega) e
        subst this
        exact ⟨rfl, U1, F1⟩
      · obtain ⟨U1, F1⟩ := e
        have M2 := ms_fo M F1 (by omega)
        refine ⟨ms_o M2, ?_⟩
        obtain ⟨ro, fr, ch, ov, M1⟩ := M2
        refine c_scale (n := 0) l D v5.1 M1 (fun q => absurd c q) (fun _ q => absurd d q) (fun k2 hk2 e _ _ h2 sz2 M3 F2 => ?_) trivial
        have := nI_inj (by omega) (by omega) e
        subst this
        exact ⟨by rw [ea], ⟨_, _, _, _, _, _, _, _, _, _, _, _, _, _, _, _, _, _, ⟨_, _, _, _, _, uv_fo U1 F2 (by omega)⟩, ⟨_, _, _, _, _, _, _, _, _, _, _, by rw [← D2]; exact M3⟩, ⟨v1, v2, w1, v4, by rw [← D2]; exact D1, v6, v7⟩⟩⟩
    · refine ⟨-1000000002, fun h1 => h = h1, c_X4_scale l D v5.2.1 v5.1 U (fun q => absurd c q) (fun _ _ => ⟨rfl, rfl⟩) (fun _ _ _ a1 a2 => absurd ⟨a1, a2⟩ d) trivial, fun h1 sz1 e => ?_⟩
      subst e
      refine ⟨ms_o M, ?_⟩
      obtain ⟨ro, fr, ch, ov, M1⟩ := M
      exact c_scale (n := 0) l D v5.1 M1 (fun q => absurd c q) (fun _ _ => ⟨rfl, ⟨_, _, _, _, _, _, _, _, _, _, _, _, _, _, _, _, _, _, ⟨_, _, _, _, _, U⟩, ⟨_, _, _, _, _, _, _, _, _, _, _, M1⟩, V0⟩⟩) (fun _ _ _ a1 a2 => absurd ⟨a1, a2⟩ d) trivial
  · have no : ∀ k, k ≤ 3 → ¬ v = nI k := fun k hk e => c (by
      rw [e]
      exact no_in (Nat.zero_le _) hk (by decide))
    refine ⟨-1000000001, fun h1 => h = h1, c_X4_scale l D v5.2.1 v5.1 U (fun _ => ⟨rfl, rfl⟩) (fun q => absurd q c) (fun k hk e => absurd e (no k hk)) trivial, fun h1 sz1 e => ?_⟩
    subst e
    refine ⟨ms_o M, ?_⟩
    obtain ⟨ro, fr, ch, ov, M1⟩ := M
    exact c_scale (n := 0) l D v5.1 M1 (fun _ => ⟨rfl, ⟨_, _, _, _, _, _, _, _, _, _, _, _, _, _, _, _, _, _, ⟨_, _, _, _, _, U⟩, ⟨_, _, _, _, _, _, _, _, _, _, _, M1⟩, V0⟩⟩) (fun q => absurd q c) (fun k hk e => absurd e (no k hk)) trivial
/-- a state that is taken from aside -/
theorem StR_from {src st : Nat → Int32} {o : Nat} {t : sT} {n : Nat} {sc : Nat → Nat → Int32} {ab be : Nat → Int32} (Q : StQ (fun i => src (o + i)) t n) : StR (va_cpy src st o 0 69) (cp_s t.1 sc 6) (va_cpy t.2.1 ab 0 0 4) (va_cpy t.2.2.1 be 0 0 4) n := by
  refine StR_cg (fun i hi => ?_) (fun k e hk he => ?_) (fun j hj => ⟨?_, ?_⟩) Q.1
  · have := cy_in (f := src) (g := st) (a := o) (b := 0) hi
    rw [Nat.zero_add] at this
    exact this
  · have n6 := Q.1.2.1
    show (if k < 6 then va_cpy (t.1 k) (sc k) 0 0 10 else sc k) e = t.1 k e
    rw [if_pos (by omega)]
    have := cy_in (f := t.1 k) (g := sc k) (a := 0) (b := 0) he
    rw [Nat.zero_add] at this
    exact this
  · have := cy_in (f := t.2.1) (g := ab) (a := 0) (b := 0) hj
    rw [Nat.zero_add] at this
    exact this
  · have := cy_in (f := t.2.2.1) (g := be) (a := 0) (b := 0) hj
    rw [Nat.zero_add] at this
    exact this
theorem j_undo (R : ReH dA h b) : JC Value.int l D dA b h sz yX4_undo wsX4_undo 5 122 yX5_undo wsX5_undo 1 25 [.int v] := by
  obtain ⟨tx, ln, fa, sc, ab, be, n, s, im, ss, mx, ct, so, st, de, ir, se, kp, ⟨x, pl, rd, kq, ot, U⟩, ⟨q1, q2, q3, q4, q5, q6, q7, M⟩, V⟩ := R
  have V0 := V
  obtain ⟨v1, v2, v3, v4, v5, v6, v7⟩ := V
  have hss : ∀ k, 1 ≤ k → k ≤ ct → ∃ n1, n1 ≤ 6 ∧ (ss ((mx + 20 - k) % 20)).2.2.2.1 = nI n1 := fun k k1 k2 => by
    obtain ⟨n1, Q⟩ := v5.2.2 k k1 k2
    exact ⟨n1, Q.1.2.1, Q.2⟩
  by_cases c : nI 1 ≤ v ∧ v ≤ nI 20
  · obtain ⟨k, k1, k20, rfl⟩ := in_nat2 (by omega) (by decide) c
    by_cases d : k ≤ ct
    · obtain ⟨n1, Q⟩ := v5.2.2 k k1 d
      have w1 := StR_from (st := st) (sc := sc) (ab := ab) (be := be) Q
      have w2 := SoR_sa w1 so
      refine ⟨nI n1, fun h1 => Uv dA h1 b tx ln fa x pl rd (cp_s (ss ((mx + 20 - k) % 20)).1 sc 6, va_cpy (ss ((mx + 20 - k) % 20)).2.1 ab 0 0 4, va_cpy (ss ((mx + 20 - k) % 20)).2.2.1 be 0 0 4, nI n1, nI s, kq) im ss ((mx + 20 - k) % 20) (ct - k) (sa (cp_s (ss ((mx + 20 - k) % 20)).1 sc 6) so n1) ot ∧ xF b (b + 279) h h1, c_X4_undo l D v5.2.1 v5.1 hss U (fun q => absurd c q) (fun k2 _ hk2 e q => ?_) (fun k2 _ hk2 e _ n2 n26 en h1 sz1 U1 F1 => ?_) trivial, fun h1 sz1 e => ?_⟩
      · have := nI_inj (by omega) (by omega) e
        subst this
        exact absurd d q
      · have := nI_inj (by omega) (by omega) e
        subst this
        have n16 := Q.1.2.1
        have e1 : n2 = n1 := nI_inj (by omega) (by omega) (by rw [← en, Q.2])
        subst e1
        exact ⟨rfl, U1, F1⟩
      · obtain ⟨U1, F1⟩ := e
        have M2 := ms_fo M F1 (by omega)
        refine ⟨ms_o M2, ?_⟩
        obtain ⟨ro, fr, ch, ov, M1⟩ := M2
        refine c_undo l D v5.1 M1 (fun q => absurd c q) (fun u _ hu e q => ?_) (fun u _ hu e _ h2 sz2 M3 F2 => ?_) trivial
        · have := nI_inj (by omega) (by omega) e
          subst this
          exact absurd d q
        · have := nI_inj (by omega) (by omega) e
          subst this
          exact ⟨by rw [w1.1], ⟨_, _, _, _, _, _, _, _, _, _, _, _, _, _, _, _, _, _, ⟨_, _, _, _, _, uv_fo U1 F2 (by omega)⟩, ⟨_, _, _, _, _, _, _, _, _, _, _, M3⟩, ⟨v1, v2, w1, w2, DeR_un v5 d, v6, v7⟩⟩⟩
    · refine ⟨-1000000003, fun h1 => h = h1, c_X4_undo l D v5.2.1 v5.1 hss U (fun q => absurd c q) (fun _ _ _ _ _ => ⟨rfl, rfl⟩) (fun k2 _ hk2 e q => ?_) trivial, fun h1 sz1 e => ?_⟩
      · have := nI_inj (by omega) (by omega) e
        subst this
        exact absurd q d
      · subst e
        refine ⟨ms_o M, ?_⟩
        obtain ⟨ro, fr, ch, ov, M1⟩ := M
        refine c_undo l D v5.1 M1 (fun q => absurd c q) (fun _ _ _ _ _ => ⟨rfl, ⟨_, _, _, _, _, _, _, _, _, _, _, _, _, _, _, _, _, _, ⟨_, _, _, _, _, U⟩, ⟨_, _, _, _, _, _, _, _, _, _, _, M1⟩, V0⟩⟩) (fun u _ hu e q => ?_) trivial
        have := nI_inj (by omega) (by omega) e
        subst this
        exact absurd q d
  · have no : ∀ k, 1 ≤ k → k ≤ 20 → ¬ v = nI k := fun k k1 hk e => c (by
      rw [e]
      exact no_in k1 hk (by decide))
    refine ⟨-1000000002, fun h1 => h = h1, c_X4_undo l D v5.2.1 v5.1 hss U (fun _ => ⟨rfl, rfl⟩) (fun k k1 hk e => absurd e (no k k1 hk)) (fun k k1 hk e => absurd e (no k k1 hk)) trivial, fun h1 sz1 e => ?_⟩
    subst e
    refine ⟨ms_o M, ?_⟩
    obtain ⟨ro, fr, ch, ov, M1⟩ := M
    exact c_undo l D v5.1 M1 (fun _ => ⟨rfl, ⟨_, _, _, _, _, _, _, _, _, _, _, _, _, _, _, _, _, _, ⟨_, _, _, _, _, U⟩, ⟨_, _, _, _, _, _, _, _, _, _, _, M1⟩, V0⟩⟩) (fun k k1 hk e => absurd e (no k k1 hk)) (fun k k1 hk e => absurd e (no k k1 hk)) trivial
end
