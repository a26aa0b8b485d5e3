/-! ## Calls on both objects: asked, kept, drawn -/
section
variable {l : Launch} {D : va_G} {dA : Nat → ClassId} {b : Nat} {h : xH} {sz : Nat} {v w z : Int32}
theorem j_saying (R : ReH dA h b) : JC Value.int l D dA b h sz yX4_saying wsX4_saying 5 134 yX5_saying wsX5_saying 6 148 [.int v, .int w] := by
  obtain ⟨tx, ln, fa, sc, ab, be, n, s, im, ss, mx, ct, so, st, de, ir, se, kp, ⟨x, pl, rd, kq, ot, U⟩, ⟨q1, q2, q3, q4, q5, q6, q7, M⟩, V⟩ := R
  have V0 := V
  obtain ⟨v1, v2, v3, v4, v5, v6, v7⟩ := V
  have n6 := v3.2.1
  obtain ⟨F, S, hh, X, hZ, hA⟩ := al_ans v3
  by_cases c : nI 0 ≤ v ∧ v ≤ nI n - nI 1
  · obtain ⟨k, kn, rfl⟩ := in_nat (by omega) c
    by_cases d : nI 0 ≤ w ∧ w ≤ nI 10
    · obtain ⟨q, -, q10, rfl⟩ := in_nat2 (by omega) (by decide) d
      by_cases f : q = 10
      · subst f
        refine ⟨x_b (im_u (sc k) (so_k sc ot k n) = true), fun h1 => (∃ ot1, Uv dA h1 b tx ln fa x pl rd (sc, ab, be, nI n, nI s, kq) im ss mx ct so ot1) ∧ xF b (b + 279) h h1, c_X4_saying l D n6 U (fun q => absurd c q) (fun _ _ _ q => absurd d q) (fun k2 hk2 e _ h1 sz1 U1 F1 => ?_) (fun k2 hk2 e q hq e2 => ?_) trivial, fun h1 sz1 e => ?_⟩
        · have := nI_inj (by omega) (by omega) e
          subst this
          exact ⟨rfl, ⟨_, U1⟩, F1⟩
        · have := nI_inj (by omega) (by omega) e2
          omega
        · obtain ⟨⟨ot1, U1⟩, F1⟩ := e
          have M2 := ms_fo M F1 (by omega)
          refine ⟨ms_o M2, c_saying l D v3.1 n6 hA M2 (fun q => absurd c q) (fun _ _ _ q => absurd d q) (fun k2 hk2 e _ h2 sz2 M3 F2 => ?_) (fun k2 hk2 e q hq e2 => ?_) trivial⟩
          · have := nI_inj (by omega) (by omega) e
            subst this
            exact ⟨by rw [al_sp v3 hZ hk2 ot], ⟨_, _, _, _, _, _, _, _, _, _, _, _, _, _, _, _, _, _, ⟨_, _, _, _, _, uv_fo U1 F2 (by omega)⟩, ⟨_, _, _, _, _, _, _, M3⟩, V0⟩⟩
          · have := nI_inj (by omega) (by omega) e2
            omega
      · refine ⟨sc k q + nI 100, fun h1 => h = h1, c_X4_saying l D n6 U (fun q => absurd c q) (fun _ _ _ q => absurd d q) (fun k2 hk2 e e2 => ?_) (fun k2 hk2 e q2 hq e2 => ?_) trivial, fun h1 sz1 e => ?_⟩
        · have := nI_inj (by omega) (by omega) e2
          exact absurd this f
        · have e3 := nI_inj (by omega) (by omega) e
          have e4 := nI_inj (by omega) (by omega) e2
          subst e3 e4
          exact ⟨rfl, rfl⟩
        · subst e
          refine ⟨ms_o M, c_saying l D v3.1 n6 hA M (fun q => absurd c q) (fun _ _ _ q => absurd d q) (fun k2 hk2 e e2 => ?_) (fun k2 hk2 e q2 hq e2 => ?_) trivial⟩
          · have := nI_inj (by omega) (by omega) e2
            exact absurd this f
          · have e3 := nI_inj (by omega) (by omega) e
            have e4 := nI_inj (by omega) (by omega) e2
            subst e3 e4
            exact ⟨by rw [v3.2.2.1 _ _ hk2 hq], ⟨_, _, _, _, _, _, _, _, _, _, _, _, _, _, _, _, _, _, ⟨_, _, _, _, _, U⟩, ⟨_, _, _, _, _, _, _, M⟩, V0⟩⟩
    · have no1 : ¬ w = nI 10 := fun e => d (by rw [e]; exact no_in (Nat.zero_le _) (Nat.le_refl _) (by decide))
      have no2 : ∀ q, q < 10 → ¬ w = nI q := fun q hq e => d (by rw [e]; exact no_in (Nat.zero_le _) (by omega) (by decide))
      refine ⟨-1000000002, fun h1 => h = h1, c_X4_saying l D n6 U (fun q => absurd c q) (fun _ _ _ _ => ⟨rfl, rfl⟩) (fun _ _ _ e => absurd e no1) (fun _ _ _ q hq e => absurd e (no2 q hq)) trivial, fun h1 sz1 e => ?_⟩
      subst e
      exact ⟨ms_o M, c_saying l D v3.1 n6 hA M (fun q => absurd c q) (fun _ _ _ _ => ⟨rfl, ⟨_, _, _, _, _, _, _, _, _, _, _, _, _, _, _, _, _, _, ⟨_, _, _, _, _, U⟩, ⟨_, _, _, _, _, _, _, M⟩, V0⟩⟩) (fun _ _ _ e => absurd e no1) (fun _ _ _ q hq e => absurd e (no2 q hq)) trivial⟩
  · have no : ∀ k, k < n → ¬ v = nI k := fun k hk e => c (by
      rw [e, pk_sub (by omega)]
      exact no_in (Nat.zero_le _) (by omega) (by omega))
    refine ⟨-1000000001, fun h1 => h = h1, c_X4_saying l D n6 U (fun _ => ⟨rfl, rfl⟩) (fun k hk e => absurd e (no k hk)) (fun k hk e => absurd e (no k hk)) (fun k hk e => absurd e (no k hk)) trivial, fun h1 sz1 e => ?_⟩
    subst e
    exact ⟨ms_o M, c_saying l D v3.1 n6 hA M (fun _ => ⟨rfl, ⟨_, _, _, _, _, _, _, _, _, _, _, _, _, _, _, _, _, _, ⟨_, _, _, _, _, U⟩, ⟨_, _, _, _, _, _, _, M⟩, V0⟩⟩) (fun k hk e => absurd e (no k hk)) (fun k hk e => absurd e (no k hk)) (fun k hk e => absurd e (no k hk)) trivial⟩
theorem j_free (R : ReH dA h b) : JC Value.long l D dA b h sz yX4_free wsX4_free 0 0 yX5_free wsX5_free 5 127 [.int v, .int w] := by
  obtain ⟨tx, ln, fa, sc, ab, be, n, s, im, ss, mx, ct, so, st, de, ir, se, kp, ⟨x, pl, rd, kq, ot, U⟩, ⟨q1, q2, q3, q4, q5, q6, q7, M⟩, V⟩ := R
  have V0 := V
  obtain ⟨v1, v2, v3, v4, v5, v6, v7⟩ := V
  have n6 := v3.2.1
  obtain ⟨F, S, hh, X, hZ, hA⟩ := al_ans v3
  have s6 := al_le v3 v4
  obtain ⟨a1, a2, a3⟩ := al_so v3 hZ v4
  by_cases c : nI 0 ≤ v ∧ v ≤ nI so.2.2.2.2.2 - nI 1
  · obtain ⟨k, kn, rfl⟩ := in_nat (by omega) c
    have c2 : nI 0 ≤ nI k ∧ nI k ≤ nI (F (2 ^ n - 1)) - nI 1 := by
      rw [← a1]
      exact c
    by_cases d : nI 0 ≤ w ∧ w ≤ nI 5
    · obtain ⟨q, -, q5', rfl⟩ := in_nat2 (by omega) (by decide) d
      refine ⟨so.1 k q + 1000000000000, fun h1 => h = h1, c_X4_free l D s6 U (fun q => absurd c q) (fun _ _ _ q => absurd d q) (fun k2 hk2 e q2 hq e2 => ?_) trivial, fun h1 sz1 e => ?_⟩
      · have e3 := nI_inj (by omega) (by omega) e
        have e4 := nI_inj (by omega) (by omega) e2
        subst e3 e4
        exact ⟨rfl, rfl⟩
      · subst e
        refine ⟨ms_o M, c_free l D v3.1 n6 hA M (fun q => absurd c2 q) (fun _ _ _ q => absurd d q) (fun k2 hk2 e q2 hq e2 h2 sz2 M3 F2 => ?_) trivial⟩
        have e3 := nI_inj (by omega) (by omega) e
        have e4 := nI_inj (by omega) (by omega) e2
        subst e3 e4
        exact ⟨by rw [a2 _ _ hk2 (by omega)], ⟨_, _, _, _, _, _, _, _, _, _, _, _, _, _, _, _, _, _, ⟨_, _, _, _, _, uv_fo U F2 (by omega)⟩, ⟨_, _, _, _, _, _, _, M3⟩, V0⟩⟩
    · have no2 : ∀ q, q ≤ 5 → ¬ w = nI q := fun q hq e => d (by rw [e]; exact no_in (Nat.zero_le _) hq (by decide))
      refine ⟨-1000000002, fun h1 => h = h1, c_X4_free l D s6 U (fun q => absurd c q) (fun _ _ _ _ => ⟨rfl, rfl⟩) (fun _ _ _ q hq e => absurd e (no2 q hq)) trivial, fun h1 sz1 e => ?_⟩
      subst e
      exact ⟨ms_o M, c_free l D v3.1 n6 hA M (fun q => absurd c2 q) (fun _ _ _ _ h2 sz2 M3 F2 => ⟨rfl, ⟨_, _, _, _, _, _, _, _, _, _, _, _, _, _, _, _, _, _, ⟨_, _, _, _, _, uv_fo U F2 (by omega)⟩, ⟨_, _, _, _, _, _, _, M3⟩, V0⟩⟩) (fun _ _ _ q hq e => absurd e (no2 q hq)) trivial⟩
  · have no : ∀ k, k < so.2.2.2.2.2 → ¬ v = nI k := fun k hk e => c (by
      rw [e, pk_sub (by omega)]
      exact no_in (Nat.zero_le _) (by omega) (by omega))
    refine ⟨-1000000001, fun h1 => h = h1, c_X4_free l D s6 U (fun _ => ⟨rfl, rfl⟩) (fun k hk e => absurd e (no k hk)) (fun k hk e => absurd e (no k hk)) trivial, fun h1 sz1 e => ?_⟩
    subst e
    exact ⟨ms_o M, c_free l D v3.1 n6 hA M (fun _ h2 sz2 M3 F2 => ⟨rfl, ⟨_, _, _, _, _, _, _, _, _, _, _, _, _, _, _, _, _, _, ⟨_, _, _, _, _, uv_fo U F2 (by omega)⟩, ⟨_, _, _, _, _, _, _, M3⟩, V0⟩⟩) (fun k hk e => absurd e (no k (by rw [a1]; exact hk))) (fun k hk e => absurd e (no k (by rw [a1]; exact hk))) trivial⟩
theorem j_least (R : ReH dA h b) : JC Value.long l D dA b h sz yX4_least wsX4_least 0 0 yX5_least wsX5_least 5 127 [.int v, .int w] := by
  obtain ⟨tx, ln, fa, sc, ab, be, n, s, im, ss, mx, ct, so, st, de, ir, se, kp, ⟨x, pl, rd, kq, ot, U⟩, ⟨q1, q2, q3, q4, q5, q6, q7, M⟩, V⟩ := R
  have V0 := V
  obtain ⟨v1, v2, v3, v4, v5, v6, v7⟩ := V
  have n6 := v3.2.1
  obtain ⟨F, S, hh, X, hZ, hA⟩ := al_ans v3
  obtain ⟨a1, a2, a3⟩ := al_so v3 hZ v4
  by_cases c : (nI 0 ≤ v ∧ v ≤ nI 5) ∧ (nI 0 ≤ w ∧ w ≤ nI 3)
  · obtain ⟨k, -, k5, rfl⟩ := in_nat2 (by omega) (by decide) c.1
    obtain ⟨q, -, q3', rfl⟩ := in_nat2 (by omega) (by decide) c.2
    refine ⟨so.2.1 q k + 1000000000000, fun h1 => h = h1, c_X4_least l D U (fun q => absurd c q) (fun k2 hk2 e q2 hq e2 => ?_) trivial, fun h1 sz1 e => ?_⟩
    · have e3 := nI_inj (by omega) (by omega) e
      have e4 := nI_inj (by omega) (by omega) e2
      subst e3 e4
      exact ⟨rfl, rfl⟩
    · subst e
      refine ⟨ms_o M, c_least l D v3.1 n6 hA M (fun q => absurd c q) (fun k2 hk2 e q2 hq e2 h2 sz2 M3 F2 => ?_) trivial⟩
      have e3 := nI_inj (by omega) (by omega) e
      have e4 := nI_inj (by omega) (by omega) e2
      subst e3 e4
      exact ⟨by rw [a3 _ _ (by omega) (by omega)], ⟨_, _, _, _, _, _, _, _, _, _, _, _, _, _, _, _, _, _, ⟨_, _, _, _, _, uv_fo U F2 (by omega)⟩, ⟨_, _, _, _, _, _, _, M3⟩, V0⟩⟩
  · have no : ∀ k, k ≤ 5 → v = nI k → ∀ q, q ≤ 3 → ¬ w = nI q := fun k hk e q hq e2 => c (by
      rw [e, e2]
      exact ⟨no_in (Nat.zero_le _) hk (by decide), no_in (Nat.zero_le _) hq (by decide)⟩)
    refine ⟨-1000000001, fun h1 => h = h1, c_X4_least l D U (fun _ => ⟨rfl, rfl⟩) (fun k hk e q hq e2 => absurd e2 (no k hk e q hq)) trivial, fun h1 sz1 e => ?_⟩
    subst e
    exact ⟨ms_o M, c_least l D v3.1 n6 hA M (fun _ => ⟨rfl, ⟨_, _, _, _, _, _, _, _, _, _, _, _, _, _, _, _, _, _, ⟨_, _, _, _, _, U⟩, ⟨_, _, _, _, _, _, _, M⟩, V0⟩⟩) (fun k hk e q hq e2 => absurd e2 (no k hk e q hq)) trivial⟩
theorem j_isTold (R : ReH dA h b) : JC Value.int l D dA b h sz yX4_isTold wsX4_isTold 1 24 yX5_isTold wsX5_isTold 5 127 [.int v] := by
  obtain ⟨tx, ln, fa, sc, ab, be, n, s, im, ss, mx, ct, so, st, de, ir, se, kp, ⟨x, pl, rd, kq, ot, U⟩, ⟨q1, q2, q3, q4, q5, q6, q7, M⟩, V⟩ := R
  have V0 := V
  obtain ⟨v1, v2, v3, v4, v5, v6, v7⟩ := V
  have n6 := v3.2.1
  obtain ⟨F, S, hh, X, hZ, hA⟩ := al_ans v3
  have s6 := al_le v3 v4
  by_cases c : nI 0 ≤ v ∧ v ≤ nI 5
  · obtain ⟨k, -, k5, rfl⟩ := in_nat2 (by omega) (by decide) c
    refine ⟨x_b (fx_b so.1 so.2.2.2.2.2 k = true), fun h1 => h = h1, c_X4_isTold l D s6 U (fun q => absurd c q) (fun k2 hk2 e => ?_) trivial, fun h1 sz1 e => ?_⟩
    · have e3 := nI_inj (by omega) (by omega) e
      subst e3
      exact ⟨rfl, rfl⟩
    · subst e
      refine ⟨ms_o M, c_isTold l D v3.1 n6 hA M (fun q => absurd c q) (fun k2 hk2 e h2 sz2 M3 F2 => ?_) trivial⟩
      have e3 := nI_inj (by omega) (by omega) e
      subst e3
      exact ⟨by rw [al_fx v3 hZ v4 (by omega)], ⟨_, _, _, _, _, _, _, _, _, _, _, _, _, _, _, _, _, _, ⟨_, _, _, _, _, uv_fo U F2 (by omega)⟩, ⟨_, _, _, _, _, _, _, M3⟩, V0⟩⟩
  · have no : ∀ k, k ≤ 5 → ¬ v = nI k := fun k hk e => c (by
      rw [e]
      exact no_in (Nat.zero_le _) hk (by decide))
    refine ⟨-1000000001, fun h1 => h = h1, c_X4_isTold l D s6 U (fun _ => ⟨rfl, rfl⟩) (fun k hk e => absurd e (no k hk)) trivial, fun h1 sz1 e => ?_⟩
    subst e
    exact ⟨ms_o M, c_isTold l D v3.1 n6 hA M (fun _ => ⟨rfl, ⟨_, _, _, _, _, _, _, _, _, _, _, _, _, _, _, _, _, _, ⟨_, _, _, _, _, U⟩, ⟨_, _, _, _, _, _, _, M⟩, V0⟩⟩) (fun k hk e => absurd e (no k hk)) trivial⟩
theorem j_seed (R : ReH dA h b) : JC Value.int l D dA b h sz yX4_seed wsX4_seed 0 0 yX5_seed wsX5_seed 0 0 [.int v] := by
  obtain ⟨tx, ln, fa, sc, ab, be, n, s, im, ss, mx, ct, so, st, de, ir, se, kp, ⟨x, pl, rd, kq, ot, U⟩, ⟨q1, q2, q3, q4, q5, q6, q7, M⟩, V⟩ := R
  have V0 := V
  obtain ⟨v1, v2, v3, v4, v5, v6, v7⟩ := V
  by_cases c : 0 ≤ v
  · have c1 := Int32.le_iff_toInt_le.mp c
    rw [show (0 : Int32).toInt = 0 from rfl] at c1
    have c2 := v.toInt_lt
    obtain ⟨k, hk, ek⟩ : ∃ k : Nat, k < 2147483648 ∧ v = nI k := ⟨v.toInt.toNat, by omega, by
      rw [nI_iZ, show ((v.toInt.toNat : Nat) : Int) = v.toInt by omega, iZ_id]⟩
    refine ⟨nI s, fun h1 => Uv dA h1 b tx ln fa x pl rd (sc, ab, be, nI n, v, kq) im ss mx ct so ot ∧ xF b (b + 279) h h1, c_X4_seed l D U (fun q => absurd c q) (fun _ h1 sz1 U1 F1 => ⟨rfl, U1, F1⟩) trivial, fun h1 sz1 e => ?_⟩
    obtain ⟨U1, F1⟩ := e
    have M2 := ms_fo M F1 (by omega)
    refine ⟨ms_o M2, ?_⟩
    obtain ⟨ro, fr, ch, ov, M1⟩ := M2
    refine c_seed l D M1 (fun q => absurd c q) (fun _ h2 sz2 M3 F2 => ?_) trivial
    refine ⟨by rw [show lN s = zI s from rfl, zI_32 v6], ⟨_, _, _, _, _, _, _, k, _, _, _, _, _, _, _, _, _, _, ⟨_, _, _, _, _, by rw [← ek]; exact uv_fo U1 F2 (by omega)⟩, ⟨_, _, _, _, _, _, _, _, _, _, _, by rw [show lN k = zI k from rfl, ← nI_64 hk, ← ek]; exact M3⟩, ⟨v1, v2, v3, v4, v5, hk, v7⟩⟩⟩
  · refine ⟨-1000000002, fun h1 => h = h1, c_X4_seed l D U (fun _ => ⟨rfl, rfl⟩) (fun q => absurd q c) trivial, fun h1 sz1 e => ?_⟩
    subst e
    refine ⟨ms_o M, ?_⟩
    obtain ⟨ro, fr, ch, ov, M1⟩ := M
    exact c_seed l D M1 (fun _ => ⟨rfl, ⟨_, _, _, _, _, _, _, _, _, _, _, _, _, _, _, _, _, _, ⟨_, _, _, _, _, U⟩, ⟨_, _, _, _, _, _, _, _, _, _, _, M1⟩, V0⟩⟩) (fun q => absurd q c) trivial
theorem DeR_0 {de : Nat → Int32} {ss : Nat → sT} {mx d : Nat} (Q : DeR de d ss mx) : DeR de 0 ss mx := ⟨by omega, Q.2.1, fun k k1 k2 => by omega⟩
theorem j_keep (R : ReH dA h b) : JC Value.int l D dA b h sz yX4_keep wsX4_keep 3 92 yX5_keep wsX5_keep 1 25 [.int v] := by
  obtain ⟨tx, ln, fa, sc, ab, be, n, s, im, ss, mx, ct, so, st, de, ir, se, kp, ⟨x, pl, rd, kq, ot, U⟩, ⟨q1, q2, q3, q4, q5, q6, q7, M⟩, V⟩ := R
  have V0 := V
  obtain ⟨v1, v2, v3, v4, v5, v6, v7⟩ := V
  by_cases c : nI 0 ≤ v ∧ v ≤ nI 1
  · obtain ⟨k, -, k1, rfl⟩ := in_nat2 (by omega) (by decide) c
    refine ⟨nI 1, fun h1 => Uv dA h1 b tx ln fa x pl rd (sc, ab, be, nI n, nI s, kq) (fun i => if i = k then (cp_s sc (im k).1 6, va_cpy ab (im k).2.1 0 0 4, va_cpy be (im k).2.2.1 0 0 4, nI n, nI s, nI 1) else im i) ss mx 0 so ot ∧ xF b (b + 279) h h1, c_X4_keep l D U (fun q => absurd c q) (fun k2 hk2 e h1 sz1 U1 F1 => ?_) trivial, fun h1 sz1 e => ?_⟩
    · have e3 := nI_inj (by omega) (by omega) e
      subst e3
      exact ⟨rfl, U1, F1⟩
    · obtain ⟨U1, F1⟩ := e
      have M2 := ms_fo M F1 (by omega)
      refine ⟨ms_o M2, ?_⟩
      obtain ⟨ro, fr, ch, ov, M1⟩ := M2
      refine c_keep l D M1 (fun q => absurd c q) (fun k2 hk2 e h2 sz2 M3 F2 => ?_) trivial
      have e3 := nI_inj (by omega) (by omega) e
      subst e3
      refine ⟨rfl, ⟨_, _, _, _, _, _, _, _, _, _, _, _, _, _, _, _, _, _, ⟨_, _, _, _, _, uv_fo U1 F2 (by omega)⟩, ⟨_, _, _, _, _, _, _, _, _, _, _, M3⟩, ⟨v1, v2, v3, v4, DeR_0 v5, v6, fun i hi => ?_⟩⟩⟩
      dsimp only
      by_cases e5 : i = k
      · subst e5
        rw [if_pos rfl]
        refine Or.inr ⟨?_, ?_, n, s, ?_, if_pos rfl, rfl, v6⟩
        · rw [up_eq]
          decide
        · show ¬ nI 1 = 0
          decide
        · exact StQ_cp (t := im i) (f := (sc, ab, be, nI n, nI s, nI 1)) (fun j hj => by rw [cy_in hj, Nat.zero_add]) ⟨v3, rfl⟩
      · rw [if_neg e5, up_ne e5]
        rcases v7 i hi with o | ⟨o1, o2, n1, s1, o3, o4, o5, o6⟩
        · exact Or.inl o
        · refine Or.inr ⟨o1, o2, n1, s1, ⟨StR_cg (fun j hj => ?_) (fun _ _ _ _ => rfl) (fun _ _ => ⟨rfl, rfl⟩) o3.1, o3.2⟩, ?_, o5, o6⟩
          · exact cy_out (by omega)
          · rw [← o4]
            exact if_neg e5
  · have no : ∀ k, k ≤ 1 → ¬ v = nI k := fun k hk e => c (by
      rw [e]
      exact no_in (Nat.zero_le _) hk (by decide))
    refine ⟨-1000000001, fun h1 => h = h1, c_X4_keep l D U (fun _ => ⟨rfl, rfl⟩) (fun k hk e => absurd e (no k hk)) trivial, fun h1 sz1 e => ?_⟩
    subst e
    refine ⟨ms_o M, ?_⟩
    obtain ⟨ro, fr, ch, ov, M1⟩ := M
    exact c_keep l D M1 (fun _ => ⟨rfl, ⟨_, _, _, _, _, _, _, _, _, _, _, _, _, _, _, _, _, _, ⟨_, _, _, _, _, U⟩, ⟨_, _, _, _, _, _, _, _, _, _, _, M1⟩, V0⟩⟩) (fun k hk e => absurd e (no k hk)) trivial
theorem j_goBack (R : ReH dA h b) : JC Value.int l D dA b h sz yX4_goBack wsX4_goBack 5 122 yX5_goBack wsX5_goBack 1 25 [.int v] := by
  obtain ⟨tx, ln, fa, sc, ab, be, n, s, im, ss, mx, ct, so, st, de, ir, se, kp, ⟨x, pl, rd, kq, ot, U⟩, ⟨q1, q2, q3, q4, q5, q6, q7, M⟩, V⟩ := R
  have V0 := V
  obtain ⟨v1, v2, v3, v4, v5, v6, v7⟩ := V
  have him : ∀ k, k < 2 → ¬ (im k).2.2.2.2.2 = 0 → ∃ n1, n1 ≤ 6 ∧ (im k).2.2.2.1 = nI n1 := fun k hk q => by
    rcases v7 k hk with ⟨-, o⟩ | ⟨o1, o2, n1, s1, o3, o4, o5, o6⟩
    · exact absurd o q
    · exact ⟨n1, o3.1.2.1, o3.2⟩
  by_cases c : nI 0 ≤ v ∧ v ≤ nI 1
  · obtain ⟨k, -, k1, rfl⟩ := in_nat2 (by omega) (by decide) c
    rcases v7 k (by omega) with ⟨o1, o2⟩ | ⟨o1, o2, n1, s1, o3, o4, o5, o6⟩
    · refine ⟨-1000000003, fun h1 => h = h1, c_X4_goBack l D him U (fun q => absurd c q) (fun _ _ _ _ => ⟨rfl, rfl⟩) (fun k2 hk2 e q => ?_) trivial, fun h1 sz1 e => ?_⟩
      · have e3 := nI_inj (by omega) (by omega) e
        subst e3
        exact absurd o2 q
      · subst e
        refine ⟨ms_o M, ?_⟩
        obtain ⟨ro, fr, ch, ov, M1⟩ := M
        refine c_goBack l D M1 (fun q => absurd c q) (fun _ _ _ _ => ⟨rfl, ⟨_, _, _, _, _, _, _, _, _, _, _, _, _, _, _, _, _, _, ⟨_, _, _, _, _, U⟩, ⟨_, _, _, _, _, _, _, _, _, _, _, M1⟩, V0⟩⟩) (fun k2 hk2 e q => ?_) trivial
        have e3 := nI_inj (by omega) (by omega) e
        subst e3
        exact absurd o1 q
    · have w1 := StR_from (st := st) (sc := sc) (ab := ab) (be := be) o3
      have w2 := SoR_sa w1 so
      refine ⟨nI 1, fun h1 => Uv dA h1 b tx ln fa x pl rd (cp_s (im k).1 sc 6, va_cpy (im k).2.1 ab 0 0 4, va_cpy (im k).2.2.1 be 0 0 4, nI n1, (im k).2.2.2.2.1, kq) im ss mx 0 (sa (cp_s (im k).1 sc 6) so n1) ot ∧ xF b (b + 279) h h1, c_X4_goBack l D him U (fun q => absurd c q) (fun k2 hk2 e q => ?_) (fun k2 hk2 e _ n2 n26 en h1 sz1 U1 F1 => ?_) trivial, fun h1 sz1 e => ?_⟩
      · have e3 := nI_inj (by omega) (by omega) e
        subst e3
        exact absurd q o2
      · have e3 := nI_inj (by omega) (by omega) e
        subst e3
        have n16 := o3.1.2.1
        have e1 : n2 = n1 := nI_inj (by omega) (by omega) (by rw [← en, o3.2])
        subst e1
        exact ⟨rfl, U1, F1⟩
      · obtain ⟨U1, F1⟩ := e
        have M2 := ms_fo M F1 (by omega)
        refine ⟨ms_o M2, ?_⟩
        obtain ⟨ro, fr, ch, ov, M1⟩ := M2
        refine c_goBack l D M1 (fun q => absurd c q) (fun k2 hk2 e q => ?_) (fun k2 hk2 e _ h2 sz2 M3 F2 => ?_) trivial
        · have e3 := nI_inj (by omega) (by omega) e
          subst e3
          exact absurd q o1
        · have e3 := nI_inj (by omega) (by omega) e
          subst e3
          exact ⟨rfl, ⟨_, _, _, _, _, _, _, s1, _, _, _, _, _, _, _, _, _, _, ⟨_, _, _, _, _, by rw [← o5]; exact uv_fo U1 F2 (by omega)⟩, ⟨_, _, _, _, _, _, _, _, _, _, _, by rw [← o4]; exact M3⟩, ⟨v1, v2, w1, w2, DeR_0 v5, o6, v7⟩⟩⟩
  · have no : ∀ k, k ≤ 1 → ¬ v = nI k := fun k hk e => c (by
      rw [e]
      exact no_in (Nat.zero_le _) hk (by decide))
    refine ⟨-1000000001, fun h1 => h = h1, c_X4_goBack l D him U (fun _ => ⟨rfl, rfl⟩) (fun k hk e => absurd e (no k hk)) (fun k hk e => absurd e (no k hk)) trivial, fun h1 sz1 e => ?_⟩
    subst e
    refine ⟨ms_o M, ?_⟩
    obtain ⟨ro, fr, ch, ov, M1⟩ := M
    exact c_goBack l D M1 (fun _ => ⟨rfl, ⟨_, _, _, _, _, _, _, _, _, _, _, _, _, _, _, _, _, _, ⟨_, _, _, _, _, U⟩, ⟨_, _, _, _, _, _, _, _, _, _, _, M1⟩, V0⟩⟩) (fun k hk e => absurd e (no k hk)) (fun k hk e => absurd e (no k hk)) trivial
/-- where the class's course of draws stands, with a state of the reference alike -/
theorem CT_ex {ab be : Nat → Int32} {kp : Int32} {t0 : dT} {st de : Nat → Int32} {d s : Nat} (J : JR ab be t0 st de d s) : ∀ j, ∃ t, CT ab be kp t0 j t ∧ ∃ st de d s, JR ab be t st de d s
  | 0 => ⟨t0, rfl, st, de, d, s, J⟩
  | j + 1 => by
    obtain ⟨t, c1, st1, de1, d1, s1, J1⟩ := CT_ex (kp := kp) J j
    obtain ⟨-, n, s1', s2, s3, s4, f1, f2, d3, d4, F, Rw, Cw, t1, -, -, -, -, -, -, -, -, -, -, -, -, -, e13, e14⟩ := JR_step (kp := kp) J1
    obtain ⟨res, -, J2⟩ := e14 (fun _ => 0)
    exact ⟨t1, ⟨t, c1, e13⟩, _, _, _, _, J2⟩
theorem j_drift (R : ReH dA h b) : JC Value.int l D dA b h sz yX4_drift wsX4_drift 6 148 yX5_drift wsX5_drift 7 171 [.int v] := by
  obtain ⟨tx, ln, fa, sc, ab, be, n, s, im, ss, mx, ct, so, st, de, ir, se, kp, ⟨x, pl, rd, kq, ot, U⟩, ⟨q1, q2, q3, q4, q5, q6, q7, M⟩, V⟩ := R
  have V0 := V
  obtain ⟨v1, v2, v3, v4, v5, v6, v7⟩ := V
  have J0 : JR ab be (rd, sc, n, nI s, ss, mx, ct, so) st de ct s := ⟨v3, v4, v5, rfl, rfl, v6⟩
  have stp : ∀ (j : Nat) (t : dT), (CT ab be kq (rd, sc, n, nI s, ss, mx, ct, so) j t ∧ ∃ st de d s, JR ab be t st de d s) → dnI t ∧ ∀ t1, dnC ab be kq t t1 → (CT ab be kq (rd, sc, n, nI s, ss, mx, ct, so) (j + 1) t1 ∧ ∃ st de d s, JR ab be t1 st de d s) := fun j t ⟨c1, st1, de1, d1, s1, J1⟩ => by
    obtain ⟨e0, n, s1', s2, s3, s4, f1, f2, d3, d4, F, Rw, Cw, t2, -, -, -, -, -, -, -, -, -, -, -, -, -, e13, e14⟩ := JR_step (kp := kq) J1
    refine ⟨e0, fun t1 h1 => ?_⟩
    obtain ⟨res, -, J2⟩ := e14 (fun _ => 0)
    have := dnC_u h1 e13
    subst this
    exact ⟨⟨t, c1, h1⟩, _, _, _, _, J2⟩

  by_cases c : nI 1 ≤ v ∧ v ≤ nI 20
  · obtain ⟨u, u1, u20, rfl⟩ := in_nat2 (by omega) (by decide) c
    obtain ⟨tu, cu, -⟩ := CT_ex (kp := kq) J0 u
    refine ⟨nI tu.2.2.1, fun h1 => Uv dA h1 b tx ln fa x pl tu.1 (tu.2.1, ab, be, nI tu.2.2.1, tu.2.2.2.1, kq) im tu.2.2.2.2.1 tu.2.2.2.2.2.1 tu.2.2.2.2.2.2.1 tu.2.2.2.2.2.2.2 ot ∧ xF b (b + 279) h h1, c_X4_drift (t0 := (rd, sc, n, nI s, ss, mx, ct, so)) (P := fun j t => CT ab be kq (rd, sc, n, nI s, ss, mx, ct, so) j t ∧ ∃ st de d s, JR ab be t st de d s) l D ⟨rfl, _, _, _, _, J0⟩ (fun _ _ _ _ j t _ q => stp j t q) U (fun q => absurd c q) (fun u2 _ hu2 e t1 h1 sz1 q U1 F1 => ?_) trivial, fun h1 sz1 e => ?_⟩
    · have := nI_inj (by omega) (by omega) e
      subst this
      have := CT_u q.1 cu
      subst this
      exact ⟨rfl, U1, F1⟩
    · obtain ⟨U1, F1⟩ := e
      have M2 := ms_fo M F1 (by omega)
      refine ⟨ms_o M2, c_drift (P := fun i st8 de8 d8 s8 _ => ∃ t, CT ab be kq (rd, sc, n, nI s, ss, mx, ct, so) i t ∧ JR ab be t st8 de8 d8 s8) l D ⟨_, rfl, J0⟩ (fun _ _ _ _ i st2 de2 d2 s2 po2 _ q => ?_) M2 (fun q => absurd c q) (fun u2 _ hu2 e st2 de2 d2 s2 po2 h2 sz2 q M3 F2 => ?_) trivial⟩
      · obtain ⟨t, c1, J1⟩ := q
        obtain ⟨-, n3, s1', s2', s3', s4', f1, f2, d3, d4, F, Rw, Cw, t2, a1, a2, a3, a4, a5, a6, a7, a8, a9, a10, a11, a12, a13, e13, e14⟩ := JR_step (kp := kq) J1
        obtain ⟨res, r1, J2⟩ := e14 po2
        exact ⟨n3, F, Rw, Cw, res, s1', s2', s3', s4', f1, f2, d3, d4, a1, a2, a3, a4, a5, a6, a7, a8, a9, a10, a11, a12, a13, r1, t2, ⟨t, c1, e13⟩, J2⟩
      · have := nI_inj (by omega) (by omega) e
        subst this
        obtain ⟨t, c1, J1⟩ := q
        have := CT_u c1 cu
        subst this
        obtain ⟨k1, k2, k3, k4, k5, k6⟩ := J1
        refine ⟨by rw [k1.1], ⟨_, _, _, _, _, _, _, s2, _, _, _, _, _, _, _, _, _, _, ⟨_, _, _, _, _, by rw [← k5]; exact uv_fo U1 F2 (by omega)⟩, ⟨_, _, _, _, _, _, _, by rw [← k4]; exact M3⟩, ⟨v1, v2, k1, k2, by rw [← k4]; exact k3, k6, v7⟩⟩⟩
  · have no : ∀ k, 1 ≤ k → k ≤ 20 → ¬ v = nI k := fun k k1 hk e => c (by
      rw [e]
      exact no_in k1 hk (by decide))
    refine ⟨-1000000002, fun h1 => h = h1, c_X4_drift (t0 := (rd, sc, n, nI s, ss, mx, ct, so)) (P := fun _ _ => True) l D trivial (fun u k1 hk e => absurd e (no u k1 hk)) U (fun _ => ⟨rfl, rfl⟩) (fun u k1 hk e => absurd e (no u k1 hk)) trivial, fun h1 sz1 e => ?_⟩
    subst e
    exact ⟨ms_o M, c_drift (P := fun _ _ _ _ _ _ => True) l D trivial (fun u k1 hk e => absurd e (no u k1 hk)) M (fun _ => ⟨rfl, ⟨_, _, _, _, _, _, _, _, _, _, _, _, _, _, _, _, _, _, ⟨_, _, _, _, _, U⟩, ⟨_, _, _, _, _, _, _, M⟩, V0⟩⟩) (fun u k1 hk e => absurd e (no u k1 hk)) trivial⟩
end
