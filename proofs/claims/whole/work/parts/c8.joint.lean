/-! ## Calls on both objects: those that read THE TEXT -/
section
variable {l : Launch} {D : va_G} {dA : Nat → ClassId} {b : Nat} {h : xH} {sz : Nat} {v w z : Int32}
theorem j_say (R : ReH dA h b) : JC Value.int l D dA b h sz yX4_say wsX4_say 6 158 yX5_say wsX5_say 6 148 [] := by
  obtain ⟨tx, ln, fa, sc, ab, be, n, s, im, ss, mx, ct, so, st, de, ir, se, kp, ⟨x, pl, rd, kq, ot, U⟩, ⟨q1, q2, q3, q4, q5, q6, q7, M⟩, v1, v2, v3, v4, v5, v6, v7⟩ := R
  obtain ⟨F, S, hh, X, hZ, hA⟩ := al_ans v3
  obtain ⟨g, c9, p9, w9, po9, em, E⟩ := read_eq v1 v2 true q4 q5 q6 q7 x rd
  rw [if_pos rfl] at E
  generalize eW : rd_l po9 (rd_w w9 c9) 10 = W at E
  obtain ⟨E1, E2, E3, E4⟩ := E
  have s6 := al_le v3 v4
  by_cases c : W = 0
  · have P := E4 c
    have r0 : (rt tx ln x (nI 1)).1 = 0 := by rw [E2, c]
    have hB := al_may v3 hZ v4 P
    by_cases d : n = 6
    · refine ⟨-1000000004, fun h1 => Uv dA h1 b tx 0 (rt_p (rt tx ln x (nI 1))) ((rt tx ln x (nI 1)).2.2) (rt_p (rt tx ln x (nI 1))) (rt_d ((rt tx ln x (nI 1)).2.2.1 0) rd 10) (sc, ab, be, nI n, nI s, kq) im ss mx ct so ot ∧ xF b (b + 279) h h1, c_X4_say l D v1 v3.2.1 s6 v5.2.1 v5.1 U (fun q => absurd r0 q) (fun _ _ h1 sz1 U1 F1 => ⟨rfl, U1, F1⟩) (fun _ q => by omega) (fun _ q => by omega) trivial, fun h1 sz1 e => ?_⟩
      obtain ⟨U1, F1⟩ := e
      have M2 := ms_fo M F1 (by omega)
      exact ⟨ms_o M2, c_say (res := ag_u (rt_d ((rt tx ln x (nI 1)).2.2.1 0) rd 10) so) l D v1 em eW E1 v3.1 v3.2.1 hA v5.1 (fun _ _ => hB) M2 (fun q => absurd c q) (fun _ _ h2 sz2 pl9 wr9 dp9 su9 wa9 fc9 M3 F2 => ⟨rfl, ⟨_, _, _, _, _, _, _, _, _, _, _, _, _, _, _, _, _, _, ⟨_, _, _, _, _, uv_fo U1 F2 (by omega)⟩, ⟨_, _, _, _, _, _, _, by rw [E3]; exact M3⟩, ⟨by omega, fun i hi => by omega, v3, v4, v5, v6, v7⟩⟩⟩) (fun _ q => by omega) (fun _ q => by omega) trivial⟩
    · have n6 : n < 6 := by
        have := v3.2.1
        omega
      by_cases a : ag_u (rt_d ((rt tx ln x (nI 1)).2.2.1 0) rd 10) so = true
      · obtain ⟨w1, w2⟩ := StR_say v3 v4 P n6 a
        obtain ⟨D1, D2⟩ := DeR_nt (n := n) (st := st) (t := (sc, ab, be, nI n, nI s, kq)) v5 ⟨v3, rfl⟩
        refine ⟨nI (n + 1), fun h1 => Uv dA h1 b tx 0 (rt_p (rt tx ln x (nI 1))) ((rt tx ln x (nI 1)).2.2) (rt_p (rt tx ln x (nI 1))) (rt_d ((rt tx ln x (nI 1)).2.2.1 0) rd 10) ((fun i => if i = n then va_cpy (rt_d ((rt tx ln x (nI 1)).2.2.1 0) rd 10) (sc n) 0 0 10 else sc i), ab, be, nI (n + 1), nI s, kq) im (nt_s ss mx (sc, ab, be, nI n, nI s, kq)) ((mx + 1) % 20) (nt_c ct) (su (rt_d ((rt tx ln x (nI 1)).2.2.1 0) rd 10) (sw_u2 (rt_d ((rt tx ln x (nI 1)).2.2.1 0) rd 10) so)) ot ∧ xF b (b + 279) h h1, c_X4_say l D v1 v3.2.1 s6 v5.2.1 v5.1 U (fun q => absurd r0 q) (fun _ q => absurd q d) (fun _ _ q => absurd a q) (fun _ _ _ h1 sz1 U1 F1 => ⟨rfl, U1, F1⟩) trivial, fun h1 sz1 e => ?_⟩
        obtain ⟨U1, F1⟩ := e
        have M2 := ms_fo M F1 (by omega)
        exact ⟨ms_o M2, c_say (res := ag_u (rt_d ((rt tx ln x (nI 1)).2.2.1 0) rd 10) so) l D v1 em eW E1 v3.1 v3.2.1 hA v5.1 (fun _ _ => hB) M2 (fun q => absurd c q) (fun _ q => absurd q d) (fun _ _ q => absurd a q) (fun _ _ _ h2 sz2 pl9 wr9 dp9 su9 wa9 fc9 M3 F2 => ⟨rfl, ⟨_, _, _, _, _, _, _, _, _, _, _, _, _, _, _, _, _, _, ⟨_, _, _, _, _, uv_fo U1 F2 (by omega)⟩, ⟨_, _, _, _, _, _, _, by rw [E3, ← D2]; exact M3⟩, ⟨by omega, fun i hi => by omega, w1, w2, by rw [← D2]; exact D1, v6, v7⟩⟩⟩) trivial⟩
      · refine ⟨-1000000003, fun h1 => Uv dA h1 b tx 0 (rt_p (rt tx ln x (nI 1))) ((rt tx ln x (nI 1)).2.2) (rt_p (rt tx ln x (nI 1))) (rt_d ((rt tx ln x (nI 1)).2.2.1 0) rd 10) (sc, ab, be, nI n, nI s, kq) im ss mx ct (sw_u2 (rt_d ((rt tx ln x (nI 1)).2.2.1 0) rd 10) so) ot ∧ xF b (b + 279) h h1, c_X4_say l D v1 v3.2.1 s6 v5.2.1 v5.1 U (fun q => absurd r0 q) (fun _ q => absurd q d) (fun _ _ _ h1 sz1 U1 F1 => ⟨rfl, U1, F1⟩) (fun _ _ q => absurd q a) trivial, fun h1 sz1 e => ?_⟩
        obtain ⟨U1, F1⟩ := e
        have M2 := ms_fo M F1 (by omega)
        exact ⟨ms_o M2, c_say (res := ag_u (rt_d ((rt tx ln x (nI 1)).2.2.1 0) rd 10) so) l D v1 em eW E1 v3.1 v3.2.1 hA v5.1 (fun _ _ => hB) M2 (fun q => absurd c q) (fun _ q => absurd q d) (fun _ _ _ h2 sz2 pl9 wr9 dp9 su9 wa9 fc9 M3 F2 => ⟨rfl, ⟨_, _, _, _, _, _, _, _, _, _, _, _, _, _, _, _, _, _, ⟨_, _, _, _, _, uv_fo U1 F2 (by omega)⟩, ⟨_, _, _, _, _, _, _, by rw [E3]; exact M3⟩, ⟨by omega, fun i hi => by omega, v3, sw_N v4, v5, v6, v7⟩⟩⟩) (fun _ _ q => absurd q a) trivial⟩
  · have r0 : ¬ (rt tx ln x (nI 1)).1 = 0 := by rw [E2]; exact c
    refine ⟨(-10) - nI W, fun h1 => Uv dA h1 b tx 0 (rt_p (rt tx ln x (nI 1))) ((rt tx ln x (nI 1)).2.2) (rt_p (rt tx ln x (nI 1))) rd (sc, ab, be, nI n, nI s, kq) im ss mx ct so ot ∧ xF b (b + 279) h h1, c_X4_say l D v1 v3.2.1 s6 v5.2.1 v5.1 U (fun _ h1 sz1 U1 F1 => ⟨by rw [E2], U1, F1⟩) (fun q => absurd q r0) (fun q => absurd q r0) (fun q => absurd q r0) trivial, fun h1 sz1 e => ?_⟩
    obtain ⟨U1, F1⟩ := e
    have M2 := ms_fo M F1 (by omega)
    exact ⟨ms_o M2, c_say (res := true) l D v1 em eW E1 v3.1 v3.2.1 hA v5.1 (fun q => absurd q c) M2 (fun _ h2 sz2 pl9 wr9 dp9 su9 wa9 fc9 M3 F2 => ⟨rfl, ⟨_, _, _, _, _, _, _, _, _, _, _, _, _, _, _, _, _, _, ⟨_, _, _, _, _, uv_fo U1 F2 (by omega)⟩, ⟨_, _, _, _, _, _, _, by rw [E3]; exact M3⟩, ⟨by omega, fun i hi => by omega, v3, v4, v5, v6, v7⟩⟩⟩) (fun q => absurd q c) (fun q => absurd q c) (fun q => absurd q c) trivial⟩
theorem j_follows (R : ReH dA h b) : JC Value.int l D dA b h sz yX4_follows wsX4_follows 6 158 yX5_follows wsX5_follows 5 127 [] := by
  obtain ⟨tx, ln, fa, sc, ab, be, n, s, im, ss, mx, ct, so, st, de, ir, se, kp, ⟨x, pl, rd, kq, ot, U⟩, ⟨q1, q2, q3, q4, q5, q6, q7, M⟩, v1, v2, v3, v4, v5, v6, v7⟩ := R
  obtain ⟨F, S, hh, X, hZ, hA⟩ := al_ans v3
  obtain ⟨g, c9, p9, w9, po9, em, E⟩ := read_eq v1 v2 true q4 q5 q6 q7 x rd
  rw [if_pos rfl] at E
  generalize eW : rd_l po9 (rd_w w9 c9) 10 = W at E
  obtain ⟨E1, E2, E3, E4⟩ := E
  have s6 := al_le v3 v4
  by_cases c : W = 0
  · have P := E4 c
    have r0 : (rt tx ln x (nI 1)).1 = 0 := by rw [E2, c]
    refine ⟨x_b (im_u (rt_d ((rt tx ln x (nI 1)).2.2.1 0) rd 10) so = true), fun h1 => Uv dA h1 b tx 0 (rt_p (rt tx ln x (nI 1))) ((rt tx ln x (nI 1)).2.2) (rt_p (rt tx ln x (nI 1))) (rt_d ((rt tx ln x (nI 1)).2.2.1 0) rd 10) (sc, ab, be, nI n, nI s, kq) im ss mx ct (sw_u2 (rt_d ((rt tx ln x (nI 1)).2.2.1 0) rd 10) so) ot ∧ xF b (b + 279) h h1, c_X4_follows l D v1 s6 U (fun q => absurd r0 q) (fun _ h1 sz1 U1 F1 => ⟨rfl, U1, F1⟩) trivial, fun h1 sz1 e => ?_⟩
    obtain ⟨U1, F1⟩ := e
    have M2 := ms_fo M F1 (by omega)
    exact ⟨ms_o M2, c_follows l D v1 em eW E1 v3.1 v3.2.1 hA M2 (fun q => absurd c q) (fun _ h2 sz2 pl9 wr9 dp9 su9 wa9 fc9 M3 F2 => ⟨by rw [al_tr v3 hZ v4 P], ⟨_, _, _, _, _, _, _, _, _, _, _, _, _, _, _, _, _, _, ⟨_, _, _, _, _, uv_fo U1 F2 (by omega)⟩, ⟨_, _, _, _, _, _, _, by rw [E3]; exact M3⟩, ⟨by omega, fun i hi => by omega, v3, sw_N v4, v5, v6, v7⟩⟩⟩) trivial⟩
  · have r0 : ¬ (rt tx ln x (nI 1)).1 = 0 := by rw [E2]; exact c
    refine ⟨(-10) - nI W, fun h1 => Uv dA h1 b tx 0 (rt_p (rt tx ln x (nI 1))) ((rt tx ln x (nI 1)).2.2) (rt_p (rt tx ln x (nI 1))) rd (sc, ab, be, nI n, nI s, kq) im ss mx ct so ot ∧ xF b (b + 279) h h1, c_X4_follows l D v1 s6 U (fun _ h1 sz1 U1 F1 => ⟨by rw [E2], U1, F1⟩) (fun q => absurd q r0) trivial, fun h1 sz1 e => ?_⟩
    obtain ⟨U1, F1⟩ := e
    have M2 := ms_fo M F1 (by omega)
    exact ⟨ms_o M2, c_follows l D v1 em eW E1 v3.1 v3.2.1 hA M2 (fun _ h2 sz2 pl9 wr9 dp9 su9 wa9 fc9 M3 F2 => ⟨rfl, ⟨_, _, _, _, _, _, _, _, _, _, _, _, _, _, _, _, _, _, ⟨_, _, _, _, _, uv_fo U1 F2 (by omega)⟩, ⟨_, _, _, _, _, _, _, by rw [E3]; exact M3⟩, ⟨by omega, fun i hi => by omega, v3, v4, v5, v6, v7⟩⟩⟩) (fun q => absurd q c) trivial⟩
theorem j_couldBe (R : ReH dA h b) : JC Value.int l D dA b h sz yX4_couldBe wsX4_couldBe 6 158 yX5_couldBe wsX5_couldBe 6 148 [] := by
  obtain ⟨tx, ln, fa, sc, ab, be, n, s, im, ss, mx, ct, so, st, de, ir, se, kp, ⟨x, pl, rd, kq, ot, U⟩, ⟨q1, q2, q3, q4, q5, q6, q7, M⟩, v1, v2, v3, v4, v5, v6, v7⟩ := R
  obtain ⟨F, S, hh, X, hZ, hA⟩ := al_ans v3
  obtain ⟨g, c9, p9, w9, po9, em, E⟩ := read_eq v1 v2 true q4 q5 q6 q7 x rd
  rw [if_pos rfl] at E
  generalize eW : rd_l po9 (rd_w w9 c9) 10 = W at E
  obtain ⟨E1, E2, E3, E4⟩ := E
  have s6 := al_le v3 v4
  by_cases c : W = 0
  · have P := E4 c
    have r0 : (rt tx ln x (nI 1)).1 = 0 := by rw [E2, c]
    refine ⟨x_b (ag_u (rt_d ((rt tx ln x (nI 1)).2.2.1 0) rd 10) so = true), fun h1 => Uv dA h1 b tx 0 (rt_p (rt tx ln x (nI 1))) ((rt tx ln x (nI 1)).2.2) (rt_p (rt tx ln x (nI 1))) (rt_d ((rt tx ln x (nI 1)).2.2.1 0) rd 10) (sc, ab, be, nI n, nI s, kq) im ss mx ct (sw_u2 (rt_d ((rt tx ln x (nI 1)).2.2.1 0) rd 10) so) ot ∧ xF b (b + 279) h h1, c_X4_couldBe l D v1 s6 U (fun q => absurd r0 q) (fun _ h1 sz1 U1 F1 => ⟨rfl, U1, F1⟩) trivial, fun h1 sz1 e => ?_⟩
    obtain ⟨U1, F1⟩ := e
    have M2 := ms_fo M F1 (by omega)
    exact ⟨ms_o M2, c_couldBe (res := ag_u (rt_d ((rt tx ln x (nI 1)).2.2.1 0) rd 10) so) l D v1 em eW E1 v3.1 v3.2.1 hA (fun _ => al_may v3 hZ v4 P) M2 (fun q => absurd c q) (fun _ h2 sz2 pl9 wr9 dp9 su9 wa9 fc9 M3 F2 => ⟨rfl, ⟨_, _, _, _, _, _, _, _, _, _, _, _, _, _, _, _, _, _, ⟨_, _, _, _, _, uv_fo U1 F2 (by omega)⟩, ⟨_, _, _, _, _, _, _, by rw [E3]; exact M3⟩, ⟨by omega, fun i hi => by omega, v3, sw_N v4, v5, v6, v7⟩⟩⟩) trivial⟩
  · have r0 : ¬ (rt tx ln x (nI 1)).1 = 0 := by rw [E2]; exact c
    refine ⟨(-10) - nI W, fun h1 => Uv dA h1 b tx 0 (rt_p (rt tx ln x (nI 1))) ((rt tx ln x (nI 1)).2.2) (rt_p (rt tx ln x (nI 1))) rd (sc, ab, be, nI n, nI s, kq) im ss mx ct so ot ∧ xF b (b + 279) h h1, c_X4_couldBe l D v1 s6 U (fun _ h1 sz1 U1 F1 => ⟨by rw [E2], U1, F1⟩) (fun q => absurd q r0) trivial, fun h1 sz1 e => ?_⟩
    obtain ⟨U1, F1⟩ := e
    have M2 := ms_fo M F1 (by omega)
    exact ⟨ms_o M2, c_couldBe (res := true) l D v1 em eW E1 v3.1 v3.2.1 hA (fun q => absurd q c) M2 (fun _ h2 sz2 pl9 wr9 dp9 su9 wa9 fc9 M3 F2 => ⟨rfl, ⟨_, _, _, _, _, _, _, _, _, _, _, _, _, _, _, _, _, _, ⟨_, _, _, _, _, uv_fo U1 F2 (by omega)⟩, ⟨_, _, _, _, _, _, _, by rw [E3]; exact M3⟩, ⟨by omega, fun i hi => by omega, v3, v4, v5, v6, v7⟩⟩⟩) (fun q => absurd q c) trivial⟩
theorem no_in {k lo hi : Nat} (h1 : lo ≤ k) (h2 : k ≤ hi) (hh : hi < 2 ^ 31) : nI lo ≤ nI k ∧ nI k ≤ nI hi := by
  constructor <;> rw [Int32.le_iff_toInt_le, nI_toInt (by omega), nI_toInt (by omega)] <;> omega
theorem j_measured (R : ReH dA h b) : JC Value.long l D dA b h sz yX4_measured wsX4_measured 6 158 yX5_measured wsX5_measured 5 127 [.int v] := by
  obtain ⟨tx, ln, fa, sc, ab, be, n, s, im, ss, mx, ct, so, st, de, ir, se, kp, ⟨x, pl, rd, kq, ot, U⟩, ⟨q1, q2, q3, q4, q5, q6, q7, M⟩, V⟩ := R
  have V0 := V
  obtain ⟨v1, v2, v3, v4, v5, v6, v7⟩ := V
  obtain ⟨F, S, hh, X, hZ, hA⟩ := al_ans v3
  obtain ⟨g, c9, p9, w9, po9, em, E⟩ := read_eq v1 v2 false q4 q5 q6 q7 x rd
  rw [if_neg (by decide)] at E
  generalize eW : rd_l po9 (rd_w w9 c9) 10 = W at E
  obtain ⟨E1, E2, E3, E4⟩ := E
  have s6 := al_le v3 v4
  by_cases r : nI 0 ≤ v ∧ v ≤ nI 9
  · obtain ⟨k, -, k9, rfl⟩ := in_nat2 (by omega) (by decide) r
    by_cases c : W = 0
    · have P := E4 c
      have r0 : (rt tx ln x (nI 0)).1 = 0 := by rw [E2, c]
      refine ⟨msC (rt_d ((rt tx ln x (nI 0)).2.2.1 0) rd 10) so k, fun h1 => Uv dA h1 b tx 0 (rt_p (rt tx ln x (nI 0))) ((rt tx ln x (nI 0)).2.2) (rt_p (rt tx ln x (nI 0))) (rt_d ((rt tx ln x (nI 0)).2.2.1 0) rd 10) (sc, ab, be, nI n, nI s, kq) im ss mx ct so ot ∧ xF b (b + 279) h h1, c_X4_measured l D v1 s6 U (fun q => absurd r q) (fun w _ _ q => absurd r0 q) (fun w hw e _ h1 sz1 U1 F1 => ?_) trivial, fun h1 sz1 e => ?_⟩
      · have := nI_inj (by omega) (by omega) e
        subst this
        exact ⟨rfl, U1, F1⟩
      · obtain ⟨U1, F1⟩ := e
        have M2 := ms_fo M F1 (by omega)
        refine ⟨ms_o M2, c_measured l D v1 em eW E1 v3.1 v3.2.1 hA M2 (fun q => absurd r q) (fun w _ _ q => absurd c q) (fun w hw e _ h2 sz2 pl9 wr9 dp9 su9 wa9 fc9 M3 F2 => ?_) trivial⟩
        have := nI_inj (by omega) (by omega) e
        subst this
        exact ⟨by rw [al_ms v3 hZ v4 P hw], ⟨_, _, _, _, _, _, _, _, _, _, _, _, _, _, _, _, _, _, ⟨_, _, _, _, _, uv_fo U1 F2 (by omega)⟩, ⟨_, _, _, _, _, _, _, by rw [E3]; exact M3⟩, ⟨by omega, fun i hi => by omega, v3, v4, v5, v6, v7⟩⟩⟩
    · have r0 : ¬ (rt tx ln x (nI 0)).1 = 0 := by rw [E2]; exact c
      refine ⟨((-10) - nI W).toInt64, fun h1 => Uv dA h1 b tx 0 (rt_p (rt tx ln x (nI 0))) ((rt tx ln x (nI 0)).2.2) (rt_p (rt tx ln x (nI 0))) rd (sc, ab, be, nI n, nI s, kq) im ss mx ct so ot ∧ xF b (b + 279) h h1, c_X4_measured l D v1 s6 U (fun q => absurd r q) (fun w _ _ _ h1 sz1 U1 F1 => ⟨by rw [E2], U1, F1⟩) (fun w _ _ q => absurd q r0) trivial, fun h1 sz1 e => ?_⟩
      obtain ⟨U1, F1⟩ := e
      have M2 := ms_fo M F1 (by omega)
      exact ⟨ms_o M2, c_measured l D v1 em eW E1 v3.1 v3.2.1 hA M2 (fun q => absurd r q) (fun w _ _ _ h2 sz2 pl9 wr9 dp9 su9 wa9 fc9 M3 F2 => ⟨rfl, ⟨_, _, _, _, _, _, _, _, _, _, _, _, _, _, _, _, _, _, ⟨_, _, _, _, _, uv_fo U1 F2 (by omega)⟩, ⟨_, _, _, _, _, _, _, by rw [E3]; exact M3⟩, ⟨by omega, fun i hi => by omega, v3, v4, v5, v6, v7⟩⟩⟩) (fun w _ _ q => absurd q c) trivial⟩
  · refine ⟨-1000000002, fun h1 => h = h1, c_X4_measured l D v1 s6 U (fun _ => ⟨rfl, rfl⟩) (fun w hw e => absurd (by rw [e]; exact no_in (Nat.zero_le _) hw (by decide)) r) (fun w hw e => absurd (by rw [e]; exact no_in (Nat.zero_le _) hw (by decide)) r) trivial, fun h1 sz1 e => ?_⟩
    subst e
    exact ⟨ms_o M, c_measured l D v1 em eW E1 v3.1 v3.2.1 hA M (fun _ => ⟨rfl, ⟨_, _, _, _, _, _, _, _, _, _, _, _, _, _, _, _, _, _, ⟨_, _, _, _, _, U⟩, ⟨_, _, _, _, _, _, _, M⟩, V0⟩⟩) (fun w hw e => absurd (by rw [e]; exact no_in (Nat.zero_le _) hw (by decide)) r) (fun w hw e => absurd (by rw [e]; exact no_in (Nat.zero_le _) hw (by decide)) r) trivial⟩
theorem j_converted (R : ReH dA h b) : JC Value.long l D dA b h sz yX4_converted wsX4_converted 6 158 yX5_converted wsX5_converted 5 127 [.int v, .int w] := by
  obtain ⟨tx, ln, fa, sc, ab, be, n, s, im, ss, mx, ct, so, st, de, ir, se, kp, ⟨x, pl, rd, kq, ot, U⟩, ⟨q1, q2, q3, q4, q5, q6, q7, M⟩, V⟩ := R
  have V0 := V
  obtain ⟨v1, v2, v3, v4, v5, v6, v7⟩ := V
  obtain ⟨g, c9, p9, w9, po9, em, E⟩ := read_eq v1 v2 false q4 q5 q6 q7 x rd
  rw [if_neg (by decide)] at E
  generalize eW : rd_l po9 (rd_w w9 c9) 10 = W at E
  obtain ⟨E1, E2, E3, E4⟩ := E
  by_cases r : (nI 0 ≤ v ∧ v ≤ 1000000) ∧ (nI 0 ≤ w ∧ w ≤ nI 3)
  · have al := fun c : W = 0 => al_cv v3 (E4 c) r.1
    have rW : (rt tx ln x (nI 0)).1 = 0 → W = 0 := fun q => by rw [← E2, q]
    obtain ⟨k, -, k3, ek⟩ := in_nat2 (by omega) (by decide) r.2
    have hDc : (rt tx ln x (nI 0)).1 = 0 → cc_q (rt_d ((rt tx ln x (nI 0)).2.2.1 0) rd 10) → 0 < (sp_a (rt_d ((rt tx ln x (nI 0)).2.2.1 0) rd 10) ab be (nI 0) (mu_f (rt_d ((rt tx ln x (nI 0)).2.2.1 0) rd 10)) 4) := fun q cq => ((al (rW q)).2 cq).2.1
    have hDr : W = 0 → ∀ u, cv st po9 v.toInt64 1 10 = some u → ¬ u.2 = 0 := fun q u hu => by
      by_cases cq : cc_q (rt_d ((rt tx ln x (nI 0)).2.2.1 0) rd 10)
      · obtain ⟨e1, -, e3, -⟩ := (al q).2 cq
        rw [e1] at hu
        cases hu
        exact e3
      · rw [(al q).1 cq] at hu
        cases hu
    by_cases c : W = 0
    · have r0 : (rt tx ln x (nI 0)).1 = 0 := by rw [E2, c]
      obtain ⟨a1, a2⟩ := al c
      by_cases cq : cc_q (rt_d ((rt tx ln x (nI 0)).2.2.1 0) rd 10)
      · obtain ⟨e1, e2, e3, e4⟩ := a2 cq
        have ff := e4 k k3
        refine ⟨r_mw (v.toInt64 * sp_a (rt_d ((rt tx ln x (nI 0)).2.2.1 0) rd 10) ab be (nI 1) (mu_f (rt_d ((rt tx ln x (nI 0)).2.2.1 0) rd 10)) 4) (sp_a (rt_d ((rt tx ln x (nI 0)).2.2.1 0) rd 10) ab be (nI 0) (mu_f (rt_d ((rt tx ln x (nI 0)).2.2.1 0) rd 10)) 4) w, fun h1 => Uv dA h1 b tx 0 (rt_p (rt tx ln x (nI 0))) ((rt tx ln x (nI 0)).2.2) (rt_p (rt tx ln x (nI 0))) (rt_d ((rt tx ln x (nI 0)).2.2.1 0) rd 10) (sc, ab, be, nI n, nI s, kq) im ss mx ct so ot ∧ xF b (b + 279) h h1, c_X4_converted l D v1 hDc U (fun q => absurd r q) (fun _ q => absurd r0 q) (fun _ _ q => absurd cq q) (fun w2 hw2 e _ _ _ q h1 sz1 U1 F1 => ?_) (fun w2 hw2 e _ _ _ q h1 sz1 U1 F1 => ?_) trivial, fun h1 sz1 e => ?_⟩
        · have : w2 = k := nI_inj (by omega) (by omega) (by rw [← e, ek])
          subst this
          exact ⟨by rw [ek, ff.1 q], U1, F1⟩
        · have : w2 = k := nI_inj (by omega) (by omega) (by rw [← e, ek])
          subst this
          exact ⟨by rw [ek, ff.2 q], U1, F1⟩
        · obtain ⟨U1, F1⟩ := e
          have M2 := ms_fo M F1 (by omega)
          refine ⟨ms_o M2, c_converted l D v1 em eW E1 hDr M2 (fun q => absurd r q) (fun _ q => absurd c q) (fun _ _ q => by rw [e1] at q; cases q) (fun _ _ u hu h2 sz2 pl9 wr9 dp9 su9 wa9 fc9 M3 F2 => ?_) trivial⟩
          rw [e1] at hu
          cases hu
          exact ⟨rfl, ⟨_, _, _, _, _, _, _, _, _, _, _, _, _, _, _, _, _, _, ⟨_, _, _, _, _, uv_fo U1 F2 (by omega)⟩, ⟨_, _, _, _, _, _, _, by rw [E3]; exact M3⟩, ⟨by omega, fun i hi => by omega, v3, v4, v5, v6, v7⟩⟩⟩
      · refine ⟨-1000000003, fun h1 => Uv dA h1 b tx 0 (rt_p (rt tx ln x (nI 0))) ((rt tx ln x (nI 0)).2.2) (rt_p (rt tx ln x (nI 0))) (rt_d ((rt tx ln x (nI 0)).2.2.1 0) rd 10) (sc, ab, be, nI n, nI s, kq) im ss mx ct so ot ∧ xF b (b + 279) h h1, c_X4_converted l D v1 hDc U (fun q => absurd r q) (fun _ q => absurd r0 q) (fun _ _ _ h1 sz1 U1 F1 => ⟨rfl, U1, F1⟩) (fun _ _ _ _ _ q => absurd q cq) (fun _ _ _ _ _ q => absurd q cq) trivial, fun h1 sz1 e => ?_⟩
        obtain ⟨U1, F1⟩ := e
        have M2 := ms_fo M F1 (by omega)
        exact ⟨ms_o M2, c_converted l D v1 em eW E1 hDr M2 (fun q => absurd r q) (fun _ q => absurd c q) (fun _ _ _ h2 sz2 pl9 wr9 dp9 su9 wa9 fc9 M3 F2 => ⟨rfl, ⟨_, _, _, _, _, _, _, _, _, _, _, _, _, _, _, _, _, _, ⟨_, _, _, _, _, uv_fo U1 F2 (by omega)⟩, ⟨_, _, _, _, _, _, _, by rw [E3]; exact M3⟩, ⟨by omega, fun i hi => by omega, v3, v4, v5, v6, v7⟩⟩⟩) (fun _ _ u hu => by rw [a1 cq] at hu; cases hu) trivial⟩
    · have r0 : ¬ (rt tx ln x (nI 0)).1 = 0 := by rw [E2]; exact c
      refine ⟨((-10) - nI W).toInt64, fun h1 => Uv dA h1 b tx 0 (rt_p (rt tx ln x (nI 0))) ((rt tx ln x (nI 0)).2.2) (rt_p (rt tx ln x (nI 0))) rd (sc, ab, be, nI n, nI s, kq) im ss mx ct so ot ∧ xF b (b + 279) h h1, c_X4_converted l D v1 hDc U (fun q => absurd r q) (fun _ _ h1 sz1 U1 F1 => ⟨by rw [E2], U1, F1⟩) (fun _ q => absurd q r0) (fun _ _ _ _ q => absurd q r0) (fun _ _ _ _ q => absurd q r0) trivial, fun h1 sz1 e => ?_⟩
      obtain ⟨U1, F1⟩ := e
      have M2 := ms_fo M F1 (by omega)
      exact ⟨ms_o M2, c_converted l D v1 em eW E1 hDr M2 (fun q => absurd r q) (fun _ _ h2 sz2 pl9 wr9 dp9 su9 wa9 fc9 M3 F2 => ⟨rfl, ⟨_, _, _, _, _, _, _, _, _, _, _, _, _, _, _, _, _, _, ⟨_, _, _, _, _, uv_fo U1 F2 (by omega)⟩, ⟨_, _, _, _, _, _, _, by rw [E3]; exact M3⟩, ⟨by omega, fun i hi => by omega, v3, v4, v5, v6, v7⟩⟩⟩) (fun _ q => absurd q c) (fun _ q => absurd q c) trivial⟩
  · have rv : ∀ c : W = 0, ∀ cq : cc_q (rt_d ((rt tx ln x (nI 0)).2.2.1 0) rd 10), 0 < (sp_a (rt_d ((rt tx ln x (nI 0)).2.2.1 0) rd 10) ab be (nI 0) (mu_f (rt_d ((rt tx ln x (nI 0)).2.2.1 0) rd 10)) 4) := fun c cq => ((al_cv (v := nI 0) v3 (E4 c) ⟨by decide, by decide⟩).2 cq).2.1
    have hDc : (rt tx ln x (nI 0)).1 = 0 → cc_q (rt_d ((rt tx ln x (nI 0)).2.2.1 0) rd 10) → 0 < (sp_a (rt_d ((rt tx ln x (nI 0)).2.2.1 0) rd 10) ab be (nI 0) (mu_f (rt_d ((rt tx ln x (nI 0)).2.2.1 0) rd 10)) 4) := fun q cq => rv (by rw [← E2, q]) cq
    have hDr : W = 0 → ∀ u, cv st po9 v.toInt64 1 10 = some u → ¬ u.2 = 0 := fun q u hu => by
      by_cases cq : cc_q (rt_d ((rt tx ln x (nI 0)).2.2.1 0) rd 10)
      · have hm : ∀ j, j < 4 → (rt_d ((rt tx ln x (nI 0)).2.2.1 0) rd 10 (6 + j)).toInt.natAbs = mu_f (rt_d ((rt tx ln x (nI 0)).2.2.1 0) rd 10) j := fun j hj => (mu_N (E4 q (6 + j) (by omega)).2).symm
        rw [show (10 : Nat) = 6 + 4 from rfl, cv_all (u := v.toInt64) v3 (E4 q) cq hm (Nat.le_refl 4)] at hu
        cases hu
        have := rv q cq
        intro e
        dsimp only at e
        rw [e] at this
        exact absurd this (by decide)
      · have : cv st po9 v.toInt64 1 10 = none := by
          obtain ⟨i, hi⟩ := Classical.not_forall.mp (fun y => cq ((ccq_iff (E4 q)).mpr y))
          obtain ⟨i1, i2⟩ := Classical.not_forall.mp hi
          exact cv_no i2 i1
        rw [this] at hu
        cases hu
    refine ⟨-1000000002, fun h1 => h = h1, c_X4_converted l D v1 hDc U (fun _ => ⟨rfl, rfl⟩) (fun q => absurd q r) (fun q => absurd q r) (fun _ _ _ q => absurd q r) (fun _ _ _ q => absurd q r) trivial, fun h1 sz1 e => ?_⟩
    subst e
    exact ⟨ms_o M, c_converted l D v1 em eW E1 hDr M (fun _ => ⟨rfl, ⟨_, _, _, _, _, _, _, _, _, _, _, _, _, _, _, _, _, _, ⟨_, _, _, _, _, U⟩, ⟨_, _, _, _, _, _, _, M⟩, V0⟩⟩) (fun q => absurd q r) (fun q => absurd q r) (fun q => absurd q r) trivial⟩
end
