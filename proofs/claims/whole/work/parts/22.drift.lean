theorem inX5_drift_5 : ∀ w ∈ wsX50, w ∈ wsX5_drift := by decide +kernel
/-- one drawing: what is said, kept, drawn from, read behind it -/
def dwN (P : Nat → (Nat → Int32) → (Nat → Int32) → Nat → Nat → (Nat → Int32) → Prop) (i : Nat) (st de : Nat → Int32) (d s : Nat) (po : Nat → Int32) : Prop := ∃ (n : Nat) (F : Nat → Nat) (Rw Cw : Nat → Nat → Int64) (res : Bool) (s1 s2 s3 s4 f1 f2 d3 d4 : Nat), st 0 = nI n ∧ n ≤ 6 ∧ Ans st n F Rw Cw ∧ s < 2147483648 ∧ d ≤ 20 ∧ s1 = dN s ∧ s2 = dN s1 ∧ s3 = dN s2 ∧ s4 = dN s3 ∧ f1 = s1 / 65536 % 6 ∧ f2 = s2 / 65536 % 6 ∧ d3 = s3 / 65536 % 5 ∧ d4 = s4 / 65536 % 4 ∧ (n < 6 → dw_a (dw_q (dw_z po 10) f1 f2 d3 d4) f1 f2 = true → May n F Rw Cw (dw_q (dw_z po 10) f1 f2 d3 d4) res) ∧ P (i + 1) (if (decide (n < 6) && dw_a (dw_q (dw_z po 10) f1 f2 d3 d4) f1 f2 && res) = true then sy_st st (dw_q (dw_z po 10) f1 f2 d3 d4) n else st) (nt_e de st d) (nt_d d) s4 (dw_q (dw_z po 10) f1 f2 d3 d4)
set_option maxRecDepth 100000 in
set_option maxHeartbeats 4000000 in
/-- drift -/
theorem c_drift (l : Launch) (D : va_G) {dA : Nat → ClassId} {b s9 d : Nat} {v : Int32} {P : Nat → (Nat → Int32) → (Nat → Int32) → Nat → Nat → (Nat → Int32) → Prop} {tx : Nat → Int32} {ln : Int32} {fa : Int32} {st : Nat → Int32} {de : Nat → Int32} {im : Nat → Int32} {se : Nat → Int64} {kp : Nat → Int32} {pl : Int32} {wr : Int32} {dp : Int32} {su : Nat → Int32} {wa : Nat → Int32} {fc : Nat → Int32} {po : Nat → Int32} {h : xH} {sz : Nat} {Post : Option Value → xH → Nat → Prop} (hP0 : P 0 st de d s9 po) (hst : ∀ u, 1 ≤ u → u ≤ 20 → v = nI u → ∀ (i : Nat) (st de : Nat → Int32) (d s : Nat) (po : Nat → Int32), i < u → P i st de d s po → dwN P i st de d s po) (M : MS dA h b tx ln fa st de (nI d) (lN s9) im se kp pl wr dp su wa fc po) (hp1 : ¬ (nI 1 ≤ v ∧ v ≤ nI 20) → Post (some (.int (-1000000002))) h sz) (hp2 : ∀ u, 1 ≤ u → u ≤ 20 → v = nI u → ∀ (st1 de1 : Nat → Int32) (d1 s1 : Nat) (po1 : Nat → Int32) (h1 : xH) (sz1 : Nat), P u st1 de1 d1 s1 po1 → MS dA h1 b tx ln fa st1 de1 (nI d1) (lN s1) im se kp pl wr dp su wa fc po1 → xF b (b + 14) h h1 → Post (some (.int (st1 0))) h1 sz1) (hpost : True) : xMet l yX5_drift wsX5_drift 7 171 0 0 D dA [.ref b, .int v] h sz Post := by
  refine x_open (cc := cX5_drift) (maxL := 3) (ret := (some .int)) (by decide) rfl (Nat.le_of_ble_eq_true rfl) ?_
  intro p e s m args below meth c G _
  have inX5 : ∀ w ∈ wsX50, w ∈ wsX5_drift := inX5_drift_5
  refine x_iload_n G dX5_drift_0 rfl ?_
  refine x_iconstV (v := nI 1) G dX5_drift_1 (by decide) ?_
  refine x_bipushV (v := nI 20) G dX5_drift_2 (by decide) ?_
  refine x_callS (n := 3) (rest := []) (As := [.int (v), .int (nI 1), .int (nI 20)]) G (c_in (Post := fun r7 h7 sz7 => r7 = some (.int (x_b ((nI 1) ≤ (v) ∧ (v) ≤ (nI 20)))) ∧ h = h7 ∧ sz = sz7) l D ⟨rfl, rfl, rfl⟩) gX5_drift_X5_in rfl ⟨by decide +kernel, by decide +kernel, by decide +kernel⟩ ⟨by decide, by decide⟩ dX5_drift_4 rfl rfl (Nat.le_of_ble_eq_true rfl) ⟨by decide, by decide⟩ ?_
  rintro _ _ _ ⟨rfl, rfl, rfl⟩
  try dsimp only [Option.toList, List.cons_append, List.nil_append]
  refine x_if_ne G 13 dX5_drift_7 (by decide) (fun c_7 => ?_) (fun c_7 => ?_)
  · obtain ⟨u, hu1, hu2, rfl⟩ := in_nat2 (by omega) (by decide) (x_b_n.mp c_7)
    have hst := hst u hu1 hu2 rfl
    refine x_iconstV (v := nI 0) G dX5_drift_13 (by decide) ?_
    refine x_istore_n G dX5_drift_14 (by decide) ?_
    refine x_loop (σ := (Nat → Int32) × (Nat → Int32) × Nat × Nat × (Nat → Int32)) (fun i x => [(0, .ref b), (1, .int (nI u)), (2, .int (nI i))]) u (fun i x h1 sz1 => P i x.1 x.2.1 x.2.2.1 x.2.2.2.1 x.2.2.2.2 ∧ MS dA h1 b tx ln fa x.1 x.2.1 (nI x.2.2.1) (lN x.2.2.2.1) im se kp pl wr dp su wa fc x.2.2.2.2 ∧ xF b (b + 14) h h1) ?_ ?_ 0 (st, de, d, s9, po) h sz (Nat.zero_le _) ⟨hP0, M, xF_rf⟩
    · intro i x h1 sz1 hj hI nx
      try dsimp only at hI nx ⊢
      obtain ⟨hP, ⟨ro, fr, ch, ov, M⟩, F1⟩ := hI
      obtain ⟨st1, de1, d1, s1x, po1⟩ := x
      dsimp only at hP M
      obtain ⟨n, F, Rw, Cw, res, s1, s2, s3, s4, f1, f2, d3, d4, k1, k2, k3, k4, k5, k6, k7, k8, k9, k10, k11, k12, k13, k14, k15⟩ := hst i _ _ _ _ _ hj hP
      refine x_iload_n G dX5_drift_15 rfl ?_
      refine x_iload_n G dX5_drift_16 rfl ?_
      refine x_icmp_ge G 30 dX5_drift_17 (by decide) (fun c_17 => ?_) (fun c_17 => ?_)
      · exact absurd c_17 (nI_ge hj (by omega))
      · refine x_aload_n G dX5_drift_20 rfl ?_
        refine x_callV (n := 0) (rest := []) (As := []) G (ci := 5) (c_drawn (Post := fun r7 h7 sz7 => r7 = none ∧ MS dA h7 b tx ln fa (if (decide (n < 6) && dw_a (dw_q (dw_z po1 10) f1 f2 d3 d4) f1 f2 && res) = true then sy_st st1 (dw_q (dw_z po1 10) f1 f2 d3 d4) n else st1) (nt_e de1 st1 d1) (nI (nt_d d1)) (lN s4) im se kp pl wr dp su wa fc (dw_q (dw_z po1 10) f1 f2 d3 d4) ∧ xF b (b + 14) h h7) l D k1 k2 k3 k4 k5 k6 k7 k8 k9 k10 k11 k12 k13 k14 ⟨_, _, _, _, M⟩ (fun z h7 sz7 q1 q2 => ⟨rfl, by rw [if_neg (by rw [z]; decide)]; exact q1, xF_tr F1 q2⟩) (fun z h7 sz7 q1 q2 => ⟨rfl, by rw [if_pos z]; exact q1, xF_tr F1 q2⟩) trivial) gX5_drift_X5_drawn rfl ⟨rfl, by decide +kernel, by decide +kernel, by decide +kernel⟩ ⟨by decide, by decide⟩ rfl rfl (md_o M) dX5_drift_21 rfl rfl (Nat.le_of_ble_eq_true rfl) ⟨by decide, by decide⟩ ?_
        rintro _ h1 sz1 ⟨rfl, M, F1⟩
        try dsimp only [Option.toList, List.cons_append, List.nil_append]
        refine x_iinc G dX5_drift_24 rfl (by decide) ?_
        refine x_locE (lv2 := [(0, .ref b), (1, .int (nI u)), (2, .int (nI (i + 1)))]) (by rw [nI_succ i]; rfl) ?_
        refine x_goto G 15 dX5_drift_27 (by decide) ?_
        exact nx (_, _, _, _, _) _ _ ⟨k15, M, F1⟩
    · intro x h1 sz1 hI
      try dsimp only at hI ⊢
      obtain ⟨hP, ⟨ro, fr, ch, ov, M⟩, F1⟩ := hI
      obtain ⟨st1, de1, d1, s1x, po1⟩ := x
      dsimp only at hP M
      refine x_iload_n G dX5_drift_15 rfl ?_
      refine x_iload_n G dX5_drift_16 rfl ?_
      refine x_icmp_ge G 30 dX5_drift_17 (by decide) (fun c_17 => ?_) (fun c_17 => ?_)
      · refine x_aload_n G dX5_drift_30 rfl ?_
        refine x_get G kX5 inX5 3 (by decide) (by decide +kernel) dX5_drift_31 (md_o M) rfl ?_
        refine x_iconstV (v := nI 0) G dX5_drift_34 (by decide) ?_
        refine x_ialdN G dX5_drift_35 (md_st M) (by omega) (by decide) ?_
        exact x_iret G dX5_drift_36 (hp2 u hu1 hu2 rfl _ _ _ _ _ _ _ hP ⟨_, _, _, _, M⟩ F1)
      · exact absurd (nI_le (Nat.le_refl _) (by omega)) c_17
  · have e1 := x_b_0.mp c_7
    refine x_ldc G (-1000000002) (by decide +kernel) dX5_drift_10 ?_
    exact x_iret G dX5_drift_12 (hp1 e1)
