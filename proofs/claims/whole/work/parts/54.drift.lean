/-! ## The class: undo, driftOnce, drift -/
theorem inX4_undo_4 : ∀ w ∈ wsX40, w ∈ wsX4_undo := by decide +kernel
theorem inX4_undo_3 : ∀ w ∈ wsX30, w ∈ wsX4_undo := by decide +kernel
theorem inX4_undo_0 : ∀ w ∈ wsX00, w ∈ wsX4_undo := by decide +kernel
set_option maxRecDepth 100000 in
set_option maxHeartbeats 4000000 in
/-- undo -/
theorem c_X4_undo (l : Launch) (D : va_G) {dA : Nat → ClassId} {b : Nat} {tx : Nat → Int32} {ln : Nat} {fa : Int32} {x : rT} {pl : Int32} {rd : Nat → Int32} {im : Nat → sT} {ss : Nat → sT} {mx : Nat} {ct : Nat} {so : slT} {ot : slT} {sy : Nat → Nat → Int32} {ab be : Nat → Int32} {n : Nat} {dw kp : Int32} {v : Int32} {h : xH} {sz : Nat} {Post : Option Value → xH → Nat → Prop} (hm20 : mx < 20) (hc20 : ct ≤ 20) (hss : ∀ k, 1 ≤ k → k ≤ ct → ∃ n1, n1 ≤ 6 ∧ (ss ((mx + 20 - k) % 20)).2.2.2.1 = nI n1) (U : Uv dA h b tx ln fa x pl rd ((sy, ab, be, nI n, dw, kp)) im ss mx ct so ot) (hp1 : ¬ (nI 1 ≤ v ∧ v ≤ nI 20) → Post (some (.int (-1000000002))) h sz) (hp2 : ∀ k, 1 ≤ k → k ≤ 20 → v = nI k → ¬ k ≤ ct → Post (some (.int (-1000000003))) h sz) (hp3 : ∀ k, 1 ≤ k → k ≤ 20 → v = nI k → k ≤ ct → ∀ n1, n1 ≤ 6 → (ss ((mx + 20 - k) % 20)).2.2.2.1 = nI n1 → ∀ (h1 : xH) (sz1 : Nat), Uv dA h1 b tx ln fa x pl rd ((cp_s (ss ((mx + 20 - k) % 20)).1 sy 6, va_cpy (ss ((mx + 20 - k) % 20)).2.1 ab 0 0 4, va_cpy (ss ((mx + 20 - k) % 20)).2.2.1 be 0 0 4, nI n1, dw, kp)) im ss (((mx + 20 - k) % 20)) (ct - k) (sa (cp_s (ss ((mx + 20 - k) % 20)).1 sy 6) so n1) ot → xF b (b + 279) h h1 → Post (some (.int (nI n1))) h1 sz1) (hpost : True) : xMet l yX4_undo wsX4_undo 5 122 0 0 D dA [.ref b, .int v] h sz Post := by
  refine x_open (cc := cX4_undo) (maxL := 2) (ret := (some .int)) (by decide) rfl (Nat.le_of_ble_eq_true rfl) ?_
  intro p e s m args below meth c G _
  have inX4 : ∀ w ∈ wsX40, w ∈ wsX4_undo := inX4_undo_4
  have inX3 : ∀ w ∈ wsX30, w ∈ wsX4_undo := inX4_undo_3
  have inX0 : ∀ w ∈ wsX00, w ∈ wsX4_undo := inX4_undo_0
  have F := xF_rf (lo := b) (hi := b + 279) (h := h)
  refine x_iload_n G dX4_undo_0 rfl ?_
  refine x_iconstV (v := nI 1) G dX4_undo_1 (by decide) ?_
  refine x_icmp_lt G 11 dX4_undo_2 (by decide) (fun c_2 => ?_) (fun c_2 => ?_)
  · have hr : ¬ (nI 1 ≤ v ∧ v ≤ nI 20) := fun w => absurd w.1 (Int32.not_le.mpr c_2)
    refine x_ldc G (-1000000002) (by decide +kernel) dX4_undo_11 ?_
    exact x_iret G dX4_undo_13 (hp1 hr)
  · have h1 := Int32.not_lt.mp c_2
    refine x_iload_n G dX4_undo_5 rfl ?_
    refine x_bipushV (v := nI 20) G dX4_undo_6 (by decide) ?_
    refine x_icmp_le G 14 dX4_undo_8 (by decide) (fun c_8 => ?_) (fun c_8 => ?_)
    · have hr : nI 1 ≤ v ∧ v ≤ nI 20 := ⟨h1, c_8⟩
      obtain ⟨k, hk1, hk2, rfl⟩ := in_nat2 (lo := 1) (hi := 20) (by decide) (by decide) hr
      refine x_iload_n G dX4_undo_14 rfl ?_
      refine x_aload_n G dX4_undo_15 rfl ?_
      refine x_get G kX4 inX4 7 (by decide) (by decide +kernel) dX4_undo_16 (uv_o U) rfl ?_
      refine x_getN (host := "UnitVectors") G kX0 inX0 2 (by decide) (by decide +kernel) dX4_undo_19 (uv_p U).1 rfl ?_
      refine x_icmp_le G 28 dX4_undo_22 (by decide) (fun c_22 => ?_) (fun c_22 => ?_)
      · have hkc : k ≤ ct := by
          rcases Nat.lt_or_ge ct k with w | w
          · exact absurd c_22 (nI_ge w (by omega))
          · exact w
        refine x_aload_n G dX4_undo_28 rfl ?_
        refine x_get G kX4 inX4 7 (by decide) (by decide +kernel) dX4_undo_29 (uv_o U) rfl ?_
        refine x_iload_n G dX4_undo_32 rfl ?_
        refine x_aload_n G dX4_undo_33 rfl ?_
        refine x_get G kX4 inX4 5 (by decide) (by decide +kernel) dX4_undo_34 (uv_o U) rfl ?_
        refine x_callV (n := 2) (rest := []) (As := [.int (nI k), .ref (b + 14)]) G (ci := 0) (c_X0_restore (Post := fun r7 h7 sz7 => r7 = none ∧ ∃ h8, Pa dA h8 (b + 25) ss (nI ((mx + 20 - k) % 20)) (nI (ct - k)) ∧ StT dA h7 (b + 14) (sT_cp (ss ((mx + 20 - k) % 20)) (sy, ab, be, nI n, dw, kp)) ∧ xF (b + 25) (b + 25 + 202) h h8 ∧ xF (b + 14) (b + 14 + 10) h8 h7) l D hm20 (by omega) (by omega) (by omega) (uv_p U) (uv_n U) (fun h8 h7 sz7 q1 q2 q3 q4 => ⟨rfl, h8, q1, q2, q3, q4⟩)) gX4_undo_X0_restore rfl ⟨rfl, by decide +kernel, by decide +kernel, by decide +kernel⟩ ⟨by decide, by decide⟩ rfl rfl (uv_p U).1 dX4_undo_37 rfl rfl (Nat.le_of_ble_eq_true rfl) ⟨by decide, by decide⟩ ?_
        rintro _ h2 sz2 ⟨rfl, h8, ZP, ZN, FP, FN⟩
        try dsimp only [Option.toList, List.cons_append, List.nil_append]
        obtain ⟨n1, hn1, en⟩ := hss k hk1 hkc
        replace U := uv_pu U (ss1 := ss) (nx1 := ((mx + 20 - k) % 20)) (ct1 := ct - k) ZP FP
        have ec : sT_cp (ss ((mx + 20 - k) % 20)) (sy, ab, be, nI n, dw, kp) = (cp_s (ss ((mx + 20 - k) % 20)).1 sy 6, va_cpy (ss ((mx + 20 - k) % 20)).2.1 ab 0 0 4, va_cpy (ss ((mx + 20 - k) % 20)).2.2.1 be 0 0 4, nI n1, dw, kp) := by
          unfold sT_cp
          rw [en]
        rw [ec] at ZN
        replace U := uv_nu U (nw1 := (cp_s (ss ((mx + 20 - k) % 20)).1 sy 6, va_cpy (ss ((mx + 20 - k) % 20)).2.1 ab 0 0 4, va_cpy (ss ((mx + 20 - k) % 20)).2.2.1 be 0 0 4, nI n1, dw, kp)) ZN FN
        replace F := xF_tr F (xF_tr (xF_wd (lo1 := b) (hi1 := b + 279) FP (by omega) (by omega)) (xF_wd (lo1 := b) (hi1 := b + 279) FN (by omega) (by omega)))
        refine x_aload_n G dX4_undo_40 rfl ?_
        refine x_callV (n := 0) (rest := []) (As := []) G (ci := 4) (c_X4_solveAnew (Post := fun r7 h7 sz7 => r7 = none ∧ Uv dA h7 b tx ln fa x pl rd ((cp_s (ss ((mx + 20 - k) % 20)).1 sy 6, va_cpy (ss ((mx + 20 - k) % 20)).2.1 ab 0 0 4, va_cpy (ss ((mx + 20 - k) % 20)).2.2.1 be 0 0 4, nI n1, dw, kp)) im ss (((mx + 20 - k) % 20)) (ct - k) (sa (cp_s (ss ((mx + 20 - k) % 20)).1 sy 6) so n1) ot ∧ xF b (b + 279) h2 h7) l D hn1 U (fun h7 sz7 q1 q2 => ⟨rfl, q1, q2⟩)) gX4_undo_X4_solveAnew rfl ⟨rfl, by decide +kernel, by decide +kernel, by decide +kernel⟩ ⟨by decide, by decide⟩ rfl rfl (uv_o U) dX4_undo_41 rfl rfl (Nat.le_of_ble_eq_true rfl) ⟨by decide, by decide⟩ ?_
        rintro _ h4 sz4 ⟨rfl, U, F4⟩
        try dsimp only [Option.toList, List.cons_append, List.nil_append]
        replace F := xF_tr F F4
        refine x_aload_n G dX4_undo_44 rfl ?_
        refine x_get G kX4 inX4 5 (by decide) (by decide +kernel) dX4_undo_45 (uv_o U) rfl ?_
        refine x_getN (host := "UnitVectors") G kX3 inX3 3 (by decide) (by decide +kernel) dX4_undo_48 (st_o (uv_n U)) rfl ?_
        exact x_iret G dX4_undo_51 (hp3 k hk1 hk2 rfl hkc n1 hn1 en _ _ U F)
      · have hkc : ¬ k ≤ ct := fun w => c_22 (nI_le w (by omega))
        refine x_ldc G (-1000000003) (by decide +kernel) dX4_undo_25 ?_
        exact x_iret G dX4_undo_27 (hp2 k hk1 hk2 rfl hkc)
    · have hr : ¬ (nI 1 ≤ v ∧ v ≤ nI 20) := fun w => c_8 w.2
      refine x_ldc G (-1000000002) (by decide +kernel) dX4_undo_11 ?_
      exact x_iret G dX4_undo_13 (hp1 hr)
theorem inX4_driftOnce_4 : ∀ w ∈ wsX40, w ∈ wsX4_driftOnce := by decide +kernel
theorem inX4_driftOnce_3 : ∀ w ∈ wsX30, w ∈ wsX4_driftOnce := by decide +kernel
theorem c_d_draw (l : Launch) (D : va_G) {dA : Nat → ClassId} {q : Nat} {sy : Nat → Nat → Int32} {ab be : Nat → Int32} {ct dw kp w1 r k : Int32} {h : xH} {sz : Nat} {Post : Option Value → xH → Nat → Prop} (e1 : dc_s dw = w1) (k1 : dc_v dw k = r) (hk : ¬ k ≤ 0) (hk0 : ¬ k = 0) (S : StT dA h q (sy, ab, be, ct, dw, kp)) (hpost : ∀ (h1 : xH) (sz1 : Nat), StT dA h1 q (sy, ab, be, ct, w1, kp) → xF q (q + 10) h h1 → Post (some (.int r)) h1 sz1) : xMet l yX3_draw wsX3_draw 0 0 0 0 D dA [.ref q, .int k] h sz Post := by
  refine c_X3_draw (q := q) (sy := sy) (ab := ab) (be := be) (ct := ct) (dw := dw) (kp := kp) (n := k) l D hk hk0 S (fun h1 sz1 S1 F1 => ?_)
  rw [k1]
  rw [e1] at S1
  exact hpost h1 sz1 S1 F1
set_option maxRecDepth 100000 in
set_option maxHeartbeats 4000000 in
/-- driftOnce -/
theorem c_X4_driftOnce (l : Launch) (D : va_G) {dA : Nat → ClassId} {b : Nat} {tx : Nat → Int32} {ln : Nat} {fa : Int32} {x : rT} {pl : Int32} {rd : Nat → Int32} {im : Nat → sT} {ss : Nat → sT} {mx : Nat} {ct : Nat} {so : slT} {ot : slT} {sy : Nat → Nat → Int32} {ab be : Nat → Int32} {n : Nat} {dw kp : Int32} {w1 w2 w3 w4 o0 o : Int32} {a c d : Nat} {r0 r1 r2 r3 : Nat → Int32} {h : xH} {sz : Nat} {Post : Option Value → xH → Nat → Prop} (e1 : dc_s dw = w1) (e2 : dc_s w1 = w2) (e3 : dc_s w2 = w3) (e4 : dc_s w3 = w4) (k1 : dc_v dw (nI 6) = nI a) (k2 : dc_v w1 (nI 6) = nI c) (k3 : dc_v w2 (nI 5) = o0) (ko : o0 - nI 2 = o) (k4 : dc_v w3 (nI 4) = nI d) (ha6 : a < 6) (hc6 : c < 6) (hd4 : d < 4) (f0 : fl_I rd 0 10 = r0) (f1 : upd r0 a (r0 a + nI 1) = r1) (f2 : upd r1 c (r1 c + o) = r2) (f3 : upd r2 (6 + d) (r2 (6 + d) - nI 1) = r3) (hs6 : so.2.2.2.2.2 ≤ 6) (hn6 : n ≤ 6) (hm20 : mx < 20) (hc20 : ct ≤ 20) (U : Uv dA h b tx ln fa x pl rd ((sy, ab, be, nI n, dw, kp)) im ss mx ct so ot) (hp1 : ¬ ((¬ r3 a = 0 ∨ ¬ r3 c = 0) ∧ n < 6) → ∀ (h1 : xH) (sz1 : Nat), Uv dA h1 b tx ln fa x pl r3 ((sy, ab, be, nI n, w4, kp)) im (nt_s ss mx (sy, ab, be, nI n, dw, kp)) ((mx + 1) % 20) (nt_c ct) so ot → xF b (b + 279) h h1 → Post none h1 sz1) (hp2 : ((¬ r3 a = 0 ∨ ¬ r3 c = 0) ∧ n < 6) → ¬ ag_u r3 so = true → ∀ (h1 : xH) (sz1 : Nat), Uv dA h1 b tx ln fa x pl r3 ((sy, ab, be, nI n, w4, kp)) im (nt_s ss mx (sy, ab, be, nI n, dw, kp)) ((mx + 1) % 20) (nt_c ct) (sw_u2 r3 so) ot → xF b (b + 279) h h1 → Post none h1 sz1) (hp3 : ((¬ r3 a = 0 ∨ ¬ r3 c = 0) ∧ n < 6) → ag_u r3 so = true → ∀ (h1 : xH) (sz1 : Nat), Uv dA h1 b tx ln fa x pl r3 (((fun i => if i = n then va_cpy r3 (sy n) 0 0 10 else sy i), ab, be, nI (n + 1), w4, kp)) im (nt_s ss mx (sy, ab, be, nI n, dw, kp)) ((mx + 1) % 20) (nt_c ct) (su r3 (sw_u2 r3 so)) ot → xF b (b + 279) h h1 → Post none h1 sz1) (hpost : True) : xMet l yX4_driftOnce wsX4_driftOnce 5 122 0 0 D dA [.ref b] h sz Post := by
  refine x_open (cc := cX4_driftOnce) (maxL := 6) (ret := none) (by decide) rfl (Nat.le_of_ble_eq_true rfl) ?_
  intro p e s m args below meth cG G _
  have inX4 : ∀ w ∈ wsX40, w ∈ wsX4_driftOnce := inX4_driftOnce_4
  have inX3 : ∀ w ∈ wsX30, w ∈ wsX4_driftOnce := inX4_driftOnce_3
  have F := xF_rf (lo := b) (hi := b + 279) (h := h)
  refine x_aload_n G dX4_driftOnce_0 rfl ?_
  refine x_get G kX4 inX4 7 (by decide) (by decide +kernel) dX4_driftOnce_1 (uv_o U) rfl ?_
  refine x_aload_n G dX4_driftOnce_4 rfl ?_
  refine x_get G kX4 inX4 5 (by decide) (by decide +kernel) dX4_driftOnce_5 (uv_o U) rfl ?_
  refine x_callV (n := 1) (rest := []) (As := [.ref (b + 14)]) G (ci := 0) (c_X0_note (Post := fun r7 h7 sz7 => r7 = none ∧ Pa dA h7 (b + 25) (nt_s ss mx (sy, ab, be, nI n, dw, kp)) (nI ((mx + 1) % 20)) (nI (nt_c ct)) ∧ xF (b + 25) (b + 25 + 202) h h7) l D hm20 hc20 (by omega) (uv_p U) (uv_n U) (fun h7 sz7 q1 q2 => ⟨rfl, q1, q2⟩)) gX4_driftOnce_X0_note rfl ⟨rfl, by decide +kernel, by decide +kernel, by decide +kernel⟩ ⟨by decide, by decide⟩ rfl rfl (uv_p U).1 dX4_driftOnce_8 rfl rfl (Nat.le_of_ble_eq_true rfl) ⟨by decide, by decide⟩ ?_
  rintro _ hN szN ⟨rfl, ZN, FN⟩
  try dsimp only [Option.toList, List.cons_append, List.nil_append]
  replace U := uv_pu U (ss1 := nt_s ss mx (sy, ab, be, nI n, dw, kp)) (nx1 := (mx + 1) % 20) (ct1 := nt_c ct) ZN FN
  replace F := xF_tr F (xF_wd (lo1 := b) (hi1 := b + 279) FN (by omega) (by omega))
  refine x_aload_n G dX4_driftOnce_11 rfl ?_
  refine x_get G kX4 inX4 5 (by decide) (by decide +kernel) dX4_driftOnce_12 (uv_o U) rfl ?_
  refine x_bipushV (v := nI 6) G dX4_driftOnce_15 (by decide) ?_
  refine x_callV (n := 1) (rest := []) (As := [.int (nI 6)]) G (ci := 3) (c_d_draw (Post := fun r7 h7 sz7 => r7 = some (.int (nI a)) ∧ StT dA h7 (b + 14) (sy, ab, be, nI n, w1, kp) ∧ xF (b + 14) (b + 14 + 10) hN h7) l D e1 k1 (by decide) (by decide) (uv_n U) (fun h7 sz7 q1 q2 => ⟨rfl, q1, q2⟩)) gX4_driftOnce_X3_draw rfl ⟨rfl, by decide +kernel, by decide +kernel, by decide +kernel⟩ ⟨by decide, by decide⟩ rfl rfl (st_o (uv_n U)) dX4_driftOnce_17 rfl rfl (Nat.le_of_ble_eq_true rfl) ⟨by decide, by decide⟩ ?_
  rintro _ h4a sz_h4a ⟨rfl, Z, F3⟩
  try dsimp only [Option.toList, List.cons_append, List.nil_append]
  replace U := uv_nu U (nw1 := (sy, ab, be, nI n, w1, kp)) Z F3
  replace F := xF_tr F (xF_wd (lo1 := b) (hi1 := b + 279) F3 (by omega) (by omega))
  refine x_istore_n G dX4_driftOnce_20 (by decide) ?_
  refine x_aload_n G dX4_driftOnce_21 rfl ?_
  refine x_get G kX4 inX4 5 (by decide) (by decide +kernel) dX4_driftOnce_22 (uv_o U) rfl ?_
  refine x_bipushV (v := nI 6) G dX4_driftOnce_25 (by decide) ?_
  refine x_callV (n := 1) (rest := []) (As := [.int (nI 6)]) G (ci := 3) (c_d_draw (Post := fun r7 h7 sz7 => r7 = some (.int (nI c)) ∧ StT dA h7 (b + 14) (sy, ab, be, nI n, w2, kp) ∧ xF (b + 14) (b + 14 + 10) h4a h7) l D e2 k2 (by decide) (by decide) (uv_n U) (fun h7 sz7 q1 q2 => ⟨rfl, q1, q2⟩)) gX4_driftOnce_X3_draw rfl ⟨rfl, by decide +kernel, by decide +kernel, by decide +kernel⟩ ⟨by decide, by decide⟩ rfl rfl (st_o (uv_n U)) dX4_driftOnce_27 rfl rfl (Nat.le_of_ble_eq_true rfl) ⟨by decide, by decide⟩ ?_
  rintro _ h5a sz_h5a ⟨rfl, Z, F3⟩
  try dsimp only [Option.toList, List.cons_append, List.nil_append]
  replace U := uv_nu U (nw1 := (sy, ab, be, nI n, w2, kp)) Z F3
  replace F := xF_tr F (xF_wd (lo1 := b) (hi1 := b + 279) F3 (by omega) (by omega))
  refine x_istore_n G dX4_driftOnce_30 (by decide) ?_
  refine x_aload_n G dX4_driftOnce_31 rfl ?_
  refine x_get G kX4 inX4 5 (by decide) (by decide +kernel) dX4_driftOnce_32 (uv_o U) rfl ?_
  refine x_iconstV (v := nI 5) G dX4_driftOnce_35 (by decide) ?_
  refine x_callV (n := 1) (rest := []) (As := [.int (nI 5)]) G (ci := 3) (c_d_draw (Post := fun r7 h7 sz7 => r7 = some (.int (o0)) ∧ StT dA h7 (b + 14) (sy, ab, be, nI n, w3, kp) ∧ xF (b + 14) (b + 14 + 10) h5a h7) l D e3 k3 (by decide) (by decide) (uv_n U) (fun h7 sz7 q1 q2 => ⟨rfl, q1, q2⟩)) gX4_driftOnce_X3_draw rfl ⟨rfl, by decide +kernel, by decide +kernel, by decide +kernel⟩ ⟨by decide, by decide⟩ rfl rfl (st_o (uv_n U)) dX4_driftOnce_36 rfl rfl (Nat.le_of_ble_eq_true rfl) ⟨by decide, by decide⟩ ?_
  rintro _ h6a sz_h6a ⟨rfl, Z, F3⟩
  try dsimp only [Option.toList, List.cons_append, List.nil_append]
  replace U := uv_nu U (nw1 := (sy, ab, be, nI n, w3, kp)) Z F3
  replace F := xF_tr F (xF_wd (lo1 := b) (hi1 := b + 279) F3 (by omega) (by omega))
  refine x_iconstV (v := nI 2) G dX4_driftOnce_39 (by decide) ?_
  refine x_isub G dX4_driftOnce_40 ?_
  refine x_topE (y := o) ko ?_
  refine x_istore_n G dX4_driftOnce_41 (by decide) ?_
  refine x_aload_n G dX4_driftOnce_42 rfl ?_
  refine x_get G kX4 inX4 5 (by decide) (by decide +kernel) dX4_driftOnce_43 (uv_o U) rfl ?_
  refine x_iconstV (v := nI 4) G dX4_driftOnce_46 (by decide) ?_
  refine x_callV (n := 1) (rest := []) (As := [.int (nI 4)]) G (ci := 3) (c_d_draw (Post := fun r7 h7 sz7 => r7 = some (.int (nI d)) ∧ StT dA h7 (b + 14) (sy, ab, be, nI n, w4, kp) ∧ xF (b + 14) (b + 14 + 10) h6a h7) l D e4 k4 (by decide) (by decide) (uv_n U) (fun h7 sz7 q1 q2 => ⟨rfl, q1, q2⟩)) gX4_driftOnce_X3_draw rfl ⟨rfl, by decide +kernel, by decide +kernel, by decide +kernel⟩ ⟨by decide, by decide⟩ rfl rfl (st_o (uv_n U)) dX4_driftOnce_47 rfl rfl (Nat.le_of_ble_eq_true rfl) ⟨by decide, by decide⟩ ?_
  rintro _ h7a sz_h7a ⟨rfl, Z, F3⟩
  try dsimp only [Option.toList, List.cons_append, List.nil_append]
  replace U := uv_nu U (nw1 := (sy, ab, be, nI n, w4, kp)) Z F3
  replace F := xF_tr F (xF_wd (lo1 := b) (hi1 := b + 279) F3 (by omega) (by omega))
  refine x_istore G dX4_driftOnce_50 (by decide) ?_
  refine x_aload_n G dX4_driftOnce_52 rfl ?_
  refine x_get G kX4 inX4 4 (by decide) (by decide +kernel) dX4_driftOnce_53 (uv_o U) rfl ?_
  refine x_iconstV (v := nI 0) G dX4_driftOnce_56 (by decide) ?_
  refine x_callS (n := 2) (rest := []) (As := [.ref (b + 13), .int (nI 0)]) G (c_fillI (Post := fun r7 h7 sz7 => r7 = none ∧ h7 = x_up h7a (b + 13) (.inl (dA 0, 10, .inl (fl_I rd 0 10))) ∧ sz_h7a = sz7) l D (by decide) (uv_d U) ⟨rfl, rfl, rfl⟩) gX4_driftOnce_J7_fill_53178 rfl ⟨by decide +kernel, by decide +kernel, by decide +kernel⟩ ⟨by decide, by decide⟩ dX4_driftOnce_57 rfl rfl (Nat.le_of_ble_eq_true rfl) ⟨by decide, by decide⟩ ?_
  rintro _ _ _ ⟨rfl, rfl, rfl⟩
  try dsimp only [Option.toList, List.cons_append, List.nil_append]
  have F5 : xF (b + 13) (b + 14) _ _ := xF_up (h := h7a) (a := b + 13) (e := .inl (dA 0, 10, .inl (fl_I rd 0 10))) xF_rf (by omega) (by omega)
  replace U := uv_du U (rd1 := fl_I rd 0 10) x_up_eq F5
  replace F := xF_tr F (xF_wd (lo1 := b) (hi1 := b + 279) F5 (by omega) (by omega))
  rw [f0] at U F ⊢
  refine x_aload_n G dX4_driftOnce_60 rfl ?_
  refine x_get G kX4 inX4 4 (by decide) (by decide +kernel) dX4_driftOnce_61 (uv_o U) rfl ?_
  refine x_iload_n G dX4_driftOnce_64 rfl ?_
  refine x_dup2 G dX4_driftOnce_65 rfl rfl ?_
  refine x_ialdN G dX4_driftOnce_66 (uv_d U) (show a < 10 by omega) (by decide) ?_
  refine x_iconstV (v := nI 1) G dX4_driftOnce_67 (by decide) ?_
  refine x_iadd G dX4_driftOnce_68 ?_
  refine x_iastN G dX4_driftOnce_69 (uv_d U) (show a < 10 by omega) (by decide) ?_
  have F5 : xF (b + 13) (b + 14) _ _ := xF_up (h := x_up h7a (b + 13) (.inl (dA 0, 10, .inl (r0)))) (a := b + 13) (e := .inl (dA 0, 10, .inl (upd r0 a (r0 a + nI 1)))) xF_rf (by omega) (by omega)
  replace U := uv_du U (rd1 := upd r0 a (r0 a + nI 1)) x_up_eq F5
  replace F := xF_tr F (xF_wd (lo1 := b) (hi1 := b + 279) F5 (by omega) (by omega))
  rw [f1] at U F ⊢
  refine x_aload_n G dX4_driftOnce_70 rfl ?_
  refine x_get G kX4 inX4 4 (by decide) (by decide +kernel) dX4_driftOnce_71 (uv_o U) rfl ?_
  refine x_iload_n G dX4_driftOnce_74 rfl ?_
  refine x_dup2 G dX4_driftOnce_75 rfl rfl ?_
  refine x_ialdN G dX4_driftOnce_76 (uv_d U) (show c < 10 by omega) (by decide) ?_
  refine x_iload_n G dX4_driftOnce_77 rfl ?_
  refine x_iadd G dX4_driftOnce_78 ?_
  refine x_iastN G dX4_driftOnce_79 (uv_d U) (show c < 10 by omega) (by decide) ?_
  have F5 : xF (b + 13) (b + 14) _ _ := xF_up (h := x_up (x_up h7a (b + 13) (.inl (dA 0, 10, .inl (r0)))) (b + 13) (.inl (dA 0, 10, .inl (r1)))) (a := b + 13) (e := .inl (dA 0, 10, .inl (upd r1 c (r1 c + o)))) xF_rf (by omega) (by omega)
  replace U := uv_du U (rd1 := upd r1 c (r1 c + o)) x_up_eq F5
  replace F := xF_tr F (xF_wd (lo1 := b) (hi1 := b + 279) F5 (by omega) (by omega))
  rw [f2] at U F ⊢
  refine x_aload_n G dX4_driftOnce_80 rfl ?_
  refine x_get G kX4 inX4 4 (by decide) (by decide +kernel) dX4_driftOnce_81 (uv_o U) rfl ?_
  refine x_bipushV (v := nI 6) G dX4_driftOnce_84 (by decide) ?_
  refine x_iload G dX4_driftOnce_86 rfl ?_
  refine x_iadd G dX4_driftOnce_88 ?_
  refine x_topE (y := nI (6 + d)) (by rw [nI_add]) ?_
  refine x_dup2 G dX4_driftOnce_89 rfl rfl ?_
  refine x_ialdN G dX4_driftOnce_90 (uv_d U) (show 6 + d < 10 by omega) (by decide) ?_
  refine x_iconstV (v := nI 1) G dX4_driftOnce_91 (by decide) ?_
  refine x_isub G dX4_driftOnce_92 ?_
  refine x_iastN G dX4_driftOnce_93 (uv_d U) (show 6 + d < 10 by omega) (by decide) ?_
  have F5 : xF (b + 13) (b + 14) _ _ := xF_up (h := x_up (x_up (x_up h7a (b + 13) (.inl (dA 0, 10, .inl (r0)))) (b + 13) (.inl (dA 0, 10, .inl (r1)))) (b + 13) (.inl (dA 0, 10, .inl (r2)))) (a := b + 13) (e := .inl (dA 0, 10, .inl (upd r2 (6 + d) (r2 (6 + d) - nI 1)))) xF_rf (by omega) (by omega)
  replace U := uv_du U (rd1 := upd r2 (6 + d) (r2 (6 + d) - nI 1)) x_up_eq F5
  replace F := xF_tr F (xF_wd (lo1 := b) (hi1 := b + 279) F5 (by omega) (by omega))
  rw [f3] at U F ⊢
  refine x_keep [0, 1, 2, 4] ?_
  refine x_aload_n G dX4_driftOnce_94 rfl ?_
  refine x_get G kX4 inX4 4 (by decide) (by decide +kernel) dX4_driftOnce_95 (uv_o U) rfl ?_
  refine x_iload_n G dX4_driftOnce_98 rfl ?_
  refine x_ialdN G dX4_driftOnce_99 (uv_d U) (show a < 10 by omega) (by decide) ?_
  refine x_if_ne G 112 dX4_driftOnce_100 (by decide) (fun c_100 => ?_) (fun c_100 => ?_)
  · have eh : ¬ r3 a = 0 ∨ ¬ r3 c = 0 := Or.inl c_100
    refine x_iconstV (v := nI 1) G dX4_driftOnce_112 (by decide) ?_
    refine x_goto G 117 dX4_driftOnce_113 (by decide) ?_
    refine x_istore G dX4_driftOnce_117 (by decide) ?_
    refine x_iload G dX4_driftOnce_119 rfl ?_
    refine x_if_eq G 154 dX4_driftOnce_121 (by decide) (fun c_121 => ?_) (fun c_121 => ?_)
    · exact absurd c_121 (by decide)
    · refine x_aload_n G dX4_driftOnce_124 rfl ?_
      refine x_get G kX4 inX4 5 (by decide) (by decide +kernel) dX4_driftOnce_125 (uv_o U) rfl ?_
      refine x_getN (host := "UnitVectors") G kX3 inX3 3 (by decide) (by decide +kernel) dX4_driftOnce_128 (st_o (uv_n U)) rfl ?_
      refine x_bipushV (v := nI 6) G dX4_driftOnce_131 (by decide) ?_
      refine x_icmp_ge G 154 dX4_driftOnce_133 (by decide) (fun c_133 => ?_) (fun c_133 => ?_)
      · have hlt : ¬ n < 6 := fun w => absurd c_133 (nI_ge w (by decide))
        exact x_vret G dX4_driftOnce_154 (hp1 (fun w => hlt w.2) _ _ U F)
      · have hlt : n < 6 := by
          rcases Nat.lt_or_ge n 6 with w | w
          · exact w
          · exact absurd (nI_le w (by omega)) c_133
        refine x_aload_n G dX4_driftOnce_136 rfl ?_
        refine x_get G kX4 inX4 8 (by decide) (by decide +kernel) dX4_driftOnce_137 (uv_o U) rfl ?_
        refine x_aload_n G dX4_driftOnce_140 rfl ?_
        refine x_get G kX4 inX4 4 (by decide) (by decide +kernel) dX4_driftOnce_141 (uv_o U) rfl ?_
        refine x_callV (n := 1) (rest := []) (As := [.ref (b + 13)]) G (ci := 2) (c_u_agrees (Post := fun r7 h7 sz7 => r7 = some (.int (x_b (ag_u (r3) so = true))) ∧ SlT dA h7 (b + 227) (sw_u2 (r3) so) ∧ xF (b + 227) (b + 227 + 16) _ h7) l D hs6 (by omega) (by decide) (by decide) (uv_d U) (uv_s U) (fun h7 sz7 q1 q2 => ⟨rfl, q1, q2⟩)) gX4_driftOnce_X2_agrees rfl ⟨rfl, by decide +kernel, by decide +kernel, by decide +kernel⟩ ⟨by decide, by decide⟩ rfl rfl (slt_o (uv_s U)).choose_spec dX4_driftOnce_144 rfl rfl (Nat.le_of_ble_eq_true rfl) ⟨by decide, by decide⟩ ?_
        rintro _ h3 sz3 ⟨rfl, Z, F3⟩
        try dsimp only [Option.toList, List.cons_append, List.nil_append]
        replace U := uv_su U Z F3
        replace F := xF_tr F (xF_wd (lo1 := b) (hi1 := b + 279) F3 (by omega) (by omega))
        refine x_if_eq G 154 dX4_driftOnce_147 (by decide) (fun c_147 => ?_) (fun c_147 => ?_)
        · have ea := x_b_0.mp c_147
          exact x_vret G dX4_driftOnce_154 (hp2 ⟨eh, hlt⟩ ea _ _ U F)
        · have ea := x_b_n.mp c_147
          refine x_aload_n G dX4_driftOnce_150 rfl ?_
          refine x_callV (n := 0) (rest := []) (As := []) G (ci := 4) (c_X4_putSaying (Post := fun r7 h7 sz7 => r7 = none ∧ Uv dA h7 b tx ln fa x pl r3 (((fun i => if i = n then va_cpy r3 (sy n) 0 0 10 else sy i), ab, be, nI (n + 1), w4, kp)) im (nt_s ss mx (sy, ab, be, nI n, dw, kp)) ((mx + 1) % 20) (nt_c ct) (su r3 (sw_u2 r3 so)) ot ∧ xF b (b + 279) _ h7) l D hlt (show (sw_u2 r3 so).2.2.2.2.2 ≤ 6 from hs6) U (fun h7 sz7 q1 q2 => ⟨rfl, q1, q2⟩)) gX4_driftOnce_X4_putSaying rfl ⟨rfl, by decide +kernel, by decide +kernel, by decide +kernel⟩ ⟨by decide, by decide⟩ rfl rfl (uv_o U) dX4_driftOnce_151 rfl rfl (Nat.le_of_ble_eq_true rfl) ⟨by decide, by decide⟩ ?_
          rintro _ h9 sz9 ⟨rfl, U, F9⟩
          try dsimp only [Option.toList, List.cons_append, List.nil_append]
          replace F := xF_tr F F9
          exact x_vret G dX4_driftOnce_154 (hp3 ⟨eh, hlt⟩ ea _ _ U F)
  · refine x_aload_n G dX4_driftOnce_103 rfl ?_
    refine x_get G kX4 inX4 4 (by decide) (by decide +kernel) dX4_driftOnce_104 (uv_o U) rfl ?_
    refine x_iload_n G dX4_driftOnce_107 rfl ?_
    refine x_ialdN G dX4_driftOnce_108 (uv_d U) (show c < 10 by omega) (by decide) ?_
    refine x_if_eq G 116 dX4_driftOnce_109 (by decide) (fun c_109 => ?_) (fun c_109 => ?_)
    · have eh : ¬ (¬ r3 a = 0 ∨ ¬ r3 c = 0) := fun w => w.elim (fun y => y c_100) (fun y => y c_109)
      refine x_iconstV (v := nI 0) G dX4_driftOnce_116 (by decide) ?_
      refine x_istore G dX4_driftOnce_117 (by decide) ?_
      refine x_iload G dX4_driftOnce_119 rfl ?_
      refine x_if_eq G 154 dX4_driftOnce_121 (by decide) (fun c_121 => ?_) (fun c_121 => ?_)
      · exact x_vret G dX4_driftOnce_154 (hp1 (fun w => eh w.1) _ _ U F)
      · exact absurd rfl c_121
    · have eh : ¬ r3 a = 0 ∨ ¬ r3 c = 0 := Or.inr c_109
      refine x_iconstV (v := nI 1) G dX4_driftOnce_112 (by decide) ?_
      refine x_goto G 117 dX4_driftOnce_113 (by decide) ?_
      refine x_istore G dX4_driftOnce_117 (by decide) ?_
      refine x_iload G dX4_driftOnce_119 rfl ?_
      refine x_if_eq G 154 dX4_driftOnce_121 (by decide) (fun c_121 => ?_) (fun c_121 => ?_)
      · exact absurd c_121 (by decide)
      · refine x_aload_n G dX4_driftOnce_124 rfl ?_
        refine x_get G kX4 inX4 5 (by decide) (by decide +kernel) dX4_driftOnce_125 (uv_o U) rfl ?_
        refine x_getN (host := "UnitVectors") G kX3 inX3 3 (by decide) (by decide +kernel) dX4_driftOnce_128 (st_o (uv_n U)) rfl ?_
        refine x_bipushV (v := nI 6) G dX4_driftOnce_131 (by decide) ?_
        refine x_icmp_ge G 154 dX4_driftOnce_133 (by decide) (fun c_133 => ?_) (fun c_133 => ?_)
        · have hlt : ¬ n < 6 := fun w => absurd c_133 (nI_ge w (by decide))
          exact x_vret G dX4_driftOnce_154 (hp1 (fun w => hlt w.2) _ _ U F)
        · have hlt : n < 6 := by
            rcases Nat.lt_or_ge n 6 with w | w
            · exact w
            · exact absurd (nI_le w (by omega)) c_133
          refine x_aload_n G dX4_driftOnce_136 rfl ?_
          refine x_get G kX4 inX4 8 (by decide) (by decide +kernel) dX4_driftOnce_137 (uv_o U) rfl ?_
          refine x_aload_n G dX4_driftOnce_140 rfl ?_
          refine x_get G kX4 inX4 4 (by decide) (by decide +kernel) dX4_driftOnce_141 (uv_o U) rfl ?_
          refine x_callV (n := 1) (rest := []) (As := [.ref (b + 13)]) G (ci := 2) (c_u_agrees (Post := fun r7 h7 sz7 => r7 = some (.int (x_b (ag_u (r3) so = true))) ∧ SlT dA h7 (b + 227) (sw_u2 (r3) so) ∧ xF (b + 227) (b + 227 + 16) _ h7) l D hs6 (by omega) (by decide) (by decide) (uv_d U) (uv_s U) (fun h7 sz7 q1 q2 => ⟨rfl, q1, q2⟩)) gX4_driftOnce_X2_agrees rfl ⟨rfl, by decide +kernel, by decide +kernel, by decide +kernel⟩ ⟨by decide, by decide⟩ rfl rfl (slt_o (uv_s U)).choose_spec dX4_driftOnce_144 rfl rfl (Nat.le_of_ble_eq_true rfl) ⟨by decide, by decide⟩ ?_
          rintro _ h3 sz3 ⟨rfl, Z, F3⟩
          try dsimp only [Option.toList, List.cons_append, List.nil_append]
          replace U := uv_su U Z F3
          replace F := xF_tr F (xF_wd (lo1 := b) (hi1 := b + 279) F3 (by omega) (by omega))
          refine x_if_eq G 154 dX4_driftOnce_147 (by decide) (fun c_147 => ?_) (fun c_147 => ?_)
          · have ea := x_b_0.mp c_147
            exact x_vret G dX4_driftOnce_154 (hp2 ⟨eh, hlt⟩ ea _ _ U F)
          · have ea := x_b_n.mp c_147
            refine x_aload_n G dX4_driftOnce_150 rfl ?_
            refine x_callV (n := 0) (rest := []) (As := []) G (ci := 4) (c_X4_putSaying (Post := fun r7 h7 sz7 => r7 = none ∧ Uv dA h7 b tx ln fa x pl r3 (((fun i => if i = n then va_cpy r3 (sy n) 0 0 10 else sy i), ab, be, nI (n + 1), w4, kp)) im (nt_s ss mx (sy, ab, be, nI n, dw, kp)) ((mx + 1) % 20) (nt_c ct) (su r3 (sw_u2 r3 so)) ot ∧ xF b (b + 279) _ h7) l D hlt (show (sw_u2 r3 so).2.2.2.2.2 ≤ 6 from hs6) U (fun h7 sz7 q1 q2 => ⟨rfl, q1, q2⟩)) gX4_driftOnce_X4_putSaying rfl ⟨rfl, by decide +kernel, by decide +kernel, by decide +kernel⟩ ⟨by decide, by decide⟩ rfl rfl (uv_o U) dX4_driftOnce_151 rfl rfl (Nat.le_of_ble_eq_true rfl) ⟨by decide, by decide⟩ ?_
            rintro _ h9 sz9 ⟨rfl, U, F9⟩
            try dsimp only [Option.toList, List.cons_append, List.nil_append]
            replace F := xF_tr F F9
            exact x_vret G dX4_driftOnce_154 (hp3 ⟨eh, hlt⟩ ea _ _ U F)
theorem inX4_drift_4 : ∀ w ∈ wsX40, w ∈ wsX4_drift := by decide +kernel
theorem inX4_drift_3 : ∀ w ∈ wsX30, w ∈ wsX4_drift := by decide +kernel
/-- read, sayings, how many, the seed, the past, its next, its count, the solutions -/
abbrev dT : Type := (Nat → Int32) × (Nat → Nat → Int32) × Nat × Int32 × (Nat → sT) × Nat × Nat × slT
/-- one time by draws, as the class does it -/
def dnC (ab be : Nat → Int32) (kp : Int32) (x y : dT) : Prop :=
  ∃ (w1 w2 w3 o : Int32) (a c d : Nat) (r0 r1 r2 : Nat → Int32), dc_s x.2.2.2.1 = w1 ∧ dc_s w1 = w2 ∧ dc_s w2 = w3 ∧ dc_s w3 = y.2.2.2.1 ∧ dc_v x.2.2.2.1 (nI 6) = nI a ∧ dc_v w1 (nI 6) = nI c ∧ dc_v w2 (nI 5) - nI 2 = o ∧ dc_v w3 (nI 4) = nI d ∧ a < 6 ∧ c < 6 ∧ d < 4 ∧ fl_I x.1 0 10 = r0 ∧ upd r0 a (r0 a + nI 1) = r1 ∧ upd r1 c (r1 c + o) = r2 ∧ upd r2 (6 + d) (r2 (6 + d) - nI 1) = y.1 ∧
  y.2.2.2.2.1 = nt_s x.2.2.2.2.1 x.2.2.2.2.2.1 (x.2.1, ab, be, nI x.2.2.1, x.2.2.2.1, kp) ∧ y.2.2.2.2.2.1 = (x.2.2.2.2.2.1 + 1) % 20 ∧ y.2.2.2.2.2.2.1 = nt_c x.2.2.2.2.2.2.1 ∧
  ((¬ ((¬ y.1 a = 0 ∨ ¬ y.1 c = 0) ∧ x.2.2.1 < 6) ∧ y.2.1 = x.2.1 ∧ y.2.2.1 = x.2.2.1 ∧ y.2.2.2.2.2.2.2 = x.2.2.2.2.2.2.2) ∨
   (((¬ y.1 a = 0 ∨ ¬ y.1 c = 0) ∧ x.2.2.1 < 6) ∧ ¬ ag_u y.1 x.2.2.2.2.2.2.2 = true ∧ y.2.1 = x.2.1 ∧ y.2.2.1 = x.2.2.1 ∧ y.2.2.2.2.2.2.2 = sw_u2 y.1 x.2.2.2.2.2.2.2) ∨
   (((¬ y.1 a = 0 ∨ ¬ y.1 c = 0) ∧ x.2.2.1 < 6) ∧ ag_u y.1 x.2.2.2.2.2.2.2 = true ∧ y.2.1 = (fun i => if i = x.2.2.1 then va_cpy y.1 (x.2.1 x.2.2.1) 0 0 10 else x.2.1 i) ∧ y.2.2.1 = x.2.2.1 + 1 ∧ y.2.2.2.2.2.2.2 = su y.1 (sw_u2 y.1 x.2.2.2.2.2.2.2)))
/-- what a step by draws asks of the state -/
def dnI (x : dT) : Prop := x.2.2.2.2.2.2.2.2.2.2.2.2 ≤ 6 ∧ x.2.2.1 ≤ 6 ∧ x.2.2.2.2.2.1 < 20 ∧ x.2.2.2.2.2.2.1 ≤ 20 ∧ ∃ (w1 w2 w3 : Int32) (a c d : Nat), dc_s x.2.2.2.1 = w1 ∧ dc_s w1 = w2 ∧ dc_s w2 = w3 ∧ dc_v x.2.2.2.1 (nI 6) = nI a ∧ dc_v w1 (nI 6) = nI c ∧ dc_v w3 (nI 4) = nI d ∧ a < 6 ∧ c < 6 ∧ d < 4
theorem c_d_once (l : Launch) (D : va_G) {dA : Nat → ClassId} {b : Nat} {tx : Nat → Int32} {ln : Nat} {fa : Int32} {x : rT} {pl : Int32} {im : Nat → sT} {ot : slT} {ab be : Nat → Int32} {kp : Int32} {t : dT} {h : xH} {sz : Nat} {Post : Option Value → xH → Nat → Prop} (hI : dnI t) (U : Uv dA h b tx ln fa x pl t.1 ((t.2.1, ab, be, nI t.2.2.1, t.2.2.2.1, kp)) im t.2.2.2.2.1 t.2.2.2.2.2.1 t.2.2.2.2.2.2.1 t.2.2.2.2.2.2.2 ot) (hpost : ∀ (t1 : dT) (h1 : xH) (sz1 : Nat), dnC ab be kp t t1 → Uv dA h1 b tx ln fa x pl t1.1 ((t1.2.1, ab, be, nI t1.2.2.1, t1.2.2.2.1, kp)) im t1.2.2.2.2.1 t1.2.2.2.2.2.1 t1.2.2.2.2.2.2.1 t1.2.2.2.2.2.2.2 ot → xF b (b + 279) h h1 → Post none h1 sz1) : xMet l yX4_driftOnce wsX4_driftOnce 5 122 0 0 D dA [.ref b] h sz Post := by
  obtain ⟨rd, sy, n, dw, ss, mx, ct, so⟩ := t
  obtain ⟨i1, i2, i3, i4, w1, w2, w3, a, c, d, e1, e2, e3, k1, k2, k4, ha, hc, hd⟩ := hI
  dsimp only at i1 i2 i3 i4 e1 k1
  refine c_X4_driftOnce (w1 := w1) (w2 := w2) (w3 := w3) (w4 := dc_s w3) (o0 := dc_v w2 (nI 5)) (o := dc_v w2 (nI 5) - nI 2) (a := a) (c := c) (d := d) (r0 := fl_I rd 0 10) (r1 := _) (r2 := _) (r3 := _) l D e1 e2 e3 rfl k1 k2 rfl rfl k4 ha hc hd rfl rfl rfl rfl i1 i2 i3 i4 U ?_ ?_ ?_ trivial
  · intro z h1 sz1 U1 F
    exact hpost (_, sy, n, dc_s w3, _, _, _, so) h1 sz1 ⟨w1, w2, w3, _, a, c, d, _, _, _, e1, e2, e3, rfl, k1, k2, rfl, k4, ha, hc, hd, rfl, rfl, rfl, rfl, rfl, rfl, rfl, Or.inl ⟨z, rfl, rfl, rfl⟩⟩ U1 F
  · intro z z2 h1 sz1 U1 F
    exact hpost (_, sy, n, dc_s w3, _, _, _, _) h1 sz1 ⟨w1, w2, w3, _, a, c, d, _, _, _, e1, e2, e3, rfl, k1, k2, rfl, k4, ha, hc, hd, rfl, rfl, rfl, rfl, rfl, rfl, rfl, Or.inr (Or.inl ⟨z, z2, rfl, rfl, rfl⟩)⟩ U1 F
  · intro z z2 h1 sz1 U1 F
    exact hpost (_, _, n + 1, dc_s w3, _, _, _, _) h1 sz1 ⟨w1, w2, w3, _, a, c, d, _, _, _, e1, e2, e3, rfl, k1, k2, rfl, k4, ha, hc, hd, rfl, rfl, rfl, rfl, rfl, rfl, rfl, Or.inr (Or.inr ⟨z, z2, rfl, rfl, rfl⟩)⟩ U1 F
set_option maxRecDepth 100000 in
set_option maxHeartbeats 4000000 in
/-- drift -/
theorem c_X4_drift (l : Launch) (D : va_G) {dA : Nat → ClassId} {b : Nat} {tx : Nat → Int32} {ln : Nat} {fa : Int32} {x : rT} {pl : Int32} {im : Nat → sT} {ot : slT} {ab be : Nat → Int32} {kp : Int32} {t0 : dT} {v : Int32} {P : Nat → dT → Prop} {h : xH} {sz : Nat} {Post : Option Value → xH → Nat → Prop} (hP0 : P 0 t0) (hst : ∀ u, 1 ≤ u → u ≤ 20 → v = nI u → ∀ (j : Nat) (t : dT), j < u → P j t → dnI t ∧ ∀ t1, dnC ab be kp t t1 → P (j + 1) t1) (U : Uv dA h b tx ln fa x pl t0.1 ((t0.2.1, ab, be, nI t0.2.2.1, t0.2.2.2.1, kp)) im t0.2.2.2.2.1 t0.2.2.2.2.2.1 t0.2.2.2.2.2.2.1 t0.2.2.2.2.2.2.2 ot) (hp1 : ¬ (nI 1 ≤ v ∧ v ≤ nI 20) → Post (some (.int (-1000000002))) h sz) (hp2 : ∀ u, 1 ≤ u → u ≤ 20 → v = nI u → ∀ (t1 : dT) (h1 : xH) (sz1 : Nat), P u t1 → Uv dA h1 b tx ln fa x pl t1.1 ((t1.2.1, ab, be, nI t1.2.2.1, t1.2.2.2.1, kp)) im t1.2.2.2.2.1 t1.2.2.2.2.2.1 t1.2.2.2.2.2.2.1 t1.2.2.2.2.2.2.2 ot → xF b (b + 279) h h1 → Post (some (.int (nI t1.2.2.1))) h1 sz1) (hpost : True) : xMet l yX4_drift wsX4_drift 6 148 0 0 D dA [.ref b, .int v] h sz Post := by
  refine x_open (cc := cX4_drift) (maxL := 3) (ret := (some .int)) (by decide) rfl (Nat.le_of_ble_eq_true rfl) ?_
  intro p e s m args below meth c G _
  have inX4 : ∀ w ∈ wsX40, w ∈ wsX4_drift := inX4_drift_4
  have inX3 : ∀ w ∈ wsX30, w ∈ wsX4_drift := inX4_drift_3
  have F := xF_rf (lo := b) (hi := b + 279) (h := h)
  refine x_iload_n G dX4_drift_0 rfl ?_
  refine x_iconstV (v := nI 1) G dX4_drift_1 (by decide) ?_
  refine x_icmp_lt G 11 dX4_drift_2 (by decide) (fun c_2 => ?_) (fun c_2 => ?_)
  · have hr : ¬ (nI 1 ≤ v ∧ v ≤ nI 20) := fun w => absurd w.1 (Int32.not_le.mpr c_2)
    refine x_ldc G (-1000000002) (by decide +kernel) dX4_drift_11 ?_
    exact x_iret G dX4_drift_13 (hp1 hr)
  · have h1 := Int32.not_lt.mp c_2
    refine x_iload_n G dX4_drift_5 rfl ?_
    refine x_bipushV (v := nI 20) G dX4_drift_6 (by decide) ?_
    refine x_icmp_le G 14 dX4_drift_8 (by decide) (fun c_8 => ?_) (fun c_8 => ?_)
    · have hr : nI 1 ≤ v ∧ v ≤ nI 20 := ⟨h1, c_8⟩
      obtain ⟨u, hk1, hk2, rfl⟩ := in_nat2 (lo := 1) (hi := 20) (by decide) (by decide) hr
      refine x_iconstV (v := nI 0) G dX4_drift_14 (by decide) ?_
      refine x_istore_n G dX4_drift_15 (by decide) ?_
      refine x_loop (σ := Unit) (fun j _ => [(0, .ref b), (1, .int (nI u)), (2, .int (nI j))]) u (fun j _ h1 sz1 => ∃ t, P j t ∧ Uv dA h1 b tx ln fa x pl t.1 ((t.2.1, ab, be, nI t.2.2.1, t.2.2.2.1, kp)) im t.2.2.2.2.1 t.2.2.2.2.2.1 t.2.2.2.2.2.2.1 t.2.2.2.2.2.2.2 ot ∧ xF b (b + 279) h h1) ?_ ?_ 0 () _ _ (Nat.zero_le _) ⟨t0, hP0, U, F⟩
      · intro j _ h1 sz1 hj hI nx
        try dsimp only at hI nx ⊢
        obtain ⟨t, hP, U, F⟩ := hI
        refine x_iload_n G dX4_drift_16 rfl ?_
        refine x_iload_n G dX4_drift_17 rfl ?_
        refine x_icmp_ge G 31 dX4_drift_18 (by decide) (fun c_18 => ?_) (fun c_18 => ?_)
        · exact absurd c_18 (nI_ge hj (by omega))
        · refine x_aload_n G dX4_drift_21 rfl ?_
          refine x_callV (n := 0) (rest := []) (As := []) G (ci := 4) (c_d_once (Post := fun r7 h7 sz7 => r7 = none ∧ ∃ t7, dnC ab be kp t t7 ∧ Uv dA h7 b tx ln fa x pl t7.1 ((t7.2.1, ab, be, nI t7.2.2.1, t7.2.2.2.1, kp)) im t7.2.2.2.2.1 t7.2.2.2.2.2.1 t7.2.2.2.2.2.2.1 t7.2.2.2.2.2.2.2 ot ∧ xF b (b + 279) h1 h7) l D (hst u hk1 hk2 rfl j t hj hP).1 U (fun t7 h7 sz7 q1 q2 q3 => ⟨rfl, t7, q1, q2, q3⟩)) gX4_drift_X4_driftOnce rfl ⟨rfl, by decide +kernel, by decide +kernel, by decide +kernel⟩ ⟨by decide, by decide⟩ rfl rfl (uv_o U) dX4_drift_22 rfl rfl (Nat.le_of_ble_eq_true rfl) ⟨by decide, by decide⟩ ?_
          rintro _ h3 sz3 ⟨rfl, t3, q1, U, F3⟩
          try dsimp only [Option.toList, List.cons_append, List.nil_append]
          replace F := xF_tr F F3
          replace hP := (hst u hk1 hk2 rfl j t hj hP).2 t3 q1
          refine x_iinc G dX4_drift_25 rfl (by decide) ?_
          refine x_locE (lv2 := [(0, .ref b), (1, .int (nI u)), (2, .int (nI (j + 1)))]) (by rw [nI_succ j]; rfl) ?_
          refine x_goto G 16 dX4_drift_28 (by decide) ?_
          exact nx () _ _ ⟨t3, hP, U, F⟩
      · intro _ h1 sz1 hI
        try dsimp only at hI ⊢
        obtain ⟨t, hP, U, F⟩ := hI
        refine x_iload_n G dX4_drift_16 rfl ?_
        refine x_iload_n G dX4_drift_17 rfl ?_
        refine x_icmp_ge G 31 dX4_drift_18 (by decide) (fun c_18 => ?_) (fun c_18 => ?_)
        · refine x_aload_n G dX4_drift_31 rfl ?_
          refine x_get G kX4 inX4 5 (by decide) (by decide +kernel) dX4_drift_32 (uv_o U) rfl ?_
          refine x_getN (host := "UnitVectors") G kX3 inX3 3 (by decide) (by decide +kernel) dX4_drift_35 (st_o (uv_n U)) rfl ?_
          exact x_iret G dX4_drift_38 (hp2 u hk1 hk2 rfl t _ _ hP U F)
        · exact absurd (nI_le (Nat.le_refl _) (by omega)) c_18
    · have hr : ¬ (nI 1 ≤ v ∧ v ≤ nI 20) := fun w => c_8 w.2
      refine x_ldc G (-1000000002) (by decide +kernel) dX4_drift_11 ?_
      exact x_iret G dX4_drift_13 (hp1 hr)
