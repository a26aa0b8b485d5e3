/-! ## The class: measured, converted, keep, goBack -/
theorem inX4_measured_4 : ∀ w ∈ wsX40, w ∈ wsX4_measured := by decide +kernel
def msC (po : Nat → Int32) (so : slT) (w : Nat) : Int64 := if w < 4 then pw_l po so.2.1 w + 1000000000000 else (if w - 4 < so.2.2.2.2.2 then r_dot 0 po 0 (so.1 (w - 4)) 0 6 else 0) + 1000000000000
set_option maxRecDepth 100000 in
set_option maxHeartbeats 4000000 in
/-- measured -/
theorem c_X4_measured (l : Launch) (D : va_G) {dA : Nat → ClassId} {b : Nat} {tx : Nat → Int32} {ln : Nat} {fa : Int32} {x : rT} {pl : Int32} {rd : Nat → Int32} {im : Nat → sT} {ss : Nat → sT} {mx : Nat} {ct : Nat} {so : slT} {ot : slT} {sy : Nat → Nat → Int32} {ab be : Nat → Int32} {n : Nat} {dw kp : Int32} {v : Int32} {h : xH} {sz : Nat} {Post : Option Value → xH → Nat → Prop} (hl60 : ln ≤ 60) (hs6 : so.2.2.2.2.2 ≤ 6) (U : Uv dA h b tx ln fa x pl rd ((sy, ab, be, nI n, dw, kp)) im ss mx ct so ot) (hp0 : ¬ (nI 0 ≤ v ∧ v ≤ nI 9) → Post (some (.long (-1000000002))) h sz) (hp1 : ∀ w, w ≤ 9 → v = nI w → ¬ (rt tx ln x (nI 0)).1 = 0 → ∀ (h1 : xH) (sz1 : Nat), Uv dA h1 b tx 0 (rt_p (rt tx ln x (nI 0))) ((rt tx ln x (nI 0)).2.2) (rt_p (rt tx ln x (nI 0))) rd ((sy, ab, be, nI n, dw, kp)) im ss mx ct so ot → xF b (b + 279) h h1 → Post (some (.long ((-10) - nI (rt tx ln x (nI 0)).1).toInt64)) h1 sz1) (hp2 : ∀ w, w ≤ 9 → v = nI w → (rt tx ln x (nI 0)).1 = 0 → ∀ (h1 : xH) (sz1 : Nat), Uv dA h1 b tx 0 (rt_p (rt tx ln x (nI 0))) ((rt tx ln x (nI 0)).2.2) (rt_p (rt tx ln x (nI 0))) (rt_d ((rt tx ln x (nI 0)).2.2.1 0) rd 10) ((sy, ab, be, nI n, dw, kp)) im ss mx ct so ot → xF b (b + 279) h h1 → Post (some (.long (msC (rt_d ((rt tx ln x (nI 0)).2.2.1 0) rd 10) so w))) h1 sz1) (hpost : True) : xMet l yX4_measured wsX4_measured 6 158 0 0 D dA [.ref b, .int v] h sz Post := by
  refine x_open (cc := cX4_measured) (maxL := 3) (ret := (some .long)) (by decide) rfl (Nat.le_of_ble_eq_true rfl) ?_
  intro p e s m args below meth c G _
  have inX4 : ∀ w ∈ wsX40, w ∈ wsX4_measured := inX4_measured_4
  have F := xF_rf (lo := b) (hi := b + 279) (h := h)
  refine x_iload_n G dX4_measured_0 rfl ?_
  refine x_if_lt G 10 dX4_measured_1 (by decide) (fun c_1 => ?_) (fun c_1 => ?_)
  · have hr : ¬ (nI 0 ≤ v ∧ v ≤ nI 9) := fun w => absurd w.1 (Int32.not_le.mpr c_1)
    refine x_ldc2_w G (-1000000002) (by decide +kernel) dX4_measured_10 ?_
    exact x_lret G dX4_measured_13 (hp0 hr)
  · have h1 := Int32.not_lt.mp c_1
    refine x_iload_n G dX4_measured_4 rfl ?_
    refine x_bipushV (v := nI 10) G dX4_measured_5 (by decide) ?_
    refine x_icmp_lt G 14 dX4_measured_7 (by decide) (fun c_7 => ?_) (fun c_7 => ?_)
    · have hr : nI 0 ≤ v ∧ v ≤ nI 9 := ⟨h1, (i_lts (k := 9) (by decide)).mp c_7⟩
      obtain ⟨w, -, hw, rfl⟩ := in_nat2 (lo := 0) (hi := 9) (by decide) (by decide) hr
      refine x_aload_n G dX4_measured_14 rfl ?_
      refine x_iconstV (v := nI 0) G dX4_measured_15 (by decide) ?_
      refine x_callV (n := 1) (rest := []) (As := [.int (nI 0)]) G (ci := 4) (c_X4_readText (Post := fun r7 h7 sz7 => (¬ (rt tx ln x (nI 0)).1 = 0 ∧ r7 = some (.int ((-10) - nI (rt tx ln x (nI 0)).1)) ∧ Uv dA h7 b tx 0 (rt_p (rt tx ln x (nI 0))) ((rt tx ln x (nI 0)).2.2) (rt_p (rt tx ln x (nI 0))) rd ((sy, ab, be, nI n, dw, kp)) im ss mx ct so ot ∧ xF b (b + 279) h h7) ∨ ((rt tx ln x (nI 0)).1 = 0 ∧ r7 = some (.int (nI 0)) ∧ Uv dA h7 b tx 0 (rt_p (rt tx ln x (nI 0))) ((rt tx ln x (nI 0)).2.2) (rt_p (rt tx ln x (nI 0))) (rt_d ((rt tx ln x (nI 0)).2.2.1 0) rd 10) ((sy, ab, be, nI n, dw, kp)) im ss mx ct so ot ∧ xF b (b + 279) h h7)) l D hl60 (by decide) (by decide) U (fun z h7 sz7 q1 q2 => Or.inl ⟨z, rfl, q1, q2⟩) (fun z h7 sz7 q1 q2 => Or.inr ⟨z, rfl, q1, q2⟩) trivial) gX4_measured_X4_readText rfl ⟨rfl, by decide +kernel, by decide +kernel, by decide +kernel⟩ ⟨by decide, by decide⟩ rfl rfl (uv_o U) dX4_measured_16 rfl rfl (Nat.le_of_ble_eq_true rfl) ⟨by decide, by decide⟩ ?_
      rintro _ h2 sz2 (⟨e0, rfl, U, F⟩ | ⟨e0, rfl, U, F⟩)
      · try dsimp only [Option.toList, List.cons_append, List.nil_append]
        refine x_istore_n G dX4_measured_19 (by decide) ?_
        refine x_iload_n G dX4_measured_20 rfl ?_
        refine x_if_eq G 27 dX4_measured_21 (by decide) (fun c_21 => ?_) (fun c_21 => ?_)
        · exact absurd c_21 (m10_ne _ rt_lt)
        · refine x_iload_n G dX4_measured_24 rfl ?_
          refine x_i2l G dX4_measured_25 ?_
          exact x_lret G dX4_measured_26 (hp1 w hw rfl e0 _ _ U F)
      · try dsimp only [Option.toList, List.cons_append, List.nil_append]
        obtain ⟨ad, S⟩ := uv_s U
        replace hp2 := hp2 w hw rfl e0 _ sz2 U F
        refine x_istore_n G dX4_measured_19 (by decide) ?_
        refine x_iload_n G dX4_measured_20 rfl ?_
        refine x_if_eq G 27 dX4_measured_21 (by decide) (fun c_21 => ?_) (fun c_21 => ?_)
        · refine x_iload_n G dX4_measured_27 rfl ?_
          refine x_iconstV (v := nI 4) G dX4_measured_28 (by decide) ?_
          refine x_icmp_ge G 49 dX4_measured_29 (by decide) (fun c_29 => ?_) (fun c_29 => ?_)
          · have hw4 : ¬ w < 4 := fun z => absurd c_29 (nI_ge z (by decide))
            have em : msC (rt_d ((rt tx ln x (nI 0)).2.2.1 0) rd 10) so w = _ := if_neg hw4
            rw [em] at hp2
            refine x_aload_n G dX4_measured_49 rfl ?_
            refine x_get G kX4 inX4 8 (by decide) (by decide +kernel) dX4_measured_50 (uv_o U) rfl ?_
            refine x_aload_n G dX4_measured_53 rfl ?_
            refine x_get G kX4 inX4 4 (by decide) (by decide +kernel) dX4_measured_54 (uv_o U) rfl ?_
            refine x_iload_n G dX4_measured_57 rfl ?_
            refine x_iconstV (v := nI 4) G dX4_measured_58 (by decide) ?_
            refine x_isub G dX4_measured_59 ?_
            refine x_topE (y := nI (w - 4)) (pk_sub (by omega)) ?_
            refine x_callV (n := 2) (rest := []) (As := [.ref (b + 13), .int (nI (w - 4))]) G (ci := 2) (c_X2_rise (Post := fun r7 h7 sz7 => r7 = some (.long (if w - 4 < so.2.2.2.2.2 then r_dot 0 (rt_d ((rt tx ln x (nI 0)).2.2.1 0) rd 10) 0 (so.1 (w - 4)) 0 6 else 0)) ∧ h2 = h7 ∧ sz2 = sz7) l D hs6 (by omega) (by decide) (by decide) (uv_d U) S ⟨rfl, rfl, rfl⟩) gX4_measured_X2_rise rfl ⟨rfl, by decide +kernel, by decide +kernel, by decide +kernel⟩ ⟨by decide, by decide⟩ rfl rfl (sl_o S) dX4_measured_60 rfl rfl (Nat.le_of_ble_eq_true rfl) ⟨by decide, by decide⟩ ?_
            rintro _ _ _ ⟨rfl, rfl, rfl⟩
            try dsimp only [Option.toList, List.cons_append, List.nil_append]
            refine x_ldc2_w G (1000000000000) (by decide +kernel) dX4_measured_63 ?_
            refine x_ladd G dX4_measured_66 ?_
            exact x_lret G dX4_measured_67 hp2
          · have hw4 : w < 4 := by
              rcases Nat.lt_or_ge w 4 with z | z
              · exact z
              · exact absurd (nI_le z (by omega)) c_29
            have em : msC (rt_d ((rt tx ln x (nI 0)).2.2.1 0) rd 10) so w = _ := if_pos hw4
            rw [em] at hp2
            refine x_aload_n G dX4_measured_32 rfl ?_
            refine x_get G kX4 inX4 8 (by decide) (by decide +kernel) dX4_measured_33 (uv_o U) rfl ?_
            refine x_aload_n G dX4_measured_36 rfl ?_
            refine x_get G kX4 inX4 4 (by decide) (by decide +kernel) dX4_measured_37 (uv_o U) rfl ?_
            refine x_iload_n G dX4_measured_40 rfl ?_
            refine x_callV (n := 2) (rest := []) (As := [.ref (b + 13), .int (nI w)]) G (ci := 2) (c_X2_powerOf (Post := fun r7 h7 sz7 => r7 = some (.long (pw_l (rt_d ((rt tx ln x (nI 0)).2.2.1 0) rd 10) so.2.1 w)) ∧ h2 = h7 ∧ sz2 = sz7) l D hw4 (by decide) (by decide) (uv_d U) S ⟨rfl, rfl, rfl⟩) gX4_measured_X2_powerOf rfl ⟨rfl, by decide +kernel, by decide +kernel, by decide +kernel⟩ ⟨by decide, by decide⟩ rfl rfl (sl_o S) dX4_measured_41 rfl rfl (Nat.le_of_ble_eq_true rfl) ⟨by decide, by decide⟩ ?_
            rintro _ _ _ ⟨rfl, rfl, rfl⟩
            try dsimp only [Option.toList, List.cons_append, List.nil_append]
            refine x_ldc2_w G (1000000000000) (by decide +kernel) dX4_measured_44 ?_
            refine x_ladd G dX4_measured_47 ?_
            exact x_lret G dX4_measured_48 hp2
        · exact absurd rfl c_21
    · have hr : ¬ (nI 0 ≤ v ∧ v ≤ nI 9) := fun w => c_7 ((i_lts (k := 9) (by decide)).mpr w.2)
      refine x_ldc2_w G (-1000000002) (by decide +kernel) dX4_measured_10 ?_
      exact x_lret G dX4_measured_13 (hp0 hr)
theorem inX4_converted_4 : ∀ w ∈ wsX40, w ∈ wsX4_converted := by decide +kernel
def mu_f (rd : Nat → Int32) (j : Nat) : Nat := (ab_i (rd (6 + j))).toNatClampNeg
theorem ab_i_k {x : Int32} (h1 : ¬ nI 3 < x) (h2 : (-3) ≤ x) : ab_i x = nI (ab_i x).toNatClampNeg ∧ (ab_i x).toNatClampNeg < 4 := by
  rw [Int32.lt_iff_toInt_lt, nI_toInt (by decide)] at h1
  rw [Int32.le_iff_toInt_le, show (-3 : Int32).toInt = -3 from by decide] at h2
  have key : ∀ y : Int32, y.toInt = x.toInt → (ab_i y = nI (ab_i y).toNatClampNeg ∧ (ab_i y).toNatClampNeg < 4) → ab_i x = nI (ab_i x).toNatClampNeg ∧ (ab_i x).toNatClampNeg < 4 := fun y e z => by
    rw [← Int32.toInt_inj.mp e]
    exact z
  rcases (show x.toInt = -3 ∨ x.toInt = -2 ∨ x.toInt = -1 ∨ x.toInt = 0 ∨ x.toInt = 1 ∨ x.toInt = 2 ∨ x.toInt = 3 by omega) with e | e | e | e | e | e | e
  · exact key (-3) (by rw [e]; decide) (by decide)
  · exact key (-2) (by rw [e]; decide) (by decide)
  · exact key (-1) (by rw [e]; decide) (by decide)
  · exact key 0 (by rw [e]; decide) (by decide)
  · exact key 1 (by rw [e]; decide) (by decide)
  · exact key 2 (by rw [e]; decide) (by decide)
  · exact key 3 (by rw [e]; decide) (by decide)
theorem cc_mu {rd : Nat → Int32} (h : cc_q rd) : ∀ j, j < 4 → ab_i (rd (6 + j)) = nI (mu_f rd j) ∧ mu_f rd j < 100 := fun j hj => by
  have z := h.2 (6 + j) (by omega) (by omega)
  have y := ab_i_k z.1 z.2
  exact ⟨y.1, Nat.lt_trans y.2 (by decide)⟩
set_option maxRecDepth 100000 in
set_option maxHeartbeats 4000000 in
/-- converted -/
theorem c_X4_converted (l : Launch) (D : va_G) {dA : Nat → ClassId} {b : Nat} {tx : Nat → Int32} {ln : Nat} {fa : Int32} {x : rT} {pl : Int32} {rd : Nat → Int32} {im : Nat → sT} {ss : Nat → sT} {mx : Nat} {ct : Nat} {so : slT} {ot : slT} {sy : Nat → Nat → Int32} {ab be : Nat → Int32} {n : Nat} {dw kp : Int32} {v y : Int32} {h : xH} {sz : Nat} {Post : Option Value → xH → Nat → Prop} (hl60 : ln ≤ 60) (hD : (rt tx ln x (nI 0)).1 = 0 → cc_q (rt_d ((rt tx ln x (nI 0)).2.2.1 0) rd 10) → 0 < (sp_a (rt_d ((rt tx ln x (nI 0)).2.2.1 0) rd 10) ab be (nI 0) (mu_f (rt_d ((rt tx ln x (nI 0)).2.2.1 0) rd 10)) 4)) (U : Uv dA h b tx ln fa x pl rd ((sy, ab, be, nI n, dw, kp)) im ss mx ct so ot) (hp0 : ¬ ((nI 0 ≤ v ∧ v ≤ 1000000) ∧ (nI 0 ≤ y ∧ y ≤ nI 3)) → Post (some (.long (-1000000002))) h sz) (hp1 : ((nI 0 ≤ v ∧ v ≤ 1000000) ∧ (nI 0 ≤ y ∧ y ≤ nI 3)) → ¬ (rt tx ln x (nI 0)).1 = 0 → ∀ (h1 : xH) (sz1 : Nat), Uv dA h1 b tx 0 (rt_p (rt tx ln x (nI 0))) ((rt tx ln x (nI 0)).2.2) (rt_p (rt tx ln x (nI 0))) rd ((sy, ab, be, nI n, dw, kp)) im ss mx ct so ot → xF b (b + 279) h h1 → Post (some (.long ((-10) - nI (rt tx ln x (nI 0)).1).toInt64)) h1 sz1) (hp2 : ((nI 0 ≤ v ∧ v ≤ 1000000) ∧ (nI 0 ≤ y ∧ y ≤ nI 3)) → (rt tx ln x (nI 0)).1 = 0 → ¬ cc_q (rt_d ((rt tx ln x (nI 0)).2.2.1 0) rd 10) → ∀ (h1 : xH) (sz1 : Nat), Uv dA h1 b tx 0 (rt_p (rt tx ln x (nI 0))) ((rt tx ln x (nI 0)).2.2) (rt_p (rt tx ln x (nI 0))) (rt_d ((rt tx ln x (nI 0)).2.2.1 0) rd 10) ((sy, ab, be, nI n, dw, kp)) im ss mx ct so ot → xF b (b + 279) h h1 → Post (some (.long (-1000000003))) h1 sz1) (hp3 : ∀ w, w ≤ 3 → y = nI w → ((nI 0 ≤ v ∧ v ≤ 1000000) ∧ (nI 0 ≤ y ∧ y ≤ nI 3)) → (rt tx ln x (nI 0)).1 = 0 → cc_q (rt_d ((rt tx ln x (nI 0)).2.2.1 0) rd 10) → cw_q (v.toInt64 * sp_a (rt_d ((rt tx ln x (nI 0)).2.2.1 0) rd 10) ab be (nI 1) (mu_f (rt_d ((rt tx ln x (nI 0)).2.2.1 0) rd 10)) 4) (sp_a (rt_d ((rt tx ln x (nI 0)).2.2.1 0) rd 10) ab be (nI 0) (mu_f (rt_d ((rt tx ln x (nI 0)).2.2.1 0) rd 10)) 4) w → ∀ (h1 : xH) (sz1 : Nat), Uv dA h1 b tx 0 (rt_p (rt tx ln x (nI 0))) ((rt tx ln x (nI 0)).2.2) (rt_p (rt tx ln x (nI 0))) (rt_d ((rt tx ln x (nI 0)).2.2.1 0) rd 10) ((sy, ab, be, nI n, dw, kp)) im ss mx ct so ot → xF b (b + 279) h h1 → Post (some (.long ((v.toInt64 * sp_a (rt_d ((rt tx ln x (nI 0)).2.2.1 0) rd 10) ab be (nI 1) (mu_f (rt_d ((rt tx ln x (nI 0)).2.2.1 0) rd 10)) 4) / (sp_a (rt_d ((rt tx ln x (nI 0)).2.2.1 0) rd 10) ab be (nI 0) (mu_f (rt_d ((rt tx ln x (nI 0)).2.2.1 0) rd 10)) 4) + 1))) h1 sz1) (hp4 : ∀ w, w ≤ 3 → y = nI w → ((nI 0 ≤ v ∧ v ≤ 1000000) ∧ (nI 0 ≤ y ∧ y ≤ nI 3)) → (rt tx ln x (nI 0)).1 = 0 → cc_q (rt_d ((rt tx ln x (nI 0)).2.2.1 0) rd 10) → ¬ cw_q (v.toInt64 * sp_a (rt_d ((rt tx ln x (nI 0)).2.2.1 0) rd 10) ab be (nI 1) (mu_f (rt_d ((rt tx ln x (nI 0)).2.2.1 0) rd 10)) 4) (sp_a (rt_d ((rt tx ln x (nI 0)).2.2.1 0) rd 10) ab be (nI 0) (mu_f (rt_d ((rt tx ln x (nI 0)).2.2.1 0) rd 10)) 4) w → ∀ (h1 : xH) (sz1 : Nat), Uv dA h1 b tx 0 (rt_p (rt tx ln x (nI 0))) ((rt tx ln x (nI 0)).2.2) (rt_p (rt tx ln x (nI 0))) (rt_d ((rt tx ln x (nI 0)).2.2.1 0) rd 10) ((sy, ab, be, nI n, dw, kp)) im ss mx ct so ot → xF b (b + 279) h h1 → Post (some (.long ((v.toInt64 * sp_a (rt_d ((rt tx ln x (nI 0)).2.2.1 0) rd 10) ab be (nI 1) (mu_f (rt_d ((rt tx ln x (nI 0)).2.2.1 0) rd 10)) 4) / (sp_a (rt_d ((rt tx ln x (nI 0)).2.2.1 0) rd 10) ab be (nI 0) (mu_f (rt_d ((rt tx ln x (nI 0)).2.2.1 0) rd 10)) 4)))) h1 sz1) (hpost : True) : xMet l yX4_converted wsX4_converted 6 158 0 0 D dA [.ref b, .int v, .int y] h sz Post := by
  refine x_open (cc := cX4_converted) (maxL := 4) (ret := (some .long)) (by decide) rfl (Nat.le_of_ble_eq_true rfl) ?_
  intro p e s m args below meth c G _
  have inX4 : ∀ w ∈ wsX40, w ∈ wsX4_converted := inX4_converted_4
  have F := xF_rf (lo := b) (hi := b + 279) (h := h)
  refine x_iload_n G dX4_converted_0 rfl ?_
  refine x_if_lt G 19 dX4_converted_1 (by decide) (fun c_1 => ?_) (fun c_1 => ?_)
  · have hr : ¬ ((nI 0 ≤ v ∧ v ≤ 1000000) ∧ (nI 0 ≤ y ∧ y ≤ nI 3)) := fun w => absurd w.1.1 (Int32.not_le.mpr c_1)
    refine x_ldc2_w G (-1000000002) (by decide +kernel) dX4_converted_19 ?_
    exact x_lret G dX4_converted_22 (hp0 hr)
  · have g1 := Int32.not_lt.mp c_1
    refine x_iload_n G dX4_converted_4 rfl ?_
    refine x_ldc G (1000000) (by decide +kernel) dX4_converted_5 ?_
    refine x_icmp_gt G 19 dX4_converted_7 (by decide) (fun c_7 => ?_) (fun c_7 => ?_)
    · have hr : ¬ ((nI 0 ≤ v ∧ v ≤ 1000000) ∧ (nI 0 ≤ y ∧ y ≤ nI 3)) := fun w => absurd w.1.2 (Int32.not_le.mpr c_7)
      refine x_ldc2_w G (-1000000002) (by decide +kernel) dX4_converted_19 ?_
      exact x_lret G dX4_converted_22 (hp0 hr)
    · have g2 := Int32.not_lt.mp c_7
      refine x_iload_n G dX4_converted_10 rfl ?_
      refine x_if_lt G 19 dX4_converted_11 (by decide) (fun c_11 => ?_) (fun c_11 => ?_)
      · have hr : ¬ ((nI 0 ≤ v ∧ v ≤ 1000000) ∧ (nI 0 ≤ y ∧ y ≤ nI 3)) := fun w => absurd w.2.1 (Int32.not_le.mpr c_11)
        refine x_ldc2_w G (-1000000002) (by decide +kernel) dX4_converted_19 ?_
        exact x_lret G dX4_converted_22 (hp0 hr)
      · have g3 := Int32.not_lt.mp c_11
        refine x_iload_n G dX4_converted_14 rfl ?_
        refine x_iconstV (v := nI 4) G dX4_converted_15 (by decide) ?_
        refine x_icmp_lt G 23 dX4_converted_16 (by decide) (fun c_16 => ?_) (fun c_16 => ?_)
        · have g4 := (i_lts (k := 3) (by decide)).mp c_16
          have hr : (nI 0 ≤ v ∧ v ≤ 1000000) ∧ (nI 0 ≤ y ∧ y ≤ nI 3) := ⟨⟨g1, g2⟩, g3, g4⟩
          obtain ⟨w, -, hw, rfl⟩ := in_nat2 (lo := 0) (hi := 3) (by decide) (by decide) ⟨g3, g4⟩
          refine x_aload_n G dX4_converted_23 rfl ?_
          refine x_iconstV (v := nI 0) G dX4_converted_24 (by decide) ?_
          refine x_callV (n := 1) (rest := []) (As := [.int (nI 0)]) G (ci := 4) (c_X4_readText (Post := fun r7 h7 sz7 => (¬ (rt tx ln x (nI 0)).1 = 0 ∧ r7 = some (.int ((-10) - nI (rt tx ln x (nI 0)).1)) ∧ Uv dA h7 b tx 0 (rt_p (rt tx ln x (nI 0))) ((rt tx ln x (nI 0)).2.2) (rt_p (rt tx ln x (nI 0))) rd ((sy, ab, be, nI n, dw, kp)) im ss mx ct so ot ∧ xF b (b + 279) h h7) ∨ ((rt tx ln x (nI 0)).1 = 0 ∧ r7 = some (.int (nI 0)) ∧ Uv dA h7 b tx 0 (rt_p (rt tx ln x (nI 0))) ((rt tx ln x (nI 0)).2.2) (rt_p (rt tx ln x (nI 0))) (rt_d ((rt tx ln x (nI 0)).2.2.1 0) rd 10) ((sy, ab, be, nI n, dw, kp)) im ss mx ct so ot ∧ xF b (b + 279) h h7)) l D hl60 (by decide) (by decide) U (fun z h7 sz7 q1 q2 => Or.inl ⟨z, rfl, q1, q2⟩) (fun z h7 sz7 q1 q2 => Or.inr ⟨z, rfl, q1, q2⟩) trivial) gX4_converted_X4_readText rfl ⟨rfl, by decide +kernel, by decide +kernel, by decide +kernel⟩ ⟨by decide, by decide⟩ rfl rfl (uv_o U) dX4_converted_25 rfl rfl (Nat.le_of_ble_eq_true rfl) ⟨by decide, by decide⟩ ?_
          rintro _ h2 sz2 (⟨e0, rfl, U, F⟩ | ⟨e0, rfl, U, F⟩)
          · try dsimp only [Option.toList, List.cons_append, List.nil_append]
            refine x_istore_n G dX4_converted_28 (by decide) ?_
            refine x_iload_n G dX4_converted_29 rfl ?_
            refine x_if_eq G 36 dX4_converted_30 (by decide) (fun c_30 => ?_) (fun c_30 => ?_)
            · exact absurd c_30 (m10_ne _ rt_lt)
            · refine x_iload_n G dX4_converted_33 rfl ?_
              refine x_i2l G dX4_converted_34 ?_
              exact x_lret G dX4_converted_35 (hp1 hr e0 _ _ U F)
          · try dsimp only [Option.toList, List.cons_append, List.nil_append]
            refine x_istore_n G dX4_converted_28 (by decide) ?_
            refine x_iload_n G dX4_converted_29 rfl ?_
            refine x_if_eq G 36 dX4_converted_30 (by decide) (fun c_30 => ?_) (fun c_30 => ?_)
            · refine x_aload_n G dX4_converted_36 rfl ?_
              refine x_callV (n := 0) (rest := []) (As := []) G (ci := 4) (c_X4_canConvert (Post := fun r7 h7 sz7 => ((cc_q (rt_d ((rt tx ln x (nI 0)).2.2.1 0) rd 10) ∧ r7 = some (.int (nI 1))) ∨ (¬ cc_q (rt_d ((rt tx ln x (nI 0)).2.2.1 0) rd 10) ∧ r7 = some (.int (nI 0)))) ∧ h2 = h7 ∧ sz2 = sz7) l D U (fun z => ⟨Or.inl ⟨z, rfl⟩, rfl, rfl⟩) (fun z => ⟨Or.inr ⟨z, rfl⟩, rfl, rfl⟩) trivial) gX4_converted_X4_canConvert rfl ⟨rfl, by decide +kernel, by decide +kernel, by decide +kernel⟩ ⟨by decide, by decide⟩ rfl rfl (uv_o U) dX4_converted_37 rfl rfl (Nat.le_of_ble_eq_true rfl) ⟨by decide, by decide⟩ ?_
              rintro _ _ _ ⟨⟨ec, rfl⟩ | ⟨ec, rfl⟩, rfl, rfl⟩
              · try dsimp only [Option.toList, List.cons_append, List.nil_append]
                refine x_if_ne G 47 dX4_converted_40 (by decide) (fun c_40 => ?_) (fun c_40 => ?_)
                · clear c_40
                  refine x_iload_n G dX4_converted_47 rfl ?_
                  refine x_i2l G dX4_converted_48 ?_
                  refine x_aload_n G dX4_converted_49 rfl ?_
                  refine x_iconstV (v := nI 1) G dX4_converted_50 (by decide) ?_
                  refine x_callV (n := 1) (rest := [.long v.toInt64]) (As := [.int (nI 1)]) G (ci := 4) (c_X4_scaleProduct (Post := fun r7 h7 sz7 => r7 = some (.long (sp_a (rt_d ((rt tx ln x (nI 0)).2.2.1 0) rd 10) ab be (nI 1) (mu_f (rt_d ((rt tx ln x (nI 0)).2.2.1 0) rd 10)) 4)) ∧ h2 = h7 ∧ sz2 = sz7) l D (cc_mu ec) U ⟨rfl, rfl, rfl⟩) gX4_converted_X4_scaleProduct rfl ⟨rfl, by decide +kernel, by decide +kernel, by decide +kernel⟩ ⟨by decide, by decide⟩ rfl rfl (uv_o U) dX4_converted_51 rfl rfl (Nat.le_of_ble_eq_true rfl) ⟨by decide, by decide⟩ ?_
                  rintro _ _ _ ⟨rfl, rfl, rfl⟩
                  try dsimp only [Option.toList, List.cons_append, List.nil_append]
                  refine x_lmul G dX4_converted_54 ?_
                  refine x_aload_n G dX4_converted_55 rfl ?_
                  refine x_iconstV (v := nI 0) G dX4_converted_56 (by decide) ?_
                  refine x_callV (n := 1) (rest := [.long (v.toInt64 * sp_a (rt_d ((rt tx ln x (nI 0)).2.2.1 0) rd 10) ab be (nI 1) (mu_f (rt_d ((rt tx ln x (nI 0)).2.2.1 0) rd 10)) 4)]) (As := [.int (nI 0)]) G (ci := 4) (c_X4_scaleProduct (Post := fun r7 h7 sz7 => r7 = some (.long (sp_a (rt_d ((rt tx ln x (nI 0)).2.2.1 0) rd 10) ab be (nI 0) (mu_f (rt_d ((rt tx ln x (nI 0)).2.2.1 0) rd 10)) 4)) ∧ h2 = h7 ∧ sz2 = sz7) l D (cc_mu ec) U ⟨rfl, rfl, rfl⟩) gX4_converted_X4_scaleProduct rfl ⟨rfl, by decide +kernel, by decide +kernel, by decide +kernel⟩ ⟨by decide, by decide⟩ rfl rfl (uv_o U) dX4_converted_57 rfl rfl (Nat.le_of_ble_eq_true rfl) ⟨by decide, by decide⟩ ?_
                  rintro _ _ _ ⟨rfl, rfl, rfl⟩
                  try dsimp only [Option.toList, List.cons_append, List.nil_append]
                  refine x_iload_n G dX4_converted_60 rfl ?_
                  refine x_callS (n := 3) (rest := []) (As := [.long (v.toInt64 * sp_a (rt_d ((rt tx ln x (nI 0)).2.2.1 0) rd 10) ab be (nI 1) (mu_f (rt_d ((rt tx ln x (nI 0)).2.2.1 0) rd 10)) 4), .long (sp_a (rt_d ((rt tx ln x (nI 0)).2.2.1 0) rd 10) ab be (nI 0) (mu_f (rt_d ((rt tx ln x (nI 0)).2.2.1 0) rd 10)) 4), .int (nI w)]) G (c_X4_whole (Post := fun r7 h7 sz7 => ((cw_q (v.toInt64 * sp_a (rt_d ((rt tx ln x (nI 0)).2.2.1 0) rd 10) ab be (nI 1) (mu_f (rt_d ((rt tx ln x (nI 0)).2.2.1 0) rd 10)) 4) (sp_a (rt_d ((rt tx ln x (nI 0)).2.2.1 0) rd 10) ab be (nI 0) (mu_f (rt_d ((rt tx ln x (nI 0)).2.2.1 0) rd 10)) 4) w ∧ r7 = some (.long ((v.toInt64 * sp_a (rt_d ((rt tx ln x (nI 0)).2.2.1 0) rd 10) ab be (nI 1) (mu_f (rt_d ((rt tx ln x (nI 0)).2.2.1 0) rd 10)) 4) / (sp_a (rt_d ((rt tx ln x (nI 0)).2.2.1 0) rd 10) ab be (nI 0) (mu_f (rt_d ((rt tx ln x (nI 0)).2.2.1 0) rd 10)) 4) + 1))) ∨ (¬ cw_q (v.toInt64 * sp_a (rt_d ((rt tx ln x (nI 0)).2.2.1 0) rd 10) ab be (nI 1) (mu_f (rt_d ((rt tx ln x (nI 0)).2.2.1 0) rd 10)) 4) (sp_a (rt_d ((rt tx ln x (nI 0)).2.2.1 0) rd 10) ab be (nI 0) (mu_f (rt_d ((rt tx ln x (nI 0)).2.2.1 0) rd 10)) 4) w ∧ r7 = some (.long ((v.toInt64 * sp_a (rt_d ((rt tx ln x (nI 0)).2.2.1 0) rd 10) ab be (nI 1) (mu_f (rt_d ((rt tx ln x (nI 0)).2.2.1 0) rd 10)) 4) / (sp_a (rt_d ((rt tx ln x (nI 0)).2.2.1 0) rd 10) ab be (nI 0) (mu_f (rt_d ((rt tx ln x (nI 0)).2.2.1 0) rd 10)) 4))))) ∧ h2 = h7 ∧ sz2 = sz7) l D (hD e0 ec) hw (fun z => ⟨Or.inl ⟨z, rfl⟩, rfl, rfl⟩) (fun z => ⟨Or.inr ⟨z, rfl⟩, rfl, rfl⟩) trivial) gX4_converted_X4_whole rfl ⟨by decide +kernel, by decide +kernel, by decide +kernel⟩ ⟨by decide, by decide⟩ dX4_converted_61 rfl rfl (Nat.le_of_ble_eq_true rfl) ⟨by decide, by decide⟩ ?_
                  rintro _ _ _ ⟨⟨ew, rfl⟩ | ⟨ew, rfl⟩, rfl, rfl⟩
                  · try dsimp only [Option.toList, List.cons_append, List.nil_append]
                    exact x_lret G dX4_converted_64 (hp3 w hw rfl hr e0 ec ew _ _ U F)
                  · try dsimp only [Option.toList, List.cons_append, List.nil_append]
                    exact x_lret G dX4_converted_64 (hp4 w hw rfl hr e0 ec ew _ _ U F)
                · exact absurd c_40 (by decide)
              · try dsimp only [Option.toList, List.cons_append, List.nil_append]
                refine x_if_ne G 47 dX4_converted_40 (by decide) (fun c_40 => ?_) (fun c_40 => ?_)
                · exact absurd rfl c_40
                · refine x_ldc2_w G (-1000000003) (by decide +kernel) dX4_converted_43 ?_
                  exact x_lret G dX4_converted_46 (hp2 hr e0 ec _ _ U F)
            · exact absurd rfl c_30
        · have hr : ¬ ((nI 0 ≤ v ∧ v ≤ 1000000) ∧ (nI 0 ≤ y ∧ y ≤ nI 3)) := fun w => c_16 ((i_lts (k := 3) (by decide)).mpr w.2.2)
          refine x_ldc2_w G (-1000000002) (by decide +kernel) dX4_converted_19 ?_
          exact x_lret G dX4_converted_22 (hp0 hr)
theorem inX4_keep_4 : ∀ w ∈ wsX40, w ∈ wsX4_keep := by decide +kernel
theorem inX4_keep_3 : ∀ w ∈ wsX30, w ∈ wsX4_keep := by decide +kernel
theorem im_im {k : Nat} {t t2 : sT} {im : Nat → sT} : (fun i => if i = k then t2 else (fun i => if i = k then t else im i) i) = fun i => if i = k then t2 else im i := by
  funext i
  by_cases e : i = k
  · rw [if_pos e, if_pos e]
  · rw [if_neg e, if_neg e]
    exact if_neg e
set_option maxRecDepth 100000 in
set_option maxHeartbeats 4000000 in
/-- keep -/
theorem c_X4_keep (l : Launch) (D : va_G) {dA : Nat → ClassId} {b : Nat} {tx : Nat → Int32} {ln : Nat} {fa : Int32} {x : rT} {pl : Int32} {rd : Nat → Int32} {im : Nat → sT} {ss : Nat → sT} {mx : Nat} {ct : Nat} {so : slT} {ot : slT} {sy : Nat → Nat → Int32} {ab be : Nat → Int32} {n : Nat} {dw kp : Int32} {v : Int32} {h : xH} {sz : Nat} {Post : Option Value → xH → Nat → Prop} (U : Uv dA h b tx ln fa x pl rd ((sy, ab, be, nI n, dw, kp)) im ss mx ct so ot) (hp1 : ¬ (nI 0 ≤ v ∧ v ≤ nI 1) → Post (some (.int (-1000000001))) h sz) (hp2 : ∀ k, k ≤ 1 → v = nI k → ∀ (h1 : xH) (sz1 : Nat), Uv dA h1 b tx ln fa x pl rd ((sy, ab, be, nI n, dw, kp)) ((fun i => if i = k then (cp_s sy (im k).1 6, va_cpy ab (im k).2.1 0 0 4, va_cpy be (im k).2.2.1 0 0 4, nI n, dw, nI 1) else im i)) ss mx 0 so ot → xF b (b + 279) h h1 → Post (some (.int (nI 1))) h1 sz1) (hpost : True) : xMet l yX4_keep wsX4_keep 3 92 0 0 D dA [.ref b, .int v] h sz Post := by
  refine x_open (cc := cX4_keep) (maxL := 3) (ret := (some .int)) (by decide) rfl (Nat.le_of_ble_eq_true rfl) ?_
  intro p e s m args below meth c G _
  have inX4 : ∀ w ∈ wsX40, w ∈ wsX4_keep := inX4_keep_4
  have inX3 : ∀ w ∈ wsX30, w ∈ wsX4_keep := inX4_keep_3
  have F := xF_rf (lo := b) (hi := b + 279) (h := h)
  refine x_iload_n G dX4_keep_0 rfl ?_
  refine x_if_lt G 9 dX4_keep_1 (by decide) (fun c_1 => ?_) (fun c_1 => ?_)
  · have hr : ¬ (nI 0 ≤ v ∧ v ≤ nI 1) := fun w => absurd w.1 (Int32.not_le.mpr c_1)
    refine x_ldc G (-1000000001) (by decide +kernel) dX4_keep_9 ?_
    exact x_iret G dX4_keep_11 (hp1 hr)
  · have h1 := Int32.not_lt.mp c_1
    refine x_iload_n G dX4_keep_4 rfl ?_
    refine x_iconstV (v := nI 2) G dX4_keep_5 (by decide) ?_
    refine x_icmp_lt G 12 dX4_keep_6 (by decide) (fun c_6 => ?_) (fun c_6 => ?_)
    · have hr : nI 0 ≤ v ∧ v ≤ nI 1 := ⟨h1, (i_lts (k := 1) (by decide)).mp c_6⟩
      obtain ⟨k, -, hk, rfl⟩ := in_nat2 (lo := 0) (hi := 1) (by decide) (by decide) hr
      refine x_aload_n G dX4_keep_12 rfl ?_
      refine x_get G kX4 inX4 6 (by decide) (by decide +kernel) dX4_keep_13 (uv_o U) rfl ?_
      refine x_iload_n G dX4_keep_16 rfl ?_
      refine x_aald (t := 3) G rfl rfl dX4_keep_17 (uv_g U) (vp_in_nI (show k < 2 by omega) (by decide)) (show (if (nI k).toNatClampNeg < 2 then some (b + 259 + 10 * (nI k).toNatClampNeg) else none) = some (b + 259 + 10 * k) by rw [nI_clamp (by omega), if_pos (by omega)]) ?_
      refine x_astore_n G dX4_keep_18 (by decide) ?_
      refine x_aload_n G dX4_keep_19 rfl ?_
      refine x_aload_n G dX4_keep_20 rfl ?_
      refine x_get G kX4 inX4 5 (by decide) (by decide +kernel) dX4_keep_21 (uv_o U) rfl ?_
      refine x_callV (n := 1) (rest := []) (As := [.ref (b + 14)]) G (ci := 3) (c_X3_copyDeeds (Post := fun r7 h7 sz7 => r7 = none ∧ StT dA h7 (b + 259 + 10 * k) (cp_s sy (im k).1 6, va_cpy ab (im k).2.1 0 0 4, va_cpy be (im k).2.2.1 0 0 4, nI n, (im k).2.2.2.2.1, (im k).2.2.2.2.2) ∧ xF (b + 259 + 10 * k) (b + 259 + 10 * k + 10) h h7) l D (by omega) (uv_i U (show k < 2 by omega)) (uv_n U) (fun h7 sz7 q1 q2 => ⟨rfl, q1, q2⟩)) gX4_keep_X3_copyDeeds rfl ⟨rfl, by decide +kernel, by decide +kernel, by decide +kernel⟩ ⟨by decide, by decide⟩ rfl rfl (st_o (uv_i U (show k < 2 by omega))) dX4_keep_24 rfl rfl (Nat.le_of_ble_eq_true rfl) ⟨by decide, by decide⟩ ?_
      rintro _ h3 sz3 ⟨rfl, Z, F3⟩
      try dsimp only [Option.toList, List.cons_append, List.nil_append]
      have U0 := uv_iu U (k := k) (t := (cp_s sy (im k).1 6, va_cpy ab (im k).2.1 0 0 4, va_cpy be (im k).2.2.1 0 0 4, nI n, (im k).2.2.2.2.1, (im k).2.2.2.2.2)) (by omega) Z F3
      replace F := xF_tr F (xF_wd (lo1 := b) (hi1 := b + 279) F3 (by omega) (by omega))
      refine x_aload_n G dX4_keep_27 rfl ?_
      refine x_aload_n G dX4_keep_28 rfl ?_
      refine x_get G kX4 inX4 5 (by decide) (by decide +kernel) dX4_keep_29 (uv_o U0) rfl ?_
      refine x_getN (host := "UnitVectors") G kX3 inX3 4 (by decide) (by decide +kernel) dX4_keep_32 (st_o (uv_n U0)) rfl ?_
      refine x_putN (host := "UnitVectors") G kX3 inX3 4 (by decide) (by decide +kernel) rfl dX4_keep_35 (st_o Z) rfl rfl (Nat.le_of_ble_eq_true rfl) ?_
      have Z2 := st_os Z (nI n) dw (im k).2.2.2.2.2
      have F4 : xF (b + 259 + 10 * k) (b + 259 + 10 * k + 10) h _ := xF_up (a := b + 259 + 10 * k) (e := .inr (3, [.ref (b + 259 + 10 * k + 1), .ref (b + 259 + 10 * k + 8), .ref (b + 259 + 10 * k + 9), .int (nI n), .int dw, .int (im k).2.2.2.2.2])) F3 (by omega) (by omega)
      replace F := xF_up (a := b + 259 + 10 * k) (e := .inr (3, [.ref (b + 259 + 10 * k + 1), .ref (b + 259 + 10 * k + 8), .ref (b + 259 + 10 * k + 9), .int (nI n), .int dw, .int (im k).2.2.2.2.2])) F (by omega) (by omega)
      refine x_aload_n G dX4_keep_38 rfl ?_
      refine x_iconstV (v := nI 1) G dX4_keep_39 (by decide) ?_
      refine x_putN (host := "UnitVectors") G kX3 inX3 5 (by decide) (by decide +kernel) rfl dX4_keep_40 (st_o Z2) rfl rfl (Nat.le_of_ble_eq_true rfl) ?_
      have Z3 := st_os Z2 (nI n) dw (nI 1)
      have F5 : xF (b + 259 + 10 * k) (b + 259 + 10 * k + 10) h _ := xF_up (a := b + 259 + 10 * k) (e := .inr (3, [.ref (b + 259 + 10 * k + 1), .ref (b + 259 + 10 * k + 8), .ref (b + 259 + 10 * k + 9), .int (nI n), .int dw, .int (nI 1)])) F4 (by omega) (by omega)
      replace F := xF_up (a := b + 259 + 10 * k) (e := .inr (3, [.ref (b + 259 + 10 * k + 1), .ref (b + 259 + 10 * k + 8), .ref (b + 259 + 10 * k + 9), .int (nI n), .int dw, .int (nI 1)])) F (by omega) (by omega)
      replace U := uv_iu U (k := k) (t := (cp_s sy (im k).1 6, va_cpy ab (im k).2.1 0 0 4, va_cpy be (im k).2.2.1 0 0 4, nI n, dw, nI 1)) (by omega) Z3 F5
      refine x_aload_n G dX4_keep_43 rfl ?_
      refine x_get G kX4 inX4 7 (by decide) (by decide +kernel) dX4_keep_44 (uv_o U) rfl ?_
      refine x_callV (n := 0) (rest := []) (As := []) G (ci := 0) (c_X0_forget (Post := fun r7 h7 sz7 => r7 = none ∧ Pa dA h7 (b + 25) ss (nI mx) (nI 0) ∧ xF (b + 25) (b + 25 + 202) _ h7) l D (uv_p U) (fun h7 sz7 q1 q2 => ⟨rfl, q1, q2⟩)) gX4_keep_X0_forget rfl ⟨rfl, by decide +kernel, by decide +kernel, by decide +kernel⟩ ⟨by decide, by decide⟩ rfl rfl (uv_p U).1 dX4_keep_47 rfl rfl (Nat.le_of_ble_eq_true rfl) ⟨by decide, by decide⟩ ?_
      rintro _ h5 sz5 ⟨rfl, ZP, FP⟩
      try dsimp only [Option.toList, List.cons_append, List.nil_append]
      replace U := uv_pu U (ss1 := ss) (nx1 := mx) (ct1 := 0) ZP FP
      replace F := xF_tr F (xF_wd (lo1 := b) (hi1 := b + 279) FP (by omega) (by omega))
      refine x_iconstV (v := nI 1) G dX4_keep_50 (by decide) ?_
      exact x_iret G dX4_keep_51 (hp2 k hk rfl _ _ U F)
    · have hr : ¬ (nI 0 ≤ v ∧ v ≤ nI 1) := fun w => c_6 ((i_lts (k := 1) (by decide)).mpr w.2)
      refine x_ldc G (-1000000001) (by decide +kernel) dX4_keep_9 ?_
      exact x_iret G dX4_keep_11 (hp1 hr)
theorem inX4_goBack_4 : ∀ w ∈ wsX40, w ∈ wsX4_goBack := by decide +kernel
theorem inX4_goBack_3 : ∀ w ∈ wsX30, w ∈ wsX4_goBack := by decide +kernel
set_option maxRecDepth 100000 in
set_option maxHeartbeats 4000000 in
/-- goBack -/
theorem c_X4_goBack (l : Launch) (D : va_G) {dA : Nat → ClassId} {b : Nat} {tx : Nat → Int32} {ln : Nat} {fa : Int32} {x : rT} {pl : Int32} {rd : Nat → Int32} {im : Nat → sT} {ss : Nat → sT} {mx : Nat} {ct : Nat} {so : slT} {ot : slT} {sy : Nat → Nat → Int32} {ab be : Nat → Int32} {n : Nat} {dw kp : Int32} {v : Int32} {h : xH} {sz : Nat} {Post : Option Value → xH → Nat → Prop} (him : ∀ k, k < 2 → ¬ (im k).2.2.2.2.2 = 0 → ∃ n1, n1 ≤ 6 ∧ (im k).2.2.2.1 = nI n1) (U : Uv dA h b tx ln fa x pl rd ((sy, ab, be, nI n, dw, kp)) im ss mx ct so ot) (hp1 : ¬ (nI 0 ≤ v ∧ v ≤ nI 1) → Post (some (.int (-1000000001))) h sz) (hp2 : ∀ k, k ≤ 1 → v = nI k → (im k).2.2.2.2.2 = 0 → Post (some (.int (-1000000003))) h sz) (hp3 : ∀ k, k ≤ 1 → v = nI k → ¬ (im k).2.2.2.2.2 = 0 → ∀ n1, n1 ≤ 6 → (im k).2.2.2.1 = nI n1 → ∀ (h1 : xH) (sz1 : Nat), Uv dA h1 b tx ln fa x pl rd ((cp_s (im k).1 sy 6, va_cpy (im k).2.1 ab 0 0 4, va_cpy (im k).2.2.1 be 0 0 4, nI n1, (im k).2.2.2.2.1, kp)) im ss mx 0 (sa (cp_s (im k).1 sy 6) so n1) ot → xF b (b + 279) h h1 → Post (some (.int (nI 1))) h1 sz1) (hpost : True) : xMet l yX4_goBack wsX4_goBack 5 122 0 0 D dA [.ref b, .int v] h sz Post := by
  refine x_open (cc := cX4_goBack) (maxL := 3) (ret := (some .int)) (by decide) rfl (Nat.le_of_ble_eq_true rfl) ?_
  intro p e s m args below meth c G _
  have inX4 : ∀ w ∈ wsX40, w ∈ wsX4_goBack := inX4_goBack_4
  have inX3 : ∀ w ∈ wsX30, w ∈ wsX4_goBack := inX4_goBack_3
  have F := xF_rf (lo := b) (hi := b + 279) (h := h)
  refine x_iload_n G dX4_goBack_0 rfl ?_
  refine x_if_lt G 9 dX4_goBack_1 (by decide) (fun c_1 => ?_) (fun c_1 => ?_)
  · have hr : ¬ (nI 0 ≤ v ∧ v ≤ nI 1) := fun w => absurd w.1 (Int32.not_le.mpr c_1)
    refine x_ldc G (-1000000001) (by decide +kernel) dX4_goBack_9 ?_
    exact x_iret G dX4_goBack_11 (hp1 hr)
  · have h1 := Int32.not_lt.mp c_1
    refine x_iload_n G dX4_goBack_4 rfl ?_
    refine x_iconstV (v := nI 2) G dX4_goBack_5 (by decide) ?_
    refine x_icmp_lt G 12 dX4_goBack_6 (by decide) (fun c_6 => ?_) (fun c_6 => ?_)
    · have hr : nI 0 ≤ v ∧ v ≤ nI 1 := ⟨h1, (i_lts (k := 1) (by decide)).mp c_6⟩
      obtain ⟨k, -, hk, rfl⟩ := in_nat2 (lo := 0) (hi := 1) (by decide) (by decide) hr
      refine x_aload_n G dX4_goBack_12 rfl ?_
      refine x_get G kX4 inX4 6 (by decide) (by decide +kernel) dX4_goBack_13 (uv_o U) rfl ?_
      refine x_iload_n G dX4_goBack_16 rfl ?_
      refine x_aald (t := 3) G rfl rfl dX4_goBack_17 (uv_g U) (vp_in_nI (show k < 2 by omega) (by decide)) (show (if (nI k).toNatClampNeg < 2 then some (b + 259 + 10 * (nI k).toNatClampNeg) else none) = some (b + 259 + 10 * k) by rw [nI_clamp (by omega), if_pos (by omega)]) ?_
      refine x_astore_n G dX4_goBack_18 (by decide) ?_
      refine x_aload_n G dX4_goBack_19 rfl ?_
      refine x_getN (host := "UnitVectors") G kX3 inX3 5 (by decide) (by decide +kernel) dX4_goBack_20 (st_o (uv_i U (show k < 2 by omega))) rfl ?_
      refine x_if_ne G 29 dX4_goBack_23 (by decide) (fun c_23 => ?_) (fun c_23 => ?_)
      · have ekp := c_23
        refine x_aload_n G dX4_goBack_29 rfl ?_
        refine x_get G kX4 inX4 5 (by decide) (by decide +kernel) dX4_goBack_30 (uv_o U) rfl ?_
        refine x_aload_n G dX4_goBack_33 rfl ?_
        refine x_callV (n := 1) (rest := []) (As := [.ref (b + 259 + 10 * k)]) G (ci := 3) (c_X3_copyDeeds (Post := fun r7 h7 sz7 => r7 = none ∧ StT dA h7 (b + 14) (sT_cp (im k) (sy, ab, be, nI n, dw, kp)) ∧ xF (b + 14) (b + 14 + 10) h h7) l D (by omega) (uv_n U) (uv_i U (show k < 2 by omega)) (fun h7 sz7 q1 q2 => ⟨rfl, q1, q2⟩)) gX4_goBack_X3_copyDeeds rfl ⟨rfl, by decide +kernel, by decide +kernel, by decide +kernel⟩ ⟨by decide, by decide⟩ rfl rfl (st_o (uv_n U)) dX4_goBack_34 rfl rfl (Nat.le_of_ble_eq_true rfl) ⟨by decide, by decide⟩ ?_
        rintro _ h3 sz3 ⟨rfl, Z, F3⟩
        try dsimp only [Option.toList, List.cons_append, List.nil_append]
        obtain ⟨n1, hn1, en⟩ := him k (by omega) ekp
        have ec : sT_cp (im k) (sy, ab, be, nI n, dw, kp) = (cp_s (im k).1 sy 6, va_cpy (im k).2.1 ab 0 0 4, va_cpy (im k).2.2.1 be 0 0 4, nI n1, dw, kp) := by
          unfold sT_cp
          rw [en]
        rw [ec] at Z
        replace U := uv_nu U (nw1 := (cp_s (im k).1 sy 6, va_cpy (im k).2.1 ab 0 0 4, va_cpy (im k).2.2.1 be 0 0 4, nI n1, dw, kp)) Z F3
        replace F := xF_tr F (xF_wd (lo1 := b) (hi1 := b + 279) F3 (by omega) (by omega))
        refine x_aload_n G dX4_goBack_37 rfl ?_
        refine x_get G kX4 inX4 5 (by decide) (by decide +kernel) dX4_goBack_38 (uv_o U) rfl ?_
        refine x_aload_n G dX4_goBack_41 rfl ?_
        refine x_getN (host := "UnitVectors") G kX3 inX3 4 (by decide) (by decide +kernel) dX4_goBack_42 (st_o (uv_i U (show k < 2 by omega))) rfl ?_
        refine x_putN (host := "UnitVectors") G kX3 inX3 4 (by decide) (by decide +kernel) rfl dX4_goBack_45 (st_o (uv_n U)) rfl rfl (Nat.le_of_ble_eq_true rfl) ?_
        have Z2 := st_os (uv_n U) (nI n1) (im k).2.2.2.2.1 kp
        have F4 : xF (b + 14) (b + 24) _ _ := xF_up (h := h3) (a := b + 14) (e := .inr (3, [.ref (b + 14 + 1), .ref (b + 14 + 8), .ref (b + 14 + 9), .int (nI n1), .int (im k).2.2.2.2.1, .int kp])) xF_rf (by omega) (by omega)
        replace U := uv_nu U (nw1 := (cp_s (im k).1 sy 6, va_cpy (im k).2.1 ab 0 0 4, va_cpy (im k).2.2.1 be 0 0 4, nI n1, (im k).2.2.2.2.1, kp)) Z2 F4
        replace F := xF_tr F (xF_wd (lo1 := b) (hi1 := b + 279) F4 (by omega) (by omega))
        refine x_aload_n G dX4_goBack_48 rfl ?_
        refine x_get G kX4 inX4 7 (by decide) (by decide +kernel) dX4_goBack_49 (uv_o U) rfl ?_
        refine x_callV (n := 0) (rest := []) (As := []) G (ci := 0) (c_X0_forget (Post := fun r7 h7 sz7 => r7 = none ∧ Pa dA h7 (b + 25) ss (nI mx) (nI 0) ∧ xF (b + 25) (b + 25 + 202) _ h7) l D (uv_p U) (fun h7 sz7 q1 q2 => ⟨rfl, q1, q2⟩)) gX4_goBack_X0_forget rfl ⟨rfl, by decide +kernel, by decide +kernel, by decide +kernel⟩ ⟨by decide, by decide⟩ rfl rfl (uv_p U).1 dX4_goBack_52 rfl rfl (Nat.le_of_ble_eq_true rfl) ⟨by decide, by decide⟩ ?_
        rintro _ h5 sz5 ⟨rfl, ZP, FP⟩
        try dsimp only [Option.toList, List.cons_append, List.nil_append]
        replace U := uv_pu U (ss1 := ss) (nx1 := mx) (ct1 := 0) ZP FP
        replace F := xF_tr F (xF_wd (lo1 := b) (hi1 := b + 279) FP (by omega) (by omega))
        refine x_aload_n G dX4_goBack_55 rfl ?_
        refine x_callV (n := 0) (rest := []) (As := []) G (ci := 4) (c_X4_solveAnew (Post := fun r7 h7 sz7 => r7 = none ∧ Uv dA h7 b tx ln fa x pl rd ((cp_s (im k).1 sy 6, va_cpy (im k).2.1 ab 0 0 4, va_cpy (im k).2.2.1 be 0 0 4, nI n1, (im k).2.2.2.2.1, kp)) im ss mx 0 (sa (cp_s (im k).1 sy 6) so n1) ot ∧ xF b (b + 279) h5 h7) l D hn1 U (fun h7 sz7 q1 q2 => ⟨rfl, q1, q2⟩)) gX4_goBack_X4_solveAnew rfl ⟨rfl, by decide +kernel, by decide +kernel, by decide +kernel⟩ ⟨by decide, by decide⟩ rfl rfl (uv_o U) dX4_goBack_56 rfl rfl (Nat.le_of_ble_eq_true rfl) ⟨by decide, by decide⟩ ?_
        rintro _ h6 sz6 ⟨rfl, U, F6⟩
        try dsimp only [Option.toList, List.cons_append, List.nil_append]
        replace F := xF_tr F F6
        refine x_iconstV (v := nI 1) G dX4_goBack_59 (by decide) ?_
        exact x_iret G dX4_goBack_60 (hp3 k hk rfl ekp n1 hn1 en _ _ U F)
      · have ekp := c_23
        refine x_ldc G (-1000000003) (by decide +kernel) dX4_goBack_26 ?_
        exact x_iret G dX4_goBack_28 (hp2 k hk rfl ekp)
    · have hr : ¬ (nI 0 ≤ v ∧ v ≤ nI 1) := fun w => c_6 ((i_lts (k := 1) (by decide)).mpr w.2)
      refine x_ldc G (-1000000001) (by decide +kernel) dX4_goBack_9 ?_
      exact x_iret G dX4_goBack_11 (hp1 hr)
