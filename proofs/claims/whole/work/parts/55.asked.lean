/-! ## The class: saying, free, least, isTold, follows, couldBe, measured, converted, keep, goBack -/
theorem inX4_saying_4 : ∀ w ∈ wsX40, w ∈ wsX4_saying := by decide +kernel
theorem inX4_saying_3 : ∀ w ∈ wsX30, w ∈ wsX4_saying := by decide +kernel
set_option maxRecDepth 100000 in
set_option maxHeartbeats 4000000 in
/-- saying -/
theorem c_X4_saying (l : Launch) (D : va_G) {dA : Nat → ClassId} {b : Nat} {tx : Nat → Int32} {ln : Nat} {fa : Int32} {x : rT} {pl : Int32} {rd : Nat → Int32} {im : Nat → sT} {ss : Nat → sT} {mx : Nat} {ct : Nat} {so : slT} {ot : slT} {sy : Nat → Nat → Int32} {ab be : Nat → Int32} {n : Nat} {dw kp : Int32} {v y : Int32} {h : xH} {sz : Nat} {Post : Option Value → xH → Nat → Prop} (hn6 : n ≤ 6) (U : Uv dA h b tx ln fa x pl rd ((sy, ab, be, nI n, dw, kp)) im ss mx ct so ot) (hp1 : ¬ (nI 0 ≤ v ∧ v ≤ nI n - nI 1) → Post (some (.int (-1000000001))) h sz) (hp2 : ∀ k, k < n → v = nI k → ¬ (nI 0 ≤ y ∧ y ≤ nI 10) → Post (some (.int (-1000000002))) h sz) (hp3 : ∀ k, k < n → v = nI k → y = nI 10 → ∀ (h1 : xH) (sz1 : Nat), Uv dA h1 b tx ln fa x pl rd ((sy, ab, be, nI n, dw, kp)) im ss mx ct so (sw_u2 (sy k) (so_k sy ot k n)) → xF b (b + 279) h h1 → Post (some (.int (x_b (im_u (sy k) (so_k sy ot k n) = true)))) h1 sz1) (hp4 : ∀ k, k < n → v = nI k → ∀ q, q < 10 → y = nI q → Post (some (.int (sy k q + nI 100))) h sz) (hpost : True) : xMet l yX4_saying wsX4_saying 5 134 0 0 D dA [.ref b, .int v, .int y] h sz Post := by
  refine x_open (cc := cX4_saying) (maxL := 3) (ret := (some .int)) (by decide) rfl (Nat.le_of_ble_eq_true rfl) ?_
  intro p e s m args below meth c G _
  have inX4 : ∀ w ∈ wsX40, w ∈ wsX4_saying := inX4_saying_4
  have inX3 : ∀ w ∈ wsX30, w ∈ wsX4_saying := inX4_saying_3
  have F := xF_rf (lo := b) (hi := b + 279) (h := h)
  refine x_iload_n G dX4_saying_0 rfl ?_
  refine x_if_lt G 15 dX4_saying_1 (by decide) (fun c_1 => ?_) (fun c_1 => ?_)
  · have hr : ¬ (nI 0 ≤ v ∧ v ≤ nI n - nI 1) := fun w => absurd w.1 (Int32.not_le.mpr c_1)
    refine x_ldc G (-1000000001) (by decide +kernel) dX4_saying_15 ?_
    exact x_iret G dX4_saying_17 (hp1 hr)
  · have h1 := Int32.not_lt.mp c_1
    refine x_iload_n G dX4_saying_4 rfl ?_
    refine x_aload_n G dX4_saying_5 rfl ?_
    refine x_get G kX4 inX4 5 (by decide) (by decide +kernel) dX4_saying_6 (uv_o U) rfl ?_
    refine x_getN (host := "UnitVectors") G kX3 inX3 3 (by decide) (by decide +kernel) dX4_saying_9 (st_o (uv_n U)) rfl ?_
    refine x_icmp_lt G 18 dX4_saying_12 (by decide) (fun c_12 => ?_) (fun c_12 => ?_)
    · have hr : nI 0 ≤ v ∧ v ≤ nI n - nI 1 := ⟨h1, (i_ltn (by omega)).mp c_12⟩
      obtain ⟨k, hk, rfl⟩ := in_nat (by omega) hr
      refine x_iload_n G dX4_saying_18 rfl ?_
      refine x_if_lt G 28 dX4_saying_19 (by decide) (fun c_19 => ?_) (fun c_19 => ?_)
      · have hr2 : ¬ (nI 0 ≤ y ∧ y ≤ nI 10) := fun w => absurd w.1 (Int32.not_le.mpr c_19)
        refine x_ldc G (-1000000002) (by decide +kernel) dX4_saying_28 ?_
        exact x_iret G dX4_saying_30 (hp2 k hk rfl hr2)
      · have g1 := Int32.not_lt.mp c_19
        refine x_iload_n G dX4_saying_22 rfl ?_
        refine x_bipushV (v := nI 10) G dX4_saying_23 (by decide) ?_
        refine x_icmp_le G 31 dX4_saying_25 (by decide) (fun c_25 => ?_) (fun c_25 => ?_)
        · have hr2 : nI 0 ≤ y ∧ y ≤ nI 10 := ⟨g1, c_25⟩
          obtain ⟨q, -, hq, rfl⟩ := in_nat2 (lo := 0) (hi := 10) (by decide) (by decide) hr2
          refine x_iload_n G dX4_saying_31 rfl ?_
          refine x_bipushV (v := nI 10) G dX4_saying_32 (by decide) ?_
          refine x_icmp_ne G 51 dX4_saying_34 (by decide) (fun c_34 => ?_) (fun c_34 => ?_)
          · have hq2 : q < 10 := by
              rcases Nat.lt_or_ge q 10 with w | w
              · exact w
              · exact absurd (by rw [show q = 10 by omega]) c_34
            refine x_aload_n G dX4_saying_51 rfl ?_
            refine x_get G kX4 inX4 5 (by decide) (by decide +kernel) dX4_saying_52 (uv_o U) rfl ?_
            refine x_getN (host := "UnitVectors") G kX3 inX3 0 (by decide) (by decide +kernel) dX4_saying_55 (st_o (uv_n U)) rfl ?_
            refine x_iload_n G dX4_saying_58 rfl ?_
            refine x_aald (t := 4) G rfl rfl dX4_saying_59 (st_y (uv_n U)) (vp_in_nI (show k < 6 by omega) (by decide)) (show (if (nI (k)).toNatClampNeg < 6 then some (b + 14 + 2 + (nI (k)).toNatClampNeg) else none) = some (b + 14 + 2 + (k)) by rw [nI_clamp (by omega), if_pos (by omega)]) ?_
            refine x_iload_n G dX4_saying_60 rfl ?_
            refine x_ialdN G dX4_saying_61 (st_r (uv_n U) (show k < 6 by omega)) hq2 (by decide) ?_
            refine x_bipushV (v := nI 100) G dX4_saying_62 (by decide) ?_
            refine x_iadd G dX4_saying_64 ?_
            exact x_iret G dX4_saying_65 (hp4 k hk rfl q hq2 rfl)
          · have hq2 := c_34
            refine x_aload_n G dX4_saying_37 rfl ?_
            refine x_iload_n G dX4_saying_38 rfl ?_
            refine x_callV (n := 1) (rest := []) (As := [.int (nI k)]) G (ci := 4) (c_X4_isSpare (Post := fun r7 h7 sz7 => r7 = some (.int (x_b (im_u (sy k) (so_k sy ot k n) = true))) ∧ Uv dA h7 b tx ln fa x pl rd ((sy, ab, be, nI n, dw, kp)) im ss mx ct so (sw_u2 (sy k) (so_k sy ot k n)) ∧ xF b (b + 279) h h7) l D hn6 hk U (fun h7 sz7 q1 q2 => ⟨rfl, q1, q2⟩)) gX4_saying_X4_isSpare rfl ⟨rfl, by decide +kernel, by decide +kernel, by decide +kernel⟩ ⟨by decide, by decide⟩ rfl rfl (uv_o U) dX4_saying_39 rfl rfl (Nat.le_of_ble_eq_true rfl) ⟨by decide, by decide⟩ ?_
            rintro _ h2 sz2 ⟨rfl, U, F⟩
            try dsimp only [Option.toList, List.cons_append, List.nil_append]
            replace hp3 := hp3 k hk rfl hq2 _ sz2 U F
            refine x_if_eq G 49 dX4_saying_42 (by decide) (fun c_42 => ?_) (fun c_42 => ?_)
            · rw [x_b_f (x_b_0.mp c_42)] at hp3
              refine x_iconstV (v := nI 0) G dX4_saying_49 (by decide) ?_
              exact x_iret G dX4_saying_50 hp3
            · rw [x_b_t (x_b_n.mp c_42)] at hp3
              refine x_iconstV (v := nI 1) G dX4_saying_45 (by decide) ?_
              refine x_goto G 50 dX4_saying_46 (by decide) ?_
              exact x_iret G dX4_saying_50 hp3
        · have hr2 : ¬ (nI 0 ≤ y ∧ y ≤ nI 10) := fun w => c_25 w.2
          refine x_ldc G (-1000000002) (by decide +kernel) dX4_saying_28 ?_
          exact x_iret G dX4_saying_30 (hp2 k hk rfl hr2)
    · have hr : ¬ (nI 0 ≤ v ∧ v ≤ nI n - nI 1) := fun w => c_12 ((i_ltn (by omega)).mpr w.2)
      refine x_ldc G (-1000000001) (by decide +kernel) dX4_saying_15 ?_
      exact x_iret G dX4_saying_17 (hp1 hr)
theorem inX4_free_4 : ∀ w ∈ wsX40, w ∈ wsX4_free := by decide +kernel
theorem inX4_free_2 : ∀ w ∈ wsX20, w ∈ wsX4_free := by decide +kernel
set_option maxRecDepth 100000 in
set_option maxHeartbeats 4000000 in
/-- free -/
theorem c_X4_free (l : Launch) (D : va_G) {dA : Nat → ClassId} {b : Nat} {tx : Nat → Int32} {ln : Nat} {fa : Int32} {x : rT} {pl : Int32} {rd : Nat → Int32} {im : Nat → sT} {ss : Nat → sT} {mx : Nat} {ct : Nat} {so : slT} {ot : slT} {sy : Nat → Nat → Int32} {ab be : Nat → Int32} {n : Nat} {dw kp : Int32} {v y : Int32} {h : xH} {sz : Nat} {Post : Option Value → xH → Nat → Prop} (hs6 : so.2.2.2.2.2 ≤ 6) (U : Uv dA h b tx ln fa x pl rd ((sy, ab, be, nI n, dw, kp)) im ss mx ct so ot) (hp1 : ¬ (nI 0 ≤ v ∧ v ≤ nI so.2.2.2.2.2 - nI 1) → Post (some (.long (-1000000001))) h sz) (hp2 : ∀ k, k < so.2.2.2.2.2 → v = nI k → ¬ (nI 0 ≤ y ∧ y ≤ nI 5) → Post (some (.long (-1000000002))) h sz) (hp3 : ∀ k, k < so.2.2.2.2.2 → v = nI k → ∀ q, q ≤ 5 → y = nI q → Post (some (.long (so.1 k q + 1000000000000))) h sz) (hpost : True) : xMet l yX4_free wsX4_free 0 0 0 0 D dA [.ref b, .int v, .int y] h sz Post := by
  refine x_open (cc := cX4_free) (maxL := 3) (ret := (some .long)) (by decide) rfl (Nat.le_of_ble_eq_true rfl) ?_
  intro p e s m args below meth c G _
  have inX4 : ∀ w ∈ wsX40, w ∈ wsX4_free := inX4_free_4
  have inX2 : ∀ w ∈ wsX20, w ∈ wsX4_free := inX4_free_2
  obtain ⟨ad, S⟩ := uv_s U
  refine x_iload_n G dX4_free_0 rfl ?_
  refine x_if_lt G 15 dX4_free_1 (by decide) (fun c_1 => ?_) (fun c_1 => ?_)
  · have hr : ¬ (nI 0 ≤ v ∧ v ≤ nI so.2.2.2.2.2 - nI 1) := fun w => absurd w.1 (Int32.not_le.mpr c_1)
    refine x_ldc2_w G (-1000000001) (by decide +kernel) dX4_free_15 ?_
    exact x_lret G dX4_free_18 (hp1 hr)
  · have h1 := Int32.not_lt.mp c_1
    refine x_iload_n G dX4_free_4 rfl ?_
    refine x_aload_n G dX4_free_5 rfl ?_
    refine x_get G kX4 inX4 8 (by decide) (by decide +kernel) dX4_free_6 (uv_o U) rfl ?_
    refine x_getN (host := "UnitVectors") G kX2 inX2 6 (by decide) (by decide +kernel) dX4_free_9 (sl_o S) rfl ?_
    refine x_icmp_lt G 19 dX4_free_12 (by decide) (fun c_12 => ?_) (fun c_12 => ?_)
    · have hr : nI 0 ≤ v ∧ v ≤ nI so.2.2.2.2.2 - nI 1 := ⟨h1, (i_ltn (by omega)).mp c_12⟩
      obtain ⟨k, hk, rfl⟩ := in_nat (by omega) hr
      refine x_iload_n G dX4_free_19 rfl ?_
      refine x_if_lt G 29 dX4_free_20 (by decide) (fun c_20 => ?_) (fun c_20 => ?_)
      · have hr2 : ¬ (nI 0 ≤ y ∧ y ≤ nI 5) := fun w => absurd w.1 (Int32.not_le.mpr c_20)
        refine x_ldc2_w G (-1000000002) (by decide +kernel) dX4_free_29 ?_
        exact x_lret G dX4_free_32 (hp2 k hk rfl hr2)
      · have g1 := Int32.not_lt.mp c_20
        refine x_iload_n G dX4_free_23 rfl ?_
        refine x_bipushV (v := nI 6) G dX4_free_24 (by decide) ?_
        refine x_icmp_lt G 33 dX4_free_26 (by decide) (fun c_26 => ?_) (fun c_26 => ?_)
        · have hr2 : nI 0 ≤ y ∧ y ≤ nI 5 := ⟨g1, (i_lts (k := 5) (by decide)).mp c_26⟩
          obtain ⟨q, -, hq, rfl⟩ := in_nat2 (lo := 0) (hi := 5) (by decide) (by decide) hr2
          refine x_aload_n G dX4_free_33 rfl ?_
          refine x_get G kX4 inX4 8 (by decide) (by decide +kernel) dX4_free_34 (uv_o U) rfl ?_
          refine x_getN (host := "UnitVectors") G kX2 inX2 0 (by decide) (by decide +kernel) dX4_free_37 (sl_o S) rfl ?_
          refine x_iload_n G dX4_free_40 rfl ?_
          refine x_aald (t := 5) G rfl rfl dX4_free_41 (sl_y S) (vp_in_nI (show k < 6 by omega) (by decide)) (show (if (nI k).toNatClampNeg < 6 then some (ad (nI k).toNatClampNeg) else none) = some (ad k) by rw [nI_clamp (by omega), if_pos (by omega)]) ?_
          refine x_iload_n G dX4_free_42 rfl ?_
          refine x_laldN G dX4_free_43 (sl_f S (show k < 7 by omega)) (show q < 6 by omega) (by decide) ?_
          refine x_ldc2_w G (1000000000000) (by decide +kernel) dX4_free_44 ?_
          refine x_ladd G dX4_free_47 ?_
          exact x_lret G dX4_free_48 (hp3 k hk rfl q hq rfl)
        · have hr2 : ¬ (nI 0 ≤ y ∧ y ≤ nI 5) := fun w => c_26 ((i_lts (k := 5) (by decide)).mpr w.2)
          refine x_ldc2_w G (-1000000002) (by decide +kernel) dX4_free_29 ?_
          exact x_lret G dX4_free_32 (hp2 k hk rfl hr2)
    · have hr : ¬ (nI 0 ≤ v ∧ v ≤ nI so.2.2.2.2.2 - nI 1) := fun w => c_12 ((i_ltn (by omega)).mpr w.2)
      refine x_ldc2_w G (-1000000001) (by decide +kernel) dX4_free_15 ?_
      exact x_lret G dX4_free_18 (hp1 hr)
theorem inX4_least_4 : ∀ w ∈ wsX40, w ∈ wsX4_least := by decide +kernel
theorem inX4_least_2 : ∀ w ∈ wsX20, w ∈ wsX4_least := by decide +kernel
set_option maxRecDepth 100000 in
set_option maxHeartbeats 4000000 in
/-- least -/
theorem c_X4_least (l : Launch) (D : va_G) {dA : Nat → ClassId} {b : Nat} {tx : Nat → Int32} {ln : Nat} {fa : Int32} {x : rT} {pl : Int32} {rd : Nat → Int32} {im : Nat → sT} {ss : Nat → sT} {mx : Nat} {ct : Nat} {so : slT} {ot : slT} {sy : Nat → Nat → Int32} {ab be : Nat → Int32} {n : Nat} {dw kp : Int32} {v y : Int32} {h : xH} {sz : Nat} {Post : Option Value → xH → Nat → Prop} (U : Uv dA h b tx ln fa x pl rd ((sy, ab, be, nI n, dw, kp)) im ss mx ct so ot) (hp1 : ¬ ((nI 0 ≤ v ∧ v ≤ nI 5) ∧ (nI 0 ≤ y ∧ y ≤ nI 3)) → Post (some (.long (-1000000001))) h sz) (hp2 : ∀ k, k ≤ 5 → v = nI k → ∀ q, q ≤ 3 → y = nI q → Post (some (.long (so.2.1 q k + 1000000000000))) h sz) (hpost : True) : xMet l yX4_least wsX4_least 0 0 0 0 D dA [.ref b, .int v, .int y] h sz Post := by
  refine x_open (cc := cX4_least) (maxL := 3) (ret := (some .long)) (by decide) rfl (Nat.le_of_ble_eq_true rfl) ?_
  intro p e s m args below meth c G _
  have inX4 : ∀ w ∈ wsX40, w ∈ wsX4_least := inX4_least_4
  have inX2 : ∀ w ∈ wsX20, w ∈ wsX4_least := inX4_least_2
  obtain ⟨ad, S⟩ := uv_s U
  refine x_iload_n G dX4_least_0 rfl ?_
  refine x_if_lt G 19 dX4_least_1 (by decide) (fun c_1 => ?_) (fun c_1 => ?_)
  · have hr : ¬ ((nI 0 ≤ v ∧ v ≤ nI 5) ∧ (nI 0 ≤ y ∧ y ≤ nI 3)) := fun w => absurd w.1.1 (Int32.not_le.mpr c_1)
    refine x_ldc2_w G (-1000000001) (by decide +kernel) dX4_least_19 ?_
    exact x_lret G dX4_least_22 (hp1 hr)
  · have g1 := Int32.not_lt.mp c_1
    refine x_iload_n G dX4_least_4 rfl ?_
    refine x_bipushV (v := nI 6) G dX4_least_5 (by decide) ?_
    refine x_icmp_ge G 19 dX4_least_7 (by decide) (fun c_7 => ?_) (fun c_7 => ?_)
    · have hr : ¬ ((nI 0 ≤ v ∧ v ≤ nI 5) ∧ (nI 0 ≤ y ∧ y ≤ nI 3)) := fun w => absurd ((i_lts (k := 5) (by decide)).mpr w.1.2) (Int32.not_lt.mpr c_7)
      refine x_ldc2_w G (-1000000001) (by decide +kernel) dX4_least_19 ?_
      exact x_lret G dX4_least_22 (hp1 hr)
    · have g2 := (i_lts (k := 5) (by decide)).mp (Int32.not_le.mp c_7)
      refine x_iload_n G dX4_least_10 rfl ?_
      refine x_if_lt G 19 dX4_least_11 (by decide) (fun c_11 => ?_) (fun c_11 => ?_)
      · have hr : ¬ ((nI 0 ≤ v ∧ v ≤ nI 5) ∧ (nI 0 ≤ y ∧ y ≤ nI 3)) := fun w => absurd w.2.1 (Int32.not_le.mpr c_11)
        refine x_ldc2_w G (-1000000001) (by decide +kernel) dX4_least_19 ?_
        exact x_lret G dX4_least_22 (hp1 hr)
      · have g3 := Int32.not_lt.mp c_11
        refine x_iload_n G dX4_least_14 rfl ?_
        refine x_iconstV (v := nI 4) G dX4_least_15 (by decide) ?_
        refine x_icmp_lt G 23 dX4_least_16 (by decide) (fun c_16 => ?_) (fun c_16 => ?_)
        · have g4 := (i_lts (k := 3) (by decide)).mp c_16
          obtain ⟨k, -, hk, rfl⟩ := in_nat2 (lo := 0) (hi := 5) (by decide) (by decide) ⟨g1, g2⟩
          obtain ⟨q, -, hq, rfl⟩ := in_nat2 (lo := 0) (hi := 3) (by decide) (by decide) ⟨g3, g4⟩
          refine x_aload_n G dX4_least_23 rfl ?_
          refine x_get G kX4 inX4 8 (by decide) (by decide +kernel) dX4_least_24 (uv_o U) rfl ?_
          refine x_getN (host := "UnitVectors") G kX2 inX2 1 (by decide) (by decide +kernel) dX4_least_27 (sl_o S) rfl ?_
          refine x_iload_n G dX4_least_30 rfl ?_
          refine x_aald (t := 5) G rfl rfl dX4_least_31 (sl_l S) (vp_in_nI (show q < 4 by omega) (by decide)) (show (if (nI q).toNatClampNeg < 4 then some (b + 227 + 9 + (nI q).toNatClampNeg) else none) = some (b + 227 + 9 + q) by rw [nI_clamp (by omega), if_pos (by omega)]) ?_
          refine x_iload_n G dX4_least_32 rfl ?_
          refine x_laldN G dX4_least_33 (sl_b S (show q < 4 by omega)) (show k < 6 by omega) (by decide) ?_
          refine x_ldc2_w G (1000000000000) (by decide +kernel) dX4_least_34 ?_
          refine x_ladd G dX4_least_37 ?_
          exact x_lret G dX4_least_38 (hp2 k hk rfl q hq rfl)
        · have hr : ¬ ((nI 0 ≤ v ∧ v ≤ nI 5) ∧ (nI 0 ≤ y ∧ y ≤ nI 3)) := fun w => c_16 ((i_lts (k := 3) (by decide)).mpr w.2.2)
          refine x_ldc2_w G (-1000000001) (by decide +kernel) dX4_least_19 ?_
          exact x_lret G dX4_least_22 (hp1 hr)
theorem inX4_isTold_4 : ∀ w ∈ wsX40, w ∈ wsX4_isTold := by decide +kernel
set_option maxRecDepth 100000 in
set_option maxHeartbeats 4000000 in
/-- isTold -/
theorem c_X4_isTold (l : Launch) (D : va_G) {dA : Nat → ClassId} {b : Nat} {tx : Nat → Int32} {ln : Nat} {fa : Int32} {x : rT} {pl : Int32} {rd : Nat → Int32} {im : Nat → sT} {ss : Nat → sT} {mx : Nat} {ct : Nat} {so : slT} {ot : slT} {sy : Nat → Nat → Int32} {ab be : Nat → Int32} {n : Nat} {dw kp : Int32} {v : Int32} {h : xH} {sz : Nat} {Post : Option Value → xH → Nat → Prop} (hs6 : so.2.2.2.2.2 ≤ 6) (U : Uv dA h b tx ln fa x pl rd ((sy, ab, be, nI n, dw, kp)) im ss mx ct so ot) (hp1 : ¬ (nI 0 ≤ v ∧ v ≤ nI 5) → Post (some (.int (-1000000001))) h sz) (hp2 : ∀ k, k ≤ 5 → v = nI k → Post (some (.int (x_b (fx_b so.1 so.2.2.2.2.2 k = true)))) h sz) (hpost : True) : xMet l yX4_isTold wsX4_isTold 1 24 0 0 D dA [.ref b, .int v] h sz Post := by
  refine x_open (cc := cX4_isTold) (maxL := 2) (ret := (some .int)) (by decide) rfl (Nat.le_of_ble_eq_true rfl) ?_
  intro p e s m args below meth c G _
  have inX4 : ∀ w ∈ wsX40, w ∈ wsX4_isTold := inX4_isTold_4
  obtain ⟨ad, S⟩ := uv_s U
  refine x_iload_n G dX4_isTold_0 rfl ?_
  refine x_if_lt G 10 dX4_isTold_1 (by decide) (fun c_1 => ?_) (fun c_1 => ?_)
  · have hr : ¬ (nI 0 ≤ v ∧ v ≤ nI 5) := fun w => absurd w.1 (Int32.not_le.mpr c_1)
    refine x_ldc G (-1000000001) (by decide +kernel) dX4_isTold_10 ?_
    exact x_iret G dX4_isTold_12 (hp1 hr)
  · have h1 := Int32.not_lt.mp c_1
    refine x_iload_n G dX4_isTold_4 rfl ?_
    refine x_bipushV (v := nI 6) G dX4_isTold_5 (by decide) ?_
    refine x_icmp_lt G 13 dX4_isTold_7 (by decide) (fun c_7 => ?_) (fun c_7 => ?_)
    · have hr : nI 0 ≤ v ∧ v ≤ nI 5 := ⟨h1, (i_lts (k := 5) (by decide)).mp c_7⟩
      obtain ⟨k, -, hk, rfl⟩ := in_nat2 (lo := 0) (hi := 5) (by decide) (by decide) hr
      refine x_aload_n G dX4_isTold_13 rfl ?_
      refine x_get G kX4 inX4 8 (by decide) (by decide +kernel) dX4_isTold_14 (uv_o U) rfl ?_
      refine x_iload_n G dX4_isTold_17 rfl ?_
      refine x_callV (n := 1) (rest := []) (As := [.int (nI k)]) G (ci := 2) (c_X2_isFixed (Post := fun r7 h7 sz7 => r7 = some (.int (x_b (∀ i, i < so.2.2.2.2.2 → so.1 i k = 0))) ∧ h = h7 ∧ sz = sz7) l D hs6 (show k < 6 by omega) S ⟨rfl, rfl, rfl⟩) gX4_isTold_X2_isFixed rfl ⟨rfl, by decide +kernel, by decide +kernel, by decide +kernel⟩ ⟨by decide, by decide⟩ rfl rfl (sl_o S) dX4_isTold_18 rfl rfl (Nat.le_of_ble_eq_true rfl) ⟨by decide, by decide⟩ ?_
      rintro _ _ _ ⟨rfl, rfl, rfl⟩
      try dsimp only [Option.toList, List.cons_append, List.nil_append]
      replace hp2 := hp2 k hk rfl
      refine x_if_eq G 28 dX4_isTold_21 (by decide) (fun c_21 => ?_) (fun c_21 => ?_)
      · rw [x_b_f (fun w => x_b_0.mp c_21 ((fx_iff (by omega)).mp w))] at hp2
        refine x_iconstV (v := nI 0) G dX4_isTold_28 (by decide) ?_
        exact x_iret G dX4_isTold_29 hp2
      · rw [x_b_t ((fx_iff (by omega)).mpr (x_b_n.mp c_21))] at hp2
        refine x_iconstV (v := nI 1) G dX4_isTold_24 (by decide) ?_
        refine x_goto G 29 dX4_isTold_25 (by decide) ?_
        exact x_iret G dX4_isTold_29 hp2
    · have hr : ¬ (nI 0 ≤ v ∧ v ≤ nI 5) := fun w => c_7 ((i_lts (k := 5) (by decide)).mpr w.2)
      refine x_ldc G (-1000000001) (by decide +kernel) dX4_isTold_10 ?_
      exact x_iret G dX4_isTold_12 (hp1 hr)
theorem inX4_follows_4 : ∀ w ∈ wsX40, w ∈ wsX4_follows := by decide +kernel
set_option maxRecDepth 100000 in
set_option maxHeartbeats 4000000 in
/-- follows -/
theorem c_X4_follows (l : Launch) (D : va_G) {dA : Nat → ClassId} {b : Nat} {tx : Nat → Int32} {ln : Nat} {fa : Int32} {x : rT} {pl : Int32} {rd : Nat → Int32} {im : Nat → sT} {ss : Nat → sT} {mx : Nat} {ct : Nat} {so : slT} {ot : slT} {sy : Nat → Nat → Int32} {ab be : Nat → Int32} {n : Nat} {dw kp : Int32} {h : xH} {sz : Nat} {Post : Option Value → xH → Nat → Prop} (hl60 : ln ≤ 60) (hs6 : so.2.2.2.2.2 ≤ 6) (U : Uv dA h b tx ln fa x pl rd ((sy, ab, be, nI n, dw, kp)) im ss mx ct so ot) (hp1 : ¬ (rt tx ln x (nI 1)).1 = 0 → ∀ (h1 : xH) (sz1 : Nat), Uv dA h1 b tx 0 (rt_p (rt tx ln x (nI 1))) ((rt tx ln x (nI 1)).2.2) (rt_p (rt tx ln x (nI 1))) rd ((sy, ab, be, nI n, dw, kp)) im ss mx ct so ot → xF b (b + 279) h h1 → Post (some (.int ((-10) - nI (rt tx ln x (nI 1)).1))) h1 sz1) (hp2 : (rt tx ln x (nI 1)).1 = 0 → ∀ (h1 : xH) (sz1 : Nat), Uv dA h1 b tx 0 (rt_p (rt tx ln x (nI 1))) ((rt tx ln x (nI 1)).2.2) (rt_p (rt tx ln x (nI 1))) (rt_d ((rt tx ln x (nI 1)).2.2.1 0) rd 10) ((sy, ab, be, nI n, dw, kp)) im ss mx ct (sw_u2 (rt_d ((rt tx ln x (nI 1)).2.2.1 0) rd 10) so) ot → xF b (b + 279) h h1 → Post (some (.int (x_b (im_u (rt_d ((rt tx ln x (nI 1)).2.2.1 0) rd 10) so = true)))) h1 sz1) (hpost : True) : xMet l yX4_follows wsX4_follows 6 158 0 0 D dA [.ref b] h sz Post := by
  refine x_open (cc := cX4_follows) (maxL := 2) (ret := (some .int)) (by decide) rfl (Nat.le_of_ble_eq_true rfl) ?_
  intro p e s m args below meth c G _
  have inX4 : ∀ w ∈ wsX40, w ∈ wsX4_follows := inX4_follows_4
  have F := xF_rf (lo := b) (hi := b + 279) (h := h)
  refine x_aload_n G dX4_follows_0 rfl ?_
  refine x_iconstV (v := nI 1) G dX4_follows_1 (by decide) ?_
  refine x_callV (n := 1) (rest := []) (As := [.int (nI 1)]) G (ci := 4) (c_X4_readText (Post := fun r7 h7 sz7 => (¬ (rt tx ln x (nI 1)).1 = 0 ∧ r7 = some (.int ((-10) - nI (rt tx ln x (nI 1)).1)) ∧ Uv dA h7 b tx 0 (rt_p (rt tx ln x (nI 1))) ((rt tx ln x (nI 1)).2.2) (rt_p (rt tx ln x (nI 1))) rd ((sy, ab, be, nI n, dw, kp)) im ss mx ct so ot ∧ xF b (b + 279) h h7) ∨ ((rt tx ln x (nI 1)).1 = 0 ∧ r7 = some (.int (nI 0)) ∧ Uv dA h7 b tx 0 (rt_p (rt tx ln x (nI 1))) ((rt tx ln x (nI 1)).2.2) (rt_p (rt tx ln x (nI 1))) (rt_d ((rt tx ln x (nI 1)).2.2.1 0) rd 10) ((sy, ab, be, nI n, dw, kp)) im ss mx ct so ot ∧ xF b (b + 279) h h7)) l D hl60 (by decide) (by decide) U (fun z h7 sz7 q1 q2 => Or.inl ⟨z, rfl, q1, q2⟩) (fun z h7 sz7 q1 q2 => Or.inr ⟨z, rfl, q1, q2⟩) trivial) gX4_follows_X4_readText rfl ⟨rfl, by decide +kernel, by decide +kernel, by decide +kernel⟩ ⟨by decide, by decide⟩ rfl rfl (uv_o U) dX4_follows_2 rfl rfl (Nat.le_of_ble_eq_true rfl) ⟨by decide, by decide⟩ ?_
  rintro _ h2 sz2 (⟨e0, rfl, U, F⟩ | ⟨e0, rfl, U, F⟩)
  · try dsimp only [Option.toList, List.cons_append, List.nil_append]
    refine x_istore_n G dX4_follows_5 (by decide) ?_
    refine x_iload_n G dX4_follows_6 rfl ?_
    refine x_if_eq G 12 dX4_follows_7 (by decide) (fun c_7 => ?_) (fun c_7 => ?_)
    · exact absurd c_7 (m10_ne _ rt_lt)
    · refine x_iload_n G dX4_follows_10 rfl ?_
      exact x_iret G dX4_follows_11 (hp1 e0 _ _ U F)
  · try dsimp only [Option.toList, List.cons_append, List.nil_append]
    refine x_istore_n G dX4_follows_5 (by decide) ?_
    refine x_iload_n G dX4_follows_6 rfl ?_
    refine x_if_eq G 12 dX4_follows_7 (by decide) (fun c_7 => ?_) (fun c_7 => ?_)
    · refine x_aload_n G dX4_follows_12 rfl ?_
      refine x_get G kX4 inX4 8 (by decide) (by decide +kernel) dX4_follows_13 (uv_o U) rfl ?_
      refine x_aload_n G dX4_follows_16 rfl ?_
      refine x_get G kX4 inX4 4 (by decide) (by decide +kernel) dX4_follows_17 (uv_o U) rfl ?_
      refine x_callV (n := 1) (rest := []) (As := [.ref (b + 13)]) G (ci := 2) (c_u_imply (Post := fun r7 h7 sz7 => r7 = some (.int (x_b (im_u (rt_d ((rt tx ln x (nI 1)).2.2.1 0) rd 10) so = true))) ∧ SlT dA h7 (b + 227) (sw_u2 (rt_d ((rt tx ln x (nI 1)).2.2.1 0) rd 10) so) ∧ xF (b + 227) (b + 227 + 16) h2 h7) l D hs6 (by omega) (by decide) (by decide) (uv_d U) (uv_s U) (fun h7 sz7 q1 q2 => ⟨rfl, q1, q2⟩)) gX4_follows_X2_imply rfl ⟨rfl, by decide +kernel, by decide +kernel, by decide +kernel⟩ ⟨by decide, by decide⟩ rfl rfl (slt_o (uv_s U)).choose_spec dX4_follows_20 rfl rfl (Nat.le_of_ble_eq_true rfl) ⟨by decide, by decide⟩ ?_
      rintro _ h3 sz3 ⟨rfl, Z, F3⟩
      try dsimp only [Option.toList, List.cons_append, List.nil_append]
      replace U := uv_su U Z F3
      replace F := xF_tr F (xF_wd (lo1 := b) (hi1 := b + 279) F3 (by omega) (by omega))
      replace hp2 := hp2 e0 _ sz3 U F
      refine x_if_eq G 30 dX4_follows_23 (by decide) (fun c_23 => ?_) (fun c_23 => ?_)
      · rw [x_b_f (x_b_0.mp c_23)] at hp2
        refine x_iconstV (v := nI 0) G dX4_follows_30 (by decide) ?_
        exact x_iret G dX4_follows_31 hp2
      · rw [x_b_t (x_b_n.mp c_23)] at hp2
        refine x_iconstV (v := nI 1) G dX4_follows_26 (by decide) ?_
        refine x_goto G 31 dX4_follows_27 (by decide) ?_
        exact x_iret G dX4_follows_31 hp2
    · exact absurd rfl c_7
theorem inX4_couldBe_4 : ∀ w ∈ wsX40, w ∈ wsX4_couldBe := by decide +kernel
set_option maxRecDepth 100000 in
set_option maxHeartbeats 4000000 in
/-- couldBe -/
theorem c_X4_couldBe (l : Launch) (D : va_G) {dA : Nat → ClassId} {b : Nat} {tx : Nat → Int32} {ln : Nat} {fa : Int32} {x : rT} {pl : Int32} {rd : Nat → Int32} {im : Nat → sT} {ss : Nat → sT} {mx : Nat} {ct : Nat} {so : slT} {ot : slT} {sy : Nat → Nat → Int32} {ab be : Nat → Int32} {n : Nat} {dw kp : Int32} {h : xH} {sz : Nat} {Post : Option Value → xH → Nat → Prop} (hl60 : ln ≤ 60) (hs6 : so.2.2.2.2.2 ≤ 6) (U : Uv dA h b tx ln fa x pl rd ((sy, ab, be, nI n, dw, kp)) im ss mx ct so ot) (hp1 : ¬ (rt tx ln x (nI 1)).1 = 0 → ∀ (h1 : xH) (sz1 : Nat), Uv dA h1 b tx 0 (rt_p (rt tx ln x (nI 1))) ((rt tx ln x (nI 1)).2.2) (rt_p (rt tx ln x (nI 1))) rd ((sy, ab, be, nI n, dw, kp)) im ss mx ct so ot → xF b (b + 279) h h1 → Post (some (.int ((-10) - nI (rt tx ln x (nI 1)).1))) h1 sz1) (hp2 : (rt tx ln x (nI 1)).1 = 0 → ∀ (h1 : xH) (sz1 : Nat), Uv dA h1 b tx 0 (rt_p (rt tx ln x (nI 1))) ((rt tx ln x (nI 1)).2.2) (rt_p (rt tx ln x (nI 1))) (rt_d ((rt tx ln x (nI 1)).2.2.1 0) rd 10) ((sy, ab, be, nI n, dw, kp)) im ss mx ct (sw_u2 (rt_d ((rt tx ln x (nI 1)).2.2.1 0) rd 10) so) ot → xF b (b + 279) h h1 → Post (some (.int (x_b (ag_u (rt_d ((rt tx ln x (nI 1)).2.2.1 0) rd 10) so = true)))) h1 sz1) (hpost : True) : xMet l yX4_couldBe wsX4_couldBe 6 158 0 0 D dA [.ref b] h sz Post := by
  refine x_open (cc := cX4_couldBe) (maxL := 2) (ret := (some .int)) (by decide) rfl (Nat.le_of_ble_eq_true rfl) ?_
  intro p e s m args below meth c G _
  have inX4 : ∀ w ∈ wsX40, w ∈ wsX4_couldBe := inX4_couldBe_4
  have F := xF_rf (lo := b) (hi := b + 279) (h := h)
  refine x_aload_n G dX4_couldBe_0 rfl ?_
  refine x_iconstV (v := nI 1) G dX4_couldBe_1 (by decide) ?_
  refine x_callV (n := 1) (rest := []) (As := [.int (nI 1)]) G (ci := 4) (c_X4_readText (Post := fun r7 h7 sz7 => (¬ (rt tx ln x (nI 1)).1 = 0 ∧ r7 = some (.int ((-10) - nI (rt tx ln x (nI 1)).1)) ∧ Uv dA h7 b tx 0 (rt_p (rt tx ln x (nI 1))) ((rt tx ln x (nI 1)).2.2) (rt_p (rt tx ln x (nI 1))) rd ((sy, ab, be, nI n, dw, kp)) im ss mx ct so ot ∧ xF b (b + 279) h h7) ∨ ((rt tx ln x (nI 1)).1 = 0 ∧ r7 = some (.int (nI 0)) ∧ Uv dA h7 b tx 0 (rt_p (rt tx ln x (nI 1))) ((rt tx ln x (nI 1)).2.2) (rt_p (rt tx ln x (nI 1))) (rt_d ((rt tx ln x (nI 1)).2.2.1 0) rd 10) ((sy, ab, be, nI n, dw, kp)) im ss mx ct so ot ∧ xF b (b + 279) h h7)) l D hl60 (by decide) (by decide) U (fun z h7 sz7 q1 q2 => Or.inl ⟨z, rfl, q1, q2⟩) (fun z h7 sz7 q1 q2 => Or.inr ⟨z, rfl, q1, q2⟩) trivial) gX4_couldBe_X4_readText rfl ⟨rfl, by decide +kernel, by decide +kernel, by decide +kernel⟩ ⟨by decide, by decide⟩ rfl rfl (uv_o U) dX4_couldBe_2 rfl rfl (Nat.le_of_ble_eq_true rfl) ⟨by decide, by decide⟩ ?_
  rintro _ h2 sz2 (⟨e0, rfl, U, F⟩ | ⟨e0, rfl, U, F⟩)
  · try dsimp only [Option.toList, List.cons_append, List.nil_append]
    refine x_istore_n G dX4_couldBe_5 (by decide) ?_
    refine x_iload_n G dX4_couldBe_6 rfl ?_
    refine x_if_eq G 12 dX4_couldBe_7 (by decide) (fun c_7 => ?_) (fun c_7 => ?_)
    · exact absurd c_7 (m10_ne _ rt_lt)
    · refine x_iload_n G dX4_couldBe_10 rfl ?_
      exact x_iret G dX4_couldBe_11 (hp1 e0 _ _ U F)
  · try dsimp only [Option.toList, List.cons_append, List.nil_append]
    refine x_istore_n G dX4_couldBe_5 (by decide) ?_
    refine x_iload_n G dX4_couldBe_6 rfl ?_
    refine x_if_eq G 12 dX4_couldBe_7 (by decide) (fun c_7 => ?_) (fun c_7 => ?_)
    · refine x_aload_n G dX4_couldBe_12 rfl ?_
      refine x_get G kX4 inX4 8 (by decide) (by decide +kernel) dX4_couldBe_13 (uv_o U) rfl ?_
      refine x_aload_n G dX4_couldBe_16 rfl ?_
      refine x_get G kX4 inX4 4 (by decide) (by decide +kernel) dX4_couldBe_17 (uv_o U) rfl ?_
      refine x_callV (n := 1) (rest := []) (As := [.ref (b + 13)]) G (ci := 2) (c_u_agrees (Post := fun r7 h7 sz7 => r7 = some (.int (x_b (ag_u (rt_d ((rt tx ln x (nI 1)).2.2.1 0) rd 10) so = true))) ∧ SlT dA h7 (b + 227) (sw_u2 (rt_d ((rt tx ln x (nI 1)).2.2.1 0) rd 10) so) ∧ xF (b + 227) (b + 227 + 16) h2 h7) l D hs6 (by omega) (by decide) (by decide) (uv_d U) (uv_s U) (fun h7 sz7 q1 q2 => ⟨rfl, q1, q2⟩)) gX4_couldBe_X2_agrees rfl ⟨rfl, by decide +kernel, by decide +kernel, by decide +kernel⟩ ⟨by decide, by decide⟩ rfl rfl (slt_o (uv_s U)).choose_spec dX4_couldBe_20 rfl rfl (Nat.le_of_ble_eq_true rfl) ⟨by decide, by decide⟩ ?_
      rintro _ h3 sz3 ⟨rfl, Z, F3⟩
      try dsimp only [Option.toList, List.cons_append, List.nil_append]
      replace U := uv_su U Z F3
      replace F := xF_tr F (xF_wd (lo1 := b) (hi1 := b + 279) F3 (by omega) (by omega))
      replace hp2 := hp2 e0 _ sz3 U F
      refine x_if_eq G 30 dX4_couldBe_23 (by decide) (fun c_23 => ?_) (fun c_23 => ?_)
      · rw [x_b_f (x_b_0.mp c_23)] at hp2
        refine x_iconstV (v := nI 0) G dX4_couldBe_30 (by decide) ?_
        exact x_iret G dX4_couldBe_31 hp2
      · rw [x_b_t (x_b_n.mp c_23)] at hp2
        refine x_iconstV (v := nI 1) G dX4_couldBe_26 (by decide) ?_
        refine x_goto G 31 dX4_couldBe_27 (by decide) ?_
        exact x_iret G dX4_couldBe_31 hp2
    · exact absurd rfl c_7
