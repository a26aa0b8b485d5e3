/-! ## Integer.bitCount of a set of six -/
set_option maxRecDepth 100000 in
set_option maxHeartbeats 4000000 in
/-- bitCount -/
theorem c_bitCount (l : Launch) (D : va_G) {dA : Nat → ClassId} {s9 : Nat} {h : xH} {sz : Nat} {Post : Option Value → xH → Nat → Prop} (hs : s9 < 64) (hpost : Post (some (.int (nI (r_bits s9)))) h sz) : xMet l yJ6_bitCount_0f7a4 wsJ6_bitCount_0f7a4 0 0 0 0 D dA [.int (nI s9)] h sz Post := by
  refine x_open (cc := cJ6_bitCount_0f7a4) (maxL := 1) (ret := (some .int)) (by decide) rfl (Nat.le_of_ble_eq_true rfl) ?_
  intro p e s m args below meth c G _
  refine x_iload_n G dJ6_bitCount_0f7a4_0 rfl ?_
  refine x_iload_n G dJ6_bitCount_0f7a4_1 rfl ?_
  refine x_iconstV (v := nI 1) G dJ6_bitCount_0f7a4_2 (by decide) ?_
  refine x_iushr G dJ6_bitCount_0f7a4_3 ?_
  refine x_ldc_w G (1431655765) (by decide +kernel) dJ6_bitCount_0f7a4_4 ?_
  refine x_iand G dJ6_bitCount_0f7a4_7 ?_
  refine x_isub G dJ6_bitCount_0f7a4_8 ?_
  refine x_istore_n G dJ6_bitCount_0f7a4_9 (by decide) ?_
  refine x_iload_n G dJ6_bitCount_0f7a4_10 rfl ?_
  refine x_ldc_w G (858993459) (by decide +kernel) dJ6_bitCount_0f7a4_11 ?_
  refine x_iand G dJ6_bitCount_0f7a4_14 ?_
  refine x_iload_n G dJ6_bitCount_0f7a4_15 rfl ?_
  refine x_iconstV (v := nI 2) G dJ6_bitCount_0f7a4_16 (by decide) ?_
  refine x_iushr G dJ6_bitCount_0f7a4_17 ?_
  refine x_ldc_w G (858993459) (by decide +kernel) dJ6_bitCount_0f7a4_18 ?_
  refine x_iand G dJ6_bitCount_0f7a4_21 ?_
  refine x_iadd G dJ6_bitCount_0f7a4_22 ?_
  refine x_istore_n G dJ6_bitCount_0f7a4_23 (by decide) ?_
  refine x_iload_n G dJ6_bitCount_0f7a4_24 rfl ?_
  refine x_iload_n G dJ6_bitCount_0f7a4_25 rfl ?_
  refine x_iconstV (v := nI 4) G dJ6_bitCount_0f7a4_26 (by decide) ?_
  refine x_iushr G dJ6_bitCount_0f7a4_27 ?_
  refine x_iadd G dJ6_bitCount_0f7a4_28 ?_
  refine x_ldc_w G (252645135) (by decide +kernel) dJ6_bitCount_0f7a4_29 ?_
  refine x_iand G dJ6_bitCount_0f7a4_32 ?_
  refine x_istore_n G dJ6_bitCount_0f7a4_33 (by decide) ?_
  refine x_iload_n G dJ6_bitCount_0f7a4_34 rfl ?_
  refine x_iload_n G dJ6_bitCount_0f7a4_35 rfl ?_
  refine x_bipushV (v := nI 8) G dJ6_bitCount_0f7a4_36 (by decide) ?_
  refine x_iushr G dJ6_bitCount_0f7a4_38 ?_
  refine x_iadd G dJ6_bitCount_0f7a4_39 ?_
  refine x_istore_n G dJ6_bitCount_0f7a4_40 (by decide) ?_
  refine x_iload_n G dJ6_bitCount_0f7a4_41 rfl ?_
  refine x_iload_n G dJ6_bitCount_0f7a4_42 rfl ?_
  refine x_bipushV (v := nI 16) G dJ6_bitCount_0f7a4_43 (by decide) ?_
  refine x_iushr G dJ6_bitCount_0f7a4_45 ?_
  refine x_iadd G dJ6_bitCount_0f7a4_46 ?_
  refine x_istore_n G dJ6_bitCount_0f7a4_47 (by decide) ?_
  refine x_iload_n G dJ6_bitCount_0f7a4_48 rfl ?_
  refine x_bipushV (v := nI 63) G dJ6_bitCount_0f7a4_49 (by decide) ?_
  refine x_iand G dJ6_bitCount_0f7a4_51 ?_
  refine x_topE (y := nI (r_bits s9)) ?_ ?_
  · clear hpost
    revert hs
    revert s9
    decide +kernel
  exact x_iret G dJ6_bitCount_0f7a4_52 hpost
