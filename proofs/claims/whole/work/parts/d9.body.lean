/-! ## The law: its loop and its body -/
theorem lp_gt {L k : Nat} (hL : L ≤ 2048) (hk : k ≤ 2048) : (nI L - nI 4 < nI k) ↔ L < k + 4 := by
  rw [nI_iZ L, nI_iZ 4, nI_iZ k, iZ_sub, Int32.lt_iff_toInt_lt, iZ_toInt (by omega), iZ_toInt (by omega)]
  omega
section
variable {p : Program} {l : Launch} {e : Env} {s : State} {m : MethodId} {below : List Frame} {meth : Method} {c : Code} {D : va_G} {dA : Nat → ClassId} {b L B : Nat} {xs : Nat → Int32}
set_option maxRecDepth 100000 in
set_option maxHeartbeats 4000000 in
theorem law_loop (G : xG p s m #[Value.ref b] meth c cL_law 4 wsL_law RL (some .boolean) D dA s.heap.size) (hX : va_X b L xs s s.heap) (hbl : b < s.heap.size) (hL : L ≤ 2048) : ∀ (j : Nat) (h : xH) (sz : Nat), (ReH dA h B ∧ 4 * j ≤ L) → XL p l e s m b below meth c D dA 18 [(0, .ref b), (1, .ref B), (2, .ref (B + 279)), (3, .int (nI (4 * j)))] [] h sz := by
  refine x_while (σ := Nat) (fun j => [(0, .ref b), (1, .ref B), (2, .ref (B + 279)), (3, .int (nI (4 * j)))]) [] (fun j h _ => ReH dA h B ∧ 4 * j ≤ L) (fun j => L - 4 * j) ?_
  rintro j h sz ⟨R, hj⟩ nx
  refine x_iload_n G dL_law_18 rfl ?_
  refine x_aload_n G dL_law_19 rfl ?_
  refine x_slen G hX hbl rfl dL_law_20 ?_
  refine x_iconstV (v := nI 4) G dL_law_21 (by decide) ?_
  refine x_isub G dL_law_22 ?_
  refine x_icmp_gt G 608 dL_law_23 (by decide) (fun q => ?_) (fun q => ?_)
  · refine x_iconstV (v := 1) G dL_law_608 (by decide) ?_
    exact x_wide (Nat.le_of_ble_eq_true rfl) (Nat.le_of_ble_eq_true rfl) (x_zret G dL_law_609 rfl rfl)
  · have hj4 : 4 * j + 4 ≤ L := by
      have := mt (lp_gt hL (by omega)).mpr q
      omega
    clear q
    have K : ∀ (h1 : xH) (sz1 : Nat), ReH dA h1 B → XL p l e s m b below meth c D dA 602 [(0, .ref b), (1, .ref B), (2, .ref (B + 279)), (3, .int (nI (4 * j)))] [] h1 sz1 := fun h1 sz1 R1 => by
      have e4 : nI (4 * j) + Int32.ofInt 4 = nI (4 * (j + 1)) := by
        rw [show Int32.ofInt 4 = nI 4 from by decide, nI_ad, show 4 * j + 4 = 4 * (j + 1) by omega]
      refine x_iinc G dL_law_602 rfl (by decide) ?_
      refine x_locE (lv2 := [(0, .ref b), (1, .ref B), (2, .ref (B + 279)), (3, .int (nI (4 * (j + 1))))]) (by rw [← e4]; rfl) ?_
      exact x_goto G 18 dL_law_605 (by decide) (nx (j + 1) h1 sz1 ⟨R1, by omega⟩ (by show L - 4 * (j + 1) < L - 4 * j; omega))
    refine x_aload_n G dL_law_26 rfl ?_
    refine x_iload_n G dL_law_27 rfl ?_
    refine x_sld (k := 4 * j) G hX hbl rfl (by omega) hL dL_law_28 ?_
    refine x_bipushV (v := nI 31) G dL_law_29 (by decide) ?_
    refine x_iand G dL_law_31 ?_
    generalize xs (4 * j) &&& nI 31 = v
    by_cases hw : v.toInt < 0 ∨ 19 < v.toInt
    · exact x_tableOut G 602 dL_law_32 hw (by decide) (K h sz R)
    · obtain ⟨w, -, hw9, rfl⟩ := in_nat2 (lo := 0) (hi := 19) (v := v) (by omega) (by decide) ⟨Int32.le_iff_toInt_le.mpr (by rw [nI_toInt (by decide)]; omega), Int32.le_iff_toInt_le.mpr (by rw [nI_toInt (by decide)]; omega)⟩
      clear hw nx
      rcases (show w = 0 ∨ w = 1 ∨ w = 2 ∨ w = 3 ∨ w = 4 ∨ w = 5 ∨ w = 6 ∨ w = 7 ∨ w = 8 ∨ w = 9 ∨ w = 10 ∨ w = 11 ∨ w = 12 ∨ w = 13 ∨ w = 14 ∨ w = 15 ∨ w = 16 ∨ w = 17 ∨ w = 18 ∨ w = 19 by omega) with rfl | rfl | rfl | rfl | rfl | rfl | rfl | rfl | rfl | rfl | rfl | rfl | rfl | rfl | rfl | rfl | rfl | rfl | rfl | rfl
      · exact x_tableIn (off := 96) G 128 dL_law_32 (by decide) (by decide) (by decide) (by decide) (lc_feed G hX hbl hL hj4 R K)
      · exact x_tableIn (off := 119) G 151 dL_law_32 (by decide) (by decide) (by decide) (by decide) (lc_wipe G hX hbl hL hj4 R K)
      · exact x_tableIn (off := 132) G 164 dL_law_32 (by decide) (by decide) (by decide) (by decide) (lc_fault G hX hbl hL hj4 R K)
      · exact x_tableIn (off := 145) G 177 dL_law_32 (by decide) (by decide) (by decide) (by decide) (lc_told G hX hbl hL hj4 R K)
      · exact x_tableIn (off := 168) G 200 dL_law_32 (by decide) (by decide) (by decide) (by decide) (lc_say G hX hbl hL hj4 R K)
      · exact x_tableIn (off := 181) G 213 dL_law_32 (by decide) (by decide) (by decide) (by decide) (lc_back G hX hbl hL hj4 R K)
      · exact x_tableIn (off := 204) G 236 dL_law_32 (by decide) (by decide) (by decide) (by decide) (lc_scale G hX hbl hL hj4 R K)
      · exact x_tableIn (off := 247) G 279 dL_law_32 (by decide) (by decide) (by decide) (by decide) (lc_drift G hX hbl hL hj4 R K)
      · exact x_tableIn (off := 270) G 302 dL_law_32 (by decide) (by decide) (by decide) (by decide) (lc_undo G hX hbl hL hj4 R K)
      · exact x_tableIn (off := 293) G 325 dL_law_32 (by decide) (by decide) (by decide) (by decide) (lc_saying G hX hbl hL hj4 R K)
      · exact x_tableIn (off := 326) G 358 dL_law_32 (by decide) (by decide) (by decide) (by decide) (lc_free G hX hbl hL hj4 R K)
      · exact x_tableIn (off := 360) G 392 dL_law_32 (by decide) (by decide) (by decide) (by decide) (lc_least G hX hbl hL hj4 R K)
      · exact x_tableIn (off := 394) G 426 dL_law_32 (by decide) (by decide) (by decide) (by decide) (lc_isTold G hX hbl hL hj4 R K)
      · exact x_tableIn (off := 417) G 449 dL_law_32 (by decide) (by decide) (by decide) (by decide) (lc_follows G hX hbl hL hj4 R K)
      · exact x_tableIn (off := 430) G 462 dL_law_32 (by decide) (by decide) (by decide) (by decide) (lc_couldBe G hX hbl hL hj4 R K)
      · exact x_tableIn (off := 443) G 475 dL_law_32 (by decide) (by decide) (by decide) (by decide) (lc_measured G hX hbl hL hj4 R K)
      · exact x_tableIn (off := 467) G 499 dL_law_32 (by decide) (by decide) (by decide) (by decide) (lc_converted G hX hbl hL hj4 R K)
      · exact x_tableIn (off := 501) G 533 dL_law_32 (by decide) (by decide) (by decide) (by decide) (lc_seed G hX hbl hL hj4 R K)
      · exact x_tableIn (off := 524) G 556 dL_law_32 (by decide) (by decide) (by decide) (by decide) (lc_keep G hX hbl hL hj4 R K)
      · exact x_tableIn (off := 547) G 579 dL_law_32 (by decide) (by decide) (by decide) (by decide) (lc_goBack G hX hbl hL hj4 R K)
set_option maxRecDepth 100000 in
set_option maxHeartbeats 4000000 in
theorem law_body (G : xG p s m #[Value.ref b] meth c cL_law 4 wsL_law RL (some .boolean) D dA s.heap.size) (hX : va_X b L xs s s.heap) (hbl : b < s.heap.size) (hL : L ≤ 2048) (hW1 : va_Nw xW1 s) : xV p l e room_1 s m #[Value.ref b] below meth c D dA 4 (fun _ => none) s.heap.size 600000 7302250 (fun r _ _ => r = some (.int 1)) 0 0 0 [(0, .ref b)] [] (fun _ => none) s.heap.size := by
  refine x_newO (fs := [.null, .int 0, .int 0, .null, .null, .null, .null, .null, .null, .null]) (sz1 := s.heap.size + 1) G kX4 inlX4 rfl (by decide +kernel) (by decide +kernel) (by decide +kernel) dL_law_0 df_4 (Nat.le_of_ble_eq_true rfl) (Nat.le_of_ble_eq_true rfl) ?_
  refine x_dup G dL_law_3 rfl ?_
  refine x_callI2 (n := 0) (rest := [.ref s.heap.size]) (As := []) G (c_X4_init (Post := fun r7 h7 sz7 => r7 = none ∧ Uv dA h7 s.heap.size (fun _ => 0) 0 (-1) ((fun _ _ => 0), (fun _ => 0), (fun _ => 0), 0, 0, 0, 0, 0) (-1) (fun _ => 0) sT_0 (fun _ => sT_0) (fun _ => sT_0) 0 0 (sc ((fun _ _ => 0), (fun _ _ => 0), (fun _ => 0), (fun _ => 0), 0, 0)) (sc ((fun _ _ => 0), (fun _ _ => 0), (fun _ => 0), (fun _ => 0), 0, 0)) ∧ s.heap.size + 279 = sz7) l D x_up_eq (fun h7 q1 q2 => ⟨rfl, q1, rfl⟩)) hW1 gL_law_X4_init rfl (by decide +kernel) (by decide +kernel) (by decide +kernel) rfl ⟨by decide +kernel, by decide +kernel, by decide +kernel⟩ ⟨by decide, by decide⟩ dL_law_4 rfl rfl (Nat.le_of_ble_eq_true rfl) ⟨Nat.le_of_ble_eq_true rfl, Nat.le_of_ble_eq_true rfl⟩ ?_
  rintro _ h1 _ ⟨rfl, U1, rfl⟩
  try dsimp only [Option.toList, List.cons_append, List.nil_append]
  refine x_astore_n G dL_law_7 (by decide) ?_
  refine x_locE (lv2 := [(0, .ref b), (1, .ref s.heap.size)]) rfl ?_
  refine x_newO (fs := [.null, .int 0, .int 0, .null, .null, .int 0, .long 0, .null, .null, .null, .int 0, .int 0, .int 0, .null, .null, .null, .null, .null, .int 0, .null, .null]) (sz1 := s.heap.size + 279 + 1) G kX5 inlX5 rfl (by decide +kernel) (by decide +kernel) (by decide +kernel) dL_law_8 df_5 (Nat.le_of_ble_eq_true rfl) (Nat.le_of_ble_eq_true rfl) ?_
  refine x_dup G dL_law_11 rfl ?_
  obtain ⟨g1, eg1⟩ : ∃ g : xH, g = x_up h1 (s.heap.size + 279) (.inr (5, [.null, .int 0, .int 0, .null, .null, .int 0, .long 0, .null, .null, .null, .int 0, .int 0, .int 0, .null, .null, .null, .null, .null, .int 0, .null, .null])) := ⟨_, rfl⟩
  refine x_as rfl rfl eg1.symm ?_
  have kn : g1 (s.heap.size + 279) = some (.inr (5, [.null, .int 0, .int 0, .null, .null, .int 0, .long 0, .null, .null, .null, .int 0, .int 0, .int 0, .null, .null, .null, .null, .null, .int 0, .null, .null])) := by
    rw [eg1]
    exact x_up_eq
  have F1 : xF (s.heap.size + 279) (s.heap.size + 279 + 14) h1 g1 := by
    rw [eg1]
    exact xF_up xF_rf (by omega) (by omega)
  clear eg1
  refine x_callI (n := 0) (rest := [.ref (s.heap.size + 279)]) (As := []) G (c_X5_init (Post := fun r7 h7 sz7 => r7 = none ∧ MS dA h7 (s.heap.size + 279) (fun _ => 0) 0 (-1) (in_s 69) (fun _ => 0) 0 0 (fun _ => 0) (fun _ => 0) (fun _ => 0) 0 0 0 (fun _ => 0) (fun _ => 0) (fun _ => 0) (fun _ => 0) ∧ xF (s.heap.size + 279) (s.heap.size + 279 + 14) g1 h7) l D kn (fun h7 q1 q2 => ⟨rfl, ⟨_, _, _, _, q1⟩, q2⟩)) gL_law_X5_init rfl (by decide +kernel) (by decide +kernel) (by decide +kernel) rfl ⟨by decide +kernel, by decide +kernel, by decide +kernel⟩ ⟨by decide, by decide⟩ dL_law_12 rfl rfl (Nat.le_of_ble_eq_true rfl) ⟨Nat.le_of_ble_eq_true rfl, Nat.le_of_ble_eq_true rfl⟩ ?_
  rintro _ h2 sz2 ⟨rfl, M2, F2⟩
  try dsimp only [Option.toList, List.cons_append, List.nil_append]
  have U2 := uv_fo U1 (xF_tr F1 F2) (Or.inl (Nat.le_refl _))
  have R2 := ReH_new U2 M2
  refine x_astore_n G dL_law_15 (by decide) ?_
  refine x_iconstV (v := nI 0) G dL_law_16 (by decide) ?_
  refine x_istore_n G dL_law_17 (by decide) ?_
  refine x_locE (lv2 := [(0, .ref b), (1, .ref s.heap.size), (2, .ref (s.heap.size + 279)), (3, .int (nI (4 * 0)))]) rfl ?_
  exact law_loop G hX hbl hL 0 h2 sz2 ⟨R2, by omega⟩
end
