/-! ## The class: told, say, back, scale, undo -/
def nt_s (ss : Nat → sT) (m : Nat) (t : sT) : Nat → sT := fun i => if i = m then sT_cp t (ss m) else ss i
def nt_c (c : Nat) : Nat := if c < 20 then c + 1 else c
def tlA (sy : Nat → Nat → Int32) (n : Nat) (so ot : slT) (ln ct w : Nat) : Int32 := if w = 0 then nI n else if w = 1 then nI 6 - nI so.2.2.2.2.2 else if w = 2 then nI so.2.2.2.2.2 else if w = 3 then nI (r_ct (fun i => fx_b so.1 so.2.2.2.2.2 i) 6) else if w = 4 then nI ln else if w = 5 then nI (cs sy n ot n).1 else if w = 6 then nI (r_bits (ns sy ot n).1) else if w = 7 then nI (ns sy ot n).1 else nI ct
theorem inX4_told_4 : ∀ w ∈ wsX40, w ∈ wsX4_told := by decide +kernel
theorem inX4_told_3 : ∀ w ∈ wsX30, w ∈ wsX4_told := by decide +kernel
theorem inX4_told_2 : ∀ w ∈ wsX20, w ∈ wsX4_told := by decide +kernel
theorem inX4_told_0 : ∀ w ∈ wsX00, w ∈ wsX4_told := by decide +kernel
theorem i_lts {v : Int32} {k : Nat} (hk : k < 2 ^ 30) : v < nI (k + 1) ↔ v ≤ nI k := by
  rw [Int32.lt_iff_toInt_lt, Int32.le_iff_toInt_le, nI_toInt (by omega), nI_toInt (by omega)]
  omega
theorem le_of_lt9 {v : Int32} (h : v < nI 9) : v ≤ nI 8 := (i_lts (k := 8) (by decide)).mp h
theorem lt9_of_le {v : Int32} (h : v ≤ nI 8) : v < nI 9 := (i_lts (k := 8) (by decide)).mpr h
set_option maxRecDepth 100000 in
set_option maxHeartbeats 4000000 in
/-- told -/
theorem c_X4_told (l : Launch) (D : va_G) {dA : Nat → ClassId} {b : Nat} {tx : Nat → Int32} {ln : Nat} {fa : Int32} {x : rT} {pl : Int32} {rd : Nat → Int32} {im : Nat → sT} {ss : Nat → sT} {mx : Nat} {ct : Nat} {so : slT} {ot : slT} {sy : Nat → Nat → Int32} {ab be : Nat → Int32} {n : Nat} {dw kp : Int32} {v : Int32} {h : xH} {sz : Nat} {Post : Option Value → xH → Nat → Prop} (hn6 : n ≤ 6) (hs6 : so.2.2.2.2.2 ≤ 6) (U : Uv dA h b tx ln fa x pl rd ((sy, ab, be, nI n, dw, kp)) im ss mx ct so ot) (hp1 : ¬ (nI 0 ≤ v ∧ v ≤ nI 8) → Post (some (.int (-1000000002))) h sz) (hp2 : ∀ w, w ≤ 8 → v = nI w → ∀ (ot1 : slT) (h1 : xH) (sz1 : Nat), Uv dA h1 b tx ln fa x pl rd ((sy, ab, be, nI n, dw, kp)) im ss mx ct so ot1 → xF b (b + 279) h h1 → Post (some (.int (tlA sy n so ot ln ct w))) h1 sz1) (hpost : True) : xMet l yX4_told wsX4_told 6 158 0 0 D dA [.ref b, .int v] h sz Post := by
  refine x_open (cc := cX4_told) (maxL := 2) (ret := (some .int)) (by decide) rfl (Nat.le_of_ble_eq_true rfl) ?_
  intro p e s m args below meth c G _
  have inX4 : ∀ w ∈ wsX40, w ∈ wsX4_told := inX4_told_4
  have inX3 : ∀ w ∈ wsX30, w ∈ wsX4_told := inX4_told_3
  have inX2 : ∀ w ∈ wsX20, w ∈ wsX4_told := inX4_told_2
  have inX0 : ∀ w ∈ wsX00, w ∈ wsX4_told := inX4_told_0
  have F := xF_rf (lo := b) (hi := b + 279) (h := h)
  refine x_iload_n G dX4_told_0 rfl ?_
  refine x_if_lt G 10 dX4_told_1 (by decide) (fun c_1 => ?_) (fun c_1 => ?_)
  · have hr : ¬ (nI 0 ≤ v ∧ v ≤ nI 8) := fun z => absurd z.1 (Int32.not_le.mpr c_1)
    refine x_ldc G (-1000000002) (by decide +kernel) dX4_told_10 ?_
    exact x_iret G dX4_told_12 (hp1 hr)
  · have h1 := Int32.not_lt.mp c_1
    refine x_iload_n G dX4_told_4 rfl ?_
    refine x_bipushV (v := nI 9) G dX4_told_5 (by decide) ?_
    refine x_icmp_lt G 13 dX4_told_7 (by decide) (fun c_7 => ?_) (fun c_7 => ?_)
    · have hr : nI 0 ≤ v ∧ v ≤ nI 8 := ⟨h1, le_of_lt9 c_7⟩
      refine x_iload_n G dX4_told_13 rfl ?_
      obtain ⟨w, -, hw, rfl⟩ := in_nat2 (lo := 0) (hi := 8) (by decide) (by decide) hr
      rcases (show w = 0 ∨ w = 1 ∨ w = 2 ∨ w = 3 ∨ w = 4 ∨ w = 5 ∨ w = 6 ∨ w = 7 ∨ w = 8 by omega) with rfl | rfl | rfl | rfl | rfl | rfl | rfl | rfl | rfl
      · refine x_tableIn (off := 46) G 60 dX4_told_14 (by decide) (by decide) (by decide) (by decide) ?_
        refine x_aload_n G dX4_told_60 rfl ?_
        refine x_get G kX4 inX4 5 (by decide) (by decide +kernel) dX4_told_61 (uv_o U) rfl ?_
        refine x_getN (host := "UnitVectors") G kX3 inX3 3 (by decide) (by decide +kernel) dX4_told_64 (st_o (uv_n U)) rfl ?_
        exact x_iret G dX4_told_67 (hp2 0 (by decide) rfl _ _ _ U F)
      · refine x_tableIn (off := 54) G 68 dX4_told_14 (by decide) (by decide) (by decide) (by decide) ?_
        obtain ⟨ad, S⟩ := uv_s U
        refine x_bipushV (v := nI 6) G dX4_told_68 (by decide) ?_
        refine x_aload_n G dX4_told_70 rfl ?_
        refine x_get G kX4 inX4 8 (by decide) (by decide +kernel) dX4_told_71 (uv_o U) rfl ?_
        refine x_getN (host := "UnitVectors") G kX2 inX2 6 (by decide) (by decide +kernel) dX4_told_74 (sl_o S) rfl ?_
        refine x_isub G dX4_told_77 ?_
        exact x_iret G dX4_told_78 (hp2 1 (by decide) rfl _ _ _ U F)
      · refine x_tableIn (off := 65) G 79 dX4_told_14 (by decide) (by decide) (by decide) (by decide) ?_
        obtain ⟨ad, S⟩ := uv_s U
        refine x_aload_n G dX4_told_79 rfl ?_
        refine x_get G kX4 inX4 8 (by decide) (by decide +kernel) dX4_told_80 (uv_o U) rfl ?_
        refine x_getN (host := "UnitVectors") G kX2 inX2 6 (by decide) (by decide +kernel) dX4_told_83 (sl_o S) rfl ?_
        exact x_iret G dX4_told_86 (hp2 2 (by decide) rfl _ _ _ U F)
      · refine x_tableIn (off := 73) G 87 dX4_told_14 (by decide) (by decide) (by decide) (by decide) ?_
        refine x_aload_n G dX4_told_87 rfl ?_
        refine x_callV (n := 0) (rest := []) (As := []) G (ci := 4) (c_X4_countFixed (Post := fun r7 h7 sz7 => r7 = some (.int (nI (r_ct (fun i => fx_b so.1 so.2.2.2.2.2 i) 6))) ∧ h = h7 ∧ sz = sz7) l D hs6 U ⟨rfl, rfl, rfl⟩) gX4_told_X4_countFixed rfl ⟨rfl, by decide +kernel, by decide +kernel, by decide +kernel⟩ ⟨by decide, by decide⟩ rfl rfl (uv_o U) dX4_told_88 rfl rfl (Nat.le_of_ble_eq_true rfl) ⟨by decide, by decide⟩ ?_
        rintro _ _ _ ⟨rfl, rfl, rfl⟩
        try dsimp only [Option.toList, List.cons_append, List.nil_append]
        exact x_iret G dX4_told_91 (hp2 3 (by decide) rfl _ _ _ U F)
      · refine x_tableIn (off := 78) G 92 dX4_told_14 (by decide) (by decide) (by decide) (by decide) ?_
        refine x_aload_n G dX4_told_92 rfl ?_
        refine x_get G kX4 inX4 1 (by decide) (by decide +kernel) dX4_told_93 (uv_o U) rfl ?_
        exact x_iret G dX4_told_96 (hp2 4 (by decide) rfl _ _ _ U F)
      · refine x_tableIn (off := 83) G 97 dX4_told_14 (by decide) (by decide) (by decide) (by decide) ?_
        refine x_aload_n G dX4_told_97 rfl ?_
        refine x_callV (n := 0) (rest := []) (As := []) G (ci := 4) (c_X4_countSpare (Post := fun r7 h7 sz7 => r7 = some (.int (nI (cs sy n ot n).1)) ∧ Uv dA h7 b tx ln fa x pl rd ((sy, ab, be, nI n, dw, kp)) im ss mx ct so ((cs sy n ot n).2) ∧ xF b (b + 279) h h7) l D hn6 U (fun h7 sz7 q1 q2 => ⟨rfl, q1, q2⟩)) gX4_told_X4_countSpare rfl ⟨rfl, by decide +kernel, by decide +kernel, by decide +kernel⟩ ⟨by decide, by decide⟩ rfl rfl (uv_o U) dX4_told_98 rfl rfl (Nat.le_of_ble_eq_true rfl) ⟨by decide, by decide⟩ ?_
        rintro _ h2 sz2 ⟨rfl, U, F⟩
        try dsimp only [Option.toList, List.cons_append, List.nil_append]
        exact x_iret G dX4_told_101 (hp2 5 (by decide) rfl _ _ _ U F)
      · refine x_tableIn (off := 88) G 102 dX4_told_14 (by decide) (by decide) (by decide) (by decide) ?_
        refine x_aload_n G dX4_told_102 rfl ?_
        refine x_callV (n := 0) (rest := []) (As := []) G (ci := 4) (c_X4_neededSet (Post := fun r7 h7 sz7 => r7 = some (.int (nI (ns sy ot n).1)) ∧ Uv dA h7 b tx ln fa x pl rd ((sy, ab, be, nI n, dw, kp)) im ss mx ct so ((ns sy ot n).2) ∧ xF b (b + 279) h h7) l D hn6 U (fun h7 sz7 q1 q2 => ⟨rfl, q1, q2⟩)) gX4_told_X4_neededSet rfl ⟨rfl, by decide +kernel, by decide +kernel, by decide +kernel⟩ ⟨by decide, by decide⟩ rfl rfl (uv_o U) dX4_told_103 rfl rfl (Nat.le_of_ble_eq_true rfl) ⟨by decide, by decide⟩ ?_
        rintro _ h2 sz2 ⟨rfl, U, F⟩
        try dsimp only [Option.toList, List.cons_append, List.nil_append]
        refine x_callS (n := 1) (rest := []) (As := [.int (nI (ns sy ot n).1)]) G (c_bitCount (Post := fun r7 h7 sz7 => r7 = some (.int (nI (r_bits (ns sy ot n).1))) ∧ h2 = h7 ∧ sz2 = sz7) l D (Nat.lt_of_lt_of_le ns_lt (Nat.pow_le_pow_right (by decide) hn6)) ⟨rfl, rfl, rfl⟩) gX4_told_J6_bitCount_0f7a4 rfl ⟨by decide +kernel, by decide +kernel, by decide +kernel⟩ ⟨by decide, by decide⟩ dX4_told_106 rfl rfl (Nat.le_of_ble_eq_true rfl) ⟨by decide, by decide⟩ ?_
        rintro _ _ _ ⟨rfl, rfl, rfl⟩
        try dsimp only [Option.toList, List.cons_append, List.nil_append]
        exact x_iret G dX4_told_109 (hp2 6 (by decide) rfl _ _ _ U F)
      · refine x_tableIn (off := 96) G 110 dX4_told_14 (by decide) (by decide) (by decide) (by decide) ?_
        refine x_aload_n G dX4_told_110 rfl ?_
        refine x_callV (n := 0) (rest := []) (As := []) G (ci := 4) (c_X4_neededSet (Post := fun r7 h7 sz7 => r7 = some (.int (nI (ns sy ot n).1)) ∧ Uv dA h7 b tx ln fa x pl rd ((sy, ab, be, nI n, dw, kp)) im ss mx ct so ((ns sy ot n).2) ∧ xF b (b + 279) h h7) l D hn6 U (fun h7 sz7 q1 q2 => ⟨rfl, q1, q2⟩)) gX4_told_X4_neededSet rfl ⟨rfl, by decide +kernel, by decide +kernel, by decide +kernel⟩ ⟨by decide, by decide⟩ rfl rfl (uv_o U) dX4_told_111 rfl rfl (Nat.le_of_ble_eq_true rfl) ⟨by decide, by decide⟩ ?_
        rintro _ h2 sz2 ⟨rfl, U, F⟩
        try dsimp only [Option.toList, List.cons_append, List.nil_append]
        exact x_iret G dX4_told_114 (hp2 7 (by decide) rfl _ _ _ U F)
      · refine x_tableOut G 115 dX4_told_14 (by decide) (by decide) ?_
        refine x_aload_n G dX4_told_115 rfl ?_
        refine x_get G kX4 inX4 7 (by decide) (by decide +kernel) dX4_told_116 (uv_o U) rfl ?_
        refine x_getN (host := "UnitVectors") G kX0 inX0 2 (by decide) (by decide +kernel) dX4_told_119 (uv_p U).1 rfl ?_
        exact x_iret G dX4_told_122 (hp2 8 (by decide) rfl _ _ _ U F)
    · have hr : ¬ (nI 0 ≤ v ∧ v ≤ nI 8) := fun z => c_7 (lt9_of_le z.2)
      refine x_ldc G (-1000000002) (by decide +kernel) dX4_told_10 ?_
      exact x_iret G dX4_told_12 (hp1 hr)
theorem m10_ne : ∀ k, k < 4 → ¬ (-10 : Int32) - nI k = 0 := by decide
theorem inX4_say_4 : ∀ w ∈ wsX40, w ∈ wsX4_say := by decide +kernel
theorem inX4_say_3 : ∀ w ∈ wsX30, w ∈ wsX4_say := by decide +kernel
set_option maxRecDepth 100000 in
set_option maxHeartbeats 4000000 in
/-- say -/
theorem c_X4_say (l : Launch) (D : va_G) {dA : Nat → ClassId} {b : Nat} {tx : Nat → Int32} {ln : Nat} {fa : Int32} {x : rT} {pl : Int32} {rd : Nat → Int32} {im : Nat → sT} {ss : Nat → sT} {mx : Nat} {ct : Nat} {so : slT} {ot : slT} {sy : Nat → Nat → Int32} {ab be : Nat → Int32} {n : Nat} {dw kp : Int32} {h : xH} {sz : Nat} {Post : Option Value → xH → Nat → Prop} (hl60 : ln ≤ 60) (hn6 : n ≤ 6) (hs6 : so.2.2.2.2.2 ≤ 6) (hm20 : mx < 20) (hc20 : ct ≤ 20) (U : Uv dA h b tx ln fa x pl rd ((sy, ab, be, nI n, dw, kp)) im ss mx ct so ot) (hp1 : ¬ (rt tx ln x (nI 1)).1 = 0 → ∀ (h1 : xH) (sz1 : Nat), Uv dA h1 b tx 0 (rt_p (rt tx ln x (nI 1))) ((rt tx ln x (nI 1)).2.2) (rt_p (rt tx ln x (nI 1))) rd ((sy, ab, be, nI n, dw, kp)) im ss mx ct so ot → xF b (b + 279) h h1 → Post (some (.int ((-10) - nI (rt tx ln x (nI 1)).1))) h1 sz1) (hp2 : (rt tx ln x (nI 1)).1 = 0 → n = 6 → ∀ (h1 : xH) (sz1 : Nat), Uv dA h1 b tx 0 (rt_p (rt tx ln x (nI 1))) ((rt tx ln x (nI 1)).2.2) (rt_p (rt tx ln x (nI 1))) (rt_d ((rt tx ln x (nI 1)).2.2.1 0) rd 10) ((sy, ab, be, nI n, dw, kp)) im ss mx ct so ot → xF b (b + 279) h h1 → Post (some (.int (-1000000004))) h1 sz1) (hp3 : (rt tx ln x (nI 1)).1 = 0 → n < 6 → ¬ ag_u (rt_d ((rt tx ln x (nI 1)).2.2.1 0) rd 10) so = true → ∀ (h1 : xH) (sz1 : Nat), Uv dA h1 b tx 0 (rt_p (rt tx ln x (nI 1))) ((rt tx ln x (nI 1)).2.2) (rt_p (rt tx ln x (nI 1))) (rt_d ((rt tx ln x (nI 1)).2.2.1 0) rd 10) ((sy, ab, be, nI n, dw, kp)) im ss mx ct (sw_u2 (rt_d ((rt tx ln x (nI 1)).2.2.1 0) rd 10) so) ot → xF b (b + 279) h h1 → Post (some (.int (-1000000003))) h1 sz1) (hp4 : (rt tx ln x (nI 1)).1 = 0 → n < 6 → ag_u (rt_d ((rt tx ln x (nI 1)).2.2.1 0) rd 10) so = true → ∀ (h1 : xH) (sz1 : Nat), Uv dA h1 b tx 0 (rt_p (rt tx ln x (nI 1))) ((rt tx ln x (nI 1)).2.2) (rt_p (rt tx ln x (nI 1))) (rt_d ((rt tx ln x (nI 1)).2.2.1 0) rd 10) (((fun i => if i = n then va_cpy (rt_d ((rt tx ln x (nI 1)).2.2.1 0) rd 10) (sy n) 0 0 10 else sy i), ab, be, nI (n + 1), dw, kp)) im (nt_s ss mx (sy, ab, be, nI n, dw, kp)) ((mx + 1) % 20) (nt_c ct) (su (rt_d ((rt tx ln x (nI 1)).2.2.1 0) rd 10) (sw_u2 (rt_d ((rt tx ln x (nI 1)).2.2.1 0) rd 10) so)) ot → xF b (b + 279) h h1 → Post (some (.int (nI (n + 1)))) h1 sz1) (hpost : True) : xMet l yX4_say wsX4_say 6 158 0 0 D dA [.ref b] h sz Post := by
  refine x_open (cc := cX4_say) (maxL := 2) (ret := (some .int)) (by decide) rfl (Nat.le_of_ble_eq_true rfl) ?_
  intro p e s m args below meth c G _
  have inX4 : ∀ w ∈ wsX40, w ∈ wsX4_say := inX4_say_4
  have inX3 : ∀ w ∈ wsX30, w ∈ wsX4_say := inX4_say_3
  have F := xF_rf (lo := b) (hi := b + 279) (h := h)
  refine x_aload_n G dX4_say_0 rfl ?_
  refine x_iconstV (v := nI 1) G dX4_say_1 (by decide) ?_
  refine x_callV (n := 1) (rest := []) (As := [.int (nI 1)]) G (ci := 4) (c_X4_readText (Post := fun r7 h7 sz7 => (¬ (rt tx ln x (nI 1)).1 = 0 ∧ r7 = some (.int ((-10) - nI (rt tx ln x (nI 1)).1)) ∧ Uv dA h7 b tx 0 (rt_p (rt tx ln x (nI 1))) ((rt tx ln x (nI 1)).2.2) (rt_p (rt tx ln x (nI 1))) rd ((sy, ab, be, nI n, dw, kp)) im ss mx ct so ot ∧ xF b (b + 279) h h7) ∨ ((rt tx ln x (nI 1)).1 = 0 ∧ r7 = some (.int (nI 0)) ∧ Uv dA h7 b tx 0 (rt_p (rt tx ln x (nI 1))) ((rt tx ln x (nI 1)).2.2) (rt_p (rt tx ln x (nI 1))) (rt_d ((rt tx ln x (nI 1)).2.2.1 0) rd 10) ((sy, ab, be, nI n, dw, kp)) im ss mx ct so ot ∧ xF b (b + 279) h h7)) l D hl60 (by decide) (by decide) U (fun z h7 sz7 q1 q2 => Or.inl ⟨z, rfl, q1, q2⟩) (fun z h7 sz7 q1 q2 => Or.inr ⟨z, rfl, q1, q2⟩) trivial) gX4_say_X4_readText rfl ⟨rfl, by decide +kernel, by decide +kernel, by decide +kernel⟩ ⟨by decide, by decide⟩ rfl rfl (uv_o U) dX4_say_2 rfl rfl (Nat.le_of_ble_eq_true rfl) ⟨by decide, by decide⟩ ?_
  rintro _ h2 sz2 (⟨e0, rfl, U, F⟩ | ⟨e0, rfl, U, F⟩)
  · try dsimp only [Option.toList, List.cons_append, List.nil_append]
    refine x_istore_n G dX4_say_5 (by decide) ?_
    refine x_iload_n G dX4_say_6 rfl ?_
    refine x_if_eq G 12 dX4_say_7 (by decide) (fun c_7 => ?_) (fun c_7 => ?_)
    · exact absurd c_7 (m10_ne _ rt_lt)
    · refine x_iload_n G dX4_say_10 rfl ?_
      exact x_iret G dX4_say_11 (hp1 e0 _ _ U F)
  · try dsimp only [Option.toList, List.cons_append, List.nil_append]
    refine x_istore_n G dX4_say_5 (by decide) ?_
    refine x_iload_n G dX4_say_6 rfl ?_
    refine x_if_eq G 12 dX4_say_7 (by decide) (fun c_7 => ?_) (fun c_7 => ?_)
    · refine x_aload_n G dX4_say_12 rfl ?_
      refine x_get G kX4 inX4 5 (by decide) (by decide +kernel) dX4_say_13 (uv_o U) rfl ?_
      refine x_getN (host := "UnitVectors") G kX3 inX3 3 (by decide) (by decide +kernel) dX4_say_16 (st_o (uv_n U)) rfl ?_
      refine x_bipushV (v := nI 6) G dX4_say_19 (by decide) ?_
      refine x_icmp_lt G 27 dX4_say_21 (by decide) (fun c_21 => ?_) (fun c_21 => ?_)
      · have hlt : n < 6 := by
          rcases Nat.lt_or_ge n 6 with z | z
          · exact z
          · exact absurd (nI_le z (by omega)) (Int32.not_le.mpr c_21)
        refine x_aload_n G dX4_say_27 rfl ?_
        refine x_get G kX4 inX4 8 (by decide) (by decide +kernel) dX4_say_28 (uv_o U) rfl ?_
        refine x_aload_n G dX4_say_31 rfl ?_
        refine x_get G kX4 inX4 4 (by decide) (by decide +kernel) dX4_say_32 (uv_o U) rfl ?_
        refine x_callV (n := 1) (rest := []) (As := [.ref (b + 13)]) G (ci := 2) (c_u_agrees (Post := fun r7 h7 sz7 => r7 = some (.int (x_b (ag_u (rt_d ((rt tx ln x (nI 1)).2.2.1 0) rd 10) so = true))) ∧ SlT dA h7 (b + 227) (sw_u2 (rt_d ((rt tx ln x (nI 1)).2.2.1 0) rd 10) so) ∧ xF (b + 227) (b + 227 + 16) h2 h7) l D hs6 (by omega) (by decide) (by decide) (uv_d U) (uv_s U) (fun h7 sz7 q1 q2 => ⟨rfl, q1, q2⟩)) gX4_say_X2_agrees rfl ⟨rfl, by decide +kernel, by decide +kernel, by decide +kernel⟩ ⟨by decide, by decide⟩ rfl rfl (slt_o (uv_s U)).choose_spec dX4_say_35 rfl rfl (Nat.le_of_ble_eq_true rfl) ⟨by decide, by decide⟩ ?_
        rintro _ h3 sz3 ⟨rfl, Z, F3⟩
        try dsimp only [Option.toList, List.cons_append, List.nil_append]
        replace U := uv_su U Z F3
        replace F := xF_tr F (xF_wd (lo1 := b) (hi1 := b + 279) F3 (by omega) (by omega))
        refine x_if_ne G 44 dX4_say_38 (by decide) (fun c_38 => ?_) (fun c_38 => ?_)
        · have ea := x_b_n.mp c_38
          refine x_aload_n G dX4_say_44 rfl ?_
          refine x_get G kX4 inX4 7 (by decide) (by decide +kernel) dX4_say_45 (uv_o U) rfl ?_
          refine x_aload_n G dX4_say_48 rfl ?_
          refine x_get G kX4 inX4 5 (by decide) (by decide +kernel) dX4_say_49 (uv_o U) rfl ?_
          refine x_callV (n := 1) (rest := []) (As := [.ref (b + 14)]) G (ci := 0) (c_X0_note (Post := fun r7 h7 sz7 => r7 = none ∧ Pa dA h7 (b + 25) (nt_s ss mx (sy, ab, be, nI n, dw, kp)) (nI ((mx + 1) % 20)) (nI (nt_c ct)) ∧ xF (b + 25) (b + 25 + 202) h3 h7) l D hm20 hc20 (by omega) (uv_p U) (uv_n U) (fun h7 sz7 q1 q2 => ⟨rfl, q1, q2⟩)) gX4_say_X0_note rfl ⟨rfl, by decide +kernel, by decide +kernel, by decide +kernel⟩ ⟨by decide, by decide⟩ rfl rfl (uv_p U).1 dX4_say_52 rfl rfl (Nat.le_of_ble_eq_true rfl) ⟨by decide, by decide⟩ ?_
          rintro _ hN szN ⟨rfl, ZN, FN⟩
          try dsimp only [Option.toList, List.cons_append, List.nil_append]
          replace U := uv_pu U (ss1 := nt_s ss mx (sy, ab, be, nI n, dw, kp)) (nx1 := (mx + 1) % 20) (ct1 := nt_c ct) ZN FN
          replace F := xF_tr F (xF_wd (lo1 := b) (hi1 := b + 279) FN (by omega) (by omega))
          refine x_aload_n G dX4_say_55 rfl ?_
          refine x_callV (n := 0) (rest := []) (As := []) G (ci := 4) (c_X4_putSaying (Post := fun r7 h7 sz7 => r7 = none ∧ Uv dA h7 b tx 0 (rt_p (rt tx ln x (nI 1))) ((rt tx ln x (nI 1)).2.2) (rt_p (rt tx ln x (nI 1))) (rt_d ((rt tx ln x (nI 1)).2.2.1 0) rd 10) (((fun i => if i = n then va_cpy (rt_d ((rt tx ln x (nI 1)).2.2.1 0) rd 10) (sy n) 0 0 10 else sy i), ab, be, nI (n + 1), dw, kp)) im (nt_s ss mx (sy, ab, be, nI n, dw, kp)) ((mx + 1) % 20) (nt_c ct) (su (rt_d ((rt tx ln x (nI 1)).2.2.1 0) rd 10) (sw_u2 (rt_d ((rt tx ln x (nI 1)).2.2.1 0) rd 10) so)) ot ∧ xF b (b + 279) hN h7) l D hlt (show (sw_u2 (rt_d ((rt tx ln x (nI 1)).2.2.1 0) rd 10) so).2.2.2.2.2 ≤ 6 from hs6) U (fun h7 sz7 q1 q2 => ⟨rfl, q1, q2⟩)) gX4_say_X4_putSaying rfl ⟨rfl, by decide +kernel, by decide +kernel, by decide +kernel⟩ ⟨by decide, by decide⟩ rfl rfl (uv_o U) dX4_say_56 rfl rfl (Nat.le_of_ble_eq_true rfl) ⟨by decide, by decide⟩ ?_
          rintro _ h4 sz4 ⟨rfl, U, F4⟩
          try dsimp only [Option.toList, List.cons_append, List.nil_append]
          replace F := xF_tr F F4
          refine x_aload_n G dX4_say_59 rfl ?_
          refine x_get G kX4 inX4 5 (by decide) (by decide +kernel) dX4_say_60 (uv_o U) rfl ?_
          refine x_getN (host := "UnitVectors") G kX3 inX3 3 (by decide) (by decide +kernel) dX4_say_63 (st_o (uv_n U)) rfl ?_
          exact x_iret G dX4_say_66 (hp4 e0 hlt ea _ _ U F)
        · have ea := x_b_0.mp c_38
          refine x_ldc G (-1000000003) (by decide +kernel) dX4_say_41 ?_
          exact x_iret G dX4_say_43 (hp3 e0 hlt ea _ _ U F)
      · have hlt : n = 6 := by
          rcases Nat.lt_or_ge n 6 with z | z
          · exact absurd (Int32.not_le.mp (nI_ge z (by decide))) c_21
          · omega
        refine x_ldc G (-1000000004) (by decide +kernel) dX4_say_24 ?_
        exact x_iret G dX4_say_26 (hp2 e0 hlt _ _ U F)
    · exact absurd rfl c_7
theorem inX4_back_4 : ∀ w ∈ wsX40, w ∈ wsX4_back := by decide +kernel
theorem inX4_back_3 : ∀ w ∈ wsX30, w ∈ wsX4_back := by decide +kernel
theorem i_ltn {v : Int32} {n : Nat} (hn : n < 2 ^ 30) : v < nI n ↔ v ≤ nI n - nI 1 := by
  cases n with
  | zero =>
    rw [Int32.lt_iff_toInt_lt, Int32.le_iff_toInt_le, show (nI 0 - nI 1).toInt = -1 from rfl, show (nI 0).toInt = 0 from rfl]
    omega
  | succ k =>
    rw [pk_sub (by omega), show k + 1 - 1 = k by omega]
    exact i_lts (by omega)
set_option maxRecDepth 100000 in
set_option maxHeartbeats 4000000 in
/-- back -/
theorem c_X4_back (l : Launch) (D : va_G) {dA : Nat → ClassId} {b : Nat} {tx : Nat → Int32} {ln : Nat} {fa : Int32} {x : rT} {pl : Int32} {rd : Nat → Int32} {im : Nat → sT} {ss : Nat → sT} {mx : Nat} {ct : Nat} {so : slT} {ot : slT} {sy : Nat → Nat → Int32} {ab be : Nat → Int32} {n : Nat} {dw kp : Int32} {v : Int32} {h : xH} {sz : Nat} {Post : Option Value → xH → Nat → Prop} (hn6 : n ≤ 6) (hm20 : mx < 20) (hc20 : ct ≤ 20) (U : Uv dA h b tx ln fa x pl rd ((sy, ab, be, nI n, dw, kp)) im ss mx ct so ot) (hp1 : ¬ (nI 0 ≤ v ∧ v ≤ nI n - nI 1) → Post (some (.int (-1000000001))) h sz) (hp2 : ∀ k, k < n → v = nI k → ∀ (h1 : xH) (sz1 : Nat), Uv dA h1 b tx ln fa x pl rd ((rm_s sy k (n - 1), ab, be, nI (n - 1), dw, kp)) im (nt_s ss mx (sy, ab, be, nI n, dw, kp)) ((mx + 1) % 20) (nt_c ct) (sa (rm_s sy k (n - 1)) so (n - 1)) ot → xF b (b + 279) h h1 → Post (some (.int (nI (n - 1)))) h1 sz1) (hpost : True) : xMet l yX4_back wsX4_back 5 122 0 0 D dA [.ref b, .int v] h sz Post := by
  refine x_open (cc := cX4_back) (maxL := 2) (ret := (some .int)) (by decide) rfl (Nat.le_of_ble_eq_true rfl) ?_
  intro p e s m args below meth c G _
  have inX4 : ∀ w ∈ wsX40, w ∈ wsX4_back := inX4_back_4
  have inX3 : ∀ w ∈ wsX30, w ∈ wsX4_back := inX4_back_3
  have F := xF_rf (lo := b) (hi := b + 279) (h := h)
  refine x_iload_n G dX4_back_0 rfl ?_
  refine x_if_lt G 15 dX4_back_1 (by decide) (fun c_1 => ?_) (fun c_1 => ?_)
  · have hr : ¬ (nI 0 ≤ v ∧ v ≤ nI n - nI 1) := fun z => absurd z.1 (Int32.not_le.mpr c_1)
    refine x_ldc G (-1000000001) (by decide +kernel) dX4_back_15 ?_
    exact x_iret G dX4_back_17 (hp1 hr)
  · have h1 := Int32.not_lt.mp c_1
    refine x_iload_n G dX4_back_4 rfl ?_
    refine x_aload_n G dX4_back_5 rfl ?_
    refine x_get G kX4 inX4 5 (by decide) (by decide +kernel) dX4_back_6 (uv_o U) rfl ?_
    refine x_getN (host := "UnitVectors") G kX3 inX3 3 (by decide) (by decide +kernel) dX4_back_9 (st_o (uv_n U)) rfl ?_
    refine x_icmp_lt G 18 dX4_back_12 (by decide) (fun c_12 => ?_) (fun c_12 => ?_)
    · have hr : nI 0 ≤ v ∧ v ≤ nI n - nI 1 := ⟨h1, (i_ltn (by omega)).mp c_12⟩
      obtain ⟨k, hk, rfl⟩ := in_nat (by omega) hr
      refine x_aload_n G dX4_back_18 rfl ?_
      refine x_get G kX4 inX4 7 (by decide) (by decide +kernel) dX4_back_19 (uv_o U) rfl ?_
      refine x_aload_n G dX4_back_22 rfl ?_
      refine x_get G kX4 inX4 5 (by decide) (by decide +kernel) dX4_back_23 (uv_o U) rfl ?_
      refine x_callV (n := 1) (rest := []) (As := [.ref (b + 14)]) G (ci := 0) (c_X0_note (Post := fun r7 h7 sz7 => r7 = none ∧ Pa dA h7 (b + 25) (nt_s ss mx (sy, ab, be, nI n, dw, kp)) (nI ((mx + 1) % 20)) (nI (nt_c ct)) ∧ xF (b + 25) (b + 25 + 202) h h7) l D hm20 hc20 (by omega) (uv_p U) (uv_n U) (fun h7 sz7 q1 q2 => ⟨rfl, q1, q2⟩)) gX4_back_X0_note rfl ⟨rfl, by decide +kernel, by decide +kernel, by decide +kernel⟩ ⟨by decide, by decide⟩ rfl rfl (uv_p U).1 dX4_back_26 rfl rfl (Nat.le_of_ble_eq_true rfl) ⟨by decide, by decide⟩ ?_
      rintro _ hN szN ⟨rfl, ZN, FN⟩
      try dsimp only [Option.toList, List.cons_append, List.nil_append]
      replace U := uv_pu U (ss1 := nt_s ss mx (sy, ab, be, nI n, dw, kp)) (nx1 := (mx + 1) % 20) (ct1 := nt_c ct) ZN FN
      replace F := xF_tr F (xF_wd (lo1 := b) (hi1 := b + 279) FN (by omega) (by omega))
      refine x_aload_n G dX4_back_29 rfl ?_
      refine x_get G kX4 inX4 5 (by decide) (by decide +kernel) dX4_back_30 (uv_o U) rfl ?_
      refine x_iload_n G dX4_back_33 rfl ?_
      refine x_callV (n := 1) (rest := []) (As := [.int (nI k)]) G (ci := 3) (c_X3_remove (Post := fun r7 h7 sz7 => r7 = none ∧ StT dA h7 (b + 14) (rm_s sy k (n - 1), ab, be, nI (n - 1), dw, kp) ∧ xF (b + 14) (b + 14 + 10) hN h7) l D hk hn6 (uv_n U) (fun h7 sz7 q1 q2 => ⟨rfl, q1, q2⟩)) gX4_back_X3_remove rfl ⟨rfl, by decide +kernel, by decide +kernel, by decide +kernel⟩ ⟨by decide, by decide⟩ rfl rfl (st_o (uv_n U)) dX4_back_34 rfl rfl (Nat.le_of_ble_eq_true rfl) ⟨by decide, by decide⟩ ?_
      rintro _ h3 sz3 ⟨rfl, Z, F3⟩
      try dsimp only [Option.toList, List.cons_append, List.nil_append]
      replace U := uv_nu U (nw1 := (rm_s sy k (n - 1), ab, be, nI (n - 1), dw, kp)) Z F3
      replace F := xF_tr F (xF_wd (lo1 := b) (hi1 := b + 279) F3 (by omega) (by omega))
      refine x_aload_n G dX4_back_37 rfl ?_
      refine x_callV (n := 0) (rest := []) (As := []) G (ci := 4) (c_X4_solveAnew (Post := fun r7 h7 sz7 => r7 = none ∧ Uv dA h7 b tx ln fa x pl rd ((rm_s sy k (n - 1), ab, be, nI (n - 1), dw, kp)) im (nt_s ss mx (sy, ab, be, nI n, dw, kp)) ((mx + 1) % 20) (nt_c ct) (sa (rm_s sy k (n - 1)) so (n - 1)) ot ∧ xF b (b + 279) h3 h7) l D (show n - 1 ≤ 6 by omega) U (fun h7 sz7 q1 q2 => ⟨rfl, q1, q2⟩)) gX4_back_X4_solveAnew rfl ⟨rfl, by decide +kernel, by decide +kernel, by decide +kernel⟩ ⟨by decide, by decide⟩ rfl rfl (uv_o U) dX4_back_38 rfl rfl (Nat.le_of_ble_eq_true rfl) ⟨by decide, by decide⟩ ?_
      rintro _ h4 sz4 ⟨rfl, U, F4⟩
      try dsimp only [Option.toList, List.cons_append, List.nil_append]
      replace F := xF_tr F F4
      refine x_aload_n G dX4_back_41 rfl ?_
      refine x_get G kX4 inX4 5 (by decide) (by decide +kernel) dX4_back_42 (uv_o U) rfl ?_
      refine x_getN (host := "UnitVectors") G kX3 inX3 3 (by decide) (by decide +kernel) dX4_back_45 (st_o (uv_n U)) rfl ?_
      exact x_iret G dX4_back_48 (hp2 k hk rfl _ _ U F)
    · have hr : ¬ (nI 0 ≤ v ∧ v ≤ nI n - nI 1) := fun z => c_12 ((i_ltn (by omega)).mpr z.2)
      refine x_ldc G (-1000000001) (by decide +kernel) dX4_back_15 ?_
      exact x_iret G dX4_back_17 (hp1 hr)
theorem inX4_scale_4 : ∀ w ∈ wsX40, w ∈ wsX4_scale := by decide +kernel
theorem inX4_scale_3 : ∀ w ∈ wsX30, w ∈ wsX4_scale := by decide +kernel
set_option maxRecDepth 100000 in
set_option maxHeartbeats 4000000 in
/-- scale -/
theorem c_X4_scale (l : Launch) (D : va_G) {dA : Nat → ClassId} {b : Nat} {tx : Nat → Int32} {ln : Nat} {fa : Int32} {x : rT} {pl : Int32} {rd : Nat → Int32} {im : Nat → sT} {ss : Nat → sT} {mx : Nat} {ct : Nat} {so : slT} {ot : slT} {sy : Nat → Nat → Int32} {ab be : Nat → Int32} {n : Nat} {dw kp : Int32} {v y z : Int32} {h : xH} {sz : Nat} {Post : Option Value → xH → Nat → Prop} (hm20 : mx < 20) (hc20 : ct ≤ 20) (U : Uv dA h b tx ln fa x pl rd ((sy, ab, be, nI n, dw, kp)) im ss mx ct so ot) (hp1 : ¬ (nI 0 ≤ v ∧ v ≤ nI 3) → Post (some (.int (-1000000001))) h sz) (hp2 : (nI 0 ≤ v ∧ v ≤ nI 3) → ¬ ((nI 1 ≤ y ∧ y ≤ nI 12) ∧ (nI 1 ≤ z ∧ z ≤ nI 12)) → Post (some (.int (-1000000002))) h sz) (hp3 : ∀ k, k ≤ 3 → v = nI k → (nI 1 ≤ y ∧ y ≤ nI 12) → (nI 1 ≤ z ∧ z ≤ nI 12) → ∀ (h1 : xH) (sz1 : Nat), Uv dA h1 b tx ln fa x pl rd ((sy, upd ab k y, upd be k z, nI n, dw, kp)) im (nt_s ss mx (sy, ab, be, nI n, dw, kp)) ((mx + 1) % 20) (nt_c ct) so ot → xF b (b + 279) h h1 → Post (some (.int (nI (r_ct (fun i => decide (¬ (upd ab k y) i = (upd be k z) i)) 4)))) h1 sz1) (hpost : True) : xMet l yX4_scale wsX4_scale 3 92 0 0 D dA [.ref b, .int v, .int y, .int z] h sz Post := by
  refine x_open (cc := cX4_scale) (maxL := 4) (ret := (some .int)) (by decide) rfl (Nat.le_of_ble_eq_true rfl) ?_
  intro p e s m args below meth c G _
  have inX4 : ∀ w ∈ wsX40, w ∈ wsX4_scale := inX4_scale_4
  have inX3 : ∀ w ∈ wsX30, w ∈ wsX4_scale := inX4_scale_3
  have F := xF_rf (lo := b) (hi := b + 279) (h := h)
  refine x_iload_n G dX4_scale_0 rfl ?_
  refine x_if_lt G 9 dX4_scale_1 (by decide) (fun c_1 => ?_) (fun c_1 => ?_)
  · have hr : ¬ (nI 0 ≤ v ∧ v ≤ nI 3) := fun w => absurd w.1 (Int32.not_le.mpr c_1)
    refine x_ldc G (-1000000001) (by decide +kernel) dX4_scale_9 ?_
    exact x_iret G dX4_scale_11 (hp1 hr)
  · have h1 := Int32.not_lt.mp c_1
    refine x_iload_n G dX4_scale_4 rfl ?_
    refine x_iconstV (v := nI 4) G dX4_scale_5 (by decide) ?_
    refine x_icmp_lt G 12 dX4_scale_6 (by decide) (fun c_6 => ?_) (fun c_6 => ?_)
    · have hr : nI 0 ≤ v ∧ v ≤ nI 3 := ⟨h1, (i_lts (k := 3) (by decide)).mp c_6⟩
      obtain ⟨k, -, hk, rfl⟩ := in_nat2 (lo := 0) (hi := 3) (by decide) (by decide) hr
      refine x_iload_n G dX4_scale_12 rfl ?_
      refine x_iconstV (v := nI 1) G dX4_scale_13 (by decide) ?_
      refine x_icmp_lt G 34 dX4_scale_14 (by decide) (fun c_14 => ?_) (fun c_14 => ?_)
      · have hr2 : ¬ ((nI 1 ≤ y ∧ y ≤ nI 12) ∧ (nI 1 ≤ z ∧ z ≤ nI 12)) := fun w => absurd w.1.1 (Int32.not_le.mpr c_14)
        refine x_ldc G (-1000000002) (by decide +kernel) dX4_scale_34 ?_
        exact x_iret G dX4_scale_36 (hp2 hr hr2)
      · have g1 := Int32.not_lt.mp c_14
        refine x_iload_n G dX4_scale_17 rfl ?_
        refine x_bipushV (v := nI 12) G dX4_scale_18 (by decide) ?_
        refine x_icmp_gt G 34 dX4_scale_20 (by decide) (fun c_20 => ?_) (fun c_20 => ?_)
        · have hr2 : ¬ ((nI 1 ≤ y ∧ y ≤ nI 12) ∧ (nI 1 ≤ z ∧ z ≤ nI 12)) := fun w => absurd w.1.2 (Int32.not_le.mpr c_20)
          refine x_ldc G (-1000000002) (by decide +kernel) dX4_scale_34 ?_
          exact x_iret G dX4_scale_36 (hp2 hr hr2)
        · have g2 := Int32.not_lt.mp c_20
          refine x_iload_n G dX4_scale_23 rfl ?_
          refine x_iconstV (v := nI 1) G dX4_scale_24 (by decide) ?_
          refine x_icmp_lt G 34 dX4_scale_25 (by decide) (fun c_25 => ?_) (fun c_25 => ?_)
          · have hr2 : ¬ ((nI 1 ≤ y ∧ y ≤ nI 12) ∧ (nI 1 ≤ z ∧ z ≤ nI 12)) := fun w => absurd w.2.1 (Int32.not_le.mpr c_25)
            refine x_ldc G (-1000000002) (by decide +kernel) dX4_scale_34 ?_
            exact x_iret G dX4_scale_36 (hp2 hr hr2)
          · have g3 := Int32.not_lt.mp c_25
            refine x_iload_n G dX4_scale_28 rfl ?_
            refine x_bipushV (v := nI 12) G dX4_scale_29 (by decide) ?_
            refine x_icmp_le G 37 dX4_scale_31 (by decide) (fun c_31 => ?_) (fun c_31 => ?_)
            · have hr2 : (nI 1 ≤ y ∧ y ≤ nI 12) ∧ (nI 1 ≤ z ∧ z ≤ nI 12) := ⟨⟨g1, g2⟩, ⟨g3, c_31⟩⟩
              refine x_aload_n G dX4_scale_37 rfl ?_
              refine x_get G kX4 inX4 7 (by decide) (by decide +kernel) dX4_scale_38 (uv_o U) rfl ?_
              refine x_aload_n G dX4_scale_41 rfl ?_
              refine x_get G kX4 inX4 5 (by decide) (by decide +kernel) dX4_scale_42 (uv_o U) rfl ?_
              refine x_callV (n := 1) (rest := []) (As := [.ref (b + 14)]) G (ci := 0) (c_X0_note (Post := fun r7 h7 sz7 => r7 = none ∧ Pa dA h7 (b + 25) (nt_s ss mx (sy, ab, be, nI n, dw, kp)) (nI ((mx + 1) % 20)) (nI (nt_c ct)) ∧ xF (b + 25) (b + 25 + 202) h h7) l D hm20 hc20 (by omega) (uv_p U) (uv_n U) (fun h7 sz7 q1 q2 => ⟨rfl, q1, q2⟩)) gX4_scale_X0_note rfl ⟨rfl, by decide +kernel, by decide +kernel, by decide +kernel⟩ ⟨by decide, by decide⟩ rfl rfl (uv_p U).1 dX4_scale_45 rfl rfl (Nat.le_of_ble_eq_true rfl) ⟨by decide, by decide⟩ ?_
              rintro _ hN szN ⟨rfl, ZN, FN⟩
              try dsimp only [Option.toList, List.cons_append, List.nil_append]
              replace U := uv_pu U (ss1 := nt_s ss mx (sy, ab, be, nI n, dw, kp)) (nx1 := (mx + 1) % 20) (ct1 := nt_c ct) ZN FN
              replace F := xF_tr F (xF_wd (lo1 := b) (hi1 := b + 279) FN (by omega) (by omega))
              refine x_aload_n G dX4_scale_48 rfl ?_
              refine x_get G kX4 inX4 5 (by decide) (by decide +kernel) dX4_scale_49 (uv_o U) rfl ?_
              refine x_getN (host := "UnitVectors") G kX3 inX3 1 (by decide) (by decide +kernel) dX4_scale_52 (st_o (uv_n U)) rfl ?_
              refine x_iload_n G dX4_scale_55 rfl ?_
              refine x_iload_n G dX4_scale_56 rfl ?_
              refine x_iastN G dX4_scale_57 (st_a (uv_n U)) (show k < 4 by omega) (by decide) ?_
              have Z := st_as (uv_n U) (upd ab k y)
              have F3 : xF (b + 14) (b + 24) _ _ := xF_up (h := hN) (a := b + 14 + 8) (e := .inl (dA 0, 4, .inl (upd ab k y))) xF_rf (by omega) (by omega)
              replace U := uv_nu U (nw1 := (sy, upd ab k y, be, nI n, dw, kp)) Z F3
              replace F := xF_tr F (xF_wd (lo1 := b) (hi1 := b + 279) F3 (by omega) (by omega))
              refine x_aload_n G dX4_scale_58 rfl ?_
              refine x_get G kX4 inX4 5 (by decide) (by decide +kernel) dX4_scale_59 (uv_o U) rfl ?_
              refine x_getN (host := "UnitVectors") G kX3 inX3 2 (by decide) (by decide +kernel) dX4_scale_62 (st_o (uv_n U)) rfl ?_
              refine x_iload_n G dX4_scale_65 rfl ?_
              refine x_iload_n G dX4_scale_66 rfl ?_
              refine x_iastN G dX4_scale_67 (st_b (uv_n U)) (show k < 4 by omega) (by decide) ?_
              have Z := st_bs (uv_n U) (upd be k z)
              have F4 : xF (b + 14) (b + 24) _ _ := xF_up (h := x_up hN (b + 14 + 8) (.inl (dA 0, 4, .inl (upd ab k y)))) (a := b + 14 + 9) (e := .inl (dA 0, 4, .inl (upd be k z))) xF_rf (by omega) (by omega)
              replace U := uv_nu U (nw1 := (sy, upd ab k y, upd be k z, nI n, dw, kp)) Z F4
              replace F := xF_tr F (xF_wd (lo1 := b) (hi1 := b + 279) F4 (by omega) (by omega))
              refine x_aload_n G dX4_scale_68 rfl ?_
              refine x_get G kX4 inX4 5 (by decide) (by decide +kernel) dX4_scale_69 (uv_o U) rfl ?_
              refine x_callV (n := 0) (rest := []) (As := []) G (ci := 3) (c_X3_countScaled (Post := fun r7 h7 sz7 => r7 = some (.int (nI (r_ct (fun i => decide (¬ (upd ab k y) i = (upd be k z) i)) 4))) ∧ _ = h7 ∧ szN = sz7) l D (uv_n U) ⟨rfl, rfl, rfl⟩) gX4_scale_X3_countScaled rfl ⟨rfl, by decide +kernel, by decide +kernel, by decide +kernel⟩ ⟨by decide, by decide⟩ rfl rfl (st_o (uv_n U)) dX4_scale_72 rfl rfl (Nat.le_of_ble_eq_true rfl) ⟨by decide, by decide⟩ ?_
              rintro _ _ _ ⟨rfl, rfl, rfl⟩
              try dsimp only [Option.toList, List.cons_append, List.nil_append]
              exact x_iret G dX4_scale_75 (hp3 k hk rfl hr2.1 hr2.2 _ _ U F)
            · have hr2 : ¬ ((nI 1 ≤ y ∧ y ≤ nI 12) ∧ (nI 1 ≤ z ∧ z ≤ nI 12)) := fun w => c_31 w.2.2
              refine x_ldc G (-1000000002) (by decide +kernel) dX4_scale_34 ?_
              exact x_iret G dX4_scale_36 (hp2 hr hr2)
    · have hr : ¬ (nI 0 ≤ v ∧ v ≤ nI 3) := fun w => c_6 ((i_lts (k := 3) (by decide)).mpr w.2)
      refine x_ldc G (-1000000001) (by decide +kernel) dX4_scale_9 ?_
      exact x_iret G dX4_scale_11 (hp1 hr)
