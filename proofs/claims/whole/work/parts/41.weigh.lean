/-! ## The class: Solutions: clear, isFixed, powerOf, rise, weigh -/
def cl_f (f : Nat → Nat → Int64) (j : Nat) : Nat → Nat → Int64 := fun i => if i < j then vp_updL (fl_L (f i) 0 6) i 1 else f i
def cl_l (lo : Nat → Nat → Int64) (j : Nat) : Nat → Nat → Int64 := fun i => if i < j then fl_L (lo i) 0 6 else lo i
theorem cl_f0 {f : Nat → Nat → Int64} : cl_f f 0 = f := by
  funext i
  unfold cl_f
  rw [if_neg (by omega)]
theorem cl_l0 {f : Nat → Nat → Int64} : cl_l f 0 = f := by
  funext i
  unfold cl_l
  rw [if_neg (by omega)]
theorem cl_fs {f : Nat → Nat → Int64} {j : Nat} : sl_u (sl_u (cl_f f j) j (fl_L (cl_f f j j) 0 6)) j (vp_updL (sl_u (cl_f f j) j (fl_L (cl_f f j j) 0 6) j) j 1) = cl_f f (j + 1) := by
  have e0 : cl_f f j j = f j := if_neg (by omega)
  have e1 : sl_u (cl_f f j) j (fl_L (cl_f f j j) 0 6) j = fl_L (f j) 0 6 := by rw [e0]; exact if_pos rfl
  rw [e1]
  funext i
  by_cases e : i = j
  · subst e
    rw [show sl_u (sl_u (cl_f f i) i (fl_L (cl_f f i i) 0 6)) i (vp_updL (fl_L (f i) 0 6) i 1) i = vp_updL (fl_L (f i) 0 6) i 1 from if_pos rfl, show cl_f f (i + 1) i = vp_updL (fl_L (f i) 0 6) i 1 from if_pos (by omega)]
  · rw [show sl_u (sl_u (cl_f f j) j (fl_L (cl_f f j j) 0 6)) j (vp_updL (fl_L (f j) 0 6) j 1) i = sl_u (cl_f f j) j (fl_L (cl_f f j j) 0 6) i from if_neg e, show sl_u (cl_f f j) j (fl_L (cl_f f j j) 0 6) i = cl_f f j i from if_neg e]
    unfold cl_f
    by_cases e2 : i < j
    · rw [if_pos e2, if_pos (by omega)]
    · rw [if_neg e2, if_neg (by omega)]
theorem cl_ls {f : Nat → Nat → Int64} {j : Nat} : sl_u (cl_l f j) j (fl_L (cl_l f j j) 0 6) = cl_l f (j + 1) := by
  have e0 : cl_l f j j = f j := if_neg (by omega)
  rw [e0]
  funext i
  unfold sl_u cl_l
  by_cases e : i = j
  · subst e
    rw [if_pos rfl, if_pos (by omega)]
  · rw [if_neg e]
    by_cases e2 : i < j
    · rw [if_pos e2, if_pos (by omega)]
    · rw [if_neg e2, if_neg (by omega)]
theorem inX2_clear_2 : ∀ w ∈ wsX20, w ∈ wsX2_clear := by decide +kernel
set_option maxRecDepth 100000 in
set_option maxHeartbeats 4000000 in
/-- clear -/
theorem c_X2_clear (l : Launch) (D : va_G) {dA : Nat → ClassId} {w : Nat} {ad : Nat → Nat} {f lo : Nat → Nat → Int64} {ga la : Nat → Int64} {sg : Int64} {n : Nat} {h : xH} {sz : Nat} {Post : Option Value → xH → Nat → Prop} (S : SlA dA h w ad f lo ga la sg n) (hpost : ∀ h1 : xH, SlA dA h1 w ad (cl_f f 6) (cl_l lo 4) ga la sg 6 → xF w (w + 16) h h1 → Post none h1 sz) : xMet l yX2_clear wsX2_clear 1 40 0 0 D dA [.ref w] h sz Post := by
  refine x_open (cc := cX2_clear) (maxL := 2) (ret := none) (by decide) rfl (Nat.le_of_ble_eq_true rfl) ?_
  intro p e s m args below meth c G _
  have inX2 : ∀ w ∈ wsX20, w ∈ wsX2_clear := inX2_clear_2
  have F := xF_rf (lo := w) (hi := w + 16) (h := h)
  refine x_aload_n G dX2_clear_0 rfl ?_
  refine x_bipushV (v := nI 6) G dX2_clear_1 (by decide) ?_
  refine x_put G kX2 inX2 6 (by decide) (by decide +kernel) rfl dX2_clear_3 (sl_o S) rfl rfl (Nat.le_of_ble_eq_true rfl) ?_
  have S := sl_os S sg 6
  have F := xF_up (a := w) (e := .inr (2, [.ref (w + 1), .ref (w + 8), .ref (w + 13), .ref (w + 14), .ref (ad 6), .long sg, .int (nI 6)])) F (by omega) (by omega)
  refine x_iconstV (v := nI 0) G dX2_clear_6 (by decide) ?_
  refine x_istore_n G dX2_clear_7 (by decide) ?_
  refine x_loop (σ := Unit) (fun j _ => [(0, .ref w), (1, .int (nI j))]) 6 (fun j _ h1 sz1 => SlA dA h1 w ad (cl_f f j) lo ga la sg 6 ∧ xF w (w + 16) h h1 ∧ sz = sz1) ?_ ?_ 0 () _ _ (Nat.zero_le _) ⟨by rw [cl_f0]; exact S, F, rfl⟩
  · intro j _ h1 sz1 hj hI nx
    try dsimp only at hI nx ⊢
    obtain ⟨S, F, rfl⟩ := hI
    refine x_iload_n G dX2_clear_8 rfl ?_
    refine x_bipushV (v := nI 6) G dX2_clear_9 (by decide) ?_
    refine x_icmp_ge G 39 dX2_clear_11 (by decide) (fun c_11 => ?_) (fun c_11 => ?_)
    · exact absurd c_11 (nI_ge hj (by omega))
    · refine x_aload_n G dX2_clear_14 rfl ?_
      refine x_get G kX2 inX2 0 (by decide) (by decide +kernel) dX2_clear_15 (sl_o S) rfl ?_
      refine x_iload_n G dX2_clear_18 rfl ?_
      refine x_aald (t := 5) G rfl rfl dX2_clear_19 (sl_y S) (vp_in_nI (show j < 6 from by omega) (by decide)) (show (if (nI (j)).toNatClampNeg < 6 then some (ad (nI (j)).toNatClampNeg) else none) = some (ad (j)) by rw [nI_clamp (by omega), if_pos (by omega)]) ?_
      refine x_lconstV (v := 0) G dX2_clear_20 (by decide) ?_
      refine x_callS (n := 2) (rest := []) (As := [.ref (ad j), .long 0]) G (c_fillL (Post := fun r7 h7 sz7 => r7 = none ∧ h7 = x_up h1 (ad j) (.inl (dA 1, 6, .inr (.inl (fl_L (cl_f f j j) 0 6)))) ∧ sz = sz7) l D (by decide) (sl_f S (by omega)) ⟨rfl, rfl, rfl⟩) gX2_clear_J7_fill_d0a16 rfl ⟨by decide +kernel, by decide +kernel, by decide +kernel⟩ ⟨by decide, by decide⟩ dX2_clear_21 rfl rfl (Nat.le_of_ble_eq_true rfl) ⟨by decide, by decide⟩ ?_
      rintro _ _ _ ⟨rfl, rfl, rfl⟩
      try dsimp only [Option.toList, List.cons_append, List.nil_append]
      have rg := sl_rg S (show j < 7 by omega)
      have S := sl_fs S (show j < 7 by omega) (fl_L (cl_f f j j) 0 6)
      have F := xF_up (a := ad j) (e := .inl (dA 1, 6, .inr (.inl (fl_L (cl_f f j j) 0 6)))) F (by omega) (by omega)
      refine x_aload_n G dX2_clear_24 rfl ?_
      refine x_get G kX2 inX2 0 (by decide) (by decide +kernel) dX2_clear_25 (sl_o S) rfl ?_
      refine x_iload_n G dX2_clear_28 rfl ?_
      refine x_aald (t := 5) G rfl rfl dX2_clear_29 (sl_y S) (vp_in_nI (show j < 6 from by omega) (by decide)) (show (if (nI (j)).toNatClampNeg < 6 then some (ad (nI (j)).toNatClampNeg) else none) = some (ad (j)) by rw [nI_clamp (by omega), if_pos (by omega)]) ?_
      refine x_iload_n G dX2_clear_30 rfl ?_
      refine x_lconstV (v := 1) G dX2_clear_31 (by decide) ?_
      refine x_lastN G dX2_clear_32 (sl_f S (show j < 7 by omega)) (by omega) (by decide) ?_
      have S := sl_fs S (show j < 7 by omega) (vp_updL (sl_u (cl_f f j) j (fl_L (cl_f f j j) 0 6) j) j 1)
      rw [cl_fs] at S
      have F := xF_up (a := ad j) (e := .inl (dA 1, 6, .inr (.inl (vp_updL (sl_u (cl_f f j) j (fl_L (cl_f f j j) 0 6) j) j 1)))) F (by omega) (by omega)
      refine x_iinc G dX2_clear_33 rfl (by decide) ?_
      refine x_locE (lv2 := [(0, .ref w), (1, .int (nI (j + 1)))]) (by rw [nI_succ j]; rfl) ?_
      refine x_goto G 8 dX2_clear_36 (by decide) ?_
      exact nx () _ _ ⟨S, F, rfl⟩
  · intro _ h1 sz1 hI
    try dsimp only at hI ⊢
    obtain ⟨S, F, rfl⟩ := hI
    refine x_iload_n G dX2_clear_8 rfl ?_
    refine x_bipushV (v := nI 6) G dX2_clear_9 (by decide) ?_
    refine x_icmp_ge G 39 dX2_clear_11 (by decide) (fun c_11 => ?_) (fun c_11 => ?_)
    · refine x_iconstV (v := nI 0) G dX2_clear_39 (by decide) ?_
      refine x_istore_n G dX2_clear_40 (by decide) ?_
      refine x_loop (σ := Unit) (fun j _ => [(0, .ref w), (1, .int (nI j))]) 4 (fun j _ h1 sz1 => SlA dA h1 w ad (cl_f f 6) (cl_l lo j) ga la sg 6 ∧ xF w (w + 16) h h1 ∧ sz = sz1) ?_ ?_ 0 () _ _ (Nat.zero_le _) ⟨by rw [cl_l0]; exact S, F, rfl⟩
      · intro j _ h1 sz1 hj hI nx
        try dsimp only at hI nx ⊢
        obtain ⟨S, F, rfl⟩ := hI
        refine x_iload_n G dX2_clear_41 rfl ?_
        refine x_iconstV (v := nI 4) G dX2_clear_42 (by decide) ?_
        refine x_icmp_ge G 62 dX2_clear_43 (by decide) (fun c_43 => ?_) (fun c_43 => ?_)
        · exact absurd c_43 (nI_ge hj (by omega))
        · refine x_aload_n G dX2_clear_46 rfl ?_
          refine x_get G kX2 inX2 1 (by decide) (by decide +kernel) dX2_clear_47 (sl_o S) rfl ?_
          refine x_iload_n G dX2_clear_50 rfl ?_
          refine x_aald (t := 5) G rfl rfl dX2_clear_51 (sl_l S) (vp_in_nI (show j < 4 by omega) (by decide)) (show (if (nI (j)).toNatClampNeg < 4 then some (w + 9 + (nI (j)).toNatClampNeg) else none) = some (w + 9 + (j)) by rw [nI_clamp (by omega), if_pos (by omega)]) ?_
          refine x_lconstV (v := 0) G dX2_clear_52 (by decide) ?_
          refine x_callS (n := 2) (rest := []) (As := [.ref (w + 9 + j), .long 0]) G (c_fillL (Post := fun r7 h7 sz7 => r7 = none ∧ h7 = x_up h1 (w + 9 + j) (.inl (dA 1, 6, .inr (.inl (fl_L (cl_l lo j j) 0 6)))) ∧ sz = sz7) l D (by decide) (sl_b S (by omega)) ⟨rfl, rfl, rfl⟩) gX2_clear_J7_fill_d0a16 rfl ⟨by decide +kernel, by decide +kernel, by decide +kernel⟩ ⟨by decide, by decide⟩ dX2_clear_53 rfl rfl (Nat.le_of_ble_eq_true rfl) ⟨by decide, by decide⟩ ?_
          rintro _ _ _ ⟨rfl, rfl, rfl⟩
          try dsimp only [Option.toList, List.cons_append, List.nil_append]
          have S := sl_bs S (show j < 4 by omega) (fl_L (cl_l lo j j) 0 6)
          rw [cl_ls] at S
          have F := xF_up (a := w + 9 + j) (e := .inl (dA 1, 6, .inr (.inl (fl_L (cl_l lo j j) 0 6)))) F (by omega) (by omega)
          refine x_iinc G dX2_clear_56 rfl (by decide) ?_
          refine x_locE (lv2 := [(0, .ref w), (1, .int (nI (j + 1)))]) (by rw [nI_succ j]; rfl) ?_
          refine x_goto G 41 dX2_clear_59 (by decide) ?_
          exact nx () _ _ ⟨S, F, rfl⟩
      · intro _ h1 sz1 hI
        try dsimp only at hI ⊢
        obtain ⟨S, F, rfl⟩ := hI
        refine x_iload_n G dX2_clear_41 rfl ?_
        refine x_iconstV (v := nI 4) G dX2_clear_42 (by decide) ?_
        refine x_icmp_ge G 62 dX2_clear_43 (by decide) (fun c_43 => ?_) (fun c_43 => ?_)
        · exact x_vret G dX2_clear_62 (hpost _ S F)
        · exact absurd (nI_le (Nat.le_refl _) (by omega)) c_43
    · exact absurd (nI_le (Nat.le_refl _) (by omega)) c_11
theorem inX2_isFixed_2 : ∀ w ∈ wsX20, w ∈ wsX2_isFixed := by decide +kernel
set_option maxRecDepth 100000 in
set_option maxHeartbeats 4000000 in
/-- isFixed -/
theorem c_X2_isFixed (l : Launch) (D : va_G) {dA : Nat → ClassId} {w : Nat} {ad : Nat → Nat} {f lo : Nat → Nat → Int64} {ga la : Nat → Int64} {sg : Int64} {n : Nat} {v : Nat} {h : xH} {sz : Nat} {Post : Option Value → xH → Nat → Prop} (hn : n ≤ 6) (hv6 : v < 6) (S : SlA dA h w ad f lo ga la sg n) (hpost : Post (some (.int (x_b (∀ i, i < n → f i v = 0)))) h sz) : xMet l yX2_isFixed wsX2_isFixed 0 0 0 0 D dA [.ref w, .int (nI v)] h sz Post := by
  refine x_open (cc := cX2_isFixed) (maxL := 3) (ret := (some .boolean)) (by decide) rfl (Nat.le_of_ble_eq_true rfl) ?_
  intro p e s m args below meth c G _
  have inX2 : ∀ w ∈ wsX20, w ∈ wsX2_isFixed := inX2_isFixed_2
  refine x_iconstV (v := nI 0) G dX2_isFixed_0 (by decide) ?_
  refine x_istore_n G dX2_isFixed_1 (by decide) ?_
  refine x_loop (σ := Unit) (fun j _ => [(0, .ref w), (1, .int (nI v)), (2, .int (nI j))]) n (fun j _ h1 sz1 => (∀ i, i < j → f i v = 0) ∧ h = h1 ∧ sz = sz1) ?_ ?_ 0 () h sz (Nat.zero_le _) ⟨fun i hi => absurd hi (Nat.not_lt_zero _), rfl, rfl⟩
  · intro j _ h1 sz1 hj hI nx
    try dsimp only at hI nx ⊢
    obtain ⟨hI, rfl, rfl⟩ := hI
    refine x_iload_n G dX2_isFixed_2 rfl ?_
    refine x_aload_n G dX2_isFixed_3 rfl ?_
    refine x_get G kX2 inX2 6 (by decide) (by decide +kernel) dX2_isFixed_4 (sl_o S) rfl ?_
    refine x_icmp_ge G 31 dX2_isFixed_7 (by decide) (fun c_7 => ?_) (fun c_7 => ?_)
    · exact absurd c_7 (nI_ge hj (by omega))
    · refine x_aload_n G dX2_isFixed_10 rfl ?_
      refine x_get G kX2 inX2 0 (by decide) (by decide +kernel) dX2_isFixed_11 (sl_o S) rfl ?_
      refine x_iload_n G dX2_isFixed_14 rfl ?_
      refine x_aald (t := 5) G rfl rfl dX2_isFixed_15 (sl_y S) (vp_in_nI (show j < 6 from by omega) (by decide)) (show (if (nI (j)).toNatClampNeg < 6 then some (ad (nI (j)).toNatClampNeg) else none) = some (ad (j)) by rw [nI_clamp (by omega), if_pos (by omega)]) ?_
      refine x_iload_n G dX2_isFixed_16 rfl ?_
      refine x_laldN G dX2_isFixed_17 (sl_f S (show j < 7 by omega)) (by omega) (by decide) ?_
      refine x_lconstV (v := 0) G dX2_isFixed_18 (by decide) ?_
      refine x_lcmp G dX2_isFixed_19 ?_
      refine x_if_eq G 25 dX2_isFixed_20 (by decide) (fun c_20 => ?_) (fun c_20 => ?_)
      · have e : ∀ i, i < j + 1 → f i v = 0 := fun i hi => by
          rcases Nat.lt_or_ge i j with z | z
          · exact hI i z
          · rw [show i = j by omega]; exact (x_lgeq _ _).mp c_20
        refine x_iinc G dX2_isFixed_25 rfl (by decide) ?_
        refine x_locE (lv2 := [(0, .ref w), (1, .int (nI v)), (2, .int (nI (j + 1)))]) (by rw [nI_succ j]; rfl) ?_
        refine x_goto G 2 dX2_isFixed_28 (by decide) ?_
        exact nx () _ _ ⟨e, rfl, rfl⟩
      · rw [x_b_f (fun z => c_20 ((x_lgeq _ _).mpr (z j hj)))] at hpost
        refine x_iconstV (v := nI 0) G dX2_isFixed_23 (by decide) ?_
        exact x_zret G dX2_isFixed_24 rfl hpost
  · intro _ h1 sz1 hI
    try dsimp only at hI ⊢
    obtain ⟨hI, rfl, rfl⟩ := hI
    refine x_iload_n G dX2_isFixed_2 rfl ?_
    refine x_aload_n G dX2_isFixed_3 rfl ?_
    refine x_get G kX2 inX2 6 (by decide) (by decide +kernel) dX2_isFixed_4 (sl_o S) rfl ?_
    refine x_icmp_ge G 31 dX2_isFixed_7 (by decide) (fun c_7 => ?_) (fun c_7 => ?_)
    · rw [x_b_t hI] at hpost
      refine x_iconstV (v := nI 1) G dX2_isFixed_31 (by decide) ?_
      exact x_zret G dX2_isFixed_32 rfl hpost
    · exact absurd (nI_le (Nat.le_refl _) (by omega)) c_7
theorem inX2_powerOf_2 : ∀ w ∈ wsX20, w ∈ wsX2_powerOf := by decide +kernel
/-- what a saying comes to by the lowest, of a base -/
def pw_l (po : Nat → Int32) (lo : Nat → Nat → Int64) (b : Nat) : Int64 := (po (6 + b)).toInt64 + r_dot 0 po 0 (lo b) 0 6
set_option maxRecDepth 100000 in
set_option maxHeartbeats 4000000 in
/-- powerOf -/
theorem c_X2_powerOf (l : Launch) (D : va_G) {dA : Nat → ClassId} {w : Nat} {ad : Nat → Nat} {f lo : Nat → Nat → Int64} {ga la : Nat → Int64} {sg : Int64} {n : Nat} {a n1 : Nat} {po : Nat → Int32} {b : Nat} {h : xH} {sz : Nat} {Post : Option Value → xH → Nat → Prop} (hb : b < 4) (hn1 : 10 ≤ n1) (hn2 : n1 < 2000) (hp : h a = some (.inl (dA 0, n1, .inl po))) (S : SlA dA h w ad f lo ga la sg n) (hpost : Post (some (.long (pw_l po lo b))) h sz) : xMet l yX2_powerOf wsX2_powerOf 1 24 0 0 D dA [.ref w, .ref a, .int (nI b)] h sz Post := by
  refine x_open (cc := cX2_powerOf) (maxL := 3) (ret := (some .long)) (by decide) rfl (Nat.le_of_ble_eq_true rfl) ?_
  intro p e s m args below meth c G _
  have inX2 : ∀ w ∈ wsX20, w ∈ wsX2_powerOf := inX2_powerOf_2
  refine x_aload_n G dX2_powerOf_0 rfl ?_
  refine x_bipushV (v := nI 6) G dX2_powerOf_1 (by decide) ?_
  refine x_iload_n G dX2_powerOf_3 rfl ?_
  refine x_iadd G dX2_powerOf_4 ?_
  refine x_topE (y := nI (6 + b)) (by rw [nI_add]) ?_
  refine x_ialdN G dX2_powerOf_5 hp (by omega) (by omega) ?_
  refine x_i2l G dX2_powerOf_6 ?_
  refine x_aload_n G dX2_powerOf_7 rfl ?_
  refine x_aload_n G dX2_powerOf_8 rfl ?_
  refine x_get G kX2 inX2 1 (by decide) (by decide +kernel) dX2_powerOf_9 (sl_o S) rfl ?_
  refine x_iload_n G dX2_powerOf_12 rfl ?_
  refine x_aald (t := 5) G rfl rfl dX2_powerOf_13 (sl_l S) (vp_in_nI (show b < 4 by omega) (by decide)) (show (if (nI (b)).toNatClampNeg < 4 then some (w + 9 + (nI (b)).toNatClampNeg) else none) = some (w + 9 + (b)) by rw [nI_clamp (by omega), if_pos (by omega)]) ?_
  refine x_callS (n := 2) (rest := [.long (po (6 + b)).toInt64]) (As := [.ref a, .ref (w + 9 + b)]) G (c_X2_product (Post := fun r7 h7 sz7 => r7 = some (.long (r_dot 0 po 0 (lo b) 0 6)) ∧ h = h7 ∧ sz = sz7) l D (by omega) (by omega) hp (sl_b S hb) ⟨rfl, rfl, rfl⟩) gX2_powerOf_X2_product rfl ⟨by decide +kernel, by decide +kernel, by decide +kernel⟩ ⟨by decide, by decide⟩ dX2_powerOf_14 rfl rfl (Nat.le_of_ble_eq_true rfl) ⟨by decide, by decide⟩ ?_
  rintro _ _ _ ⟨rfl, rfl, rfl⟩
  try dsimp only [Option.toList, List.cons_append, List.nil_append]
  refine x_ladd G dX2_powerOf_17 ?_
  exact x_lret G dX2_powerOf_18 hpost
theorem inX2_rise_2 : ∀ w ∈ wsX20, w ∈ wsX2_rise := by decide +kernel
set_option maxRecDepth 100000 in
set_option maxHeartbeats 4000000 in
/-- rise -/
theorem c_X2_rise (l : Launch) (D : va_G) {dA : Nat → ClassId} {w : Nat} {ad : Nat → Nat} {f lo : Nat → Nat → Int64} {ga la : Nat → Int64} {sg : Int64} {n : Nat} {a n1 : Nat} {po : Nat → Int32} {i : Nat} {h : xH} {sz : Nat} {Post : Option Value → xH → Nat → Prop} (hn : n ≤ 6) (hi9 : i < 100) (hn1 : 10 ≤ n1) (hn2 : n1 < 2000) (hp : h a = some (.inl (dA 0, n1, .inl po))) (S : SlA dA h w ad f lo ga la sg n) (hpost : Post (some (.long (if i < n then r_dot 0 po 0 (f i) 0 6 else 0))) h sz) : xMet l yX2_rise wsX2_rise 1 24 0 0 D dA [.ref w, .ref a, .int (nI i)] h sz Post := by
  refine x_open (cc := cX2_rise) (maxL := 3) (ret := (some .long)) (by decide) rfl (Nat.le_of_ble_eq_true rfl) ?_
  intro p e s m args below meth c G _
  have inX2 : ∀ w ∈ wsX20, w ∈ wsX2_rise := inX2_rise_2
  refine x_iload_n G dX2_rise_0 rfl ?_
  refine x_aload_n G dX2_rise_1 rfl ?_
  refine x_get G kX2 inX2 6 (by decide) (by decide +kernel) dX2_rise_2 (sl_o S) rfl ?_
  refine x_icmp_ge G 21 dX2_rise_5 (by decide) (fun c_5 => ?_) (fun c_5 => ?_)
  · have e : ¬ i < n := fun z => absurd c_5 (nI_ge z (by omega))
    rw [if_neg e] at hpost
    refine x_lconstV (v := 0) G dX2_rise_21 (by decide) ?_
    exact x_lret G dX2_rise_22 hpost
  · have e : i < n := by
      rcases Nat.lt_or_ge i n with z | z
      · exact z
      · exact absurd (nI_le z (by omega)) c_5
    rw [if_pos e] at hpost
    refine x_aload_n G dX2_rise_8 rfl ?_
    refine x_aload_n G dX2_rise_9 rfl ?_
    refine x_get G kX2 inX2 0 (by decide) (by decide +kernel) dX2_rise_10 (sl_o S) rfl ?_
    refine x_iload_n G dX2_rise_13 rfl ?_
    refine x_aald (t := 5) G rfl rfl dX2_rise_14 (sl_y S) (vp_in_nI (show i < 6 from by omega) (by decide)) (show (if (nI (i)).toNatClampNeg < 6 then some (ad (nI (i)).toNatClampNeg) else none) = some (ad (i)) by rw [nI_clamp (by omega), if_pos (by omega)]) ?_
    refine x_callS (n := 2) (rest := []) (As := [.ref a, .ref (ad i)]) G (c_X2_product (Post := fun r7 h7 sz7 => r7 = some (.long (r_dot 0 po 0 (f i) 0 6)) ∧ h = h7 ∧ sz = sz7) l D (by omega) (by omega) hp (sl_f S (show i < 7 by omega)) ⟨rfl, rfl, rfl⟩) gX2_rise_X2_product rfl ⟨by decide +kernel, by decide +kernel, by decide +kernel⟩ ⟨by decide, by decide⟩ dX2_rise_15 rfl rfl (Nat.le_of_ble_eq_true rfl) ⟨by decide, by decide⟩ ?_
    rintro _ _ _ ⟨rfl, rfl, rfl⟩
    try dsimp only [Option.toList, List.cons_append, List.nil_append]
    refine x_goto G 22 dX2_rise_18 (by decide) ?_
    exact x_lret G dX2_rise_22 hpost
theorem inX2_weigh_2 : ∀ w ∈ wsX20, w ∈ wsX2_weigh := by decide +kernel
def wg_g (po : Nat → Int32) (f : Nat → Nat → Int64) (ga : Nat → Int64) (j : Nat) : Nat → Int64 := fun i => if i < j then r_dot 0 po 0 (f i) 0 6 else ga i
def wg_l (po : Nat → Int32) (lo : Nat → Nat → Int64) (la : Nat → Int64) (j : Nat) : Nat → Int64 := fun i => if i < j then -pw_l po lo i else la i
theorem wg_0 {po : Nat → Int32} {f : Nat → Nat → Int64} {ga : Nat → Int64} : wg_g po f ga 0 = ga := by
  funext i
  unfold wg_g
  rw [if_neg (by omega)]
theorem wg_l0 {po : Nat → Int32} {f : Nat → Nat → Int64} {ga : Nat → Int64} : wg_l po f ga 0 = ga := by
  funext i
  unfold wg_l
  rw [if_neg (by omega)]
theorem wg_s {po : Nat → Int32} {f : Nat → Nat → Int64} {ga : Nat → Int64} {j : Nat} : vp_updL (wg_g po f ga j) j (r_dot 0 po 0 (f j) 0 6) = wg_g po f ga (j + 1) := by
  funext i
  unfold vp_updL wg_g
  by_cases e : i = j
  · rw [if_pos e, if_pos (by omega), e]
  · rw [if_neg e]
    by_cases e2 : i < j
    · rw [if_pos e2, if_pos (by omega)]
    · rw [if_neg e2, if_neg (by omega)]
theorem wg_ls {po : Nat → Int32} {f : Nat → Nat → Int64} {ga : Nat → Int64} {j : Nat} : vp_updL (wg_l po f ga j) j (-pw_l po f j) = wg_l po f ga (j + 1) := by
  funext i
  unfold vp_updL wg_l
  by_cases e : i = j
  · rw [if_pos e, if_pos (by omega), e]
  · rw [if_neg e]
    by_cases e2 : i < j
    · rw [if_pos e2, if_pos (by omega)]
    · rw [if_neg e2, if_neg (by omega)]
set_option maxRecDepth 100000 in
set_option maxHeartbeats 4000000 in
/-- weigh -/
theorem c_X2_weigh (l : Launch) (D : va_G) {dA : Nat → ClassId} {w : Nat} {ad : Nat → Nat} {f lo : Nat → Nat → Int64} {ga la : Nat → Int64} {sg : Int64} {n : Nat} {a n1 : Nat} {po : Nat → Int32} {h : xH} {sz : Nat} {Post : Option Value → xH → Nat → Prop} (hn : n ≤ 6) (ho : a < w ∨ w + 16 ≤ a) (hn1 : 10 ≤ n1) (hn2 : n1 < 2000) (hp : h a = some (.inl (dA 0, n1, .inl po))) (S : SlA dA h w ad f lo ga la sg n) (hpost : ∀ (h1 : xH) (sz1 : Nat), SlA dA h1 w ad f lo (wg_g po f ga n) (wg_l po lo la 4) sg n → xF w (w + 16) h h1 → Post none h1 sz1) : xMet l yX2_weigh wsX2_weigh 2 48 0 0 D dA [.ref w, .ref a] h sz Post := by
  refine x_open (cc := cX2_weigh) (maxL := 3) (ret := none) (by decide) rfl (Nat.le_of_ble_eq_true rfl) ?_
  intro p e s m args below meth c G _
  have inX2 : ∀ w ∈ wsX20, w ∈ wsX2_weigh := inX2_weigh_2
  have F := xF_rf (lo := w) (hi := w + 16) (h := h)
  have hp0 := hp
  refine x_iconstV (v := nI 0) G dX2_weigh_0 (by decide) ?_
  refine x_istore_n G dX2_weigh_1 (by decide) ?_
  refine x_loop (σ := Unit) (fun j _ => [(0, .ref w), (1, .ref a), (2, .int (nI j))]) n (fun j _ h1 sz1 => SlA dA h1 w ad f lo (wg_g po f ga j) la sg n ∧ xF w (w + 16) h h1) ?_ ?_ 0 () _ _ (Nat.zero_le _) ⟨by rw [wg_0]; exact S, F⟩
  · intro j _ h1 sz1 hj hI nx
    try dsimp only at hI nx ⊢
    obtain ⟨S, F⟩ := hI
    have hp := (F a ho).trans hp0
    refine x_iload_n G dX2_weigh_2 rfl ?_
    refine x_aload_n G dX2_weigh_3 rfl ?_
    refine x_get G kX2 inX2 6 (by decide) (by decide +kernel) dX2_weigh_4 (sl_o S) rfl ?_
    refine x_icmp_ge G 32 dX2_weigh_7 (by decide) (fun c_7 => ?_) (fun c_7 => ?_)
    · exact absurd c_7 (nI_ge hj (by omega))
    · refine x_aload_n G dX2_weigh_10 rfl ?_
      refine x_get G kX2 inX2 2 (by decide) (by decide +kernel) dX2_weigh_11 (sl_o S) rfl ?_
      refine x_iload_n G dX2_weigh_14 rfl ?_
      refine x_aload_n G dX2_weigh_15 rfl ?_
      refine x_aload_n G dX2_weigh_16 rfl ?_
      refine x_get G kX2 inX2 0 (by decide) (by decide +kernel) dX2_weigh_17 (sl_o S) rfl ?_
      refine x_iload_n G dX2_weigh_20 rfl ?_
      refine x_aald (t := 5) G rfl rfl dX2_weigh_21 (sl_y S) (vp_in_nI (show j < 6 from by omega) (by decide)) (show (if (nI (j)).toNatClampNeg < 6 then some (ad (nI (j)).toNatClampNeg) else none) = some (ad (j)) by rw [nI_clamp (by omega), if_pos (by omega)]) ?_
      refine x_callS (n := 2) (rest := [.int (nI j), .ref (w + 13)]) (As := [.ref a, .ref (ad j)]) G (c_X2_product (Post := fun r7 h7 sz7 => r7 = some (.long (r_dot 0 po 0 (f j) 0 6)) ∧ h1 = h7 ∧ sz1 = sz7) l D (by omega) (by omega) hp (sl_f S (show j < 7 by omega)) ⟨rfl, rfl, rfl⟩) gX2_weigh_X2_product rfl ⟨by decide +kernel, by decide +kernel, by decide +kernel⟩ ⟨by decide, by decide⟩ dX2_weigh_22 rfl rfl (Nat.le_of_ble_eq_true rfl) ⟨by decide, by decide⟩ ?_
      rintro _ _ _ ⟨rfl, rfl, rfl⟩
      try dsimp only [Option.toList, List.cons_append, List.nil_append]
      refine x_lastN G dX2_weigh_25 (sl_g S) (show j < 6 by omega) (by decide) ?_
      have S := sl_gs S (vp_updL (wg_g po f ga j) j (r_dot 0 po 0 (f j) 0 6))
      have F := xF_up (a := w + 13) (e := .inl (dA 1, 6, .inr (.inl (vp_updL (wg_g po f ga j) j (r_dot 0 po 0 (f j) 0 6))))) F (by omega) (by omega)
      rw [wg_s] at S F ⊢
      refine x_iinc G dX2_weigh_26 rfl (by decide) ?_
      refine x_locE (lv2 := [(0, .ref w), (1, .ref a), (2, .int (nI (j + 1)))]) (by rw [nI_succ j]; rfl) ?_
      refine x_goto G 2 dX2_weigh_29 (by decide) ?_
      exact nx () _ _ ⟨S, F⟩
  · intro _ h1 sz1 hI
    try dsimp only at hI ⊢
    obtain ⟨S, F⟩ := hI
    refine x_iload_n G dX2_weigh_2 rfl ?_
    refine x_aload_n G dX2_weigh_3 rfl ?_
    refine x_get G kX2 inX2 6 (by decide) (by decide +kernel) dX2_weigh_4 (sl_o S) rfl ?_
    refine x_icmp_ge G 32 dX2_weigh_7 (by decide) (fun c_7 => ?_) (fun c_7 => ?_)
    · refine x_iconstV (v := nI 0) G dX2_weigh_32 (by decide) ?_
      refine x_istore_n G dX2_weigh_33 (by decide) ?_
      refine x_loop (σ := Unit) (fun j _ => [(0, .ref w), (1, .ref a), (2, .int (nI j))]) 4 (fun j _ h1 sz1 => SlA dA h1 w ad f lo (wg_g po f ga n) (wg_l po lo la j) sg n ∧ xF w (w + 16) h h1) ?_ ?_ 0 () _ _ (Nat.zero_le _) ⟨by rw [wg_l0]; exact S, F⟩
      · intro j _ h1 sz1 hj hI nx
        try dsimp only at hI nx ⊢
        obtain ⟨S, F⟩ := hI
        have hp := (F a ho).trans hp0
        refine x_iload_n G dX2_weigh_34 rfl ?_
        refine x_iconstV (v := nI 4) G dX2_weigh_35 (by decide) ?_
        refine x_icmp_ge G 58 dX2_weigh_36 (by decide) (fun c_36 => ?_) (fun c_36 => ?_)
        · exact absurd c_36 (nI_ge hj (by omega))
        · refine x_aload_n G dX2_weigh_39 rfl ?_
          refine x_get G kX2 inX2 3 (by decide) (by decide +kernel) dX2_weigh_40 (sl_o S) rfl ?_
          refine x_iload_n G dX2_weigh_43 rfl ?_
          refine x_aload_n G dX2_weigh_44 rfl ?_
          refine x_aload_n G dX2_weigh_45 rfl ?_
          refine x_iload_n G dX2_weigh_46 rfl ?_
          refine x_callV (n := 2) (rest := [.int (nI j), .ref (w + 14)]) (As := [.ref a, .int (nI j)]) G (ci := 2) (c_X2_powerOf (Post := fun r7 h7 sz7 => r7 = some (.long (pw_l po lo j)) ∧ h1 = h7 ∧ sz1 = sz7) l D hj hn1 hn2 hp S ⟨rfl, rfl, rfl⟩) gX2_weigh_X2_powerOf rfl ⟨rfl, by decide +kernel, by decide +kernel, by decide +kernel⟩ ⟨by decide, by decide⟩ rfl rfl (sl_o S) dX2_weigh_47 rfl rfl (Nat.le_of_ble_eq_true rfl) ⟨by decide, by decide⟩ ?_
          rintro _ _ _ ⟨rfl, rfl, rfl⟩
          try dsimp only [Option.toList, List.cons_append, List.nil_append]
          refine x_lneg G dX2_weigh_50 ?_
          refine x_lastN G dX2_weigh_51 (sl_k S) hj (by decide) ?_
          have S := sl_ks S (vp_updL (wg_l po lo la j) j (-pw_l po lo j))
          have F := xF_up (a := w + 14) (e := .inl (dA 1, 4, .inr (.inl (vp_updL (wg_l po lo la j) j (-pw_l po lo j))))) F (by omega) (by omega)
          rw [wg_ls] at S F ⊢
          refine x_iinc G dX2_weigh_52 rfl (by decide) ?_
          refine x_locE (lv2 := [(0, .ref w), (1, .ref a), (2, .int (nI (j + 1)))]) (by rw [nI_succ j]; rfl) ?_
          refine x_goto G 34 dX2_weigh_55 (by decide) ?_
          exact nx () _ _ ⟨S, F⟩
      · intro _ h1 sz1 hI
        try dsimp only at hI ⊢
        obtain ⟨S, F⟩ := hI
        refine x_iload_n G dX2_weigh_34 rfl ?_
        refine x_iconstV (v := nI 4) G dX2_weigh_35 (by decide) ?_
        refine x_icmp_ge G 58 dX2_weigh_36 (by decide) (fun c_36 => ?_) (fun c_36 => ?_)
        · exact x_vret G dX2_weigh_58 (hpost _ _ S F)
        · exact absurd (nI_le (Nat.le_refl _) (by omega)) c_36
    · exact absurd (nI_le (Nat.le_refl _) (by omega)) c_7
