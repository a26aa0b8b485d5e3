/-! ## The class: feed, wipe, fault, seed; restore of a Past; countFixed, canConvert, scaleProduct -/
theorem inX4_feed_4 : ∀ w ∈ wsX40, w ∈ wsX4_feed := by decide +kernel
set_option maxRecDepth 100000 in
set_option maxHeartbeats 4000000 in
/-- feed -/
theorem c_X4_feed (l : Launch) (D : va_G) {dA : Nat → ClassId} {b : Nat} {tx : Nat → Int32} {ln : Nat} {fa : Int32} {x : rT} {pl : Int32} {rd : Nat → Int32} {im : Nat → sT} {ss : Nat → sT} {mx : Nat} {ct : Nat} {so : slT} {ot : slT} {sy : Nat → Nat → Int32} {ab be : Nat → Int32} {n : Nat} {dw kp : Int32} {v : Int32} {h : xH} {sz : Nat} {Post : Option Value → xH → Nat → Prop} (hl60 : ln ≤ 60) (U : Uv dA h b tx ln fa x pl rd ((sy, ab, be, nI n, dw, kp)) im ss mx ct so ot) (hp1 : ¬ (nI 0 ≤ v ∧ v ≤ nI 255) → Post (some (.int (-1000000002))) h sz) (hp2 : (nI 0 ≤ v ∧ v ≤ nI 255) → ln = 60 → Post (some (.int (-1000000004))) h sz) (hp3 : (nI 0 ≤ v ∧ v ≤ nI 255) → ¬ ln = 60 → ∀ (h1 : xH) (sz1 : Nat), Uv dA h1 b (upd tx ln v) (ln + 1) fa x pl rd ((sy, ab, be, nI n, dw, kp)) im ss mx ct so ot → xF b (b + 279) h h1 → Post (some (.int (nI (ln + 1)))) h1 sz1) (hpost : True) : xMet l yX4_feed wsX4_feed 0 0 0 0 D dA [.ref b, .int v] h sz Post := by
  refine x_open (cc := cX4_feed) (maxL := 2) (ret := (some .int)) (by decide) rfl (Nat.le_of_ble_eq_true rfl) ?_
  intro p e s m args below meth c G _
  have inX4 : ∀ w ∈ wsX40, w ∈ wsX4_feed := inX4_feed_4
  have F := xF_rf (lo := b) (hi := b + 279) (h := h)
  refine x_iload_n G dX4_feed_0 rfl ?_
  refine x_if_lt G 11 dX4_feed_1 (by decide) (fun c_1 => ?_) (fun c_1 => ?_)
  · have hr : ¬ (nI 0 ≤ v ∧ v ≤ nI 255) := fun z => absurd z.1 (Int32.not_le.mpr c_1)
    refine x_ldc G (-1000000002) (by decide +kernel) dX4_feed_11 ?_
    exact x_iret G dX4_feed_13 (hp1 hr)
  · have h1 := Int32.not_lt.mp c_1
    refine x_iload_n G dX4_feed_4 rfl ?_
    refine x_sipushV (v := nI 255) G dX4_feed_5 (by decide) ?_
    refine x_icmp_le G 14 dX4_feed_8 (by decide) (fun c_8 => ?_) (fun c_8 => ?_)
    · have hr : nI 0 ≤ v ∧ v ≤ nI 255 := ⟨h1, c_8⟩
      refine x_aload_n G dX4_feed_14 rfl ?_
      refine x_get G kX4 inX4 1 (by decide) (by decide +kernel) dX4_feed_15 (uv_o U) rfl ?_
      refine x_bipushV (v := nI 60) G dX4_feed_18 (by decide) ?_
      refine x_icmp_lt G 26 dX4_feed_20 (by decide) (fun c_20 => ?_) (fun c_20 => ?_)
      · have hl : ¬ ln = 60 := fun z => absurd c_20 (by rw [z]; decide)
        refine x_aload_n G dX4_feed_26 rfl ?_
        refine x_get G kX4 inX4 0 (by decide) (by decide +kernel) dX4_feed_27 (uv_o U) rfl ?_
        refine x_aload_n G dX4_feed_30 rfl ?_
        refine x_get G kX4 inX4 1 (by decide) (by decide +kernel) dX4_feed_31 (uv_o U) rfl ?_
        refine x_iload_n G dX4_feed_34 rfl ?_
        refine x_iastN G dX4_feed_35 (uv_t U) (show ln < 60 by omega) (by decide) ?_
        have F1 : xF (b + 1) (b + 2) h _ := xF_up (a := b + 1) (e := .inl (dA 0, 60, .inl (upd tx ln v))) xF_rf (by omega) (by omega)
        replace U := uv_tu U (tx1 := upd tx ln v) x_up_eq F1
        replace F := xF_up (a := b + 1) (e := .inl (dA 0, 60, .inl (upd tx ln v))) F (by omega) (by omega)
        refine x_aload_n G dX4_feed_36 rfl ?_
        refine x_dup G dX4_feed_37 rfl ?_
        refine x_get G kX4 inX4 1 (by decide) (by decide +kernel) dX4_feed_38 (uv_o U) rfl ?_
        refine x_iconstV (v := nI 1) G dX4_feed_41 (by decide) ?_
        refine x_iadd G dX4_feed_42 ?_
        refine x_topE (y := nI (ln + 1)) (nI_1 ln) ?_
        refine x_put G kX4 inX4 1 (by decide) (by decide +kernel) rfl dX4_feed_43 (uv_o U) rfl rfl (Nat.le_of_ble_eq_true rfl) ?_
        replace U := uv_os U (ln + 1) (fa)
        replace F := xF_up (a := b) (e := .inr (4, [.ref (b + 1), .int (nI (ln + 1)), .int (fa), .ref (b + 2), .ref (b + 13), .ref (b + 14), .ref (b + 24), .ref (b + 25), .ref (b + 227), .ref (b + 243)])) F (by omega) (by omega)
        refine x_aload_n G dX4_feed_46 rfl ?_
        refine x_get G kX4 inX4 1 (by decide) (by decide +kernel) dX4_feed_47 (uv_o U) rfl ?_
        exact x_iret G dX4_feed_50 (hp3 hr hl _ _ U F)
      · have hl : ln = 60 := by
          rcases Nat.lt_or_ge ln 60 with z | z
          · exact absurd (Int32.not_le.mp (nI_ge z (by decide))) c_20
          · omega
        refine x_ldc G (-1000000004) (by decide +kernel) dX4_feed_23 ?_
        exact x_iret G dX4_feed_25 (hp2 hr hl)
    · have hr : ¬ (nI 0 ≤ v ∧ v ≤ nI 255) := fun z => c_8 z.2
      refine x_ldc G (-1000000002) (by decide +kernel) dX4_feed_11 ?_
      exact x_iret G dX4_feed_13 (hp1 hr)
theorem inX4_wipe_4 : ∀ w ∈ wsX40, w ∈ wsX4_wipe := by decide +kernel
set_option maxRecDepth 100000 in
set_option maxHeartbeats 4000000 in
/-- wipe -/
theorem c_X4_wipe (l : Launch) (D : va_G) {dA : Nat → ClassId} {b : Nat} {tx : Nat → Int32} {ln : Nat} {fa : Int32} {x : rT} {pl : Int32} {rd : Nat → Int32} {im : Nat → sT} {ss : Nat → sT} {mx : Nat} {ct : Nat} {so : slT} {ot : slT} {sy : Nat → Nat → Int32} {ab be : Nat → Int32} {n : Nat} {dw kp : Int32} {h : xH} {sz : Nat} {Post : Option Value → xH → Nat → Prop} (U : Uv dA h b tx ln fa x pl rd ((sy, ab, be, nI n, dw, kp)) im ss mx ct so ot) (hpost : ∀ (h1 : xH) (sz1 : Nat), Uv dA h1 b tx 0 fa x pl rd ((sy, ab, be, nI n, dw, kp)) im ss mx ct so ot → xF b (b + 279) h h1 → Post (some (.int (nI ln))) h1 sz1) : xMet l yX4_wipe wsX4_wipe 0 0 0 0 D dA [.ref b] h sz Post := by
  refine x_open (cc := cX4_wipe) (maxL := 2) (ret := (some .int)) (by decide) rfl (Nat.le_of_ble_eq_true rfl) ?_
  intro p e s m args below meth c G _
  have inX4 : ∀ w ∈ wsX40, w ∈ wsX4_wipe := inX4_wipe_4
  have F := xF_rf (lo := b) (hi := b + 279) (h := h)
  refine x_aload_n G dX4_wipe_0 rfl ?_
  refine x_get G kX4 inX4 1 (by decide) (by decide +kernel) dX4_wipe_1 (uv_o U) rfl ?_
  refine x_istore_n G dX4_wipe_4 (by decide) ?_
  refine x_aload_n G dX4_wipe_5 rfl ?_
  refine x_iconstV (v := nI 0) G dX4_wipe_6 (by decide) ?_
  refine x_put G kX4 inX4 1 (by decide) (by decide +kernel) rfl dX4_wipe_7 (uv_o U) rfl rfl (Nat.le_of_ble_eq_true rfl) ?_
  replace U := uv_os U (0) (fa)
  replace F := xF_up (a := b) (e := .inr (4, [.ref (b + 1), .int (nI (0)), .int (fa), .ref (b + 2), .ref (b + 13), .ref (b + 14), .ref (b + 24), .ref (b + 25), .ref (b + 227), .ref (b + 243)])) F (by omega) (by omega)
  refine x_iload_n G dX4_wipe_10 rfl ?_
  exact x_iret G dX4_wipe_11 (hpost _ _ U F)
theorem inX4_fault_4 : ∀ w ∈ wsX40, w ∈ wsX4_fault := by decide +kernel
set_option maxRecDepth 100000 in
set_option maxHeartbeats 4000000 in
/-- fault -/
theorem c_X4_fault (l : Launch) (D : va_G) {dA : Nat → ClassId} {b : Nat} {tx : Nat → Int32} {ln : Nat} {fa : Int32} {x : rT} {pl : Int32} {rd : Nat → Int32} {im : Nat → sT} {ss : Nat → sT} {mx : Nat} {ct : Nat} {so : slT} {ot : slT} {sy : Nat → Nat → Int32} {ab be : Nat → Int32} {n : Nat} {dw kp : Int32} {h : xH} {sz : Nat} {Post : Option Value → xH → Nat → Prop} (U : Uv dA h b tx ln fa x pl rd ((sy, ab, be, nI n, dw, kp)) im ss mx ct so ot) (hpost : Post (some (.int fa)) h sz) : xMet l yX4_fault wsX4_fault 0 0 0 0 D dA [.ref b] h sz Post := by
  refine x_open (cc := cX4_fault) (maxL := 1) (ret := (some .int)) (by decide) rfl (Nat.le_of_ble_eq_true rfl) ?_
  intro p e s m args below meth c G _
  have inX4 : ∀ w ∈ wsX40, w ∈ wsX4_fault := inX4_fault_4
  refine x_aload_n G dX4_fault_0 rfl ?_
  refine x_get G kX4 inX4 2 (by decide) (by decide +kernel) dX4_fault_1 (uv_o U) rfl ?_
  exact x_iret G dX4_fault_4 hpost
theorem inX4_seed_4 : ∀ w ∈ wsX40, w ∈ wsX4_seed := by decide +kernel
theorem inX4_seed_3 : ∀ w ∈ wsX30, w ∈ wsX4_seed := by decide +kernel
set_option maxRecDepth 100000 in
set_option maxHeartbeats 4000000 in
/-- seed -/
theorem c_X4_seed (l : Launch) (D : va_G) {dA : Nat → ClassId} {b : Nat} {tx : Nat → Int32} {ln : Nat} {fa : Int32} {x : rT} {pl : Int32} {rd : Nat → Int32} {im : Nat → sT} {ss : Nat → sT} {mx : Nat} {ct : Nat} {so : slT} {ot : slT} {sy : Nat → Nat → Int32} {ab be : Nat → Int32} {n : Nat} {dw kp : Int32} {v : Int32} {h : xH} {sz : Nat} {Post : Option Value → xH → Nat → Prop} (U : Uv dA h b tx ln fa x pl rd ((sy, ab, be, nI n, dw, kp)) im ss mx ct so ot) (hp1 : ¬ 0 ≤ v → Post (some (.int (-1000000002))) h sz) (hp2 : 0 ≤ v → ∀ (h1 : xH) (sz1 : Nat), Uv dA h1 b tx ln fa x pl rd ((sy, ab, be, nI n, v, kp)) im ss mx ct so ot → xF b (b + 279) h h1 → Post (some (.int dw)) h1 sz1) (hpost : True) : xMet l yX4_seed wsX4_seed 0 0 0 0 D dA [.ref b, .int v] h sz Post := by
  refine x_open (cc := cX4_seed) (maxL := 3) (ret := (some .int)) (by decide) rfl (Nat.le_of_ble_eq_true rfl) ?_
  intro p e s m args below meth c G _
  have inX4 : ∀ w ∈ wsX40, w ∈ wsX4_seed := inX4_seed_4
  have inX3 : ∀ w ∈ wsX30, w ∈ wsX4_seed := inX4_seed_3
  have F := xF_rf (lo := b) (hi := b + 279) (h := h)
  refine x_iload_n G dX4_seed_0 rfl ?_
  refine x_if_ge G 7 dX4_seed_1 (by decide) (fun c_1 => ?_) (fun c_1 => ?_)
  · have hr : 0 ≤ v := c_1
    refine x_aload_n G dX4_seed_7 rfl ?_
    refine x_get G kX4 inX4 5 (by decide) (by decide +kernel) dX4_seed_8 (uv_o U) rfl ?_
    refine x_getN (host := "UnitVectors") G kX3 inX3 4 (by decide) (by decide +kernel) dX4_seed_11 (st_o (uv_n U)) rfl ?_
    refine x_istore_n G dX4_seed_14 (by decide) ?_
    refine x_aload_n G dX4_seed_15 rfl ?_
    refine x_get G kX4 inX4 5 (by decide) (by decide +kernel) dX4_seed_16 (uv_o U) rfl ?_
    refine x_iload_n G dX4_seed_19 rfl ?_
    refine x_putN (host := "UnitVectors") G kX3 inX3 4 (by decide) (by decide +kernel) rfl dX4_seed_20 (st_o (uv_n U)) rfl rfl (Nat.le_of_ble_eq_true rfl) ?_
    have Z := st_os (uv_n U) (nI n) v kp
    have F1 : xF (b + 14) (b + 24) h _ := xF_up (a := b + 14) (e := .inr (3, [.ref (b + 14 + 1), .ref (b + 14 + 8), .ref (b + 14 + 9), .int (nI n), .int v, .int kp])) xF_rf (by omega) (by omega)
    replace U := uv_nu U (nw1 := (sy, ab, be, nI n, v, kp)) Z F1
    replace F := xF_tr F (xF_wd F1 (lo1 := b) (hi1 := b + 279) (by omega) (by omega))
    refine x_iload_n G dX4_seed_23 rfl ?_
    exact x_iret G dX4_seed_24 (hp2 hr _ _ U F)
  · have hr : ¬ 0 ≤ v := c_1
    refine x_ldc G (-1000000002) (by decide +kernel) dX4_seed_4 ?_
    exact x_iret G dX4_seed_6 (hp1 hr)
theorem inX0_restore_0 : ∀ w ∈ wsX00, w ∈ wsX0_restore := by decide +kernel
theorem fm_20 : ∀ a, a < 20 → ∀ c, c < 21 → fm_i (nI a - nI c) (nI 20) = nI ((a + 20 - c) % 20) := by decide +kernel
theorem pk_c {a c : Nat} (h : c ≤ a) : nI a - nI c = nI (a - c) := pk_sub h
set_option maxRecDepth 100000 in
set_option maxHeartbeats 4000000 in
/-- restore -/
theorem c_X0_restore (l : Launch) (D : va_G) {dA : Nat → ClassId} {u q m c0 k : Nat} {ss : Nat → sT} {t : sT} {h : xH} {sz : Nat} {Post : Option Value → xH → Nat → Prop} (hm : m < 20) (hk : k ≤ 20) (hkc : k ≤ c0) (hq : q + 10 ≤ u ∨ u + 202 ≤ q) (P : Pa dA h u ss (nI m) (nI c0)) (T : StT dA h q t) (hpost : ∀ (h1 h2 : xH) (sz1 : Nat), Pa dA h1 u ss (nI ((m + 20 - k) % 20)) (nI (c0 - k)) → StT dA h2 q (sT_cp (ss ((m + 20 - k) % 20)) t) → xF u (u + 202) h h1 → xF q (q + 10) h1 h2 → Post none h2 sz1) : xMet l yX0_restore wsX0_restore 2 70 0 0 D dA [.ref u, .int (nI k), .ref q] h sz Post := by
  refine x_open (cc := cX0_restore) (maxL := 3) (ret := none) (by decide) rfl (Nat.le_of_ble_eq_true rfl) ?_
  intro p e s mg args below meth c G _
  have inX0 : ∀ w ∈ wsX00, w ∈ wsX0_restore := inX0_restore_0
  refine x_aload_n G dX0_restore_0 rfl ?_
  refine x_aload_n G dX0_restore_1 rfl ?_
  refine x_get G kX0 inX0 1 (by decide) (by decide +kernel) dX0_restore_2 P.1 rfl ?_
  refine x_iload_n G dX0_restore_5 rfl ?_
  refine x_isub G dX0_restore_6 ?_
  refine x_bipushV (v := nI 20) G dX0_restore_7 (by decide) ?_
  refine x_fmod G (by decide) (by decide +kernel) (by decide +kernel) (by decide +kernel) (by decide +kernel) (by decide) (Nat.le_of_ble_eq_true rfl) (by decide) (by decide) dX0_restore_9 ?_
  refine x_topE (y := nI ((m + 20 - k) % 20)) (fm_20 m hm k (by omega)) ?_
  refine x_put G kX0 inX0 1 (by decide) (by decide +kernel) rfl dX0_restore_12 P.1 rfl rfl (Nat.le_of_ble_eq_true rfl) ?_
  replace P := pa_o P (nI ((m + 20 - k) % 20)) (nI c0)
  have F : xF u (u + 202) h _ := xF_up (a := u) (e := .inr (0, [.ref (u + 1), .int (nI ((m + 20 - k) % 20)), .int (nI c0)])) xF_rf (by omega) (by omega)
  have T00 := T
  replace T : StT dA _ q t := st_fo T00 F (by omega)
  refine x_aload_n G dX0_restore_15 rfl ?_
  refine x_dup G dX0_restore_16 rfl ?_
  refine x_get G kX0 inX0 2 (by decide) (by decide +kernel) dX0_restore_17 P.1 rfl ?_
  refine x_iload_n G dX0_restore_20 rfl ?_
  refine x_isub G dX0_restore_21 ?_
  refine x_topE (y := nI (c0 - k)) (pk_sub hkc) ?_
  refine x_put G kX0 inX0 2 (by decide) (by decide +kernel) rfl dX0_restore_22 P.1 rfl rfl (Nat.le_of_ble_eq_true rfl) ?_
  replace P := pa_o P (nI ((m + 20 - k) % 20)) (nI (c0 - k))
  replace F := xF_up (a := u) (e := .inr (0, [.ref (u + 1), .int (nI ((m + 20 - k) % 20)), .int (nI (c0 - k))])) F (by omega) (by omega)
  replace T : StT dA _ q t := st_fo T00 F (by omega)
  refine x_aload_n G dX0_restore_25 rfl ?_
  refine x_aload_n G dX0_restore_26 rfl ?_
  refine x_get G kX0 inX0 0 (by decide) (by decide +kernel) dX0_restore_27 P.1 rfl ?_
  refine x_aload_n G dX0_restore_30 rfl ?_
  refine x_get G kX0 inX0 1 (by decide) (by decide +kernel) dX0_restore_31 P.1 rfl ?_
  refine x_aald (t := 3) G rfl rfl dX0_restore_34 P.2.1 (vp_in_nI (Nat.mod_lt _ (by decide)) (by decide)) (show (if (nI ((m + 20 - k) % 20)).toNatClampNeg < 20 then some (u + 2 + 10 * (nI ((m + 20 - k) % 20)).toNatClampNeg) else none) = some (u + 2 + 10 * ((m + 20 - k) % 20)) by rw [nI_clamp (by omega), if_pos (Nat.mod_lt _ (by decide))]) ?_
  refine x_callV (n := 1) (rest := []) (As := [.ref (u + 2 + 10 * ((m + 20 - k) % 20))]) G (ci := 3) (c_X3_copyDeeds (Post := fun r7 h7 sz7 => r7 = none ∧ StT dA h7 q (sT_cp (ss ((m + 20 - k) % 20)) t) ∧ xF q (q + 10) _ h7) l D (by omega) T (P.2.2 ((m + 20 - k) % 20) (Nat.mod_lt _ (by decide))) (fun h7 sz7 q1 q2 => ⟨rfl, q1, q2⟩)) gX0_restore_X3_copyDeeds rfl ⟨rfl, by decide +kernel, by decide +kernel, by decide +kernel⟩ ⟨by decide, by decide⟩ rfl rfl (st_o T) dX0_restore_35 rfl rfl (Nat.le_of_ble_eq_true rfl) ⟨by decide, by decide⟩ ?_
  rintro _ h1 sz1 ⟨rfl, T, F2⟩
  try dsimp only [Option.toList, List.cons_append, List.nil_append]
  exact x_vret G dX0_restore_38 (hpost _ _ _ P T F F2)
theorem inX4_countFixed_4 : ∀ w ∈ wsX40, w ∈ wsX4_countFixed := by decide +kernel
def fx_b (f : Nat → Nat → Int64) (n v : Nat) : Bool := r_su (fun k => f (k / 6) (k % 6)) v n
theorem fx_iff {f : Nat → Nat → Int64} {v : Nat} (hv : v < 6) : ∀ {n : Nat}, fx_b f n v = true ↔ ∀ i, i < n → f i v = 0
  | 0 => ⟨fun _ b hb => absurd hb (Nat.not_lt_zero _), fun _ => rfl⟩
  | n + 1 => by
    show (fx_b f n v && (f ((6 * n + v) / 6) ((6 * n + v) % 6) == 0)) = true ↔ _
    rw [Bool.and_eq_true, fx_iff hv, beq_iff_eq, show (6 * n + v) / 6 = n by omega, show (6 * n + v) % 6 = v by omega]
    constructor
    · intro z i hi
      rcases Nat.lt_or_ge i n with y | y
      · exact z.1 i y
      · rw [show i = n by omega]; exact z.2
    · intro z
      exact ⟨fun i hi => z i (by omega), z n (by omega)⟩
set_option maxRecDepth 100000 in
set_option maxHeartbeats 4000000 in
/-- countFixed -/
theorem c_X4_countFixed (l : Launch) (D : va_G) {dA : Nat → ClassId} {b : Nat} {tx : Nat → Int32} {ln : Nat} {fa : Int32} {x : rT} {pl : Int32} {rd : Nat → Int32} {im : Nat → sT} {ss : Nat → sT} {mx : Nat} {ct : Nat} {so : slT} {ot : slT} {sy : Nat → Nat → Int32} {ab be : Nat → Int32} {n : Nat} {dw kp : Int32} {h : xH} {sz : Nat} {Post : Option Value → xH → Nat → Prop} (hs6 : so.2.2.2.2.2 ≤ 6) (U : Uv dA h b tx ln fa x pl rd ((sy, ab, be, nI n, dw, kp)) im ss mx ct so ot) (hpost : Post (some (.int (nI (r_ct (fun i => fx_b so.1 so.2.2.2.2.2 i) 6)))) h sz) : xMet l yX4_countFixed wsX4_countFixed 1 24 0 0 D dA [.ref b] h sz Post := by
  refine x_open (cc := cX4_countFixed) (maxL := 3) (ret := (some .int)) (by decide) rfl (Nat.le_of_ble_eq_true rfl) ?_
  intro p e s m args below meth c G _
  have inX4 : ∀ w ∈ wsX40, w ∈ wsX4_countFixed := inX4_countFixed_4
  obtain ⟨ad, S⟩ := uv_s U
  refine x_iconstV (v := nI 0) G dX4_countFixed_0 (by decide) ?_
  refine x_istore_n G dX4_countFixed_1 (by decide) ?_
  refine x_iconstV (v := nI 0) G dX4_countFixed_2 (by decide) ?_
  refine x_istore_n G dX4_countFixed_3 (by decide) ?_
  refine x_loop (σ := Unit) (fun j _ => [(0, .ref b), (1, .int (nI (r_ct (fun i => fx_b so.1 so.2.2.2.2.2 i) j))), (2, .int (nI j))]) 6 (fun j _ h1 sz1 => h = h1 ∧ sz = sz1) ?_ ?_ 0 () h sz (Nat.zero_le _) ⟨rfl, rfl⟩
  · intro j _ h1 sz1 hj hI nx
    try dsimp only at hI nx ⊢
    obtain ⟨rfl, rfl⟩ := hI
    refine x_iload_n G dX4_countFixed_4 rfl ?_
    refine x_bipushV (v := nI 6) G dX4_countFixed_5 (by decide) ?_
    refine x_icmp_ge G 30 dX4_countFixed_7 (by decide) (fun c_7 => ?_) (fun c_7 => ?_)
    · exact absurd c_7 (nI_ge hj (by omega))
    · refine x_aload_n G dX4_countFixed_10 rfl ?_
      refine x_get G kX4 inX4 8 (by decide) (by decide +kernel) dX4_countFixed_11 (uv_o U) rfl ?_
      refine x_iload_n G dX4_countFixed_14 rfl ?_
      refine x_callV (n := 1) (rest := []) (As := [.int (nI j)]) G (ci := 2) (c_X2_isFixed (Post := fun r7 h7 sz7 => r7 = some (.int (x_b (∀ i, i < so.2.2.2.2.2 → so.1 i j = 0))) ∧ h = h7 ∧ sz = sz7) l D hs6 hj S ⟨rfl, rfl, rfl⟩) gX4_countFixed_X2_isFixed rfl ⟨rfl, by decide +kernel, by decide +kernel, by decide +kernel⟩ ⟨by decide, by decide⟩ rfl rfl (sl_o S) dX4_countFixed_15 rfl rfl (Nat.le_of_ble_eq_true rfl) ⟨by decide, by decide⟩ ?_
      rintro _ _ _ ⟨rfl, rfl, rfl⟩
      try dsimp only [Option.toList, List.cons_append, List.nil_append]
      refine x_if_eq G 24 dX4_countFixed_18 (by decide) (fun c_18 => ?_) (fun c_18 => ?_)
      · have e : r_ct (fun i => fx_b so.1 so.2.2.2.2.2 i) (j + 1) = r_ct (fun i => fx_b so.1 so.2.2.2.2.2 i) j := by
          show _ + (if fx_b so.1 so.2.2.2.2.2 j = true then 1 else 0) = _
          rw [if_neg (fun z => x_b_0.mp c_18 ((fx_iff hj).mp z)), Nat.add_zero]
        refine x_iinc G dX4_countFixed_24 rfl (by decide) ?_
        refine x_goto G 4 dX4_countFixed_27 (by decide) ?_
        refine x_locE (lv2 := [(0, .ref b), (1, .int (nI (r_ct (fun i => fx_b so.1 so.2.2.2.2.2 i) (j + 1)))), (2, .int (nI (j + 1)))]) (by rw [nI_succ j, e]; rfl) ?_
        exact nx () _ _ ⟨rfl, rfl⟩
      · have e : r_ct (fun i => fx_b so.1 so.2.2.2.2.2 i) (j + 1) = r_ct (fun i => fx_b so.1 so.2.2.2.2.2 i) j + 1 := by
          show _ + (if fx_b so.1 so.2.2.2.2.2 j = true then 1 else 0) = _
          rw [if_pos ((fx_iff hj).mpr (x_b_n.mp c_18))]
        refine x_iinc G dX4_countFixed_21 rfl (by decide) ?_
        refine x_iinc G dX4_countFixed_24 rfl (by decide) ?_
        refine x_goto G 4 dX4_countFixed_27 (by decide) ?_
        refine x_locE (lv2 := [(0, .ref b), (1, .int (nI (r_ct (fun i => fx_b so.1 so.2.2.2.2.2 i) (j + 1)))), (2, .int (nI (j + 1)))]) (by rw [nI_succ j, e, nI_succ (r_ct (fun i => fx_b so.1 so.2.2.2.2.2 i) j)]; rfl) ?_
        exact nx () _ _ ⟨rfl, rfl⟩
  · intro _ h1 sz1 hI
    try dsimp only at hI ⊢
    obtain ⟨rfl, rfl⟩ := hI
    refine x_iload_n G dX4_countFixed_4 rfl ?_
    refine x_bipushV (v := nI 6) G dX4_countFixed_5 (by decide) ?_
    refine x_icmp_ge G 30 dX4_countFixed_7 (by decide) (fun c_7 => ?_) (fun c_7 => ?_)
    · refine x_iload_n G dX4_countFixed_30 rfl ?_
      exact x_iret G dX4_countFixed_31 hpost
    · exact absurd (nI_le (Nat.le_refl _) (by omega)) c_7
theorem inX4_canConvert_4 : ∀ w ∈ wsX40, w ∈ wsX4_canConvert := by decide +kernel
def cc_q (rd : Nat → Int32) : Prop := (∀ i, i < 6 → rd i = 0) ∧ ∀ i, 6 ≤ i → i < 10 → ¬ nI 3 < rd i ∧ (-3) ≤ rd i
set_option maxRecDepth 100000 in
set_option maxHeartbeats 4000000 in
/-- canConvert -/
theorem c_X4_canConvert (l : Launch) (D : va_G) {dA : Nat → ClassId} {b : Nat} {tx : Nat → Int32} {ln : Nat} {fa : Int32} {x : rT} {pl : Int32} {rd : Nat → Int32} {im : Nat → sT} {ss : Nat → sT} {mx : Nat} {ct : Nat} {so : slT} {ot : slT} {sy : Nat → Nat → Int32} {ab be : Nat → Int32} {n : Nat} {dw kp : Int32} {h : xH} {sz : Nat} {Post : Option Value → xH → Nat → Prop} (U : Uv dA h b tx ln fa x pl rd ((sy, ab, be, nI n, dw, kp)) im ss mx ct so ot) (hp1 : cc_q rd → Post (some (.int (nI 1))) h sz) (hp2 : ¬ cc_q rd → Post (some (.int (nI 0))) h sz) (hpost : True) : xMet l yX4_canConvert wsX4_canConvert 0 0 0 0 D dA [.ref b] h sz Post := by
  refine x_open (cc := cX4_canConvert) (maxL := 2) (ret := (some .boolean)) (by decide) rfl (Nat.le_of_ble_eq_true rfl) ?_
  intro p e s m args below meth c G _
  have inX4 : ∀ w ∈ wsX40, w ∈ wsX4_canConvert := inX4_canConvert_4
  refine x_iconstV (v := nI 0) G dX4_canConvert_0 (by decide) ?_
  refine x_istore_n G dX4_canConvert_1 (by decide) ?_
  refine x_loop (σ := Unit) (fun j _ => [(0, .ref b), (1, .int (nI j))]) 6 (fun j _ h1 sz1 => (∀ i, i < j → rd i = 0) ∧ h = h1 ∧ sz = sz1) ?_ ?_ 0 () h sz (Nat.zero_le _) ⟨fun i hi => absurd hi (Nat.not_lt_zero _), rfl, rfl⟩
  · intro j _ h1 sz1 hj hI nx
    try dsimp only at hI nx ⊢
    obtain ⟨hI, rfl, rfl⟩ := hI
    refine x_iload_n G dX4_canConvert_2 rfl ?_
    refine x_bipushV (v := nI 6) G dX4_canConvert_3 (by decide) ?_
    refine x_icmp_ge G 25 dX4_canConvert_5 (by decide) (fun c_5 => ?_) (fun c_5 => ?_)
    · exact absurd c_5 (nI_ge hj (by omega))
    · refine x_aload_n G dX4_canConvert_8 rfl ?_
      refine x_get G kX4 inX4 4 (by decide) (by decide +kernel) dX4_canConvert_9 (uv_o U) rfl ?_
      refine x_iload_n G dX4_canConvert_12 rfl ?_
      refine x_ialdN G dX4_canConvert_13 (uv_d U) (by omega) (by decide) ?_
      refine x_if_eq G 19 dX4_canConvert_14 (by decide) (fun c_14 => ?_) (fun c_14 => ?_)
      · have e : ∀ i, i < j + 1 → rd i = 0 := fun i hi => by
          rcases Nat.lt_or_ge i j with z | z
          · exact hI i z
          · rw [show i = j by omega]; exact c_14
        refine x_iinc G dX4_canConvert_19 rfl (by decide) ?_
        refine x_locE (lv2 := [(0, .ref b), (1, .int (nI (j + 1)))]) (by rw [nI_succ j]; rfl) ?_
        refine x_goto G 2 dX4_canConvert_22 (by decide) ?_
        exact nx () _ _ ⟨e, rfl, rfl⟩
      · exact x_iconstV (v := nI 0) G dX4_canConvert_17 (by decide) (x_zret G dX4_canConvert_18 rfl (hp2 (fun z => c_14 (z.1 j hj))))
  · intro _ h1 sz1 hI
    try dsimp only at hI ⊢
    obtain ⟨hI, rfl, rfl⟩ := hI
    refine x_iload_n G dX4_canConvert_2 rfl ?_
    refine x_bipushV (v := nI 6) G dX4_canConvert_3 (by decide) ?_
    refine x_icmp_ge G 25 dX4_canConvert_5 (by decide) (fun c_5 => ?_) (fun c_5 => ?_)
    · refine x_bipushV (v := nI 6) G dX4_canConvert_25 (by decide) ?_
      refine x_istore_n G dX4_canConvert_27 (by decide) ?_
      refine x_loop (σ := Unit) (fun j _ => [(0, .ref b), (1, .int (nI j))]) 10 (fun j _ h1 sz1 => 6 ≤ j ∧ (∀ i, 6 ≤ i → i < j → ¬ nI 3 < rd i ∧ (-3) ≤ rd i) ∧ h = h1 ∧ sz = sz1) ?_ ?_ 6 () _ _ (by decide) ⟨Nat.le_refl _, fun i h6 hi => absurd hi (by omega), rfl, rfl⟩
      · intro j _ h1 sz1 hj hI nx
        try dsimp only at hI nx ⊢
        obtain ⟨h6, hI2, rfl, rfl⟩ := hI
        refine x_iload_n G dX4_canConvert_28 rfl ?_
        refine x_bipushV (v := nI 10) G dX4_canConvert_29 (by decide) ?_
        refine x_icmp_ge G 63 dX4_canConvert_31 (by decide) (fun c_31 => ?_) (fun c_31 => ?_)
        · exact absurd c_31 (nI_ge hj (by omega))
        · refine x_aload_n G dX4_canConvert_34 rfl ?_
          refine x_get G kX4 inX4 4 (by decide) (by decide +kernel) dX4_canConvert_35 (uv_o U) rfl ?_
          refine x_iload_n G dX4_canConvert_38 rfl ?_
          refine x_ialdN G dX4_canConvert_39 (uv_d U) (by omega) (by decide) ?_
          refine x_iconstV (v := nI 3) G dX4_canConvert_40 (by decide) ?_
          refine x_icmp_gt G 55 dX4_canConvert_41 (by decide) (fun c_41 => ?_) (fun c_41 => ?_)
          · exact x_iconstV (v := nI 0) G dX4_canConvert_55 (by decide) (x_zret G dX4_canConvert_56 rfl (hp2 (fun z => (z.2 j h6 hj).1 c_41)))
          · refine x_aload_n G dX4_canConvert_44 rfl ?_
            refine x_get G kX4 inX4 4 (by decide) (by decide +kernel) dX4_canConvert_45 (uv_o U) rfl ?_
            refine x_iload_n G dX4_canConvert_48 rfl ?_
            refine x_ialdN G dX4_canConvert_49 (uv_d U) (by omega) (by decide) ?_
            refine x_bipushV (v := (-3)) G dX4_canConvert_50 (by decide) ?_
            refine x_icmp_ge G 57 dX4_canConvert_52 (by decide) (fun c_52 => ?_) (fun c_52 => ?_)
            · have e2 : ∀ i, 6 ≤ i → i < j + 1 → ¬ nI 3 < rd i ∧ (-3) ≤ rd i := fun i hi6 hi => by
                rcases Nat.lt_or_ge i j with z | z
                · exact hI2 i hi6 z
                · rw [show i = j by omega]; exact ⟨c_41, c_52⟩
              refine x_iinc G dX4_canConvert_57 rfl (by decide) ?_
              refine x_locE (lv2 := [(0, .ref b), (1, .int (nI (j + 1)))]) (by rw [nI_succ j]; rfl) ?_
              refine x_goto G 28 dX4_canConvert_60 (by decide) ?_
              exact nx () _ _ ⟨by omega, e2, rfl, rfl⟩
            · exact x_iconstV (v := nI 0) G dX4_canConvert_55 (by decide) (x_zret G dX4_canConvert_56 rfl (hp2 (fun z => c_52 (z.2 j h6 hj).2)))
      · intro _ h1 sz1 hI
        try dsimp only at hI ⊢
        obtain ⟨h6, hI2, rfl, rfl⟩ := hI
        refine x_iload_n G dX4_canConvert_28 rfl ?_
        refine x_bipushV (v := nI 10) G dX4_canConvert_29 (by decide) ?_
        refine x_icmp_ge G 63 dX4_canConvert_31 (by decide) (fun c_31 => ?_) (fun c_31 => ?_)
        · refine x_iconstV (v := nI 1) G dX4_canConvert_63 (by decide) ?_
          exact x_zret G dX4_canConvert_64 rfl (hp1 ⟨hI, hI2⟩)
        · exact absurd (nI_le (Nat.le_refl _) (by omega)) c_31
    · exact absurd (nI_le (Nat.le_refl _) (by omega)) c_5
