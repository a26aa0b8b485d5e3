/-! ## The class: State, ten cells q .. q + 9 (object, outer array, six rows, above, below) -/
def St (dA : Nat → ClassId) (h : xH) (q : Nat) (sy : Nat → Nat → Int32) (ab be : Nat → Int32) (ct dw kp : Int32) : Prop :=
  h q = some (.inr (3, [.ref (q + 1), .ref (q + 8), .ref (q + 9), .int ct, .int dw, .int kp])) ∧ h (q + 1) = some (.inl (dA 4, 6, .inr (.inr (.inr (.inr (fun i => if i < 6 then some (q + 2 + i) else none)))))) ∧ (∀ k, k < 6 → h (q + 2 + k) = some (.inl (dA 0, 10, .inl (sy k)))) ∧ h (q + 8) = some (.inl (dA 0, 4, .inl ab)) ∧ h (q + 9) = some (.inl (dA 0, 4, .inl be))
section ST
variable {dA : Nat → ClassId} {h : xH} {q : Nat} {sy : Nat → Nat → Int32} {ab be : Nat → Int32} {ct dw kp : Int32}
theorem st_o (S : St dA h q sy ab be ct dw kp) : h q = some (.inr (3, [.ref (q + 1), .ref (q + 8), .ref (q + 9), .int ct, .int dw, .int kp])) := S.1
theorem st_y (S : St dA h q sy ab be ct dw kp) : h (q + 1) = some (.inl (dA 4, 6, .inr (.inr (.inr (.inr (fun i => if i < 6 then some (q + 2 + i) else none)))))) := S.2.1
theorem st_r (S : St dA h q sy ab be ct dw kp) {k : Nat} (hk : k < 6) : h (q + 2 + k) = some (.inl (dA 0, 10, .inl (sy k))) := S.2.2.1 k hk
theorem st_a (S : St dA h q sy ab be ct dw kp) : h (q + 8) = some (.inl (dA 0, 4, .inl ab)) := S.2.2.2.1
theorem st_b (S : St dA h q sy ab be ct dw kp) : h (q + 9) = some (.inl (dA 0, 4, .inl be)) := S.2.2.2.2
theorem st_fo (S : St dA h q sy ab be ct dw kp) {h1 : xH} {lo hi : Nat} (F : xF lo hi h h1) (k : q + 10 ≤ lo ∨ hi ≤ q) : St dA h1 q sy ab be ct dw kp := by
  refine ⟨by rw [F q (by omega)]; exact st_o S, by rw [F (q + 1) (by omega)]; exact st_y S, fun j hj => by rw [F (q + 2 + j) (by omega)]; exact st_r S hj, by rw [F (q + 8) (by omega)]; exact st_a S, by rw [F (q + 9) (by omega)]; exact st_b S⟩
theorem st_os (S : St dA h q sy ab be ct dw kp) (ct1 dw1 kp1 : Int32) : St dA (x_up h q (.inr (3, [.ref (q + 1), .ref (q + 8), .ref (q + 9), .int ct1, .int dw1, .int kp1]))) q sy ab be ct1 dw1 kp1 := by
  refine ⟨x_up_eq, by rw [x_up_ne (by omega)]; exact st_y S, fun j hj => by rw [x_up_ne (by omega)]; exact st_r S hj, by rw [x_up_ne (by omega)]; exact st_a S, by rw [x_up_ne (by omega)]; exact st_b S⟩
theorem st_rs (S : St dA h q sy ab be ct dw kp) {k : Nat} (hk : k < 6) (f : Nat → Int32) : St dA (x_up h (q + 2 + k) (.inl (dA 0, 10, .inl f))) q (fun i => if i = k then f else sy i) ab be ct dw kp := by
  refine ⟨by rw [x_up_ne (by omega)]; exact st_o S, by rw [x_up_ne (by omega)]; exact st_y S, fun j hj => ?_, by rw [x_up_ne (by omega)]; exact st_a S, by rw [x_up_ne (by omega)]; exact st_b S⟩
  dsimp only
  by_cases e : j = k
  · subst e
    rw [if_pos rfl]
    exact x_up_eq
  · rw [if_neg e, x_up_ne (by omega)]
    exact st_r S hj
theorem st_as (S : St dA h q sy ab be ct dw kp) (f : Nat → Int32) : St dA (x_up h (q + 8) (.inl (dA 0, 4, .inl f))) q sy f be ct dw kp := by
  refine ⟨by rw [x_up_ne (by omega)]; exact st_o S, by rw [x_up_ne (by omega)]; exact st_y S, fun j hj => by rw [x_up_ne (by omega)]; exact st_r S hj, x_up_eq, by rw [x_up_ne (by omega)]; exact st_b S⟩
theorem st_bs (S : St dA h q sy ab be ct dw kp) (f : Nat → Int32) : St dA (x_up h (q + 9) (.inl (dA 0, 4, .inl f))) q sy ab f ct dw kp := by
  refine ⟨by rw [x_up_ne (by omega)]; exact st_o S, by rw [x_up_ne (by omega)]; exact st_y S, fun j hj => by rw [x_up_ne (by omega)]; exact st_r S hj, by rw [x_up_ne (by omega)]; exact st_a S, x_up_eq⟩
end ST
theorem inX3_countScaled_3 : ∀ w ∈ wsX30, w ∈ wsX3_countScaled := by decide +kernel
set_option maxRecDepth 100000 in
set_option maxHeartbeats 4000000 in
/-- countScaled -/
theorem c_X3_countScaled (l : Launch) (D : va_G) {dA : Nat → ClassId} {q : Nat} {sy : Nat → Nat → Int32} {ab be : Nat → Int32} {ct dw kp : Int32} {h : xH} {sz : Nat} {Post : Option Value → xH → Nat → Prop} (S : St dA h q sy ab be ct dw kp) (hpost : Post (some (.int (nI (r_ct (fun i => decide (¬ ab i = be i)) 4)))) h sz) : xMet l yX3_countScaled wsX3_countScaled 0 0 0 0 D dA [.ref q] h sz Post := by
  refine x_open (cc := cX3_countScaled) (maxL := 3) (ret := (some .int)) (by decide) rfl (Nat.le_of_ble_eq_true rfl) ?_
  intro p e s m args below meth c G _
  have inX3 : ∀ w ∈ wsX30, w ∈ wsX3_countScaled := inX3_countScaled_3
  refine x_iconstV (v := nI 0) G dX3_countScaled_0 (by decide) ?_
  refine x_istore_n G dX3_countScaled_1 (by decide) ?_
  refine x_iconstV (v := nI 0) G dX3_countScaled_2 (by decide) ?_
  refine x_istore_n G dX3_countScaled_3 (by decide) ?_
  refine x_loop (σ := Unit) (fun j _ => [(0, .ref q), (1, .int (nI (r_ct (fun i => decide (¬ ab i = be i)) j))), (2, .int (nI j))]) 4 (fun j _ h1 sz1 => h = h1 ∧ sz = sz1) ?_ ?_ 0 () h sz (Nat.zero_le _) ⟨rfl, rfl⟩
  · intro j _ h1 sz1 hj hI nx
    try dsimp only at hI nx ⊢
    obtain ⟨rfl, rfl⟩ := hI
    refine x_iload_n G dX3_countScaled_4 rfl ?_
    refine x_iconstV (v := nI 4) G dX3_countScaled_5 (by decide) ?_
    refine x_icmp_ge G 33 dX3_countScaled_6 (by decide) (fun c_6 => ?_) (fun c_6 => ?_)
    · exact absurd c_6 (nI_ge hj (by omega))
    · refine x_aload_n G dX3_countScaled_9 rfl ?_
      refine x_get G kX3 inX3 1 (by decide) (by decide +kernel) dX3_countScaled_10 (st_o S) rfl ?_
      refine x_iload_n G dX3_countScaled_13 rfl ?_
      refine x_ialdN G dX3_countScaled_14 (st_a S) (by omega) (by decide) ?_
      refine x_aload_n G dX3_countScaled_15 rfl ?_
      refine x_get G kX3 inX3 2 (by decide) (by decide +kernel) dX3_countScaled_16 (st_o S) rfl ?_
      refine x_iload_n G dX3_countScaled_19 rfl ?_
      refine x_ialdN G dX3_countScaled_20 (st_b S) (by omega) (by decide) ?_
      refine x_icmp_eq G 27 dX3_countScaled_21 (by decide) (fun c_21 => ?_) (fun c_21 => ?_)
      · have e : r_ct (fun i => decide (¬ ab i = be i)) (j + 1) = r_ct (fun i => decide (¬ ab i = be i)) j := by
          show _ + (if decide _ = true then 1 else 0) = _
          rw [if_neg (by rw [decide_eq_true_eq]; exact fun z => z c_21), Nat.add_zero]
        refine x_iinc G dX3_countScaled_27 rfl (by decide) ?_
        refine x_goto G 4 dX3_countScaled_30 (by decide) ?_
        refine x_locE (lv2 := [(0, .ref q), (1, .int (nI (r_ct (fun i => decide (¬ ab i = be i)) (j + 1)))), (2, .int (nI (j + 1)))]) (by rw [nI_succ j, e]; rfl) ?_
        exact nx () _ _ ⟨rfl, rfl⟩
      · have e : r_ct (fun i => decide (¬ ab i = be i)) (j + 1) = r_ct (fun i => decide (¬ ab i = be i)) j + 1 := by
          show _ + (if decide _ = true then 1 else 0) = _
          rw [if_pos (by rw [decide_eq_true_eq]; exact c_21)]
        refine x_iinc G dX3_countScaled_24 rfl (by decide) ?_
        refine x_iinc G dX3_countScaled_27 rfl (by decide) ?_
        refine x_goto G 4 dX3_countScaled_30 (by decide) ?_
        refine x_locE (lv2 := [(0, .ref q), (1, .int (nI (r_ct (fun i => decide (¬ ab i = be i)) (j + 1)))), (2, .int (nI (j + 1)))]) (by rw [nI_succ j, e, nI_succ (r_ct (fun i => decide (¬ ab i = be i)) j)]; rfl) ?_
        exact nx () _ _ ⟨rfl, rfl⟩
  · intro _ h1 sz1 hI
    try dsimp only at hI ⊢
    obtain ⟨rfl, rfl⟩ := hI
    refine x_iload_n G dX3_countScaled_4 rfl ?_
    refine x_iconstV (v := nI 4) G dX3_countScaled_5 (by decide) ?_
    refine x_icmp_ge G 33 dX3_countScaled_6 (by decide) (fun c_6 => ?_) (fun c_6 => ?_)
    · refine x_iload_n G dX3_countScaled_33 rfl ?_
      exact x_iret G dX3_countScaled_34 hpost
    · exact absurd (nI_le (Nat.le_refl _) (by omega)) c_6
theorem inX3_draw_3 : ∀ w ∈ wsX30, w ∈ wsX3_draw := by decide +kernel
def dc_s (w : Int32) : Int32 := ((w.toInt64 * 1103515245 + 12345) &&& 2147483647).toInt32
def dc_v (w n : Int32) : Int32 := dc_s w / 65536 - dc_s w / 65536 / n * n
set_option maxRecDepth 100000 in
set_option maxHeartbeats 4000000 in
/-- draw -/
theorem c_X3_draw (l : Launch) (D : va_G) {dA : Nat → ClassId} {q : Nat} {sy : Nat → Nat → Int32} {ab be : Nat → Int32} {ct dw kp : Int32} {n : Int32} {h : xH} {sz : Nat} {Post : Option Value → xH → Nat → Prop} (hn : ¬ n ≤ 0) (hn0 : ¬ n = 0) (S : St dA h q sy ab be ct dw kp) (hpost : ∀ (h1 : xH) (sz1 : Nat), St dA h1 q sy ab be ct (dc_s dw) kp → xF q (q + 10) h h1 → Post (some (.int (dc_v dw n))) h1 sz1) : xMet l yX3_draw wsX3_draw 0 0 0 0 D dA [.ref q, .int n] h sz Post := by
  refine x_open (cc := cX3_draw) (maxL := 2) (ret := (some .int)) (by decide) rfl (Nat.le_of_ble_eq_true rfl) ?_
  intro p e s m args below meth c G _
  have inX3 : ∀ w ∈ wsX30, w ∈ wsX3_draw := inX3_draw_3
  refine x_aload_n G dX3_draw_0 rfl ?_
  refine x_aload_n G dX3_draw_1 rfl ?_
  refine x_get G kX3 inX3 4 (by decide) (by decide +kernel) dX3_draw_2 (st_o S) rfl ?_
  refine x_i2l G dX3_draw_5 ?_
  refine x_ldc2_w G (1103515245) (by decide +kernel) dX3_draw_6 ?_
  refine x_lmul G dX3_draw_9 ?_
  refine x_ldc2_w G (12345) (by decide +kernel) dX3_draw_10 ?_
  refine x_ladd G dX3_draw_13 ?_
  refine x_ldc2_w G (2147483647) (by decide +kernel) dX3_draw_14 ?_
  refine x_land G dX3_draw_17 ?_
  refine x_l2i G dX3_draw_18 ?_
  refine x_put G kX3 inX3 4 (by decide) (by decide +kernel) rfl dX3_draw_19 (st_o S) rfl rfl (Nat.le_of_ble_eq_true rfl) ?_
  have S := st_os S ct (dc_s dw) kp
  have F : xF q (q + 10) h _ := xF_up (a := q) (e := .inr (3, [.ref (q + 1), .ref (q + 8), .ref (q + 9), .int ct, .int (dc_s dw), .int kp])) xF_rf (by omega) (by omega)
  refine x_iload_n G dX3_draw_22 rfl ?_
  refine x_if_le G 38 dX3_draw_23 (by decide) (fun c_23 => ?_) (fun c_23 => ?_)
  · exact absurd c_23 hn
  · refine x_aload_n G dX3_draw_26 rfl ?_
    refine x_get G kX3 inX3 4 (by decide) (by decide +kernel) dX3_draw_27 (st_o S) rfl ?_
    refine x_ldc G (65536) (by decide +kernel) dX3_draw_30 ?_
    refine x_idiv G dX3_draw_32 (by decide) ?_
    refine x_iload_n G dX3_draw_33 rfl ?_
    refine x_irem G dX3_draw_34 hn0 ?_
    refine x_goto G 39 dX3_draw_35 (by decide) ?_
    exact x_iret G dX3_draw_39 (hpost _ _ S F)
