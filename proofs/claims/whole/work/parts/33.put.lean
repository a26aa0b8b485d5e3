/-! ## The class: put of a State -/
theorem inX3_put_3 : ∀ w ∈ wsX30, w ∈ wsX3_put := by decide +kernel
set_option maxRecDepth 100000 in
set_option maxHeartbeats 4000000 in
/-- put -/
theorem c_X3_put (l : Launch) (D : va_G) {dA : Nat → ClassId} {q a k : Nat} {f : Nat → Int32} {sy : Nat → Nat → Int32} {ab be : Nat → Int32} {dw kp : Int32} {h : xH} {sz : Nat} {Post : Option Value → xH → Nat → Prop} (hk6 : k < 6) (ha : h a = some (.inl (dA 0, 10, .inl f))) (S : St dA h q sy ab be (nI k) dw kp) (hpost : ∀ (h1 : xH) (sz1 : Nat), St dA h1 q (fun i => if i = k then va_cpy f (sy k) 0 0 10 else sy i) ab be (nI (k + 1)) dw kp → xF q (q + 10) h h1 → Post none h1 sz1) : xMet l yX3_put wsX3_put 1 40 0 0 D dA [.ref q, .ref a] h sz Post := by
  refine x_open (cc := cX3_put) (maxL := 2) (ret := none) (by decide) rfl (Nat.le_of_ble_eq_true rfl) ?_
  intro p e s m args below meth c G _
  have inX3 : ∀ w ∈ wsX30, w ∈ wsX3_put := inX3_put_3
  refine x_aload_n G dX3_put_0 rfl ?_
  refine x_get G kX3 inX3 3 (by decide) (by decide +kernel) dX3_put_1 (st_o S) rfl ?_
  refine x_bipushV (v := nI 6) G dX3_put_4 (by decide) ?_
  refine x_icmp_ge G 36 dX3_put_6 (by decide) (fun c_6 => ?_) (fun c_6 => ?_)
  · exact absurd c_6 (nI_ge hk6 (by decide))
  · refine x_aload_n G dX3_put_9 rfl ?_
    refine x_iconstV (v := nI 0) G dX3_put_10 (by decide) ?_
    refine x_aload_n G dX3_put_11 rfl ?_
    refine x_get G kX3 inX3 0 (by decide) (by decide +kernel) dX3_put_12 (st_o S) rfl ?_
    refine x_aload_n G dX3_put_15 rfl ?_
    refine x_get G kX3 inX3 3 (by decide) (by decide +kernel) dX3_put_16 (st_o S) rfl ?_
    refine x_aald (t := 4) G rfl rfl dX3_put_19 (st_y S) (vp_in_nI hk6 (by decide)) (show (if (nI k).toNatClampNeg < 6 then some (q + 2 + (nI k).toNatClampNeg) else none) = some (q + 2 + k) by rw [nI_clamp (by omega), if_pos hk6]) ?_
    refine x_iconstV (v := nI 0) G dX3_put_20 (by decide) ?_
    refine x_bipushV (v := nI 10) G dX3_put_21 (by decide) ?_
    refine x_copyi G (by decide +kernel) (by decide +kernel) (by decide +kernel) (by decide +kernel) dX3_put_23 ha (st_r S hk6) (by decide) (by decide) (by decide) (by decide) (by decide) (by decide) (by decide) ?_
    intro sz1
    rw [show (nI 0).toNatClampNeg = 0 from rfl, show (nI 10).toNatClampNeg = 10 from rfl]
    have S := st_rs S hk6 (va_cpy f (sy k) 0 0 10)
    have F : xF q (q + 10) h _ := xF_up (a := q + 2 + k) (e := .inl (dA 0, 10, .inl (va_cpy f (sy k) 0 0 10))) xF_rf (by omega) (by omega)
    refine x_aload_n G dX3_put_26 rfl ?_
    refine x_dup G dX3_put_27 rfl ?_
    refine x_get G kX3 inX3 3 (by decide) (by decide +kernel) dX3_put_28 (st_o S) rfl ?_
    refine x_iconstV (v := nI 1) G dX3_put_31 (by decide) ?_
    refine x_iadd G dX3_put_32 ?_
    refine x_topE (y := nI (k + 1)) (nI_1 k) ?_
    refine x_put G kX3 inX3 3 (by decide) (by decide +kernel) rfl dX3_put_33 (st_o S) rfl rfl (Nat.le_of_ble_eq_true rfl) ?_
    have S := st_os S (nI (k + 1)) dw kp
    have F := xF_up (a := q) (e := .inr (3, [.ref (q + 1), .ref (q + 8), .ref (q + 9), .int (nI (k + 1)), .int dw, .int kp])) F (by omega) (by omega)
    exact x_vret G dX3_put_36 (hpost _ _ S F)
