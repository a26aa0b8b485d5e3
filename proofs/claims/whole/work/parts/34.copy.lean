/-! ## The class: copyDeeds of a State -/
def cp_s (sy2 sy : Nat → Nat → Int32) (j : Nat) : Nat → Nat → Int32 := fun i => if i < j then va_cpy (sy2 i) (sy i) 0 0 10 else sy i
theorem cp_0 {sy2 sy : Nat → Nat → Int32} : cp_s sy2 sy 0 = sy := by
  funext i
  unfold cp_s
  rw [if_neg (by omega)]
theorem cp_ss {sy2 sy : Nat → Nat → Int32} {j : Nat} : (fun i => if i = j then va_cpy (sy2 j) (cp_s sy2 sy j j) 0 0 10 else cp_s sy2 sy j i) = cp_s sy2 sy (j + 1) := by
  have e0 : cp_s sy2 sy j j = sy j := if_neg (by omega)
  rw [e0]
  funext i
  unfold cp_s
  by_cases e : i = j
  · subst e
    rw [if_pos rfl, if_pos (by omega)]
  · rw [if_neg e]
    by_cases e2 : i < j
    · rw [if_pos e2, if_pos (by omega)]
    · rw [if_neg e2, if_neg (by omega)]
theorem inX3_copyDeeds_3 : ∀ w ∈ wsX30, w ∈ wsX3_copyDeeds := by decide +kernel
set_option maxRecDepth 100000 in
set_option maxHeartbeats 4000000 in
/-- copyDeeds -/
theorem c_X3_copyDeeds (l : Launch) (D : va_G) {dA : Nat → ClassId} {q : Nat} {sy : Nat → Nat → Int32} {ab be : Nat → Int32} {ct dw kp : Int32} {q2 : Nat} {sy2 : Nat → Nat → Int32} {ab2 be2 : Nat → Int32} {ct2 dw2 kp2 : Int32} {h : xH} {sz : Nat} {Post : Option Value → xH → Nat → Prop} (hd : q2 + 10 ≤ q ∨ q + 10 ≤ q2) (S : St dA h q sy ab be ct dw kp) (S2 : St dA h q2 sy2 ab2 be2 ct2 dw2 kp2) (hpost : ∀ (h1 : xH) (sz1 : Nat), St dA h1 q (cp_s sy2 sy 6) (va_cpy ab2 ab 0 0 4) (va_cpy be2 be 0 0 4) ct2 dw kp → xF q (q + 10) h h1 → Post none h1 sz1) : xMet l yX3_copyDeeds wsX3_copyDeeds 1 40 0 0 D dA [.ref q, .ref q2] h sz Post := by
  refine x_open (cc := cX3_copyDeeds) (maxL := 3) (ret := none) (by decide) rfl (Nat.le_of_ble_eq_true rfl) ?_
  intro p e s m args below meth c G _
  have inX3 : ∀ w ∈ wsX30, w ∈ wsX3_copyDeeds := inX3_copyDeeds_3
  refine x_aload_n G dX3_copyDeeds_0 rfl ?_
  refine x_aload_n G dX3_copyDeeds_1 rfl ?_
  refine x_get G kX3 inX3 3 (by decide) (by decide +kernel) dX3_copyDeeds_2 (st_o S2) rfl ?_
  refine x_put G kX3 inX3 3 (by decide) (by decide +kernel) rfl dX3_copyDeeds_5 (st_o S) rfl rfl (Nat.le_of_ble_eq_true rfl) ?_
  have S := st_os S ct2 dw kp
  have F : xF q (q + 10) h _ := xF_up (a := q) (e := .inr (3, [.ref (q + 1), .ref (q + 8), .ref (q + 9), .int ct2, .int dw, .int kp])) xF_rf (by omega) (by omega)
  have S20 := S2
  replace S2 := st_fo S20 F hd
  refine x_iconstV (v := nI 0) G dX3_copyDeeds_8 (by decide) ?_
  refine x_istore_n G dX3_copyDeeds_9 (by decide) ?_
  refine x_loop (σ := Unit) (fun j _ => [(0, .ref q), (1, .ref q2), (2, .int (nI j))]) 6 (fun j _ h1 sz1 => St dA h1 q (cp_s sy2 sy j) ab be ct2 dw kp ∧ St dA h1 q2 sy2 ab2 be2 ct2 dw2 kp2 ∧ xF q (q + 10) h h1) ?_ ?_ 0 () _ _ (Nat.zero_le _) ⟨by rw [cp_0]; exact S, S2, F⟩
  · intro j _ h1 sz1 hj hI nx
    try dsimp only at hI nx ⊢
    obtain ⟨S, S2, F⟩ := hI
    refine x_iload_n G dX3_copyDeeds_10 rfl ?_
    refine x_bipushV (v := nI 6) G dX3_copyDeeds_11 (by decide) ?_
    refine x_icmp_ge G 41 dX3_copyDeeds_13 (by decide) (fun c_13 => ?_) (fun c_13 => ?_)
    · exact absurd c_13 (nI_ge hj (by omega))
    · refine x_aload_n G dX3_copyDeeds_16 rfl ?_
      refine x_get G kX3 inX3 0 (by decide) (by decide +kernel) dX3_copyDeeds_17 (st_o S2) rfl ?_
      refine x_iload_n G dX3_copyDeeds_20 rfl ?_
      refine x_aald (t := 4) G rfl rfl dX3_copyDeeds_21 (st_y S2) (vp_in_nI hj (by decide)) (show (if (nI j).toNatClampNeg < 6 then some (q2 + 2 + (nI j).toNatClampNeg) else none) = some (q2 + 2 + j) by rw [nI_clamp (by omega), if_pos hj]) ?_
      refine x_iconstV (v := nI 0) G dX3_copyDeeds_22 (by decide) ?_
      refine x_aload_n G dX3_copyDeeds_23 rfl ?_
      refine x_get G kX3 inX3 0 (by decide) (by decide +kernel) dX3_copyDeeds_24 (st_o S) rfl ?_
      refine x_iload_n G dX3_copyDeeds_27 rfl ?_
      refine x_aald (t := 4) G rfl rfl dX3_copyDeeds_28 (st_y S) (vp_in_nI hj (by decide)) (show (if (nI j).toNatClampNeg < 6 then some (q + 2 + (nI j).toNatClampNeg) else none) = some (q + 2 + j) by rw [nI_clamp (by omega), if_pos hj]) ?_
      refine x_iconstV (v := nI 0) G dX3_copyDeeds_29 (by decide) ?_
      refine x_bipushV (v := nI 10) G dX3_copyDeeds_30 (by decide) ?_
      refine x_copyi G (by decide +kernel) (by decide +kernel) (by decide +kernel) (by decide +kernel) dX3_copyDeeds_32 (st_r S2 hj) (st_r S hj) (by decide) (by decide) (by decide) (by decide) (by decide) (by decide) (by decide) ?_
      intro sz1
      rw [show (nI 0).toNatClampNeg = 0 from rfl, show (nI 10).toNatClampNeg = 10 from rfl]
      have S := st_rs S hj (va_cpy (sy2 j) (cp_s sy2 sy j j) 0 0 10)
      rw [cp_ss] at S
      have F := xF_up (a := q + 2 + j) (e := .inl (dA 0, 10, .inl (va_cpy (sy2 j) (cp_s sy2 sy j j) 0 0 10))) F (by omega) (by omega)
      replace S2 := st_fo S20 F hd
      refine x_iinc G dX3_copyDeeds_35 rfl (by decide) ?_
      refine x_locE (lv2 := [(0, .ref q), (1, .ref q2), (2, .int (nI (j + 1)))]) (by rw [nI_succ j]; rfl) ?_
      refine x_goto G 10 dX3_copyDeeds_38 (by decide) ?_
      exact nx () _ _ ⟨S, S2, F⟩
  · intro _ h1 sz1 hI
    try dsimp only at hI ⊢
    obtain ⟨S, S2, F⟩ := hI
    refine x_iload_n G dX3_copyDeeds_10 rfl ?_
    refine x_bipushV (v := nI 6) G dX3_copyDeeds_11 (by decide) ?_
    refine x_icmp_ge G 41 dX3_copyDeeds_13 (by decide) (fun c_13 => ?_) (fun c_13 => ?_)
    · refine x_aload_n G dX3_copyDeeds_41 rfl ?_
      refine x_get G kX3 inX3 1 (by decide) (by decide +kernel) dX3_copyDeeds_42 (st_o S2) rfl ?_
      refine x_iconstV (v := nI 0) G dX3_copyDeeds_45 (by decide) ?_
      refine x_aload_n G dX3_copyDeeds_46 rfl ?_
      refine x_get G kX3 inX3 1 (by decide) (by decide +kernel) dX3_copyDeeds_47 (st_o S) rfl ?_
      refine x_iconstV (v := nI 0) G dX3_copyDeeds_50 (by decide) ?_
      refine x_iconstV (v := nI 4) G dX3_copyDeeds_51 (by decide) ?_
      refine x_copyi G (by decide +kernel) (by decide +kernel) (by decide +kernel) (by decide +kernel) dX3_copyDeeds_52 (st_a S2) (st_a S) (by decide) (by decide) (by decide) (by decide) (by decide) (by decide) (by decide) ?_
      intro sz1
      rw [show (nI 0).toNatClampNeg = 0 from rfl, show (nI 4).toNatClampNeg = 4 from rfl]
      have S := st_as S (va_cpy ab2 ab 0 0 4)
      have F := xF_up (a := q + 8) (e := .inl (dA 0, 4, .inl (va_cpy ab2 ab 0 0 4))) F (by omega) (by omega)
      replace S2 := st_fo S20 F hd
      refine x_aload_n G dX3_copyDeeds_55 rfl ?_
      refine x_get G kX3 inX3 2 (by decide) (by decide +kernel) dX3_copyDeeds_56 (st_o S2) rfl ?_
      refine x_iconstV (v := nI 0) G dX3_copyDeeds_59 (by decide) ?_
      refine x_aload_n G dX3_copyDeeds_60 rfl ?_
      refine x_get G kX3 inX3 2 (by decide) (by decide +kernel) dX3_copyDeeds_61 (st_o S) rfl ?_
      refine x_iconstV (v := nI 0) G dX3_copyDeeds_64 (by decide) ?_
      refine x_iconstV (v := nI 4) G dX3_copyDeeds_65 (by decide) ?_
      refine x_copyi G (by decide +kernel) (by decide +kernel) (by decide +kernel) (by decide +kernel) dX3_copyDeeds_66 (st_b S2) (st_b S) (by decide) (by decide) (by decide) (by decide) (by decide) (by decide) (by decide) ?_
      intro sz1
      rw [show (nI 0).toNatClampNeg = 0 from rfl, show (nI 4).toNatClampNeg = 4 from rfl]
      have S := st_bs S (va_cpy be2 be 0 0 4)
      have F := xF_up (a := q + 9) (e := .inl (dA 0, 4, .inl (va_cpy be2 be 0 0 4))) F (by omega) (by omega)
      replace S2 := st_fo S20 F hd
      exact x_vret G dX3_copyDeeds_69 (hpost _ _ S F)
    · exact absurd (nI_le (Nat.le_refl _) (by omega)) c_13
