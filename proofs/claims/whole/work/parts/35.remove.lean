/-! ## The class: remove of a State -/
def rm_s (sy : Nat → Nat → Int32) (k j : Nat) : Nat → Nat → Int32 := fun i => if k ≤ i ∧ i < j then va_cpy (sy (i + 1)) (sy i) 0 0 10 else sy i
theorem rm_0 {sy : Nat → Nat → Int32} {k : Nat} : rm_s sy k k = sy := by
  funext i
  unfold rm_s
  rw [if_neg (by omega)]
theorem rm_ss {sy : Nat → Nat → Int32} {k j : Nat} (h : k ≤ j) : (fun i => if i = j then va_cpy (rm_s sy k j (j + 1)) (rm_s sy k j j) 0 0 10 else rm_s sy k j i) = rm_s sy k (j + 1) := by
  have e0 : rm_s sy k j j = sy j := if_neg (by omega)
  have e1 : rm_s sy k j (j + 1) = sy (j + 1) := if_neg (by omega)
  rw [e0, e1]
  funext i
  unfold rm_s
  by_cases e : i = j
  · subst e
    rw [if_pos rfl, if_pos (by omega)]
  · rw [if_neg e]
    by_cases e2 : k ≤ i ∧ i < j
    · rw [if_pos e2, if_pos (by omega)]
    · rw [if_neg e2, if_neg (by omega)]
theorem inX3_remove_3 : ∀ w ∈ wsX30, w ∈ wsX3_remove := by decide +kernel
set_option maxRecDepth 100000 in
set_option maxHeartbeats 4000000 in
/-- remove -/
theorem c_X3_remove (l : Launch) (D : va_G) {dA : Nat → ClassId} {q k n : Nat} {sy : Nat → Nat → Int32} {ab be : Nat → Int32} {dw kp : Int32} {h : xH} {sz : Nat} {Post : Option Value → xH → Nat → Prop} (hk : k < n) (hn6 : n ≤ 6) (S : St dA h q sy ab be (nI n) dw kp) (hpost : ∀ (h1 : xH) (sz1 : Nat), St dA h1 q (rm_s sy k (n - 1)) ab be (nI (n - 1)) dw kp → xF q (q + 10) h h1 → Post none h1 sz1) : xMet l yX3_remove wsX3_remove 1 40 0 0 D dA [.ref q, .int (nI k)] h sz Post := by
  refine x_open (cc := cX3_remove) (maxL := 3) (ret := none) (by decide) rfl (Nat.le_of_ble_eq_true rfl) ?_
  intro p e s m args below meth c G _
  have inX3 : ∀ w ∈ wsX30, w ∈ wsX3_remove := inX3_remove_3
  have F := xF_rf (lo := q) (hi := q + 10) (h := h)
  refine x_iload_n G dX3_remove_0 rfl ?_
  refine x_istore_n G dX3_remove_1 (by decide) ?_
  refine x_loop (σ := Unit) (fun j _ => [(0, .ref q), (1, .int (nI k)), (2, .int (nI j))]) (n - 1) (fun j _ h1 sz1 => k ≤ j ∧ St dA h1 q (rm_s sy k j) ab be (nI n) dw kp ∧ xF q (q + 10) h h1) ?_ ?_ k () _ _ (by omega) ⟨Nat.le_refl _, by rw [rm_0]; exact S, F⟩
  · intro j _ h1 sz1 hj hI nx
    try dsimp only at hI nx ⊢
    obtain ⟨hkj, S, F⟩ := hI
    refine x_iload_n G dX3_remove_2 rfl ?_
    refine x_aload_n G dX3_remove_3 rfl ?_
    refine x_get G kX3 inX3 3 (by decide) (by decide +kernel) dX3_remove_4 (st_o S) rfl ?_
    refine x_iconstV (v := nI 1) G dX3_remove_7 (by decide) ?_
    refine x_isub G dX3_remove_8 ?_
    refine x_topE (y := nI (n - 1)) (pk_sub (by omega)) ?_
    refine x_icmp_ge G 39 dX3_remove_9 (by decide) (fun c_9 => ?_) (fun c_9 => ?_)
    · exact absurd c_9 (nI_ge hj (by omega))
    · refine x_aload_n G dX3_remove_12 rfl ?_
      refine x_get G kX3 inX3 0 (by decide) (by decide +kernel) dX3_remove_13 (st_o S) rfl ?_
      refine x_iload_n G dX3_remove_16 rfl ?_
      refine x_iconstV (v := nI 1) G dX3_remove_17 (by decide) ?_
      refine x_iadd G dX3_remove_18 ?_
      refine x_topE (y := nI (j + 1)) (nI_1 j) ?_
      refine x_aald (t := 4) G rfl rfl dX3_remove_19 (st_y S) (vp_in_nI (show j + 1 < 6 by omega) (by decide)) (show (if (nI (j + 1)).toNatClampNeg < 6 then some (q + 2 + (nI (j + 1)).toNatClampNeg) else none) = some (q + 2 + (j + 1)) by rw [nI_clamp (by omega), if_pos (by omega)]) ?_
      refine x_iconstV (v := nI 0) G dX3_remove_20 (by decide) ?_
      refine x_aload_n G dX3_remove_21 rfl ?_
      refine x_get G kX3 inX3 0 (by decide) (by decide +kernel) dX3_remove_22 (st_o S) rfl ?_
      refine x_iload_n G dX3_remove_25 rfl ?_
      refine x_aald (t := 4) G rfl rfl dX3_remove_26 (st_y S) (vp_in_nI (show j < 6 by omega) (by decide)) (show (if (nI (j)).toNatClampNeg < 6 then some (q + 2 + (nI (j)).toNatClampNeg) else none) = some (q + 2 + (j)) by rw [nI_clamp (by omega), if_pos (by omega)]) ?_
      refine x_iconstV (v := nI 0) G dX3_remove_27 (by decide) ?_
      refine x_bipushV (v := nI 10) G dX3_remove_28 (by decide) ?_
      refine x_copyi G (by decide +kernel) (by decide +kernel) (by decide +kernel) (by decide +kernel) dX3_remove_30 (st_r S (show j + 1 < 6 by omega)) (st_r S (show j < 6 by omega)) (by decide) (by decide) (by decide) (by decide) (by decide) (by decide) (by decide) ?_
      intro sz1
      rw [show (nI 0).toNatClampNeg = 0 from rfl, show (nI 10).toNatClampNeg = 10 from rfl]
      have S := st_rs S (show j < 6 by omega) (va_cpy (rm_s sy k j (j + 1)) (rm_s sy k j j) 0 0 10)
      rw [rm_ss hkj] at S
      have F := xF_up (a := q + 2 + j) (e := .inl (dA 0, 10, .inl (va_cpy (rm_s sy k j (j + 1)) (rm_s sy k j j) 0 0 10))) F (by omega) (by omega)
      refine x_iinc G dX3_remove_33 rfl (by decide) ?_
      refine x_locE (lv2 := [(0, .ref q), (1, .int (nI k)), (2, .int (nI (j + 1)))]) (by rw [nI_succ j]; rfl) ?_
      refine x_goto G 2 dX3_remove_36 (by decide) ?_
      exact nx () _ _ ⟨by omega, S, F⟩
  · intro _ h1 sz1 hI
    try dsimp only at hI ⊢
    obtain ⟨hkj, S, F⟩ := hI
    refine x_iload_n G dX3_remove_2 rfl ?_
    refine x_aload_n G dX3_remove_3 rfl ?_
    refine x_get G kX3 inX3 3 (by decide) (by decide +kernel) dX3_remove_4 (st_o S) rfl ?_
    refine x_iconstV (v := nI 1) G dX3_remove_7 (by decide) ?_
    refine x_isub G dX3_remove_8 ?_
    refine x_topE (y := nI (n - 1)) (pk_sub (by omega)) ?_
    refine x_icmp_ge G 39 dX3_remove_9 (by decide) (fun c_9 => ?_) (fun c_9 => ?_)
    · refine x_aload_n G dX3_remove_39 rfl ?_
      refine x_dup G dX3_remove_40 rfl ?_
      refine x_get G kX3 inX3 3 (by decide) (by decide +kernel) dX3_remove_41 (st_o S) rfl ?_
      refine x_iconstV (v := nI 1) G dX3_remove_44 (by decide) ?_
      refine x_isub G dX3_remove_45 ?_
      refine x_topE (y := nI (n - 1)) (pk_sub (by omega)) ?_
      refine x_put G kX3 inX3 3 (by decide) (by decide +kernel) rfl dX3_remove_46 (st_o S) rfl rfl (Nat.le_of_ble_eq_true rfl) ?_
      have S := st_os S (nI (n - 1)) dw kp
      have F := xF_up (a := q) (e := .inr (3, [.ref (q + 1), .ref (q + 8), .ref (q + 9), .int (nI (n - 1)), .int dw, .int kp])) F (by omega) (by omega)
      exact x_vret G dX3_remove_49 (hpost _ _ S F)
    · exact absurd (nI_le (Nat.le_refl _) (by omega)) c_9
