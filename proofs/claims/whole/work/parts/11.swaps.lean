theorem inX5_swaps_5 : ∀ w ∈ wsX50, w ∈ wsX5_swaps := by decide +kernel
/-- two rows change places, of their first j numbers -/
def sw_row (r : Nat → Int64) (a d j : Nat) : Nat → Int64 := fun k => if 6 * a ≤ k ∧ k < 6 * a + j then r (6 * d + (k - 6 * a)) else if 6 * d ≤ k ∧ k < 6 * d + j then r (6 * a + (k - 6 * d)) else r k
theorem sw_row_0 (r : Nat → Int64) (a d : Nat) : sw_row r a d 0 = r := by
  funext k
  unfold sw_row
  rw [if_neg (by omega), if_neg (by omega)]
theorem sw_row_a {r : Nat → Int64} {a d j : Nat} (hj : j < 6) : sw_row r a d j (6 * a + j) = r (6 * a + j) := by
  unfold sw_row
  rw [if_neg (by omega), if_neg (by omega)]
theorem sw_row_d {r : Nat → Int64} {a d j : Nat} (hj : j < 6) : sw_row r a d j (6 * d + j) = r (6 * d + j) := by
  unfold sw_row
  rw [if_neg (by omega), if_neg (by omega)]
theorem sw_row_s {r : Nat → Int64} {a d j : Nat} (hj : j < 6) : vp_updL (vp_updL (sw_row r a d j) (6 * a + j) (sw_row r a d j (6 * d + j))) (6 * d + j) (sw_row r a d j (6 * a + j)) = sw_row r a d (j + 1) := by
  rw [sw_row_a hj, sw_row_d hj]
  funext k
  unfold vp_updL sw_row
  by_cases e : k = 6 * d + j
  · subst e
    rw [if_pos rfl]
    by_cases e2 : 6 * a ≤ 6 * d + j ∧ 6 * d + j < 6 * a + (j + 1)
    · have e3 : a = d := by omega
      subst e3
      rw [if_pos e2, show 6 * a + (6 * a + j - 6 * a) = 6 * a + j by omega]
    · rw [if_neg e2, if_pos (by omega), show 6 * a + (6 * d + j - 6 * d) = 6 * a + j by omega]
  · rw [if_neg e]
    by_cases e2 : k = 6 * a + j
    · subst e2
      rw [if_pos rfl, if_pos (by omega), show 6 * d + (6 * a + j - 6 * a) = 6 * d + j by omega]
    · rw [if_neg e2]
      by_cases e3 : 6 * a ≤ k ∧ k < 6 * a + j
      · rw [if_pos e3, if_pos (by omega)]
      · rw [if_neg e3]
        by_cases e4 : 6 * d ≤ k ∧ k < 6 * d + j
        · rw [if_pos e4, if_neg (by omega), if_pos (by omega)]
        · rw [if_neg e4, if_neg (by omega), if_neg (by omega)]
set_option maxRecDepth 100000 in
set_option maxHeartbeats 4000000 in
/-- swaps: two rows and their numbers change places -/
theorem c_swaps (l : Launch) (D : va_G) {dA : Nat → ClassId} {b : Nat} {tx : Nat → Int32} {ln : Int32} {fa : Int32} {st : Nat → Int32} {de : Nat → Int32} {dm : Int32} {sd : Int64} {im : Nat → Int32} {se : Nat → Int64} {kp : Nat → Int32} {pl : Int32} {wr : Int32} {dp : Int32} {su : Nat → Int32} {wa : Nat → Int32} {fc : Nat → Int32} {po : Nat → Int32} {ro : Nat → Int64} {fr : Int32} {ch : Nat → Int64} {ov : Nat → Int64} {i o : Nat} {h : xH} {sz : Nat} {Post : Option Value → xH → Nat → Prop} (hi : i < 6) (ho : o < 6) (M : Md dA h b tx ln fa st de dm sd im se kp pl wr dp su wa fc po ro fr ch ov) (hpost : ∀ (h1 : xH) (sz1 : Nat), Md dA h1 b tx ln fa st de dm sd im se kp pl wr dp su wa fc po (sw_row ro i o 6) fr ch (vp_updL (vp_updL ov i (ov o)) o (ov i)) → xF b (b + 14) h h1 → Post none h1 sz1) : xMet l yX5_swaps wsX5_swaps 0 0 0 0 D dA [.ref b, .int (nI i), .int (nI o)] h sz Post := by
  refine x_open (cc := cX5_swaps) (maxL := 6) (ret := none) (by decide) rfl (Nat.le_of_ble_eq_true rfl) ?_
  intro p e s m args below meth c G _
  have inX5 : ∀ w ∈ wsX50, w ∈ wsX5_swaps := inX5_swaps_5
  refine x_iconstV (v := nI 0) G dX5_swaps_0 (by decide) ?_
  refine x_istore_n G dX5_swaps_1 (by decide) ?_
  refine x_loop (σ := Unit) (fun j _ => [(0, .ref b), (1, .int (nI i)), (2, .int (nI o)), (3, .int (nI j))]) 6 (fun j _ h1 sz1 => Md dA h1 b tx ln fa st de dm sd im se kp pl wr dp su wa fc po (sw_row ro i o j) fr ch ov ∧ xF b (b + 14) h h1) ?_ ?_ 0 () h sz (Nat.zero_le _) ⟨by rw [sw_row_0]; exact M, xF_rf⟩
  · intro j _ h1 sz1 hj hI nx
    try dsimp only at hI nx ⊢
    obtain ⟨M, F⟩ := hI
    refine x_iload_n G dX5_swaps_2 rfl ?_
    refine x_bipushV (v := nI 6) G dX5_swaps_3 (by decide) ?_
    refine x_icmp_ge G 62 dX5_swaps_5 (by decide) (fun c_5 => ?_) (fun c_5 => ?_)
    · exact absurd c_5 (nI_ge hj (by omega))
    · refine x_aload_n G dX5_swaps_8 rfl ?_
      refine x_get G kX5 inX5 17 (by decide) (by decide +kernel) dX5_swaps_9 (md_o M) rfl ?_
      refine x_bipushV (v := nI 6) G dX5_swaps_12 (by decide) ?_
      refine x_iload_n G dX5_swaps_14 rfl ?_
      refine x_imul G dX5_swaps_15 ?_
      refine x_iload_n G dX5_swaps_16 rfl ?_
      refine x_iadd G dX5_swaps_17 ?_
      refine x_topE (y := nI (6 * i + j)) (by rw [pk_mul, nI_add]) ?_
      refine x_laldN G dX5_swaps_18 (md_ro M) (by omega) (by decide) ?_
      refine x_lstore G dX5_swaps_19 (by decide) ?_
      refine x_aload_n G dX5_swaps_21 rfl ?_
      refine x_get G kX5 inX5 17 (by decide) (by decide +kernel) dX5_swaps_22 (md_o M) rfl ?_
      refine x_bipushV (v := nI 6) G dX5_swaps_25 (by decide) ?_
      refine x_iload_n G dX5_swaps_27 rfl ?_
      refine x_imul G dX5_swaps_28 ?_
      refine x_iload_n G dX5_swaps_29 rfl ?_
      refine x_iadd G dX5_swaps_30 ?_
      refine x_topE (y := nI (6 * i + j)) (by rw [pk_mul, nI_add]) ?_
      refine x_aload_n G dX5_swaps_31 rfl ?_
      refine x_get G kX5 inX5 17 (by decide) (by decide +kernel) dX5_swaps_32 (md_o M) rfl ?_
      refine x_bipushV (v := nI 6) G dX5_swaps_35 (by decide) ?_
      refine x_iload_n G dX5_swaps_37 rfl ?_
      refine x_imul G dX5_swaps_38 ?_
      refine x_iload_n G dX5_swaps_39 rfl ?_
      refine x_iadd G dX5_swaps_40 ?_
      refine x_topE (y := nI (6 * o + j)) (by rw [pk_mul, nI_add]) ?_
      refine x_laldN G dX5_swaps_41 (md_ro M) (by omega) (by decide) ?_
      refine x_lastN G dX5_swaps_42 (md_ro M) (by omega) (by decide) ?_
      have M := md_ro_s M (vp_updL (sw_row ro i o j) (6 * i + j) (sw_row ro i o j (6 * o + j)))
      have F := xF_up (a := b + 11) (e := .inl (dA 1, 36, .inr (.inl (vp_updL (sw_row ro i o j) (6 * i + j) (sw_row ro i o j (6 * o + j)))))) F (by omega) (by omega)
      refine x_aload_n G dX5_swaps_43 rfl ?_
      refine x_get G kX5 inX5 17 (by decide) (by decide +kernel) dX5_swaps_44 (md_o M) rfl ?_
      refine x_bipushV (v := nI 6) G dX5_swaps_47 (by decide) ?_
      refine x_iload_n G dX5_swaps_49 rfl ?_
      refine x_imul G dX5_swaps_50 ?_
      refine x_iload_n G dX5_swaps_51 rfl ?_
      refine x_iadd G dX5_swaps_52 ?_
      refine x_topE (y := nI (6 * o + j)) (by rw [pk_mul, nI_add]) ?_
      refine x_lload G dX5_swaps_53 rfl ?_
      refine x_lastN G dX5_swaps_55 (md_ro M) (by omega) (by decide) ?_
      rw [sw_row_s hj]
      have M := md_ro_s M (sw_row ro i o (j + 1))
      have F := xF_up (a := b + 11) (e := .inl (dA 1, 36, .inr (.inl (sw_row ro i o (j + 1))))) F (by omega) (by omega)
      refine x_iinc G dX5_swaps_56 rfl (by decide) ?_
      refine x_keep [0, 1, 2, 3] ?_
      refine x_locE (lv2 := [(0, .ref b), (1, .int (nI i)), (2, .int (nI o)), (3, .int (nI (j + 1)))]) (by rw [nI_succ j]; rfl) ?_
      refine x_goto G 2 dX5_swaps_59 (by decide) ?_
      exact nx () _ _ ⟨M, F⟩
  · intro _ h1 sz1 hI
    try dsimp only at hI ⊢
    obtain ⟨M, F⟩ := hI
    refine x_iload_n G dX5_swaps_2 rfl ?_
    refine x_bipushV (v := nI 6) G dX5_swaps_3 (by decide) ?_
    refine x_icmp_ge G 62 dX5_swaps_5 (by decide) (fun c_5 => ?_) (fun c_5 => ?_)
    · refine x_aload_n G dX5_swaps_62 rfl ?_
      refine x_get G kX5 inX5 20 (by decide) (by decide +kernel) dX5_swaps_63 (md_o M) rfl ?_
      refine x_iload_n G dX5_swaps_66 rfl ?_
      refine x_laldN G dX5_swaps_67 (md_ov M) hi (by decide) ?_
      refine x_lstore_n G dX5_swaps_68 (by decide) ?_
      refine x_aload_n G dX5_swaps_69 rfl ?_
      refine x_get G kX5 inX5 20 (by decide) (by decide +kernel) dX5_swaps_70 (md_o M) rfl ?_
      refine x_iload_n G dX5_swaps_73 rfl ?_
      refine x_aload_n G dX5_swaps_74 rfl ?_
      refine x_get G kX5 inX5 20 (by decide) (by decide +kernel) dX5_swaps_75 (md_o M) rfl ?_
      refine x_iload_n G dX5_swaps_78 rfl ?_
      refine x_laldN G dX5_swaps_79 (md_ov M) ho (by decide) ?_
      refine x_lastN G dX5_swaps_80 (md_ov M) hi (by decide) ?_
      have M := md_ov_s M (vp_updL ov i (ov o))
      have F := xF_up (a := b + 13) (e := .inl (dA 1, 6, .inr (.inl (vp_updL ov i (ov o))))) F (by omega) (by omega)
      refine x_aload_n G dX5_swaps_81 rfl ?_
      refine x_get G kX5 inX5 20 (by decide) (by decide +kernel) dX5_swaps_82 (md_o M) rfl ?_
      refine x_iload_n G dX5_swaps_85 rfl ?_
      refine x_lload_n G dX5_swaps_86 rfl ?_
      refine x_lastN G dX5_swaps_87 (md_ov M) ho (by decide) ?_
      have M := md_ov_s M (vp_updL (vp_updL ov i (ov o)) o (ov i))
      have F := xF_up (a := b + 13) (e := .inl (dA 1, 6, .inr (.inl (vp_updL (vp_updL ov i (ov o)) o (ov i))))) F (by omega) (by omega)
      exact x_vret G dX5_swaps_88 (hpost _ _ M F)
    · exact absurd (nI_le (Nat.le_refl _) (by omega)) c_5
