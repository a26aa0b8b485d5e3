/-- a row less another one so often, of its first j numbers -/
def tk_row (r : Nat → Int64) (i o : Nat) (t : Int64) (j : Nat) : Nat → Int64 := fun k => if 6 * i ≤ k ∧ k < 6 * i + j then r k - t * r (6 * o + (k - 6 * i)) else r k
theorem tk_row_0 (r : Nat → Int64) (i o : Nat) (t : Int64) : tk_row r i o t 0 = r := by
  funext k
  unfold tk_row
  rw [if_neg (by omega)]
theorem tk_row_at {r : Nat → Int64} {i o : Nat} {t : Int64} {j : Nat} : tk_row r i o t j (6 * i + j) = r (6 * i + j) := by
  unfold tk_row
  rw [if_neg (by omega)]
theorem tk_row_o {r : Nat → Int64} {i o : Nat} {t : Int64} {j : Nat} (hj : j < 6) : tk_row r i o t j (6 * o + j) = r (6 * o + j) := by
  unfold tk_row
  rw [if_neg (by omega)]
theorem tk_row_s {r : Nat → Int64} {i o : Nat} {t : Int64} {j : Nat} (hj : j < 6) : vp_updL (tk_row r i o t j) (6 * i + j) (tk_row r i o t j (6 * i + j) - t * tk_row r i o t j (6 * o + j)) = tk_row r i o t (j + 1) := by
  rw [tk_row_at, tk_row_o hj]
  funext k
  unfold vp_updL
  by_cases e : k = 6 * i + j
  · subst e
    rw [if_pos rfl]
    unfold tk_row
    rw [if_pos (by omega), show 6 * o + (6 * i + j - 6 * i) = 6 * o + j by omega]
  · rw [if_neg e]
    unfold tk_row
    by_cases e2 : 6 * i ≤ k ∧ k < 6 * i + j
    · rw [if_pos e2, if_pos (by omega)]
    · rw [if_neg e2, if_neg (by omega)]

theorem inX5_takes_5 : ∀ w ∈ wsX50, w ∈ wsX5_takes := by decide +kernel
set_option maxRecDepth 100000 in
set_option maxHeartbeats 4000000 in
/-- takes: row i and its number less row o's, t times -/
theorem c_takes (l : Launch) (D : va_G) {dA : Nat → ClassId} {b : Nat} {tx : Nat → Int32} {ln : Int32} {fa : Int32} {st : Nat → Int32} {de : Nat → Int32} {dm : Int32} {sd : Int64} {im : Nat → Int32} {se : Nat → Int64} {kp : Nat → Int32} {pl : Int32} {wr : Int32} {dp : Int32} {su : Nat → Int32} {wa : Nat → Int32} {fc : Nat → Int32} {po : Nat → Int32} {ro : Nat → Int64} {fr : Int32} {ch : Nat → Int64} {ov : Nat → Int64} {i o : Nat} {t : Int64} {h : xH} {sz : Nat} {Post : Option Value → xH → Nat → Prop} (hi : i < 6) (ho : o < 6) (M : Md dA h b tx ln fa st de dm sd im se kp pl wr dp su wa fc po ro fr ch ov) (hpost : ∀ (h1 : xH) (sz1 : Nat), Md dA h1 b tx ln fa st de dm sd im se kp pl wr dp su wa fc po (tk_row ro i o t 6) fr ch (vp_updL ov i (ov i - t * ov o)) → xF b (b + 14) h h1 → Post none h1 sz1) : xMet l yX5_takes wsX5_takes 0 0 0 0 D dA [.ref b, .int (nI i), .int (nI o), .long t] h sz Post := by
  refine x_open (cc := cX5_takes) (maxL := 6) (ret := none) (by decide) rfl (Nat.le_of_ble_eq_true rfl) ?_
  intro p e s m args below meth c G _
  have inX5 : ∀ w ∈ wsX50, w ∈ wsX5_takes := inX5_takes_5
  refine x_iconstV (v := nI 0) G dX5_takes_0 (by decide) ?_
  refine x_istore G dX5_takes_1 (by decide) ?_
  refine x_loop (σ := Unit) (fun j _ => [(0, .ref b), (1, .int (nI i)), (2, .int (nI o)), (3, .long t), (5, .int (nI j))]) 6 (fun j _ h1 sz1 => Md dA h1 b tx ln fa st de dm sd im se kp pl wr dp su wa fc po (tk_row ro i o t j) fr ch ov ∧ xF b (b + 14) h h1) ?_ ?_ 0 () h sz (Nat.zero_le _) ⟨by rw [tk_row_0]; exact M, xF_rf⟩
  · intro j _ h1 sz1 hj hI nx
    try dsimp only at hI nx ⊢
    obtain ⟨M, F⟩ := hI
    refine x_iload G dX5_takes_3 rfl ?_
    refine x_bipushV (v := nI 6) G dX5_takes_5 (by decide) ?_
    refine x_icmp_ge G 45 dX5_takes_7 (by decide) (fun c_7 => ?_) (fun c_7 => ?_)
    · exact absurd c_7 (nI_ge hj (by omega))
    · refine x_aload_n G dX5_takes_10 rfl ?_
      refine x_get G kX5 inX5 17 (by decide) (by decide +kernel) dX5_takes_11 (md_o M) rfl ?_
      refine x_bipushV (v := nI 6) G dX5_takes_14 (by decide) ?_
      refine x_iload_n G dX5_takes_16 rfl ?_
      refine x_imul G dX5_takes_17 ?_
      refine x_iload G dX5_takes_18 rfl ?_
      refine x_iadd G dX5_takes_20 ?_
      refine x_topE (y := nI (6 * i + j)) (by rw [pk_mul, nI_add]) ?_
      refine x_dup2 G dX5_takes_21 rfl rfl ?_
      refine x_laldN G dX5_takes_22 (md_ro M) (by omega) (by decide) ?_
      refine x_lload_n G dX5_takes_23 rfl ?_
      refine x_aload_n G dX5_takes_24 rfl ?_
      refine x_get G kX5 inX5 17 (by decide) (by decide +kernel) dX5_takes_25 (md_o M) rfl ?_
      refine x_bipushV (v := nI 6) G dX5_takes_28 (by decide) ?_
      refine x_iload_n G dX5_takes_30 rfl ?_
      refine x_imul G dX5_takes_31 ?_
      refine x_iload G dX5_takes_32 rfl ?_
      refine x_iadd G dX5_takes_34 ?_
      refine x_topE (y := nI (6 * o + j)) (by rw [pk_mul, nI_add]) ?_
      refine x_laldN G dX5_takes_35 (md_ro M) (by omega) (by decide) ?_
      refine x_lmul G dX5_takes_36 ?_
      refine x_lsub G dX5_takes_37 ?_
      refine x_lastN G dX5_takes_38 (md_ro M) (by omega) (by decide) ?_
      rw [tk_row_s hj]
      have M := md_ro_s M (tk_row ro i o t (j + 1))
      have F := xF_up (a := b + 11) (e := .inl (dA 1, 36, .inr (.inl (tk_row ro i o t (j + 1))))) F (by omega) (by omega)
      refine x_iinc G dX5_takes_39 rfl (by decide) ?_
      refine x_locE (lv2 := [(0, .ref b), (1, .int (nI i)), (2, .int (nI o)), (3, .long t), (5, .int (nI (j + 1)))]) (by rw [nI_succ j]; rfl) ?_
      refine x_goto G 3 dX5_takes_42 (by decide) ?_
      exact nx () _ _ ⟨M, F⟩
  · intro _ h1 sz1 hI
    try dsimp only at hI ⊢
    obtain ⟨M, F⟩ := hI
    refine x_iload G dX5_takes_3 rfl ?_
    refine x_bipushV (v := nI 6) G dX5_takes_5 (by decide) ?_
    refine x_icmp_ge G 45 dX5_takes_7 (by decide) (fun c_7 => ?_) (fun c_7 => ?_)
    · refine x_aload_n G dX5_takes_45 rfl ?_
      refine x_get G kX5 inX5 20 (by decide) (by decide +kernel) dX5_takes_46 (md_o M) rfl ?_
      refine x_iload_n G dX5_takes_49 rfl ?_
      refine x_dup2 G dX5_takes_50 rfl rfl ?_
      refine x_laldN G dX5_takes_51 (md_ov M) hi (by decide) ?_
      refine x_lload_n G dX5_takes_52 rfl ?_
      refine x_aload_n G dX5_takes_53 rfl ?_
      refine x_get G kX5 inX5 20 (by decide) (by decide +kernel) dX5_takes_54 (md_o M) rfl ?_
      refine x_iload_n G dX5_takes_57 rfl ?_
      refine x_laldN G dX5_takes_58 (md_ov M) ho (by decide) ?_
      refine x_lmul G dX5_takes_59 ?_
      refine x_lsub G dX5_takes_60 ?_
      refine x_lastN G dX5_takes_61 (md_ov M) hi (by decide) ?_
      have M := md_ov_s M (vp_updL ov i (ov i - t * ov o))
      have F := xF_up (a := b + 13) (e := .inl (dA 1, 6, .inr (.inl (vp_updL ov i (ov i - t * ov o))))) F (by omega) (by omega)
      exact x_vret G dX5_takes_62 (hpost _ _ M F)
    · exact absurd (nI_le (Nat.le_refl _) (by omega)) c_7
