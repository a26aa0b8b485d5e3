/-- z and the products of ints and longs, j of them, from the left on -/
def r_dot (z : Int64) (p : Nat → Int32) (a : Nat) (r : Nat → Int64) (q : Nat) : Nat → Int64
  | 0 => z
  | j + 1 => r_dot z p a r q j + (p (a + j)).toInt64 * r (q + j)
theorem inX5_sumOf_5 : ∀ w ∈ wsX50, w ∈ wsX5_sumOf := by decide +kernel
set_option maxRecDepth 100000 in
set_option maxHeartbeats 4000000 in
/-- sumOf -/
theorem c_sumOf (l : Launch) (D : va_G) {dA : Nat → ClassId} {b a n q i : Nat} {po1 : Nat → Int32} {tx : Nat → Int32} {ln : Int32} {fa : Int32} {st : Nat → Int32} {de : Nat → Int32} {dm : Int32} {sd : Int64} {im : Nat → Int32} {se : Nat → Int64} {kp : Nat → Int32} {pl : Int32} {wr : Int32} {dp : Int32} {su : Nat → Int32} {wa : Nat → Int32} {fc : Nat → Int32} {po : Nat → Int32} {ro : Nat → Int64} {fr : Int32} {ch : Nat → Int64} {ov : Nat → Int64} {h : xH} {sz : Nat} {Post : Option Value → xH → Nat → Prop} (hi : i < 6) (hq : q + 6 ≤ n) (hn : n < 2000) (hp : h a = some (.inl (dA 0, n, .inl po1))) (M : Md dA h b tx ln fa st de dm sd im se kp pl wr dp su wa fc po ro fr ch ov) (hpost : Post (some (.long (r_dot 0 po1 q ro (6 * i) 6))) h sz) : xMet l yX5_sumOf wsX5_sumOf 0 0 0 0 D dA [.ref b, .ref a, .int (nI q), .int (nI i)] h sz Post := by
  refine x_open (cc := cX5_sumOf) (maxL := 7) (ret := (some .long)) (by decide) rfl (Nat.le_of_ble_eq_true rfl) ?_
  intro p e s m args below meth c G _
  have inX5 : ∀ w ∈ wsX50, w ∈ wsX5_sumOf := inX5_sumOf_5
  refine x_lconstV (v := 0) G dX5_sumOf_0 (by decide) ?_
  refine x_lstore G dX5_sumOf_1 (by decide) ?_
  refine x_iconstV (v := nI 0) G dX5_sumOf_3 (by decide) ?_
  refine x_istore G dX5_sumOf_4 (by decide) ?_
  refine x_loop (σ := Unit) (fun j _ => [(0, .ref b), (1, .ref a), (2, .int (nI q)), (3, .int (nI i)), (4, .long (r_dot 0 po1 q ro (6 * i) j)), (6, .int (nI j))]) 6 (fun j _ h1 sz1 => h = h1 ∧ sz = sz1) ?_ ?_ 0 () h sz (Nat.zero_le _) ⟨rfl, rfl⟩
  · intro j _ h1 sz1 hj hI nx
    try dsimp only at hI nx ⊢
    obtain ⟨rfl, rfl⟩ := hI
    refine x_iload G dX5_sumOf_6 rfl ?_
    refine x_bipushV (v := nI 6) G dX5_sumOf_8 (by decide) ?_
    refine x_icmp_ge G 44 dX5_sumOf_10 (by decide) (fun c_10 => ?_) (fun c_10 => ?_)
    · exact absurd c_10 (nI_ge hj (by omega))
    · refine x_lload G dX5_sumOf_13 rfl ?_
      refine x_aload_n G dX5_sumOf_15 rfl ?_
      refine x_iload_n G dX5_sumOf_16 rfl ?_
      refine x_iload G dX5_sumOf_17 rfl ?_
      refine x_iadd G dX5_sumOf_19 ?_
      refine x_topE (y := nI (q + j)) (by rw [nI_add]) ?_
      refine x_ialdN G dX5_sumOf_20 hp (by omega) (by omega) ?_
      refine x_i2l G dX5_sumOf_21 ?_
      refine x_aload_n G dX5_sumOf_22 rfl ?_
      refine x_get G kX5 inX5 17 (by decide) (by decide +kernel) dX5_sumOf_23 (md_o M) rfl ?_
      refine x_bipushV (v := nI 6) G dX5_sumOf_26 (by decide) ?_
      refine x_iload_n G dX5_sumOf_28 rfl ?_
      refine x_imul G dX5_sumOf_29 ?_
      refine x_iload G dX5_sumOf_30 rfl ?_
      refine x_iadd G dX5_sumOf_32 ?_
      refine x_topE (y := nI (6 * i + j)) (by rw [pk_mul, nI_add]) ?_
      refine x_laldN G dX5_sumOf_33 (md_ro M) (by omega) (by decide) ?_
      refine x_lmul G dX5_sumOf_34 ?_
      refine x_ladd G dX5_sumOf_35 ?_
      refine x_lstore G dX5_sumOf_36 (by decide) ?_
      refine x_iinc G dX5_sumOf_38 rfl (by decide) ?_
      refine x_locE (lv2 := [(0, .ref b), (1, .ref a), (2, .int (nI q)), (3, .int (nI i)), (4, .long (r_dot 0 po1 q ro (6 * i) (j + 1))), (6, .int (nI (j + 1)))]) (by rw [nI_succ j]; rfl) ?_
      refine x_goto G 6 dX5_sumOf_41 (by decide) ?_
      exact nx () _ _ ⟨rfl, rfl⟩
  · intro _ h1 sz1 hI
    try dsimp only at hI ⊢
    obtain ⟨rfl, rfl⟩ := hI
    refine x_iload G dX5_sumOf_6 rfl ?_
    refine x_bipushV (v := nI 6) G dX5_sumOf_8 (by decide) ?_
    refine x_icmp_ge G 44 dX5_sumOf_10 (by decide) (fun c_10 => ?_) (fun c_10 => ?_)
    · refine x_lload G dX5_sumOf_44 rfl ?_
      exact x_lret G dX5_sumOf_46 hpost
    · exact absurd (nI_le (Nat.le_refl _) (by omega)) c_10
theorem inX5_restOf_5 : ∀ w ∈ wsX50, w ∈ wsX5_restOf := by decide +kernel
set_option maxRecDepth 100000 in
set_option maxHeartbeats 4000000 in
/-- restOf -/
theorem c_restOf (l : Launch) (D : va_G) {dA : Nat → ClassId} {b a n q i : Nat} {po1 : Nat → Int32} {tx : Nat → Int32} {ln : Int32} {fa : Int32} {st : Nat → Int32} {de : Nat → Int32} {dm : Int32} {sd : Int64} {im : Nat → Int32} {se : Nat → Int64} {kp : Nat → Int32} {pl : Int32} {wr : Int32} {dp : Int32} {su : Nat → Int32} {wa : Nat → Int32} {fc : Nat → Int32} {po : Nat → Int32} {ro : Nat → Int64} {fr : Int32} {ch : Nat → Int64} {ov : Nat → Int64} {h : xH} {sz : Nat} {Post : Option Value → xH → Nat → Prop} (hi : i < 4) (hq : q + 10 ≤ n) (hn : n < 2000) (hp : h a = some (.inl (dA 0, n, .inl po1))) (M : Md dA h b tx ln fa st de dm sd im se kp pl wr dp su wa fc po ro fr ch ov) (hpost : Post (some (.long (r_dot (po1 (q + 6 + i)).toInt64 po1 q ch (6 * i) 6))) h sz) : xMet l yX5_restOf wsX5_restOf 0 0 0 0 D dA [.ref b, .ref a, .int (nI q), .int (nI i)] h sz Post := by
  refine x_open (cc := cX5_restOf) (maxL := 7) (ret := (some .long)) (by decide) rfl (Nat.le_of_ble_eq_true rfl) ?_
  intro p e s m args below meth c G _
  have inX5 : ∀ w ∈ wsX50, w ∈ wsX5_restOf := inX5_restOf_5
  refine x_aload_n G dX5_restOf_0 rfl ?_
  refine x_iload_n G dX5_restOf_1 rfl ?_
  refine x_bipushV (v := nI 6) G dX5_restOf_2 (by decide) ?_
  refine x_iadd G dX5_restOf_4 ?_
  refine x_iload_n G dX5_restOf_5 rfl ?_
  refine x_iadd G dX5_restOf_6 ?_
  refine x_topE (y := nI (q + 6 + i)) (by rw [nI_add, nI_add]) ?_
  refine x_ialdN G dX5_restOf_7 hp (by omega) (by omega) ?_
  refine x_i2l G dX5_restOf_8 ?_
  refine x_lstore G dX5_restOf_9 (by decide) ?_
  refine x_iconstV (v := nI 0) G dX5_restOf_11 (by decide) ?_
  refine x_istore G dX5_restOf_12 (by decide) ?_
  refine x_loop (σ := Unit) (fun j _ => [(0, .ref b), (1, .ref a), (2, .int (nI q)), (3, .int (nI i)), (4, .long (r_dot (po1 (q + 6 + i)).toInt64 po1 q ch (6 * i) j)), (6, .int (nI j))]) 6 (fun j _ h1 sz1 => h = h1 ∧ sz = sz1) ?_ ?_ 0 () h sz (Nat.zero_le _) ⟨rfl, rfl⟩
  · intro j _ h1 sz1 hj hI nx
    try dsimp only at hI nx ⊢
    obtain ⟨rfl, rfl⟩ := hI
    refine x_iload G dX5_restOf_14 rfl ?_
    refine x_bipushV (v := nI 6) G dX5_restOf_16 (by decide) ?_
    refine x_icmp_ge G 52 dX5_restOf_18 (by decide) (fun c_18 => ?_) (fun c_18 => ?_)
    · exact absurd c_18 (nI_ge hj (by omega))
    · refine x_lload G dX5_restOf_21 rfl ?_
      refine x_aload_n G dX5_restOf_23 rfl ?_
      refine x_iload_n G dX5_restOf_24 rfl ?_
      refine x_iload G dX5_restOf_25 rfl ?_
      refine x_iadd G dX5_restOf_27 ?_
      refine x_topE (y := nI (q + j)) (by rw [nI_add]) ?_
      refine x_ialdN G dX5_restOf_28 hp (by omega) (by omega) ?_
      refine x_i2l G dX5_restOf_29 ?_
      refine x_aload_n G dX5_restOf_30 rfl ?_
      refine x_get G kX5 inX5 19 (by decide) (by decide +kernel) dX5_restOf_31 (md_o M) rfl ?_
      refine x_bipushV (v := nI 6) G dX5_restOf_34 (by decide) ?_
      refine x_iload_n G dX5_restOf_36 rfl ?_
      refine x_imul G dX5_restOf_37 ?_
      refine x_iload G dX5_restOf_38 rfl ?_
      refine x_iadd G dX5_restOf_40 ?_
      refine x_topE (y := nI (6 * i + j)) (by rw [pk_mul, nI_add]) ?_
      refine x_laldN G dX5_restOf_41 (md_ch M) (by omega) (by decide) ?_
      refine x_lmul G dX5_restOf_42 ?_
      refine x_ladd G dX5_restOf_43 ?_
      refine x_lstore G dX5_restOf_44 (by decide) ?_
      refine x_iinc G dX5_restOf_46 rfl (by decide) ?_
      refine x_locE (lv2 := [(0, .ref b), (1, .ref a), (2, .int (nI q)), (3, .int (nI i)), (4, .long (r_dot (po1 (q + 6 + i)).toInt64 po1 q ch (6 * i) (j + 1))), (6, .int (nI (j + 1)))]) (by rw [nI_succ j]; rfl) ?_
      refine x_goto G 14 dX5_restOf_49 (by decide) ?_
      exact nx () _ _ ⟨rfl, rfl⟩
  · intro _ h1 sz1 hI
    try dsimp only at hI ⊢
    obtain ⟨rfl, rfl⟩ := hI
    refine x_iload G dX5_restOf_14 rfl ?_
    refine x_bipushV (v := nI 6) G dX5_restOf_16 (by decide) ?_
    refine x_icmp_ge G 52 dX5_restOf_18 (by decide) (fun c_18 => ?_) (fun c_18 => ?_)
    · refine x_lload G dX5_restOf_52 rfl ?_
      exact x_lret G dX5_restOf_54 hpost
    · exact absurd (nI_le (Nat.le_refl _) (by omega)) c_18
theorem inX5_headOf_5 : ∀ w ∈ wsX50, w ∈ wsX5_headOf := by decide +kernel
/-- the first place from j on, of k, where it is not 0 -/
def r_hd (r : Nat → Int64) (q : Nat) : Nat → Nat → Nat
  | j, 0 => j
  | j, k + 1 => if r (q + j) = 0 then r_hd r q (j + 1) k else j
set_option maxRecDepth 100000 in
set_option maxHeartbeats 4000000 in
/-- headOf -/
theorem c_headOf (l : Launch) (D : va_G) {dA : Nat → ClassId} {b i : Nat} {tx : Nat → Int32} {ln : Int32} {fa : Int32} {st : Nat → Int32} {de : Nat → Int32} {dm : Int32} {sd : Int64} {im : Nat → Int32} {se : Nat → Int64} {kp : Nat → Int32} {pl : Int32} {wr : Int32} {dp : Int32} {su : Nat → Int32} {wa : Nat → Int32} {fc : Nat → Int32} {po : Nat → Int32} {ro : Nat → Int64} {fr : Int32} {ch : Nat → Int64} {ov : Nat → Int64} {h : xH} {sz : Nat} {Post : Option Value → xH → Nat → Prop} (hi : i < 6) (M : Md dA h b tx ln fa st de dm sd im se kp pl wr dp su wa fc po ro fr ch ov) (hpost : Post (some (.int (nI (r_hd ro (6 * i) 0 6)))) h sz) : xMet l yX5_headOf wsX5_headOf 0 0 0 0 D dA [.ref b, .int (nI i)] h sz Post := by
  refine x_open (cc := cX5_headOf) (maxL := 3) (ret := (some .int)) (by decide) rfl (Nat.le_of_ble_eq_true rfl) ?_
  intro p e s m args below meth c G _
  have inX5 : ∀ w ∈ wsX50, w ∈ wsX5_headOf := inX5_headOf_5
  refine x_iconstV (v := nI 0) G dX5_headOf_0 (by decide) ?_
  refine x_istore_n G dX5_headOf_1 (by decide) ?_
  refine x_while (σ := Nat) (fun u => [(0, .ref b), (1, .int (nI i)), (2, .int (nI u))]) [] (fun u h1 sz1 => u ≤ 6 ∧ r_hd ro (6 * i) u (6 - u) = r_hd ro (6 * i) 0 6 ∧ h = h1 ∧ sz = sz1) (fun u => 6 - u) ?_ 0 h sz ⟨by omega, rfl, rfl, rfl⟩
  intro u h1 sz1 hI nx
  obtain ⟨hu6, hI, rfl, rfl⟩ := hI
  refine x_iload_n G dX5_headOf_2 rfl ?_
  refine x_bipushV (v := nI 6) G dX5_headOf_3 (by decide) ?_
  refine x_icmp_ge G 30 dX5_headOf_5 (by decide) (fun c_5 => ?_) (fun c_5 => ?_)
  · have hu : u = 6 := by
      rcases Nat.lt_or_ge u 6 with z | z
      · exact absurd c_5 (nI_ge z (by decide))
      · omega
    subst hu
    have e : r_hd ro (6 * i) 0 6 = 6 := hI.symm
    rw [e] at hpost
    refine x_iload_n G dX5_headOf_30 rfl ?_
    exact x_iret G dX5_headOf_31 hpost
  · have hu : u < 6 := by
      rcases Nat.lt_or_ge u 6 with z | z
      · exact z
      · exact absurd (nI_le z (by omega)) c_5
    refine x_aload_n G dX5_headOf_8 rfl ?_
    refine x_get G kX5 inX5 17 (by decide) (by decide +kernel) dX5_headOf_9 (md_o M) rfl ?_
    refine x_bipushV (v := nI 6) G dX5_headOf_12 (by decide) ?_
    refine x_iload_n G dX5_headOf_14 rfl ?_
    refine x_imul G dX5_headOf_15 ?_
    refine x_iload_n G dX5_headOf_16 rfl ?_
    refine x_iadd G dX5_headOf_17 ?_
    refine x_topE (y := nI (6 * i + u)) (by rw [pk_mul, nI_add]) ?_
    refine x_laldN G dX5_headOf_18 (md_ro M) (by omega) (by decide) ?_
    refine x_lconstV (v := 0) G dX5_headOf_19 (by decide) ?_
    refine x_lcmp G dX5_headOf_20 ?_
    refine x_if_ne G 30 dX5_headOf_21 (by decide) (fun c_21 => ?_) (fun c_21 => ?_)
    · have e : r_hd ro (6 * i) u (6 - u) = u := by
        rw [show 6 - u = (5 - u) + 1 by omega]
        unfold r_hd
        rw [if_neg (fun z => c_21 ((x_lgeq _ _).mpr z))]
      rw [← hI, e] at hpost
      refine x_iload_n G dX5_headOf_30 rfl ?_
      exact x_iret G dX5_headOf_31 hpost
    · have e : r_hd ro (6 * i) u (6 - u) = r_hd ro (6 * i) (u + 1) (6 - (u + 1)) := by
        rw [show 6 - u = (6 - (u + 1)) + 1 by omega]
        show (if ro (6 * i + u) = 0 then _ else _) = _
        rw [if_pos ((x_lgeq _ _).mp c_21)]
      refine x_iinc G dX5_headOf_24 rfl (by decide) ?_
      refine x_locE (lv2 := [(0, .ref b), (1, .int (nI i)), (2, .int (nI (u + 1)))]) (by rw [nI_succ u]; rfl) ?_
      refine x_goto G 2 dX5_headOf_27 (by decide) ?_
      exact nx (u + 1) _ _ ⟨by omega, by rw [← e]; exact hI, rfl, rfl⟩ (by omega)
theorem inX5_startsFree_5 : ∀ w ∈ wsX50, w ∈ wsX5_startsFree := by decide +kernel
def r_id (r : Nat → Int64) (n : Nat) : Nat → Int64 := fun k => if k < n then (if k % 7 = 0 then 1 else 0) else r k
def r_ze (r : Nat → Int64) (n : Nat) : Nat → Int64 := fun k => if k < n then 0 else r k
theorem r_id_0 (r : Nat → Int64) : r_id r 0 = r := by
  funext k
  unfold r_id
  rw [if_neg (by omega)]
theorem r_ze_0 (r : Nat → Int64) : r_ze r 0 = r := by
  funext k
  unfold r_ze
  rw [if_neg (by omega)]
theorem r_id_s {r : Nat → Int64} {n : Nat} {x : Int64} (hx : x = if n % 7 = 0 then 1 else 0) : vp_updL (r_id r n) n x = r_id r (n + 1) := by
  funext k
  unfold vp_updL r_id
  by_cases e : k = n
  · subst e
    rw [if_pos rfl, if_pos (by omega), hx]
  · rw [if_neg e]
    by_cases e2 : k < n
    · rw [if_pos e2, if_pos (show k < n + 1 by omega)]
    · rw [if_neg e2, if_neg (show ¬ k < n + 1 by omega)]
theorem r_ze_s {r : Nat → Int64} {n : Nat} : vp_updL (r_ze r n) n 0 = r_ze r (n + 1) := by
  funext k
  unfold vp_updL r_ze
  by_cases e : k = n
  · subst e
    rw [if_pos rfl, if_pos (by omega)]
  · rw [if_neg e]
    by_cases e2 : k < n
    · rw [if_pos e2, if_pos (by omega)]
    · rw [if_neg e2, if_neg (by omega)]
set_option maxRecDepth 100000 in
set_option maxHeartbeats 4000000 in
/-- startsFree -/
theorem c_startsFree (l : Launch) (D : va_G) {dA : Nat → ClassId} {b : Nat} {tx : Nat → Int32} {ln : Int32} {fa : Int32} {st : Nat → Int32} {de : Nat → Int32} {dm : Int32} {sd : Int64} {im : Nat → Int32} {se : Nat → Int64} {kp : Nat → Int32} {pl : Int32} {wr : Int32} {dp : Int32} {su : Nat → Int32} {wa : Nat → Int32} {fc : Nat → Int32} {po : Nat → Int32} {ro : Nat → Int64} {fr : Int32} {ch : Nat → Int64} {ov : Nat → Int64} {h : xH} {sz : Nat} {Post : Option Value → xH → Nat → Prop} (M : Md dA h b tx ln fa st de dm sd im se kp pl wr dp su wa fc po ro fr ch ov) (hpost : ∀ (h1 : xH) (sz1 : Nat), Md dA h1 b tx ln fa st de dm sd im se kp pl wr dp su wa fc po (r_id ro 36) (nI 6) (r_ze ch 24) ov → xF b (b + 14) h h1 → Post none h1 sz1) : xMet l yX5_startsFree wsX5_startsFree 0 0 0 0 D dA [.ref b] h sz Post := by
  refine x_open (cc := cX5_startsFree) (maxL := 2) (ret := none) (by decide) rfl (Nat.le_of_ble_eq_true rfl) ?_
  intro p e s m args below meth c G _
  have inX5 : ∀ w ∈ wsX50, w ∈ wsX5_startsFree := inX5_startsFree_5
  have F := xF_rf (lo := b) (hi := b + 14) (h := h)
  refine x_aload_n G dX5_startsFree_0 rfl ?_
  refine x_bipushV (v := nI 6) G dX5_startsFree_1 (by decide) ?_
  refine x_put G kX5 inX5 18 (by decide) (by decide +kernel) rfl dX5_startsFree_3 (md_o M) rfl rfl (Nat.le_of_ble_eq_true rfl) ?_
  have M := md_fr_s M (nI 6)
  have F := xF_up (a := b) (e := .inr (5, List.set [.ref (b + 1), .int (ln), .int (fa), .ref (b + 2), .ref (b + 3), .int (dm), .long (sd), .ref (b + 4), .ref (b + 5), .ref (b + 6), .int (pl), .int (wr), .int (dp), .ref (b + 7), .ref (b + 8), .ref (b + 9), .ref (b + 10), .ref (b + 11), .int (fr), .ref (b + 12), .ref (b + 13)] 18 (.int (nI 6)))) F (by omega) (by omega)
  refine x_iconstV (v := nI 0) G dX5_startsFree_6 (by decide) ?_
  refine x_istore_n G dX5_startsFree_7 (by decide) ?_
  refine x_loop (σ := Unit) (fun j _ => [(0, .ref b), (1, .int (nI j))]) 36 (fun j _ h1 sz1 => Md dA h1 b tx ln fa st de dm sd im se kp pl wr dp su wa fc po (r_id ro j) (nI 6) ch ov ∧ xF b (b + 14) h h1) ?_ ?_ 0 () _ _ (Nat.zero_le _) ⟨by rw [r_id_0]; exact M, F⟩
  · intro j _ h1 sz1 hj hI nx
    try dsimp only at hI nx ⊢
    obtain ⟨M, F⟩ := hI
    refine x_iload_n G dX5_startsFree_8 rfl ?_
    refine x_bipushV (v := nI 36) G dX5_startsFree_9 (by decide) ?_
    refine x_icmp_ge G 38 dX5_startsFree_11 (by decide) (fun c_11 => ?_) (fun c_11 => ?_)
    · exact absurd c_11 (nI_ge hj (by omega))
    · refine x_aload_n G dX5_startsFree_14 rfl ?_
      refine x_get G kX5 inX5 17 (by decide) (by decide +kernel) dX5_startsFree_15 (md_o M) rfl ?_
      refine x_iload_n G dX5_startsFree_18 rfl ?_
      refine x_iload_n G dX5_startsFree_19 rfl ?_
      refine x_bipushV (v := nI 7) G dX5_startsFree_20 (by decide) ?_
      refine x_irem G dX5_startsFree_22 (by decide) ?_
      refine x_topE (y := nI (j % 7)) (pk_rem (by omega) (by decide) (by decide)) ?_
      refine x_if_ne G 30 dX5_startsFree_23 (by decide) (fun c_23 => ?_) (fun c_23 => ?_)
      · have hx : (0 : Int64) = if j % 7 = 0 then 1 else 0 := by
          rw [if_neg (fun z => c_23 (by rw [z]; rfl))]
        refine x_lconstV (v := 0) G dX5_startsFree_30 (by decide) ?_
        refine x_lastN G dX5_startsFree_31 (md_ro M) (by omega) (by decide) ?_
        rw [r_id_s hx]
        have M := md_ro_s M (r_id ro (j + 1))
        have F := xF_up (a := b + 11) (e := .inl (dA 1, 36, .inr (.inl (r_id ro (j + 1))))) F (by omega) (by omega)
        refine x_iinc G dX5_startsFree_32 rfl (by decide) ?_
        refine x_locE (lv2 := [(0, .ref b), (1, .int (nI (j + 1)))]) (by rw [nI_succ j]; rfl) ?_
        refine x_goto G 8 dX5_startsFree_35 (by decide) ?_
        exact nx () _ _ ⟨M, F⟩
      · have hx : (1 : Int64) = if j % 7 = 0 then 1 else 0 := by
          rw [if_pos]
          rcases Nat.eq_zero_or_pos (j % 7) with z | z
          · exact z
          · exact absurd c_23 (nI_ne0 z (by omega))
        refine x_lconstV (v := 1) G dX5_startsFree_26 (by decide) ?_
        refine x_goto G 31 dX5_startsFree_27 (by decide) ?_
        refine x_lastN G dX5_startsFree_31 (md_ro M) (by omega) (by decide) ?_
        rw [r_id_s hx]
        have M := md_ro_s M (r_id ro (j + 1))
        have F := xF_up (a := b + 11) (e := .inl (dA 1, 36, .inr (.inl (r_id ro (j + 1))))) F (by omega) (by omega)
        refine x_iinc G dX5_startsFree_32 rfl (by decide) ?_
        refine x_locE (lv2 := [(0, .ref b), (1, .int (nI (j + 1)))]) (by rw [nI_succ j]; rfl) ?_
        refine x_goto G 8 dX5_startsFree_35 (by decide) ?_
        exact nx () _ _ ⟨M, F⟩
  · intro _ h1 sz1 hI
    try dsimp only at hI ⊢
    obtain ⟨M, F⟩ := hI
    refine x_iload_n G dX5_startsFree_8 rfl ?_
    refine x_bipushV (v := nI 36) G dX5_startsFree_9 (by decide) ?_
    refine x_icmp_ge G 38 dX5_startsFree_11 (by decide) (fun c_11 => ?_) (fun c_11 => ?_)
    · refine x_iconstV (v := nI 0) G dX5_startsFree_38 (by decide) ?_
      refine x_istore_n G dX5_startsFree_39 (by decide) ?_
      refine x_loop (σ := Unit) (fun j _ => [(0, .ref b), (1, .int (nI j))]) 24 (fun j _ h1 sz1 => Md dA h1 b tx ln fa st de dm sd im se kp pl wr dp su wa fc po (r_id ro 36) (nI 6) (r_ze ch j) ov ∧ xF b (b + 14) h h1) ?_ ?_ 0 () _ _ (Nat.zero_le _) ⟨by rw [r_ze_0]; exact M, F⟩
      · intro j _ h1 sz1 hj hI nx
        try dsimp only at hI nx ⊢
        obtain ⟨M, F⟩ := hI
        refine x_iload_n G dX5_startsFree_40 rfl ?_
        refine x_bipushV (v := nI 24) G dX5_startsFree_41 (by decide) ?_
        refine x_icmp_ge G 59 dX5_startsFree_43 (by decide) (fun c_43 => ?_) (fun c_43 => ?_)
        · exact absurd c_43 (nI_ge hj (by omega))
        · refine x_aload_n G dX5_startsFree_46 rfl ?_
          refine x_get G kX5 inX5 19 (by decide) (by decide +kernel) dX5_startsFree_47 (md_o M) rfl ?_
          refine x_iload_n G dX5_startsFree_50 rfl ?_
          refine x_lconstV (v := 0) G dX5_startsFree_51 (by decide) ?_
          refine x_lastN G dX5_startsFree_52 (md_ch M) (by omega) (by decide) ?_
          rw [r_ze_s]
          have M := md_ch_s M (r_ze ch (j + 1))
          have F := xF_up (a := b + 12) (e := .inl (dA 1, 24, .inr (.inl (r_ze ch (j + 1))))) F (by omega) (by omega)
          refine x_iinc G dX5_startsFree_53 rfl (by decide) ?_
          refine x_locE (lv2 := [(0, .ref b), (1, .int (nI (j + 1)))]) (by rw [nI_succ j]; rfl) ?_
          refine x_goto G 40 dX5_startsFree_56 (by decide) ?_
          exact nx () _ _ ⟨M, F⟩
      · intro _ h1 sz1 hI
        try dsimp only at hI ⊢
        obtain ⟨M, F⟩ := hI
        refine x_iload_n G dX5_startsFree_40 rfl ?_
        refine x_bipushV (v := nI 24) G dX5_startsFree_41 (by decide) ?_
        refine x_icmp_ge G 59 dX5_startsFree_43 (by decide) (fun c_43 => ?_) (fun c_43 => ?_)
        · exact x_vret G dX5_startsFree_59 (hpost _ _ M F)
        · exact absurd (nI_le (Nat.le_refl _) (by omega)) c_43
    · exact absurd (nI_le (Nat.le_refl _) (by omega)) c_11
