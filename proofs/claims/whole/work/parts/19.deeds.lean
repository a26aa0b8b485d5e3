theorem in_nat2 {v : Int32} {lo hi : Nat} (z : lo ≤ hi) (hh : hi < 2 ^ 31) (h : nI lo ≤ v ∧ v ≤ nI hi) : ∃ k, lo ≤ k ∧ k ≤ hi ∧ v = nI k := by
  have h0 : ¬ v < 0 := by
    intro q
    exact absurd (Int32.le_trans (nI_pos' (Nat.lt_of_le_of_lt z hh)) h.1) (Int32.not_le.mpr q)
  obtain ⟨k, hk, rfl⟩ := nI_of h0
  exact ⟨k, (nI_leI (by omega) hk).mp h.1, (nI_leI hk hh).mp h.2, rfl⟩
theorem in_nat {v : Int32} {n : Nat} (hn : n < 2 ^ 30) (h : nI 0 ≤ v ∧ v ≤ nI n - nI 1) : ∃ k, k < n ∧ v = nI k := by
  have h0 : ¬ v < 0 := by
    intro q
    exact absurd h.1 (Int32.not_le.mpr q)
  obtain ⟨k, hk, rfl⟩ := nI_of h0
  have h1 := Int32.le_iff_toInt_le.mp h.2
  rw [pk_sub_toInt hn (by decide), nI_toInt hk] at h1
  exact ⟨k, by omega, rfl⟩
theorem inX5_back_5 : ∀ w ∈ wsX50, w ∈ wsX5_back := by decide +kernel
def bk_st (st : Nat → Int32) (n k : Nat) : Nat → Int32 := va_cpy (upd st 0 (nI (n - 1))) (upd st 0 (nI (n - 1))) (1 + 10 * (k + 1)) (1 + 10 * k) (10 * (n - 1 - k))
theorem bk_0 {st : Nat → Int32} {n k : Nat} : bk_st st n k 0 = nI (n - 1) := by
  unfold bk_st
  rw [pk_cpy_out (by omega), pk_us]
set_option maxRecDepth 100000 in
set_option maxHeartbeats 4000000 in
/-- back -/
theorem c_back (l : Launch) (D : va_G) {dA : Nat → ClassId} {b n d : Nat} {v : Int32} {tx : Nat → Int32} {ln : Int32} {fa : Int32} {st : Nat → Int32} {de : Nat → Int32} {sd : Int64} {im : Nat → Int32} {se : Nat → Int64} {kp : Nat → Int32} {pl : Int32} {wr : Int32} {dp : Int32} {su : Nat → Int32} {wa : Nat → Int32} {fc : Nat → Int32} {po : Nat → Int32} {ro : Nat → Int64} {fr : Int32} {ch : Nat → Int64} {ov : Nat → Int64} {h : xH} {sz : Nat} {Post : Option Value → xH → Nat → Prop} (hn : st 0 = nI n) (hn6 : n ≤ 6) (hd : d ≤ 20) (M : Md dA h b tx ln fa st de (nI d) sd im se kp pl wr dp su wa fc po ro fr ch ov) (hp1 : ¬ (nI 0 ≤ v ∧ v ≤ nI n - nI 1) → Post (some (.int (-1000000001))) h sz) (hp2 : ∀ k, k < n → v = nI k → ∀ (h1 : xH) (sz1 : Nat), Md dA h1 b tx ln fa (bk_st st n k) (nt_e de st d) (nI (nt_d d)) sd im se kp pl wr dp su wa fc po ro fr ch ov → xF b (b + 14) h h1 → Post (some (.int (nI (n - 1)))) h1 sz1) (hpost : True) : xMet l yX5_back wsX5_back 2 45 0 0 D dA [.ref b, .int v] h sz Post := by
  refine x_open (cc := cX5_back) (maxL := 2) (ret := (some .int)) (by decide) rfl (Nat.le_of_ble_eq_true rfl) ?_
  intro p e s m args below meth c G _
  have inX5 : ∀ w ∈ wsX50, w ∈ wsX5_back := inX5_back_5
  refine x_iload_n G dX5_back_0 rfl ?_
  refine x_iconstV (v := nI 0) G dX5_back_1 (by decide) ?_
  refine x_aload_n G dX5_back_2 rfl ?_
  refine x_get G kX5 inX5 3 (by decide) (by decide +kernel) dX5_back_3 (md_o M) rfl ?_
  refine x_iconstV (v := nI 0) G dX5_back_6 (by decide) ?_
  refine x_ialdN G dX5_back_7 (md_st M) (by omega) (by decide) ?_
  refine x_topE (y := nI n) hn ?_
  refine x_iconstV (v := nI 1) G dX5_back_8 (by decide) ?_
  refine x_isub G dX5_back_9 ?_
  refine x_callS (n := 3) (rest := []) (As := [.int (v), .int (nI 0), .int (nI n - nI 1)]) G (c_in (Post := fun r7 h7 sz7 => r7 = some (.int (x_b ((nI 0) ≤ (v) ∧ (v) ≤ (nI n - nI 1)))) ∧ h = h7 ∧ sz = sz7) l D ⟨rfl, rfl, rfl⟩) gX5_back_X5_in rfl ⟨by decide +kernel, by decide +kernel, by decide +kernel⟩ ⟨by decide, by decide⟩ dX5_back_10 rfl rfl (Nat.le_of_ble_eq_true rfl) ⟨by decide, by decide⟩ ?_
  rintro _ _ _ ⟨rfl, rfl, rfl⟩
  try dsimp only [Option.toList, List.cons_append, List.nil_append]
  refine x_if_ne G 19 dX5_back_13 (by decide) (fun c_13 => ?_) (fun c_13 => ?_)
  · obtain ⟨k, hk, rfl⟩ := in_nat (by omega) (x_b_n.mp c_13)
    clear c_13
    refine x_aload_n G dX5_back_19 rfl ?_
    refine x_callV (n := 0) (rest := []) (As := []) G (ci := 5) (c_notes (Post := fun r7 h7 sz7 => r7 = none ∧ Md dA h7 b tx ln fa st (nt_e de st d) (nI (nt_d d)) sd im se kp pl wr dp su wa fc po ro fr ch ov ∧ xF b (b + 14) h h7) l D hd M (fun h7 sz7 q1 q2 => ⟨rfl, q1, q2⟩)) gX5_back_X5_notes rfl ⟨rfl, by decide +kernel, by decide +kernel, by decide +kernel⟩ ⟨by decide, by decide⟩ rfl rfl (md_o M) dX5_back_20 rfl rfl (Nat.le_of_ble_eq_true rfl) ⟨by decide, by decide⟩ ?_
    rintro _ h1 sz1 ⟨rfl, M, F⟩
    try dsimp only [Option.toList, List.cons_append, List.nil_append]
    refine x_aload_n G dX5_back_23 rfl ?_
    refine x_get G kX5 inX5 3 (by decide) (by decide +kernel) dX5_back_24 (md_o M) rfl ?_
    refine x_iconstV (v := nI 0) G dX5_back_27 (by decide) ?_
    refine x_dup2 G dX5_back_28 rfl rfl ?_
    refine x_ialdN G dX5_back_29 (md_st M) (by omega) (by decide) ?_
    refine x_topE (y := nI n) hn ?_
    refine x_iconstV (v := nI 1) G dX5_back_30 (by decide) ?_
    refine x_isub G dX5_back_31 ?_
    refine x_topE (y := nI (n - 1)) (pk_sub (by omega)) ?_
    refine x_iastN G dX5_back_32 (md_st M) (by omega) (by decide) ?_
    have M := md_st_s M (upd st 0 (nI (n - 1)))
    have F := xF_up (a := b + 2) (e := .inl (dA 0, 69, .inl (upd st 0 (nI (n - 1))))) F (by omega) (by omega)
    refine x_aload_n G dX5_back_33 rfl ?_
    refine x_get G kX5 inX5 3 (by decide) (by decide +kernel) dX5_back_34 (md_o M) rfl ?_
    refine x_iconstV (v := nI 1) G dX5_back_37 (by decide) ?_
    refine x_bipushV (v := nI 10) G dX5_back_38 (by decide) ?_
    refine x_iload_n G dX5_back_40 rfl ?_
    refine x_iconstV (v := nI 1) G dX5_back_41 (by decide) ?_
    refine x_iadd G dX5_back_42 ?_
    refine x_imul G dX5_back_43 ?_
    refine x_iadd G dX5_back_44 ?_
    refine x_topE (y := nI (1 + 10 * (k + 1))) (by rw [nI_add, pk_mul, nI_add]) ?_
    refine x_aload_n G dX5_back_45 rfl ?_
    refine x_get G kX5 inX5 3 (by decide) (by decide +kernel) dX5_back_46 (md_o M) rfl ?_
    refine x_iconstV (v := nI 1) G dX5_back_49 (by decide) ?_
    refine x_bipushV (v := nI 10) G dX5_back_50 (by decide) ?_
    refine x_iload_n G dX5_back_52 rfl ?_
    refine x_imul G dX5_back_53 ?_
    refine x_iadd G dX5_back_54 ?_
    refine x_topE (y := nI (1 + 10 * k)) (by rw [pk_mul, nI_add]) ?_
    refine x_bipushV (v := nI 10) G dX5_back_55 (by decide) ?_
    refine x_aload_n G dX5_back_57 rfl ?_
    refine x_get G kX5 inX5 3 (by decide) (by decide +kernel) dX5_back_58 (md_o M) rfl ?_
    refine x_iconstV (v := nI 0) G dX5_back_61 (by decide) ?_
    refine x_ialdN G dX5_back_62 (md_st M) (by omega) (by decide) ?_
    refine x_topE (y := nI (n - 1)) pk_us ?_
    refine x_iload_n G dX5_back_63 rfl ?_
    refine x_isub G dX5_back_64 ?_
    refine x_imul G dX5_back_65 ?_
    refine x_topE (y := nI (10 * (n - 1 - k))) (by rw [pk_sub (by omega), pk_mul]) ?_
    refine x_callS (n := 5) (rest := []) (As := [.ref (b + 2), .int (nI (1 + 10 * (k + 1))), .ref (b + 2), .int (nI (1 + 10 * k)), .int (nI (10 * (n - 1 - k)))]) G (c_bring (Post := fun r7 h7 sz7 => r7 = none ∧ h7 = x_up _ (b + 2) (.inl (dA 0, 69, .inl (va_cpy (upd st 0 (nI (n - 1))) (upd st 0 (nI (n - 1))) (1 + 10 * (k + 1)) (1 + 10 * k) (10 * (n - 1 - k)))))) l D (md_st M) (md_st M) (Or.inr ⟨rfl, by omega, rfl, rfl⟩) (by omega) (by omega) (by decide) (by decide) (fun sz7 => ⟨rfl, rfl⟩)) gX5_back_X5_bring rfl ⟨by decide +kernel, by decide +kernel, by decide +kernel⟩ ⟨by decide, by decide⟩ dX5_back_66 rfl rfl (Nat.le_of_ble_eq_true rfl) ⟨by decide, by decide⟩ ?_
    rintro _ _ sz1 ⟨rfl, rfl⟩
    try dsimp only [Option.toList, List.cons_append, List.nil_append]
    have M := md_st_s M (va_cpy (upd st 0 (nI (n - 1))) (upd st 0 (nI (n - 1))) (1 + 10 * (k + 1)) (1 + 10 * k) (10 * (n - 1 - k)))
    have F := xF_up (a := b + 2) (e := .inl (dA 0, 69, .inl (va_cpy (upd st 0 (nI (n - 1))) (upd st 0 (nI (n - 1))) (1 + 10 * (k + 1)) (1 + 10 * k) (10 * (n - 1 - k))))) F (by omega) (by omega)
    refine x_aload_n G dX5_back_69 rfl ?_
    refine x_get G kX5 inX5 3 (by decide) (by decide +kernel) dX5_back_70 (md_o M) rfl ?_
    refine x_iconstV (v := nI 0) G dX5_back_73 (by decide) ?_
    refine x_ialdN G dX5_back_74 (md_st M) (by omega) (by decide) ?_
    refine x_topE (y := nI (n - 1)) bk_0 ?_
    exact x_iret G dX5_back_75 (hp2 k hk rfl _ _ M F)
  · have e1 := x_b_0.mp c_13
    refine x_ldc G (-1000000001) (by decide +kernel) dX5_back_16 ?_
    exact x_iret G dX5_back_18 (hp1 e1)
theorem inX5_scale_5 : ∀ w ∈ wsX50, w ∈ wsX5_scale := by decide +kernel
def sc_st (st : Nat → Int32) (k : Nat) (a c : Int32) : Nat → Int32 := upd (upd st (61 + k) a) (65 + k) c
def sc_n (st : Nat → Int32) (j : Nat) : Bool := !(st (61 + j) == st (65 + j))
set_option maxRecDepth 100000 in
set_option maxHeartbeats 4000000 in
/-- scale -/
theorem c_scale (l : Launch) (D : va_G) {dA : Nat → ClassId} {b n d : Nat} {v x y : Int32} {tx : Nat → Int32} {ln : Int32} {fa : Int32} {st : Nat → Int32} {de : Nat → Int32} {sd : Int64} {im : Nat → Int32} {se : Nat → Int64} {kp : Nat → Int32} {pl : Int32} {wr : Int32} {dp : Int32} {su : Nat → Int32} {wa : Nat → Int32} {fc : Nat → Int32} {po : Nat → Int32} {ro : Nat → Int64} {fr : Int32} {ch : Nat → Int64} {ov : Nat → Int64} {h : xH} {sz : Nat} {Post : Option Value → xH → Nat → Prop} (hd : d ≤ 20) (M : Md dA h b tx ln fa st de (nI d) sd im se kp pl wr dp su wa fc po ro fr ch ov) (hp1 : ¬ (nI 0 ≤ v ∧ v ≤ nI 3) → Post (some (.int (-1000000001))) h sz) (hp2 : (nI 0 ≤ v ∧ v ≤ nI 3) → ¬ ((nI 1 ≤ x ∧ x ≤ nI 12) ∧ (nI 1 ≤ y ∧ y ≤ nI 12)) → Post (some (.int (-1000000002))) h sz) (hp3 : ∀ k, k ≤ 3 → v = nI k → (nI 1 ≤ x ∧ x ≤ nI 12) → (nI 1 ≤ y ∧ y ≤ nI 12) → ∀ (h1 : xH) (sz1 : Nat), Md dA h1 b tx ln fa (sc_st st k x y) (nt_e de st d) (nI (nt_d d)) sd im se kp pl wr dp su wa fc po ro fr ch ov → xF b (b + 14) h h1 → Post (some (.int (nI (r_ct (sc_n (sc_st st k x y)) 4)))) h1 sz1) (hpost : True) : xMet l yX5_scale wsX5_scale 2 45 0 0 D dA [.ref b, .int v, .int x, .int y] h sz Post := by
  refine x_open (cc := cX5_scale) (maxL := 6) (ret := (some .int)) (by decide) rfl (Nat.le_of_ble_eq_true rfl) ?_
  intro p e s m args below meth c G _
  have inX5 : ∀ w ∈ wsX50, w ∈ wsX5_scale := inX5_scale_5
  refine x_iload_n G dX5_scale_0 rfl ?_
  refine x_callS (n := 1) (rest := []) (As := [.int v]) G (c_isBase (Post := fun r7 h7 sz7 => r7 = some (.int (x_b (nI 0 ≤ v ∧ v ≤ nI 3))) ∧ h = h7 ∧ sz = sz7) l D ⟨rfl, rfl, rfl⟩) gX5_scale_X5_isBase rfl ⟨by decide +kernel, by decide +kernel, by decide +kernel⟩ ⟨by decide, by decide⟩ dX5_scale_1 rfl rfl (Nat.le_of_ble_eq_true rfl) ⟨by decide, by decide⟩ ?_
  rintro _ _ _ ⟨rfl, rfl, rfl⟩
  try dsimp only [Option.toList, List.cons_append, List.nil_append]
  refine x_if_ne G 10 dX5_scale_4 (by decide) (fun c_4 => ?_) (fun c_4 => ?_)
  · have e1 := x_b_n.mp c_4
    refine x_iload_n G dX5_scale_10 rfl ?_
    refine x_iconstV (v := nI 1) G dX5_scale_11 (by decide) ?_
    refine x_bipushV (v := nI 12) G dX5_scale_12 (by decide) ?_
    refine x_callS (n := 3) (rest := []) (As := [.int (x), .int (nI 1), .int (nI 12)]) G (c_in (Post := fun r7 h7 sz7 => r7 = some (.int (x_b ((nI 1) ≤ (x) ∧ (x) ≤ (nI 12)))) ∧ h = h7 ∧ sz = sz7) l D ⟨rfl, rfl, rfl⟩) gX5_scale_X5_in rfl ⟨by decide +kernel, by decide +kernel, by decide +kernel⟩ ⟨by decide, by decide⟩ dX5_scale_14 rfl rfl (Nat.le_of_ble_eq_true rfl) ⟨by decide, by decide⟩ ?_
    rintro _ _ _ ⟨rfl, rfl, rfl⟩
    try dsimp only [Option.toList, List.cons_append, List.nil_append]
    refine x_if_eq G 30 dX5_scale_17 (by decide) (fun c_17 => ?_) (fun c_17 => ?_)
    · have e2 := x_b_0.mp c_17
      refine x_ldc G (-1000000002) (by decide +kernel) dX5_scale_30 ?_
      exact x_iret G dX5_scale_32 (hp2 e1 (fun z => e2 z.1))
    · have e2 := x_b_n.mp c_17
      refine x_iload_n G dX5_scale_20 rfl ?_
      refine x_iconstV (v := nI 1) G dX5_scale_21 (by decide) ?_
      refine x_bipushV (v := nI 12) G dX5_scale_22 (by decide) ?_
      refine x_callS (n := 3) (rest := []) (As := [.int (y), .int (nI 1), .int (nI 12)]) G (c_in (Post := fun r7 h7 sz7 => r7 = some (.int (x_b ((nI 1) ≤ (y) ∧ (y) ≤ (nI 12)))) ∧ h = h7 ∧ sz = sz7) l D ⟨rfl, rfl, rfl⟩) gX5_scale_X5_in rfl ⟨by decide +kernel, by decide +kernel, by decide +kernel⟩ ⟨by decide, by decide⟩ dX5_scale_24 rfl rfl (Nat.le_of_ble_eq_true rfl) ⟨by decide, by decide⟩ ?_
      rintro _ _ _ ⟨rfl, rfl, rfl⟩
      try dsimp only [Option.toList, List.cons_append, List.nil_append]
      refine x_if_ne G 33 dX5_scale_27 (by decide) (fun c_27 => ?_) (fun c_27 => ?_)
      · have e3 := x_b_n.mp c_27
        obtain ⟨k, -, hk, rfl⟩ := in_nat2 (by omega) (by decide) e1
        refine x_aload_n G dX5_scale_33 rfl ?_
        refine x_callV (n := 0) (rest := []) (As := []) G (ci := 5) (c_notes (Post := fun r7 h7 sz7 => r7 = none ∧ Md dA h7 b tx ln fa st (nt_e de st d) (nI (nt_d d)) sd im se kp pl wr dp su wa fc po ro fr ch ov ∧ xF b (b + 14) h h7) l D hd M (fun h7 sz7 q1 q2 => ⟨rfl, q1, q2⟩)) gX5_scale_X5_notes rfl ⟨rfl, by decide +kernel, by decide +kernel, by decide +kernel⟩ ⟨by decide, by decide⟩ rfl rfl (md_o M) dX5_scale_34 rfl rfl (Nat.le_of_ble_eq_true rfl) ⟨by decide, by decide⟩ ?_
        rintro _ h1 sz1 ⟨rfl, M, F⟩
        try dsimp only [Option.toList, List.cons_append, List.nil_append]
        refine x_aload_n G dX5_scale_37 rfl ?_
        refine x_get G kX5 inX5 3 (by decide) (by decide +kernel) dX5_scale_38 (md_o M) rfl ?_
        refine x_bipushV (v := nI 61) G dX5_scale_41 (by decide) ?_
        refine x_iload_n G dX5_scale_43 rfl ?_
        refine x_iadd G dX5_scale_44 ?_
        refine x_topE (y := nI (61 + k)) (by rw [nI_add]) ?_
        refine x_iload_n G dX5_scale_45 rfl ?_
        refine x_iastN G dX5_scale_46 (md_st M) (by omega) (by decide) ?_
        have M := md_st_s M (upd st (61 + k) x)
        have F := xF_up (a := b + 2) (e := .inl (dA 0, 69, .inl (upd st (61 + k) x))) F (by omega) (by omega)
        refine x_aload_n G dX5_scale_47 rfl ?_
        refine x_get G kX5 inX5 3 (by decide) (by decide +kernel) dX5_scale_48 (md_o M) rfl ?_
        refine x_bipushV (v := nI 65) G dX5_scale_51 (by decide) ?_
        refine x_iload_n G dX5_scale_53 rfl ?_
        refine x_iadd G dX5_scale_54 ?_
        refine x_topE (y := nI (65 + k)) (by rw [nI_add]) ?_
        refine x_iload_n G dX5_scale_55 rfl ?_
        refine x_iastN G dX5_scale_56 (md_st M) (by omega) (by decide) ?_
        have M := md_st_s M (sc_st st k x y)
        have F := xF_up (a := b + 2) (e := .inl (dA 0, 69, .inl (sc_st st k x y))) F (by omega) (by omega)
        refine x_iconstV (v := nI 0) G dX5_scale_57 (by decide) ?_
        refine x_istore G dX5_scale_58 (by decide) ?_
        refine x_iconstV (v := nI 0) G dX5_scale_60 (by decide) ?_
        refine x_istore G dX5_scale_61 (by decide) ?_
        refine x_loop (σ := Unit) (fun j _ => [(0, .ref b), (1, .int (nI k)), (2, .int x), (3, .int y), (4, .int (nI (r_ct (sc_n (sc_st st k x y)) j))), (5, .int (nI j))]) 4 (fun j _ h1 sz1 => Md dA h1 b tx ln fa (sc_st st k x y) (nt_e de st d) (nI (nt_d d)) sd im se kp pl wr dp su wa fc po ro fr ch ov ∧ xF b (b + 14) h h1) ?_ ?_ 0 () _ _ (Nat.zero_le _) ⟨M, F⟩
        · intro j _ h1 sz1 hj hI nx
          try dsimp only at hI nx ⊢
          obtain ⟨M, F⟩ := hI
          refine x_iload G dX5_scale_63 rfl ?_
          refine x_iconstV (v := nI 4) G dX5_scale_65 (by decide) ?_
          refine x_icmp_ge G 108 dX5_scale_66 (by decide) (fun c_66 => ?_) (fun c_66 => ?_)
          · exact absurd c_66 (nI_ge hj (by omega))
          · refine x_iload G dX5_scale_69 rfl ?_
            refine x_aload_n G dX5_scale_71 rfl ?_
            refine x_get G kX5 inX5 3 (by decide) (by decide +kernel) dX5_scale_72 (md_o M) rfl ?_
            refine x_bipushV (v := nI 61) G dX5_scale_75 (by decide) ?_
            refine x_iload G dX5_scale_77 rfl ?_
            refine x_iadd G dX5_scale_79 ?_
            refine x_topE (y := nI (61 + j)) (by rw [nI_add]) ?_
            refine x_ialdN G dX5_scale_80 (md_st M) (by omega) (by decide) ?_
            refine x_aload_n G dX5_scale_81 rfl ?_
            refine x_get G kX5 inX5 3 (by decide) (by decide +kernel) dX5_scale_82 (md_o M) rfl ?_
            refine x_bipushV (v := nI 65) G dX5_scale_85 (by decide) ?_
            refine x_iload G dX5_scale_87 rfl ?_
            refine x_iadd G dX5_scale_89 ?_
            refine x_topE (y := nI (65 + j)) (by rw [nI_add]) ?_
            refine x_ialdN G dX5_scale_90 (md_st M) (by omega) (by decide) ?_
            refine x_icmp_ne G 98 dX5_scale_91 (by decide) (fun c_91 => ?_) (fun c_91 => ?_)
            · have ez : nI (r_ct (sc_n (sc_st st k x y)) (j + 1)) = nI (r_ct (sc_n (sc_st st k x y)) j) + nI 1 := by
                rw [nI_add]
                show nI (_ + (if _ then _ else _)) = _
                rw [if_pos (by unfold sc_n; rw [Bool.not_eq_true', beq_eq_false_iff_ne]; exact c_91)]
              refine x_iconstV (v := nI 1) G dX5_scale_98 (by decide) ?_
              refine x_iadd G dX5_scale_99 ?_
              refine x_istore G dX5_scale_100 (by decide) ?_
              refine x_iinc G dX5_scale_102 rfl (by decide) ?_
              refine x_goto G 63 dX5_scale_105 (by decide) ?_
              refine x_locE (lv2 := [(0, .ref b), (1, .int (nI k)), (2, .int x), (3, .int y), (4, .int (nI (r_ct (sc_n (sc_st st k x y)) (j + 1)))), (5, .int (nI (j + 1)))]) (by rw [ez, nI_succ j]; rfl) ?_
              exact nx () _ _ ⟨M, F⟩
            · have ez : nI (r_ct (sc_n (sc_st st k x y)) (j + 1)) = nI (r_ct (sc_n (sc_st st k x y)) j) + nI 0 := by
                rw [nI_add]
                show nI (_ + (if _ then _ else _)) = _
                rw [if_neg (by unfold sc_n; rw [Bool.not_eq_true', beq_eq_false_iff_ne]; exact fun z => z c_91)]
              refine x_iconstV (v := nI 0) G dX5_scale_94 (by decide) ?_
              refine x_goto G 99 dX5_scale_95 (by decide) ?_
              refine x_iadd G dX5_scale_99 ?_
              refine x_istore G dX5_scale_100 (by decide) ?_
              refine x_iinc G dX5_scale_102 rfl (by decide) ?_
              refine x_goto G 63 dX5_scale_105 (by decide) ?_
              refine x_locE (lv2 := [(0, .ref b), (1, .int (nI k)), (2, .int x), (3, .int y), (4, .int (nI (r_ct (sc_n (sc_st st k x y)) (j + 1)))), (5, .int (nI (j + 1)))]) (by rw [ez, nI_succ j]; rfl) ?_
              exact nx () _ _ ⟨M, F⟩
        · intro _ h1 sz1 hI
          try dsimp only at hI ⊢
          obtain ⟨M, F⟩ := hI
          refine x_iload G dX5_scale_63 rfl ?_
          refine x_iconstV (v := nI 4) G dX5_scale_65 (by decide) ?_
          refine x_icmp_ge G 108 dX5_scale_66 (by decide) (fun c_66 => ?_) (fun c_66 => ?_)
          · refine x_iload G dX5_scale_108 rfl ?_
            exact x_iret G dX5_scale_110 (hp3 k hk rfl e2 e3 _ _ M F)
          · exact absurd (nI_le (Nat.le_refl _) (by omega)) c_66
      · have e3 := x_b_0.mp c_27
        refine x_ldc G (-1000000002) (by decide +kernel) dX5_scale_30 ?_
        exact x_iret G dX5_scale_32 (hp2 e1 (fun z => e3 z.2))
  · have e1 := x_b_0.mp c_4
    refine x_ldc G (-1000000001) (by decide +kernel) dX5_scale_7 ?_
    exact x_iret G dX5_scale_9 (hp1 e1)
theorem inX5_undo_5 : ∀ w ∈ wsX50, w ∈ wsX5_undo := by decide +kernel
set_option maxRecDepth 100000 in
set_option maxHeartbeats 4000000 in
/-- undo -/
theorem c_undo (l : Launch) (D : va_G) {dA : Nat → ClassId} {b d : Nat} {v : Int32} {tx : Nat → Int32} {ln : Int32} {fa : Int32} {st : Nat → Int32} {de : Nat → Int32} {sd : Int64} {im : Nat → Int32} {se : Nat → Int64} {kp : Nat → Int32} {pl : Int32} {wr : Int32} {dp : Int32} {su : Nat → Int32} {wa : Nat → Int32} {fc : Nat → Int32} {po : Nat → Int32} {ro : Nat → Int64} {fr : Int32} {ch : Nat → Int64} {ov : Nat → Int64} {h : xH} {sz : Nat} {Post : Option Value → xH → Nat → Prop} (hd : d ≤ 20) (M : Md dA h b tx ln fa st de (nI d) sd im se kp pl wr dp su wa fc po ro fr ch ov) (hp1 : ¬ (nI 1 ≤ v ∧ v ≤ nI 20) → Post (some (.int (-1000000002))) h sz) (hp2 : ∀ u, 1 ≤ u → u ≤ 20 → v = nI u → ¬ u ≤ d → Post (some (.int (-1000000003))) h sz) (hp3 : ∀ u, 1 ≤ u → u ≤ 20 → v = nI u → u ≤ d → ∀ (h1 : xH) (sz1 : Nat), Md dA h1 b tx ln fa (va_cpy de st (69 * (d - u)) 0 69) de (nI (d - u)) sd im se kp pl wr dp su wa fc po ro fr ch ov → xF b (b + 14) h h1 → Post (some (.int (va_cpy de st (69 * (d - u)) 0 69 0))) h1 sz1) (hpost : True) : xMet l yX5_undo wsX5_undo 1 25 0 0 D dA [.ref b, .int v] h sz Post := by
  refine x_open (cc := cX5_undo) (maxL := 2) (ret := (some .int)) (by decide) rfl (Nat.le_of_ble_eq_true rfl) ?_
  intro p e s m args below meth c G _
  have inX5 : ∀ w ∈ wsX50, w ∈ wsX5_undo := inX5_undo_5
  have F := xF_rf (lo := b) (hi := b + 14) (h := h)
  refine x_iload_n G dX5_undo_0 rfl ?_
  refine x_iconstV (v := nI 1) G dX5_undo_1 (by decide) ?_
  refine x_bipushV (v := nI 20) G dX5_undo_2 (by decide) ?_
  refine x_callS (n := 3) (rest := []) (As := [.int (v), .int (nI 1), .int (nI 20)]) G (c_in (Post := fun r7 h7 sz7 => r7 = some (.int (x_b ((nI 1) ≤ (v) ∧ (v) ≤ (nI 20)))) ∧ h = h7 ∧ sz = sz7) l D ⟨rfl, rfl, rfl⟩) gX5_undo_X5_in rfl ⟨by decide +kernel, by decide +kernel, by decide +kernel⟩ ⟨by decide, by decide⟩ dX5_undo_4 rfl rfl (Nat.le_of_ble_eq_true rfl) ⟨by decide, by decide⟩ ?_
  rintro _ _ _ ⟨rfl, rfl, rfl⟩
  try dsimp only [Option.toList, List.cons_append, List.nil_append]
  refine x_if_ne G 13 dX5_undo_7 (by decide) (fun c_7 => ?_) (fun c_7 => ?_)
  · obtain ⟨u, hu1, hu2, rfl⟩ := in_nat2 (by omega) (by decide) (x_b_n.mp c_7)
    refine x_iload_n G dX5_undo_13 rfl ?_
    refine x_aload_n G dX5_undo_14 rfl ?_
    refine x_get G kX5 inX5 5 (by decide) (by decide +kernel) dX5_undo_15 (md_o M) rfl ?_
    refine x_icmp_le G 24 dX5_undo_18 (by decide) (fun c_18 => ?_) (fun c_18 => ?_)
    · have e2 : u ≤ d := (nI_leI (by omega) (by omega)).mp c_18
      refine x_aload_n G dX5_undo_24 rfl ?_
      refine x_dup G dX5_undo_25 rfl ?_
      refine x_get G kX5 inX5 5 (by decide) (by decide +kernel) dX5_undo_26 (md_o M) rfl ?_
      refine x_iload_n G dX5_undo_29 rfl ?_
      refine x_isub G dX5_undo_30 ?_
      refine x_topE (y := nI (d - u)) (pk_sub e2) ?_
      refine x_put G kX5 inX5 5 (by decide) (by decide +kernel) rfl dX5_undo_31 (md_o M) rfl rfl (Nat.le_of_ble_eq_true rfl) ?_
      have M := md_dm_s M (nI (d - u))
      have F := xF_up (a := b) (e := .inr (5, List.set [.ref (b + 1), .int (ln), .int (fa), .ref (b + 2), .ref (b + 3), .int (nI d), .long (sd), .ref (b + 4), .ref (b + 5), .ref (b + 6), .int (pl), .int (wr), .int (dp), .ref (b + 7), .ref (b + 8), .ref (b + 9), .ref (b + 10), .ref (b + 11), .int (fr), .ref (b + 12), .ref (b + 13)] 5 (.int (nI (d - u))))) F (by omega) (by omega)
      refine x_aload_n G dX5_undo_34 rfl ?_
      refine x_get G kX5 inX5 4 (by decide) (by decide +kernel) dX5_undo_35 (md_o M) rfl ?_
      refine x_bipushV (v := nI 69) G dX5_undo_38 (by decide) ?_
      refine x_aload_n G dX5_undo_40 rfl ?_
      refine x_get G kX5 inX5 5 (by decide) (by decide +kernel) dX5_undo_41 (md_o M) rfl ?_
      refine x_imul G dX5_undo_44 ?_
      refine x_topE (y := nI (69 * (d - u))) (by rw [pk_mul]) ?_
      refine x_aload_n G dX5_undo_45 rfl ?_
      refine x_get G kX5 inX5 3 (by decide) (by decide +kernel) dX5_undo_46 (md_o M) rfl ?_
      refine x_iconstV (v := nI 0) G dX5_undo_49 (by decide) ?_
      refine x_bipushV (v := nI 69) G dX5_undo_50 (by decide) ?_
      refine x_callS (n := 5) (rest := []) (As := [.ref (b + 3), .int (nI (69 * (d - u))), .ref (b + 2), .int (nI (0)), .int (nI (69))]) G (c_bring (Post := fun r7 h7 sz7 => r7 = none ∧ h7 = x_up _ (b + 2) (.inl (dA 0, 69, .inl (va_cpy (de) (st) (69 * (d - u)) (0) (69))))) l D (md_de M) (md_st M) (Or.inl (by omega)) (by omega) (by omega) (by decide) (by decide) (fun sz7 => ⟨rfl, rfl⟩)) gX5_undo_X5_bring rfl ⟨by decide +kernel, by decide +kernel, by decide +kernel⟩ ⟨by decide, by decide⟩ dX5_undo_52 rfl rfl (Nat.le_of_ble_eq_true rfl) ⟨by decide, by decide⟩ ?_
      rintro _ _ sz1 ⟨rfl, rfl⟩
      try dsimp only [Option.toList, List.cons_append, List.nil_append]
      have M := md_st_s M (va_cpy (de) (st) (69 * (d - u)) (0) (69))
      have F := xF_up (a := b + 2) (e := .inl (dA 0, 69, .inl (va_cpy (de) (st) (69 * (d - u)) (0) (69)))) F (by omega) (by omega)
      refine x_aload_n G dX5_undo_55 rfl ?_
      refine x_get G kX5 inX5 3 (by decide) (by decide +kernel) dX5_undo_56 (md_o M) rfl ?_
      refine x_iconstV (v := nI 0) G dX5_undo_59 (by decide) ?_
      refine x_ialdN G dX5_undo_60 (md_st M) (by omega) (by decide) ?_
      exact x_iret G dX5_undo_61 (hp3 u hu1 hu2 rfl e2 _ _ M F)
    · have e2 : ¬ u ≤ d := fun z => c_18 ((nI_leI (by omega) (by omega)).mpr z)
      refine x_ldc G (-1000000003) (by decide +kernel) dX5_undo_21 ?_
      exact x_iret G dX5_undo_23 (hp2 u hu1 hu2 rfl e2)
  · have e1 := x_b_0.mp c_7
    refine x_ldc G (-1000000002) (by decide +kernel) dX5_undo_10 ?_
    exact x_iret G dX5_undo_12 (hp1 e1)
theorem inX5_seed_5 : ∀ w ∈ wsX50, w ∈ wsX5_seed := by decide +kernel
set_option maxRecDepth 100000 in
set_option maxHeartbeats 4000000 in
/-- seed -/
theorem c_seed (l : Launch) (D : va_G) {dA : Nat → ClassId} {b : Nat} {v : Int32} {tx : Nat → Int32} {ln : Int32} {fa : Int32} {st : Nat → Int32} {de : Nat → Int32} {dm : Int32} {sd : Int64} {im : Nat → Int32} {se : Nat → Int64} {kp : Nat → Int32} {pl : Int32} {wr : Int32} {dp : Int32} {su : Nat → Int32} {wa : Nat → Int32} {fc : Nat → Int32} {po : Nat → Int32} {ro : Nat → Int64} {fr : Int32} {ch : Nat → Int64} {ov : Nat → Int64} {h : xH} {sz : Nat} {Post : Option Value → xH → Nat → Prop} (M : Md dA h b tx ln fa st de dm sd im se kp pl wr dp su wa fc po ro fr ch ov) (hp1 : ¬ 0 ≤ v → Post (some (.int (-1000000002))) h sz) (hp2 : 0 ≤ v → ∀ (h1 : xH) (sz1 : Nat), Md dA h1 b tx ln fa st de dm v.toInt64 im se kp pl wr dp su wa fc po ro fr ch ov → xF b (b + 14) h h1 → Post (some (.int sd.toInt32)) h1 sz1) (hpost : True) : xMet l yX5_seed wsX5_seed 0 0 0 0 D dA [.ref b, .int v] h sz Post := by
  refine x_open (cc := cX5_seed) (maxL := 3) (ret := (some .int)) (by decide) rfl (Nat.le_of_ble_eq_true rfl) ?_
  intro p e s m args below meth c G _
  have inX5 : ∀ w ∈ wsX50, w ∈ wsX5_seed := inX5_seed_5
  have F := xF_rf (lo := b) (hi := b + 14) (h := h)
  refine x_iload_n G dX5_seed_0 rfl ?_
  refine x_if_ge G 7 dX5_seed_1 (by decide) (fun c_1 => ?_) (fun c_1 => ?_)
  · have e1 := c_1
    refine x_aload_n G dX5_seed_7 rfl ?_
    refine x_get G kX5 inX5 6 (by decide) (by decide +kernel) dX5_seed_8 (md_o M) rfl ?_
    refine x_l2i G dX5_seed_11 ?_
    refine x_istore_n G dX5_seed_12 (by decide) ?_
    refine x_aload_n G dX5_seed_13 rfl ?_
    refine x_iload_n G dX5_seed_14 rfl ?_
    refine x_i2l G dX5_seed_15 ?_
    refine x_put G kX5 inX5 6 (by decide) (by decide +kernel) rfl dX5_seed_16 (md_o M) rfl rfl (Nat.le_of_ble_eq_true rfl) ?_
    have M := md_sd_s M (v.toInt64)
    have F := xF_up (a := b) (e := .inr (5, List.set [.ref (b + 1), .int (ln), .int (fa), .ref (b + 2), .ref (b + 3), .int (dm), .long (sd), .ref (b + 4), .ref (b + 5), .ref (b + 6), .int (pl), .int (wr), .int (dp), .ref (b + 7), .ref (b + 8), .ref (b + 9), .ref (b + 10), .ref (b + 11), .int (fr), .ref (b + 12), .ref (b + 13)] 6 (.long (v.toInt64)))) F (by omega) (by omega)
    refine x_iload_n G dX5_seed_19 rfl ?_
    exact x_iret G dX5_seed_20 (hp2 e1 _ _ M F)
  · have e1 := c_1
    refine x_ldc G (-1000000002) (by decide +kernel) dX5_seed_4 ?_
    exact x_iret G dX5_seed_6 (hp1 e1)
theorem inX5_keep_5 : ∀ w ∈ wsX50, w ∈ wsX5_keep := by decide +kernel
set_option maxRecDepth 100000 in
set_option maxHeartbeats 4000000 in
/-- keep -/
theorem c_keep (l : Launch) (D : va_G) {dA : Nat → ClassId} {b : Nat} {v : Int32} {tx : Nat → Int32} {ln : Int32} {fa : Int32} {st : Nat → Int32} {de : Nat → Int32} {dm : Int32} {sd : Int64} {im : Nat → Int32} {se : Nat → Int64} {kp : Nat → Int32} {pl : Int32} {wr : Int32} {dp : Int32} {su : Nat → Int32} {wa : Nat → Int32} {fc : Nat → Int32} {po : Nat → Int32} {ro : Nat → Int64} {fr : Int32} {ch : Nat → Int64} {ov : Nat → Int64} {h : xH} {sz : Nat} {Post : Option Value → xH → Nat → Prop} (M : Md dA h b tx ln fa st de dm sd im se kp pl wr dp su wa fc po ro fr ch ov) (hp1 : ¬ (nI 0 ≤ v ∧ v ≤ nI 1) → Post (some (.int (-1000000001))) h sz) (hp2 : ∀ i, i ≤ 1 → v = nI i → ∀ (h1 : xH) (sz1 : Nat), Md dA h1 b tx ln fa st de (nI 0) sd (va_cpy st im 0 (69 * i) 69) (vp_updL se i sd) (upd kp i (nI 1)) pl wr dp su wa fc po ro fr ch ov → xF b (b + 14) h h1 → Post (some (.int (nI 1))) h1 sz1) (hpost : True) : xMet l yX5_keep wsX5_keep 1 25 0 0 D dA [.ref b, .int v] h sz Post := by
  refine x_open (cc := cX5_keep) (maxL := 2) (ret := (some .int)) (by decide) rfl (Nat.le_of_ble_eq_true rfl) ?_
  intro p e s m args below meth c G _
  have inX5 : ∀ w ∈ wsX50, w ∈ wsX5_keep := inX5_keep_5
  have F := xF_rf (lo := b) (hi := b + 14) (h := h)
  refine x_iload_n G dX5_keep_0 rfl ?_
  refine x_iconstV (v := nI 0) G dX5_keep_1 (by decide) ?_
  refine x_iconstV (v := nI 1) G dX5_keep_2 (by decide) ?_
  refine x_callS (n := 3) (rest := []) (As := [.int (v), .int (nI 0), .int (nI 1)]) G (c_in (Post := fun r7 h7 sz7 => r7 = some (.int (x_b ((nI 0) ≤ (v) ∧ (v) ≤ (nI 1)))) ∧ h = h7 ∧ sz = sz7) l D ⟨rfl, rfl, rfl⟩) gX5_keep_X5_in rfl ⟨by decide +kernel, by decide +kernel, by decide +kernel⟩ ⟨by decide, by decide⟩ dX5_keep_3 rfl rfl (Nat.le_of_ble_eq_true rfl) ⟨by decide, by decide⟩ ?_
  rintro _ _ _ ⟨rfl, rfl, rfl⟩
  try dsimp only [Option.toList, List.cons_append, List.nil_append]
  refine x_if_ne G 12 dX5_keep_6 (by decide) (fun c_6 => ?_) (fun c_6 => ?_)
  · obtain ⟨i, -, hi, rfl⟩ := in_nat2 (by omega) (by decide) (x_b_n.mp c_6)
    refine x_aload_n G dX5_keep_12 rfl ?_
    refine x_get G kX5 inX5 3 (by decide) (by decide +kernel) dX5_keep_13 (md_o M) rfl ?_
    refine x_iconstV (v := nI 0) G dX5_keep_16 (by decide) ?_
    refine x_aload_n G dX5_keep_17 rfl ?_
    refine x_get G kX5 inX5 7 (by decide) (by decide +kernel) dX5_keep_18 (md_o M) rfl ?_
    refine x_bipushV (v := nI 69) G dX5_keep_21 (by decide) ?_
    refine x_iload_n G dX5_keep_23 rfl ?_
    refine x_imul G dX5_keep_24 ?_
    refine x_topE (y := nI (69 * i)) (by rw [pk_mul]) ?_
    refine x_bipushV (v := nI 69) G dX5_keep_25 (by decide) ?_
    refine x_callS (n := 5) (rest := []) (As := [.ref (b + 2), .int (nI (0)), .ref (b + 4), .int (nI (69 * i)), .int (nI (69))]) G (c_bring (Post := fun r7 h7 sz7 => r7 = none ∧ h7 = x_up _ (b + 4) (.inl (dA 0, 138, .inl (va_cpy (st) (im) (0) (69 * i) (69))))) l D (md_st M) (md_im M) (Or.inl (by omega)) (by omega) (by omega) (by decide) (by decide) (fun sz7 => ⟨rfl, rfl⟩)) gX5_keep_X5_bring rfl ⟨by decide +kernel, by decide +kernel, by decide +kernel⟩ ⟨by decide, by decide⟩ dX5_keep_27 rfl rfl (Nat.le_of_ble_eq_true rfl) ⟨by decide, by decide⟩ ?_
    rintro _ _ sz1 ⟨rfl, rfl⟩
    try dsimp only [Option.toList, List.cons_append, List.nil_append]
    have M := md_im_s M (va_cpy (st) (im) (0) (69 * i) (69))
    have F := xF_up (a := b + 4) (e := .inl (dA 0, 138, .inl (va_cpy (st) (im) (0) (69 * i) (69)))) F (by omega) (by omega)
    refine x_aload_n G dX5_keep_30 rfl ?_
    refine x_get G kX5 inX5 8 (by decide) (by decide +kernel) dX5_keep_31 (md_o M) rfl ?_
    refine x_iload_n G dX5_keep_34 rfl ?_
    refine x_aload_n G dX5_keep_35 rfl ?_
    refine x_get G kX5 inX5 6 (by decide) (by decide +kernel) dX5_keep_36 (md_o M) rfl ?_
    refine x_lastN G dX5_keep_39 (md_se M) (by omega) (by decide) ?_
    have M := md_se_s M (vp_updL se i sd)
    have F := xF_up (a := b + 5) (e := .inl (dA 1, 2, .inr (.inl (vp_updL se i sd)))) F (by omega) (by omega)
    refine x_aload_n G dX5_keep_40 rfl ?_
    refine x_get G kX5 inX5 9 (by decide) (by decide +kernel) dX5_keep_41 (md_o M) rfl ?_
    refine x_iload_n G dX5_keep_44 rfl ?_
    refine x_iconstV (v := nI 1) G dX5_keep_45 (by decide) ?_
    refine x_zastN G dX5_keep_46 (md_kp M) (by omega) (by decide) ?_
    rw [show vp_nar .boolean (nI 1) = nI 1 from rfl]
    have M := md_kp_s M (upd kp i (nI 1))
    have F := xF_up (a := b + 6) (e := .inl (dA 2, 2, .inl (upd kp i (nI 1)))) F (by omega) (by omega)
    refine x_aload_n G dX5_keep_47 rfl ?_
    refine x_iconstV (v := nI 0) G dX5_keep_48 (by decide) ?_
    refine x_put G kX5 inX5 5 (by decide) (by decide +kernel) rfl dX5_keep_49 (md_o M) rfl rfl (Nat.le_of_ble_eq_true rfl) ?_
    have M := md_dm_s M (nI 0)
    have F := xF_up (a := b) (e := .inr (5, List.set [.ref (b + 1), .int (ln), .int (fa), .ref (b + 2), .ref (b + 3), .int (dm), .long (sd), .ref (b + 4), .ref (b + 5), .ref (b + 6), .int (pl), .int (wr), .int (dp), .ref (b + 7), .ref (b + 8), .ref (b + 9), .ref (b + 10), .ref (b + 11), .int (fr), .ref (b + 12), .ref (b + 13)] 5 (.int (nI 0)))) F (by omega) (by omega)
    refine x_iconstV (v := nI 1) G dX5_keep_52 (by decide) ?_
    exact x_iret G dX5_keep_53 (hp2 i hi rfl _ _ M F)
  · have e1 := x_b_0.mp c_6
    refine x_ldc G (-1000000001) (by decide +kernel) dX5_keep_9 ?_
    exact x_iret G dX5_keep_11 (hp1 e1)
theorem inX5_goBack_5 : ∀ w ∈ wsX50, w ∈ wsX5_goBack := by decide +kernel
set_option maxRecDepth 100000 in
set_option maxHeartbeats 4000000 in
/-- goBack -/
theorem c_goBack (l : Launch) (D : va_G) {dA : Nat → ClassId} {b : Nat} {v : Int32} {tx : Nat → Int32} {ln : Int32} {fa : Int32} {st : Nat → Int32} {de : Nat → Int32} {dm : Int32} {sd : Int64} {im : Nat → Int32} {se : Nat → Int64} {kp : Nat → Int32} {pl : Int32} {wr : Int32} {dp : Int32} {su : Nat → Int32} {wa : Nat → Int32} {fc : Nat → Int32} {po : Nat → Int32} {ro : Nat → Int64} {fr : Int32} {ch : Nat → Int64} {ov : Nat → Int64} {h : xH} {sz : Nat} {Post : Option Value → xH → Nat → Prop} (M : Md dA h b tx ln fa st de dm sd im se kp pl wr dp su wa fc po ro fr ch ov) (hp1 : ¬ (nI 0 ≤ v ∧ v ≤ nI 1) → Post (some (.int (-1000000001))) h sz) (hp2 : ∀ i, i ≤ 1 → v = nI i → kp i = 0 → Post (some (.int (-1000000003))) h sz) (hp3 : ∀ i, i ≤ 1 → v = nI i → ¬ kp i = 0 → ∀ (h1 : xH) (sz1 : Nat), Md dA h1 b tx ln fa (va_cpy im st (69 * i) 0 69) de (nI 0) (se i) im se kp pl wr dp su wa fc po ro fr ch ov → xF b (b + 14) h h1 → Post (some (.int (nI 1))) h1 sz1) (hpost : True) : xMet l yX5_goBack wsX5_goBack 1 25 0 0 D dA [.ref b, .int v] h sz Post := by
  refine x_open (cc := cX5_goBack) (maxL := 2) (ret := (some .int)) (by decide) rfl (Nat.le_of_ble_eq_true rfl) ?_
  intro p e s m args below meth c G _
  have inX5 : ∀ w ∈ wsX50, w ∈ wsX5_goBack := inX5_goBack_5
  have F := xF_rf (lo := b) (hi := b + 14) (h := h)
  refine x_iload_n G dX5_goBack_0 rfl ?_
  refine x_iconstV (v := nI 0) G dX5_goBack_1 (by decide) ?_
  refine x_iconstV (v := nI 1) G dX5_goBack_2 (by decide) ?_
  refine x_callS (n := 3) (rest := []) (As := [.int (v), .int (nI 0), .int (nI 1)]) G (c_in (Post := fun r7 h7 sz7 => r7 = some (.int (x_b ((nI 0) ≤ (v) ∧ (v) ≤ (nI 1)))) ∧ h = h7 ∧ sz = sz7) l D ⟨rfl, rfl, rfl⟩) gX5_goBack_X5_in rfl ⟨by decide +kernel, by decide +kernel, by decide +kernel⟩ ⟨by decide, by decide⟩ dX5_goBack_3 rfl rfl (Nat.le_of_ble_eq_true rfl) ⟨by decide, by decide⟩ ?_
  rintro _ _ _ ⟨rfl, rfl, rfl⟩
  try dsimp only [Option.toList, List.cons_append, List.nil_append]
  refine x_if_ne G 12 dX5_goBack_6 (by decide) (fun c_6 => ?_) (fun c_6 => ?_)
  · obtain ⟨i, -, hi, rfl⟩ := in_nat2 (by omega) (by decide) (x_b_n.mp c_6)
    refine x_aload_n G dX5_goBack_12 rfl ?_
    refine x_get G kX5 inX5 9 (by decide) (by decide +kernel) dX5_goBack_13 (md_o M) rfl ?_
    refine x_iload_n G dX5_goBack_16 rfl ?_
    refine x_zaldN G dX5_goBack_17 (md_kp M) (by omega) (by decide) ?_
    refine x_if_ne G 24 dX5_goBack_18 (by decide) (fun c_18 => ?_) (fun c_18 => ?_)
    · refine x_aload_n G dX5_goBack_24 rfl ?_
      refine x_get G kX5 inX5 7 (by decide) (by decide +kernel) dX5_goBack_25 (md_o M) rfl ?_
      refine x_bipushV (v := nI 69) G dX5_goBack_28 (by decide) ?_
      refine x_iload_n G dX5_goBack_30 rfl ?_
      refine x_imul G dX5_goBack_31 ?_
      refine x_topE (y := nI (69 * i)) (by rw [pk_mul]) ?_
      refine x_aload_n G dX5_goBack_32 rfl ?_
      refine x_get G kX5 inX5 3 (by decide) (by decide +kernel) dX5_goBack_33 (md_o M) rfl ?_
      refine x_iconstV (v := nI 0) G dX5_goBack_36 (by decide) ?_
      refine x_bipushV (v := nI 69) G dX5_goBack_37 (by decide) ?_
      refine x_callS (n := 5) (rest := []) (As := [.ref (b + 4), .int (nI (69 * i)), .ref (b + 2), .int (nI (0)), .int (nI (69))]) G (c_bring (Post := fun r7 h7 sz7 => r7 = none ∧ h7 = x_up _ (b + 2) (.inl (dA 0, 69, .inl (va_cpy (im) (st) (69 * i) (0) (69))))) l D (md_im M) (md_st M) (Or.inl (by omega)) (by omega) (by omega) (by decide) (by decide) (fun sz7 => ⟨rfl, rfl⟩)) gX5_goBack_X5_bring rfl ⟨by decide +kernel, by decide +kernel, by decide +kernel⟩ ⟨by decide, by decide⟩ dX5_goBack_39 rfl rfl (Nat.le_of_ble_eq_true rfl) ⟨by decide, by decide⟩ ?_
      rintro _ _ sz1 ⟨rfl, rfl⟩
      try dsimp only [Option.toList, List.cons_append, List.nil_append]
      have M := md_st_s M (va_cpy (im) (st) (69 * i) (0) (69))
      have F := xF_up (a := b + 2) (e := .inl (dA 0, 69, .inl (va_cpy (im) (st) (69 * i) (0) (69)))) F (by omega) (by omega)
      refine x_aload_n G dX5_goBack_42 rfl ?_
      refine x_aload_n G dX5_goBack_43 rfl ?_
      refine x_get G kX5 inX5 8 (by decide) (by decide +kernel) dX5_goBack_44 (md_o M) rfl ?_
      refine x_iload_n G dX5_goBack_47 rfl ?_
      refine x_laldN G dX5_goBack_48 (md_se M) (by omega) (by decide) ?_
      refine x_put G kX5 inX5 6 (by decide) (by decide +kernel) rfl dX5_goBack_49 (md_o M) rfl rfl (Nat.le_of_ble_eq_true rfl) ?_
      have M := md_sd_s M (se i)
      have F := xF_up (a := b) (e := .inr (5, List.set [.ref (b + 1), .int (ln), .int (fa), .ref (b + 2), .ref (b + 3), .int (dm), .long (sd), .ref (b + 4), .ref (b + 5), .ref (b + 6), .int (pl), .int (wr), .int (dp), .ref (b + 7), .ref (b + 8), .ref (b + 9), .ref (b + 10), .ref (b + 11), .int (fr), .ref (b + 12), .ref (b + 13)] 6 (.long (se i)))) F (by omega) (by omega)
      refine x_aload_n G dX5_goBack_52 rfl ?_
      refine x_iconstV (v := nI 0) G dX5_goBack_53 (by decide) ?_
      refine x_put G kX5 inX5 5 (by decide) (by decide +kernel) rfl dX5_goBack_54 (md_o M) rfl rfl (Nat.le_of_ble_eq_true rfl) ?_
      have M := md_dm_s M (nI 0)
      have F := xF_up (a := b) (e := .inr (5, List.set [.ref (b + 1), .int (ln), .int (fa), .ref (b + 2), .ref (b + 3), .int (dm), .long (se i), .ref (b + 4), .ref (b + 5), .ref (b + 6), .int (pl), .int (wr), .int (dp), .ref (b + 7), .ref (b + 8), .ref (b + 9), .ref (b + 10), .ref (b + 11), .int (fr), .ref (b + 12), .ref (b + 13)] 5 (.int (nI 0)))) F (by omega) (by omega)
      refine x_iconstV (v := nI 1) G dX5_goBack_57 (by decide) ?_
      exact x_iret G dX5_goBack_58 (hp3 i hi rfl c_18 _ _ M F)
    · refine x_ldc G (-1000000003) (by decide +kernel) dX5_goBack_21 ?_
      exact x_iret G dX5_goBack_23 (hp2 i hi rfl c_18)
  · have e1 := x_b_0.mp c_6
    refine x_ldc G (-1000000001) (by decide +kernel) dX5_goBack_9 ?_
    exact x_iret G dX5_goBack_11 (hp1 e1)
