theorem inX5_say_5 : ∀ w ∈ wsX50, w ∈ wsX5_say := by decide +kernel
set_option maxRecDepth 100000 in
set_option maxHeartbeats 4000000 in
/-- say -/
theorem c_say (l : Launch) (D : va_G) {dA : Nat → ClassId} {b : Nat} {tx : Nat → Int32} {fa : Int32} {st : Nat → Int32} {de : Nat → Int32} {sd : Int64} {im : Nat → Int32} {se : Nat → Int64} {kp : Nat → Int32} {pl : Int32} {wr : Int32} {dp : Int32} {su : Nat → Int32} {wa : Nat → Int32} {fc : Nat → Int32} {po : Nat → Int32} {n t g p9 w9 W d : Nat} {c9 : Int32} {po9 : Nat → Int32} {F9 : Nat → Nat} {Rw Cw : Nat → Nat → Int64} {res : Bool} {h : xH} {sz : Nat} {Post : Option Value → xH → Nat → Prop} (ht : t ≤ 60) (hm : rd_m tx t g true su wa fc po = some (c9, p9, w9, po9)) (eW : rd_l po9 (rd_w w9 c9) 10 = W) (hW : W ≤ 3) (hn : st 0 = nI n) (hn6 : n ≤ 6) (hA : Ans st n F9 Rw Cw) (hd : d ≤ 20) (hB : W = 0 → n < 6 → May n F9 Rw Cw po9 res) (M : MS dA h b tx (nI t) fa st de (nI d) sd im se kp pl wr dp su wa fc po) (hp1 : ¬ W = 0 → ∀ (h1 : xH) (sz1 : Nat) (pl9 wr9 dp9 : Int32) (su9 wa9 fc9 : Nat → Int32), MS dA h1 b tx (nI 0) (rd_f W p9 t) st de (nI d) sd im se kp pl9 wr9 dp9 su9 wa9 fc9 po9 → xF b (b + 14) h h1 → Post (some (.int ((-10) - nI W))) h1 sz1) (hp2 : W = 0 → n = 6 → ∀ (h1 : xH) (sz1 : Nat) (pl9 wr9 dp9 : Int32) (su9 wa9 fc9 : Nat → Int32), MS dA h1 b tx (nI 0) (rd_f W p9 t) st de (nI d) sd im se kp pl9 wr9 dp9 su9 wa9 fc9 po9 → xF b (b + 14) h h1 → Post (some (.int (-1000000004))) h1 sz1) (hp3 : W = 0 → n < 6 → ¬ res = true → ∀ (h1 : xH) (sz1 : Nat) (pl9 wr9 dp9 : Int32) (su9 wa9 fc9 : Nat → Int32), MS dA h1 b tx (nI 0) (rd_f W p9 t) st de (nI d) sd im se kp pl9 wr9 dp9 su9 wa9 fc9 po9 → xF b (b + 14) h h1 → Post (some (.int (-1000000003))) h1 sz1) (hp4 : W = 0 → n < 6 → res = true → ∀ (h1 : xH) (sz1 : Nat) (pl9 wr9 dp9 : Int32) (su9 wa9 fc9 : Nat → Int32), MS dA h1 b tx (nI 0) (rd_f W p9 t) (sy_st st po9 n) (nt_e de st d) (nI (nt_d d)) sd im se kp pl9 wr9 dp9 su9 wa9 fc9 po9 → xF b (b + 14) h h1 → Post (some (.int (nI (n + 1)))) h1 sz1) (hpost : True) : xMet l yX5_say wsX5_say 6 148 0 0 D dA [.ref b] h sz Post := by
  refine x_open (cc := cX5_say) (maxL := 2) (ret := (some .int)) (by decide) rfl (Nat.le_of_ble_eq_true rfl) ?_
  intro p e s m args below meth c G _
  have inX5 : ∀ w ∈ wsX50, w ∈ wsX5_say := inX5_say_5
  obtain ⟨ro, fr, ch, ov, M⟩ := M
  have hp := pw_pos n
  refine x_aload_n G dX5_say_0 rfl ?_
  refine x_iconstV (v := nI 1) G dX5_say_1 (by decide) ?_
  refine x_topE (y := x_b (true = true)) (by decide) ?_
  refine x_callV (n := 1) (rest := []) (As := [.int (x_b (true = true))]) G (ci := 5) (c_reads (Post := fun r7 h7 sz7 => r7 = some (.int (nI W)) ∧ xF b (b + 14) h h7 ∧ ∃ (pl9 wr9 dp9 : Int32) (su9 wa9 fc9 : Nat → Int32), Md dA h7 b tx (nI 0) (rd_f W p9 t) st de (nI d) sd im se kp pl9 wr9 dp9 su9 wa9 fc9 po9 ro fr ch ov) (sy := true) l D ht hm M (fun h7 sz7 a1 a2 a3 a4 a5 a6 q1 q2 => by rw [eW] at q1 ⊢; exact ⟨rfl, q2, a1, a2, a3, a4, a5, a6, q1⟩)) gX5_say_X5_reads rfl ⟨rfl, by decide +kernel, by decide +kernel, by decide +kernel⟩ ⟨by decide, by decide⟩ rfl rfl (md_o M) dX5_say_2 rfl rfl (Nat.le_of_ble_eq_true rfl) ⟨by decide, by decide⟩ ?_
  rintro _ h1 sz1 ⟨rfl, F, pl9, wr9, dp9, su9, wa9, fc9, M⟩
  try dsimp only [Option.toList, List.cons_append, List.nil_append]
  refine x_istore_n G dX5_say_5 (by decide) ?_
  refine x_iload_n G dX5_say_6 rfl ?_
  refine x_if_eq G 15 dX5_say_7 (by decide) (fun c_7 => ?_) (fun c_7 => ?_)
  · have e0 : W = 0 := by
      rcases Nat.eq_zero_or_pos W with z | z
      · exact z
      · exact absurd c_7 (nI_ne0 z (by omega))
    refine x_aload_n G dX5_say_15 rfl ?_
    refine x_get G kX5 inX5 3 (by decide) (by decide +kernel) dX5_say_16 (md_o M) rfl ?_
    refine x_iconstV (v := nI 0) G dX5_say_19 (by decide) ?_
    refine x_ialdN G dX5_say_20 (md_st M) (by omega) (by decide) ?_
    refine x_topE (y := nI n) hn ?_
    refine x_bipushV (v := nI 6) G dX5_say_21 (by decide) ?_
    refine x_icmp_ne G 29 dX5_say_23 (by decide) (fun c_23 => ?_) (fun c_23 => ?_)
    · have e1 : ¬ n = 6 := fun z => c_23 (by rw [z])
      refine x_aload_n G dX5_say_29 rfl ?_
      refine x_callV (n := 0) (rest := []) (As := []) G (ci := 5) (c_mayBe (Post := fun r7 h7 sz7 => r7 = some (.int (x_b (res = true))) ∧ MS dA h7 b tx (nI 0) (rd_f W p9 t) st de (nI d) sd im se kp pl9 wr9 dp9 su9 wa9 fc9 po9 ∧ xF b (b + 14) h h7) l D hn hn6 hA (hB e0 (by omega)) ⟨_, _, _, _, M⟩ (fun h7 sz7 q1 q2 => ⟨rfl, q1, xF_tr F q2⟩)) gX5_say_X5_mayBe rfl ⟨rfl, by decide +kernel, by decide +kernel, by decide +kernel⟩ ⟨by decide, by decide⟩ rfl rfl (md_o M) dX5_say_30 rfl rfl (Nat.le_of_ble_eq_true rfl) ⟨by decide, by decide⟩ ?_
      rintro _ h1 sz1 ⟨rfl, ⟨ro, fr, ch, ov, M⟩, F⟩
      try dsimp only [Option.toList, List.cons_append, List.nil_append]
      refine x_if_ne G 39 dX5_say_33 (by decide) (fun c_33 => ?_) (fun c_33 => ?_)
      · have e2 : res = true := x_b_n.mp c_33
        refine x_aload_n G dX5_say_39 rfl ?_
        refine x_callV (n := 0) (rest := []) (As := []) G (ci := 5) (c_notes (Post := fun r7 h7 sz7 => r7 = none ∧ Md dA h7 b tx (nI 0) (rd_f W p9 t) st (nt_e de st d) (nI (nt_d d)) sd im se kp pl9 wr9 dp9 su9 wa9 fc9 po9 ro fr ch ov ∧ xF b (b + 14) h h7) l D hd M (fun h7 sz7 q1 q2 => ⟨rfl, q1, xF_tr F q2⟩)) gX5_say_X5_notes rfl ⟨rfl, by decide +kernel, by decide +kernel, by decide +kernel⟩ ⟨by decide, by decide⟩ rfl rfl (md_o M) dX5_say_40 rfl rfl (Nat.le_of_ble_eq_true rfl) ⟨by decide, by decide⟩ ?_
        rintro _ h1 sz1 ⟨rfl, M, F⟩
        try dsimp only [Option.toList, List.cons_append, List.nil_append]
        refine x_aload_n G dX5_say_43 rfl ?_
        refine x_callV (n := 0) (rest := []) (As := []) G (ci := 5) (c_says (Post := fun r7 h7 sz7 => r7 = none ∧ Md dA h7 b tx (nI 0) (rd_f W p9 t) (sy_st st po9 n) (nt_e de st d) (nI (nt_d d)) sd im se kp pl9 wr9 dp9 su9 wa9 fc9 po9 ro fr ch ov ∧ xF b (b + 14) h h7) l D hn (by omega) M (fun h7 sz7 q1 q2 => ⟨rfl, q1, xF_tr F q2⟩)) gX5_say_X5_says rfl ⟨rfl, by decide +kernel, by decide +kernel, by decide +kernel⟩ ⟨by decide, by decide⟩ rfl rfl (md_o M) dX5_say_44 rfl rfl (Nat.le_of_ble_eq_true rfl) ⟨by decide, by decide⟩ ?_
        rintro _ h1 sz1 ⟨rfl, M, F⟩
        try dsimp only [Option.toList, List.cons_append, List.nil_append]
        refine x_aload_n G dX5_say_47 rfl ?_
        refine x_get G kX5 inX5 3 (by decide) (by decide +kernel) dX5_say_48 (md_o M) rfl ?_
        refine x_iconstV (v := nI 0) G dX5_say_51 (by decide) ?_
        refine x_ialdN G dX5_say_52 (md_st M) (by omega) (by decide) ?_
        refine x_topE (y := nI (n + 1)) rfl ?_
        exact x_iret G dX5_say_53 (hp4 e0 (by omega) e2 _ _ _ _ _ _ _ _ ⟨_, _, _, _, M⟩ F)
      · have e2 : ¬ res = true := x_b_0.mp c_33
        refine x_ldc G (-1000000003) (by decide +kernel) dX5_say_36 ?_
        exact x_iret G dX5_say_38 (hp3 e0 (by omega) e2 _ _ _ _ _ _ _ _ ⟨_, _, _, _, M⟩ F)
    · have e1 : n = 6 := (nI_eq (by omega) (by decide)).mp c_23
      refine x_ldc G (-1000000004) (by decide +kernel) dX5_say_26 ?_
      exact x_iret G dX5_say_28 (hp2 e0 e1 _ _ _ _ _ _ _ _ ⟨_, _, _, _, M⟩ F)
  · have e0 : ¬ W = 0 := fun z => c_7 (by rw [z]; rfl)
    refine x_bipushV (v := (-10)) G dX5_say_10 (by decide) ?_
    refine x_iload_n G dX5_say_12 rfl ?_
    refine x_isub G dX5_say_13 ?_
    exact x_iret G dX5_say_14 (hp1 e0 _ _ _ _ _ _ _ _ ⟨_, _, _, _, M⟩ F)
theorem inX5_couldBe_5 : ∀ w ∈ wsX50, w ∈ wsX5_couldBe := by decide +kernel
set_option maxRecDepth 100000 in
set_option maxHeartbeats 4000000 in
/-- couldBe -/
theorem c_couldBe (l : Launch) (D : va_G) {dA : Nat → ClassId} {b : Nat} {tx : Nat → Int32} {fa : Int32} {st : Nat → Int32} {de : Nat → Int32} {dm : Int32} {sd : Int64} {im : Nat → Int32} {se : Nat → Int64} {kp : Nat → Int32} {pl : Int32} {wr : Int32} {dp : Int32} {su : Nat → Int32} {wa : Nat → Int32} {fc : Nat → Int32} {po : Nat → Int32} {n t g p9 w9 W : Nat} {c9 : Int32} {po9 : Nat → Int32} {F9 : Nat → Nat} {Rw Cw : Nat → Nat → Int64} {res : Bool} {h : xH} {sz : Nat} {Post : Option Value → xH → Nat → Prop} (ht : t ≤ 60) (hm : rd_m tx t g true su wa fc po = some (c9, p9, w9, po9)) (eW : rd_l po9 (rd_w w9 c9) 10 = W) (hW : W ≤ 3) (hn : st 0 = nI n) (hn6 : n ≤ 6) (hA : Ans st n F9 Rw Cw) (hB : W = 0 → May n F9 Rw Cw po9 res) (M : MS dA h b tx (nI t) fa st de dm sd im se kp pl wr dp su wa fc po) (hp1 : ¬ W = 0 → ∀ (h1 : xH) (sz1 : Nat) (pl9 wr9 dp9 : Int32) (su9 wa9 fc9 : Nat → Int32), MS dA h1 b tx (nI 0) (rd_f W p9 t) st de dm sd im se kp pl9 wr9 dp9 su9 wa9 fc9 po9 → xF b (b + 14) h h1 → Post (some (.int ((-10) - nI W))) h1 sz1) (hp2 : W = 0 → ∀ (h1 : xH) (sz1 : Nat) (pl9 wr9 dp9 : Int32) (su9 wa9 fc9 : Nat → Int32), MS dA h1 b tx (nI 0) (rd_f W p9 t) st de dm sd im se kp pl9 wr9 dp9 su9 wa9 fc9 po9 → xF b (b + 14) h h1 → Post (some (.int (x_b (res = true)))) h1 sz1) (hpost : True) : xMet l yX5_couldBe wsX5_couldBe 6 148 0 0 D dA [.ref b] h sz Post := by
  refine x_open (cc := cX5_couldBe) (maxL := 2) (ret := (some .int)) (by decide) rfl (Nat.le_of_ble_eq_true rfl) ?_
  intro p e s m args below meth c G _
  have inX5 : ∀ w ∈ wsX50, w ∈ wsX5_couldBe := inX5_couldBe_5
  obtain ⟨ro, fr, ch, ov, M⟩ := M
  have hp := pw_pos n
  refine x_aload_n G dX5_couldBe_0 rfl ?_
  refine x_iconstV (v := nI 1) G dX5_couldBe_1 (by decide) ?_
  refine x_topE (y := x_b (true = true)) (by decide) ?_
  refine x_callV (n := 1) (rest := []) (As := [.int (x_b (true = true))]) G (ci := 5) (c_reads (Post := fun r7 h7 sz7 => r7 = some (.int (nI W)) ∧ xF b (b + 14) h h7 ∧ ∃ (pl9 wr9 dp9 : Int32) (su9 wa9 fc9 : Nat → Int32), Md dA h7 b tx (nI 0) (rd_f W p9 t) st de dm sd im se kp pl9 wr9 dp9 su9 wa9 fc9 po9 ro fr ch ov) (sy := true) l D ht hm M (fun h7 sz7 a1 a2 a3 a4 a5 a6 q1 q2 => by rw [eW] at q1 ⊢; exact ⟨rfl, q2, a1, a2, a3, a4, a5, a6, q1⟩)) gX5_couldBe_X5_reads rfl ⟨rfl, by decide +kernel, by decide +kernel, by decide +kernel⟩ ⟨by decide, by decide⟩ rfl rfl (md_o M) dX5_couldBe_2 rfl rfl (Nat.le_of_ble_eq_true rfl) ⟨by decide, by decide⟩ ?_
  rintro _ h1 sz1 ⟨rfl, F, pl9, wr9, dp9, su9, wa9, fc9, M⟩
  try dsimp only [Option.toList, List.cons_append, List.nil_append]
  refine x_istore_n G dX5_couldBe_5 (by decide) ?_
  refine x_iload_n G dX5_couldBe_6 rfl ?_
  refine x_if_eq G 17 dX5_couldBe_7 (by decide) (fun c_7 => ?_) (fun c_7 => ?_)
  · have e0 : W = 0 := by
      rcases Nat.eq_zero_or_pos W with z | z
      · exact z
      · exact absurd c_7 (nI_ne0 z (by omega))
    refine x_aload_n G dX5_couldBe_17 rfl ?_
    refine x_callV (n := 0) (rest := []) (As := []) G (ci := 5) (c_mayBe (Post := fun r7 h7 sz7 => r7 = some (.int (x_b (res = true))) ∧ MS dA h7 b tx (nI 0) (rd_f W p9 t) st de dm sd im se kp pl9 wr9 dp9 su9 wa9 fc9 po9 ∧ xF b (b + 14) h h7) l D hn hn6 hA (hB e0) ⟨_, _, _, _, M⟩ (fun h7 sz7 q1 q2 => ⟨rfl, q1, xF_tr F q2⟩)) gX5_couldBe_X5_mayBe rfl ⟨rfl, by decide +kernel, by decide +kernel, by decide +kernel⟩ ⟨by decide, by decide⟩ rfl rfl (md_o M) dX5_couldBe_18 rfl rfl (Nat.le_of_ble_eq_true rfl) ⟨by decide, by decide⟩ ?_
    rintro _ h1 sz1 ⟨rfl, ⟨ro, fr, ch, ov, M⟩, F⟩
    try dsimp only [Option.toList, List.cons_append, List.nil_append]
    refine x_if_eq G 28 dX5_couldBe_21 (by decide) (fun c_21 => ?_) (fun c_21 => ?_)
    · have e4 : x_b (res = true) = nI 0 := c_21
      refine x_iconstV (v := nI 0) G dX5_couldBe_28 (by decide) ?_
      exact x_iret G dX5_couldBe_29 (by rw [← e4]; exact hp2 e0 _ _ _ _ _ _ _ _ ⟨_, _, _, _, M⟩ F)
    · have e4 : x_b (res = true) = nI 1 := x_b_t (x_b_n.mp c_21)
      refine x_iconstV (v := nI 1) G dX5_couldBe_24 (by decide) ?_
      refine x_goto G 29 dX5_couldBe_25 (by decide) ?_
      exact x_iret G dX5_couldBe_29 (by rw [← e4]; exact hp2 e0 _ _ _ _ _ _ _ _ ⟨_, _, _, _, M⟩ F)
  · have e0 : ¬ W = 0 := fun z => c_7 (by rw [z]; rfl)
    refine x_bipushV (v := (-10)) G dX5_couldBe_10 (by decide) ?_
    refine x_iload_n G dX5_couldBe_12 rfl ?_
    refine x_isub G dX5_couldBe_13 ?_
    refine x_goto G 29 dX5_couldBe_14 (by decide) ?_
    exact x_iret G dX5_couldBe_29 (hp1 e0 _ _ _ _ _ _ _ _ ⟨_, _, _, _, M⟩ F)
theorem inX5_follows_5 : ∀ w ∈ wsX50, w ∈ wsX5_follows := by decide +kernel
set_option maxRecDepth 100000 in
set_option maxHeartbeats 4000000 in
/-- follows -/
theorem c_follows (l : Launch) (D : va_G) {dA : Nat → ClassId} {b : Nat} {tx : Nat → Int32} {fa : Int32} {st : Nat → Int32} {de : Nat → Int32} {dm : Int32} {sd : Int64} {im : Nat → Int32} {se : Nat → Int64} {kp : Nat → Int32} {pl : Int32} {wr : Int32} {dp : Int32} {su : Nat → Int32} {wa : Nat → Int32} {fc : Nat → Int32} {po : Nat → Int32} {n t g p9 w9 W : Nat} {c9 : Int32} {po9 : Nat → Int32} {F9 : Nat → Nat} {Rw Cw : Nat → Nat → Int64} {h : xH} {sz : Nat} {Post : Option Value → xH → Nat → Prop} (ht : t ≤ 60) (hm : rd_m tx t g true su wa fc po = some (c9, p9, w9, po9)) (eW : rd_l po9 (rd_w w9 c9) 10 = W) (hW : W ≤ 3) (hn : st 0 = nI n) (hn6 : n ≤ 6) (hA : Ans st n F9 Rw Cw) (M : MS dA h b tx (nI t) fa st de dm sd im se kp pl wr dp su wa fc po) (hp1 : ¬ W = 0 → ∀ (h1 : xH) (sz1 : Nat) (pl9 wr9 dp9 : Int32) (su9 wa9 fc9 : Nat → Int32), MS dA h1 b tx (nI 0) (rd_f W p9 t) st de dm sd im se kp pl9 wr9 dp9 su9 wa9 fc9 po9 → xF b (b + 14) h h1 → Post (some (.int ((-10) - nI W))) h1 sz1) (hp2 : W = 0 → ∀ (h1 : xH) (sz1 : Nat) (pl9 wr9 dp9 : Int32) (su9 wa9 fc9 : Nat → Int32), MS dA h1 b tx (nI 0) (rd_f W p9 t) st de dm sd im se kp pl9 wr9 dp9 su9 wa9 fc9 po9 → xF b (b + 14) h h1 → Post (some (.int (x_b (r_tr (F9 (2 ^ n - 1)) po9 0 (Rw (2 ^ n - 1)) (Cw (2 ^ n - 1)) = true)))) h1 sz1) (hpost : True) : xMet l yX5_follows wsX5_follows 5 127 0 0 D dA [.ref b] h sz Post := by
  refine x_open (cc := cX5_follows) (maxL := 2) (ret := (some .int)) (by decide) rfl (Nat.le_of_ble_eq_true rfl) ?_
  intro p e s m args below meth c G _
  have inX5 : ∀ w ∈ wsX50, w ∈ wsX5_follows := inX5_follows_5
  obtain ⟨ro, fr, ch, ov, M⟩ := M
  have hp := pw_pos n
  refine x_aload_n G dX5_follows_0 rfl ?_
  refine x_iconstV (v := nI 1) G dX5_follows_1 (by decide) ?_
  refine x_topE (y := x_b (true = true)) (by decide) ?_
  refine x_callV (n := 1) (rest := []) (As := [.int (x_b (true = true))]) G (ci := 5) (c_reads (Post := fun r7 h7 sz7 => r7 = some (.int (nI W)) ∧ xF b (b + 14) h h7 ∧ ∃ (pl9 wr9 dp9 : Int32) (su9 wa9 fc9 : Nat → Int32), Md dA h7 b tx (nI 0) (rd_f W p9 t) st de dm sd im se kp pl9 wr9 dp9 su9 wa9 fc9 po9 ro fr ch ov) (sy := true) l D ht hm M (fun h7 sz7 a1 a2 a3 a4 a5 a6 q1 q2 => by rw [eW] at q1 ⊢; exact ⟨rfl, q2, a1, a2, a3, a4, a5, a6, q1⟩)) gX5_follows_X5_reads rfl ⟨rfl, by decide +kernel, by decide +kernel, by decide +kernel⟩ ⟨by decide, by decide⟩ rfl rfl (md_o M) dX5_follows_2 rfl rfl (Nat.le_of_ble_eq_true rfl) ⟨by decide, by decide⟩ ?_
  rintro _ h1 sz1 ⟨rfl, F, pl9, wr9, dp9, su9, wa9, fc9, M⟩
  try dsimp only [Option.toList, List.cons_append, List.nil_append]
  refine x_istore_n G dX5_follows_5 (by decide) ?_
  refine x_iload_n G dX5_follows_6 rfl ?_
  refine x_if_eq G 15 dX5_follows_7 (by decide) (fun c_7 => ?_) (fun c_7 => ?_)
  · have e0 : W = 0 := by
      rcases Nat.eq_zero_or_pos W with z | z
      · exact z
      · exact absurd c_7 (nI_ne0 z (by omega))
    refine x_aload_n G dX5_follows_15 rfl ?_
    refine x_aload_n G dX5_follows_16 rfl ?_
    refine x_callV (n := 0) (rest := [.ref b]) (As := []) G (ci := 5) (c_allOf (Post := fun r7 h7 sz7 => r7 = some (.int (nI (2 ^ n - 1))) ∧ h1 = h7 ∧ sz1 = sz7) l D hn hn6 M ⟨rfl, rfl, rfl⟩) gX5_follows_X5_allOf rfl ⟨rfl, by decide +kernel, by decide +kernel, by decide +kernel⟩ ⟨by decide, by decide⟩ rfl rfl (md_o M) dX5_follows_17 rfl rfl (Nat.le_of_ble_eq_true rfl) ⟨by decide, by decide⟩ ?_
    rintro _ _ _ ⟨rfl, rfl, rfl⟩
    try dsimp only [Option.toList, List.cons_append, List.nil_append]
    refine x_callV (n := 1) (rest := []) (As := [.int (nI (2 ^ n - 1))]) G (ci := 5) (c_solvesA (Post := fun r7 h7 sz7 => r7 = none ∧ xF b (b + 14) h h7 ∧ ∃ ro9 ov9 ch9 : Nat → Int64, (∀ i9, i9 < 6 * F9 (2 ^ n - 1) → ro9 i9 = Rw (2 ^ n - 1) i9) ∧ (∀ i9, i9 < 24 → ch9 i9 = Cw (2 ^ n - 1) i9) ∧ Md dA h7 b tx (nI 0) (rd_f W p9 t) st de dm sd im se kp pl9 wr9 dp9 su9 wa9 fc9 po9 ro9 (nI (F9 (2 ^ n - 1))) ch9 ov9) (n := n) (m9 := 2 ^ n - 1) l D hn hn6 (by omega) hA ⟨_, _, _, _, M⟩ (fun h7 sz7 ro9 ov9 ch9 a1 a2 q1 q2 => ⟨rfl, xF_tr F q2, ro9, ov9, ch9, a1, a2, q1⟩)) gX5_follows_X5_solves rfl ⟨rfl, by decide +kernel, by decide +kernel, by decide +kernel⟩ ⟨by decide, by decide⟩ rfl rfl (md_o M) dX5_follows_20 rfl rfl (Nat.le_of_ble_eq_true rfl) ⟨by decide, by decide⟩ ?_
    rintro _ h1 sz1 ⟨rfl, F, ro9, ov9, ch9, a1, a2, M⟩
    try dsimp only [Option.toList, List.cons_append, List.nil_append]
    have hF6 := Ans_f hA (show 2 ^ n - 1 < 2 ^ n by omega)
    refine x_aload_n G dX5_follows_23 rfl ?_
    refine x_aload_n G dX5_follows_24 rfl ?_
    refine x_get G kX5 inX5 16 (by decide) (by decide +kernel) dX5_follows_25 (md_o M) rfl ?_
    refine x_iconstV (v := nI 0) G dX5_follows_28 (by decide) ?_
    refine x_callV (n := 2) (rest := []) (As := [.ref (b + 10), .int (nI 0)]) G (ci := 5) (c_isTrue (Post := fun r7 h7 sz7 => r7 = some (.int (x_b (r_tr (F9 (2 ^ n - 1)) po9 0 (Rw (2 ^ n - 1)) (Cw (2 ^ n - 1)) = true))) ∧ h1 = h7 ∧ sz1 = sz7) (n := 10) (q := 0) l D hF6 (Or.inr ⟨rfl, rfl, rfl⟩) (by decide) M (by rw [r_tr_c a1 a2]; exact ⟨rfl, rfl, rfl⟩)) gX5_follows_X5_isTrue rfl ⟨rfl, by decide +kernel, by decide +kernel, by decide +kernel⟩ ⟨by decide, by decide⟩ rfl rfl (md_o M) dX5_follows_29 rfl rfl (Nat.le_of_ble_eq_true rfl) ⟨by decide, by decide⟩ ?_
    rintro _ _ _ ⟨rfl, rfl, rfl⟩
    try dsimp only [Option.toList, List.cons_append, List.nil_append]
    refine x_if_eq G 39 dX5_follows_32 (by decide) (fun c_32 => ?_) (fun c_32 => ?_)
    · have e4 : x_b (r_tr (F9 (2 ^ n - 1)) po9 0 (Rw (2 ^ n - 1)) (Cw (2 ^ n - 1)) = true) = nI 0 := c_32
      refine x_iconstV (v := nI 0) G dX5_follows_39 (by decide) ?_
      exact x_iret G dX5_follows_40 (by rw [← e4]; exact hp2 e0 _ _ _ _ _ _ _ _ ⟨_, _, _, _, M⟩ F)
    · have e4 : x_b (r_tr (F9 (2 ^ n - 1)) po9 0 (Rw (2 ^ n - 1)) (Cw (2 ^ n - 1)) = true) = nI 1 := x_b_t (x_b_n.mp c_32)
      refine x_iconstV (v := nI 1) G dX5_follows_35 (by decide) ?_
      refine x_goto G 40 dX5_follows_36 (by decide) ?_
      exact x_iret G dX5_follows_40 (by rw [← e4]; exact hp2 e0 _ _ _ _ _ _ _ _ ⟨_, _, _, _, M⟩ F)
  · have e0 : ¬ W = 0 := fun z => c_7 (by rw [z]; rfl)
    refine x_bipushV (v := (-10)) G dX5_follows_10 (by decide) ?_
    refine x_iload_n G dX5_follows_12 rfl ?_
    refine x_isub G dX5_follows_13 ?_
    exact x_iret G dX5_follows_14 (hp1 e0 _ _ _ _ _ _ _ _ ⟨_, _, _, _, M⟩ F)
theorem inX5_measured_5 : ∀ w ∈ wsX50, w ∈ wsX5_measured := by decide +kernel
/-- what measured answers: a rest, a sum, or nothing more -/
def msA (F : Nat) (po : Nat → Int32) (ro ch : Nat → Int64) (w : Nat) : Int64 := if w < 4 then r_dot (po (0 + 6 + w)).toInt64 po 0 ch (6 * w) 6 + 1000000000000 else 1000000000000 + (if w - 4 < F then r_dot 0 po 0 ro (6 * (w - 4)) 6 else 0)
set_option maxRecDepth 100000 in
set_option maxHeartbeats 4000000 in
/-- measured -/
theorem c_measured (l : Launch) (D : va_G) {dA : Nat → ClassId} {b : Nat} {v : Int32} {tx : Nat → Int32} {fa : Int32} {st : Nat → Int32} {de : Nat → Int32} {dm : Int32} {sd : Int64} {im : Nat → Int32} {se : Nat → Int64} {kp : Nat → Int32} {pl : Int32} {wr : Int32} {dp : Int32} {su : Nat → Int32} {wa : Nat → Int32} {fc : Nat → Int32} {po : Nat → Int32} {n t g p9 w9 W : Nat} {c9 : Int32} {po9 : Nat → Int32} {F9 : Nat → Nat} {Rw Cw : Nat → Nat → Int64} {h : xH} {sz : Nat} {Post : Option Value → xH → Nat → Prop} (ht : t ≤ 60) (hm : rd_m tx t g false su wa fc po = some (c9, p9, w9, po9)) (eW : rd_l po9 (rd_w w9 c9) 10 = W) (hW : W ≤ 3) (hn : st 0 = nI n) (hn6 : n ≤ 6) (hA : Ans st n F9 Rw Cw) (M : MS dA h b tx (nI t) fa st de dm sd im se kp pl wr dp su wa fc po) (hp0 : ¬ (nI 0 ≤ v ∧ v ≤ nI 9) → Post (some (.long (-1000000002))) h sz) (hp1 : ∀ w, w ≤ 9 → v = nI w → ¬ W = 0 → ∀ (h1 : xH) (sz1 : Nat) (pl9 wr9 dp9 : Int32) (su9 wa9 fc9 : Nat → Int32), MS dA h1 b tx (nI 0) (rd_f W p9 t) st de dm sd im se kp pl9 wr9 dp9 su9 wa9 fc9 po9 → xF b (b + 14) h h1 → Post (some (.long ((-10) - nI W).toInt64)) h1 sz1) (hp2 : ∀ w, w ≤ 9 → v = nI w → W = 0 → ∀ (h1 : xH) (sz1 : Nat) (pl9 wr9 dp9 : Int32) (su9 wa9 fc9 : Nat → Int32), MS dA h1 b tx (nI 0) (rd_f W p9 t) st de dm sd im se kp pl9 wr9 dp9 su9 wa9 fc9 po9 → xF b (b + 14) h h1 → Post (some (.long (msA (F9 (2 ^ n - 1)) po9 (Rw (2 ^ n - 1)) (Cw (2 ^ n - 1)) w))) h1 sz1) (hpost : True) : xMet l yX5_measured wsX5_measured 5 127 0 0 D dA [.ref b, .int v] h sz Post := by
  refine x_open (cc := cX5_measured) (maxL := 3) (ret := (some .long)) (by decide) rfl (Nat.le_of_ble_eq_true rfl) ?_
  intro p e s m args below meth c G _
  have inX5 : ∀ w ∈ wsX50, w ∈ wsX5_measured := inX5_measured_5
  obtain ⟨ro, fr, ch, ov, M⟩ := M
  have hp := pw_pos n
  refine x_iload_n G dX5_measured_0 rfl ?_
  refine x_iconstV (v := nI 0) G dX5_measured_1 (by decide) ?_
  refine x_bipushV (v := nI 9) G dX5_measured_2 (by decide) ?_
  refine x_callS (n := 3) (rest := []) (As := [.int (v), .int (nI 0), .int (nI 9)]) G (c_in (Post := fun r7 h7 sz7 => r7 = some (.int (x_b ((nI 0) ≤ (v) ∧ (v) ≤ (nI 9)))) ∧ h = h7 ∧ sz = sz7) l D ⟨rfl, rfl, rfl⟩) gX5_measured_X5_in rfl ⟨by decide +kernel, by decide +kernel, by decide +kernel⟩ ⟨by decide, by decide⟩ dX5_measured_4 rfl rfl (Nat.le_of_ble_eq_true rfl) ⟨by decide, by decide⟩ ?_
  rintro _ _ _ ⟨rfl, rfl, rfl⟩
  try dsimp only [Option.toList, List.cons_append, List.nil_append]
  refine x_if_ne G 14 dX5_measured_7 (by decide) (fun c_7 => ?_) (fun c_7 => ?_)
  · obtain ⟨w, -, hw9, rfl⟩ := in_nat2 (by omega) (by decide) (x_b_n.mp c_7)
    clear c_7
    refine x_aload_n G dX5_measured_14 rfl ?_
    refine x_iconstV (v := nI 0) G dX5_measured_15 (by decide) ?_
    refine x_topE (y := x_b (false = true)) (by decide) ?_
    refine x_callV (n := 1) (rest := []) (As := [.int (x_b (false = true))]) G (ci := 5) (c_reads (Post := fun r7 h7 sz7 => r7 = some (.int (nI W)) ∧ xF b (b + 14) h h7 ∧ ∃ (pl9 wr9 dp9 : Int32) (su9 wa9 fc9 : Nat → Int32), Md dA h7 b tx (nI 0) (rd_f W p9 t) st de dm sd im se kp pl9 wr9 dp9 su9 wa9 fc9 po9 ro fr ch ov) (sy := false) l D ht hm M (fun h7 sz7 a1 a2 a3 a4 a5 a6 q1 q2 => by rw [eW] at q1 ⊢; exact ⟨rfl, q2, a1, a2, a3, a4, a5, a6, q1⟩)) gX5_measured_X5_reads rfl ⟨rfl, by decide +kernel, by decide +kernel, by decide +kernel⟩ ⟨by decide, by decide⟩ rfl rfl (md_o M) dX5_measured_16 rfl rfl (Nat.le_of_ble_eq_true rfl) ⟨by decide, by decide⟩ ?_
    rintro _ h1 sz1 ⟨rfl, F, pl9, wr9, dp9, su9, wa9, fc9, M⟩
    try dsimp only [Option.toList, List.cons_append, List.nil_append]
    refine x_istore_n G dX5_measured_19 (by decide) ?_
    refine x_iload_n G dX5_measured_20 rfl ?_
    refine x_if_eq G 30 dX5_measured_21 (by decide) (fun c_21 => ?_) (fun c_21 => ?_)
    · have e0 : W = 0 := by
        rcases Nat.eq_zero_or_pos W with z | z
        · exact z
        · exact absurd c_21 (nI_ne0 z (by omega))
      refine x_aload_n G dX5_measured_30 rfl ?_
      refine x_aload_n G dX5_measured_31 rfl ?_
      refine x_callV (n := 0) (rest := [.ref b]) (As := []) G (ci := 5) (c_allOf (Post := fun r7 h7 sz7 => r7 = some (.int (nI (2 ^ n - 1))) ∧ h1 = h7 ∧ sz1 = sz7) l D hn hn6 M ⟨rfl, rfl, rfl⟩) gX5_measured_X5_allOf rfl ⟨rfl, by decide +kernel, by decide +kernel, by decide +kernel⟩ ⟨by decide, by decide⟩ rfl rfl (md_o M) dX5_measured_32 rfl rfl (Nat.le_of_ble_eq_true rfl) ⟨by decide, by decide⟩ ?_
      rintro _ _ _ ⟨rfl, rfl, rfl⟩
      try dsimp only [Option.toList, List.cons_append, List.nil_append]
      refine x_callV (n := 1) (rest := []) (As := [.int (nI (2 ^ n - 1))]) G (ci := 5) (c_solvesA (Post := fun r7 h7 sz7 => r7 = none ∧ xF b (b + 14) h h7 ∧ ∃ ro9 ov9 ch9 : Nat → Int64, (∀ i9, i9 < 6 * F9 (2 ^ n - 1) → ro9 i9 = Rw (2 ^ n - 1) i9) ∧ (∀ i9, i9 < 24 → ch9 i9 = Cw (2 ^ n - 1) i9) ∧ Md dA h7 b tx (nI 0) (rd_f W p9 t) st de dm sd im se kp pl9 wr9 dp9 su9 wa9 fc9 po9 ro9 (nI (F9 (2 ^ n - 1))) ch9 ov9) (n := n) (m9 := 2 ^ n - 1) l D hn hn6 (by omega) hA ⟨_, _, _, _, M⟩ (fun h7 sz7 ro9 ov9 ch9 a1 a2 q1 q2 => ⟨rfl, xF_tr F q2, ro9, ov9, ch9, a1, a2, q1⟩)) gX5_measured_X5_solves rfl ⟨rfl, by decide +kernel, by decide +kernel, by decide +kernel⟩ ⟨by decide, by decide⟩ rfl rfl (md_o M) dX5_measured_35 rfl rfl (Nat.le_of_ble_eq_true rfl) ⟨by decide, by decide⟩ ?_
      rintro _ h1 sz1 ⟨rfl, F, ro9, ov9, ch9, a1, a2, M⟩
      try dsimp only [Option.toList, List.cons_append, List.nil_append]
      have hF6 := Ans_f hA (show 2 ^ n - 1 < 2 ^ n by omega)
      refine x_iload_n G dX5_measured_38 rfl ?_
      refine x_iconstV (v := nI 4) G dX5_measured_39 (by decide) ?_
      refine x_icmp_ge G 58 dX5_measured_40 (by decide) (fun c_40 => ?_) (fun c_40 => ?_)
      · have e3 : ¬ w < 4 := fun z => absurd c_40 (nI_ge z (by decide))
        refine x_ldc2_w G (1000000000000) (by decide +kernel) dX5_measured_58 ?_
        refine x_iload_n G dX5_measured_61 rfl ?_
        refine x_iconstV (v := nI 4) G dX5_measured_62 (by decide) ?_
        refine x_isub G dX5_measured_63 ?_
        refine x_topE (y := nI (w - 4)) (pk_sub (by omega)) ?_
        refine x_aload_n G dX5_measured_64 rfl ?_
        refine x_get G kX5 inX5 18 (by decide) (by decide +kernel) dX5_measured_65 (md_o M) rfl ?_
        refine x_icmp_ge G 86 dX5_measured_68 (by decide) (fun c_68 => ?_) (fun c_68 => ?_)
        · have e5 : ¬ w - 4 < F9 (2 ^ n - 1) := fun z => absurd c_68 (nI_ge z (by omega))
          refine x_lconstV (v := 0) G dX5_measured_86 (by decide) ?_
          refine x_ladd G dX5_measured_87 ?_
          exact x_lret G dX5_measured_88 (by have q := hp2 w hw9 rfl e0 h1 sz1 _ _ _ _ _ _ ⟨_, _, _, _, M⟩ F; unfold msA at q; rw [if_neg e3, if_neg e5] at q; exact q)
        · have e5 : w - 4 < F9 (2 ^ n - 1) := by
            rcases Nat.lt_or_ge (w - 4) (F9 (2 ^ n - 1)) with z | z
            · exact z
            · exact absurd (nI_le z (by omega)) c_68
          refine x_aload_n G dX5_measured_71 rfl ?_
          refine x_aload_n G dX5_measured_72 rfl ?_
          refine x_get G kX5 inX5 16 (by decide) (by decide +kernel) dX5_measured_73 (md_o M) rfl ?_
          refine x_iconstV (v := nI 0) G dX5_measured_76 (by decide) ?_
          refine x_iload_n G dX5_measured_77 rfl ?_
          refine x_iconstV (v := nI 4) G dX5_measured_78 (by decide) ?_
          refine x_isub G dX5_measured_79 ?_
          refine x_topE (y := nI (w - 4)) (pk_sub (by omega)) ?_
          refine x_callV (n := 3) (rest := [.long 1000000000000]) (As := [.ref (b + 10), .int (nI 0), .int (nI (w - 4))]) G (ci := 5) (c_sumOf (Post := fun r7 h7 sz7 => r7 = some (.long (r_dot 0 po9 0 (Rw (2 ^ n - 1)) (6 * (w - 4)) 6)) ∧ h1 = h7 ∧ sz1 = sz7) (n := 10) (q := 0) (i := w - 4) l D (by omega) (by decide) (by decide) (md_po M) M (by rw [r_dot_c (r2 := Rw (2 ^ n - 1)) (fun k hk => a1 _ (by omega))]; exact ⟨rfl, rfl, rfl⟩)) gX5_measured_X5_sumOf rfl ⟨rfl, by decide +kernel, by decide +kernel, by decide +kernel⟩ ⟨by decide, by decide⟩ rfl rfl (md_o M) dX5_measured_80 rfl rfl (Nat.le_of_ble_eq_true rfl) ⟨by decide, by decide⟩ ?_
          rintro _ _ _ ⟨rfl, rfl, rfl⟩
          try dsimp only [Option.toList, List.cons_append, List.nil_append]
          refine x_goto G 87 dX5_measured_83 (by decide) ?_
          refine x_ladd G dX5_measured_87 ?_
          exact x_lret G dX5_measured_88 (by have q := hp2 w hw9 rfl e0 h1 sz1 _ _ _ _ _ _ ⟨_, _, _, _, M⟩ F; unfold msA at q; rw [if_neg e3, if_pos e5] at q; exact q)
      · have e3 : w < 4 := by
          rcases Nat.lt_or_ge w 4 with z | z
          · exact z
          · exact absurd (nI_le z (by omega)) c_40
        refine x_aload_n G dX5_measured_43 rfl ?_
        refine x_aload_n G dX5_measured_44 rfl ?_
        refine x_get G kX5 inX5 16 (by decide) (by decide +kernel) dX5_measured_45 (md_o M) rfl ?_
        refine x_iconstV (v := nI 0) G dX5_measured_48 (by decide) ?_
        refine x_iload_n G dX5_measured_49 rfl ?_
        refine x_callV (n := 3) (rest := []) (As := [.ref (b + 10), .int (nI 0), .int (nI w)]) G (ci := 5) (c_restOf (Post := fun r7 h7 sz7 => r7 = some (.long (r_dot (po9 (0 + 6 + w)).toInt64 po9 0 (Cw (2 ^ n - 1)) (6 * w) 6)) ∧ h1 = h7 ∧ sz1 = sz7) (n := 10) (q := 0) (i := w) l D e3 (by decide) (by decide) (md_po M) M (by rw [r_dot_c (r2 := Cw (2 ^ n - 1)) (fun k hk => a2 _ (by omega))]; exact ⟨rfl, rfl, rfl⟩)) gX5_measured_X5_restOf rfl ⟨rfl, by decide +kernel, by decide +kernel, by decide +kernel⟩ ⟨by decide, by decide⟩ rfl rfl (md_o M) dX5_measured_50 rfl rfl (Nat.le_of_ble_eq_true rfl) ⟨by decide, by decide⟩ ?_
        rintro _ _ _ ⟨rfl, rfl, rfl⟩
        try dsimp only [Option.toList, List.cons_append, List.nil_append]
        refine x_ldc2_w G (1000000000000) (by decide +kernel) dX5_measured_53 ?_
        refine x_ladd G dX5_measured_56 ?_
        exact x_lret G dX5_measured_57 (by have q := hp2 w hw9 rfl e0 h1 sz1 _ _ _ _ _ _ ⟨_, _, _, _, M⟩ F; unfold msA at q; rw [if_pos e3] at q; exact q)
    · have e0 : ¬ W = 0 := fun z => c_21 (by rw [z]; rfl)
      refine x_bipushV (v := (-10)) G dX5_measured_24 (by decide) ?_
      refine x_iload_n G dX5_measured_26 rfl ?_
      refine x_isub G dX5_measured_27 ?_
      refine x_i2l G dX5_measured_28 ?_
      exact x_lret G dX5_measured_29 (hp1 w hw9 rfl e0 _ _ _ _ _ _ _ _ ⟨_, _, _, _, M⟩ F)
  · have e1 := x_b_0.mp c_7
    refine x_ldc2_w G (-1000000002) (by decide +kernel) dX5_measured_10 ?_
    exact x_lret G dX5_measured_13 (hp0 e1)
