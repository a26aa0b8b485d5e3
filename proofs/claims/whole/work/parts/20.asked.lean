theorem inX5_mayBe_5 : ∀ w ∈ wsX50, w ∈ wsX5_mayBe := by decide +kernel
/-- whether a saying is true with all that is said -/
def May (n : Nat) (F : Nat → Nat) (Rw Cw : Nat → Nat → Int64) (po : Nat → Int32) (res : Bool) : Prop := ∀ ro ov c : Nat → Int64, (∀ k, k < 6 * F (2 ^ n - 1) → ro k = Rw (2 ^ n - 1) k) → (∀ k, k < 24 → c k = Cw (2 ^ n - 1) k) → ∃ (g f2 : Nat) (ro2 ov2 c2 : Nat → Int64), r_ad g (F (2 ^ n - 1)) po 0 ro ov c = some (res, f2, ro2, ov2, c2)
set_option maxRecDepth 100000 in
set_option maxHeartbeats 4000000 in
/-- mayBe -/
theorem c_mayBe (l : Launch) (D : va_G) {dA : Nat → ClassId} {b : Nat} {res : Bool} {tx : Nat → Int32} {ln : Int32} {fa : Int32} {st : Nat → Int32} {de : Nat → Int32} {dm : Int32} {sd : Int64} {im : Nat → Int32} {se : Nat → Int64} {kp : Nat → Int32} {pl : Int32} {wr : Int32} {dp : Int32} {su : Nat → Int32} {wa : Nat → Int32} {fc : Nat → Int32} {po : Nat → Int32} {n : Nat} {F : Nat → Nat} {Rw Cw : Nat → Nat → Int64} {h : xH} {sz : Nat} {Post : Option Value → xH → Nat → Prop} (hn : st 0 = nI n) (hn6 : n ≤ 6) (hA : Ans st n F Rw Cw) (hB : May n F Rw Cw po res) (M : MS dA h b tx ln fa st de dm sd im se kp pl wr dp su wa fc po) (hpost : ∀ (h1 : xH) (sz1 : Nat), MS dA h1 b tx ln fa st de dm sd im se kp pl wr dp su wa fc po → xF b (b + 14) h h1 → Post (some (.int (x_b (res = true)))) h1 sz1) : xMet l yX5_mayBe wsX5_mayBe 5 127 0 0 D dA [.ref b] h sz Post := by
  refine x_open (cc := cX5_mayBe) (maxL := 1) (ret := (some .boolean)) (by decide) rfl (Nat.le_of_ble_eq_true rfl) ?_
  intro p e s m args below meth c G _
  have inX5 : ∀ w ∈ wsX50, w ∈ wsX5_mayBe := inX5_mayBe_5
  obtain ⟨ro, fr, ch, ov, M⟩ := M
  have hp := pw_pos n
  refine x_aload_n G dX5_mayBe_0 rfl ?_
  refine x_aload_n G dX5_mayBe_1 rfl ?_
  refine x_callV (n := 0) (rest := [.ref b]) (As := []) G (ci := 5) (c_allOf (Post := fun r7 h7 sz7 => r7 = some (.int (nI (2 ^ n - 1))) ∧ h = h7 ∧ sz = sz7) l D hn hn6 M ⟨rfl, rfl, rfl⟩) gX5_mayBe_X5_allOf rfl ⟨rfl, by decide +kernel, by decide +kernel, by decide +kernel⟩ ⟨by decide, by decide⟩ rfl rfl (md_o M) dX5_mayBe_2 rfl rfl (Nat.le_of_ble_eq_true rfl) ⟨by decide, by decide⟩ ?_
  rintro _ _ _ ⟨rfl, rfl, rfl⟩
  try dsimp only [Option.toList, List.cons_append, List.nil_append]
  refine x_callV (n := 1) (rest := []) (As := [.int (nI (2 ^ n - 1))]) G (ci := 5) (c_solvesA (Post := fun r7 h7 sz7 => r7 = none ∧ xF b (b + 14) h h7 ∧ ∃ ro9 ov9 c9 : Nat → Int64, (∀ i9, i9 < 6 * F (2 ^ n - 1) → ro9 i9 = Rw (2 ^ n - 1) i9) ∧ (∀ i9, i9 < 24 → c9 i9 = Cw (2 ^ n - 1) i9) ∧ Md dA h7 b tx ln fa st de dm sd im se kp pl wr dp su wa fc po ro9 (nI (F (2 ^ n - 1))) c9 ov9) (n := n) (m9 := 2 ^ n - 1) l D hn hn6 (by omega) hA ⟨_, _, _, _, M⟩ (fun h7 sz7 ro9 ov9 c9 a1 a2 q1 q2 => ⟨rfl, q2, ro9, ov9, c9, a1, a2, q1⟩)) gX5_mayBe_X5_solves rfl ⟨rfl, by decide +kernel, by decide +kernel, by decide +kernel⟩ ⟨by decide, by decide⟩ rfl rfl (md_o M) dX5_mayBe_5 rfl rfl (Nat.le_of_ble_eq_true rfl) ⟨by decide, by decide⟩ ?_
  rintro _ h1 sz1 ⟨rfl, F1, ro9, ov9, c9, a1, a2, M⟩
  try dsimp only [Option.toList, List.cons_append, List.nil_append]
  have hF6 := Ans_f hA (show 2 ^ n - 1 < 2 ^ n by omega)
  obtain ⟨g, f2, ro2, ov2, c2, had⟩ := hB ro9 ov9 c9 a1 a2
  refine x_aload_n G dX5_mayBe_8 rfl ?_
  refine x_aload_n G dX5_mayBe_9 rfl ?_
  refine x_get G kX5 inX5 16 (by decide) (by decide +kernel) dX5_mayBe_10 (md_o M) rfl ?_
  refine x_iconstV (v := nI 0) G dX5_mayBe_13 (by decide) ?_
  refine x_callV (n := 2) (rest := []) (As := [.ref (b + 10), .int (nI 0)]) G (ci := 5) (c_adds (Post := fun r7 h7 sz7 => r7 = some (.int (x_b (res = true))) ∧ Md dA h7 b tx ln fa st de dm sd im se kp pl wr dp su wa fc po ro2 (nI f2) c2 ov2 ∧ xF b (b + 14) h1 h7) (n := 10) (f := F (2 ^ n - 1)) (g := g) (f9 := f2) (is9 := res) (ro9 := ro2) (ov9 := ov2) (c9 := c2) l D hF6 (Or.inr ⟨rfl, rfl, rfl⟩) (by decide) had M (fun h7 sz7 q1 q2 => ⟨rfl, q1, q2⟩)) gX5_mayBe_X5_adds rfl ⟨rfl, by decide +kernel, by decide +kernel, by decide +kernel⟩ ⟨by decide, by decide⟩ rfl rfl (md_o M) dX5_mayBe_14 rfl rfl (Nat.le_of_ble_eq_true rfl) ⟨by decide, by decide⟩ ?_
  rintro _ h1 sz1 ⟨rfl, M, F2⟩
  try dsimp only [Option.toList, List.cons_append, List.nil_append]
  exact x_zret G dX5_mayBe_17 x_b_z (hpost _ _ ⟨_, _, _, _, M⟩ (xF_tr F1 F2))
theorem inX5_saying_5 : ∀ w ∈ wsX50, w ∈ wsX5_saying := by decide +kernel
set_option maxRecDepth 100000 in
set_option maxHeartbeats 4000000 in
/-- saying -/
theorem c_saying (l : Launch) (D : va_G) {dA : Nat → ClassId} {b : Nat} {v w : Int32} {tx : Nat → Int32} {ln : Int32} {fa : Int32} {st : Nat → Int32} {de : Nat → Int32} {dm : Int32} {sd : Int64} {im : Nat → Int32} {se : Nat → Int64} {kp : Nat → Int32} {pl : Int32} {wr : Int32} {dp : Int32} {su : Nat → Int32} {wa : Nat → Int32} {fc : Nat → Int32} {po : Nat → Int32} {n : Nat} {F : Nat → Nat} {Rw Cw : Nat → Nat → Int64} {h : xH} {sz : Nat} {Post : Option Value → xH → Nat → Prop} (hn : st 0 = nI n) (hn6 : n ≤ 6) (hA : Ans st n F Rw Cw) (M : MS dA h b tx ln fa st de dm sd im se kp pl wr dp su wa fc po) (hp1 : ¬ (nI 0 ≤ v ∧ v ≤ nI n - nI 1) → Post (some (.int (-1000000001))) h sz) (hp2 : ∀ k, k < n → v = nI k → ¬ (nI 0 ≤ w ∧ w ≤ nI 10) → Post (some (.int (-1000000002))) h sz) (hp3 : ∀ k, k < n → v = nI k → w = nI 10 → ∀ (h1 : xH) (sz1 : Nat), MS dA h1 b tx ln fa st de dm sd im se kp pl wr dp su wa fc po → xF b (b + 14) h h1 → Post (some (.int (x_b (spA st n F Rw Cw k = true)))) h1 sz1) (hp4 : ∀ k, k < n → v = nI k → ∀ q, q < 10 → w = nI q → Post (some (.int (st (1 + 10 * k + q) + nI 100))) h sz) (hpost : True) : xMet l yX5_saying wsX5_saying 6 148 0 0 D dA [.ref b, .int v, .int w] h sz Post := by
  refine x_open (cc := cX5_saying) (maxL := 3) (ret := (some .int)) (by decide) rfl (Nat.le_of_ble_eq_true rfl) ?_
  intro p e s m args below meth c G _
  have inX5 : ∀ w ∈ wsX50, w ∈ wsX5_saying := inX5_saying_5
  obtain ⟨ro, fr, ch, ov, M⟩ := M
  refine x_iload_n G dX5_saying_0 rfl ?_
  refine x_iconstV (v := nI 0) G dX5_saying_1 (by decide) ?_
  refine x_aload_n G dX5_saying_2 rfl ?_
  refine x_get G kX5 inX5 3 (by decide) (by decide +kernel) dX5_saying_3 (md_o M) rfl ?_
  refine x_iconstV (v := nI 0) G dX5_saying_6 (by decide) ?_
  refine x_ialdN G dX5_saying_7 (md_st M) (by omega) (by decide) ?_
  refine x_topE (y := nI n) hn ?_
  refine x_iconstV (v := nI 1) G dX5_saying_8 (by decide) ?_
  refine x_isub G dX5_saying_9 ?_
  refine x_callS (n := 3) (rest := []) (As := [.int (v), .int (nI 0), .int (nI n - nI 1)]) G (c_in (Post := fun r7 h7 sz7 => r7 = some (.int (x_b ((nI 0) ≤ (v) ∧ (v) ≤ (nI n - nI 1)))) ∧ h = h7 ∧ sz = sz7) l D ⟨rfl, rfl, rfl⟩) gX5_saying_X5_in rfl ⟨by decide +kernel, by decide +kernel, by decide +kernel⟩ ⟨by decide, by decide⟩ dX5_saying_10 rfl rfl (Nat.le_of_ble_eq_true rfl) ⟨by decide, by decide⟩ ?_
  rintro _ _ _ ⟨rfl, rfl, rfl⟩
  try dsimp only [Option.toList, List.cons_append, List.nil_append]
  refine x_if_ne G 19 dX5_saying_13 (by decide) (fun c_13 => ?_) (fun c_13 => ?_)
  · obtain ⟨k, hk, rfl⟩ := in_nat (by omega) (x_b_n.mp c_13)
    clear c_13
    refine x_iload_n G dX5_saying_19 rfl ?_
    refine x_iconstV (v := nI 0) G dX5_saying_20 (by decide) ?_
    refine x_bipushV (v := nI 10) G dX5_saying_21 (by decide) ?_
    refine x_callS (n := 3) (rest := []) (As := [.int (w), .int (nI 0), .int (nI 10)]) G (c_in (Post := fun r7 h7 sz7 => r7 = some (.int (x_b ((nI 0) ≤ (w) ∧ (w) ≤ (nI 10)))) ∧ h = h7 ∧ sz = sz7) l D ⟨rfl, rfl, rfl⟩) gX5_saying_X5_in rfl ⟨by decide +kernel, by decide +kernel, by decide +kernel⟩ ⟨by decide, by decide⟩ dX5_saying_23 rfl rfl (Nat.le_of_ble_eq_true rfl) ⟨by decide, by decide⟩ ?_
    rintro _ _ _ ⟨rfl, rfl, rfl⟩
    try dsimp only [Option.toList, List.cons_append, List.nil_append]
    refine x_if_ne G 32 dX5_saying_26 (by decide) (fun c_26 => ?_) (fun c_26 => ?_)
    · obtain ⟨q, -, hq, rfl⟩ := in_nat2 (by omega) (by decide) (x_b_n.mp c_26)
      clear c_26
      refine x_iload_n G dX5_saying_32 rfl ?_
      refine x_bipushV (v := nI 10) G dX5_saying_33 (by decide) ?_
      refine x_icmp_ne G 54 dX5_saying_35 (by decide) (fun c_35 => ?_) (fun c_35 => ?_)
      · have e3 : ¬ q = 10 := fun z => c_35 (by rw [z])
        refine x_aload_n G dX5_saying_54 rfl ?_
        refine x_get G kX5 inX5 3 (by decide) (by decide +kernel) dX5_saying_55 (md_o M) rfl ?_
        refine x_iconstV (v := nI 1) G dX5_saying_58 (by decide) ?_
        refine x_bipushV (v := nI 10) G dX5_saying_59 (by decide) ?_
        refine x_iload_n G dX5_saying_61 rfl ?_
        refine x_imul G dX5_saying_62 ?_
        refine x_iadd G dX5_saying_63 ?_
        refine x_iload_n G dX5_saying_64 rfl ?_
        refine x_iadd G dX5_saying_65 ?_
        refine x_topE (y := nI (1 + 10 * k + q)) (by rw [pk_mul, nI_add, nI_add]) ?_
        refine x_ialdN G dX5_saying_66 (md_st M) (by omega) (by decide) ?_
        refine x_bipushV (v := nI 100) G dX5_saying_67 (by decide) ?_
        refine x_iadd G dX5_saying_69 ?_
        exact x_iret G dX5_saying_70 (hp4 k hk rfl q (by omega) rfl)
      · have e3 : q = 10 := (nI_eq (by omega) (by decide)).mp c_35
        subst e3
        refine x_aload_n G dX5_saying_38 rfl ?_
        refine x_iload_n G dX5_saying_39 rfl ?_
        refine x_callV (n := 1) (rest := []) (As := [.int (nI k)]) G (ci := 5) (c_isSpare (Post := fun r7 h7 sz7 => r7 = some (.int (x_b (spA st n F Rw Cw k = true))) ∧ MS dA h7 b tx ln fa st de dm sd im se kp pl wr dp su wa fc po ∧ xF b (b + 14) h h7) l D hn hn6 hA hk ⟨_, _, _, _, M⟩ (fun h7 sz7 q1 q2 => ⟨rfl, q1, q2⟩)) gX5_saying_X5_isSpare rfl ⟨rfl, by decide +kernel, by decide +kernel, by decide +kernel⟩ ⟨by decide, by decide⟩ rfl rfl (md_o M) dX5_saying_40 rfl rfl (Nat.le_of_ble_eq_true rfl) ⟨by decide, by decide⟩ ?_
        rintro _ h1 sz1 ⟨rfl, ⟨ro, fr, ch, ov, M⟩, F1⟩
        try dsimp only [Option.toList, List.cons_append, List.nil_append]
        refine x_if_eq G 50 dX5_saying_43 (by decide) (fun c_43 => ?_) (fun c_43 => ?_)
        · have e4 : x_b (spA st n F Rw Cw k = true) = nI 0 := c_43
          refine x_iconstV (v := nI 0) G dX5_saying_50 (by decide) ?_
          refine x_goto G 70 dX5_saying_51 (by decide) ?_
          exact x_iret G dX5_saying_70 (by rw [← e4]; exact hp3 k hk rfl rfl _ _ ⟨_, _, _, _, M⟩ F1)
        · have e4 : x_b (spA st n F Rw Cw k = true) = nI 1 := x_b_t (x_b_n.mp c_43)
          refine x_iconstV (v := nI 1) G dX5_saying_46 (by decide) ?_
          refine x_goto G 70 dX5_saying_47 (by decide) ?_
          exact x_iret G dX5_saying_70 (by rw [← e4]; exact hp3 k hk rfl rfl _ _ ⟨_, _, _, _, M⟩ F1)
    · have e2 := x_b_0.mp c_26
      refine x_ldc G (-1000000002) (by decide +kernel) dX5_saying_29 ?_
      exact x_iret G dX5_saying_31 (hp2 k hk rfl e2)
  · have e1 := x_b_0.mp c_13
    refine x_ldc G (-1000000001) (by decide +kernel) dX5_saying_16 ?_
    exact x_iret G dX5_saying_18 (hp1 e1)
theorem inX5_free_5 : ∀ w ∈ wsX50, w ∈ wsX5_free := by decide +kernel
set_option maxRecDepth 100000 in
set_option maxHeartbeats 4000000 in
/-- free -/
theorem c_free (l : Launch) (D : va_G) {dA : Nat → ClassId} {b : Nat} {v w : Int32} {tx : Nat → Int32} {ln : Int32} {fa : Int32} {st : Nat → Int32} {de : Nat → Int32} {dm : Int32} {sd : Int64} {im : Nat → Int32} {se : Nat → Int64} {kp : Nat → Int32} {pl : Int32} {wr : Int32} {dp : Int32} {su : Nat → Int32} {wa : Nat → Int32} {fc : Nat → Int32} {po : Nat → Int32} {n : Nat} {F : Nat → Nat} {Rw Cw : Nat → Nat → Int64} {h : xH} {sz : Nat} {Post : Option Value → xH → Nat → Prop} (hn : st 0 = nI n) (hn6 : n ≤ 6) (hA : Ans st n F Rw Cw) (M : MS dA h b tx ln fa st de dm sd im se kp pl wr dp su wa fc po) (hp1 : ¬ (nI 0 ≤ v ∧ v ≤ nI (F (2 ^ n - 1)) - nI 1) → ∀ (h1 : xH) (sz1 : Nat), MS dA h1 b tx ln fa st de dm sd im se kp pl wr dp su wa fc po → xF b (b + 14) h h1 → Post (some (.long (-1000000001))) h1 sz1) (hp2 : ∀ k, k < F (2 ^ n - 1) → v = nI k → ¬ (nI 0 ≤ w ∧ w ≤ nI 5) → ∀ (h1 : xH) (sz1 : Nat), MS dA h1 b tx ln fa st de dm sd im se kp pl wr dp su wa fc po → xF b (b + 14) h h1 → Post (some (.long (-1000000002))) h1 sz1) (hp3 : ∀ k, k < F (2 ^ n - 1) → v = nI k → ∀ q, q ≤ 5 → w = nI q → ∀ (h1 : xH) (sz1 : Nat), MS dA h1 b tx ln fa st de dm sd im se kp pl wr dp su wa fc po → xF b (b + 14) h h1 → Post (some (.long (Rw (2 ^ n - 1) (6 * k + q) + 1000000000000))) h1 sz1) (hpost : True) : xMet l yX5_free wsX5_free 5 127 0 0 D dA [.ref b, .int v, .int w] h sz Post := by
  refine x_open (cc := cX5_free) (maxL := 3) (ret := (some .long)) (by decide) rfl (Nat.le_of_ble_eq_true rfl) ?_
  intro p e s m args below meth c G _
  have inX5 : ∀ w ∈ wsX50, w ∈ wsX5_free := inX5_free_5
  obtain ⟨ro, fr, ch, ov, M⟩ := M
  have hp := pw_pos n
  refine x_aload_n G dX5_free_0 rfl ?_
  refine x_aload_n G dX5_free_1 rfl ?_
  refine x_callV (n := 0) (rest := [.ref b]) (As := []) G (ci := 5) (c_allOf (Post := fun r7 h7 sz7 => r7 = some (.int (nI (2 ^ n - 1))) ∧ h = h7 ∧ sz = sz7) l D hn hn6 M ⟨rfl, rfl, rfl⟩) gX5_free_X5_allOf rfl ⟨rfl, by decide +kernel, by decide +kernel, by decide +kernel⟩ ⟨by decide, by decide⟩ rfl rfl (md_o M) dX5_free_2 rfl rfl (Nat.le_of_ble_eq_true rfl) ⟨by decide, by decide⟩ ?_
  rintro _ _ _ ⟨rfl, rfl, rfl⟩
  try dsimp only [Option.toList, List.cons_append, List.nil_append]
  refine x_callV (n := 1) (rest := []) (As := [.int (nI (2 ^ n - 1))]) G (ci := 5) (c_solvesA (Post := fun r7 h7 sz7 => r7 = none ∧ xF b (b + 14) h h7 ∧ ∃ ro9 ov9 c9 : Nat → Int64, (∀ i9, i9 < 6 * F (2 ^ n - 1) → ro9 i9 = Rw (2 ^ n - 1) i9) ∧ (∀ i9, i9 < 24 → c9 i9 = Cw (2 ^ n - 1) i9) ∧ Md dA h7 b tx ln fa st de dm sd im se kp pl wr dp su wa fc po ro9 (nI (F (2 ^ n - 1))) c9 ov9) (n := n) (m9 := 2 ^ n - 1) l D hn hn6 (by omega) hA ⟨_, _, _, _, M⟩ (fun h7 sz7 ro9 ov9 c9 a1 a2 q1 q2 => ⟨rfl, q2, ro9, ov9, c9, a1, a2, q1⟩)) gX5_free_X5_solves rfl ⟨rfl, by decide +kernel, by decide +kernel, by decide +kernel⟩ ⟨by decide, by decide⟩ rfl rfl (md_o M) dX5_free_5 rfl rfl (Nat.le_of_ble_eq_true rfl) ⟨by decide, by decide⟩ ?_
  rintro _ h1 sz1 ⟨rfl, F1, ro9, ov9, c9, a1, a2, M⟩
  try dsimp only [Option.toList, List.cons_append, List.nil_append]
  have hF6 := Ans_f hA (show 2 ^ n - 1 < 2 ^ n by omega)
  refine x_iload_n G dX5_free_8 rfl ?_
  refine x_iconstV (v := nI 0) G dX5_free_9 (by decide) ?_
  refine x_aload_n G dX5_free_10 rfl ?_
  refine x_get G kX5 inX5 18 (by decide) (by decide +kernel) dX5_free_11 (md_o M) rfl ?_
  refine x_iconstV (v := nI 1) G dX5_free_14 (by decide) ?_
  refine x_isub G dX5_free_15 ?_
  refine x_callS (n := 3) (rest := []) (As := [.int (v), .int (nI 0), .int (nI (F (2 ^ n - 1)) - nI 1)]) G (c_in (Post := fun r7 h7 sz7 => r7 = some (.int (x_b ((nI 0) ≤ (v) ∧ (v) ≤ (nI (F (2 ^ n - 1)) - nI 1)))) ∧ h1 = h7 ∧ sz1 = sz7) l D ⟨rfl, rfl, rfl⟩) gX5_free_X5_in rfl ⟨by decide +kernel, by decide +kernel, by decide +kernel⟩ ⟨by decide, by decide⟩ dX5_free_16 rfl rfl (Nat.le_of_ble_eq_true rfl) ⟨by decide, by decide⟩ ?_
  rintro _ _ _ ⟨rfl, rfl, rfl⟩
  try dsimp only [Option.toList, List.cons_append, List.nil_append]
  refine x_if_ne G 26 dX5_free_19 (by decide) (fun c_19 => ?_) (fun c_19 => ?_)
  · obtain ⟨k, hk, rfl⟩ := in_nat (by omega) (x_b_n.mp c_19)
    clear c_19
    refine x_iload_n G dX5_free_26 rfl ?_
    refine x_iconstV (v := nI 0) G dX5_free_27 (by decide) ?_
    refine x_iconstV (v := nI 5) G dX5_free_28 (by decide) ?_
    refine x_callS (n := 3) (rest := []) (As := [.int (w), .int (nI 0), .int (nI 5)]) G (c_in (Post := fun r7 h7 sz7 => r7 = some (.int (x_b ((nI 0) ≤ (w) ∧ (w) ≤ (nI 5)))) ∧ h1 = h7 ∧ sz1 = sz7) l D ⟨rfl, rfl, rfl⟩) gX5_free_X5_in rfl ⟨by decide +kernel, by decide +kernel, by decide +kernel⟩ ⟨by decide, by decide⟩ dX5_free_29 rfl rfl (Nat.le_of_ble_eq_true rfl) ⟨by decide, by decide⟩ ?_
    rintro _ _ _ ⟨rfl, rfl, rfl⟩
    try dsimp only [Option.toList, List.cons_append, List.nil_append]
    refine x_if_eq G 53 dX5_free_32 (by decide) (fun c_32 => ?_) (fun c_32 => ?_)
    · have e2 := x_b_0.mp c_32
      refine x_ldc2_w G (-1000000002) (by decide +kernel) dX5_free_53 ?_
      exact x_lret G dX5_free_56 (hp2 k hk rfl e2 _ _ ⟨_, _, _, _, M⟩ F1)
    · obtain ⟨q, -, hq, rfl⟩ := in_nat2 (by omega) (by decide) (x_b_n.mp c_32)
      clear c_32
      refine x_aload_n G dX5_free_35 rfl ?_
      refine x_get G kX5 inX5 17 (by decide) (by decide +kernel) dX5_free_36 (md_o M) rfl ?_
      refine x_bipushV (v := nI 6) G dX5_free_39 (by decide) ?_
      refine x_iload_n G dX5_free_41 rfl ?_
      refine x_imul G dX5_free_42 ?_
      refine x_iload_n G dX5_free_43 rfl ?_
      refine x_iadd G dX5_free_44 ?_
      refine x_topE (y := nI (6 * k + q)) (by rw [pk_mul, nI_add]) ?_
      refine x_laldN G dX5_free_45 (md_ro M) (by omega) (by decide) ?_
      refine x_ldc2_w G (1000000000000) (by decide +kernel) dX5_free_46 ?_
      refine x_ladd G dX5_free_49 ?_
      refine x_goto G 56 dX5_free_50 (by decide) ?_
      exact x_lret G dX5_free_56 (by rw [a1 (6 * k + q) (by omega)]; exact hp3 k hk rfl q hq rfl _ _ ⟨_, _, _, _, M⟩ F1)
  · have e1 := x_b_0.mp c_19
    refine x_ldc2_w G (-1000000001) (by decide +kernel) dX5_free_22 ?_
    exact x_lret G dX5_free_25 (hp1 e1 _ _ ⟨_, _, _, _, M⟩ F1)
theorem inX5_least_5 : ∀ w ∈ wsX50, w ∈ wsX5_least := by decide +kernel
set_option maxRecDepth 100000 in
set_option maxHeartbeats 4000000 in
/-- least -/
theorem c_least (l : Launch) (D : va_G) {dA : Nat → ClassId} {b : Nat} {v w : Int32} {tx : Nat → Int32} {ln : Int32} {fa : Int32} {st : Nat → Int32} {de : Nat → Int32} {dm : Int32} {sd : Int64} {im : Nat → Int32} {se : Nat → Int64} {kp : Nat → Int32} {pl : Int32} {wr : Int32} {dp : Int32} {su : Nat → Int32} {wa : Nat → Int32} {fc : Nat → Int32} {po : Nat → Int32} {n : Nat} {F : Nat → Nat} {Rw Cw : Nat → Nat → Int64} {h : xH} {sz : Nat} {Post : Option Value → xH → Nat → Prop} (hn : st 0 = nI n) (hn6 : n ≤ 6) (hA : Ans st n F Rw Cw) (M : MS dA h b tx ln fa st de dm sd im se kp pl wr dp su wa fc po) (hp1 : ¬ ((nI 0 ≤ v ∧ v ≤ nI 5) ∧ (nI 0 ≤ w ∧ w ≤ nI 3)) → Post (some (.long (-1000000001))) h sz) (hp2 : ∀ k, k ≤ 5 → v = nI k → ∀ q, q ≤ 3 → w = nI q → ∀ (h1 : xH) (sz1 : Nat), MS dA h1 b tx ln fa st de dm sd im se kp pl wr dp su wa fc po → xF b (b + 14) h h1 → Post (some (.long (Cw (2 ^ n - 1) (6 * q + k) + 1000000000000))) h1 sz1) (hpost : True) : xMet l yX5_least wsX5_least 5 127 0 0 D dA [.ref b, .int v, .int w] h sz Post := by
  refine x_open (cc := cX5_least) (maxL := 3) (ret := (some .long)) (by decide) rfl (Nat.le_of_ble_eq_true rfl) ?_
  intro p e s m args below meth c G _
  have inX5 : ∀ w ∈ wsX50, w ∈ wsX5_least := inX5_least_5
  obtain ⟨ro, fr, ch, ov, M⟩ := M
  have hp := pw_pos n
  refine x_iload_n G dX5_least_0 rfl ?_
  refine x_callS (n := 1) (rest := []) (As := [.int v]) G (c_isUnknown (Post := fun r7 h7 sz7 => r7 = some (.int (x_b (nI 0 ≤ v ∧ v ≤ nI 5))) ∧ h = h7 ∧ sz = sz7) l D ⟨rfl, rfl, rfl⟩) gX5_least_X5_isUnknown rfl ⟨by decide +kernel, by decide +kernel, by decide +kernel⟩ ⟨by decide, by decide⟩ dX5_least_1 rfl rfl (Nat.le_of_ble_eq_true rfl) ⟨by decide, by decide⟩ ?_
  rintro _ _ _ ⟨rfl, rfl, rfl⟩
  try dsimp only [Option.toList, List.cons_append, List.nil_append]
  refine x_if_eq G 14 dX5_least_4 (by decide) (fun c_4 => ?_) (fun c_4 => ?_)
  · have e1 := x_b_0.mp c_4
    refine x_ldc2_w G (-1000000001) (by decide +kernel) dX5_least_14 ?_
    exact x_lret G dX5_least_17 (hp1 (fun z => e1 z.1))
  · have e1 := x_b_n.mp c_4
    refine x_iload_n G dX5_least_7 rfl ?_
    refine x_callS (n := 1) (rest := []) (As := [.int w]) G (c_isBase (Post := fun r7 h7 sz7 => r7 = some (.int (x_b (nI 0 ≤ w ∧ w ≤ nI 3))) ∧ h = h7 ∧ sz = sz7) l D ⟨rfl, rfl, rfl⟩) gX5_least_X5_isBase rfl ⟨by decide +kernel, by decide +kernel, by decide +kernel⟩ ⟨by decide, by decide⟩ dX5_least_8 rfl rfl (Nat.le_of_ble_eq_true rfl) ⟨by decide, by decide⟩ ?_
    rintro _ _ _ ⟨rfl, rfl, rfl⟩
    try dsimp only [Option.toList, List.cons_append, List.nil_append]
    refine x_if_ne G 18 dX5_least_11 (by decide) (fun c_11 => ?_) (fun c_11 => ?_)
    · have e2 := x_b_n.mp c_11
      obtain ⟨k, -, hk, rfl⟩ := in_nat2 (by omega) (by decide) e1
      obtain ⟨q, -, hq, rfl⟩ := in_nat2 (by omega) (by decide) e2
      refine x_aload_n G dX5_least_18 rfl ?_
      refine x_aload_n G dX5_least_19 rfl ?_
      refine x_callV (n := 0) (rest := [.ref b]) (As := []) G (ci := 5) (c_allOf (Post := fun r7 h7 sz7 => r7 = some (.int (nI (2 ^ n - 1))) ∧ h = h7 ∧ sz = sz7) l D hn hn6 M ⟨rfl, rfl, rfl⟩) gX5_least_X5_allOf rfl ⟨rfl, by decide +kernel, by decide +kernel, by decide +kernel⟩ ⟨by decide, by decide⟩ rfl rfl (md_o M) dX5_least_20 rfl rfl (Nat.le_of_ble_eq_true rfl) ⟨by decide, by decide⟩ ?_
      rintro _ _ _ ⟨rfl, rfl, rfl⟩
      try dsimp only [Option.toList, List.cons_append, List.nil_append]
      refine x_callV (n := 1) (rest := []) (As := [.int (nI (2 ^ n - 1))]) G (ci := 5) (c_solvesA (Post := fun r7 h7 sz7 => r7 = none ∧ xF b (b + 14) h h7 ∧ ∃ ro9 ov9 c9 : Nat → Int64, (∀ i9, i9 < 6 * F (2 ^ n - 1) → ro9 i9 = Rw (2 ^ n - 1) i9) ∧ (∀ i9, i9 < 24 → c9 i9 = Cw (2 ^ n - 1) i9) ∧ Md dA h7 b tx ln fa st de dm sd im se kp pl wr dp su wa fc po ro9 (nI (F (2 ^ n - 1))) c9 ov9) (n := n) (m9 := 2 ^ n - 1) l D hn hn6 (by omega) hA ⟨_, _, _, _, M⟩ (fun h7 sz7 ro9 ov9 c9 a1 a2 q1 q2 => ⟨rfl, q2, ro9, ov9, c9, a1, a2, q1⟩)) gX5_least_X5_solves rfl ⟨rfl, by decide +kernel, by decide +kernel, by decide +kernel⟩ ⟨by decide, by decide⟩ rfl rfl (md_o M) dX5_least_23 rfl rfl (Nat.le_of_ble_eq_true rfl) ⟨by decide, by decide⟩ ?_
      rintro _ h1 sz1 ⟨rfl, F1, ro9, ov9, c9, a1, a2, M⟩
      try dsimp only [Option.toList, List.cons_append, List.nil_append]
      have hF6 := Ans_f hA (show 2 ^ n - 1 < 2 ^ n by omega)
      refine x_aload_n G dX5_least_26 rfl ?_
      refine x_get G kX5 inX5 19 (by decide) (by decide +kernel) dX5_least_27 (md_o M) rfl ?_
      refine x_bipushV (v := nI 6) G dX5_least_30 (by decide) ?_
      refine x_iload_n G dX5_least_32 rfl ?_
      refine x_imul G dX5_least_33 ?_
      refine x_iload_n G dX5_least_34 rfl ?_
      refine x_iadd G dX5_least_35 ?_
      refine x_topE (y := nI (6 * q + k)) (by rw [pk_mul, nI_add]) ?_
      refine x_laldN G dX5_least_36 (md_ch M) (by omega) (by decide) ?_
      refine x_ldc2_w G (1000000000000) (by decide +kernel) dX5_least_37 ?_
      refine x_ladd G dX5_least_40 ?_
      exact x_lret G dX5_least_41 (by rw [a2 (6 * q + k) (by omega)]; exact hp2 k hk rfl q hq rfl _ _ ⟨_, _, _, _, M⟩ F1)
    · have e2 := x_b_0.mp c_11
      refine x_ldc2_w G (-1000000001) (by decide +kernel) dX5_least_14 ?_
      exact x_lret G dX5_least_17 (hp1 (fun z => e2 z.2))
theorem inX5_isTold_5 : ∀ w ∈ wsX50, w ∈ wsX5_isTold := by decide +kernel
set_option maxRecDepth 100000 in
set_option maxHeartbeats 4000000 in
/-- isTold -/
theorem c_isTold (l : Launch) (D : va_G) {dA : Nat → ClassId} {b : Nat} {v : Int32} {tx : Nat → Int32} {ln : Int32} {fa : Int32} {st : Nat → Int32} {de : Nat → Int32} {dm : Int32} {sd : Int64} {im : Nat → Int32} {se : Nat → Int64} {kp : Nat → Int32} {pl : Int32} {wr : Int32} {dp : Int32} {su : Nat → Int32} {wa : Nat → Int32} {fc : Nat → Int32} {po : Nat → Int32} {n : Nat} {F : Nat → Nat} {Rw Cw : Nat → Nat → Int64} {h : xH} {sz : Nat} {Post : Option Value → xH → Nat → Prop} (hn : st 0 = nI n) (hn6 : n ≤ 6) (hA : Ans st n F Rw Cw) (M : MS dA h b tx ln fa st de dm sd im se kp pl wr dp su wa fc po) (hp1 : ¬ (nI 0 ≤ v ∧ v ≤ nI 5) → Post (some (.int (-1000000001))) h sz) (hp2 : ∀ k, k ≤ 5 → v = nI k → ∀ (h1 : xH) (sz1 : Nat), MS dA h1 b tx ln fa st de dm sd im se kp pl wr dp su wa fc po → xF b (b + 14) h h1 → Post (some (.int (x_b (r_su (Rw (2 ^ n - 1)) k (F (2 ^ n - 1)) = true)))) h1 sz1) (hpost : True) : xMet l yX5_isTold wsX5_isTold 5 127 0 0 D dA [.ref b, .int v] h sz Post := by
  refine x_open (cc := cX5_isTold) (maxL := 2) (ret := (some .int)) (by decide) rfl (Nat.le_of_ble_eq_true rfl) ?_
  intro p e s m args below meth c G _
  have inX5 : ∀ w ∈ wsX50, w ∈ wsX5_isTold := inX5_isTold_5
  obtain ⟨ro, fr, ch, ov, M⟩ := M
  have hp := pw_pos n
  refine x_iload_n G dX5_isTold_0 rfl ?_
  refine x_callS (n := 1) (rest := []) (As := [.int v]) G (c_isUnknown (Post := fun r7 h7 sz7 => r7 = some (.int (x_b (nI 0 ≤ v ∧ v ≤ nI 5))) ∧ h = h7 ∧ sz = sz7) l D ⟨rfl, rfl, rfl⟩) gX5_isTold_X5_isUnknown rfl ⟨by decide +kernel, by decide +kernel, by decide +kernel⟩ ⟨by decide, by decide⟩ dX5_isTold_1 rfl rfl (Nat.le_of_ble_eq_true rfl) ⟨by decide, by decide⟩ ?_
  rintro _ _ _ ⟨rfl, rfl, rfl⟩
  try dsimp only [Option.toList, List.cons_append, List.nil_append]
  refine x_if_ne G 10 dX5_isTold_4 (by decide) (fun c_4 => ?_) (fun c_4 => ?_)
  · obtain ⟨k, -, hk, rfl⟩ := in_nat2 (by omega) (by decide) (x_b_n.mp c_4)
    refine x_aload_n G dX5_isTold_10 rfl ?_
    refine x_aload_n G dX5_isTold_11 rfl ?_
    refine x_callV (n := 0) (rest := [.ref b]) (As := []) G (ci := 5) (c_allOf (Post := fun r7 h7 sz7 => r7 = some (.int (nI (2 ^ n - 1))) ∧ h = h7 ∧ sz = sz7) l D hn hn6 M ⟨rfl, rfl, rfl⟩) gX5_isTold_X5_allOf rfl ⟨rfl, by decide +kernel, by decide +kernel, by decide +kernel⟩ ⟨by decide, by decide⟩ rfl rfl (md_o M) dX5_isTold_12 rfl rfl (Nat.le_of_ble_eq_true rfl) ⟨by decide, by decide⟩ ?_
    rintro _ _ _ ⟨rfl, rfl, rfl⟩
    try dsimp only [Option.toList, List.cons_append, List.nil_append]
    refine x_callV (n := 1) (rest := []) (As := [.int (nI (2 ^ n - 1))]) G (ci := 5) (c_solvesA (Post := fun r7 h7 sz7 => r7 = none ∧ xF b (b + 14) h h7 ∧ ∃ ro9 ov9 c9 : Nat → Int64, (∀ i9, i9 < 6 * F (2 ^ n - 1) → ro9 i9 = Rw (2 ^ n - 1) i9) ∧ (∀ i9, i9 < 24 → c9 i9 = Cw (2 ^ n - 1) i9) ∧ Md dA h7 b tx ln fa st de dm sd im se kp pl wr dp su wa fc po ro9 (nI (F (2 ^ n - 1))) c9 ov9) (n := n) (m9 := 2 ^ n - 1) l D hn hn6 (by omega) hA ⟨_, _, _, _, M⟩ (fun h7 sz7 ro9 ov9 c9 a1 a2 q1 q2 => ⟨rfl, q2, ro9, ov9, c9, a1, a2, q1⟩)) gX5_isTold_X5_solves rfl ⟨rfl, by decide +kernel, by decide +kernel, by decide +kernel⟩ ⟨by decide, by decide⟩ rfl rfl (md_o M) dX5_isTold_15 rfl rfl (Nat.le_of_ble_eq_true rfl) ⟨by decide, by decide⟩ ?_
    rintro _ h1 sz1 ⟨rfl, F1, ro9, ov9, c9, a1, a2, M⟩
    try dsimp only [Option.toList, List.cons_append, List.nil_append]
    have hF6 := Ans_f hA (show 2 ^ n - 1 < 2 ^ n by omega)
    refine x_aload_n G dX5_isTold_18 rfl ?_
    refine x_iload_n G dX5_isTold_19 rfl ?_
    refine x_callV (n := 1) (rest := []) (As := [.int (nI k)]) G (ci := 5) (c_isSure (Post := fun r7 h7 sz7 => r7 = some (.int (x_b (r_su (Rw (2 ^ n - 1)) k (F (2 ^ n - 1)) = true))) ∧ h1 = h7 ∧ sz1 = sz7) l D hF6 (by omega) M (by rw [r_su_c (by omega) a1]; exact ⟨rfl, rfl, rfl⟩)) gX5_isTold_X5_isSure rfl ⟨rfl, by decide +kernel, by decide +kernel, by decide +kernel⟩ ⟨by decide, by decide⟩ rfl rfl (md_o M) dX5_isTold_20 rfl rfl (Nat.le_of_ble_eq_true rfl) ⟨by decide, by decide⟩ ?_
    rintro _ _ _ ⟨rfl, rfl, rfl⟩
    try dsimp only [Option.toList, List.cons_append, List.nil_append]
    refine x_if_eq G 30 dX5_isTold_23 (by decide) (fun c_23 => ?_) (fun c_23 => ?_)
    · have e4 : x_b (r_su (Rw (2 ^ n - 1)) k (F (2 ^ n - 1)) = true) = nI 0 := c_23
      refine x_iconstV (v := nI 0) G dX5_isTold_30 (by decide) ?_
      exact x_iret G dX5_isTold_31 (by rw [← e4]; exact hp2 k hk rfl _ _ ⟨_, _, _, _, M⟩ F1)
    · have e4 : x_b (r_su (Rw (2 ^ n - 1)) k (F (2 ^ n - 1)) = true) = nI 1 := x_b_t (x_b_n.mp c_23)
      refine x_iconstV (v := nI 1) G dX5_isTold_26 (by decide) ?_
      refine x_goto G 31 dX5_isTold_27 (by decide) ?_
      exact x_iret G dX5_isTold_31 (by rw [← e4]; exact hp2 k hk rfl _ _ ⟨_, _, _, _, M⟩ F1)
  · have e1 := x_b_0.mp c_4
    refine x_ldc G (-1000000001) (by decide +kernel) dX5_isTold_7 ?_
    exact x_iret G dX5_isTold_9 (hp1 e1)
theorem inX5_told_5 : ∀ w ∈ wsX50, w ∈ wsX5_told := by decide +kernel
def toldA (st : Nat → Int32) (n : Nat) (F : Nat → Nat) (Rw Cw : Nat → Nat → Int64) (ln dm : Int32) (w : Nat) : Int32 := match w with
  | 0 => nI n
  | 1 => nI (6 - F (2 ^ n - 1))
  | 2 => nI (F (2 ^ n - 1))
  | 3 => nI (r_ct (fun j => r_su (Rw (2 ^ n - 1)) j (F (2 ^ n - 1))) 6)
  | 4 => ln
  | 5 => nI (r_ct (spA st n F Rw Cw) n)
  | 6 => nI (r_bits (fwA st n F Rw Cw (2 ^ n)))
  | 7 => nI (fwA st n F Rw Cw (2 ^ n))
  | _ => dm
theorem r_ct_c {p q : Nat → Bool} : ∀ {n : Nat}, (∀ j, j < n → p j = q j) → r_ct p n = r_ct q n
  | 0, _ => rfl
  | n + 1, k => by
    unfold r_ct
    rw [r_ct_c (fun j hj => k j (by omega)), k n (by omega)]
set_option maxRecDepth 100000 in
set_option maxHeartbeats 4000000 in
/-- told -/
theorem c_told (l : Launch) (D : va_G) {dA : Nat → ClassId} {b : Nat} {v : Int32} {tx : Nat → Int32} {ln : Int32} {fa : Int32} {st : Nat → Int32} {de : Nat → Int32} {dm : Int32} {sd : Int64} {im : Nat → Int32} {se : Nat → Int64} {kp : Nat → Int32} {pl : Int32} {wr : Int32} {dp : Int32} {su : Nat → Int32} {wa : Nat → Int32} {fc : Nat → Int32} {po : Nat → Int32} {n : Nat} {F : Nat → Nat} {Rw Cw : Nat → Nat → Int64} {h : xH} {sz : Nat} {Post : Option Value → xH → Nat → Prop} (hn : st 0 = nI n) (hn6 : n ≤ 6) (hA : Ans st n F Rw Cw) (M : MS dA h b tx ln fa st de dm sd im se kp pl wr dp su wa fc po) (hp1 : (v.toInt < 0 ∨ 8 < v.toInt) → ∀ (h1 : xH) (sz1 : Nat), MS dA h1 b tx ln fa st de dm sd im se kp pl wr dp su wa fc po → xF b (b + 14) h h1 → Post (some (.int (-1000000002))) h1 sz1) (hp2 : ∀ w, w ≤ 8 → v = nI w → ∀ (h1 : xH) (sz1 : Nat), MS dA h1 b tx ln fa st de dm sd im se kp pl wr dp su wa fc po → xF b (b + 14) h h1 → Post (some (.int (toldA st n F Rw Cw ln dm w))) h1 sz1) (hpost : True) : xMet l yX5_told wsX5_told 7 170 0 0 D dA [.ref b, .int v] h sz Post := by
  refine x_open (cc := cX5_told) (maxL := 2) (ret := (some .int)) (by decide) rfl (Nat.le_of_ble_eq_true rfl) ?_
  intro p e s m args below meth c G _
  have inX5 : ∀ w ∈ wsX50, w ∈ wsX5_told := inX5_told_5
  obtain ⟨ro, fr, ch, ov, M⟩ := M
  have hp := pw_pos n
  refine x_aload_n G dX5_told_0 rfl ?_
  refine x_aload_n G dX5_told_1 rfl ?_
  refine x_callV (n := 0) (rest := [.ref b]) (As := []) G (ci := 5) (c_allOf (Post := fun r7 h7 sz7 => r7 = some (.int (nI (2 ^ n - 1))) ∧ h = h7 ∧ sz = sz7) l D hn hn6 M ⟨rfl, rfl, rfl⟩) gX5_told_X5_allOf rfl ⟨rfl, by decide +kernel, by decide +kernel, by decide +kernel⟩ ⟨by decide, by decide⟩ rfl rfl (md_o M) dX5_told_2 rfl rfl (Nat.le_of_ble_eq_true rfl) ⟨by decide, by decide⟩ ?_
  rintro _ _ _ ⟨rfl, rfl, rfl⟩
  try dsimp only [Option.toList, List.cons_append, List.nil_append]
  refine x_callV (n := 1) (rest := []) (As := [.int (nI (2 ^ n - 1))]) G (ci := 5) (c_solvesA (Post := fun r7 h7 sz7 => r7 = none ∧ xF b (b + 14) h h7 ∧ ∃ ro9 ov9 c9 : Nat → Int64, (∀ i9, i9 < 6 * F (2 ^ n - 1) → ro9 i9 = Rw (2 ^ n - 1) i9) ∧ (∀ i9, i9 < 24 → c9 i9 = Cw (2 ^ n - 1) i9) ∧ Md dA h7 b tx ln fa st de dm sd im se kp pl wr dp su wa fc po ro9 (nI (F (2 ^ n - 1))) c9 ov9) (n := n) (m9 := 2 ^ n - 1) l D hn hn6 (by omega) hA ⟨_, _, _, _, M⟩ (fun h7 sz7 ro9 ov9 c9 a1 a2 q1 q2 => ⟨rfl, q2, ro9, ov9, c9, a1, a2, q1⟩)) gX5_told_X5_solves rfl ⟨rfl, by decide +kernel, by decide +kernel, by decide +kernel⟩ ⟨by decide, by decide⟩ rfl rfl (md_o M) dX5_told_5 rfl rfl (Nat.le_of_ble_eq_true rfl) ⟨by decide, by decide⟩ ?_
  rintro _ h1 sz1 ⟨rfl, F1, ro9, ov9, c9, a1, a2, M⟩
  try dsimp only [Option.toList, List.cons_append, List.nil_append]
  have hF6 := Ans_f hA (show 2 ^ n - 1 < 2 ^ n by omega)
  refine x_iload_n G dX5_told_8 rfl ?_
  by_cases hw : v.toInt < 0 ∨ 8 < v.toInt
  · refine x_tableOut G 113 dX5_told_9 hw (by decide) ?_
    refine x_ldc G (-1000000002) (by decide +kernel) dX5_told_113 ?_
    exact x_iret G dX5_told_115 (hp1 hw _ _ ⟨_, _, _, _, M⟩ F1)
  · obtain ⟨w, -, hw8, rfl⟩ := in_nat2 (lo := 0) (hi := 8) (v := v) (by omega) (by decide) ⟨Int32.le_iff_toInt_le.mpr (by rw [nI_toInt (by decide)]; omega), Int32.le_iff_toInt_le.mpr (by rw [nI_toInt (by decide)]; omega)⟩
    clear hw
    rcases (show w = 0 ∨ w = 1 ∨ w = 2 ∨ w = 3 ∨ w = 4 ∨ w = 5 ∨ w = 6 ∨ w = 7 ∨ w = 8 by omega) with rfl | rfl | rfl | rfl | rfl | rfl | rfl | rfl | rfl
    · refine x_tableIn (off := 51) G 60 dX5_told_9 (by decide) (by decide) (by decide) (by decide) ?_
      refine x_aload_n G dX5_told_60 rfl ?_
      refine x_get G kX5 inX5 3 (by decide) (by decide +kernel) dX5_told_61 (md_o M) rfl ?_
      refine x_iconstV (v := nI 0) G dX5_told_64 (by decide) ?_
      refine x_ialdN G dX5_told_65 (md_st M) (by omega) (by decide) ?_
      refine x_topE (y := nI n) hn ?_
      exact x_iret G dX5_told_66 (hp2 0 (by decide) rfl _ _ ⟨_, _, _, _, M⟩ F1)
    · refine x_tableIn (off := 58) G 67 dX5_told_9 (by decide) (by decide) (by decide) (by decide) ?_
      refine x_bipushV (v := nI 6) G dX5_told_67 (by decide) ?_
      refine x_aload_n G dX5_told_69 rfl ?_
      refine x_get G kX5 inX5 18 (by decide) (by decide +kernel) dX5_told_70 (md_o M) rfl ?_
      refine x_isub G dX5_told_73 ?_
      refine x_topE (y := nI (6 - F (2 ^ n - 1))) (pk_sub hF6) ?_
      exact x_iret G dX5_told_74 (hp2 1 (by decide) rfl _ _ ⟨_, _, _, _, M⟩ F1)
    · refine x_tableIn (off := 66) G 75 dX5_told_9 (by decide) (by decide) (by decide) (by decide) ?_
      refine x_aload_n G dX5_told_75 rfl ?_
      refine x_get G kX5 inX5 18 (by decide) (by decide +kernel) dX5_told_76 (md_o M) rfl ?_
      exact x_iret G dX5_told_79 (hp2 2 (by decide) rfl _ _ ⟨_, _, _, _, M⟩ F1)
    · refine x_tableIn (off := 71) G 80 dX5_told_9 (by decide) (by decide) (by decide) (by decide) ?_
      refine x_aload_n G dX5_told_80 rfl ?_
      refine x_callV (n := 0) (rest := []) (As := []) G (ci := 5) (c_toldMany (Post := fun r7 h7 sz7 => r7 = some (.int (nI (r_ct (fun j => r_su (Rw (2 ^ n - 1)) j (F (2 ^ n - 1))) 6))) ∧ h1 = h7 ∧ sz1 = sz7) l D hF6 M (by rw [r_ct_c (q := fun j => r_su (Rw (2 ^ n - 1)) j (F (2 ^ n - 1))) (fun j hj => r_su_c hj a1)]; exact ⟨rfl, rfl, rfl⟩)) gX5_told_X5_toldMany rfl ⟨rfl, by decide +kernel, by decide +kernel, by decide +kernel⟩ ⟨by decide, by decide⟩ rfl rfl (md_o M) dX5_told_81 rfl rfl (Nat.le_of_ble_eq_true rfl) ⟨by decide, by decide⟩ ?_
      rintro _ _ _ ⟨rfl, rfl, rfl⟩
      try dsimp only [Option.toList, List.cons_append, List.nil_append]
      exact x_iret G dX5_told_84 (hp2 3 (by decide) rfl _ _ ⟨_, _, _, _, M⟩ F1)
    · refine x_tableIn (off := 76) G 85 dX5_told_9 (by decide) (by decide) (by decide) (by decide) ?_
      refine x_aload_n G dX5_told_85 rfl ?_
      refine x_get G kX5 inX5 1 (by decide) (by decide +kernel) dX5_told_86 (md_o M) rfl ?_
      exact x_iret G dX5_told_89 (hp2 4 (by decide) rfl _ _ ⟨_, _, _, _, M⟩ F1)
    · refine x_tableIn (off := 81) G 90 dX5_told_9 (by decide) (by decide) (by decide) (by decide) ?_
      refine x_aload_n G dX5_told_90 rfl ?_
      refine x_callV (n := 0) (rest := []) (As := []) G (ci := 5) (c_spareMany (Post := fun r7 h7 sz7 => r7 = some (.int (nI (r_ct (spA st n F Rw Cw) n))) ∧ MS dA h7 b tx ln fa st de dm sd im se kp pl wr dp su wa fc po ∧ xF b (b + 14) h1 h7) l D hn hn6 hA ⟨_, _, _, _, M⟩ (fun h7 sz7 q1 q2 => ⟨rfl, q1, q2⟩)) gX5_told_X5_spareMany rfl ⟨rfl, by decide +kernel, by decide +kernel, by decide +kernel⟩ ⟨by decide, by decide⟩ rfl rfl (md_o M) dX5_told_91 rfl rfl (Nat.le_of_ble_eq_true rfl) ⟨by decide, by decide⟩ ?_
      rintro _ h1 sz1 ⟨rfl, ⟨ro, fr, ch, ov, M⟩, F2⟩
      try dsimp only [Option.toList, List.cons_append, List.nil_append]
      replace F1 := xF_tr F1 F2
      exact x_iret G dX5_told_94 (hp2 5 (by decide) rfl _ _ ⟨_, _, _, _, M⟩ F1)
    · refine x_tableIn (off := 86) G 95 dX5_told_9 (by decide) (by decide) (by decide) (by decide) ?_
      refine x_aload_n G dX5_told_95 rfl ?_
      refine x_callV (n := 0) (rest := []) (As := []) G (ci := 5) (c_fewestOf (Post := fun r7 h7 sz7 => r7 = some (.int (nI (fwA st n F Rw Cw (2 ^ n)))) ∧ MS dA h7 b tx ln fa st de dm sd im se kp pl wr dp su wa fc po ∧ xF b (b + 14) h1 h7) l D hn hn6 hA ⟨_, _, _, _, M⟩ (fun h7 sz7 q1 q2 => ⟨rfl, q1, q2⟩)) gX5_told_X5_fewestOf rfl ⟨rfl, by decide +kernel, by decide +kernel, by decide +kernel⟩ ⟨by decide, by decide⟩ rfl rfl (md_o M) dX5_told_96 rfl rfl (Nat.le_of_ble_eq_true rfl) ⟨by decide, by decide⟩ ?_
      rintro _ h1 sz1 ⟨rfl, ⟨ro, fr, ch, ov, M⟩, F2⟩
      try dsimp only [Option.toList, List.cons_append, List.nil_append]
      replace F1 := xF_tr F1 F2
      refine x_callS (n := 1) (rest := []) (As := [.int (nI (fwA st n F Rw Cw (2 ^ n)))]) G (c_bits (Post := fun r7 h7 sz7 => r7 = some (.int (nI (r_bits (fwA st n F Rw Cw (2 ^ n))))) ∧ h1 = h7 ∧ sz1 = sz7) l D (two_le hn6 (fwA_lt _)) ⟨rfl, rfl, rfl⟩) gX5_told_X5_bits rfl ⟨by decide +kernel, by decide +kernel, by decide +kernel⟩ ⟨by decide, by decide⟩ dX5_told_99 rfl rfl (Nat.le_of_ble_eq_true rfl) ⟨by decide, by decide⟩ ?_
      rintro _ _ _ ⟨rfl, rfl, rfl⟩
      try dsimp only [Option.toList, List.cons_append, List.nil_append]
      exact x_iret G dX5_told_102 (hp2 6 (by decide) rfl _ _ ⟨_, _, _, _, M⟩ F1)
    · refine x_tableIn (off := 94) G 103 dX5_told_9 (by decide) (by decide) (by decide) (by decide) ?_
      refine x_aload_n G dX5_told_103 rfl ?_
      refine x_callV (n := 0) (rest := []) (As := []) G (ci := 5) (c_fewestOf (Post := fun r7 h7 sz7 => r7 = some (.int (nI (fwA st n F Rw Cw (2 ^ n)))) ∧ MS dA h7 b tx ln fa st de dm sd im se kp pl wr dp su wa fc po ∧ xF b (b + 14) h1 h7) l D hn hn6 hA ⟨_, _, _, _, M⟩ (fun h7 sz7 q1 q2 => ⟨rfl, q1, q2⟩)) gX5_told_X5_fewestOf rfl ⟨rfl, by decide +kernel, by decide +kernel, by decide +kernel⟩ ⟨by decide, by decide⟩ rfl rfl (md_o M) dX5_told_104 rfl rfl (Nat.le_of_ble_eq_true rfl) ⟨by decide, by decide⟩ ?_
      rintro _ h1 sz1 ⟨rfl, ⟨ro, fr, ch, ov, M⟩, F2⟩
      try dsimp only [Option.toList, List.cons_append, List.nil_append]
      replace F1 := xF_tr F1 F2
      exact x_iret G dX5_told_107 (hp2 7 (by decide) rfl _ _ ⟨_, _, _, _, M⟩ F1)
    · refine x_tableIn (off := 99) G 108 dX5_told_9 (by decide) (by decide) (by decide) (by decide) ?_
      refine x_aload_n G dX5_told_108 rfl ?_
      refine x_get G kX5 inX5 5 (by decide) (by decide +kernel) dX5_told_109 (md_o M) rfl ?_
      exact x_iret G dX5_told_112 (hp2 8 (by decide) rfl _ _ ⟨_, _, _, _, M⟩ F1)
