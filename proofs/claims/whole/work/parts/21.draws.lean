def mw_t (u d : Int64) (law : Int32) : Prop := law = nI 1 ∨ d < 2 * (u - u / d * d) ∨ (2 * (u - u / d * d) = d ∧ (law = nI 2 ∨ u / d - u / d / 2 * 2 = 1))
def r_mw (u d : Int64) (law : Int32) : Int64 := if u - u / d * d = 0 ∨ law = 0 then u / d else if law = nI 1 ∨ d < 2 * (u - u / d * d) ∨ (2 * (u - u / d * d) = d ∧ (law = nI 2 ∨ u / d - u / d / 2 * 2 = 1)) then u / d + 1 else u / d
set_option maxRecDepth 100000 in
set_option maxHeartbeats 4000000 in
/-- madeWhole -/
theorem c_madeWhole (l : Launch) (D : va_G) {dA : Nat → ClassId} {u d : Int64} {law : Int32} {h : xH} {sz : Nat} {Post : Option Value → xH → Nat → Prop} (hd : ¬ d = 0) (hpost : Post (some (.long (r_mw u d law))) h sz) : xMet l yX5_madeWhole wsX5_madeWhole 0 0 0 0 D dA [.long u, .long d, .int law] h sz Post := by
  refine x_open (cc := cX5_madeWhole) (maxL := 10) (ret := (some .long)) (by decide) rfl (Nat.le_of_ble_eq_true rfl) ?_
  intro p e s m args below meth c G _
  refine x_lload_n G dX5_madeWhole_0 rfl ?_
  refine x_lload_n G dX5_madeWhole_1 rfl ?_
  refine x_ldiv G dX5_madeWhole_2 hd ?_
  refine x_lstore G dX5_madeWhole_3 (by decide) ?_
  refine x_lload_n G dX5_madeWhole_5 rfl ?_
  refine x_lload_n G dX5_madeWhole_6 rfl ?_
  refine x_lrem G dX5_madeWhole_7 hd ?_
  refine x_lstore G dX5_madeWhole_8 (by decide) ?_
  refine x_lload G dX5_madeWhole_10 rfl ?_
  refine x_lconstV (v := 0) G dX5_madeWhole_12 (by decide) ?_
  refine x_lcmp G dX5_madeWhole_13 ?_
  refine x_if_eq G 22 dX5_madeWhole_14 (by decide) (fun c_14 => ?_) (fun c_14 => ?_)
  · have ez : r_mw u d law = u / d := if_pos (Or.inl ((x_lgeq _ _).mp c_14))
    rw [ez] at hpost
    refine x_lload G dX5_madeWhole_22 rfl ?_
    exact x_lret G dX5_madeWhole_24 hpost
  · have e1 : ¬ (u - u / d * d = 0) := fun q => c_14 ((x_lgeq _ _).mpr q)
    refine x_iload G dX5_madeWhole_17 rfl ?_
    refine x_if_ne G 25 dX5_madeWhole_19 (by decide) (fun c_19 => ?_) (fun c_19 => ?_)
    · have e2 : ¬ law = 0 := c_19
      have J1 : Post (some (.long (u / d + 1))) h sz → xV p l e (headSpec wsX5_madeWhole { frames := 0, cells := 0, slots := 0, locals := 0 }).room s m args below meth c D dA 10 h sz 0 0 Post 0 0 75 [(0, .long u), (2, .long d), (4, .int law), (5, .long (u / d)), (7, .long (u - u / d * d))] [.int (nI 1)] h sz := by
        intro hpost
        refine x_istore G dX5_madeWhole_75 (by decide) ?_
        refine x_iload G dX5_madeWhole_77 rfl ?_
        refine x_if_eq G 89 dX5_madeWhole_79 (by decide) (fun q => absurd q (by decide)) (fun _ => ?_)
        refine x_lload G dX5_madeWhole_82 rfl ?_
        refine x_lconstV (v := 1) G dX5_madeWhole_84 (by decide) ?_
        refine x_ladd G dX5_madeWhole_85 ?_
        refine x_goto G 91 dX5_madeWhole_86 (by decide) ?_
        exact x_lret G dX5_madeWhole_91 hpost
      have J0 : Post (some (.long (u / d))) h sz → xV p l e (headSpec wsX5_madeWhole { frames := 0, cells := 0, slots := 0, locals := 0 }).room s m args below meth c D dA 10 h sz 0 0 Post 0 0 75 [(0, .long u), (2, .long d), (4, .int law), (5, .long (u / d)), (7, .long (u - u / d * d))] [.int (nI 0)] h sz := by
        intro hpost
        refine x_istore G dX5_madeWhole_75 (by decide) ?_
        refine x_iload G dX5_madeWhole_77 rfl ?_
        refine x_if_eq G 89 dX5_madeWhole_79 (by decide) (fun _ => ?_) (fun q => absurd rfl q)
        refine x_lload G dX5_madeWhole_89 rfl ?_
        exact x_lret G dX5_madeWhole_91 hpost
      refine x_iload G dX5_madeWhole_25 rfl ?_
      refine x_iconstV (v := nI 1) G dX5_madeWhole_27 (by decide) ?_
      refine x_icmp_eq G 70 dX5_madeWhole_28 (by decide) (fun c_28 => ?_) (fun c_28 => ?_)
      · have ez : r_mw u d law = u / d + 1 := by
          unfold r_mw
          rw [if_neg (fun z => z.elim e1 e2), if_pos (Or.inl c_28)]
        rw [ez] at hpost
        refine x_iconstV (v := nI 1) G dX5_madeWhole_70 (by decide) ?_
        refine x_goto G 75 dX5_madeWhole_71 (by decide) ?_
        exact J1 hpost
      · have e3 := c_28
        refine x_ldc2_w G (2) (by decide +kernel) dX5_madeWhole_31 ?_
        refine x_lload G dX5_madeWhole_34 rfl ?_
        refine x_lmul G dX5_madeWhole_36 ?_
        refine x_lload_n G dX5_madeWhole_37 rfl ?_
        refine x_lcmp G dX5_madeWhole_38 ?_
        refine x_if_gt G 70 dX5_madeWhole_39 (by decide) (fun c_39 => ?_) (fun c_39 => ?_)
        · have ez : r_mw u d law = u / d + 1 := by
            unfold r_mw
            rw [if_neg (fun z => z.elim e1 e2), if_pos (Or.inr (Or.inl ((x_lggt _ _).mp c_39)))]
          rw [ez] at hpost
          refine x_iconstV (v := nI 1) G dX5_madeWhole_70 (by decide) ?_
          refine x_goto G 75 dX5_madeWhole_71 (by decide) ?_
          exact J1 hpost
        · have e4 : ¬ d < 2 * (u - u / d * d) := fun q => c_39 ((x_lggt _ _).mpr q)
          refine x_ldc2_w G (2) (by decide +kernel) dX5_madeWhole_42 ?_
          refine x_lload G dX5_madeWhole_45 rfl ?_
          refine x_lmul G dX5_madeWhole_47 ?_
          refine x_lload_n G dX5_madeWhole_48 rfl ?_
          refine x_lcmp G dX5_madeWhole_49 ?_
          refine x_if_ne G 74 dX5_madeWhole_50 (by decide) (fun c_50 => ?_) (fun c_50 => ?_)
          · have ez : r_mw u d law = u / d := by
              unfold r_mw
              rw [if_neg (fun z => z.elim e1 e2), if_neg (fun z => z.elim e3 (fun z => z.elim e4 (fun z => c_50 ((x_lgeq _ _).mpr z.1))))]
            rw [ez] at hpost
            refine x_iconstV (v := nI 0) G dX5_madeWhole_74 (by decide) ?_
            exact J0 hpost
          · have e5 := (x_lgeq _ _).mp c_50
            refine x_iload G dX5_madeWhole_53 rfl ?_
            refine x_iconstV (v := nI 2) G dX5_madeWhole_55 (by decide) ?_
            refine x_icmp_eq G 70 dX5_madeWhole_56 (by decide) (fun c_56 => ?_) (fun c_56 => ?_)
            · have ez : r_mw u d law = u / d + 1 := by
                unfold r_mw
                rw [if_neg (fun z => z.elim e1 e2), if_pos (Or.inr (Or.inr ⟨e5, Or.inl c_56⟩))]
              rw [ez] at hpost
              refine x_iconstV (v := nI 1) G dX5_madeWhole_70 (by decide) ?_
              refine x_goto G 75 dX5_madeWhole_71 (by decide) ?_
              exact J1 hpost
            · have e6 := c_56
              refine x_lload G dX5_madeWhole_59 rfl ?_
              refine x_ldc2_w G (2) (by decide +kernel) dX5_madeWhole_61 ?_
              refine x_lrem G dX5_madeWhole_64 (by decide) ?_
              refine x_lconstV (v := 1) G dX5_madeWhole_65 (by decide) ?_
              refine x_lcmp G dX5_madeWhole_66 ?_
              refine x_if_ne G 74 dX5_madeWhole_67 (by decide) (fun c_67 => ?_) (fun c_67 => ?_)
              · have ez : r_mw u d law = u / d := by
                  unfold r_mw
                  rw [if_neg (fun z => z.elim e1 e2), if_neg (fun z => z.elim e3 (fun z => z.elim e4 (fun z => z.2.elim e6 (fun z => c_67 ((x_lgeq _ _).mpr z)))))]
                rw [ez] at hpost
                refine x_iconstV (v := nI 0) G dX5_madeWhole_74 (by decide) ?_
                exact J0 hpost
              · have ez : r_mw u d law = u / d + 1 := by
                  unfold r_mw
                  rw [if_neg (fun z => z.elim e1 e2), if_pos (Or.inr (Or.inr ⟨e5, Or.inr ((x_lgeq _ _).mp c_67)⟩))]
                rw [ez] at hpost
                refine x_iconstV (v := nI 1) G dX5_madeWhole_70 (by decide) ?_
                refine x_goto G 75 dX5_madeWhole_71 (by decide) ?_
                exact J1 hpost
    · have ez : r_mw u d law = u / d := if_pos (Or.inr c_19)
      rw [ez] at hpost
      refine x_lload G dX5_madeWhole_22 rfl ?_
      exact x_lret G dX5_madeWhole_24 hpost
def dN (s : Nat) : Nat := (s * 1103515245 + 12345) % 2147483648
theorem dN_lt (s : Nat) : dN s < 2147483648 := Nat.mod_lt _ (by decide)
theorem dr_sN {s : Nat} (h : s < 2147483648) : dr_s (lN s) = lN (dN s) := by
  unfold dr_s dN
  rw [show (1103515245 : Int64) = lN 1103515245 from rfl, show (12345 : Int64) = lN 12345 from rfl, show (2147483648 : Int64) = lN 2147483648 from rfl, lN_mul, lN_add]
  exact pk_lRem (by omega) (by decide) (by decide)
theorem dr_vN {s n : Nat} (h : s < 2147483648) (hn : 0 < n) (hn2 : n < 2 ^ 31) : dr_v (lN s) (nI n) = nI (dN s / 65536 % n) := by
  unfold dr_v
  have := dN_lt s
  rw [dr_sN h, nI_l hn2, show (65536 : Int64) = lN 65536 from rfl, pk_lDiv (by omega) (by decide) (by decide), pk_lRem (by omega) hn (by omega), lN_i]
/-- the powers of a saying that is drawn -/
def dw_q (po : Nat → Int32) (f1 f2 d3 d4 : Nat) : Nat → Int32 :=
  upd (upd (upd po f1 (po f1 + nI 1)) f2 (upd po f1 (po f1 + nI 1) f2 + (nI d3 - nI 2))) (6 + d4) (upd (upd po f1 (po f1 + nI 1)) f2 (upd po f1 (po f1 + nI 1) f2 + (nI d3 - nI 2)) (6 + d4) - nI 1)
def dw_z (po : Nat → Int32) (n : Nat) : Nat → Int32 := fun k => if k < n then 0 else po k
theorem dw_z0 (po : Nat → Int32) : dw_z po 0 = po := by
  funext k
  unfold dw_z
  rw [if_neg (by omega)]
theorem dw_zs {po : Nat → Int32} {n : Nat} : upd (dw_z po n) n (nI 0) = dw_z po (n + 1) := by
  funext k
  unfold upd dw_z
  by_cases e : k = n
  · subst e
    rw [if_pos rfl, if_pos (by omega)]
    rfl
  · rw [if_neg e]
    by_cases e2 : k < n
    · rw [if_pos e2, if_pos (by omega)]
    · rw [if_neg e2, if_neg (by omega)]
/-- whether there is an unknown in it -/
def dw_a (po : Nat → Int32) (f1 f2 : Nat) : Bool := !(po f1 == 0) || !(po f2 == 0)
theorem inX5_drawn_5 : ∀ w ∈ wsX50, w ∈ wsX5_drawn := by decide +kernel
set_option maxRecDepth 100000 in
set_option maxHeartbeats 4000000 in
/-- drawn -/
theorem c_drawn (l : Launch) (D : va_G) {dA : Nat → ClassId} {b s9 s1 s2 s3 s4 f1 f2 d3 d4 d : Nat} {res : Bool} {tx : Nat → Int32} {ln : Int32} {fa : Int32} {st : Nat → Int32} {de : Nat → Int32} {im : Nat → Int32} {se : Nat → Int64} {kp : Nat → Int32} {pl : Int32} {wr : Int32} {dp : Int32} {su : Nat → Int32} {wa : Nat → Int32} {fc : Nat → Int32} {po : Nat → Int32} {n : Nat} {F : Nat → Nat} {Rw Cw : Nat → Nat → Int64} {h : xH} {sz : Nat} {Post : Option Value → xH → Nat → Prop} (hn : st 0 = nI n) (hn6 : n ≤ 6) (hA : Ans st n F Rw Cw) (hs : s9 < 2147483648) (hd : d ≤ 20) (es1 : s1 = dN s9) (es2 : s2 = dN s1) (es3 : s3 = dN s2) (es4 : s4 = dN s3) (ef1 : f1 = s1 / 65536 % 6) (ef2 : f2 = s2 / 65536 % 6) (ed3 : d3 = s3 / 65536 % 5) (ed4 : d4 = s4 / 65536 % 4) (hB : n < 6 → dw_a (dw_q (dw_z po 10) f1 f2 d3 d4) f1 f2 = true → May n F Rw Cw (dw_q (dw_z po 10) f1 f2 d3 d4) res) (M : MS dA h b tx ln fa st de (nI d) (lN s9) im se kp pl wr dp su wa fc po) (hp1 : (decide (n < 6) && dw_a (dw_q (dw_z po 10) f1 f2 d3 d4) f1 f2 && res) = false → ∀ (h1 : xH) (sz1 : Nat), MS dA h1 b tx ln fa st (nt_e de st d) (nI (nt_d d)) (lN (s4)) im se kp pl wr dp su wa fc (dw_q (dw_z po 10) f1 f2 d3 d4) → xF b (b + 14) h h1 → Post none h1 sz1) (hp2 : (decide (n < 6) && dw_a (dw_q (dw_z po 10) f1 f2 d3 d4) f1 f2 && res) = true → ∀ (h1 : xH) (sz1 : Nat), MS dA h1 b tx ln fa (sy_st st (dw_q (dw_z po 10) f1 f2 d3 d4) n) (nt_e de st d) (nI (nt_d d)) (lN (s4)) im se kp pl wr dp su wa fc (dw_q (dw_z po 10) f1 f2 d3 d4) → xF b (b + 14) h h1 → Post none h1 sz1) (hpost : True) : xMet l yX5_drawn wsX5_drawn 6 147 0 0 D dA [.ref b] h sz Post := by
  refine x_open (cc := cX5_drawn) (maxL := 5) (ret := none) (by decide) rfl (Nat.le_of_ble_eq_true rfl) ?_
  intro p e s m args below meth c G _
  have inX5 : ∀ w ∈ wsX50, w ∈ wsX5_drawn := inX5_drawn_5
  obtain ⟨ro, fr, ch, ov, M⟩ := M
  have bs9 := hs
  have bs1 : s1 < 2147483648 := by rw [es1]; exact dN_lt _
  have bs2 : s2 < 2147483648 := by rw [es2]; exact dN_lt _
  have bs3 : s3 < 2147483648 := by rw [es3]; exact dN_lt _
  have hf1 : f1 < 10 := by rw [ef1]; exact Nat.lt_of_lt_of_le (Nat.mod_lt _ (by decide)) (by decide)
  have hf2 : f2 < 10 := by rw [ef2]; exact Nat.lt_of_lt_of_le (Nat.mod_lt _ (by decide)) (by decide)
  have hf4 : 6 + d4 < 10 := by rw [ed4]; have := Nat.mod_lt (s4 / 65536) (show 0 < 4 by decide); omega
  refine x_iconstV (v := nI 0) G dX5_drawn_0 (by decide) ?_
  refine x_istore_n G dX5_drawn_1 (by decide) ?_
  refine x_loop (σ := Unit) (fun k _ => [(0, .ref b), (1, .int (nI k))]) 10 (fun k _ h1 sz1 => Md dA h1 b tx ln fa st de (nI d) (lN s9) im se kp pl wr dp su wa fc (dw_z po k) ro fr ch ov ∧ xF b (b + 14) h h1) ?_ ?_ 0 () h sz (Nat.zero_le _) ⟨by rw [dw_z0]; exact M, xF_rf⟩
  · intro k _ h1 sz1 hj hI nx
    try dsimp only at hI nx ⊢
    obtain ⟨M, F⟩ := hI
    refine x_iload_n G dX5_drawn_2 rfl ?_
    refine x_bipushV (v := nI 10) G dX5_drawn_3 (by decide) ?_
    refine x_icmp_ge G 21 dX5_drawn_5 (by decide) (fun c_5 => ?_) (fun c_5 => ?_)
    · exact absurd c_5 (nI_ge hj (by omega))
    · refine x_aload_n G dX5_drawn_8 rfl ?_
      refine x_get G kX5 inX5 16 (by decide) (by decide +kernel) dX5_drawn_9 (md_o M) rfl ?_
      refine x_iload_n G dX5_drawn_12 rfl ?_
      refine x_iconstV (v := nI 0) G dX5_drawn_13 (by decide) ?_
      refine x_iastN G dX5_drawn_14 (md_po M) (by omega) (by decide) ?_
      rw [dw_zs]
      have M := md_po_s M (dw_z po (k + 1))
      have F := xF_up (a := b + 10) (e := .inl (dA 0, 10, .inl (dw_z po (k + 1)))) F (by omega) (by omega)
      refine x_iinc G dX5_drawn_15 rfl (by decide) ?_
      refine x_locE (lv2 := [(0, .ref b), (1, .int (nI (k + 1)))]) (by rw [nI_succ k]; rfl) ?_
      refine x_goto G 2 dX5_drawn_18 (by decide) ?_
      exact nx () _ _ ⟨M, F⟩
  · intro _ h1 sz1 hI
    try dsimp only at hI ⊢
    obtain ⟨M, F⟩ := hI
    refine x_iload_n G dX5_drawn_2 rfl ?_
    refine x_bipushV (v := nI 10) G dX5_drawn_3 (by decide) ?_
    refine x_icmp_ge G 21 dX5_drawn_5 (by decide) (fun c_5 => ?_) (fun c_5 => ?_)
    · refine x_aload_n G dX5_drawn_21 rfl ?_
      refine x_bipushV (v := nI 6) G dX5_drawn_22 (by decide) ?_
      refine x_callV (n := 1) (rest := []) (As := [.int (nI 6)]) G (ci := 5) (c_draw (Post := fun r7 h7 sz7 => r7 = some (.int (nI f1)) ∧ Md dA h7 b tx ln fa st de (nI d) (lN s1) im se kp pl wr dp su wa fc (dw_z po 10) ro fr ch ov ∧ xF b (b + 14) h h7) (n := nI 6) l D (by decide) M (fun h7 sz7 q1 q2 => ⟨by rw [dr_vN bs9 (by decide) (by decide), ← es1, ← ef1], by rw [es1, ← dr_sN bs9]; exact q1, xF_tr F q2⟩)) gX5_drawn_X5_draw rfl ⟨rfl, by decide +kernel, by decide +kernel, by decide +kernel⟩ ⟨by decide, by decide⟩ rfl rfl (md_o M) dX5_drawn_24 rfl rfl (Nat.le_of_ble_eq_true rfl) ⟨by decide, by decide⟩ ?_
      rintro _ h1 sz1 ⟨rfl, M, F⟩
      try dsimp only [Option.toList, List.cons_append, List.nil_append]
      refine x_istore_n G dX5_drawn_27 (by decide) ?_
      refine x_aload_n G dX5_drawn_28 rfl ?_
      refine x_bipushV (v := nI 6) G dX5_drawn_29 (by decide) ?_
      refine x_callV (n := 1) (rest := []) (As := [.int (nI 6)]) G (ci := 5) (c_draw (Post := fun r7 h7 sz7 => r7 = some (.int (nI f2)) ∧ Md dA h7 b tx ln fa st de (nI d) (lN s2) im se kp pl wr dp su wa fc (dw_z po 10) ro fr ch ov ∧ xF b (b + 14) h h7) (n := nI 6) l D (by decide) M (fun h7 sz7 q1 q2 => ⟨by rw [dr_vN bs1 (by decide) (by decide), ← es2, ← ef2], by rw [es2, ← dr_sN bs1]; exact q1, xF_tr F q2⟩)) gX5_drawn_X5_draw rfl ⟨rfl, by decide +kernel, by decide +kernel, by decide +kernel⟩ ⟨by decide, by decide⟩ rfl rfl (md_o M) dX5_drawn_31 rfl rfl (Nat.le_of_ble_eq_true rfl) ⟨by decide, by decide⟩ ?_
      rintro _ h1 sz1 ⟨rfl, M, F⟩
      try dsimp only [Option.toList, List.cons_append, List.nil_append]
      refine x_istore_n G dX5_drawn_34 (by decide) ?_
      refine x_aload_n G dX5_drawn_35 rfl ?_
      refine x_get G kX5 inX5 16 (by decide) (by decide +kernel) dX5_drawn_36 (md_o M) rfl ?_
      refine x_iload_n G dX5_drawn_39 rfl ?_
      refine x_dup2 G dX5_drawn_40 rfl rfl ?_
      refine x_ialdN G dX5_drawn_41 (md_po M) hf1 (by decide) ?_
      refine x_iconstV (v := nI 1) G dX5_drawn_42 (by decide) ?_
      refine x_iadd G dX5_drawn_43 ?_
      refine x_iastN G dX5_drawn_44 (md_po M) hf1 (by decide) ?_
      have M := md_po_s M (upd (dw_z po 10) (f1) ((dw_z po 10) (f1) + nI 1))
      have F := xF_up (a := b + 10) (e := .inl (dA 0, 10, .inl (upd (dw_z po 10) (f1) ((dw_z po 10) (f1) + nI 1)))) F (by omega) (by omega)
      refine x_aload_n G dX5_drawn_45 rfl ?_
      refine x_get G kX5 inX5 16 (by decide) (by decide +kernel) dX5_drawn_46 (md_o M) rfl ?_
      refine x_iload_n G dX5_drawn_49 rfl ?_
      refine x_dup2 G dX5_drawn_50 rfl rfl ?_
      refine x_ialdN G dX5_drawn_51 (md_po M) hf2 (by decide) ?_
      refine x_aload_n G dX5_drawn_52 rfl ?_
      refine x_iconstV (v := nI 5) G dX5_drawn_53 (by decide) ?_
      refine x_callV (n := 1) (rest := [.int ((upd (dw_z po 10) (f1) ((dw_z po 10) (f1) + nI 1)) (f2)), .int (nI (f2)), .ref (b + 10)]) (As := [.int (nI 5)]) G (ci := 5) (c_draw (Post := fun r7 h7 sz7 => r7 = some (.int (nI d3)) ∧ Md dA h7 b tx ln fa st de (nI d) (lN s3) im se kp pl wr dp su wa fc (upd (dw_z po 10) (f1) ((dw_z po 10) (f1) + nI 1)) ro fr ch ov ∧ xF b (b + 14) h h7) (n := nI 5) l D (by decide) M (fun h7 sz7 q1 q2 => ⟨by rw [dr_vN bs2 (by decide) (by decide), ← es3, ← ed3], by rw [es3, ← dr_sN bs2]; exact q1, xF_tr F q2⟩)) gX5_drawn_X5_draw rfl ⟨rfl, by decide +kernel, by decide +kernel, by decide +kernel⟩ ⟨by decide, by decide⟩ rfl rfl (md_o M) dX5_drawn_54 rfl rfl (Nat.le_of_ble_eq_true rfl) ⟨by decide, by decide⟩ ?_
      rintro _ h1 sz1 ⟨rfl, M, F⟩
      try dsimp only [Option.toList, List.cons_append, List.nil_append]
      refine x_iconstV (v := nI 2) G dX5_drawn_57 (by decide) ?_
      refine x_isub G dX5_drawn_58 ?_
      refine x_iadd G dX5_drawn_59 ?_
      refine x_iastN G dX5_drawn_60 (md_po M) hf2 (by decide) ?_
      have M := md_po_s M (upd (upd (dw_z po 10) (f1) ((dw_z po 10) (f1) + nI 1)) (f2) ((upd (dw_z po 10) (f1) ((dw_z po 10) (f1) + nI 1)) (f2) + (nI (d3) - nI 2)))
      have F := xF_up (a := b + 10) (e := .inl (dA 0, 10, .inl (upd (upd (dw_z po 10) (f1) ((dw_z po 10) (f1) + nI 1)) (f2) ((upd (dw_z po 10) (f1) ((dw_z po 10) (f1) + nI 1)) (f2) + (nI (d3) - nI 2))))) F (by omega) (by omega)
      refine x_aload_n G dX5_drawn_61 rfl ?_
      refine x_get G kX5 inX5 16 (by decide) (by decide +kernel) dX5_drawn_62 (md_o M) rfl ?_
      refine x_bipushV (v := nI 6) G dX5_drawn_65 (by decide) ?_
      refine x_aload_n G dX5_drawn_67 rfl ?_
      refine x_iconstV (v := nI 4) G dX5_drawn_68 (by decide) ?_
      refine x_callV (n := 1) (rest := [.int (nI 6), .ref (b + 10)]) (As := [.int (nI 4)]) G (ci := 5) (c_draw (Post := fun r7 h7 sz7 => r7 = some (.int (nI d4)) ∧ Md dA h7 b tx ln fa st de (nI d) (lN s4) im se kp pl wr dp su wa fc (upd (upd (dw_z po 10) (f1) ((dw_z po 10) (f1) + nI 1)) (f2) ((upd (dw_z po 10) (f1) ((dw_z po 10) (f1) + nI 1)) (f2) + (nI (d3) - nI 2))) ro fr ch ov ∧ xF b (b + 14) h h7) (n := nI 4) l D (by decide) M (fun h7 sz7 q1 q2 => ⟨by rw [dr_vN bs3 (by decide) (by decide), ← es4, ← ed4], by rw [es4, ← dr_sN bs3]; exact q1, xF_tr F q2⟩)) gX5_drawn_X5_draw rfl ⟨rfl, by decide +kernel, by decide +kernel, by decide +kernel⟩ ⟨by decide, by decide⟩ rfl rfl (md_o M) dX5_drawn_69 rfl rfl (Nat.le_of_ble_eq_true rfl) ⟨by decide, by decide⟩ ?_
      rintro _ h1 sz1 ⟨rfl, M, F⟩
      try dsimp only [Option.toList, List.cons_append, List.nil_append]
      refine x_iadd G dX5_drawn_72 ?_
      refine x_topE (y := nI (6 + d4)) (by rw [nI_add]) ?_
      refine x_dup2 G dX5_drawn_73 rfl rfl ?_
      refine x_ialdN G dX5_drawn_74 (md_po M) hf4 (by decide) ?_
      refine x_iconstV (v := nI 1) G dX5_drawn_75 (by decide) ?_
      refine x_isub G dX5_drawn_76 ?_
      refine x_iastN G dX5_drawn_77 (md_po M) hf4 (by decide) ?_
      have M := md_po_s M (dw_q (dw_z po 10) f1 f2 d3 d4)
      have F := xF_up (a := b + 10) (e := .inl (dA 0, 10, .inl (dw_q (dw_z po 10) f1 f2 d3 d4))) F (by omega) (by omega)
      have J131 : ∀ (is : Bool) (h1 : xH) (sz1 : Nat), is = (decide (n < 6) && dw_a (dw_q (dw_z po 10) f1 f2 d3 d4) f1 f2 && res) → MS dA h1 b tx ln fa st de (nI d) (lN (s4)) im se kp pl wr dp su wa fc (dw_q (dw_z po 10) f1 f2 d3 d4) → xF b (b + 14) h h1 → xV p l e (headSpec wsX5_drawn { frames := 6, cells := 0, slots := 0, locals := 147 }).room s m args below meth c D dA 5 h sz 0 0 Post 0 0 129 [(0, .ref b), (1, .int (nI (f1))), (2, .int (nI (f2))), (3, .int (x_b (dw_a (dw_q (dw_z po 10) f1 f2 d3 d4) f1 f2 = true)))] [.int (x_b (is = true))] h1 sz1 := by
        intro is h1 sz1 his M F
        obtain ⟨ro, fr, ch, ov, M⟩ := M
        refine x_istore G dX5_drawn_129 (by decide) ?_
        refine x_aload_n G dX5_drawn_131 rfl ?_
        refine x_callV (n := 0) (rest := []) (As := []) G (ci := 5) (c_notes (Post := fun r7 h7 sz7 => r7 = none ∧ Md dA h7 b tx ln fa st (nt_e de st d) (nI (nt_d d)) (lN (s4)) im se kp pl wr dp su wa fc (dw_q (dw_z po 10) f1 f2 d3 d4) ro fr ch ov ∧ xF b (b + 14) h h7) l D hd M (fun h7 sz7 q1 q2 => ⟨rfl, q1, xF_tr F q2⟩)) gX5_drawn_X5_notes rfl ⟨rfl, by decide +kernel, by decide +kernel, by decide +kernel⟩ ⟨by decide, by decide⟩ rfl rfl (md_o M) dX5_drawn_132 rfl rfl (Nat.le_of_ble_eq_true rfl) ⟨by decide, by decide⟩ ?_
        rintro _ h1 sz1 ⟨rfl, M, F⟩
        try dsimp only [Option.toList, List.cons_append, List.nil_append]
        refine x_iload G dX5_drawn_135 rfl ?_
        refine x_if_eq G 144 dX5_drawn_137 (by decide) (fun c_137 => ?_) (fun c_137 => ?_)
        · have e9 : is = false := by
            rcases Bool.eq_false_or_eq_true is with z | z
            · exact absurd z (x_b_0.mp c_137)
            · exact z
          exact x_vret G dX5_drawn_144 (hp1 (his.symm.trans e9) _ _ ⟨_, _, _, _, M⟩ F)
        · have e9 := his.symm.trans (x_b_n.mp c_137)
          have e8 := e9
          rw [Bool.and_eq_true, Bool.and_eq_true, decide_eq_true_iff] at e8
          have e7 := e8.1.1
          refine x_aload_n G dX5_drawn_140 rfl ?_
          refine x_callV (n := 0) (rest := []) (As := []) G (ci := 5) (c_says (Post := fun r7 h7 sz7 => r7 = none ∧ Md dA h7 b tx ln fa (sy_st st (dw_q (dw_z po 10) f1 f2 d3 d4) n) (nt_e de st d) (nI (nt_d d)) (lN (s4)) im se kp pl wr dp su wa fc (dw_q (dw_z po 10) f1 f2 d3 d4) ro fr ch ov ∧ xF b (b + 14) h h7) l D hn (by omega) M (fun h7 sz7 q1 q2 => ⟨rfl, q1, xF_tr F q2⟩)) gX5_drawn_X5_says rfl ⟨rfl, by decide +kernel, by decide +kernel, by decide +kernel⟩ ⟨by decide, by decide⟩ rfl rfl (md_o M) dX5_drawn_141 rfl rfl (Nat.le_of_ble_eq_true rfl) ⟨by decide, by decide⟩ ?_
          rintro _ h1 sz1 ⟨rfl, M, F⟩
          try dsimp only [Option.toList, List.cons_append, List.nil_append]
          exact x_vret G dX5_drawn_144 (hp2 e9 _ _ ⟨_, _, _, _, M⟩ F)
      have J102 : ∀ (v : Int32) (h1 : xH) (sz1 : Nat), v = x_b (dw_a (dw_q (dw_z po 10) f1 f2 d3 d4) f1 f2 = true) → Md dA h1 b tx ln fa st de (nI d) (lN s4) im se kp pl wr dp su wa fc (dw_q (dw_z po 10) f1 f2 d3 d4) ro fr ch ov → xF b (b + 14) h h1 → xV p l e (headSpec wsX5_drawn { frames := 6, cells := 0, slots := 0, locals := 147 }).room s m args below meth c D dA 5 h sz 0 0 Post 0 0 101 [(0, .ref b), (1, .int (nI (f1))), (2, .int (nI (f2)))] [.int v] h1 sz1 := by
        intro v h1 sz1 hv M F
        rw [hv]
        refine x_istore_n G dX5_drawn_101 (by decide) ?_
        refine x_aload_n G dX5_drawn_102 rfl ?_
        refine x_get G kX5 inX5 3 (by decide) (by decide +kernel) dX5_drawn_103 (md_o M) rfl ?_
        refine x_iconstV (v := nI 0) G dX5_drawn_106 (by decide) ?_
        refine x_ialdN G dX5_drawn_107 (md_st M) (by omega) (by decide) ?_
        refine x_topE (y := nI n) hn ?_
        refine x_bipushV (v := nI 6) G dX5_drawn_108 (by decide) ?_
        refine x_icmp_ge G 128 dX5_drawn_110 (by decide) (fun c_110 => ?_) (fun c_110 => ?_)
        · have e6 : ¬ n < 6 := fun z => absurd c_110 (nI_ge z (by decide))
          refine x_iconstV (v := x_b (false = true)) G dX5_drawn_128 (by decide) ?_
          exact J131 false _ _ (by rw [decide_eq_false e6]; rfl) ⟨_, _, _, _, M⟩ F
        · have e6 : n < 6 := by
            rcases Nat.lt_or_ge n 6 with z | z
            · exact z
            · exact absurd (nI_le z (by omega)) c_110
          refine x_iload_n G dX5_drawn_113 rfl ?_
          refine x_if_eq G 128 dX5_drawn_114 (by decide) (fun c_114 => ?_) (fun c_114 => ?_)
          · have e1 : dw_a (dw_q (dw_z po 10) f1 f2 d3 d4) f1 f2 = false := by
              rcases Bool.eq_false_or_eq_true (dw_a (dw_q (dw_z po 10) f1 f2 d3 d4) f1 f2) with z | z
              · exact absurd z (x_b_0.mp c_114)
              · exact z
            refine x_iconstV (v := x_b (false = true)) G dX5_drawn_128 (by decide) ?_
            exact J131 false _ _ (by rw [e1, Bool.and_false]; rfl) ⟨_, _, _, _, M⟩ F
          · have e1 := x_b_n.mp c_114
            refine x_aload_n G dX5_drawn_117 rfl ?_
            refine x_callV (n := 0) (rest := []) (As := []) G (ci := 5) (c_mayBe (Post := fun r7 h7 sz7 => r7 = some (.int (x_b (res = true))) ∧ MS dA h7 b tx ln fa st de (nI d) (lN (s4)) im se kp pl wr dp su wa fc (dw_q (dw_z po 10) f1 f2 d3 d4) ∧ xF b (b + 14) h h7) l D hn hn6 hA (hB (by omega) e1) ⟨_, _, _, _, M⟩ (fun h7 sz7 q1 q2 => ⟨rfl, q1, xF_tr F q2⟩)) gX5_drawn_X5_mayBe rfl ⟨rfl, by decide +kernel, by decide +kernel, by decide +kernel⟩ ⟨by decide, by decide⟩ rfl rfl (md_o M) dX5_drawn_118 rfl rfl (Nat.le_of_ble_eq_true rfl) ⟨by decide, by decide⟩ ?_
            rintro _ h1 sz1 ⟨rfl, ⟨ro, fr, ch, ov, M⟩, F⟩
            try dsimp only [Option.toList, List.cons_append, List.nil_append]
            refine x_if_eq G 128 dX5_drawn_121 (by decide) (fun c_121 => ?_) (fun c_121 => ?_)
            · have e2 : res = false := by
                rcases Bool.eq_false_or_eq_true res with z | z
                · exact absurd z (x_b_0.mp c_121)
                · exact z
              refine x_iconstV (v := x_b (false = true)) G dX5_drawn_128 (by decide) ?_
              exact J131 false _ _ (by rw [e2, Bool.and_false]) ⟨_, _, _, _, M⟩ F
            · have e2 := x_b_n.mp c_121
              refine x_iconstV (v := x_b (true = true)) G dX5_drawn_124 (by decide) ?_
              refine x_goto G 129 dX5_drawn_125 (by decide) ?_
              exact J131 true _ _ (by rw [decide_eq_true e6, e1, e2]; rfl) ⟨_, _, _, _, M⟩ F
      refine x_aload_n G dX5_drawn_78 rfl ?_
      refine x_get G kX5 inX5 16 (by decide) (by decide +kernel) dX5_drawn_79 (md_o M) rfl ?_
      refine x_iload_n G dX5_drawn_82 rfl ?_
      refine x_ialdN G dX5_drawn_83 (md_po M) hf1 (by decide) ?_
      refine x_if_ne G 96 dX5_drawn_84 (by decide) (fun c_84 => ?_) (fun c_84 => ?_)
      · refine x_iconstV (v := x_b (true = true)) G dX5_drawn_96 (by decide) ?_
        refine x_goto G 101 dX5_drawn_97 (by decide) ?_
        exact J102 _ _ _ (by rw [show dw_a (dw_q (dw_z po 10) f1 f2 d3 d4) f1 f2 = true by unfold dw_a; rw [Bool.or_eq_true, Bool.not_eq_true', beq_eq_false_iff_ne]; exact Or.inl c_84]) M F
      · refine x_aload_n G dX5_drawn_87 rfl ?_
        refine x_get G kX5 inX5 16 (by decide) (by decide +kernel) dX5_drawn_88 (md_o M) rfl ?_
        refine x_iload_n G dX5_drawn_91 rfl ?_
        refine x_ialdN G dX5_drawn_92 (md_po M) hf2 (by decide) ?_
        refine x_if_eq G 100 dX5_drawn_93 (by decide) (fun c_93 => ?_) (fun c_93 => ?_)
        · refine x_iconstV (v := x_b (false = true)) G dX5_drawn_100 (by decide) ?_
          exact J102 _ _ _ (by rw [show dw_a (dw_q (dw_z po 10) f1 f2 d3 d4) f1 f2 = false by unfold dw_a; rw [Bool.or_eq_false_iff, Bool.not_eq_false', Bool.not_eq_false', beq_iff_eq, beq_iff_eq]; exact ⟨c_84, c_93⟩]) M F
        · refine x_iconstV (v := x_b (true = true)) G dX5_drawn_96 (by decide) ?_
          refine x_goto G 101 dX5_drawn_97 (by decide) ?_
          exact J102 _ _ _ (by rw [show dw_a (dw_q (dw_z po 10) f1 f2 d3 d4) f1 f2 = true by unfold dw_a; rw [Bool.or_eq_true, Bool.not_eq_true', Bool.not_eq_true', beq_eq_false_iff_ne, beq_eq_false_iff_ne]; exact Or.inr c_93]) M F
    · exact absurd (nI_le (Nat.le_refl _) (by omega)) c_5
