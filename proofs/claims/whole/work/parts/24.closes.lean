theorem inX5_readsLetter_5 : ∀ w ∈ wsX50, w ∈ wsX5_readsLetter := by decide +kernel
/-- readsLetter: whether it is a letter, the place, what is wrong, the depth, sums, ways, the factor -/
def r_lt (tx : Nat → Int32) (n p w d : Nat) (su wa fc : Nat → Int32) : Bool × Nat × Nat × Nat × (Nat → Int32) × (Nat → Int32) × (Nat → Int32) :=
  if nI 97 ≤ r_hc tx n p ∧ r_hc tx n p ≤ nI 100 then (true, r_pl tx n p + 1, w, d, su, wa, upd (dw_z fc 10) (nI 6 + r_hc tx n p - nI 97).toNatClampNeg (nI 1))
  else if nI 117 ≤ r_hc tx n p ∧ r_hc tx n p ≤ nI 122 then (true, r_pl tx n p + 1, w, d, su, wa, upd (dw_z fc 10) (r_hc tx n p - nI 117).toNatClampNeg (nI 1))
  else if r_hc tx n p = nI 40 then (if d = 6 then (false, r_pl tx n p, r_fl w 2, d, su, wa, dw_z fc 10) else (false, r_pl tx n p + 1, w, d + 1, op_su su (d + 1) 10, upd wa (d + 1) (nI 1), dw_z fc 10))
  else if r_hc tx n p = nI 49 then (true, r_pl tx n p + 1, w, d, su, wa, dw_z fc 10)
  else (false, r_pl tx n p, r_fl w 1, d, su, wa, dw_z fc 10)
set_option maxRecDepth 100000 in
set_option maxHeartbeats 4000000 in
/-- readsLetter -/
theorem c_readsLetter (l : Launch) (D : va_G) {dA : Nat → ClassId} {b n p w d : Nat} {tx : Nat → Int32} {fa : Int32} {st : Nat → Int32} {de : Nat → Int32} {dm : Int32} {sd : Int64} {im : Nat → Int32} {se : Nat → Int64} {kp : Nat → Int32} {su : Nat → Int32} {wa : Nat → Int32} {fc : Nat → Int32} {po : Nat → Int32} {ro : Nat → Int64} {fr : Int32} {ch : Nat → Int64} {ov : Nat → Int64} {h : xH} {sz : Nat} {Post : Option Value → xH → Nat → Prop} (hn : n ≤ 60) (hp : p ≤ n) (hw : w ≤ 3) (hd : d ≤ 6) (M : Md dA h b tx (nI n) fa st de dm sd im se kp (nI p) (nI w) (nI d) su wa fc po ro fr ch ov) (hpost : ∀ (h1 : xH) (sz1 : Nat), Md dA h1 b tx (nI n) fa st de dm sd im se kp (nI (r_lt tx n p w d su wa fc).2.1) (nI (r_lt tx n p w d su wa fc).2.2.1) (nI (r_lt tx n p w d su wa fc).2.2.2.1) ((r_lt tx n p w d su wa fc).2.2.2.2.1) ((r_lt tx n p w d su wa fc).2.2.2.2.2.1) ((r_lt tx n p w d su wa fc).2.2.2.2.2.2) po ro fr ch ov → xF b (b + 14) h h1 → Post (some (.int (x_b ((r_lt tx n p w d su wa fc).1 = true)))) h1 sz1) : xMet l yX5_readsLetter wsX5_readsLetter 1 22 0 0 D dA [.ref b] h sz Post := by
  refine x_open (cc := cX5_readsLetter) (maxL := 3) (ret := (some .boolean)) (by decide) rfl (Nat.le_of_ble_eq_true rfl) ?_
  intro pg e s m args below meth c G _
  have inX5 : ∀ w ∈ wsX50, w ∈ wsX5_readsLetter := inX5_readsLetter_5
  have F := xF_rf (lo := b) (hi := b + 14) (h := h)
  refine x_aload_n G dX5_readsLetter_0 rfl ?_
  refine x_callV (n := 0) (rest := []) (As := []) G (ci := 5) (c_here (Post := fun r7 h7 sz7 => r7 = some (.int (r_hc tx n (p))) ∧ Md dA h7 b tx (nI n) fa st de dm sd im se kp (nI (r_pl tx n (p))) (nI w) (nI d) su wa fc po ro fr ch ov ∧ xF b (b + 14) h h7) (n := n) (p := p) l D hn (by omega) M (fun h7 sz7 q1 q2 => ⟨rfl, q1, xF_tr F q2⟩)) gX5_readsLetter_X5_here rfl ⟨rfl, by decide +kernel, by decide +kernel, by decide +kernel⟩ ⟨by decide, by decide⟩ rfl rfl (md_o M) dX5_readsLetter_1 rfl rfl (Nat.le_of_ble_eq_true rfl) ⟨by decide, by decide⟩ ?_
  rintro _ h1 sz1 ⟨rfl, M, F⟩
  try dsimp only [Option.toList, List.cons_append, List.nil_append]
  refine x_istore_n G dX5_readsLetter_4 (by decide) ?_
  refine x_iconstV (v := nI 0) G dX5_readsLetter_5 (by decide) ?_
  refine x_istore_n G dX5_readsLetter_6 (by decide) ?_
  refine x_loop (σ := Unit) (fun k _ => [(0, .ref b), (1, .int (r_hc tx n p)), (2, .int (nI k))]) 10 (fun k _ h1 sz1 => Md dA h1 b tx (nI n) fa st de dm sd im se kp (nI (r_pl tx n p)) (nI w) (nI d) su wa (dw_z fc k) po ro fr ch ov ∧ xF b (b + 14) h h1) ?_ ?_ 0 () _ _ (Nat.zero_le _) ⟨by rw [dw_z0]; exact M, F⟩
  · intro k _ h1 sz1 hj hI nx
    try dsimp only at hI nx ⊢
    obtain ⟨M, F⟩ := hI
    refine x_iload_n G dX5_readsLetter_7 rfl ?_
    refine x_bipushV (v := nI 10) G dX5_readsLetter_8 (by decide) ?_
    refine x_icmp_ge G 26 dX5_readsLetter_10 (by decide) (fun c_10 => ?_) (fun c_10 => ?_)
    · exact absurd c_10 (nI_ge hj (by omega))
    · refine x_aload_n G dX5_readsLetter_13 rfl ?_
      refine x_get G kX5 inX5 15 (by decide) (by decide +kernel) dX5_readsLetter_14 (md_o M) rfl ?_
      refine x_iload_n G dX5_readsLetter_17 rfl ?_
      refine x_iconstV (v := nI 0) G dX5_readsLetter_18 (by decide) ?_
      refine x_iastN G dX5_readsLetter_19 (md_fc M) (by omega) (by decide) ?_
      rw [dw_zs]
      have M := md_fc_s M (dw_z fc (k + 1))
      have F := xF_up (a := b + 9) (e := .inl (dA 0, 10, .inl (dw_z fc (k + 1)))) F (by omega) (by omega)
      refine x_iinc G dX5_readsLetter_20 rfl (by decide) ?_
      refine x_locE (lv2 := [(0, .ref b), (1, .int (r_hc tx n p)), (2, .int (nI (k + 1)))]) (by rw [nI_succ k]; rfl) ?_
      refine x_goto G 7 dX5_readsLetter_23 (by decide) ?_
      exact nx () _ _ ⟨M, F⟩
  · intro _ h1 sz1 hI
    try dsimp only at hI ⊢
    obtain ⟨M, F⟩ := hI
    refine x_iload_n G dX5_readsLetter_7 rfl ?_
    refine x_bipushV (v := nI 10) G dX5_readsLetter_8 (by decide) ?_
    refine x_icmp_ge G 26 dX5_readsLetter_10 (by decide) (fun c_10 => ?_) (fun c_10 => ?_)
    · refine x_iload_n G dX5_readsLetter_26 rfl ?_
      refine x_bipushV (v := nI 97) G dX5_readsLetter_27 (by decide) ?_
      refine x_bipushV (v := nI 100) G dX5_readsLetter_29 (by decide) ?_
      refine x_callS (n := 3) (rest := []) (As := [.int (r_hc tx n p), .int (nI 97), .int (nI 100)]) G (c_in (Post := fun r7 h7 sz7 => r7 = some (.int (x_b ((nI 97) ≤ (r_hc tx n p) ∧ (r_hc tx n p) ≤ (nI 100)))) ∧ h1 = h7 ∧ sz1 = sz7) l D ⟨rfl, rfl, rfl⟩) gX5_readsLetter_X5_in rfl ⟨by decide +kernel, by decide +kernel, by decide +kernel⟩ ⟨by decide, by decide⟩ dX5_readsLetter_31 rfl rfl (Nat.le_of_ble_eq_true rfl) ⟨by decide, by decide⟩ ?_
      rintro _ _ _ ⟨rfl, rfl, rfl⟩
      try dsimp only [Option.toList, List.cons_append, List.nil_append]
      refine x_if_eq G 53 dX5_readsLetter_34 (by decide) (fun c_34 => ?_) (fun c_34 => ?_)
      · have n1 := x_b_0.mp c_34
        refine x_iload_n G dX5_readsLetter_53 rfl ?_
        refine x_bipushV (v := nI 117) G dX5_readsLetter_54 (by decide) ?_
        refine x_bipushV (v := nI 122) G dX5_readsLetter_56 (by decide) ?_
        refine x_callS (n := 3) (rest := []) (As := [.int (r_hc tx n p), .int (nI 117), .int (nI 122)]) G (c_in (Post := fun r7 h7 sz7 => r7 = some (.int (x_b ((nI 117) ≤ (r_hc tx n p) ∧ (r_hc tx n p) ≤ (nI 122)))) ∧ h1 = h7 ∧ sz1 = sz7) l D ⟨rfl, rfl, rfl⟩) gX5_readsLetter_X5_in rfl ⟨by decide +kernel, by decide +kernel, by decide +kernel⟩ ⟨by decide, by decide⟩ dX5_readsLetter_58 rfl rfl (Nat.le_of_ble_eq_true rfl) ⟨by decide, by decide⟩ ?_
        rintro _ _ _ ⟨rfl, rfl, rfl⟩
        try dsimp only [Option.toList, List.cons_append, List.nil_append]
        refine x_if_eq G 77 dX5_readsLetter_61 (by decide) (fun c_61 => ?_) (fun c_61 => ?_)
        · have n2 := x_b_0.mp c_61
          refine x_iload_n G dX5_readsLetter_77 rfl ?_
          refine x_bipushV (v := nI 40) G dX5_readsLetter_78 (by decide) ?_
          refine x_icmp_ne G 121 dX5_readsLetter_80 (by decide) (fun c_80 => ?_) (fun c_80 => ?_)
          · have n3 := c_80
            refine x_iload_n G dX5_readsLetter_121 rfl ?_
            refine x_bipushV (v := nI 49) G dX5_readsLetter_122 (by decide) ?_
            refine x_icmp_eq G 134 dX5_readsLetter_124 (by decide) (fun c_124 => ?_) (fun c_124 => ?_)
            · have e4 := c_124
              have hl : r_pl tx n p < n := r_hc_lt (by rw [e4]; decide)
              have er : r_lt tx n p w d su wa fc = (true, r_pl tx n p + 1, w, d, su, wa, dw_z fc 10) := by
                unfold r_lt
                rw [if_neg n1, if_neg n2, if_neg n3, if_pos e4]
              rw [er] at hpost
              refine x_aload_n G dX5_readsLetter_134 rfl ?_
              refine x_dup G dX5_readsLetter_135 rfl ?_
              refine x_get G kX5 inX5 10 (by decide) (by decide +kernel) dX5_readsLetter_136 (md_o M) rfl ?_
              refine x_iconstV (v := nI 1) G dX5_readsLetter_139 (by decide) ?_
              refine x_iadd G dX5_readsLetter_140 ?_
              refine x_topE (y := nI (r_pl tx n p + 1)) (nI_1 _) ?_
              refine x_put G kX5 inX5 10 (by decide) (by decide +kernel) rfl dX5_readsLetter_141 (md_o M) rfl rfl (Nat.le_of_ble_eq_true rfl) ?_
              have M := md_pl_s M (nI (r_pl tx n p + 1))
              have F := xF_up (a := b) (e := .inr (5, List.set [.ref (b + 1), .int (nI n), .int (fa), .ref (b + 2), .ref (b + 3), .int (dm), .long (sd), .ref (b + 4), .ref (b + 5), .ref (b + 6), .int (nI (r_pl tx n p)), .int (nI w), .int (nI d), .ref (b + 7), .ref (b + 8), .ref (b + 9), .ref (b + 10), .ref (b + 11), .int (fr), .ref (b + 12), .ref (b + 13)] 10 (.int (nI (r_pl tx n p + 1))))) F (by omega) (by omega)
              refine x_iconstV (v := nI 1) G dX5_readsLetter_144 (by decide) ?_
              exact x_zret G dX5_readsLetter_145 rfl (hpost _ _ M F)
            · have n4 := c_124
              have er : r_lt tx n p w d su wa fc = (false, r_pl tx n p, r_fl w 1, d, su, wa, dw_z fc 10) := by
                unfold r_lt
                rw [if_neg n1, if_neg n2, if_neg n3, if_neg n4]
              rw [er] at hpost
              refine x_aload_n G dX5_readsLetter_127 rfl ?_
              refine x_iconstV (v := nI 1) G dX5_readsLetter_128 (by decide) ?_
              refine x_callV (n := 1) (rest := []) (As := [.int (nI 1)]) G (ci := 5) (c_fails (Post := fun r7 h7 sz7 => r7 = none ∧ Md dA h7 b tx (nI n) fa st de dm sd im se kp (nI (r_pl tx n p)) (nI (r_fl w 1)) (nI d) su wa (dw_z fc 10) po ro fr ch ov ∧ xF b (b + 14) h h7) (w := w) (q := 1) l D hw M (fun h7 sz7 q1 q2 => ⟨rfl, q1, xF_tr F q2⟩)) gX5_readsLetter_X5_fails rfl ⟨rfl, by decide +kernel, by decide +kernel, by decide +kernel⟩ ⟨by decide, by decide⟩ rfl rfl (md_o M) dX5_readsLetter_129 rfl rfl (Nat.le_of_ble_eq_true rfl) ⟨by decide, by decide⟩ ?_
              rintro _ h1 sz1 ⟨rfl, M, F⟩
              try dsimp only [Option.toList, List.cons_append, List.nil_append]
              refine x_iconstV (v := nI 0) G dX5_readsLetter_132 (by decide) ?_
              exact x_zret G dX5_readsLetter_133 rfl (hpost _ _ M F)
          · have e3 := c_80
            have hl : r_pl tx n p < n := r_hc_lt (by rw [e3]; decide)
            refine x_aload_n G dX5_readsLetter_83 rfl ?_
            refine x_get G kX5 inX5 12 (by decide) (by decide +kernel) dX5_readsLetter_84 (md_o M) rfl ?_
            refine x_bipushV (v := nI 6) G dX5_readsLetter_87 (by decide) ?_
            refine x_icmp_ne G 99 dX5_readsLetter_89 (by decide) (fun c_89 => ?_) (fun c_89 => ?_)
            · have e6 : ¬ d = 6 := fun z => c_89 (by rw [z])
              have er : r_lt tx n p w d su wa fc = (false, r_pl tx n p + 1, w, d + 1, op_su su (d + 1) 10, upd wa (d + 1) (nI 1), dw_z fc 10) := by
                unfold r_lt
                rw [if_neg n1, if_neg n2, if_pos e3, if_neg e6]
              rw [er] at hpost
              refine x_aload_n G dX5_readsLetter_99 rfl ?_
              refine x_dup G dX5_readsLetter_100 rfl ?_
              refine x_get G kX5 inX5 10 (by decide) (by decide +kernel) dX5_readsLetter_101 (md_o M) rfl ?_
              refine x_iconstV (v := nI 1) G dX5_readsLetter_104 (by decide) ?_
              refine x_iadd G dX5_readsLetter_105 ?_
              refine x_topE (y := nI (r_pl tx n p + 1)) (nI_1 _) ?_
              refine x_put G kX5 inX5 10 (by decide) (by decide +kernel) rfl dX5_readsLetter_106 (md_o M) rfl rfl (Nat.le_of_ble_eq_true rfl) ?_
              have M := md_pl_s M (nI (r_pl tx n p + 1))
              have F := xF_up (a := b) (e := .inr (5, List.set [.ref (b + 1), .int (nI n), .int (fa), .ref (b + 2), .ref (b + 3), .int (dm), .long (sd), .ref (b + 4), .ref (b + 5), .ref (b + 6), .int (nI (r_pl tx n p)), .int (nI w), .int (nI d), .ref (b + 7), .ref (b + 8), .ref (b + 9), .ref (b + 10), .ref (b + 11), .int (fr), .ref (b + 12), .ref (b + 13)] 10 (.int (nI (r_pl tx n p + 1))))) F (by omega) (by omega)
              refine x_aload_n G dX5_readsLetter_109 rfl ?_
              refine x_aload_n G dX5_readsLetter_110 rfl ?_
              refine x_get G kX5 inX5 12 (by decide) (by decide +kernel) dX5_readsLetter_111 (md_o M) rfl ?_
              refine x_iconstV (v := nI 1) G dX5_readsLetter_114 (by decide) ?_
              refine x_iadd G dX5_readsLetter_115 ?_
              refine x_topE (y := nI (d + 1)) (nI_1 d) ?_
              refine x_callV (n := 1) (rest := []) (As := [.int (nI (d + 1))]) G (ci := 5) (c_opens (Post := fun r7 h7 sz7 => r7 = none ∧ Md dA h7 b tx (nI n) fa st de dm sd im se kp (nI (r_pl tx n p + 1)) (nI w) (nI (d + 1)) (op_su su (d + 1) 10) (upd wa (d + 1) (nI 1)) (dw_z fc 10) po ro fr ch ov ∧ xF b (b + 14) h h7) (v := d + 1) l D (by omega) M (fun h7 sz7 q1 q2 => ⟨rfl, q1, xF_tr F q2⟩)) gX5_readsLetter_X5_opens rfl ⟨rfl, by decide +kernel, by decide +kernel, by decide +kernel⟩ ⟨by decide, by decide⟩ rfl rfl (md_o M) dX5_readsLetter_116 rfl rfl (Nat.le_of_ble_eq_true rfl) ⟨by decide, by decide⟩ ?_
              rintro _ h1 sz1 ⟨rfl, M, F⟩
              try dsimp only [Option.toList, List.cons_append, List.nil_append]
              refine x_iconstV (v := nI 0) G dX5_readsLetter_119 (by decide) ?_
              exact x_zret G dX5_readsLetter_120 rfl (hpost _ _ M F)
            · have e6 : d = 6 := (nI_eq (by omega) (by decide)).mp c_89
              have er : r_lt tx n p w d su wa fc = (false, r_pl tx n p, r_fl w 2, d, su, wa, dw_z fc 10) := by
                unfold r_lt
                rw [if_neg n1, if_neg n2, if_pos e3, if_pos e6]
              rw [er] at hpost
              refine x_aload_n G dX5_readsLetter_92 rfl ?_
              refine x_iconstV (v := nI 2) G dX5_readsLetter_93 (by decide) ?_
              refine x_callV (n := 1) (rest := []) (As := [.int (nI 2)]) G (ci := 5) (c_fails (Post := fun r7 h7 sz7 => r7 = none ∧ Md dA h7 b tx (nI n) fa st de dm sd im se kp (nI (r_pl tx n p)) (nI (r_fl w 2)) (nI d) su wa (dw_z fc 10) po ro fr ch ov ∧ xF b (b + 14) h h7) (w := w) (q := 2) l D hw M (fun h7 sz7 q1 q2 => ⟨rfl, q1, xF_tr F q2⟩)) gX5_readsLetter_X5_fails rfl ⟨rfl, by decide +kernel, by decide +kernel, by decide +kernel⟩ ⟨by decide, by decide⟩ rfl rfl (md_o M) dX5_readsLetter_94 rfl rfl (Nat.le_of_ble_eq_true rfl) ⟨by decide, by decide⟩ ?_
              rintro _ h1 sz1 ⟨rfl, M, F⟩
              try dsimp only [Option.toList, List.cons_append, List.nil_append]
              refine x_iconstV (v := nI 0) G dX5_readsLetter_97 (by decide) ?_
              exact x_zret G dX5_readsLetter_98 rfl (hpost _ _ M F)
        · have e := x_b_n.mp c_61
          obtain ⟨ck, hc1, hc2, hc⟩ := in_nat2 (by omega) (by decide) e
          have hl : r_pl tx n p < n := r_hc_lt (fun z => by rw [z] at e; exact absurd e (by decide))
          have hi : vp_in (r_hc tx n p - nI 117) 10 := by
            rw [hc, pk_sub (by omega)]
            exact vp_in_nI (by omega) (by decide)
          have er : r_lt tx n p w d su wa fc = (true, r_pl tx n p + 1, w, d, su, wa, upd (dw_z fc 10) (r_hc tx n p - nI 117).toNatClampNeg (nI 1)) := by
            unfold r_lt
            rw [if_neg n1, if_pos e]
          rw [er] at hpost
          refine x_aload_n G dX5_readsLetter_64 rfl ?_
          refine x_get G kX5 inX5 15 (by decide) (by decide +kernel) dX5_readsLetter_65 (md_o M) rfl ?_
          refine x_iload_n G dX5_readsLetter_68 rfl ?_
          refine x_bipushV (v := nI 117) G dX5_readsLetter_69 (by decide) ?_
          refine x_isub G dX5_readsLetter_71 ?_
          refine x_iconstV (v := nI 1) G dX5_readsLetter_72 (by decide) ?_
          refine x_iast G dX5_readsLetter_73 (md_fc M) hi ?_
          have M := md_fc_s M (upd (dw_z fc 10) (r_hc tx n p - nI 117).toNatClampNeg (nI 1))
          have F := xF_up (a := b + 9) (e := .inl (dA 0, 10, .inl (upd (dw_z fc 10) (r_hc tx n p - nI 117).toNatClampNeg (nI 1)))) F (by omega) (by omega)
          refine x_goto G 134 dX5_readsLetter_74 (by decide) ?_
          refine x_aload_n G dX5_readsLetter_134 rfl ?_
          refine x_dup G dX5_readsLetter_135 rfl ?_
          refine x_get G kX5 inX5 10 (by decide) (by decide +kernel) dX5_readsLetter_136 (md_o M) rfl ?_
          refine x_iconstV (v := nI 1) G dX5_readsLetter_139 (by decide) ?_
          refine x_iadd G dX5_readsLetter_140 ?_
          refine x_topE (y := nI (r_pl tx n p + 1)) (nI_1 _) ?_
          refine x_put G kX5 inX5 10 (by decide) (by decide +kernel) rfl dX5_readsLetter_141 (md_o M) rfl rfl (Nat.le_of_ble_eq_true rfl) ?_
          have M := md_pl_s M (nI (r_pl tx n p + 1))
          have F := xF_up (a := b) (e := .inr (5, List.set [.ref (b + 1), .int (nI n), .int (fa), .ref (b + 2), .ref (b + 3), .int (dm), .long (sd), .ref (b + 4), .ref (b + 5), .ref (b + 6), .int (nI (r_pl tx n p)), .int (nI w), .int (nI d), .ref (b + 7), .ref (b + 8), .ref (b + 9), .ref (b + 10), .ref (b + 11), .int (fr), .ref (b + 12), .ref (b + 13)] 10 (.int (nI (r_pl tx n p + 1))))) F (by omega) (by omega)
          refine x_iconstV (v := nI 1) G dX5_readsLetter_144 (by decide) ?_
          exact x_zret G dX5_readsLetter_145 rfl (hpost _ _ M F)
      · have e := x_b_n.mp c_34
        obtain ⟨ck, hc1, hc2, hc⟩ := in_nat2 (by omega) (by decide) e
        have hl : r_pl tx n p < n := r_hc_lt (fun z => by rw [z] at e; exact absurd e (by decide))
        have hi : vp_in (nI 6 + r_hc tx n p - nI 97) 10 := by
          rw [hc, nI_add, pk_sub (by omega)]
          exact vp_in_nI (by omega) (by decide)
        have er : r_lt tx n p w d su wa fc = (true, r_pl tx n p + 1, w, d, su, wa, upd (dw_z fc 10) (nI 6 + r_hc tx n p - nI 97).toNatClampNeg (nI 1)) := by
          unfold r_lt
          rw [if_pos e]
        rw [er] at hpost
        refine x_aload_n G dX5_readsLetter_37 rfl ?_
        refine x_get G kX5 inX5 15 (by decide) (by decide +kernel) dX5_readsLetter_38 (md_o M) rfl ?_
        refine x_bipushV (v := nI 6) G dX5_readsLetter_41 (by decide) ?_
        refine x_iload_n G dX5_readsLetter_43 rfl ?_
        refine x_iadd G dX5_readsLetter_44 ?_
        refine x_bipushV (v := nI 97) G dX5_readsLetter_45 (by decide) ?_
        refine x_isub G dX5_readsLetter_47 ?_
        refine x_iconstV (v := nI 1) G dX5_readsLetter_48 (by decide) ?_
        refine x_iast G dX5_readsLetter_49 (md_fc M) hi ?_
        have M := md_fc_s M (upd (dw_z fc 10) (nI 6 + r_hc tx n p - nI 97).toNatClampNeg (nI 1))
        have F := xF_up (a := b + 9) (e := .inl (dA 0, 10, .inl (upd (dw_z fc 10) (nI 6 + r_hc tx n p - nI 97).toNatClampNeg (nI 1)))) F (by omega) (by omega)
        refine x_goto G 134 dX5_readsLetter_50 (by decide) ?_
        refine x_aload_n G dX5_readsLetter_134 rfl ?_
        refine x_dup G dX5_readsLetter_135 rfl ?_
        refine x_get G kX5 inX5 10 (by decide) (by decide +kernel) dX5_readsLetter_136 (md_o M) rfl ?_
        refine x_iconstV (v := nI 1) G dX5_readsLetter_139 (by decide) ?_
        refine x_iadd G dX5_readsLetter_140 ?_
        refine x_topE (y := nI (r_pl tx n p + 1)) (nI_1 _) ?_
        refine x_put G kX5 inX5 10 (by decide) (by decide +kernel) rfl dX5_readsLetter_141 (md_o M) rfl rfl (Nat.le_of_ble_eq_true rfl) ?_
        have M := md_pl_s M (nI (r_pl tx n p + 1))
        have F := xF_up (a := b) (e := .inr (5, List.set [.ref (b + 1), .int (nI n), .int (fa), .ref (b + 2), .ref (b + 3), .int (dm), .long (sd), .ref (b + 4), .ref (b + 5), .ref (b + 6), .int (nI (r_pl tx n p)), .int (nI w), .int (nI d), .ref (b + 7), .ref (b + 8), .ref (b + 9), .ref (b + 10), .ref (b + 11), .int (fr), .ref (b + 12), .ref (b + 13)] 10 (.int (nI (r_pl tx n p + 1))))) F (by omega) (by omega)
        refine x_iconstV (v := nI 1) G dX5_readsLetter_144 (by decide) ?_
        exact x_zret G dX5_readsLetter_145 rfl (hpost _ _ M F)
    · exact absurd (nI_le (Nat.le_refl _) (by omega)) c_10
theorem inX5_closes_5 : ∀ w ∈ wsX50, w ∈ wsX5_closes := by decide +kernel
theorem r_fl_b {w q : Nat} (h : w ≤ 3) (k : q ≤ 3) : r_fl w q ≤ 3 := by
  unfold r_fl
  by_cases z : w = 0
  · rw [if_pos z]; exact k
  · rw [if_neg z]; exact h
theorem r_pw_b {tx : Nat → Int32} {n p w : Nat} {fc : Nat → Int32} (hp : p ≤ n) (hw : w ≤ 3) : (r_pw tx n p w fc).1 ≤ n ∧ (r_pw tx n p w fc).2.1 ≤ 3 ∧ p ≤ (r_pw tx n p w fc).1 := by
  have h1 := r_pl_b (tx := tx) hp
  unfold r_pw
  by_cases z : r_hc tx n p = nI 94
  · rw [if_neg (fun y => y z)]
    have hl : r_pl tx n p < n := r_hc_lt (by rw [z]; decide)
    have h2 := r_pl_b (tx := tx) (n := n) (p := r_pl tx n p + 1) (by omega)
    have h3 : pw_2 tx n p ≤ n ∧ r_pl tx n p + 1 ≤ pw_2 tx n p := by
      unfold pw_2 pw_mi
      by_cases y : r_hc tx n (r_pl tx n p + 1) = nI 45
      · have h4 := r_hc_lt (tx := tx) (n := n) (p := r_pl tx n p + 1) (by rw [y]; decide)
        rw [if_pos (decide_eq_true y)]
        omega
      · rw [if_neg (by rw [decide_eq_false y]; decide)]
        omega
    have h5 := r_pl_b (tx := tx) h3.1
    by_cases y : nI 48 ≤ r_hc tx n (pw_2 tx n p) ∧ r_hc tx n (pw_2 tx n p) ≤ nI 57
    · rw [if_pos y]
      have h6 := r_hc_lt (tx := tx) (n := n) (p := pw_2 tx n p) (fun x => by rw [x] at y; exact absurd y (by decide))
      dsimp only
      omega
    · rw [if_neg y]
      dsimp only
      exact ⟨h5.2, r_fl_b hw (by decide), by omega⟩
  · rw [if_pos z]
    dsimp only
    exact ⟨h1.2, hw, h1.1⟩
/-- brackets are closed: the place, what is wrong, the depth, sums, the factor -/
def r_cl (tx : Nat → Int32) (n : Nat) (wa : Nat → Int32) : Nat → Nat → Nat → (Nat → Int32) → (Nat → Int32) → Nat × Nat × Nat × (Nat → Int32) × (Nat → Int32)
  | 0, p, w, su, fc => (p, w, 0, su, fc)
  | d + 1, p, w, su, fc => if ¬ w = 0 then (p, w, d + 1, su, fc) else if r_hc tx n p = nI 41 then
      r_cl tx n wa d (r_pw tx n (r_pl tx n p + 1) w (va_cpy (ct_su su (wa (d + 1)) fc (d + 1) 10) fc (10 * (d + 1)) 0 10)).1 (r_pw tx n (r_pl tx n p + 1) w (va_cpy (ct_su su (wa (d + 1)) fc (d + 1) 10) fc (10 * (d + 1)) 0 10)).2.1 (ct_su su (wa (d + 1)) fc (d + 1) 10) (r_pw tx n (r_pl tx n p + 1) w (va_cpy (ct_su su (wa (d + 1)) fc (d + 1) 10) fc (10 * (d + 1)) 0 10)).2.2
    else (r_pl tx n p, w, d + 1, su, fc)
/-- closes -/
def r_cs (tx : Nat → Int32) (n : Nat) (wa : Nat → Int32) (d p w : Nat) (su fc : Nat → Int32) : Nat × Nat × Nat × (Nat → Int32) × (Nat → Int32) :=
  let x := r_cl tx n wa d (r_pw tx n p w fc).1 (r_pw tx n p w fc).2.1 su (r_pw tx n p w fc).2.2
  (x.1, x.2.1, x.2.2.1, if x.2.1 = 0 then ct_su x.2.2.2.1 (wa x.2.2.1) x.2.2.2.2 x.2.2.1 10 else x.2.2.2.1, x.2.2.2.2)
theorem r_cl_b {tx : Nat → Int32} {n : Nat} {wa : Nat → Int32} : ∀ {d p w : Nat} {su fc : Nat → Int32}, p ≤ n → w ≤ 3 → (r_cl tx n wa d p w su fc).1 ≤ n ∧ (r_cl tx n wa d p w su fc).2.1 ≤ 3 ∧ (r_cl tx n wa d p w su fc).2.2.1 ≤ d ∧ p ≤ (r_cl tx n wa d p w su fc).1
  | 0, p, w, su, fc, h1, h2 => ⟨h1, h2, Nat.le_refl _, Nat.le_refl _⟩
  | d + 1, p, w, su, fc, h1, h2 => by
    have h3 := r_pl_b (tx := tx) h1
    unfold r_cl
    by_cases z : w = 0
    · rw [if_neg (fun y => y z)]
      by_cases y : r_hc tx n p = nI 41
      · rw [if_pos y]
        have h4 := r_hc_lt (tx := tx) (n := n) (p := p) (by rw [y]; decide)
        have h5 := r_pw_b (tx := tx) (n := n) (p := r_pl tx n p + 1) (w := w) (fc := va_cpy (ct_su su (wa (d + 1)) fc (d + 1) 10) fc (10 * (d + 1)) 0 10) (by omega) h2
        have h6 := r_cl_b (tx := tx) (n := n) (wa := wa) (d := d) (su := ct_su su (wa (d + 1)) fc (d + 1) 10) (fc := (r_pw tx n (r_pl tx n p + 1) w (va_cpy (ct_su su (wa (d + 1)) fc (d + 1) 10) fc (10 * (d + 1)) 0 10)).2.2) h5.1 h5.2.1
        omega
      · rw [if_neg y]
        dsimp only
        omega
    · rw [if_pos z]
      dsimp only
      omega
set_option maxRecDepth 100000 in
set_option maxHeartbeats 4000000 in
/-- closes -/
theorem c_closes (l : Launch) (D : va_G) {dA : Nat → ClassId} {b n p w d : Nat} {tx : Nat → Int32} {fa : Int32} {st : Nat → Int32} {de : Nat → Int32} {dm : Int32} {sd : Int64} {im : Nat → Int32} {se : Nat → Int64} {kp : Nat → Int32} {su : Nat → Int32} {wa : Nat → Int32} {fc : Nat → Int32} {po : Nat → Int32} {ro : Nat → Int64} {fr : Int32} {ch : Nat → Int64} {ov : Nat → Int64} {h : xH} {sz : Nat} {Post : Option Value → xH → Nat → Prop} (hn : n ≤ 60) (hp : p ≤ n) (hw : w ≤ 3) (hd : d ≤ 6) (M : Md dA h b tx (nI n) fa st de dm sd im se kp (nI p) (nI w) (nI d) su wa fc po ro fr ch ov) (hpost : ∀ (h1 : xH) (sz1 : Nat), Md dA h1 b tx (nI n) fa st de dm sd im se kp (nI (r_cs tx n wa d p w su fc).1) (nI (r_cs tx n wa d p w su fc).2.1) (nI (r_cs tx n wa d p w su fc).2.2.1) ((r_cs tx n wa d p w su fc).2.2.2.1) wa ((r_cs tx n wa d p w su fc).2.2.2.2) po ro fr ch ov → xF b (b + 14) h h1 → Post none h1 sz1) : xMet l yX5_closes wsX5_closes 2 45 0 0 D dA [.ref b] h sz Post := by
  refine x_open (cc := cX5_closes) (maxL := 1) (ret := none) (by decide) rfl (Nat.le_of_ble_eq_true rfl) ?_
  intro pg e s m args below meth c G _
  have inX5 : ∀ w ∈ wsX50, w ∈ wsX5_closes := inX5_closes_5
  have F := xF_rf (lo := b) (hi := b + 14) (h := h)
  unfold r_cs at hpost
  obtain ⟨x9, hx9⟩ : ∃ x9, x9 = r_cl tx n wa d (r_pw tx n p w fc).1 (r_pw tx n p w fc).2.1 su (r_pw tx n p w fc).2.2 := ⟨_, rfl⟩
  rw [← hx9] at hpost
  dsimp only at hpost
  have J79 : ∀ (p2 w2 d2 : Nat) (su2 fc2 : Nat → Int32) (h1 : xH) (sz1 : Nat), d2 ≤ 6 → w2 ≤ 3 → (∀ (h1 : xH) (sz1 : Nat), Md dA h1 b tx (nI n) fa st de dm sd im se kp (nI p2) (nI w2) (nI d2) (if w2 = 0 then ct_su su2 (wa d2) fc2 d2 10 else su2) wa fc2 po ro fr ch ov → xF b (b + 14) h h1 → Post none h1 sz1) → Md dA h1 b tx (nI n) fa st de dm sd im se kp (nI p2) (nI w2) (nI d2) su2 wa fc2 po ro fr ch ov → xF b (b + 14) h h1 → xV pg l e (headSpec wsX5_closes { frames := 2, cells := 0, slots := 0, locals := 45 }).room s m args below meth c D dA 1 h sz 0 0 Post 0 0 79 [(0, .ref b)] [] h1 sz1 := by
    intro p2 w2 d2 su2 fc2 h1 sz1 hd2 hw2 hq M F
    refine x_aload_n G dX5_closes_79 rfl ?_
    refine x_get G kX5 inX5 11 (by decide) (by decide +kernel) dX5_closes_80 (md_o M) rfl ?_
    refine x_if_ne G 90 dX5_closes_83 (by decide) (fun c_83 => ?_) (fun c_83 => ?_)
    · exact x_vret G dX5_closes_90 (hq _ _ (by rw [if_neg (fun z => c_83 (by rw [z]; rfl))]; exact M) F)
    · have e0 : w2 = 0 := by
        rcases Nat.eq_zero_or_pos w2 with z | z
        · exact z
        · exact absurd c_83 (nI_ne0 z (by omega))
      rw [if_pos e0] at hq
      refine x_aload_n G dX5_closes_86 rfl ?_
      refine x_callV (n := 0) (rest := []) (As := []) G (ci := 5) (c_counts (Post := fun r7 h7 sz7 => r7 = none ∧ Md dA h7 b tx (nI n) fa st de dm sd im se kp (nI p2) (nI w2) (nI d2) (ct_su su2 (wa d2) fc2 d2 10) wa fc2 po ro fr ch ov ∧ xF b (b + 14) h h7) l D (by omega) M (fun h7 sz7 q1 q2 => ⟨rfl, q1, xF_tr F q2⟩)) gX5_closes_X5_counts rfl ⟨rfl, by decide +kernel, by decide +kernel, by decide +kernel⟩ ⟨by decide, by decide⟩ rfl rfl (md_o M) dX5_closes_87 rfl rfl (Nat.le_of_ble_eq_true rfl) ⟨by decide, by decide⟩ ?_
      rintro _ h1 sz1 ⟨rfl, M, F⟩
      try dsimp only [Option.toList, List.cons_append, List.nil_append]
      exact x_vret G dX5_closes_90 (hq _ _ M F)
  refine x_aload_n G dX5_closes_0 rfl ?_
  refine x_callV (n := 0) (rest := []) (As := []) G (ci := 5) (c_readsPower (Post := fun r7 h7 sz7 => r7 = none ∧ Md dA h7 b tx (nI n) fa st de dm sd im se kp (nI (r_pw tx n (p) w (fc)).1) (nI (r_pw tx n (p) w (fc)).2.1) (nI d) su wa ((r_pw tx n (p) w (fc)).2.2) po ro fr ch ov ∧ xF b (b + 14) h h7) l D hn (by omega) (by omega) M (fun h7 sz7 q1 q2 => ⟨rfl, q1, xF_tr F q2⟩)) gX5_closes_X5_readsPower rfl ⟨rfl, by decide +kernel, by decide +kernel, by decide +kernel⟩ ⟨by decide, by decide⟩ rfl rfl (md_o M) dX5_closes_1 rfl rfl (Nat.le_of_ble_eq_true rfl) ⟨by decide, by decide⟩ ?_
  rintro _ h1 sz1 ⟨rfl, M, F⟩
  try dsimp only [Option.toList, List.cons_append, List.nil_append]
  have hb0 := r_pw_b (tx := tx) (n := n) (p := p) (w := w) (fc := fc) hp hw
  refine x_while (σ := Nat × Nat × Nat × (Nat → Int32) × (Nat → Int32)) (fun _ => [(0, .ref b)]) [] (fun u h1 sz1 => u.1 ≤ 6 ∧ u.2.1 ≤ n ∧ u.2.2.1 ≤ 3 ∧ r_cl tx n wa u.1 u.2.1 u.2.2.1 u.2.2.2.1 u.2.2.2.2 = x9 ∧ Md dA h1 b tx (nI n) fa st de dm sd im se kp (nI u.2.1) (nI u.2.2.1) (nI u.1) u.2.2.2.1 wa u.2.2.2.2 po ro fr ch ov ∧ xF b (b + 14) h h1) (fun u => u.1) ?_ (d, (r_pw tx n p w fc).1, (r_pw tx n p w fc).2.1, su, (r_pw tx n p w fc).2.2) _ _ ⟨hd, hb0.1, hb0.2.1, hx9.symm, M, F⟩
  intro u h1 sz1 hI nx
  obtain ⟨d0, p1, w1, su1, fc1⟩ := u
  obtain ⟨hd0, hp1, hw1, hI, M, F⟩ := hI
  dsimp only at hd0 hp1 hw1 hI M nx
  refine x_aload_n G dX5_closes_4 rfl ?_
  refine x_get G kX5 inX5 11 (by decide) (by decide +kernel) dX5_closes_5 (md_o M) rfl ?_
  refine x_if_ne G 79 dX5_closes_8 (by decide) (fun c_8 => ?_) (fun c_8 => ?_)
  · have ew : ¬ w1 = 0 := fun z => c_8 (by rw [z]; rfl)
    have ex : r_cl tx n wa d0 p1 w1 su1 fc1 = (p1, w1, d0, su1, fc1) := by
      cases d0 with
      | zero => rfl
      | succ d1 => unfold r_cl; rw [if_pos ew]
    rw [ex] at hI
    exact J79 p1 w1 d0 su1 fc1 _ _ (by omega) (by omega) (by rw [← hI] at hpost; exact hpost) M F
  · have ew : w1 = 0 := by
      rcases Nat.eq_zero_or_pos w1 with z | z
      · exact z
      · exact absurd c_8 (nI_ne0 z (by omega))
    refine x_aload_n G dX5_closes_11 rfl ?_
    refine x_get G kX5 inX5 12 (by decide) (by decide +kernel) dX5_closes_12 (md_o M) rfl ?_
    refine x_if_le G 79 dX5_closes_15 (by decide) (fun c_15 => ?_) (fun c_15 => ?_)
    · have ed : d0 = 0 := by
        rcases Nat.eq_zero_or_pos d0 with z | z
        · exact z
        · exact absurd c_15 (nI_nle z (by omega))
      subst ed
      have ex : r_cl tx n wa 0 p1 w1 su1 fc1 = (p1, w1, 0, su1, fc1) := rfl
      rw [ex] at hI
      exact J79 p1 w1 0 su1 fc1 _ _ (by omega) (by omega) (by rw [← hI] at hpost; exact hpost) M F
    · obtain ⟨d1, rfl⟩ : ∃ d1, d0 = d1 + 1 := by
        cases d0 with
        | zero => exact absurd (by decide) c_15
        | succ d1 => exact ⟨d1, rfl⟩
      have hb := r_pl_b (tx := tx) hp1
      refine x_aload_n G dX5_closes_18 rfl ?_
      refine x_callV (n := 0) (rest := []) (As := []) G (ci := 5) (c_here (Post := fun r7 h7 sz7 => r7 = some (.int (r_hc tx n p1)) ∧ Md dA h7 b tx (nI n) fa st de dm sd im se kp (nI (r_pl tx n p1)) (nI w1) (nI (d1 + 1)) su1 wa fc1 po ro fr ch ov ∧ xF b (b + 14) h h7) (n := n) (p := p1) l D hn (by omega) M (fun h7 sz7 q1 q2 => ⟨rfl, q1, xF_tr F q2⟩)) gX5_closes_X5_here rfl ⟨rfl, by decide +kernel, by decide +kernel, by decide +kernel⟩ ⟨by decide, by decide⟩ rfl rfl (md_o M) dX5_closes_19 rfl rfl (Nat.le_of_ble_eq_true rfl) ⟨by decide, by decide⟩ ?_
      rintro _ h1 sz1 ⟨rfl, M, F⟩
      try dsimp only [Option.toList, List.cons_append, List.nil_append]
      refine x_bipushV (v := nI 41) G dX5_closes_22 (by decide) ?_
      refine x_icmp_ne G 79 dX5_closes_24 (by decide) (fun c_24 => ?_) (fun c_24 => ?_)
      · have ex : r_cl tx n wa (d1 + 1) p1 w1 su1 fc1 = (r_pl tx n p1, w1, d1 + 1, su1, fc1) := by
          unfold r_cl
          rw [if_neg (fun y => y ew), if_neg c_24]
        rw [ex] at hI
        exact J79 (r_pl tx n p1) w1 (d1 + 1) su1 fc1 _ _ (by omega) (by omega) (by rw [← hI] at hpost; exact hpost) M F
      · have hl := r_hc_lt (tx := tx) (n := n) (p := p1) (by rw [c_24]; decide)
        rw [show r_cl tx n wa (d1 + 1) p1 w1 su1 fc1 = (if ¬ w1 = 0 then _ else if r_hc tx n p1 = nI 41 then _ else _) from rfl, if_neg (fun y => y ew), if_pos c_24] at hI
        have hb2 := r_pw_b (tx := tx) (n := n) (p := r_pl tx n p1 + 1) (w := w1) (fc := va_cpy (ct_su su1 (wa (d1 + 1)) fc1 (d1 + 1) 10) fc1 (10 * (d1 + 1)) 0 10) (by omega) hw1
        refine x_aload_n G dX5_closes_27 rfl ?_
        refine x_dup G dX5_closes_28 rfl ?_
        refine x_get G kX5 inX5 10 (by decide) (by decide +kernel) dX5_closes_29 (md_o M) rfl ?_
        refine x_iconstV (v := nI 1) G dX5_closes_32 (by decide) ?_
        refine x_iadd G dX5_closes_33 ?_
        refine x_topE (y := nI (r_pl tx n p1 + 1)) (nI_1 _) ?_
        refine x_put G kX5 inX5 10 (by decide) (by decide +kernel) rfl dX5_closes_34 (md_o M) rfl rfl (Nat.le_of_ble_eq_true rfl) ?_
        have M := md_pl_s M (nI (r_pl tx n p1 + 1))
        have F := xF_up (a := b) (e := .inr (5, List.set [.ref (b + 1), .int (nI n), .int (fa), .ref (b + 2), .ref (b + 3), .int (dm), .long (sd), .ref (b + 4), .ref (b + 5), .ref (b + 6), .int (nI (r_pl tx n p1)), .int (nI w1), .int (nI (d1 + 1)), .ref (b + 7), .ref (b + 8), .ref (b + 9), .ref (b + 10), .ref (b + 11), .int (fr), .ref (b + 12), .ref (b + 13)] 10 (.int (nI (r_pl tx n p1 + 1))))) F (by omega) (by omega)
        refine x_aload_n G dX5_closes_37 rfl ?_
        refine x_callV (n := 0) (rest := []) (As := []) G (ci := 5) (c_counts (Post := fun r7 h7 sz7 => r7 = none ∧ Md dA h7 b tx (nI n) fa st de dm sd im se kp (nI (r_pl tx n p1 + 1)) (nI w1) (nI (d1 + 1)) (ct_su su1 (wa (d1 + 1)) fc1 (d1 + 1) 10) wa fc1 po ro fr ch ov ∧ xF b (b + 14) h h7) l D (by omega) M (fun h7 sz7 q1 q2 => ⟨rfl, q1, xF_tr F q2⟩)) gX5_closes_X5_counts rfl ⟨rfl, by decide +kernel, by decide +kernel, by decide +kernel⟩ ⟨by decide, by decide⟩ rfl rfl (md_o M) dX5_closes_38 rfl rfl (Nat.le_of_ble_eq_true rfl) ⟨by decide, by decide⟩ ?_
        rintro _ h1 sz1 ⟨rfl, M, F⟩
        try dsimp only [Option.toList, List.cons_append, List.nil_append]
        refine x_aload_n G dX5_closes_41 rfl ?_
        refine x_get G kX5 inX5 13 (by decide) (by decide +kernel) dX5_closes_42 (md_o M) rfl ?_
        refine x_bipushV (v := nI 10) G dX5_closes_45 (by decide) ?_
        refine x_aload_n G dX5_closes_47 rfl ?_
        refine x_get G kX5 inX5 12 (by decide) (by decide +kernel) dX5_closes_48 (md_o M) rfl ?_
        refine x_imul G dX5_closes_51 ?_
        refine x_topE (y := nI (10 * (d1 + 1))) (by rw [pk_mul]) ?_
        refine x_aload_n G dX5_closes_52 rfl ?_
        refine x_get G kX5 inX5 15 (by decide) (by decide +kernel) dX5_closes_53 (md_o M) rfl ?_
        refine x_iconstV (v := nI 0) G dX5_closes_56 (by decide) ?_
        refine x_bipushV (v := nI 10) G dX5_closes_57 (by decide) ?_
        refine x_callS (n := 5) (rest := []) (As := [.ref (b + 7), .int (nI (10 * (d1 + 1))), .ref (b + 9), .int (nI (0)), .int (nI (10))]) G (c_bring (Post := fun r7 h7 sz7 => r7 = none ∧ h7 = x_up _ (b + 9) (.inl (dA 0, 10, .inl (va_cpy (ct_su su1 (wa (d1 + 1)) fc1 (d1 + 1) 10) (fc1) (10 * (d1 + 1)) (0) (10))))) l D (md_su M) (md_fc M) (Or.inl (by omega)) (by omega) (by omega) (by decide) (by decide) (fun sz7 => ⟨rfl, rfl⟩)) gX5_closes_X5_bring rfl ⟨by decide +kernel, by decide +kernel, by decide +kernel⟩ ⟨by decide, by decide⟩ dX5_closes_59 rfl rfl (Nat.le_of_ble_eq_true rfl) ⟨by decide, by decide⟩ ?_
        rintro _ _ sz1 ⟨rfl, rfl⟩
        try dsimp only [Option.toList, List.cons_append, List.nil_append]
        have M := md_fc_s M (va_cpy (ct_su su1 (wa (d1 + 1)) fc1 (d1 + 1) 10) (fc1) (10 * (d1 + 1)) (0) (10))
        have F := xF_up (a := b + 9) (e := .inl (dA 0, 10, .inl (va_cpy (ct_su su1 (wa (d1 + 1)) fc1 (d1 + 1) 10) (fc1) (10 * (d1 + 1)) (0) (10)))) F (by omega) (by omega)
        refine x_aload_n G dX5_closes_62 rfl ?_
        refine x_dup G dX5_closes_63 rfl ?_
        refine x_get G kX5 inX5 12 (by decide) (by decide +kernel) dX5_closes_64 (md_o M) rfl ?_
        refine x_iconstV (v := nI 1) G dX5_closes_67 (by decide) ?_
        refine x_isub G dX5_closes_68 ?_
        refine x_topE (y := nI d1) (nI_pred d1) ?_
        refine x_put G kX5 inX5 12 (by decide) (by decide +kernel) rfl dX5_closes_69 (md_o M) rfl rfl (Nat.le_of_ble_eq_true rfl) ?_
        have M := md_dp_s M (nI d1)
        have F := xF_up (a := b) (e := .inr (5, List.set [.ref (b + 1), .int (nI n), .int (fa), .ref (b + 2), .ref (b + 3), .int (dm), .long (sd), .ref (b + 4), .ref (b + 5), .ref (b + 6), .int (nI (r_pl tx n p1 + 1)), .int (nI w1), .int (nI (d1 + 1)), .ref (b + 7), .ref (b + 8), .ref (b + 9), .ref (b + 10), .ref (b + 11), .int (fr), .ref (b + 12), .ref (b + 13)] 12 (.int (nI d1)))) F (by omega) (by omega)
        refine x_aload_n G dX5_closes_72 rfl ?_
        refine x_callV (n := 0) (rest := []) (As := []) G (ci := 5) (c_readsPower (Post := fun r7 h7 sz7 => r7 = none ∧ Md dA h7 b tx (nI n) fa st de dm sd im se kp (nI (r_pw tx n (r_pl tx n p1 + 1) w1 (va_cpy (ct_su su1 (wa (d1 + 1)) fc1 (d1 + 1) 10) fc1 (10 * (d1 + 1)) 0 10)).1) (nI (r_pw tx n (r_pl tx n p1 + 1) w1 (va_cpy (ct_su su1 (wa (d1 + 1)) fc1 (d1 + 1) 10) fc1 (10 * (d1 + 1)) 0 10)).2.1) (nI d1) (ct_su su1 (wa (d1 + 1)) fc1 (d1 + 1) 10) wa ((r_pw tx n (r_pl tx n p1 + 1) w1 (va_cpy (ct_su su1 (wa (d1 + 1)) fc1 (d1 + 1) 10) fc1 (10 * (d1 + 1)) 0 10)).2.2) po ro fr ch ov ∧ xF b (b + 14) h h7) l D hn (by omega) (by omega) M (fun h7 sz7 q1 q2 => ⟨rfl, q1, xF_tr F q2⟩)) gX5_closes_X5_readsPower rfl ⟨rfl, by decide +kernel, by decide +kernel, by decide +kernel⟩ ⟨by decide, by decide⟩ rfl rfl (md_o M) dX5_closes_73 rfl rfl (Nat.le_of_ble_eq_true rfl) ⟨by decide, by decide⟩ ?_
        rintro _ h1 sz1 ⟨rfl, M, F⟩
        try dsimp only [Option.toList, List.cons_append, List.nil_append]
        refine x_goto G 4 dX5_closes_76 (by decide) ?_
        exact nx (d1, _, _, _, _) _ _ ⟨by dsimp only; omega, hb2.1, hb2.2.1, hI, M, F⟩ (by dsimp only; omega)
