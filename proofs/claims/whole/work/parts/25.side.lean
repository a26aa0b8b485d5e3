theorem inX5_readsSide_5 : ∀ w ∈ wsX50, w ∈ wsX5_readsSide := by decide +kernel
theorem r_lt_b {tx : Nat → Int32} {n p w d : Nat} {su wa fc : Nat → Int32} (hp : p ≤ n) (hw : w ≤ 3) (hd : d ≤ 6) : (r_lt tx n p w d su wa fc).2.1 ≤ n ∧ (r_lt tx n p w d su wa fc).2.2.1 ≤ 3 ∧ (r_lt tx n p w d su wa fc).2.2.2.1 ≤ 6 := by
  have h1 := r_pl_b (tx := tx) hp
  have hl : ¬ r_hc tx n p = -1 → r_pl tx n p < n := r_hc_lt
  unfold r_lt
  by_cases z1 : nI 97 ≤ r_hc tx n p ∧ r_hc tx n p ≤ nI 100
  · rw [if_pos z1]
    have := hl (fun x => by rw [x] at z1; exact absurd z1 (by decide))
    exact ⟨by dsimp only; omega, hw, hd⟩
  · rw [if_neg z1]
    by_cases z2 : nI 117 ≤ r_hc tx n p ∧ r_hc tx n p ≤ nI 122
    · rw [if_pos z2]
      have := hl (fun x => by rw [x] at z2; exact absurd z2 (by decide))
      exact ⟨by dsimp only; omega, hw, hd⟩
    · rw [if_neg z2]
      by_cases z3 : r_hc tx n p = nI 40
      · rw [if_pos z3]
        have := hl (by rw [z3]; decide)
        by_cases z4 : d = 6
        · rw [if_pos z4]
          exact ⟨by dsimp only; omega, r_fl_b hw (by decide), hd⟩
        · rw [if_neg z4]
          exact ⟨by dsimp only; omega, hw, by dsimp only; omega⟩
      · rw [if_neg z3]
        by_cases z5 : r_hc tx n p = nI 49
        · rw [if_pos z5]
          have := hl (by rw [z5]; decide)
          exact ⟨by dsimp only; omega, hw, hd⟩
        · rw [if_neg z5]
          exact ⟨by dsimp only; omega, r_fl_b hw (by decide), hd⟩
theorem r_cs_b {tx : Nat → Int32} {n : Nat} {wa : Nat → Int32} {d p w : Nat} {su fc : Nat → Int32} (hp : p ≤ n) (hw : w ≤ 3) : (r_cs tx n wa d p w su fc).1 ≤ n ∧ (r_cs tx n wa d p w su fc).2.1 ≤ 3 ∧ (r_cs tx n wa d p w su fc).2.2.1 ≤ d := by
  have h1 := r_pw_b (tx := tx) (n := n) (p := p) (w := w) (fc := fc) hp hw
  have h2 := r_cl_b (tx := tx) (n := n) (wa := wa) (d := d) (su := su) (fc := (r_pw tx n p w fc).2.2) h1.1 h1.2.1
  unfold r_cs
  exact ⟨h2.1, h2.2.1, h2.2.2.1⟩
/-- one side: with fuel: the place, what is wrong, the depth, sums, ways, the factor -/
def r_sl (tx : Nat → Int32) (n : Nat) : Nat → Nat → Nat → Nat → (Nat → Int32) → (Nat → Int32) → (Nat → Int32) → Option (Nat × Nat × Nat × (Nat → Int32) × (Nat → Int32) × (Nat → Int32))
  | 0, _, _, _, _, _, _ => none
  | g + 1, p, w, d, su, wa, fc => if ¬ w = 0 then some (p, w, d, su, wa, fc) else
      match r_lt tx n p w d su wa fc with
      | (false, p1, w1, d1, su1, wa1, fc1) => r_sl tx n g p1 w1 d1 su1 wa1 fc1
      | (true, p1, w1, d1, su1, wa1, fc1) => match r_cs tx n wa1 d1 p1 w1 su1 fc1 with
        | (p2, w2, d2, su2, fc2) => if ¬ w2 = 0 ∨ (¬ r_hc tx n p2 = nI 42 ∧ ¬ r_hc tx n p2 = nI 47) then some (r_pl tx n p2, w2, d2, su2, wa1, fc2) else r_sl tx n g (r_pl tx n p2 + 1) w2 d2 su2 (upd wa1 d2 (if r_hc tx n p2 = nI 42 then nI 1 else -1)) fc2
def r_sw (w d : Nat) : Nat := if w = 0 ∧ 0 < d then r_fl w 1 else w
set_option maxRecDepth 100000 in
set_option maxHeartbeats 4000000 in
/-- readsSide -/
theorem c_readsSide (l : Launch) (D : va_G) {dA : Nat → ClassId} {b n p w g9 p9 w9 d9 : Nat} {su9 wa9 fc9 : Nat → Int32} {tx : Nat → Int32} {fa : Int32} {st : Nat → Int32} {de : Nat → Int32} {dm : Int32} {sd : Int64} {im : Nat → Int32} {se : Nat → Int64} {kp : Nat → Int32} {dp : Int32} {su : Nat → Int32} {wa : Nat → Int32} {fc : Nat → Int32} {po : Nat → Int32} {ro : Nat → Int64} {fr : Int32} {ch : Nat → Int64} {ov : Nat → Int64} {h : xH} {sz : Nat} {Post : Option Value → xH → Nat → Prop} (hn : n ≤ 60) (hp : p ≤ n) (hw : w ≤ 3) (hsl : r_sl tx n g9 p w 0 (op_su su 0 10) (upd wa 0 (nI 1)) fc = some (p9, w9, d9, su9, wa9, fc9)) (M : Md dA h b tx (nI n) fa st de dm sd im se kp (nI p) (nI w) dp su wa fc po ro fr ch ov) (hpost : ∀ (h1 : xH) (sz1 : Nat), Md dA h1 b tx (nI n) fa st de dm sd im se kp (nI (r_pl tx n p9)) (nI (r_sw w9 d9)) (nI (d9)) su9 wa9 fc9 po ro fr ch ov → xF b (b + 14) h h1 → Post (some (.int (r_hc tx n p9))) h1 sz1) : xMet l yX5_readsSide wsX5_readsSide 3 65 0 0 D dA [.ref b] h sz Post := by
  refine x_open (cc := cX5_readsSide) (maxL := 2) (ret := (some .int)) (by decide) rfl (Nat.le_of_ble_eq_true rfl) ?_
  intro pg e s m args below meth c G _
  have inX5 : ∀ w ∈ wsX50, w ∈ wsX5_readsSide := inX5_readsSide_5
  have J83 : ∀ (p2 w2 d2 : Nat) (su2 wa2 fc2 : Nat → Int32) (lv9 : List (Nat × Value)) (h1 : xH) (sz1 : Nat), x_lk lv9 0 = some (.ref b) → p2 ≤ n → w2 ≤ 3 → d2 ≤ 6 → (∀ (h1 : xH) (sz1 : Nat), Md dA h1 b tx (nI n) fa st de dm sd im se kp (nI (r_pl tx n p2)) (nI (r_sw w2 d2)) (nI (d2)) su2 wa2 fc2 po ro fr ch ov → xF b (b + 14) h h1 → Post (some (.int (r_hc tx n p2))) h1 sz1) → Md dA h1 b tx (nI n) fa st de dm sd im se kp (nI (p2)) (nI (w2)) (nI (d2)) su2 wa2 fc2 po ro fr ch ov → xF b (b + 14) h h1 → xV pg l e (headSpec wsX5_readsSide { frames := 3, cells := 0, slots := 0, locals := 65 }).room s m args below meth c D dA 2 h sz 0 0 Post 0 0 83 lv9 [] h1 sz1 := by
    intro p2 w2 d2 su2 wa2 fc2 lv9 h1 sz1 hlv hp2 hw2 hd2 hq M F
    have J102 : ∀ (w3 : Nat) (h1 : xH) (sz1 : Nat), w3 = r_sw w2 d2 → Md dA h1 b tx (nI n) fa st de dm sd im se kp (nI (p2)) (nI (w3)) (nI (d2)) su2 wa2 fc2 po ro fr ch ov → xF b (b + 14) h h1 → xV pg l e (headSpec wsX5_readsSide { frames := 3, cells := 0, slots := 0, locals := 65 }).room s m args below meth c D dA 2 h sz 0 0 Post 0 0 102 lv9 [] h1 sz1 := by
      intro w3 h1 sz1 hw3 M F
      refine x_aload_n G dX5_readsSide_102 hlv ?_
      refine x_callV (n := 0) (rest := []) (As := []) G (ci := 5) (c_here (Post := fun r7 h7 sz7 => r7 = some (.int (r_hc tx n p2)) ∧ Md dA h7 b tx (nI n) fa st de dm sd im se kp (nI (r_pl tx n p2)) (nI (w3)) (nI (d2)) su2 wa2 fc2 po ro fr ch ov ∧ xF b (b + 14) h h7) (n := n) (p := p2) l D hn (by omega) M (fun h7 sz7 q1 q2 => ⟨rfl, q1, xF_tr F q2⟩)) gX5_readsSide_X5_here rfl ⟨rfl, by decide +kernel, by decide +kernel, by decide +kernel⟩ ⟨by decide, by decide⟩ rfl rfl (md_o M) dX5_readsSide_103 rfl rfl (Nat.le_of_ble_eq_true rfl) ⟨by decide, by decide⟩ ?_
      rintro _ h1 sz1 ⟨rfl, M, F⟩
      try dsimp only [Option.toList, List.cons_append, List.nil_append]
      exact x_iret G dX5_readsSide_106 (hq _ _ (by rw [← hw3]; exact M) F)
    refine x_aload_n G dX5_readsSide_83 hlv ?_
    refine x_get G kX5 inX5 11 (by decide) (by decide +kernel) dX5_readsSide_84 (md_o M) rfl ?_
    refine x_if_ne G 102 dX5_readsSide_87 (by decide) (fun c_87 => ?_) (fun c_87 => ?_)
    · exact J102 w2 _ _ (if_neg (fun z => c_87 (by rw [z.1]; rfl))).symm M F
    · have e0 : w2 = 0 := by
        rcases Nat.eq_zero_or_pos w2 with z | z
        · exact z
        · exact absurd c_87 (nI_ne0 z (by omega))
      refine x_aload_n G dX5_readsSide_90 hlv ?_
      refine x_get G kX5 inX5 12 (by decide) (by decide +kernel) dX5_readsSide_91 (md_o M) rfl ?_
      refine x_if_le G 102 dX5_readsSide_94 (by decide) (fun c_94 => ?_) (fun c_94 => ?_)
      · exact J102 w2 _ _ (if_neg (fun z => absurd c_94 (nI_nle z.2 (by omega)))).symm M F
      · have e1 : 0 < d2 := by
          rcases Nat.eq_zero_or_pos d2 with z | z
          · subst z; exact absurd (by decide) c_94
          · exact z
        refine x_aload_n G dX5_readsSide_97 hlv ?_
        refine x_iconstV (v := nI 1) G dX5_readsSide_98 (by decide) ?_
        refine x_callV (n := 1) (rest := []) (As := [.int (nI 1)]) G (ci := 5) (c_fails (Post := fun r7 h7 sz7 => r7 = none ∧ Md dA h7 b tx (nI n) fa st de dm sd im se kp (nI (p2)) (nI (r_fl w2 1)) (nI (d2)) su2 wa2 fc2 po ro fr ch ov ∧ xF b (b + 14) h h7) (w := w2) (q := 1) l D hw2 M (fun h7 sz7 q1 q2 => ⟨rfl, q1, xF_tr F q2⟩)) gX5_readsSide_X5_fails rfl ⟨rfl, by decide +kernel, by decide +kernel, by decide +kernel⟩ ⟨by decide, by decide⟩ rfl rfl (md_o M) dX5_readsSide_99 rfl rfl (Nat.le_of_ble_eq_true rfl) ⟨by decide, by decide⟩ ?_
        rintro _ h1 sz1 ⟨rfl, M, F⟩
        try dsimp only [Option.toList, List.cons_append, List.nil_append]
        exact J102 _ _ _ (if_pos ⟨e0, e1⟩).symm M F
  refine x_aload_n G dX5_readsSide_0 rfl ?_
  refine x_iconstV (v := nI 0) G dX5_readsSide_1 (by decide) ?_
  refine x_callV (n := 1) (rest := []) (As := [.int (nI 0)]) G (ci := 5) (c_opens (Post := fun r7 h7 sz7 => r7 = none ∧ Md dA h7 b tx (nI n) fa st de dm sd im se kp (nI p) (nI w) (nI 0) (op_su su 0 10) (upd wa 0 (nI 1)) fc po ro fr ch ov ∧ xF b (b + 14) h h7) (v := 0) l D (by decide) M (fun h7 sz7 q1 q2 => ⟨rfl, q1, q2⟩)) gX5_readsSide_X5_opens rfl ⟨rfl, by decide +kernel, by decide +kernel, by decide +kernel⟩ ⟨by decide, by decide⟩ rfl rfl (md_o M) dX5_readsSide_2 rfl rfl (Nat.le_of_ble_eq_true rfl) ⟨by decide, by decide⟩ ?_
  rintro _ h1 sz1 ⟨rfl, M, F⟩
  try dsimp only [Option.toList, List.cons_append, List.nil_append]
  refine x_while (σ := Nat × Nat × Nat × Nat × (Nat → Int32) × (Nat → Int32) × (Nat → Int32)) (fun _ => [(0, .ref b)]) [] (fun u h1 sz1 => u.2.1 ≤ n ∧ u.2.2.1 ≤ 3 ∧ u.2.2.2.1 ≤ 6 ∧ r_sl tx n u.1 u.2.1 u.2.2.1 u.2.2.2.1 u.2.2.2.2.1 u.2.2.2.2.2.1 u.2.2.2.2.2.2 = some (p9, w9, d9, su9, wa9, fc9) ∧ Md dA h1 b tx (nI n) fa st de dm sd im se kp (nI u.2.1) (nI u.2.2.1) (nI u.2.2.2.1) u.2.2.2.2.1 u.2.2.2.2.2.1 u.2.2.2.2.2.2 po ro fr ch ov ∧ xF b (b + 14) h h1) (fun u => u.1) ?_ (g9, p, w, 0, op_su su 0 10, upd wa 0 (nI 1), fc) _ _ ⟨hp, hw, Nat.zero_le _, hsl, M, F⟩
  intro u h1 sz1 hI nx
  obtain ⟨g0, p0, w0, d0, su0, wa0, fc0⟩ := u
  obtain ⟨hp0, hw0, hd0, hI, M, F⟩ := hI
  dsimp only at hp0 hw0 hd0 hI M nx
  obtain ⟨g, rfl⟩ : ∃ g, g0 = g + 1 := by
    cases g0 with
    | zero => cases hI
    | succ g => exact ⟨g, rfl⟩
  refine x_aload_n G dX5_readsSide_5 rfl ?_
  refine x_get G kX5 inX5 11 (by decide) (by decide +kernel) dX5_readsSide_6 (md_o M) rfl ?_
  refine x_if_ne G 83 dX5_readsSide_9 (by decide) (fun c_9 => ?_) (fun c_9 => ?_)
  · have ew : ¬ w0 = 0 := fun z => c_9 (by rw [z]; rfl)
    rw [show r_sl tx n (g + 1) p0 w0 d0 su0 wa0 fc0 = (if ¬ w0 = 0 then _ else _) from rfl, if_pos ew] at hI
    cases hI
    exact J83 _ _ _ _ _ _ _ _ _ rfl hp0 hw0 hd0 hpost M F
  · have ew : w0 = 0 := by
      rcases Nat.eq_zero_or_pos w0 with z | z
      · exact z
      · exact absurd c_9 (nI_ne0 z (by omega))
    rw [show r_sl tx n (g + 1) p0 w0 d0 su0 wa0 fc0 = (if ¬ w0 = 0 then _ else _) from rfl, if_neg (fun z => z ew)] at hI
    have hb1 := r_lt_b (tx := tx) (n := n) (p := p0) (w := w0) (d := d0) (su := su0) (wa := wa0) (fc := fc0) hp0 hw0 hd0
    refine x_aload_n G dX5_readsSide_12 rfl ?_
    refine x_callV (n := 0) (rest := []) (As := []) G (ci := 5) (c_readsLetter (Post := fun r7 h7 sz7 => r7 = some (.int (x_b ((r_lt tx n p0 w0 d0 su0 wa0 fc0).1 = true))) ∧ Md dA h7 b tx (nI n) fa st de dm sd im se kp (nI ((r_lt tx n p0 w0 d0 su0 wa0 fc0).2.1)) (nI ((r_lt tx n p0 w0 d0 su0 wa0 fc0).2.2.1)) (nI ((r_lt tx n p0 w0 d0 su0 wa0 fc0).2.2.2.1)) ((r_lt tx n p0 w0 d0 su0 wa0 fc0).2.2.2.2.1) ((r_lt tx n p0 w0 d0 su0 wa0 fc0).2.2.2.2.2.1) ((r_lt tx n p0 w0 d0 su0 wa0 fc0).2.2.2.2.2.2) po ro fr ch ov ∧ xF b (b + 14) h h7) l D hn hp0 hw0 hd0 M (fun h7 sz7 q1 q2 => ⟨rfl, q1, xF_tr F q2⟩)) gX5_readsSide_X5_readsLetter rfl ⟨rfl, by decide +kernel, by decide +kernel, by decide +kernel⟩ ⟨by decide, by decide⟩ rfl rfl (md_o M) dX5_readsSide_13 rfl rfl (Nat.le_of_ble_eq_true rfl) ⟨by decide, by decide⟩ ?_
    rintro _ h1 sz1 ⟨rfl, M, F⟩
    try dsimp only [Option.toList, List.cons_append, List.nil_append]
    generalize r_lt tx n p0 w0 d0 su0 wa0 fc0 = y at hI hb1 M
    obtain ⟨yb, p1, w1, d1, su1, wa1, fc1⟩ := y
    dsimp only at hb1 M
    refine x_if_eq G 5 dX5_readsSide_16 (by decide) (fun c_16 => ?_) (fun c_16 => ?_)
    · cases yb with
      | true => exact absurd c_16 (show ¬ x_b (true = true) = 0 by decide)
      | false =>
      refine x_keep [0] ?_
      exact nx (g, p1, w1, d1, su1, wa1, fc1) _ _ ⟨hb1.1, hb1.2.1, hb1.2.2, hI, M, F⟩ (by dsimp only; omega)
    · cases yb with
      | false => exact absurd (show x_b (false = true) = 0 by decide) c_16
      | true =>
      dsimp only at hI
      have hb2 := r_cs_b (tx := tx) (n := n) (wa := wa1) (d := d1) (p := p1) (w := w1) (su := su1) (fc := fc1) hb1.1 hb1.2.1
      refine x_aload_n G dX5_readsSide_19 rfl ?_
      refine x_callV (n := 0) (rest := []) (As := []) G (ci := 5) (c_closes (Post := fun r7 h7 sz7 => r7 = none ∧ Md dA h7 b tx (nI n) fa st de dm sd im se kp (nI ((r_cs tx n wa1 d1 p1 w1 su1 fc1).1)) (nI ((r_cs tx n wa1 d1 p1 w1 su1 fc1).2.1)) (nI ((r_cs tx n wa1 d1 p1 w1 su1 fc1).2.2.1)) ((r_cs tx n wa1 d1 p1 w1 su1 fc1).2.2.2.1) wa1 ((r_cs tx n wa1 d1 p1 w1 su1 fc1).2.2.2.2) po ro fr ch ov ∧ xF b (b + 14) h h7) l D hn hb1.1 hb1.2.1 hb1.2.2 M (fun h7 sz7 q1 q2 => ⟨rfl, q1, xF_tr F q2⟩)) gX5_readsSide_X5_closes rfl ⟨rfl, by decide +kernel, by decide +kernel, by decide +kernel⟩ ⟨by decide, by decide⟩ rfl rfl (md_o M) dX5_readsSide_20 rfl rfl (Nat.le_of_ble_eq_true rfl) ⟨by decide, by decide⟩ ?_
      rintro _ h1 sz1 ⟨rfl, M, F⟩
      try dsimp only [Option.toList, List.cons_append, List.nil_append]
      generalize r_cs tx n wa1 d1 p1 w1 su1 fc1 = y at hI hb2 M
      obtain ⟨p2, w2, d2, su2, fc2⟩ := y
      dsimp only at hI hb2 M
      have hd16 := hb1.2.2
      have hb3 := r_pl_b (tx := tx) hb2.1
      refine x_aload_n G dX5_readsSide_23 rfl ?_
      refine x_callV (n := 0) (rest := []) (As := []) G (ci := 5) (c_here (Post := fun r7 h7 sz7 => r7 = some (.int (r_hc tx n p2)) ∧ Md dA h7 b tx (nI n) fa st de dm sd im se kp (nI (r_pl tx n p2)) (nI (w2)) (nI (d2)) su2 wa1 fc2 po ro fr ch ov ∧ xF b (b + 14) h h7) (n := n) (p := p2) l D hn hb2.1 M (fun h7 sz7 q1 q2 => ⟨rfl, q1, xF_tr F q2⟩)) gX5_readsSide_X5_here rfl ⟨rfl, by decide +kernel, by decide +kernel, by decide +kernel⟩ ⟨by decide, by decide⟩ rfl rfl (md_o M) dX5_readsSide_24 rfl rfl (Nat.le_of_ble_eq_true rfl) ⟨by decide, by decide⟩ ?_
      rintro _ h1 sz1 ⟨rfl, M, F⟩
      try dsimp only [Option.toList, List.cons_append, List.nil_append]
      refine x_istore_n G dX5_readsSide_27 (by decide) ?_
      refine x_aload_n G dX5_readsSide_28 rfl ?_
      refine x_get G kX5 inX5 11 (by decide) (by decide +kernel) dX5_readsSide_29 (md_o M) rfl ?_
      refine x_if_ne G 83 dX5_readsSide_32 (by decide) (fun c_32 => ?_) (fun c_32 => ?_)
      · rw [if_pos (Or.inl (fun z => c_32 (by rw [z]; rfl)))] at hI
        cases hI
        exact J83 _ _ _ _ _ _ _ _ _ rfl hb3.2 hb2.2.1 (by omega) hpost M F
      · have ew2 : w2 = 0 := by
          rcases Nat.eq_zero_or_pos w2 with z | z
          · exact z
          · exact absurd c_32 (nI_ne0 z (by omega))
        refine x_iload_n G dX5_readsSide_35 rfl ?_
        refine x_bipushV (v := nI 42) G dX5_readsSide_36 (by decide) ?_
        refine x_icmp_eq G 50 dX5_readsSide_38 (by decide) (fun c_38 => ?_) (fun c_38 => ?_)
        · have hc : ¬ (¬ w2 = 0 ∨ (¬ r_hc tx n p2 = nI 42 ∧ ¬ r_hc tx n p2 = nI 47)) := fun z => z.elim (fun z => z ew2) (fun z => z.1 c_38)
          have hl := r_hc_lt (tx := tx) (n := n) (p := p2) (by rw [c_38]; decide)
          rw [if_neg hc] at hI
          refine x_aload_n G dX5_readsSide_50 rfl ?_
          refine x_dup G dX5_readsSide_51 rfl ?_
          refine x_get G kX5 inX5 10 (by decide) (by decide +kernel) dX5_readsSide_52 (md_o M) rfl ?_
          refine x_iconstV (v := nI 1) G dX5_readsSide_55 (by decide) ?_
          refine x_iadd G dX5_readsSide_56 ?_
          refine x_topE (y := nI (r_pl tx n p2 + 1)) (nI_1 _) ?_
          refine x_put G kX5 inX5 10 (by decide) (by decide +kernel) rfl dX5_readsSide_57 (md_o M) rfl rfl (Nat.le_of_ble_eq_true rfl) ?_
          have M := md_pl_s M (nI (r_pl tx n p2 + 1))
          have F := xF_up (a := b) (e := .inr (5, List.set [.ref (b + 1), .int (nI n), .int (fa), .ref (b + 2), .ref (b + 3), .int (dm), .long (sd), .ref (b + 4), .ref (b + 5), .ref (b + 6), .int (nI (r_pl tx n p2)), .int (nI w2), .int (nI d2), .ref (b + 7), .ref (b + 8), .ref (b + 9), .ref (b + 10), .ref (b + 11), .int (fr), .ref (b + 12), .ref (b + 13)] 10 (.int (nI (r_pl tx n p2 + 1))))) F (by omega) (by omega)
          refine x_aload_n G dX5_readsSide_60 rfl ?_
          refine x_get G kX5 inX5 14 (by decide) (by decide +kernel) dX5_readsSide_61 (md_o M) rfl ?_
          refine x_aload_n G dX5_readsSide_64 rfl ?_
          refine x_get G kX5 inX5 12 (by decide) (by decide +kernel) dX5_readsSide_65 (md_o M) rfl ?_
          refine x_iload_n G dX5_readsSide_68 rfl ?_
          refine x_bipushV (v := nI 42) G dX5_readsSide_69 (by decide) ?_
          refine x_icmp_ne G 78 dX5_readsSide_71 (by decide) (fun c_71 => ?_) (fun c_71 => ?_)
          · rw [if_neg c_71] at hI
            refine x_iconstV (v := (-1)) G dX5_readsSide_78 (by decide) ?_
            refine x_iastN G dX5_readsSide_79 (md_wa M) (by omega) (by decide) ?_
            have M := md_wa_s M (upd wa1 d2 (-1))
            have F := xF_up (a := b + 8) (e := .inl (dA 0, 7, .inl (upd wa1 d2 (-1)))) F (by omega) (by omega)
            refine x_goto G 5 dX5_readsSide_80 (by decide) ?_
            refine x_keep [0] ?_
            exact nx (g, _, _, _, _, _, _) _ _ ⟨by dsimp only; omega, hb2.2.1, by dsimp only; omega, hI, M, F⟩ (by dsimp only; omega)
          · rw [if_pos c_71] at hI
            refine x_iconstV (v := nI 1) G dX5_readsSide_74 (by decide) ?_
            refine x_goto G 79 dX5_readsSide_75 (by decide) ?_
            refine x_iastN G dX5_readsSide_79 (md_wa M) (by omega) (by decide) ?_
            have M := md_wa_s M (upd wa1 d2 (nI 1))
            have F := xF_up (a := b + 8) (e := .inl (dA 0, 7, .inl (upd wa1 d2 (nI 1)))) F (by omega) (by omega)
            refine x_goto G 5 dX5_readsSide_80 (by decide) ?_
            refine x_keep [0] ?_
            exact nx (g, _, _, _, _, _, _) _ _ ⟨by dsimp only; omega, hb2.2.1, by dsimp only; omega, hI, M, F⟩ (by dsimp only; omega)
        · 
          refine x_iload_n G dX5_readsSide_41 rfl ?_
          refine x_bipushV (v := nI 47) G dX5_readsSide_42 (by decide) ?_
          refine x_icmp_eq G 50 dX5_readsSide_44 (by decide) (fun c_44 => ?_) (fun c_44 => ?_)
          · have hc : ¬ (¬ w2 = 0 ∨ (¬ r_hc tx n p2 = nI 42 ∧ ¬ r_hc tx n p2 = nI 47)) := fun z => z.elim (fun z => z ew2) (fun z => z.2 c_44)
            have hl := r_hc_lt (tx := tx) (n := n) (p := p2) (by rw [c_44]; decide)
            rw [if_neg hc] at hI
            refine x_aload_n G dX5_readsSide_50 rfl ?_
            refine x_dup G dX5_readsSide_51 rfl ?_
            refine x_get G kX5 inX5 10 (by decide) (by decide +kernel) dX5_readsSide_52 (md_o M) rfl ?_
            refine x_iconstV (v := nI 1) G dX5_readsSide_55 (by decide) ?_
            refine x_iadd G dX5_readsSide_56 ?_
            refine x_topE (y := nI (r_pl tx n p2 + 1)) (nI_1 _) ?_
            refine x_put G kX5 inX5 10 (by decide) (by decide +kernel) rfl dX5_readsSide_57 (md_o M) rfl rfl (Nat.le_of_ble_eq_true rfl) ?_
            have M := md_pl_s M (nI (r_pl tx n p2 + 1))
            have F := xF_up (a := b) (e := .inr (5, List.set [.ref (b + 1), .int (nI n), .int (fa), .ref (b + 2), .ref (b + 3), .int (dm), .long (sd), .ref (b + 4), .ref (b + 5), .ref (b + 6), .int (nI (r_pl tx n p2)), .int (nI w2), .int (nI d2), .ref (b + 7), .ref (b + 8), .ref (b + 9), .ref (b + 10), .ref (b + 11), .int (fr), .ref (b + 12), .ref (b + 13)] 10 (.int (nI (r_pl tx n p2 + 1))))) F (by omega) (by omega)
            refine x_aload_n G dX5_readsSide_60 rfl ?_
            refine x_get G kX5 inX5 14 (by decide) (by decide +kernel) dX5_readsSide_61 (md_o M) rfl ?_
            refine x_aload_n G dX5_readsSide_64 rfl ?_
            refine x_get G kX5 inX5 12 (by decide) (by decide +kernel) dX5_readsSide_65 (md_o M) rfl ?_
            refine x_iload_n G dX5_readsSide_68 rfl ?_
            refine x_bipushV (v := nI 42) G dX5_readsSide_69 (by decide) ?_
            refine x_icmp_ne G 78 dX5_readsSide_71 (by decide) (fun c_71 => ?_) (fun c_71 => ?_)
            · rw [if_neg c_71] at hI
              refine x_iconstV (v := (-1)) G dX5_readsSide_78 (by decide) ?_
              refine x_iastN G dX5_readsSide_79 (md_wa M) (by omega) (by decide) ?_
              have M := md_wa_s M (upd wa1 d2 (-1))
              have F := xF_up (a := b + 8) (e := .inl (dA 0, 7, .inl (upd wa1 d2 (-1)))) F (by omega) (by omega)
              refine x_goto G 5 dX5_readsSide_80 (by decide) ?_
              refine x_keep [0] ?_
              exact nx (g, _, _, _, _, _, _) _ _ ⟨by dsimp only; omega, hb2.2.1, by dsimp only; omega, hI, M, F⟩ (by dsimp only; omega)
            · rw [if_pos c_71] at hI
              refine x_iconstV (v := nI 1) G dX5_readsSide_74 (by decide) ?_
              refine x_goto G 79 dX5_readsSide_75 (by decide) ?_
              refine x_iastN G dX5_readsSide_79 (md_wa M) (by omega) (by decide) ?_
              have M := md_wa_s M (upd wa1 d2 (nI 1))
              have F := xF_up (a := b + 8) (e := .inl (dA 0, 7, .inl (upd wa1 d2 (nI 1)))) F (by omega) (by omega)
              refine x_goto G 5 dX5_readsSide_80 (by decide) ?_
              refine x_keep [0] ?_
              exact nx (g, _, _, _, _, _, _) _ _ ⟨by dsimp only; omega, hb2.2.1, by dsimp only; omega, hI, M, F⟩ (by dsimp only; omega)
          · rw [if_pos (Or.inr ⟨c_38, c_44⟩)] at hI
            cases hI
            refine x_goto G 83 dX5_readsSide_47 (by decide) ?_
            exact J83 _ _ _ _ _ _ _ _ _ rfl hb3.2 hb2.2.1 (by omega) hpost M F
