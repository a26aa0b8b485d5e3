/-! ## The class: Reader: end, readAll -/
def q_ok (t : Nat → Int64) : Nat → Bool
  | 0 => true
  | k + 1 => q_ok t k && decide (ab_l (t k) ≤ 9)
theorem q_ok_iff {t : Nat → Int64} : ∀ {n : Nat}, q_ok t n = true ↔ ∀ b, b < n → ab_l (t b) ≤ 9
  | 0 => ⟨fun _ b hb => absurd hb (Nat.not_lt_zero _), fun _ => rfl⟩
  | n + 1 => by
    show (q_ok t n && decide (ab_l (t n) ≤ 9)) = true ↔ _
    rw [Bool.and_eq_true, q_ok_iff, decide_eq_true_eq]
    constructor
    · intro z b hb
      rcases Nat.lt_or_ge b n with y | y
      · exact z.1 b y
      · rw [show b = n by omega]; exact z.2
    · intro z
      exact ⟨fun b hb => z b (by omega), z n (by omega)⟩
def q_end : rT → Nat × rT
  | (tt, sn, fc, op, ex, ps, sd, le) => if (ex = 1 ∨ ex = 4) ∧ op = 0 ∧ le = 0 then ((if q_ok (at_s (tt 0) fc (sn 0).toInt64 10) 10 = true then 0 else 3), q_put (tt, sn, fc, op, ex, ps, sd, le)) else (1, (tt, sn, fc, op, ex, ps, sd, le))
/-- letters from i on, k of them: the number of the fault, its place, the state -/
def q_run (f : Nat → Int32) : Nat → Nat → rT → Nat × Nat × rT
  | 0, i, x => ((q_end x).1, i, (q_end x).2)
  | k + 1, i, x => if f i = nI 32 then q_run f k (i + 1) x else if (q_take (f i) x).1 = 0 then q_run f k (i + 1) (q_take (f i) x).2 else ((q_take (f i) x).1, i, (q_take (f i) x).2)
def q_in (x : rT) : Prop := x.2.2.2.1 < 7 ∧ x.2.2.2.2.1 < 5
theorem q_take_in {v : Int32} {x : rT} (hx : q_in x) : q_in (q_take v x).2 ∧ (q_take v x).1 < 4 := by
  obtain ⟨tt, sn, fc, op, ex, ps, sd, le⟩ := x
  obtain ⟨h1, h2⟩ := hx
  dsimp only at h1 h2
  have ho : q_in (q_open (tt, sn, fc, op, ex, ps, sd, le)).2 ∧ (q_open (tt, sn, fc, op, ex, ps, sd, le)).1 < 4 := by
    unfold q_open
    dsimp only
    split
    · exact ⟨⟨show op + 1 < 7 by omega, show 0 < 5 by omega⟩, by show 0 < 4; omega⟩
    · exact ⟨⟨h1, h2⟩, by show 2 < 4; omega⟩
  have ha : q_in (q_atom v (tt, sn, fc, op, ex, ps, sd, le)).2 ∧ (q_atom v (tt, sn, fc, op, ex, ps, sd, le)).1 < 4 := by
    unfold q_atom
    dsimp only
    split
    · exact ho
    · split
      · exact ⟨⟨h1, show 1 < 5 by omega⟩, by show 0 < 4; omega⟩
      · split
        · exact ⟨⟨h1, show 1 < 5 by omega⟩, by show 0 < 4; omega⟩
        · split
          · exact ⟨⟨h1, show 1 < 5 by omega⟩, by show 0 < 4; omega⟩
          · exact ⟨⟨h1, h2⟩, by show 1 < 4; omega⟩
  have hf : q_in (q_fig v (tt, sn, fc, op, ex, ps, sd, le)).2 ∧ (q_fig v (tt, sn, fc, op, ex, ps, sd, le)).1 < 4 := by
    unfold q_fig
    dsimp only
    split
    · exact ⟨⟨h1, show 4 < 5 by omega⟩, by show 0 < 4; omega⟩
    · exact ⟨⟨h1, h2⟩, by show 1 < 4; omega⟩
  have hj : q_in (q_jnt v (tt, sn, fc, op, ex, ps, sd, le)).2 ∧ (q_jnt v (tt, sn, fc, op, ex, ps, sd, le)).1 < 4 := by
    unfold q_jnt
    dsimp only
    split
    · exact ⟨⟨h1, show 0 < 5 by omega⟩, by show 0 < 4; omega⟩
    · split
      · exact ⟨⟨h1, show 0 < 5 by omega⟩, by show 0 < 4; omega⟩
      · split
        · exact ⟨⟨show op - 1 < 7 by omega, show 1 < 5 by omega⟩, by show 0 < 4; omega⟩
        · split
          · exact ⟨⟨h1, show 0 < 5 by omega⟩, by show 0 < 4; omega⟩
          · exact ⟨⟨h1, h2⟩, by show 1 < 4; omega⟩
  unfold q_take
  dsimp only
  split
  · exact ha
  · split
    · split
      · exact ⟨⟨h1, show 2 < 5 by omega⟩, by show 0 < 4; omega⟩
      · exact hj
    · split
      · split
        · exact ⟨⟨h1, show 3 < 5 by omega⟩, by show 0 < 4; omega⟩
        · exact hf
      · split
        · exact hf
        · exact hj
theorem inX1_end_1 : ∀ w ∈ wsX10, w ∈ wsX1_end := by decide +kernel
set_option maxRecDepth 100000 in
set_option maxHeartbeats 4000000 in
/-- end -/
theorem c_X1_end (l : Launch) (D : va_G) {dA : Nat → ClassId} {q : Nat} {tt : Nat → Nat → Int64} {sn : Nat → Int32} {fc : Nat → Int64} {op ex : Nat} {ps sd le pl : Int32} {h : xH} {sz : Nat} {Post : Option Value → xH → Nat → Prop} (ho : op < 7) (he : ex < 5) (S : Rd dA h q tt sn fc op ex ps sd le pl) (hpost : ∀ (h1 : xH) (sz1 : Nat), RdT dA h1 q (q_end (tt, sn, fc, op, ex, ps, sd, le)).2 pl → xF q (q + 11) h h1 → Post (some (.int (nI (q_end (tt, sn, fc, op, ex, ps, sd, le)).1))) h1 sz1) : xMet l yX1_end wsX1_end 1 24 0 0 D dA [.ref q] h sz Post := by
  refine x_open (cc := cX1_end) (maxL := 3) (ret := (some .int)) (by decide) rfl (Nat.le_of_ble_eq_true rfl) ?_
  intro p e s m args below meth c G _
  have inX1 : ∀ w ∈ wsX10, w ∈ wsX1_end := inX1_end_1
  have F := xF_rf (lo := q) (hi := q + 11) (h := h)
  refine x_aload_n G dX1_end_0 rfl ?_
  refine x_get G kX1 inX1 4 (by decide) (by decide +kernel) dX1_end_1 (re_o S) rfl ?_
  refine x_iconstV (v := nI 1) G dX1_end_4 (by decide) ?_
  refine x_icmp_eq G 16 dX1_end_5 (by decide) (fun c_5 => ?_) (fun c_5 => ?_)
  · have z := congrArg Int32.toInt c_5
    rw [nI_toInt (by omega), nI_toInt (by omega)] at z
    have ew : ex = 1 ∨ ex = 4 := Or.inl (by omega)
    refine x_iconstV (v := nI 1) G dX1_end_16 (by decide) ?_
    refine x_goto G 21 dX1_end_17 (by decide) ?_
    refine x_istore_n G dX1_end_21 (by decide) ?_
    refine x_iload_n G dX1_end_22 rfl ?_
    refine x_if_eq G 40 dX1_end_23 (by decide) (fun c_23 => ?_) (fun c_23 => ?_)
    · exact absurd c_23 (by decide)
    · refine x_aload_n G dX1_end_26 rfl ?_
      refine x_get G kX1 inX1 3 (by decide) (by decide +kernel) dX1_end_27 (re_o S) rfl ?_
      refine x_if_gt G 40 dX1_end_30 (by decide) (fun c_30 => ?_) (fun c_30 => ?_)
      · have eq : q_end (tt, sn, fc, op, ex, ps, sd, le) = (1, (tt, sn, fc, op, ex, ps, sd, le)) := if_neg (fun z => absurd c_30 (by rw [z.2.1]; decide))
        rw [eq] at hpost
        refine x_iconstV (v := nI 1) G dX1_end_40 (by decide) ?_
        exact x_iret G dX1_end_41 (hpost _ _ S F)
      · have eo : op = 0 := by
          rcases Nat.eq_zero_or_pos op with z | z
          · exact z
          · exact absurd (Int32.not_le.mp (by rw [show (0 : Int32) = nI 0 from rfl]; exact nI_ge z (by omega))) c_30
        subst eo
        refine x_aload_n G dX1_end_33 rfl ?_
        refine x_get G kX1 inX1 7 (by decide) (by decide +kernel) dX1_end_34 (re_o S) rfl ?_
        refine x_if_eq G 42 dX1_end_37 (by decide) (fun c_37 => ?_) (fun c_37 => ?_)
        · have eq : q_end (tt, sn, fc, 0, ex, ps, sd, le) = ((if q_ok (at_s (tt 0) fc (sn 0).toInt64 10) 10 = true then 0 else 3), q_put (tt, sn, fc, 0, ex, ps, sd, le)) := if_pos ⟨ew, rfl, c_37⟩
          rw [eq] at hpost
          refine x_aload_n G dX1_end_42 rfl ?_
          refine x_callV (n := 0) (rest := []) (As := []) G (ci := 1) (c_X1_putFactor (Post := fun r7 h7 sz7 => r7 = none ∧ Rd dA h7 q (sl_u tt 0 (at_s (tt 0) fc (sn 0).toInt64 10)) sn fc 0 ex ps sd le pl ∧ xF q (q + 11) _ h7) l D (by decide) S (fun h7 sz7 q1 q2 => ⟨rfl, q1, q2⟩)) gX1_end_X1_putFactor rfl ⟨rfl, by decide +kernel, by decide +kernel, by decide +kernel⟩ ⟨by decide, by decide⟩ rfl rfl (re_o S) dX1_end_43 rfl rfl (Nat.le_of_ble_eq_true rfl) ⟨by decide, by decide⟩ ?_
          rintro _ h2 sz2 ⟨rfl, S, F2⟩
          try dsimp only [Option.toList, List.cons_append, List.nil_append]
          replace F := xF_tr F F2
          have ft := re_t S (by decide : 0 < 7)
          rw [sl_ue] at ft
          refine x_iconstV (v := nI 0) G dX1_end_46 (by decide) ?_
          refine x_istore_n G dX1_end_47 (by decide) ?_
          refine x_loop (σ := Unit) (fun j _ => [(0, .ref q), (1, .int (nI 1)), (2, .int (nI j))]) 10 (fun j _ h1 sz1 => (∀ b, b < j → ab_l ((at_s (tt 0) fc (sn 0).toInt64 10) b) ≤ 9) ∧ h2 = h1 ∧ sz2 = sz1) ?_ ?_ 0 () _ _ (Nat.zero_le _) ⟨fun b hb => absurd hb (Nat.not_lt_zero _), rfl, rfl⟩
          · intro j _ h1 sz1 hj hI nx
            try dsimp only at hI nx ⊢
            obtain ⟨hI, rfl, rfl⟩ := hI
            refine x_iload_n G dX1_end_48 rfl ?_
            refine x_bipushV (v := nI 10) G dX1_end_49 (by decide) ?_
            refine x_icmp_ge G 80 dX1_end_51 (by decide) (fun c_51 => ?_) (fun c_51 => ?_)
            · exact absurd c_51 (nI_ge hj (by omega))
            · refine x_aload_n G dX1_end_54 rfl ?_
              refine x_get G kX1 inX1 0 (by decide) (by decide +kernel) dX1_end_55 (re_o S) rfl ?_
              refine x_iconstV (v := nI 0) G dX1_end_58 (by decide) ?_
              refine x_aald (t := 5) G rfl rfl dX1_end_59 (re_y S) (vp_in_nI (show 0 < 7 by omega) (by decide)) (show (if (nI (0)).toNatClampNeg < 7 then some (q + 2 + (nI (0)).toNatClampNeg) else none) = some (q + 2 + (0)) by rw [nI_clamp (by omega), if_pos (by omega)]) ?_
              refine x_iload_n G dX1_end_60 rfl ?_
              refine x_laldN G dX1_end_61 ft (by omega) (by decide) ?_
              refine x_absl G (by decide +kernel) (by decide +kernel) (by decide +kernel) (by decide +kernel) (by decide) (by decide) (by decide) (by decide) dX1_end_62 ?_
              refine x_ldc2_w G (9) (by decide +kernel) dX1_end_65 ?_
              refine x_lcmp G dX1_end_68 ?_
              refine x_if_le G 74 dX1_end_69 (by decide) (fun c_69 => ?_) (fun c_69 => ?_)
              · have e9 : ∀ b, b < j + 1 → ab_l ((at_s (tt 0) fc (sn 0).toInt64 10) b) ≤ 9 := fun b hb => by
                  rcases Nat.lt_or_ge b j with z | z
                  · exact hI b z
                  · rw [show b = j by omega]; exact (x_lgle _ _).mp c_69
                refine x_iinc G dX1_end_74 rfl (by decide) ?_
                refine x_locE (lv2 := [(0, .ref q), (1, .int (nI 1)), (2, .int (nI (j + 1)))]) (by rw [nI_succ j]; rfl) ?_
                refine x_goto G 48 dX1_end_77 (by decide) ?_
                exact nx () _ _ ⟨e9, rfl, rfl⟩
              · have eq2 : ¬ q_ok (at_s (tt 0) fc (sn 0).toInt64 10) 10 = true := fun z => c_69 ((x_lgle _ _).mpr (q_ok_iff.mp z j hj))
                rw [if_neg eq2] at hpost
                refine x_iconstV (v := nI 3) G dX1_end_72 (by decide) ?_
                exact x_iret G dX1_end_73 (hpost _ _ S F)
          · intro _ h1 sz1 hI
            try dsimp only at hI ⊢
            obtain ⟨hI, rfl, rfl⟩ := hI
            refine x_iload_n G dX1_end_48 rfl ?_
            refine x_bipushV (v := nI 10) G dX1_end_49 (by decide) ?_
            refine x_icmp_ge G 80 dX1_end_51 (by decide) (fun c_51 => ?_) (fun c_51 => ?_)
            · rw [if_pos (q_ok_iff.mpr hI)] at hpost
              refine x_iconstV (v := nI 0) G dX1_end_80 (by decide) ?_
              exact x_iret G dX1_end_81 (hpost _ _ S F)
            · exact absurd (nI_le (Nat.le_refl _) (by omega)) c_51
        · have eq : q_end (tt, sn, fc, 0, ex, ps, sd, le) = (1, (tt, sn, fc, 0, ex, ps, sd, le)) := if_neg (fun z => c_37 z.2.2)
          rw [eq] at hpost
          refine x_iconstV (v := nI 1) G dX1_end_40 (by decide) ?_
          exact x_iret G dX1_end_41 (hpost _ _ S F)
  · have ea : ¬ ex = 1 := fun z => c_5 (by rw [z])
    refine x_aload_n G dX1_end_8 rfl ?_
    refine x_get G kX1 inX1 4 (by decide) (by decide +kernel) dX1_end_9 (re_o S) rfl ?_
    refine x_iconstV (v := nI 4) G dX1_end_12 (by decide) ?_
    refine x_icmp_ne G 20 dX1_end_13 (by decide) (fun c_13 => ?_) (fun c_13 => ?_)
    · have ew : ¬ (ex = 1 ∨ ex = 4) := fun z => z.elim ea (fun y => c_13 (by rw [y]))
      refine x_iconstV (v := nI 0) G dX1_end_20 (by decide) ?_
      refine x_istore_n G dX1_end_21 (by decide) ?_
      refine x_iload_n G dX1_end_22 rfl ?_
      refine x_if_eq G 40 dX1_end_23 (by decide) (fun c_23 => ?_) (fun c_23 => ?_)
      · have eq : q_end (tt, sn, fc, op, ex, ps, sd, le) = (1, (tt, sn, fc, op, ex, ps, sd, le)) := if_neg (fun z => ew z.1)
        rw [eq] at hpost
        refine x_iconstV (v := nI 1) G dX1_end_40 (by decide) ?_
        exact x_iret G dX1_end_41 (hpost _ _ S F)
      · exact absurd rfl c_23
    · have z := congrArg Int32.toInt c_13
      rw [nI_toInt (by omega), nI_toInt (by omega)] at z
      have ew : ex = 1 ∨ ex = 4 := Or.inr (by omega)
      refine x_iconstV (v := nI 1) G dX1_end_16 (by decide) ?_
      refine x_goto G 21 dX1_end_17 (by decide) ?_
      refine x_istore_n G dX1_end_21 (by decide) ?_
      refine x_iload_n G dX1_end_22 rfl ?_
      refine x_if_eq G 40 dX1_end_23 (by decide) (fun c_23 => ?_) (fun c_23 => ?_)
      · exact absurd c_23 (by decide)
      · refine x_aload_n G dX1_end_26 rfl ?_
        refine x_get G kX1 inX1 3 (by decide) (by decide +kernel) dX1_end_27 (re_o S) rfl ?_
        refine x_if_gt G 40 dX1_end_30 (by decide) (fun c_30 => ?_) (fun c_30 => ?_)
        · have eq : q_end (tt, sn, fc, op, ex, ps, sd, le) = (1, (tt, sn, fc, op, ex, ps, sd, le)) := if_neg (fun z => absurd c_30 (by rw [z.2.1]; decide))
          rw [eq] at hpost
          refine x_iconstV (v := nI 1) G dX1_end_40 (by decide) ?_
          exact x_iret G dX1_end_41 (hpost _ _ S F)
        · have eo : op = 0 := by
            rcases Nat.eq_zero_or_pos op with z | z
            · exact z
            · exact absurd (Int32.not_le.mp (by rw [show (0 : Int32) = nI 0 from rfl]; exact nI_ge z (by omega))) c_30
          subst eo
          refine x_aload_n G dX1_end_33 rfl ?_
          refine x_get G kX1 inX1 7 (by decide) (by decide +kernel) dX1_end_34 (re_o S) rfl ?_
          refine x_if_eq G 42 dX1_end_37 (by decide) (fun c_37 => ?_) (fun c_37 => ?_)
          · have eq : q_end (tt, sn, fc, 0, ex, ps, sd, le) = ((if q_ok (at_s (tt 0) fc (sn 0).toInt64 10) 10 = true then 0 else 3), q_put (tt, sn, fc, 0, ex, ps, sd, le)) := if_pos ⟨ew, rfl, c_37⟩
            rw [eq] at hpost
            refine x_aload_n G dX1_end_42 rfl ?_
            refine x_callV (n := 0) (rest := []) (As := []) G (ci := 1) (c_X1_putFactor (Post := fun r7 h7 sz7 => r7 = none ∧ Rd dA h7 q (sl_u tt 0 (at_s (tt 0) fc (sn 0).toInt64 10)) sn fc 0 ex ps sd le pl ∧ xF q (q + 11) _ h7) l D (by decide) S (fun h7 sz7 q1 q2 => ⟨rfl, q1, q2⟩)) gX1_end_X1_putFactor rfl ⟨rfl, by decide +kernel, by decide +kernel, by decide +kernel⟩ ⟨by decide, by decide⟩ rfl rfl (re_o S) dX1_end_43 rfl rfl (Nat.le_of_ble_eq_true rfl) ⟨by decide, by decide⟩ ?_
            rintro _ h2 sz2 ⟨rfl, S, F2⟩
            try dsimp only [Option.toList, List.cons_append, List.nil_append]
            replace F := xF_tr F F2
            have ft := re_t S (by decide : 0 < 7)
            rw [sl_ue] at ft
            refine x_iconstV (v := nI 0) G dX1_end_46 (by decide) ?_
            refine x_istore_n G dX1_end_47 (by decide) ?_
            refine x_loop (σ := Unit) (fun j _ => [(0, .ref q), (1, .int (nI 1)), (2, .int (nI j))]) 10 (fun j _ h1 sz1 => (∀ b, b < j → ab_l ((at_s (tt 0) fc (sn 0).toInt64 10) b) ≤ 9) ∧ h2 = h1 ∧ sz2 = sz1) ?_ ?_ 0 () _ _ (Nat.zero_le _) ⟨fun b hb => absurd hb (Nat.not_lt_zero _), rfl, rfl⟩
            · intro j _ h1 sz1 hj hI nx
              try dsimp only at hI nx ⊢
              obtain ⟨hI, rfl, rfl⟩ := hI
              refine x_iload_n G dX1_end_48 rfl ?_
              refine x_bipushV (v := nI 10) G dX1_end_49 (by decide) ?_
              refine x_icmp_ge G 80 dX1_end_51 (by decide) (fun c_51 => ?_) (fun c_51 => ?_)
              · exact absurd c_51 (nI_ge hj (by omega))
              · refine x_aload_n G dX1_end_54 rfl ?_
                refine x_get G kX1 inX1 0 (by decide) (by decide +kernel) dX1_end_55 (re_o S) rfl ?_
                refine x_iconstV (v := nI 0) G dX1_end_58 (by decide) ?_
                refine x_aald (t := 5) G rfl rfl dX1_end_59 (re_y S) (vp_in_nI (show 0 < 7 by omega) (by decide)) (show (if (nI (0)).toNatClampNeg < 7 then some (q + 2 + (nI (0)).toNatClampNeg) else none) = some (q + 2 + (0)) by rw [nI_clamp (by omega), if_pos (by omega)]) ?_
                refine x_iload_n G dX1_end_60 rfl ?_
                refine x_laldN G dX1_end_61 ft (by omega) (by decide) ?_
                refine x_absl G (by decide +kernel) (by decide +kernel) (by decide +kernel) (by decide +kernel) (by decide) (by decide) (by decide) (by decide) dX1_end_62 ?_
                refine x_ldc2_w G (9) (by decide +kernel) dX1_end_65 ?_
                refine x_lcmp G dX1_end_68 ?_
                refine x_if_le G 74 dX1_end_69 (by decide) (fun c_69 => ?_) (fun c_69 => ?_)
                · have e9 : ∀ b, b < j + 1 → ab_l ((at_s (tt 0) fc (sn 0).toInt64 10) b) ≤ 9 := fun b hb => by
                    rcases Nat.lt_or_ge b j with z | z
                    · exact hI b z
                    · rw [show b = j by omega]; exact (x_lgle _ _).mp c_69
                  refine x_iinc G dX1_end_74 rfl (by decide) ?_
                  refine x_locE (lv2 := [(0, .ref q), (1, .int (nI 1)), (2, .int (nI (j + 1)))]) (by rw [nI_succ j]; rfl) ?_
                  refine x_goto G 48 dX1_end_77 (by decide) ?_
                  exact nx () _ _ ⟨e9, rfl, rfl⟩
                · have eq2 : ¬ q_ok (at_s (tt 0) fc (sn 0).toInt64 10) 10 = true := fun z => c_69 ((x_lgle _ _).mpr (q_ok_iff.mp z j hj))
                  rw [if_neg eq2] at hpost
                  refine x_iconstV (v := nI 3) G dX1_end_72 (by decide) ?_
                  exact x_iret G dX1_end_73 (hpost _ _ S F)
            · intro _ h1 sz1 hI
              try dsimp only at hI ⊢
              obtain ⟨hI, rfl, rfl⟩ := hI
              refine x_iload_n G dX1_end_48 rfl ?_
              refine x_bipushV (v := nI 10) G dX1_end_49 (by decide) ?_
              refine x_icmp_ge G 80 dX1_end_51 (by decide) (fun c_51 => ?_) (fun c_51 => ?_)
              · rw [if_pos (q_ok_iff.mpr hI)] at hpost
                refine x_iconstV (v := nI 0) G dX1_end_80 (by decide) ?_
                exact x_iret G dX1_end_81 (hpost _ _ S F)
              · exact absurd (nI_le (Nat.le_refl _) (by omega)) c_51
          · have eq : q_end (tt, sn, fc, 0, ex, ps, sd, le) = (1, (tt, sn, fc, 0, ex, ps, sd, le)) := if_neg (fun z => c_37 z.2.2)
            rw [eq] at hpost
            refine x_iconstV (v := nI 1) G dX1_end_40 (by decide) ?_
            exact x_iret G dX1_end_41 (hpost _ _ S F)
theorem inX1_readAll_1 : ∀ w ∈ wsX10, w ∈ wsX1_readAll := by decide +kernel
theorem q_end_lt {x : rT} : (q_end x).1 < 4 := by
  obtain ⟨tt, sn, fc, op, ex, ps, sd, le⟩ := x
  unfold q_end
  dsimp only
  split
  · dsimp only
    split <;> omega
  · show 1 < 4
    omega
set_option maxRecDepth 100000 in
set_option maxHeartbeats 4000000 in
/-- readAll -/
theorem c_X1_readAll (l : Launch) (D : va_G) {dA : Nat → ClassId} {q : Nat} {tt : Nat → Nat → Int64} {sn : Nat → Int32} {fc : Nat → Int64} {op ex : Nat} {ps sd le pl : Int32} {a k0 : Nat} {f : Nat → Int32} {v : Int32} {h : xH} {sz : Nat} {Post : Option Value → xH → Nat → Prop} (hk0 : k0 ≤ 60) (hz : narrow .boolean (.int v) = .int v) (hf : fits .boolean (.int v) = true) (ho2 : a < q ∨ q + 11 ≤ a) (hT0 : h a = some (.inl (dA 0, 60, .inl f))) (S : Rd dA h q tt sn fc op ex ps sd le pl) (hpost : ∀ (h1 : xH) (sz1 : Nat), RdT dA h1 q (q_run f k0 0 (sl_u tt 0 (fl_L (tt 0) 0 10), upd sn 0 1, fc, 0, 0, ps, 1, v)).2.2 (if (q_run f k0 0 (sl_u tt 0 (fl_L (tt 0) 0 10), upd sn 0 1, fc, 0, 0, ps, 1, v)).1 = 0 then -1 else nI (q_run f k0 0 (sl_u tt 0 (fl_L (tt 0) 0 10), upd sn 0 1, fc, 0, 0, ps, 1, v)).2.1) → xF q (q + 11) h h1 → Post (some (.int (nI (q_run f k0 0 (sl_u tt 0 (fl_L (tt 0) 0 10), upd sn 0 1, fc, 0, 0, ps, 1, v)).1))) h1 sz1) : xMet l yX1_readAll wsX1_readAll 4 106 0 0 D dA [.ref q, .ref a, .int (nI k0), .int v] h sz Post := by
  refine x_open (cc := cX1_readAll) (maxL := 6) (ret := (some .int)) (by decide) rfl (Nat.le_of_ble_eq_true rfl) ?_
  intro p e s m args below meth c G _
  have inX1 : ∀ w ∈ wsX10, w ∈ wsX1_readAll := inX1_readAll_1
  have F := xF_rf (lo := q) (hi := q + 11) (h := h)
  refine x_aload_n G dX1_readAll_0 rfl ?_
  refine x_iload_n G dX1_readAll_1 rfl ?_
  refine x_callV (n := 1) (rest := []) (As := [.int v]) G (ci := 1) (c_X1_start (Post := fun r7 h7 sz7 => r7 = none ∧ RdT dA h7 q (sl_u tt 0 (fl_L (tt 0) 0 10), upd sn 0 1, fc, 0, 0, ps, 1, v) pl ∧ xF q (q + 11) _ h7) l D hz hf S (fun h7 sz7 q1 q2 => ⟨rfl, q1, q2⟩)) gX1_readAll_X1_start rfl ⟨rfl, by decide +kernel, by decide +kernel, by decide +kernel⟩ ⟨by decide, by decide⟩ rfl rfl (re_o S) dX1_readAll_2 rfl rfl (Nat.le_of_ble_eq_true rfl) ⟨by decide, by decide⟩ ?_
  rintro _ h2 sz2 ⟨rfl, S, F2⟩
  try dsimp only [Option.toList, List.cons_append, List.nil_append]
  replace F := xF_tr F F2
  refine x_iconstV (v := nI 0) G dX1_readAll_5 (by decide) ?_
  refine x_istore G dX1_readAll_6 (by decide) ?_
  refine x_while (σ := Nat) (fun u => [(0, .ref q), (1, .ref a), (2, .int (nI k0)), (3, .int v), (4, .int (nI u))]) [] (fun u h1 sz1 => ∃ (i : Nat) (x : rT), i = u ∧ i ≤ k0 ∧ q_in x ∧ RdT dA h1 q x pl ∧ q_run f (k0 - i) i x = q_run f k0 0 (sl_u tt 0 (fl_L (tt 0) 0 10), upd sn 0 1, fc, 0, 0, ps, 1, v) ∧ xF q (q + 11) h h1) (fun u => k0 - u) ?_ 0 _ _ ⟨0, _, rfl, Nat.zero_le _, ⟨by show 0 < 7; omega, by show 0 < 5; omega⟩, S, rfl, F⟩
  intro u h1 sz1 hI nx
  obtain ⟨i, x, rfl, hik, hq, S, hI, F⟩ := hI
  try dsimp only at nx ⊢
  have hT := (F a ho2).trans hT0
  refine x_iload G dX1_readAll_8 rfl ?_
  refine x_iload_n G dX1_readAll_10 rfl ?_
  refine x_icmp_ge G 64 dX1_readAll_11 (by decide) (fun c_11 => ?_) (fun c_11 => ?_)
  · have hi : i = k0 := by
      rcases Nat.lt_or_ge i k0 with z | z
      · exact absurd c_11 (nI_ge z (by omega))
      · omega
    subst hi
    rw [show i - i = 0 by omega] at hI
    have hI2 : ((q_end x).1, i, (q_end x).2) = q_run f i 0 (sl_u tt 0 (fl_L (tt 0) 0 10), upd sn 0 1, fc, 0, 0, ps, 1, v) := hI
    rw [← hI2] at hpost
    refine x_aload_n G dX1_readAll_64 rfl ?_
    refine x_callV (n := 0) (rest := []) (As := []) G (ci := 1) (c_X1_end (Post := fun r7 h7 sz7 => r7 = some (.int (nI (q_end x).1)) ∧ RdT dA h7 q (q_end x).2 pl ∧ xF q (q + 11) h1 h7) l D hq.1 hq.2 S (fun h7 sz7 q1 q2 => ⟨rfl, q1, q2⟩)) gX1_readAll_X1_end rfl ⟨rfl, by decide +kernel, by decide +kernel, by decide +kernel⟩ ⟨by decide, by decide⟩ rfl rfl (re_o S) dX1_readAll_65 rfl rfl (Nat.le_of_ble_eq_true rfl) ⟨by decide, by decide⟩ ?_
    rintro _ h2 sz2 ⟨rfl, S2, F2⟩
    try dsimp only [Option.toList, List.cons_append, List.nil_append]
    have h4 : (q_end x).1 < 4 := q_end_lt
    refine x_istore G dX1_readAll_68 (by decide) ?_
    refine x_aload_n G dX1_readAll_70 rfl ?_
    refine x_iload G dX1_readAll_71 rfl ?_
    refine x_if_ne G 80 dX1_readAll_73 (by decide) (fun c_73 => ?_) (fun c_73 => ?_)
    · have e0 : ¬ (q_end x).1 = 0 := fun z => c_73 (by rw [z]; rfl)
      dsimp only at hpost
      rw [if_neg e0] at hpost
      have S3 := re_os S2 (q_end x).2.2.2.2.1 (q_end x).2.2.2.2.2.1 (q_end x).2.2.2.2.2.2.1 (q_end x).2.2.2.2.2.2.2.1 (q_end x).2.2.2.2.2.2.2.2 (nI i)
      have F3 : xF q (q + 11) h _ := xF_up (a := q) (e := .inr (1, [.ref (q + 1), .ref (q + 9), .ref (q + 10), .int (nI (q_end x).2.2.2.2.1), .int (nI (q_end x).2.2.2.2.2.1), .int (q_end x).2.2.2.2.2.2.1, .int (q_end x).2.2.2.2.2.2.2.1, .int (q_end x).2.2.2.2.2.2.2.2, .int (nI i)])) (xF_tr F F2) (by omega) (by omega)
      refine x_iload_n G dX1_readAll_80 rfl ?_
      refine x_put G kX1 inX1 8 (by decide) (by decide +kernel) rfl dX1_readAll_81 (re_o S2) rfl rfl (Nat.le_of_ble_eq_true rfl) ?_
      refine x_iload G dX1_readAll_84 rfl ?_
      exact x_iret G dX1_readAll_86 (hpost _ _ S3 F3)
    · have e0 : (q_end x).1 = 0 := by
        have z := congrArg Int32.toInt c_73
        rw [nI_toInt (by omega)] at z
        have z2 : (0 : Int32).toInt = 0 := by decide
        omega
      dsimp only at hpost
      rw [if_pos e0] at hpost
      have S3 := re_os S2 (q_end x).2.2.2.2.1 (q_end x).2.2.2.2.2.1 (q_end x).2.2.2.2.2.2.1 (q_end x).2.2.2.2.2.2.2.1 (q_end x).2.2.2.2.2.2.2.2 (-1)
      have F3 : xF q (q + 11) h _ := xF_up (a := q) (e := .inr (1, [.ref (q + 1), .ref (q + 9), .ref (q + 10), .int (nI (q_end x).2.2.2.2.1), .int (nI (q_end x).2.2.2.2.2.1), .int (q_end x).2.2.2.2.2.2.1, .int (q_end x).2.2.2.2.2.2.2.1, .int (q_end x).2.2.2.2.2.2.2.2, .int (-1)])) (xF_tr F F2) (by omega) (by omega)
      refine x_iconstV (v := (-1)) G dX1_readAll_76 (by decide) ?_
      refine x_goto G 81 dX1_readAll_77 (by decide) ?_
      refine x_put G kX1 inX1 8 (by decide) (by decide +kernel) rfl dX1_readAll_81 (re_o S2) rfl rfl (Nat.le_of_ble_eq_true rfl) ?_
      refine x_iload G dX1_readAll_84 rfl ?_
      exact x_iret G dX1_readAll_86 (hpost _ _ S3 F3)
  · have hi : i < k0 := by
      rcases Nat.lt_or_ge i k0 with z | z
      · exact z
      · exact absurd (nI_le z (by omega)) c_11
    rw [show k0 - i = (k0 - (i + 1)) + 1 by omega] at hI
    replace hI : (if f i = nI 32 then q_run f (k0 - (i + 1)) (i + 1) x else if (q_take (f i) x).1 = 0 then q_run f (k0 - (i + 1)) (i + 1) (q_take (f i) x).2 else ((q_take (f i) x).1, i, (q_take (f i) x).2)) = _ := hI
    refine x_iload G dX1_readAll_14 rfl ?_
    refine x_aload_n G dX1_readAll_16 rfl ?_
    refine x_alen (t := 0) G rfl dX1_readAll_17 hT ?_
    refine x_topE (y := nI 60) rfl ?_
    refine x_icmp_ge G 64 dX1_readAll_18 (by decide) (fun c_18 => ?_) (fun c_18 => ?_)
    · exact absurd c_18 (nI_ge (show i < 60 by omega) (by decide))
    · refine x_aload_n G dX1_readAll_21 rfl ?_
      refine x_iload G dX1_readAll_22 rfl ?_
      refine x_ialdN G dX1_readAll_24 hT (show i < 60 by omega) (by decide) ?_
      refine x_bipushV (v := nI 32) G dX1_readAll_25 (by decide) ?_
      refine x_icmp_ne G 34 dX1_readAll_27 (by decide) (fun c_27 => ?_) (fun c_27 => ?_)
      · rw [if_neg c_27] at hI
        refine x_aload_n G dX1_readAll_34 rfl ?_
        refine x_aload_n G dX1_readAll_35 rfl ?_
        refine x_iload G dX1_readAll_36 rfl ?_
        refine x_ialdN G dX1_readAll_38 hT (show i < 60 by omega) (by decide) ?_
        refine x_callV (n := 1) (rest := []) (As := [.int (f i)]) G (ci := 1) (c_X1_take (Post := fun r7 h7 sz7 => r7 = some (.int (nI (q_take (f i) x).1)) ∧ RdT dA h7 q (q_take (f i) x).2 pl ∧ xF q (q + 11) h1 h7) l D hq.1 hq.2 S (fun h7 sz7 q1 q2 => ⟨rfl, q1, q2⟩)) gX1_readAll_X1_take rfl ⟨rfl, by decide +kernel, by decide +kernel, by decide +kernel⟩ ⟨by decide, by decide⟩ rfl rfl (re_o S) dX1_readAll_39 rfl rfl (Nat.le_of_ble_eq_true rfl) ⟨by decide, by decide⟩ ?_
        rintro _ h2 sz2 ⟨rfl, S2, F2⟩
        try dsimp only [Option.toList, List.cons_append, List.nil_append]
        obtain ⟨hq2, h4⟩ := q_take_in (v := f i) hq
        refine x_istore G dX1_readAll_42 (by decide) ?_
        refine x_iload G dX1_readAll_44 rfl ?_
        refine x_if_eq G 58 dX1_readAll_46 (by decide) (fun c_46 => ?_) (fun c_46 => ?_)
        · have e0 : (q_take (f i) x).1 = 0 := by
            have z := congrArg Int32.toInt c_46
            rw [nI_toInt (by omega)] at z
            have z2 : (0 : Int32).toInt = 0 := by decide
            omega
          rw [if_pos e0] at hI
          refine x_iinc G dX1_readAll_58 rfl (by decide) ?_
          refine x_keep [0, 1, 2, 3, 4] ?_
          refine x_locE (lv2 := [(0, .ref q), (1, .ref a), (2, .int (nI k0)), (3, .int v), (4, .int (nI (i + 1)))]) (by rw [nI_succ i]; rfl) ?_
          refine x_goto G 8 dX1_readAll_61 (by decide) ?_
          exact nx (i + 1) _ _ ⟨i + 1, _, rfl, hi, hq2, S2, hI, xF_tr F F2⟩ (by show k0 - (i + 1) < k0 - i; omega)
        · have e0 : ¬ (q_take (f i) x).1 = 0 := fun z => c_46 (by rw [z]; rfl)
          rw [if_neg e0] at hI
          rw [← hI] at hpost
          dsimp only at hpost
          rw [if_neg e0] at hpost
          have S3 := re_os S2 (q_take (f i) x).2.2.2.2.1 (q_take (f i) x).2.2.2.2.2.1 (q_take (f i) x).2.2.2.2.2.2.1 (q_take (f i) x).2.2.2.2.2.2.2.1 (q_take (f i) x).2.2.2.2.2.2.2.2 (nI i)
          have F3 : xF q (q + 11) h _ := xF_up (a := q) (e := .inr (1, [.ref (q + 1), .ref (q + 9), .ref (q + 10), .int (nI (q_take (f i) x).2.2.2.2.1), .int (nI (q_take (f i) x).2.2.2.2.2.1), .int (q_take (f i) x).2.2.2.2.2.2.1, .int (q_take (f i) x).2.2.2.2.2.2.2.1, .int (q_take (f i) x).2.2.2.2.2.2.2.2, .int (nI i)])) (xF_tr F F2) (by omega) (by omega)
          refine x_aload_n G dX1_readAll_49 rfl ?_
          refine x_iload G dX1_readAll_50 rfl ?_
          refine x_put G kX1 inX1 8 (by decide) (by decide +kernel) rfl dX1_readAll_52 (re_o S2) rfl rfl (Nat.le_of_ble_eq_true rfl) ?_
          refine x_iload G dX1_readAll_55 rfl ?_
          exact x_iret G dX1_readAll_57 (hpost _ _ S3 F3)
      · rw [if_pos c_27] at hI
        refine x_iconstV (v := nI 0) G dX1_readAll_30 (by decide) ?_
        refine x_goto G 42 dX1_readAll_31 (by decide) ?_
        refine x_istore G dX1_readAll_42 (by decide) ?_
        refine x_iload G dX1_readAll_44 rfl ?_
        refine x_if_eq G 58 dX1_readAll_46 (by decide) (fun _ => ?_) (fun z => absurd rfl z)
        refine x_iinc G dX1_readAll_58 rfl (by decide) ?_
        refine x_keep [0, 1, 2, 3, 4] ?_
        refine x_locE (lv2 := [(0, .ref q), (1, .ref a), (2, .int (nI k0)), (3, .int v), (4, .int (nI (i + 1)))]) (by rw [nI_succ i]; rfl) ?_
        refine x_goto G 8 dX1_readAll_61 (by decide) ?_
        exact nx (i + 1) _ _ ⟨i + 1, x, rfl, hi, hq, S, hI, F⟩ (by show k0 - (i + 1) < k0 - i; omega)
