/-! ## The class: Reader: takeAtom, takeJoint, take -/
/-- totals, signs, factor, open, expected, powerSign, side, lacksEqual -/
abbrev rT : Type := (Nat → Nat → Int64) × (Nat → Int32) × (Nat → Int64) × Nat × Nat × Int32 × Int32 × Int32
def RdT (dA : Nat → ClassId) (h : xH) (q : Nat) (x : rT) (pl : Int32) : Prop := Rd dA h q x.1 x.2.1 x.2.2.1 x.2.2.2.1 x.2.2.2.2.1 x.2.2.2.2.2.1 x.2.2.2.2.2.2.1 x.2.2.2.2.2.2.2 pl
def q_open : rT → Nat × rT
  | (tt, sn, fc, op, ex, ps, sd, le) => if op < 6 then (0, (sl_u tt (op + 1) (fl_L (tt (op + 1)) 0 10), upd sn (op + 1) 1, fc, op + 1, 0, ps, sd, le)) else (2, (tt, sn, fc, op, ex, ps, sd, le))
def q_atom (v : Int32) : rT → Nat × rT
  | (tt, sn, fc, op, ex, ps, sd, le) => if v = nI 40 then q_open (tt, sn, fc, op, ex, ps, sd, le)
    else if nI 117 ≤ v ∧ v ≤ nI 122 then (0, (tt, sn, vp_updL (fl_L fc 0 10) (v - nI 117).toNatClampNeg 1, op, 1, ps, sd, le))
    else if nI 97 ≤ v ∧ v ≤ nI 100 then (0, (tt, sn, vp_updL (fl_L fc 0 10) (nI 6 + v - nI 97).toNatClampNeg 1, op, 1, ps, sd, le))
    else if v = nI 49 then (0, (tt, sn, fl_L fc 0 10, op, 1, ps, sd, le)) else (1, (tt, sn, fl_L fc 0 10, op, ex, ps, sd, le))
def q_fig (v : Int32) : rT → Nat × rT
  | (tt, sn, fc, op, ex, ps, sd, le) => if nI 48 ≤ v ∧ v ≤ nI 57 then (0, (tt, sn, fg_s fc (ps * (v - nI 48)).toInt64 10, op, 4, ps, sd, le)) else (1, (tt, sn, fc, op, ex, ps, sd, le))
def q_put : rT → rT
  | (tt, sn, fc, op, ex, ps, sd, le) => (sl_u tt op (at_s (tt op) fc (sn op).toInt64 10), sn, fc, op, ex, ps, sd, le)
def q_join (s : Int32) : rT → rT
  | (tt, sn, fc, op, _, ps, sd, le) => (sl_u tt op (at_s (tt op) fc (sn op).toInt64 10), upd sn op s, fc, op, 0, ps, sd, le)
def q_close : rT → rT
  | (tt, sn, fc, op, _, ps, sd, le) => (sl_u tt op (at_s (tt op) fc (sn op).toInt64 10), sn, va_cpy (at_s (tt op) fc (sn op).toInt64 10) fc 0 0 10, op - 1, 1, ps, sd, le)
def q_jnt (v : Int32) : rT → Nat × rT
  | (tt, sn, fc, op, ex, ps, sd, le) => if v = nI 42 then (0, q_join (if op = 0 then sd else nI 1) (tt, sn, fc, op, ex, ps, sd, le))
    else if v = nI 47 then (0, q_join (-(if op = 0 then sd else nI 1)) (tt, sn, fc, op, ex, ps, sd, le))
    else if v = nI 41 ∧ 0 < op then (0, q_close (tt, sn, fc, op, ex, ps, sd, le))
    else if v = nI 61 ∧ op = 0 ∧ ¬ le = 0 then (0, q_join (-1) (tt, sn, fc, op, ex, ps, -1, 0)) else (1, (tt, sn, fc, op, ex, ps, sd, le))
def q_take (v : Int32) : rT → Nat × rT
  | (tt, sn, fc, op, ex, ps, sd, le) => if ex = 0 then q_atom v (tt, sn, fc, op, ex, ps, sd, le)
    else if ex = 1 then (if v = nI 94 then (0, (tt, sn, fc, op, 2, 1, sd, le)) else q_jnt v (tt, sn, fc, op, ex, ps, sd, le))
    else if ex = 2 then (if v = nI 45 then (0, (tt, sn, fc, op, 3, -1, sd, le)) else q_fig v (tt, sn, fc, op, ex, ps, sd, le))
    else if ex = 3 then q_fig v (tt, sn, fc, op, ex, ps, sd, le) else q_jnt v (tt, sn, fc, op, ex, ps, sd, le)
theorem c_q_open (l : Launch) (D : va_G) {dA : Nat → ClassId} {q : Nat} {tt : Nat → Nat → Int64} {sn : Nat → Int32} {fc : Nat → Int64} {op ex : Nat} {ps sd le pl : Int32} {h : xH} {sz : Nat} {Post : Option Value → xH → Nat → Prop} (ho : op < 7) (S : Rd dA h q tt sn fc op ex ps sd le pl) (hpost : ∀ (h1 : xH) (sz1 : Nat), RdT dA h1 q (q_open (tt, sn, fc, op, ex, ps, sd, le)).2 pl → xF q (q + 11) h h1 → Post (some (.int (nI (q_open (tt, sn, fc, op, ex, ps, sd, le)).1))) h1 sz1) : xMet l yX1_takeOpening wsX1_takeOpening 1 24 0 0 D dA [.ref q] h sz Post :=
  c_X1_takeOpening l D ho S (fun e => by
    have e1 : q_open (tt, sn, fc, op, ex, ps, sd, le) = (2, (tt, sn, fc, op, ex, ps, sd, le)) := if_neg e
    rw [e1] at hpost
    exact hpost _ _ S xF_rf) (fun e h1 sz1 S1 F => by
    have e1 : q_open (tt, sn, fc, op, ex, ps, sd, le) = (0, (sl_u tt (op + 1) (fl_L (tt (op + 1)) 0 10), upd sn (op + 1) 1, fc, op + 1, 0, ps, sd, le)) := if_pos e
    rw [e1] at hpost
    exact hpost _ _ S1 F) trivial
theorem c_q_fig (l : Launch) (D : va_G) {dA : Nat → ClassId} {q : Nat} {tt : Nat → Nat → Int64} {sn : Nat → Int32} {fc : Nat → Int64} {op ex : Nat} {ps sd le pl : Int32} {v : Int32} {h : xH} {sz : Nat} {Post : Option Value → xH → Nat → Prop} (S : Rd dA h q tt sn fc op ex ps sd le pl) (hpost : ∀ (h1 : xH) (sz1 : Nat), RdT dA h1 q (q_fig v (tt, sn, fc, op, ex, ps, sd, le)).2 pl → xF q (q + 11) h h1 → Post (some (.int (nI (q_fig v (tt, sn, fc, op, ex, ps, sd, le)).1))) h1 sz1) : xMet l yX1_takeFigure wsX1_takeFigure 0 0 0 0 D dA [.ref q, .int v] h sz Post :=
  c_X1_takeFigure l D S (fun e => by
    have e1 : q_fig v (tt, sn, fc, op, ex, ps, sd, le) = (1, (tt, sn, fc, op, ex, ps, sd, le)) := if_neg e
    rw [e1] at hpost
    exact hpost _ _ S xF_rf) (fun e h1 sz1 S1 F => by
    have e1 : q_fig v (tt, sn, fc, op, ex, ps, sd, le) = (0, (tt, sn, fg_s fc (ps * (v - nI 48)).toInt64 10, op, 4, ps, sd, le)) := if_pos e
    rw [e1] at hpost
    exact hpost _ _ S1 F) trivial
theorem inX1_takeAtom_1 : ∀ w ∈ wsX10, w ∈ wsX1_takeAtom := by decide +kernel
theorem at_in1 {v : Int32} (e : nI 117 ≤ v ∧ v ≤ nI 122) : vp_in (v - nI 117) 10 := by
  obtain ⟨k, h1, h2, rfl⟩ := in_nat2 (lo := 117) (hi := 122) (by decide) (by decide) e
  rw [pk_sub h1]
  exact vp_in_nI (by omega) (by decide)
theorem at_in2 {v : Int32} (e : nI 97 ≤ v ∧ v ≤ nI 100) : vp_in (nI 6 + v - nI 97) 10 := by
  obtain ⟨k, h1, h2, rfl⟩ := in_nat2 (lo := 97) (hi := 100) (by decide) (by decide) e
  rw [show nI 6 + nI k = nI (6 + k) by rw [nI_add], pk_sub (by omega)]
  exact vp_in_nI (by omega) (by decide)
set_option maxRecDepth 100000 in
set_option maxHeartbeats 4000000 in
/-- takeAtom -/
theorem c_X1_takeAtom (l : Launch) (D : va_G) {dA : Nat → ClassId} {q : Nat} {tt : Nat → Nat → Int64} {sn : Nat → Int32} {fc : Nat → Int64} {op ex : Nat} {ps sd le pl : Int32} {v : Int32} {h : xH} {sz : Nat} {Post : Option Value → xH → Nat → Prop} (ho : op < 7) (S : Rd dA h q tt sn fc op ex ps sd le pl) (hpost : ∀ (h1 : xH) (sz1 : Nat), RdT dA h1 q (q_atom v (tt, sn, fc, op, ex, ps, sd, le)).2 pl → xF q (q + 11) h h1 → Post (some (.int (nI (q_atom v (tt, sn, fc, op, ex, ps, sd, le)).1))) h1 sz1) : xMet l yX1_takeAtom wsX1_takeAtom 2 46 0 0 D dA [.ref q, .int v] h sz Post := by
  refine x_open (cc := cX1_takeAtom) (maxL := 2) (ret := (some .int)) (by decide) rfl (Nat.le_of_ble_eq_true rfl) ?_
  intro p e s m args below meth c G _
  have inX1 : ∀ w ∈ wsX10, w ∈ wsX1_takeAtom := inX1_takeAtom_1
  have F := xF_rf (lo := q) (hi := q + 11) (h := h)
  refine x_iload_n G dX1_takeAtom_0 rfl ?_
  refine x_bipushV (v := nI 40) G dX1_takeAtom_1 (by decide) ?_
  refine x_icmp_ne G 11 dX1_takeAtom_3 (by decide) (fun c_3 => ?_) (fun c_3 => ?_)
  · have e1 := c_3
    refine x_aload_n G dX1_takeAtom_11 rfl ?_
    refine x_get G kX1 inX1 2 (by decide) (by decide +kernel) dX1_takeAtom_12 (re_o S) rfl ?_
    refine x_lconstV (v := 0) G dX1_takeAtom_15 (by decide) ?_
    refine x_callS (n := 2) (rest := []) (As := [.ref (q + 10), .long 0]) G (c_fillL (Post := fun r7 h7 sz7 => r7 = none ∧ h7 = x_up h (q + 10) (.inl (dA 1, 10, .inr (.inl (fl_L fc 0 10)))) ∧ sz = sz7) l D (by decide) (re_f S) ⟨rfl, rfl, rfl⟩) gX1_takeAtom_J7_fill_d0a16 rfl ⟨by decide +kernel, by decide +kernel, by decide +kernel⟩ ⟨by decide, by decide⟩ dX1_takeAtom_16 rfl rfl (Nat.le_of_ble_eq_true rfl) ⟨by decide, by decide⟩ ?_
    rintro _ _ _ ⟨rfl, rfl, rfl⟩
    try dsimp only [Option.toList, List.cons_append, List.nil_append]
    replace S := re_fs S (fl_L fc 0 10)
    replace F := xF_up (a := q + 10) (e := .inl (dA 1, 10, .inr (.inl (fl_L fc 0 10)))) F (by omega) (by omega)
    refine x_iload_n G dX1_takeAtom_19 rfl ?_
    refine x_bipushV (v := nI 117) G dX1_takeAtom_20 (by decide) ?_
    refine x_icmp_lt G 44 dX1_takeAtom_22 (by decide) (fun c_22 => ?_) (fun c_22 => ?_)
    · have e2 : ¬ (nI 117 ≤ v ∧ v ≤ nI 122) := fun z => absurd z.1 (Int32.not_le.mpr c_22)
      refine x_iload_n G dX1_takeAtom_44 rfl ?_
      refine x_bipushV (v := nI 97) G dX1_takeAtom_45 (by decide) ?_
      refine x_icmp_lt G 72 dX1_takeAtom_47 (by decide) (fun c_47 => ?_) (fun c_47 => ?_)
      · have e3 : ¬ (nI 97 ≤ v ∧ v ≤ nI 100) := fun z => absurd z.1 (Int32.not_le.mpr c_47)
        refine x_iload_n G dX1_takeAtom_72 rfl ?_
        refine x_bipushV (v := nI 49) G dX1_takeAtom_73 (by decide) ?_
        refine x_icmp_eq G 80 dX1_takeAtom_75 (by decide) (fun c_75 => ?_) (fun c_75 => ?_)
        · have eq : q_atom v (tt, sn, fc, op, ex, ps, sd, le) = (0, (tt, sn, fl_L fc 0 10, op, 1, ps, sd, le)) := by
            show (if v = nI 40 then _ else _) = _
            rw [if_neg e1, if_neg e2, if_neg e3, if_pos c_75]
          rw [eq] at hpost
          refine x_aload_n G dX1_takeAtom_80 rfl ?_
          refine x_iconstV (v := nI 1) G dX1_takeAtom_81 (by decide) ?_
          refine x_put G kX1 inX1 4 (by decide) (by decide +kernel) rfl dX1_takeAtom_82 (re_o S) rfl rfl (Nat.le_of_ble_eq_true rfl) ?_
          replace S := re_os S op 1 ps sd le pl
          replace F := xF_up (a := q) (e := .inr (1, [.ref (q + 1), .ref (q + 9), .ref (q + 10), .int (nI (op)), .int (nI (1)), .int (ps), .int (sd), .int (le), .int (pl)])) F (by omega) (by omega)
          refine x_iconstV (v := nI 0) G dX1_takeAtom_85 (by decide) ?_
          exact x_iret G dX1_takeAtom_86 (hpost _ _ S F)
        · have eq : q_atom v (tt, sn, fc, op, ex, ps, sd, le) = (1, (tt, sn, fl_L fc 0 10, op, ex, ps, sd, le)) := by
            show (if v = nI 40 then _ else _) = _
            rw [if_neg e1, if_neg e2, if_neg e3, if_neg c_75]
          rw [eq] at hpost
          refine x_iconstV (v := nI 1) G dX1_takeAtom_78 (by decide) ?_
          exact x_iret G dX1_takeAtom_79 (hpost _ _ S F)
      · have e4 := Int32.not_lt.mp c_47
        refine x_iload_n G dX1_takeAtom_50 rfl ?_
        refine x_bipushV (v := nI 100) G dX1_takeAtom_51 (by decide) ?_
        refine x_icmp_gt G 72 dX1_takeAtom_53 (by decide) (fun c_53 => ?_) (fun c_53 => ?_)
        · have e3 : ¬ (nI 97 ≤ v ∧ v ≤ nI 100) := fun z => absurd z.2 (Int32.not_le.mpr c_53)
          refine x_iload_n G dX1_takeAtom_72 rfl ?_
          refine x_bipushV (v := nI 49) G dX1_takeAtom_73 (by decide) ?_
          refine x_icmp_eq G 80 dX1_takeAtom_75 (by decide) (fun c_75 => ?_) (fun c_75 => ?_)
          · have eq : q_atom v (tt, sn, fc, op, ex, ps, sd, le) = (0, (tt, sn, fl_L fc 0 10, op, 1, ps, sd, le)) := by
              show (if v = nI 40 then _ else _) = _
              rw [if_neg e1, if_neg e2, if_neg e3, if_pos c_75]
            rw [eq] at hpost
            refine x_aload_n G dX1_takeAtom_80 rfl ?_
            refine x_iconstV (v := nI 1) G dX1_takeAtom_81 (by decide) ?_
            refine x_put G kX1 inX1 4 (by decide) (by decide +kernel) rfl dX1_takeAtom_82 (re_o S) rfl rfl (Nat.le_of_ble_eq_true rfl) ?_
            replace S := re_os S op 1 ps sd le pl
            replace F := xF_up (a := q) (e := .inr (1, [.ref (q + 1), .ref (q + 9), .ref (q + 10), .int (nI (op)), .int (nI (1)), .int (ps), .int (sd), .int (le), .int (pl)])) F (by omega) (by omega)
            refine x_iconstV (v := nI 0) G dX1_takeAtom_85 (by decide) ?_
            exact x_iret G dX1_takeAtom_86 (hpost _ _ S F)
          · have eq : q_atom v (tt, sn, fc, op, ex, ps, sd, le) = (1, (tt, sn, fl_L fc 0 10, op, ex, ps, sd, le)) := by
              show (if v = nI 40 then _ else _) = _
              rw [if_neg e1, if_neg e2, if_neg e3, if_neg c_75]
            rw [eq] at hpost
            refine x_iconstV (v := nI 1) G dX1_takeAtom_78 (by decide) ?_
            exact x_iret G dX1_takeAtom_79 (hpost _ _ S F)
        · have e3 : nI 97 ≤ v ∧ v ≤ nI 100 := ⟨e4, Int32.not_lt.mp c_53⟩
          have eq : q_atom v (tt, sn, fc, op, ex, ps, sd, le) = (0, (tt, sn, vp_updL (fl_L fc 0 10) (nI 6 + v - nI 97).toNatClampNeg 1, op, 1, ps, sd, le)) := by
            show (if v = nI 40 then _ else _) = _
            rw [if_neg e1, if_neg e2, if_pos e3]
          rw [eq] at hpost
          refine x_aload_n G dX1_takeAtom_56 rfl ?_
          refine x_get G kX1 inX1 2 (by decide) (by decide +kernel) dX1_takeAtom_57 (re_o S) rfl ?_
          refine x_bipushV (v := nI 6) G dX1_takeAtom_60 (by decide) ?_
          refine x_iload_n G dX1_takeAtom_62 rfl ?_
          refine x_iadd G dX1_takeAtom_63 ?_
          refine x_bipushV (v := nI 97) G dX1_takeAtom_64 (by decide) ?_
          refine x_isub G dX1_takeAtom_66 ?_
          refine x_lconstV (v := 1) G dX1_takeAtom_67 (by decide) ?_
          refine x_last G dX1_takeAtom_68 (re_f S) (at_in2 e3) ?_
          replace S := re_fs S (vp_updL (fl_L fc 0 10) (nI 6 + v - nI 97).toNatClampNeg 1)
          replace F := xF_up (a := q + 10) (e := .inl (dA 1, 10, .inr (.inl (vp_updL (fl_L fc 0 10) (nI 6 + v - nI 97).toNatClampNeg 1)))) F (by omega) (by omega)
          refine x_goto G 80 dX1_takeAtom_69 (by decide) ?_
          refine x_aload_n G dX1_takeAtom_80 rfl ?_
          refine x_iconstV (v := nI 1) G dX1_takeAtom_81 (by decide) ?_
          refine x_put G kX1 inX1 4 (by decide) (by decide +kernel) rfl dX1_takeAtom_82 (re_o S) rfl rfl (Nat.le_of_ble_eq_true rfl) ?_
          replace S := re_os S op 1 ps sd le pl
          replace F := xF_up (a := q) (e := .inr (1, [.ref (q + 1), .ref (q + 9), .ref (q + 10), .int (nI (op)), .int (nI (1)), .int (ps), .int (sd), .int (le), .int (pl)])) F (by omega) (by omega)
          refine x_iconstV (v := nI 0) G dX1_takeAtom_85 (by decide) ?_
          exact x_iret G dX1_takeAtom_86 (hpost _ _ S F)
    · have e5 := Int32.not_lt.mp c_22
      refine x_iload_n G dX1_takeAtom_25 rfl ?_
      refine x_bipushV (v := nI 122) G dX1_takeAtom_26 (by decide) ?_
      refine x_icmp_gt G 44 dX1_takeAtom_28 (by decide) (fun c_28 => ?_) (fun c_28 => ?_)
      · have e2 : ¬ (nI 117 ≤ v ∧ v ≤ nI 122) := fun z => absurd z.2 (Int32.not_le.mpr c_28)
        refine x_iload_n G dX1_takeAtom_44 rfl ?_
        refine x_bipushV (v := nI 97) G dX1_takeAtom_45 (by decide) ?_
        refine x_icmp_lt G 72 dX1_takeAtom_47 (by decide) (fun c_47 => ?_) (fun c_47 => ?_)
        · have e3 : ¬ (nI 97 ≤ v ∧ v ≤ nI 100) := fun z => absurd z.1 (Int32.not_le.mpr c_47)
          refine x_iload_n G dX1_takeAtom_72 rfl ?_
          refine x_bipushV (v := nI 49) G dX1_takeAtom_73 (by decide) ?_
          refine x_icmp_eq G 80 dX1_takeAtom_75 (by decide) (fun c_75 => ?_) (fun c_75 => ?_)
          · have eq : q_atom v (tt, sn, fc, op, ex, ps, sd, le) = (0, (tt, sn, fl_L fc 0 10, op, 1, ps, sd, le)) := by
              show (if v = nI 40 then _ else _) = _
              rw [if_neg e1, if_neg e2, if_neg e3, if_pos c_75]
            rw [eq] at hpost
            refine x_aload_n G dX1_takeAtom_80 rfl ?_
            refine x_iconstV (v := nI 1) G dX1_takeAtom_81 (by decide) ?_
            refine x_put G kX1 inX1 4 (by decide) (by decide +kernel) rfl dX1_takeAtom_82 (re_o S) rfl rfl (Nat.le_of_ble_eq_true rfl) ?_
            replace S := re_os S op 1 ps sd le pl
            replace F := xF_up (a := q) (e := .inr (1, [.ref (q + 1), .ref (q + 9), .ref (q + 10), .int (nI (op)), .int (nI (1)), .int (ps), .int (sd), .int (le), .int (pl)])) F (by omega) (by omega)
            refine x_iconstV (v := nI 0) G dX1_takeAtom_85 (by decide) ?_
            exact x_iret G dX1_takeAtom_86 (hpost _ _ S F)
          · have eq : q_atom v (tt, sn, fc, op, ex, ps, sd, le) = (1, (tt, sn, fl_L fc 0 10, op, ex, ps, sd, le)) := by
              show (if v = nI 40 then _ else _) = _
              rw [if_neg e1, if_neg e2, if_neg e3, if_neg c_75]
            rw [eq] at hpost
            refine x_iconstV (v := nI 1) G dX1_takeAtom_78 (by decide) ?_
            exact x_iret G dX1_takeAtom_79 (hpost _ _ S F)
        · have e4 := Int32.not_lt.mp c_47
          refine x_iload_n G dX1_takeAtom_50 rfl ?_
          refine x_bipushV (v := nI 100) G dX1_takeAtom_51 (by decide) ?_
          refine x_icmp_gt G 72 dX1_takeAtom_53 (by decide) (fun c_53 => ?_) (fun c_53 => ?_)
          · have e3 : ¬ (nI 97 ≤ v ∧ v ≤ nI 100) := fun z => absurd z.2 (Int32.not_le.mpr c_53)
            refine x_iload_n G dX1_takeAtom_72 rfl ?_
            refine x_bipushV (v := nI 49) G dX1_takeAtom_73 (by decide) ?_
            refine x_icmp_eq G 80 dX1_takeAtom_75 (by decide) (fun c_75 => ?_) (fun c_75 => ?_)
            · have eq : q_atom v (tt, sn, fc, op, ex, ps, sd, le) = (0, (tt, sn, fl_L fc 0 10, op, 1, ps, sd, le)) := by
                show (if v = nI 40 then _ else _) = _
                rw [if_neg e1, if_neg e2, if_neg e3, if_pos c_75]
              rw [eq] at hpost
              refine x_aload_n G dX1_takeAtom_80 rfl ?_
              refine x_iconstV (v := nI 1) G dX1_takeAtom_81 (by decide) ?_
              refine x_put G kX1 inX1 4 (by decide) (by decide +kernel) rfl dX1_takeAtom_82 (re_o S) rfl rfl (Nat.le_of_ble_eq_true rfl) ?_
              replace S := re_os S op 1 ps sd le pl
              replace F := xF_up (a := q) (e := .inr (1, [.ref (q + 1), .ref (q + 9), .ref (q + 10), .int (nI (op)), .int (nI (1)), .int (ps), .int (sd), .int (le), .int (pl)])) F (by omega) (by omega)
              refine x_iconstV (v := nI 0) G dX1_takeAtom_85 (by decide) ?_
              exact x_iret G dX1_takeAtom_86 (hpost _ _ S F)
            · have eq : q_atom v (tt, sn, fc, op, ex, ps, sd, le) = (1, (tt, sn, fl_L fc 0 10, op, ex, ps, sd, le)) := by
                show (if v = nI 40 then _ else _) = _
                rw [if_neg e1, if_neg e2, if_neg e3, if_neg c_75]
              rw [eq] at hpost
              refine x_iconstV (v := nI 1) G dX1_takeAtom_78 (by decide) ?_
              exact x_iret G dX1_takeAtom_79 (hpost _ _ S F)
          · have e3 : nI 97 ≤ v ∧ v ≤ nI 100 := ⟨e4, Int32.not_lt.mp c_53⟩
            have eq : q_atom v (tt, sn, fc, op, ex, ps, sd, le) = (0, (tt, sn, vp_updL (fl_L fc 0 10) (nI 6 + v - nI 97).toNatClampNeg 1, op, 1, ps, sd, le)) := by
              show (if v = nI 40 then _ else _) = _
              rw [if_neg e1, if_neg e2, if_pos e3]
            rw [eq] at hpost
            refine x_aload_n G dX1_takeAtom_56 rfl ?_
            refine x_get G kX1 inX1 2 (by decide) (by decide +kernel) dX1_takeAtom_57 (re_o S) rfl ?_
            refine x_bipushV (v := nI 6) G dX1_takeAtom_60 (by decide) ?_
            refine x_iload_n G dX1_takeAtom_62 rfl ?_
            refine x_iadd G dX1_takeAtom_63 ?_
            refine x_bipushV (v := nI 97) G dX1_takeAtom_64 (by decide) ?_
            refine x_isub G dX1_takeAtom_66 ?_
            refine x_lconstV (v := 1) G dX1_takeAtom_67 (by decide) ?_
            refine x_last G dX1_takeAtom_68 (re_f S) (at_in2 e3) ?_
            replace S := re_fs S (vp_updL (fl_L fc 0 10) (nI 6 + v - nI 97).toNatClampNeg 1)
            replace F := xF_up (a := q + 10) (e := .inl (dA 1, 10, .inr (.inl (vp_updL (fl_L fc 0 10) (nI 6 + v - nI 97).toNatClampNeg 1)))) F (by omega) (by omega)
            refine x_goto G 80 dX1_takeAtom_69 (by decide) ?_
            refine x_aload_n G dX1_takeAtom_80 rfl ?_
            refine x_iconstV (v := nI 1) G dX1_takeAtom_81 (by decide) ?_
            refine x_put G kX1 inX1 4 (by decide) (by decide +kernel) rfl dX1_takeAtom_82 (re_o S) rfl rfl (Nat.le_of_ble_eq_true rfl) ?_
            replace S := re_os S op 1 ps sd le pl
            replace F := xF_up (a := q) (e := .inr (1, [.ref (q + 1), .ref (q + 9), .ref (q + 10), .int (nI (op)), .int (nI (1)), .int (ps), .int (sd), .int (le), .int (pl)])) F (by omega) (by omega)
            refine x_iconstV (v := nI 0) G dX1_takeAtom_85 (by decide) ?_
            exact x_iret G dX1_takeAtom_86 (hpost _ _ S F)
      · have e2 : nI 117 ≤ v ∧ v ≤ nI 122 := ⟨e5, Int32.not_lt.mp c_28⟩
        have eq : q_atom v (tt, sn, fc, op, ex, ps, sd, le) = (0, (tt, sn, vp_updL (fl_L fc 0 10) (v - nI 117).toNatClampNeg 1, op, 1, ps, sd, le)) := by
          show (if v = nI 40 then _ else _) = _
          rw [if_neg e1, if_pos e2]
        rw [eq] at hpost
        refine x_aload_n G dX1_takeAtom_31 rfl ?_
        refine x_get G kX1 inX1 2 (by decide) (by decide +kernel) dX1_takeAtom_32 (re_o S) rfl ?_
        refine x_iload_n G dX1_takeAtom_35 rfl ?_
        refine x_bipushV (v := nI 117) G dX1_takeAtom_36 (by decide) ?_
        refine x_isub G dX1_takeAtom_38 ?_
        refine x_lconstV (v := 1) G dX1_takeAtom_39 (by decide) ?_
        refine x_last G dX1_takeAtom_40 (re_f S) (at_in1 e2) ?_
        replace S := re_fs S (vp_updL (fl_L fc 0 10) (v - nI 117).toNatClampNeg 1)
        replace F := xF_up (a := q + 10) (e := .inl (dA 1, 10, .inr (.inl (vp_updL (fl_L fc 0 10) (v - nI 117).toNatClampNeg 1)))) F (by omega) (by omega)
        refine x_goto G 80 dX1_takeAtom_41 (by decide) ?_
        refine x_aload_n G dX1_takeAtom_80 rfl ?_
        refine x_iconstV (v := nI 1) G dX1_takeAtom_81 (by decide) ?_
        refine x_put G kX1 inX1 4 (by decide) (by decide +kernel) rfl dX1_takeAtom_82 (re_o S) rfl rfl (Nat.le_of_ble_eq_true rfl) ?_
        replace S := re_os S op 1 ps sd le pl
        replace F := xF_up (a := q) (e := .inr (1, [.ref (q + 1), .ref (q + 9), .ref (q + 10), .int (nI (op)), .int (nI (1)), .int (ps), .int (sd), .int (le), .int (pl)])) F (by omega) (by omega)
        refine x_iconstV (v := nI 0) G dX1_takeAtom_85 (by decide) ?_
        exact x_iret G dX1_takeAtom_86 (hpost _ _ S F)
  · have e1 := c_3
    have eq : q_atom v (tt, sn, fc, op, ex, ps, sd, le) = q_open (tt, sn, fc, op, ex, ps, sd, le) := if_pos e1
    rw [eq] at hpost
    refine x_aload_n G dX1_takeAtom_6 rfl ?_
    refine x_callV (n := 0) (rest := []) (As := []) G (ci := 1) (c_q_open (Post := fun r7 h7 sz7 => r7 = some (.int (nI (q_open (tt, sn, fc, op, ex, ps, sd, le)).1)) ∧ RdT dA h7 q (q_open (tt, sn, fc, op, ex, ps, sd, le)).2 pl ∧ xF q (q + 11) h h7) l D ho S (fun h7 sz7 q1 q2 => ⟨rfl, q1, q2⟩)) gX1_takeAtom_X1_takeOpening rfl ⟨rfl, by decide +kernel, by decide +kernel, by decide +kernel⟩ ⟨by decide, by decide⟩ rfl rfl (re_o S) dX1_takeAtom_7 rfl rfl (Nat.le_of_ble_eq_true rfl) ⟨by decide, by decide⟩ ?_
    rintro _ h2 sz2 ⟨rfl, S2, F2⟩
    try dsimp only [Option.toList, List.cons_append, List.nil_append]
    exact x_iret G dX1_takeAtom_10 (hpost _ _ S2 F2)
theorem inX1_takeJoint_1 : ∀ w ∈ wsX10, w ∈ wsX1_takeJoint := by decide +kernel
set_option maxRecDepth 100000 in
set_option maxHeartbeats 4000000 in
/-- takeJoint -/
theorem c_X1_takeJoint (l : Launch) (D : va_G) {dA : Nat → ClassId} {q : Nat} {tt : Nat → Nat → Int64} {sn : Nat → Int32} {fc : Nat → Int64} {op ex : Nat} {ps sd le pl : Int32} {v : Int32} {h : xH} {sz : Nat} {Post : Option Value → xH → Nat → Prop} (ho : op < 7) (S : Rd dA h q tt sn fc op ex ps sd le pl) (hpost : ∀ (h1 : xH) (sz1 : Nat), RdT dA h1 q (q_jnt v (tt, sn, fc, op, ex, ps, sd, le)).2 pl → xF q (q + 11) h h1 → Post (some (.int (nI (q_jnt v (tt, sn, fc, op, ex, ps, sd, le)).1))) h1 sz1) : xMet l yX1_takeJoint wsX1_takeJoint 2 60 0 0 D dA [.ref q, .int v] h sz Post := by
  refine x_open (cc := cX1_takeJoint) (maxL := 3) (ret := (some .int)) (by decide) rfl (Nat.le_of_ble_eq_true rfl) ?_
  intro p e s m args below meth c G _
  have inX1 : ∀ w ∈ wsX10, w ∈ wsX1_takeJoint := inX1_takeJoint_1
  have F := xF_rf (lo := q) (hi := q + 11) (h := h)
  refine x_aload_n G dX1_takeJoint_0 rfl ?_
  refine x_get G kX1 inX1 3 (by decide) (by decide +kernel) dX1_takeJoint_1 (re_o S) rfl ?_
  refine x_if_ne G 14 dX1_takeJoint_4 (by decide) (fun c_4 => ?_) (fun c_4 => ?_)
  · have eo : ¬ op = 0 := fun z => c_4 (by rw [z]; rfl)
    refine x_iconstV (v := nI 1) G dX1_takeJoint_14 (by decide) ?_
    refine x_topE (y := (if op = 0 then sd else nI 1)) (by first | (rw [if_pos eo]) | (rw [if_neg eo])) ?_
    refine x_istore_n G dX1_takeJoint_15 (by decide) ?_
    refine x_iload_n G dX1_takeJoint_16 rfl ?_
    refine x_bipushV (v := nI 42) G dX1_takeJoint_17 (by decide) ?_
    refine x_icmp_ne G 30 dX1_takeJoint_19 (by decide) (fun c_19 => ?_) (fun c_19 => ?_)
    · have e1 := c_19
      refine x_iload_n G dX1_takeJoint_30 rfl ?_
      refine x_bipushV (v := nI 47) G dX1_takeJoint_31 (by decide) ?_
      refine x_icmp_ne G 45 dX1_takeJoint_33 (by decide) (fun c_33 => ?_) (fun c_33 => ?_)
      · have e2 := c_33
        refine x_iload_n G dX1_takeJoint_45 rfl ?_
        refine x_bipushV (v := nI 41) G dX1_takeJoint_46 (by decide) ?_
        refine x_icmp_ne G 65 dX1_takeJoint_48 (by decide) (fun c_48 => ?_) (fun c_48 => ?_)
        · have e3 : ¬ (v = nI 41 ∧ 0 < op) := fun z => c_48 z.1
          refine x_iload_n G dX1_takeJoint_65 rfl ?_
          refine x_bipushV (v := nI 61) G dX1_takeJoint_66 (by decide) ?_
          refine x_icmp_ne G 106 dX1_takeJoint_68 (by decide) (fun c_68 => ?_) (fun c_68 => ?_)
          · have eq : q_jnt v (tt, sn, fc, op, ex, ps, sd, le) = (1, (tt, sn, fc, op, ex, ps, sd, le)) := by
              show (if v = nI 42 then _ else _) = _
              rw [if_neg e1, if_neg e2, if_neg e3, if_neg (fun z => c_68 z.1)]
            rw [eq] at hpost
            refine x_iconstV (v := nI 1) G dX1_takeJoint_106 (by decide) ?_
            exact x_iret G dX1_takeJoint_107 (hpost _ _ S F)
          · have e41 := c_68
            refine x_aload_n G dX1_takeJoint_71 rfl ?_
            refine x_get G kX1 inX1 3 (by decide) (by decide +kernel) dX1_takeJoint_72 (re_o S) rfl ?_
            refine x_if_ne G 106 dX1_takeJoint_75 (by decide) (fun c_75 => ?_) (fun c_75 => ?_)
            · have eq : q_jnt v (tt, sn, fc, op, ex, ps, sd, le) = (1, (tt, sn, fc, op, ex, ps, sd, le)) := by
                show (if v = nI 42 then _ else _) = _
                rw [if_neg e1, if_neg e2, if_neg e3, if_neg (fun z => c_75 (by rw [z.2.1]; rfl))]
              rw [eq] at hpost
              refine x_iconstV (v := nI 1) G dX1_takeJoint_106 (by decide) ?_
              exact x_iret G dX1_takeJoint_107 (hpost _ _ S F)
            · have e42 : op = 0 := by
                have z := congrArg Int32.toInt c_75
                rw [nI_toInt (by omega)] at z
                have z2 : (0 : Int32).toInt = 0 := by decide
                omega
              refine x_aload_n G dX1_takeJoint_78 rfl ?_
              refine x_get G kX1 inX1 7 (by decide) (by decide +kernel) dX1_takeJoint_79 (re_o S) rfl ?_
              refine x_if_eq G 106 dX1_takeJoint_82 (by decide) (fun c_82 => ?_) (fun c_82 => ?_)
              · have eq : q_jnt v (tt, sn, fc, op, ex, ps, sd, le) = (1, (tt, sn, fc, op, ex, ps, sd, le)) := by
                  show (if v = nI 42 then _ else _) = _
                  rw [if_neg e1, if_neg e2, if_neg e3, if_neg (fun z => z.2.2 c_82)]
                rw [eq] at hpost
                refine x_iconstV (v := nI 1) G dX1_takeJoint_106 (by decide) ?_
                exact x_iret G dX1_takeJoint_107 (hpost _ _ S F)
              · have eq : q_jnt v (tt, sn, fc, op, ex, ps, sd, le) = (0, q_join (-1) (tt, sn, fc, op, ex, ps, -1, 0)) := by
                  show (if v = nI 42 then _ else _) = _
                  rw [if_neg e1, if_neg e2, if_neg e3, if_pos ⟨e41, e42, c_82⟩]
                rw [eq] at hpost
                refine x_aload_n G dX1_takeJoint_85 rfl ?_
                refine x_iconstV (v := nI 0) G dX1_takeJoint_86 (by decide) ?_
                refine x_put G kX1 inX1 7 (by decide) (by decide +kernel) rfl dX1_takeJoint_87 (re_o S) rfl rfl (Nat.le_of_ble_eq_true rfl) ?_
                replace S := re_os S op ex ps sd 0 pl
                replace F := xF_up (a := q) (e := .inr (1, [.ref (q + 1), .ref (q + 9), .ref (q + 10), .int (nI (op)), .int (nI (ex)), .int (ps), .int (sd), .int (0), .int (pl)])) F (by omega) (by omega)
                refine x_aload_n G dX1_takeJoint_90 rfl ?_
                refine x_iconstV (v := (-1)) G dX1_takeJoint_91 (by decide) ?_
                refine x_put G kX1 inX1 6 (by decide) (by decide +kernel) rfl dX1_takeJoint_92 (re_o S) rfl rfl (Nat.le_of_ble_eq_true rfl) ?_
                replace S := re_os S op ex ps (-1) 0 pl
                replace F := xF_up (a := q) (e := .inr (1, [.ref (q + 1), .ref (q + 9), .ref (q + 10), .int (nI (op)), .int (nI (ex)), .int (ps), .int (-1), .int (0), .int (pl)])) F (by omega) (by omega)
                refine x_aload_n G dX1_takeJoint_95 rfl ?_
                refine x_aload_n G dX1_takeJoint_96 rfl ?_
                refine x_get G kX1 inX1 6 (by decide) (by decide +kernel) dX1_takeJoint_97 (re_o S) rfl ?_
                refine x_callV (n := 1) (rest := []) (As := [.int (-1)]) G (ci := 1) (c_X1_joinNext (Post := fun r7 h7 sz7 => r7 = none ∧ Rd dA h7 q (sl_u tt op (at_s (tt op) fc (sn op).toInt64 10)) (upd sn op (-1)) fc op 0 ps (-1) 0 pl ∧ xF q (q + 11) _ h7) l D ho S (fun h7 sz7 q1 q2 => ⟨rfl, q1, q2⟩)) gX1_takeJoint_X1_joinNext rfl ⟨rfl, by decide +kernel, by decide +kernel, by decide +kernel⟩ ⟨by decide, by decide⟩ rfl rfl (re_o S) dX1_takeJoint_100 rfl rfl (Nat.le_of_ble_eq_true rfl) ⟨by decide, by decide⟩ ?_
                rintro _ h2 sz2 ⟨rfl, S, F2⟩
                try dsimp only [Option.toList, List.cons_append, List.nil_append]
                replace F := xF_tr F F2
                refine x_goto G 108 dX1_takeJoint_103 (by decide) ?_
                refine x_iconstV (v := nI 0) G dX1_takeJoint_108 (by decide) ?_
                exact x_iret G dX1_takeJoint_109 (hpost _ _ S F)
        · have e31 := c_48
          refine x_aload_n G dX1_takeJoint_51 rfl ?_
          refine x_get G kX1 inX1 3 (by decide) (by decide +kernel) dX1_takeJoint_52 (re_o S) rfl ?_
          refine x_if_le G 65 dX1_takeJoint_55 (by decide) (fun c_55 => ?_) (fun c_55 => ?_)
          · have e3 : ¬ (v = nI 41 ∧ 0 < op) := fun z => absurd c_55 (by
              rw [show (0 : Int32) = nI 0 from rfl]
              exact nI_ge z.2 (by omega))
            refine x_iload_n G dX1_takeJoint_65 rfl ?_
            refine x_bipushV (v := nI 61) G dX1_takeJoint_66 (by decide) ?_
            refine x_icmp_ne G 106 dX1_takeJoint_68 (by decide) (fun c_68 => ?_) (fun c_68 => ?_)
            · have eq : q_jnt v (tt, sn, fc, op, ex, ps, sd, le) = (1, (tt, sn, fc, op, ex, ps, sd, le)) := by
                show (if v = nI 42 then _ else _) = _
                rw [if_neg e1, if_neg e2, if_neg e3, if_neg (fun z => c_68 z.1)]
              rw [eq] at hpost
              refine x_iconstV (v := nI 1) G dX1_takeJoint_106 (by decide) ?_
              exact x_iret G dX1_takeJoint_107 (hpost _ _ S F)
            · have e41 := c_68
              refine x_aload_n G dX1_takeJoint_71 rfl ?_
              refine x_get G kX1 inX1 3 (by decide) (by decide +kernel) dX1_takeJoint_72 (re_o S) rfl ?_
              refine x_if_ne G 106 dX1_takeJoint_75 (by decide) (fun c_75 => ?_) (fun c_75 => ?_)
              · have eq : q_jnt v (tt, sn, fc, op, ex, ps, sd, le) = (1, (tt, sn, fc, op, ex, ps, sd, le)) := by
                  show (if v = nI 42 then _ else _) = _
                  rw [if_neg e1, if_neg e2, if_neg e3, if_neg (fun z => c_75 (by rw [z.2.1]; rfl))]
                rw [eq] at hpost
                refine x_iconstV (v := nI 1) G dX1_takeJoint_106 (by decide) ?_
                exact x_iret G dX1_takeJoint_107 (hpost _ _ S F)
              · have e42 : op = 0 := by
                  have z := congrArg Int32.toInt c_75
                  rw [nI_toInt (by omega)] at z
                  have z2 : (0 : Int32).toInt = 0 := by decide
                  omega
                refine x_aload_n G dX1_takeJoint_78 rfl ?_
                refine x_get G kX1 inX1 7 (by decide) (by decide +kernel) dX1_takeJoint_79 (re_o S) rfl ?_
                refine x_if_eq G 106 dX1_takeJoint_82 (by decide) (fun c_82 => ?_) (fun c_82 => ?_)
                · have eq : q_jnt v (tt, sn, fc, op, ex, ps, sd, le) = (1, (tt, sn, fc, op, ex, ps, sd, le)) := by
                    show (if v = nI 42 then _ else _) = _
                    rw [if_neg e1, if_neg e2, if_neg e3, if_neg (fun z => z.2.2 c_82)]
                  rw [eq] at hpost
                  refine x_iconstV (v := nI 1) G dX1_takeJoint_106 (by decide) ?_
                  exact x_iret G dX1_takeJoint_107 (hpost _ _ S F)
                · have eq : q_jnt v (tt, sn, fc, op, ex, ps, sd, le) = (0, q_join (-1) (tt, sn, fc, op, ex, ps, -1, 0)) := by
                    show (if v = nI 42 then _ else _) = _
                    rw [if_neg e1, if_neg e2, if_neg e3, if_pos ⟨e41, e42, c_82⟩]
                  rw [eq] at hpost
                  refine x_aload_n G dX1_takeJoint_85 rfl ?_
                  refine x_iconstV (v := nI 0) G dX1_takeJoint_86 (by decide) ?_
                  refine x_put G kX1 inX1 7 (by decide) (by decide +kernel) rfl dX1_takeJoint_87 (re_o S) rfl rfl (Nat.le_of_ble_eq_true rfl) ?_
                  replace S := re_os S op ex ps sd 0 pl
                  replace F := xF_up (a := q) (e := .inr (1, [.ref (q + 1), .ref (q + 9), .ref (q + 10), .int (nI (op)), .int (nI (ex)), .int (ps), .int (sd), .int (0), .int (pl)])) F (by omega) (by omega)
                  refine x_aload_n G dX1_takeJoint_90 rfl ?_
                  refine x_iconstV (v := (-1)) G dX1_takeJoint_91 (by decide) ?_
                  refine x_put G kX1 inX1 6 (by decide) (by decide +kernel) rfl dX1_takeJoint_92 (re_o S) rfl rfl (Nat.le_of_ble_eq_true rfl) ?_
                  replace S := re_os S op ex ps (-1) 0 pl
                  replace F := xF_up (a := q) (e := .inr (1, [.ref (q + 1), .ref (q + 9), .ref (q + 10), .int (nI (op)), .int (nI (ex)), .int (ps), .int (-1), .int (0), .int (pl)])) F (by omega) (by omega)
                  refine x_aload_n G dX1_takeJoint_95 rfl ?_
                  refine x_aload_n G dX1_takeJoint_96 rfl ?_
                  refine x_get G kX1 inX1 6 (by decide) (by decide +kernel) dX1_takeJoint_97 (re_o S) rfl ?_
                  refine x_callV (n := 1) (rest := []) (As := [.int (-1)]) G (ci := 1) (c_X1_joinNext (Post := fun r7 h7 sz7 => r7 = none ∧ Rd dA h7 q (sl_u tt op (at_s (tt op) fc (sn op).toInt64 10)) (upd sn op (-1)) fc op 0 ps (-1) 0 pl ∧ xF q (q + 11) _ h7) l D ho S (fun h7 sz7 q1 q2 => ⟨rfl, q1, q2⟩)) gX1_takeJoint_X1_joinNext rfl ⟨rfl, by decide +kernel, by decide +kernel, by decide +kernel⟩ ⟨by decide, by decide⟩ rfl rfl (re_o S) dX1_takeJoint_100 rfl rfl (Nat.le_of_ble_eq_true rfl) ⟨by decide, by decide⟩ ?_
                  rintro _ h2 sz2 ⟨rfl, S, F2⟩
                  try dsimp only [Option.toList, List.cons_append, List.nil_append]
                  replace F := xF_tr F F2
                  refine x_goto G 108 dX1_takeJoint_103 (by decide) ?_
                  refine x_iconstV (v := nI 0) G dX1_takeJoint_108 (by decide) ?_
                  exact x_iret G dX1_takeJoint_109 (hpost _ _ S F)
          · have ho0 : 0 < op := by
              rcases Nat.eq_zero_or_pos op with z | z
              · exact absurd (by rw [z]; decide) c_55
              · exact z
            have eq : q_jnt v (tt, sn, fc, op, ex, ps, sd, le) = (0, q_close (tt, sn, fc, op, ex, ps, sd, le)) := by
              show (if v = nI 42 then _ else _) = _
              rw [if_neg e1, if_neg e2, if_pos ⟨e31, ho0⟩]
            rw [eq] at hpost
            refine x_aload_n G dX1_takeJoint_58 rfl ?_
            refine x_callV (n := 0) (rest := []) (As := []) G (ci := 1) (c_X1_takeClosing (Post := fun r7 h7 sz7 => r7 = none ∧ Rd dA h7 q (sl_u tt op (at_s (tt op) fc (sn op).toInt64 10)) sn (va_cpy (at_s (tt op) fc (sn op).toInt64 10) fc 0 0 10) (op - 1) 1 ps sd le pl ∧ xF q (q + 11) _ h7) l D ho ho0 S (fun h7 sz7 q1 q2 => ⟨rfl, q1, q2⟩)) gX1_takeJoint_X1_takeClosing rfl ⟨rfl, by decide +kernel, by decide +kernel, by decide +kernel⟩ ⟨by decide, by decide⟩ rfl rfl (re_o S) dX1_takeJoint_59 rfl rfl (Nat.le_of_ble_eq_true rfl) ⟨by decide, by decide⟩ ?_
            rintro _ h2 sz2 ⟨rfl, S, F2⟩
            try dsimp only [Option.toList, List.cons_append, List.nil_append]
            replace F := xF_tr F F2
            refine x_goto G 108 dX1_takeJoint_62 (by decide) ?_
            refine x_iconstV (v := nI 0) G dX1_takeJoint_108 (by decide) ?_
            exact x_iret G dX1_takeJoint_109 (hpost _ _ S F)
      · have eq : q_jnt v (tt, sn, fc, op, ex, ps, sd, le) = (0, q_join (-(if op = 0 then sd else nI 1)) (tt, sn, fc, op, ex, ps, sd, le)) := by
          show (if v = nI 42 then _ else _) = _
          rw [if_neg e1, if_pos c_33]
        rw [eq] at hpost
        refine x_aload_n G dX1_takeJoint_36 rfl ?_
        refine x_iload_n G dX1_takeJoint_37 rfl ?_
        refine x_ineg G dX1_takeJoint_38 ?_
        refine x_callV (n := 1) (rest := []) (As := [.int (-(if op = 0 then sd else nI 1))]) G (ci := 1) (c_X1_joinNext (Post := fun r7 h7 sz7 => r7 = none ∧ Rd dA h7 q (sl_u tt op (at_s (tt op) fc (sn op).toInt64 10)) (upd sn op (-(if op = 0 then sd else nI 1))) fc op 0 ps sd le pl ∧ xF q (q + 11) _ h7) l D ho S (fun h7 sz7 q1 q2 => ⟨rfl, q1, q2⟩)) gX1_takeJoint_X1_joinNext rfl ⟨rfl, by decide +kernel, by decide +kernel, by decide +kernel⟩ ⟨by decide, by decide⟩ rfl rfl (re_o S) dX1_takeJoint_39 rfl rfl (Nat.le_of_ble_eq_true rfl) ⟨by decide, by decide⟩ ?_
        rintro _ h2 sz2 ⟨rfl, S, F2⟩
        try dsimp only [Option.toList, List.cons_append, List.nil_append]
        replace F := xF_tr F F2
        refine x_goto G 108 dX1_takeJoint_42 (by decide) ?_
        refine x_iconstV (v := nI 0) G dX1_takeJoint_108 (by decide) ?_
        exact x_iret G dX1_takeJoint_109 (hpost _ _ S F)
    · have eq : q_jnt v (tt, sn, fc, op, ex, ps, sd, le) = (0, q_join (if op = 0 then sd else nI 1) (tt, sn, fc, op, ex, ps, sd, le)) := by
        show (if v = nI 42 then _ else _) = _
        rw [if_pos c_19]
      rw [eq] at hpost
      refine x_aload_n G dX1_takeJoint_22 rfl ?_
      refine x_iload_n G dX1_takeJoint_23 rfl ?_
      refine x_callV (n := 1) (rest := []) (As := [.int ((if op = 0 then sd else nI 1))]) G (ci := 1) (c_X1_joinNext (Post := fun r7 h7 sz7 => r7 = none ∧ Rd dA h7 q (sl_u tt op (at_s (tt op) fc (sn op).toInt64 10)) (upd sn op ((if op = 0 then sd else nI 1))) fc op 0 ps sd le pl ∧ xF q (q + 11) _ h7) l D ho S (fun h7 sz7 q1 q2 => ⟨rfl, q1, q2⟩)) gX1_takeJoint_X1_joinNext rfl ⟨rfl, by decide +kernel, by decide +kernel, by decide +kernel⟩ ⟨by decide, by decide⟩ rfl rfl (re_o S) dX1_takeJoint_24 rfl rfl (Nat.le_of_ble_eq_true rfl) ⟨by decide, by decide⟩ ?_
      rintro _ h2 sz2 ⟨rfl, S, F2⟩
      try dsimp only [Option.toList, List.cons_append, List.nil_append]
      replace F := xF_tr F F2
      refine x_goto G 108 dX1_takeJoint_27 (by decide) ?_
      refine x_iconstV (v := nI 0) G dX1_takeJoint_108 (by decide) ?_
      exact x_iret G dX1_takeJoint_109 (hpost _ _ S F)
  · have eo : op = 0 := by
      have z := congrArg Int32.toInt c_4
      rw [nI_toInt (by omega)] at z
      have z2 : (0 : Int32).toInt = 0 := by decide
      omega
    refine x_aload_n G dX1_takeJoint_7 rfl ?_
    refine x_get G kX1 inX1 6 (by decide) (by decide +kernel) dX1_takeJoint_8 (re_o S) rfl ?_
    refine x_goto G 15 dX1_takeJoint_11 (by decide) ?_
    refine x_topE (y := (if op = 0 then sd else nI 1)) (by first | (rw [if_pos eo]) | (rw [if_neg eo])) ?_
    refine x_istore_n G dX1_takeJoint_15 (by decide) ?_
    refine x_iload_n G dX1_takeJoint_16 rfl ?_
    refine x_bipushV (v := nI 42) G dX1_takeJoint_17 (by decide) ?_
    refine x_icmp_ne G 30 dX1_takeJoint_19 (by decide) (fun c_19 => ?_) (fun c_19 => ?_)
    · have e1 := c_19
      refine x_iload_n G dX1_takeJoint_30 rfl ?_
      refine x_bipushV (v := nI 47) G dX1_takeJoint_31 (by decide) ?_
      refine x_icmp_ne G 45 dX1_takeJoint_33 (by decide) (fun c_33 => ?_) (fun c_33 => ?_)
      · have e2 := c_33
        refine x_iload_n G dX1_takeJoint_45 rfl ?_
        refine x_bipushV (v := nI 41) G dX1_takeJoint_46 (by decide) ?_
        refine x_icmp_ne G 65 dX1_takeJoint_48 (by decide) (fun c_48 => ?_) (fun c_48 => ?_)
        · have e3 : ¬ (v = nI 41 ∧ 0 < op) := fun z => c_48 z.1
          refine x_iload_n G dX1_takeJoint_65 rfl ?_
          refine x_bipushV (v := nI 61) G dX1_takeJoint_66 (by decide) ?_
          refine x_icmp_ne G 106 dX1_takeJoint_68 (by decide) (fun c_68 => ?_) (fun c_68 => ?_)
          · have eq : q_jnt v (tt, sn, fc, op, ex, ps, sd, le) = (1, (tt, sn, fc, op, ex, ps, sd, le)) := by
              show (if v = nI 42 then _ else _) = _
              rw [if_neg e1, if_neg e2, if_neg e3, if_neg (fun z => c_68 z.1)]
            rw [eq] at hpost
            refine x_iconstV (v := nI 1) G dX1_takeJoint_106 (by decide) ?_
            exact x_iret G dX1_takeJoint_107 (hpost _ _ S F)
          · have e41 := c_68
            refine x_aload_n G dX1_takeJoint_71 rfl ?_
            refine x_get G kX1 inX1 3 (by decide) (by decide +kernel) dX1_takeJoint_72 (re_o S) rfl ?_
            refine x_if_ne G 106 dX1_takeJoint_75 (by decide) (fun c_75 => ?_) (fun c_75 => ?_)
            · have eq : q_jnt v (tt, sn, fc, op, ex, ps, sd, le) = (1, (tt, sn, fc, op, ex, ps, sd, le)) := by
                show (if v = nI 42 then _ else _) = _
                rw [if_neg e1, if_neg e2, if_neg e3, if_neg (fun z => c_75 (by rw [z.2.1]; rfl))]
              rw [eq] at hpost
              refine x_iconstV (v := nI 1) G dX1_takeJoint_106 (by decide) ?_
              exact x_iret G dX1_takeJoint_107 (hpost _ _ S F)
            · have e42 : op = 0 := by
                have z := congrArg Int32.toInt c_75
                rw [nI_toInt (by omega)] at z
                have z2 : (0 : Int32).toInt = 0 := by decide
                omega
              refine x_aload_n G dX1_takeJoint_78 rfl ?_
              refine x_get G kX1 inX1 7 (by decide) (by decide +kernel) dX1_takeJoint_79 (re_o S) rfl ?_
              refine x_if_eq G 106 dX1_takeJoint_82 (by decide) (fun c_82 => ?_) (fun c_82 => ?_)
              · have eq : q_jnt v (tt, sn, fc, op, ex, ps, sd, le) = (1, (tt, sn, fc, op, ex, ps, sd, le)) := by
                  show (if v = nI 42 then _ else _) = _
                  rw [if_neg e1, if_neg e2, if_neg e3, if_neg (fun z => z.2.2 c_82)]
                rw [eq] at hpost
                refine x_iconstV (v := nI 1) G dX1_takeJoint_106 (by decide) ?_
                exact x_iret G dX1_takeJoint_107 (hpost _ _ S F)
              · have eq : q_jnt v (tt, sn, fc, op, ex, ps, sd, le) = (0, q_join (-1) (tt, sn, fc, op, ex, ps, -1, 0)) := by
                  show (if v = nI 42 then _ else _) = _
                  rw [if_neg e1, if_neg e2, if_neg e3, if_pos ⟨e41, e42, c_82⟩]
                rw [eq] at hpost
                refine x_aload_n G dX1_takeJoint_85 rfl ?_
                refine x_iconstV (v := nI 0) G dX1_takeJoint_86 (by decide) ?_
                refine x_put G kX1 inX1 7 (by decide) (by decide +kernel) rfl dX1_takeJoint_87 (re_o S) rfl rfl (Nat.le_of_ble_eq_true rfl) ?_
                replace S := re_os S op ex ps sd 0 pl
                replace F := xF_up (a := q) (e := .inr (1, [.ref (q + 1), .ref (q + 9), .ref (q + 10), .int (nI (op)), .int (nI (ex)), .int (ps), .int (sd), .int (0), .int (pl)])) F (by omega) (by omega)
                refine x_aload_n G dX1_takeJoint_90 rfl ?_
                refine x_iconstV (v := (-1)) G dX1_takeJoint_91 (by decide) ?_
                refine x_put G kX1 inX1 6 (by decide) (by decide +kernel) rfl dX1_takeJoint_92 (re_o S) rfl rfl (Nat.le_of_ble_eq_true rfl) ?_
                replace S := re_os S op ex ps (-1) 0 pl
                replace F := xF_up (a := q) (e := .inr (1, [.ref (q + 1), .ref (q + 9), .ref (q + 10), .int (nI (op)), .int (nI (ex)), .int (ps), .int (-1), .int (0), .int (pl)])) F (by omega) (by omega)
                refine x_aload_n G dX1_takeJoint_95 rfl ?_
                refine x_aload_n G dX1_takeJoint_96 rfl ?_
                refine x_get G kX1 inX1 6 (by decide) (by decide +kernel) dX1_takeJoint_97 (re_o S) rfl ?_
                refine x_callV (n := 1) (rest := []) (As := [.int (-1)]) G (ci := 1) (c_X1_joinNext (Post := fun r7 h7 sz7 => r7 = none ∧ Rd dA h7 q (sl_u tt op (at_s (tt op) fc (sn op).toInt64 10)) (upd sn op (-1)) fc op 0 ps (-1) 0 pl ∧ xF q (q + 11) _ h7) l D ho S (fun h7 sz7 q1 q2 => ⟨rfl, q1, q2⟩)) gX1_takeJoint_X1_joinNext rfl ⟨rfl, by decide +kernel, by decide +kernel, by decide +kernel⟩ ⟨by decide, by decide⟩ rfl rfl (re_o S) dX1_takeJoint_100 rfl rfl (Nat.le_of_ble_eq_true rfl) ⟨by decide, by decide⟩ ?_
                rintro _ h2 sz2 ⟨rfl, S, F2⟩
                try dsimp only [Option.toList, List.cons_append, List.nil_append]
                replace F := xF_tr F F2
                refine x_goto G 108 dX1_takeJoint_103 (by decide) ?_
                refine x_iconstV (v := nI 0) G dX1_takeJoint_108 (by decide) ?_
                exact x_iret G dX1_takeJoint_109 (hpost _ _ S F)
        · have e31 := c_48
          refine x_aload_n G dX1_takeJoint_51 rfl ?_
          refine x_get G kX1 inX1 3 (by decide) (by decide +kernel) dX1_takeJoint_52 (re_o S) rfl ?_
          refine x_if_le G 65 dX1_takeJoint_55 (by decide) (fun c_55 => ?_) (fun c_55 => ?_)
          · have e3 : ¬ (v = nI 41 ∧ 0 < op) := fun z => absurd c_55 (by
              rw [show (0 : Int32) = nI 0 from rfl]
              exact nI_ge z.2 (by omega))
            refine x_iload_n G dX1_takeJoint_65 rfl ?_
            refine x_bipushV (v := nI 61) G dX1_takeJoint_66 (by decide) ?_
            refine x_icmp_ne G 106 dX1_takeJoint_68 (by decide) (fun c_68 => ?_) (fun c_68 => ?_)
            · have eq : q_jnt v (tt, sn, fc, op, ex, ps, sd, le) = (1, (tt, sn, fc, op, ex, ps, sd, le)) := by
                show (if v = nI 42 then _ else _) = _
                rw [if_neg e1, if_neg e2, if_neg e3, if_neg (fun z => c_68 z.1)]
              rw [eq] at hpost
              refine x_iconstV (v := nI 1) G dX1_takeJoint_106 (by decide) ?_
              exact x_iret G dX1_takeJoint_107 (hpost _ _ S F)
            · have e41 := c_68
              refine x_aload_n G dX1_takeJoint_71 rfl ?_
              refine x_get G kX1 inX1 3 (by decide) (by decide +kernel) dX1_takeJoint_72 (re_o S) rfl ?_
              refine x_if_ne G 106 dX1_takeJoint_75 (by decide) (fun c_75 => ?_) (fun c_75 => ?_)
              · have eq : q_jnt v (tt, sn, fc, op, ex, ps, sd, le) = (1, (tt, sn, fc, op, ex, ps, sd, le)) := by
                  show (if v = nI 42 then _ else _) = _
                  rw [if_neg e1, if_neg e2, if_neg e3, if_neg (fun z => c_75 (by rw [z.2.1]; rfl))]
                rw [eq] at hpost
                refine x_iconstV (v := nI 1) G dX1_takeJoint_106 (by decide) ?_
                exact x_iret G dX1_takeJoint_107 (hpost _ _ S F)
              · have e42 : op = 0 := by
                  have z := congrArg Int32.toInt c_75
                  rw [nI_toInt (by omega)] at z
                  have z2 : (0 : Int32).toInt = 0 := by decide
                  omega
                refine x_aload_n G dX1_takeJoint_78 rfl ?_
                refine x_get G kX1 inX1 7 (by decide) (by decide +kernel) dX1_takeJoint_79 (re_o S) rfl ?_
                refine x_if_eq G 106 dX1_takeJoint_82 (by decide) (fun c_82 => ?_) (fun c_82 => ?_)
                · have eq : q_jnt v (tt, sn, fc, op, ex, ps, sd, le) = (1, (tt, sn, fc, op, ex, ps, sd, le)) := by
                    show (if v = nI 42 then _ else _) = _
                    rw [if_neg e1, if_neg e2, if_neg e3, if_neg (fun z => z.2.2 c_82)]
                  rw [eq] at hpost
                  refine x_iconstV (v := nI 1) G dX1_takeJoint_106 (by decide) ?_
                  exact x_iret G dX1_takeJoint_107 (hpost _ _ S F)
                · have eq : q_jnt v (tt, sn, fc, op, ex, ps, sd, le) = (0, q_join (-1) (tt, sn, fc, op, ex, ps, -1, 0)) := by
                    show (if v = nI 42 then _ else _) = _
                    rw [if_neg e1, if_neg e2, if_neg e3, if_pos ⟨e41, e42, c_82⟩]
                  rw [eq] at hpost
                  refine x_aload_n G dX1_takeJoint_85 rfl ?_
                  refine x_iconstV (v := nI 0) G dX1_takeJoint_86 (by decide) ?_
                  refine x_put G kX1 inX1 7 (by decide) (by decide +kernel) rfl dX1_takeJoint_87 (re_o S) rfl rfl (Nat.le_of_ble_eq_true rfl) ?_
                  replace S := re_os S op ex ps sd 0 pl
                  replace F := xF_up (a := q) (e := .inr (1, [.ref (q + 1), .ref (q + 9), .ref (q + 10), .int (nI (op)), .int (nI (ex)), .int (ps), .int (sd), .int (0), .int (pl)])) F (by omega) (by omega)
                  refine x_aload_n G dX1_takeJoint_90 rfl ?_
                  refine x_iconstV (v := (-1)) G dX1_takeJoint_91 (by decide) ?_
                  refine x_put G kX1 inX1 6 (by decide) (by decide +kernel) rfl dX1_takeJoint_92 (re_o S) rfl rfl (Nat.le_of_ble_eq_true rfl) ?_
                  replace S := re_os S op ex ps (-1) 0 pl
                  replace F := xF_up (a := q) (e := .inr (1, [.ref (q + 1), .ref (q + 9), .ref (q + 10), .int (nI (op)), .int (nI (ex)), .int (ps), .int (-1), .int (0), .int (pl)])) F (by omega) (by omega)
                  refine x_aload_n G dX1_takeJoint_95 rfl ?_
                  refine x_aload_n G dX1_takeJoint_96 rfl ?_
                  refine x_get G kX1 inX1 6 (by decide) (by decide +kernel) dX1_takeJoint_97 (re_o S) rfl ?_
                  refine x_callV (n := 1) (rest := []) (As := [.int (-1)]) G (ci := 1) (c_X1_joinNext (Post := fun r7 h7 sz7 => r7 = none ∧ Rd dA h7 q (sl_u tt op (at_s (tt op) fc (sn op).toInt64 10)) (upd sn op (-1)) fc op 0 ps (-1) 0 pl ∧ xF q (q + 11) _ h7) l D ho S (fun h7 sz7 q1 q2 => ⟨rfl, q1, q2⟩)) gX1_takeJoint_X1_joinNext rfl ⟨rfl, by decide +kernel, by decide +kernel, by decide +kernel⟩ ⟨by decide, by decide⟩ rfl rfl (re_o S) dX1_takeJoint_100 rfl rfl (Nat.le_of_ble_eq_true rfl) ⟨by decide, by decide⟩ ?_
                  rintro _ h2 sz2 ⟨rfl, S, F2⟩
                  try dsimp only [Option.toList, List.cons_append, List.nil_append]
                  replace F := xF_tr F F2
                  refine x_goto G 108 dX1_takeJoint_103 (by decide) ?_
                  refine x_iconstV (v := nI 0) G dX1_takeJoint_108 (by decide) ?_
                  exact x_iret G dX1_takeJoint_109 (hpost _ _ S F)
          · have ho0 : 0 < op := by
              rcases Nat.eq_zero_or_pos op with z | z
              · exact absurd (by rw [z]; decide) c_55
              · exact z
            have eq : q_jnt v (tt, sn, fc, op, ex, ps, sd, le) = (0, q_close (tt, sn, fc, op, ex, ps, sd, le)) := by
              show (if v = nI 42 then _ else _) = _
              rw [if_neg e1, if_neg e2, if_pos ⟨e31, ho0⟩]
            rw [eq] at hpost
            refine x_aload_n G dX1_takeJoint_58 rfl ?_
            refine x_callV (n := 0) (rest := []) (As := []) G (ci := 1) (c_X1_takeClosing (Post := fun r7 h7 sz7 => r7 = none ∧ Rd dA h7 q (sl_u tt op (at_s (tt op) fc (sn op).toInt64 10)) sn (va_cpy (at_s (tt op) fc (sn op).toInt64 10) fc 0 0 10) (op - 1) 1 ps sd le pl ∧ xF q (q + 11) _ h7) l D ho ho0 S (fun h7 sz7 q1 q2 => ⟨rfl, q1, q2⟩)) gX1_takeJoint_X1_takeClosing rfl ⟨rfl, by decide +kernel, by decide +kernel, by decide +kernel⟩ ⟨by decide, by decide⟩ rfl rfl (re_o S) dX1_takeJoint_59 rfl rfl (Nat.le_of_ble_eq_true rfl) ⟨by decide, by decide⟩ ?_
            rintro _ h2 sz2 ⟨rfl, S, F2⟩
            try dsimp only [Option.toList, List.cons_append, List.nil_append]
            replace F := xF_tr F F2
            refine x_goto G 108 dX1_takeJoint_62 (by decide) ?_
            refine x_iconstV (v := nI 0) G dX1_takeJoint_108 (by decide) ?_
            exact x_iret G dX1_takeJoint_109 (hpost _ _ S F)
      · have eq : q_jnt v (tt, sn, fc, op, ex, ps, sd, le) = (0, q_join (-(if op = 0 then sd else nI 1)) (tt, sn, fc, op, ex, ps, sd, le)) := by
          show (if v = nI 42 then _ else _) = _
          rw [if_neg e1, if_pos c_33]
        rw [eq] at hpost
        refine x_aload_n G dX1_takeJoint_36 rfl ?_
        refine x_iload_n G dX1_takeJoint_37 rfl ?_
        refine x_ineg G dX1_takeJoint_38 ?_
        refine x_callV (n := 1) (rest := []) (As := [.int (-(if op = 0 then sd else nI 1))]) G (ci := 1) (c_X1_joinNext (Post := fun r7 h7 sz7 => r7 = none ∧ Rd dA h7 q (sl_u tt op (at_s (tt op) fc (sn op).toInt64 10)) (upd sn op (-(if op = 0 then sd else nI 1))) fc op 0 ps sd le pl ∧ xF q (q + 11) _ h7) l D ho S (fun h7 sz7 q1 q2 => ⟨rfl, q1, q2⟩)) gX1_takeJoint_X1_joinNext rfl ⟨rfl, by decide +kernel, by decide +kernel, by decide +kernel⟩ ⟨by decide, by decide⟩ rfl rfl (re_o S) dX1_takeJoint_39 rfl rfl (Nat.le_of_ble_eq_true rfl) ⟨by decide, by decide⟩ ?_
        rintro _ h2 sz2 ⟨rfl, S, F2⟩
        try dsimp only [Option.toList, List.cons_append, List.nil_append]
        replace F := xF_tr F F2
        refine x_goto G 108 dX1_takeJoint_42 (by decide) ?_
        refine x_iconstV (v := nI 0) G dX1_takeJoint_108 (by decide) ?_
        exact x_iret G dX1_takeJoint_109 (hpost _ _ S F)
    · have eq : q_jnt v (tt, sn, fc, op, ex, ps, sd, le) = (0, q_join (if op = 0 then sd else nI 1) (tt, sn, fc, op, ex, ps, sd, le)) := by
        show (if v = nI 42 then _ else _) = _
        rw [if_pos c_19]
      rw [eq] at hpost
      refine x_aload_n G dX1_takeJoint_22 rfl ?_
      refine x_iload_n G dX1_takeJoint_23 rfl ?_
      refine x_callV (n := 1) (rest := []) (As := [.int ((if op = 0 then sd else nI 1))]) G (ci := 1) (c_X1_joinNext (Post := fun r7 h7 sz7 => r7 = none ∧ Rd dA h7 q (sl_u tt op (at_s (tt op) fc (sn op).toInt64 10)) (upd sn op ((if op = 0 then sd else nI 1))) fc op 0 ps sd le pl ∧ xF q (q + 11) _ h7) l D ho S (fun h7 sz7 q1 q2 => ⟨rfl, q1, q2⟩)) gX1_takeJoint_X1_joinNext rfl ⟨rfl, by decide +kernel, by decide +kernel, by decide +kernel⟩ ⟨by decide, by decide⟩ rfl rfl (re_o S) dX1_takeJoint_24 rfl rfl (Nat.le_of_ble_eq_true rfl) ⟨by decide, by decide⟩ ?_
      rintro _ h2 sz2 ⟨rfl, S, F2⟩
      try dsimp only [Option.toList, List.cons_append, List.nil_append]
      replace F := xF_tr F F2
      refine x_goto G 108 dX1_takeJoint_27 (by decide) ?_
      refine x_iconstV (v := nI 0) G dX1_takeJoint_108 (by decide) ?_
      exact x_iret G dX1_takeJoint_109 (hpost _ _ S F)
theorem inX1_take_1 : ∀ w ∈ wsX10, w ∈ wsX1_take := by decide +kernel
set_option maxRecDepth 100000 in
set_option maxHeartbeats 4000000 in
/-- take -/
theorem c_X1_take (l : Launch) (D : va_G) {dA : Nat → ClassId} {q : Nat} {tt : Nat → Nat → Int64} {sn : Nat → Int32} {fc : Nat → Int64} {op ex : Nat} {ps sd le pl : Int32} {v : Int32} {h : xH} {sz : Nat} {Post : Option Value → xH → Nat → Prop} (ho : op < 7) (he : ex < 5) (S : Rd dA h q tt sn fc op ex ps sd le pl) (hpost : ∀ (h1 : xH) (sz1 : Nat), RdT dA h1 q (q_take v (tt, sn, fc, op, ex, ps, sd, le)).2 pl → xF q (q + 11) h h1 → Post (some (.int (nI (q_take v (tt, sn, fc, op, ex, ps, sd, le)).1))) h1 sz1) : xMet l yX1_take wsX1_take 3 84 0 0 D dA [.ref q, .int v] h sz Post := by
  refine x_open (cc := cX1_take) (maxL := 2) (ret := (some .int)) (by decide) rfl (Nat.le_of_ble_eq_true rfl) ?_
  intro p e s m args below meth c G _
  have inX1 : ∀ w ∈ wsX10, w ∈ wsX1_take := inX1_take_1
  have F := xF_rf (lo := q) (hi := q + 11) (h := h)
  refine x_aload_n G dX1_take_0 rfl ?_
  refine x_get G kX1 inX1 4 (by decide) (by decide +kernel) dX1_take_1 (re_o S) rfl ?_
  rcases (show ex = 0 ∨ ex = 1 ∨ ex = 2 ∨ ex = 3 ∨ ex = 4 by omega) with rfl | rfl | rfl | rfl | rfl
  · refine x_tableIn (off := 32) G 36 dX1_take_4 (by decide) (by decide) (by decide) (by decide) ?_
    have eq : q_take v (tt, sn, fc, op, 0, ps, sd, le) = q_atom v (tt, sn, fc, op, 0, ps, sd, le) := by
      unfold q_take
      dsimp only
      rw [if_pos rfl]
    rw [eq] at hpost
    refine x_aload_n G dX1_take_36 rfl ?_
    refine x_iload_n G dX1_take_37 rfl ?_
    refine x_callV (n := 1) (rest := []) (As := [.int v]) G (ci := 1) (c_X1_takeAtom (Post := fun r7 h7 sz7 => r7 = some (.int (nI (q_atom v (tt, sn, fc, op, 0, ps, sd, le)).1)) ∧ RdT dA h7 q (q_atom v (tt, sn, fc, op, 0, ps, sd, le)).2 pl ∧ xF q (q + 11) h h7) l D ho S (fun h7 sz7 q1 q2 => ⟨rfl, q1, q2⟩)) gX1_take_X1_takeAtom rfl ⟨rfl, by decide +kernel, by decide +kernel, by decide +kernel⟩ ⟨by decide, by decide⟩ rfl rfl (re_o S) dX1_take_38 rfl rfl (Nat.le_of_ble_eq_true rfl) ⟨by decide, by decide⟩ ?_
    rintro _ h2 sz2 ⟨rfl, S2, F2⟩
    try dsimp only [Option.toList, List.cons_append, List.nil_append]
    exact x_iret G dX1_take_41 (hpost _ _ S2 F2)
  · refine x_tableIn (off := 38) G 42 dX1_take_4 (by decide) (by decide) (by decide) (by decide) ?_
    refine x_iload_n G dX1_take_42 rfl ?_
    refine x_bipushV (v := nI 94) G dX1_take_43 (by decide) ?_
    refine x_icmp_ne G 60 dX1_take_45 (by decide) (fun c_45 => ?_) (fun c_45 => ?_)
    · have eq : q_take v (tt, sn, fc, op, 1, ps, sd, le) = q_jnt v (tt, sn, fc, op, 1, ps, sd, le) := by
        unfold q_take
        dsimp only
        rw [if_neg (by decide), if_pos rfl, if_neg c_45]
      rw [eq] at hpost
      refine x_aload_n G dX1_take_60 rfl ?_
      refine x_iload_n G dX1_take_61 rfl ?_
      refine x_callV (n := 1) (rest := []) (As := [.int v]) G (ci := 1) (c_X1_takeJoint (Post := fun r7 h7 sz7 => r7 = some (.int (nI (q_jnt v (tt, sn, fc, op, 1, ps, sd, le)).1)) ∧ RdT dA h7 q (q_jnt v (tt, sn, fc, op, 1, ps, sd, le)).2 pl ∧ xF q (q + 11) h h7) l D ho S (fun h7 sz7 q1 q2 => ⟨rfl, q1, q2⟩)) gX1_take_X1_takeJoint rfl ⟨rfl, by decide +kernel, by decide +kernel, by decide +kernel⟩ ⟨by decide, by decide⟩ rfl rfl (re_o S) dX1_take_62 rfl rfl (Nat.le_of_ble_eq_true rfl) ⟨by decide, by decide⟩ ?_
      rintro _ h2 sz2 ⟨rfl, S2, F2⟩
      try dsimp only [Option.toList, List.cons_append, List.nil_append]
      exact x_iret G dX1_take_65 (hpost _ _ S2 F2)
    · have eq : q_take v (tt, sn, fc, op, 1, ps, sd, le) = (0, (tt, sn, fc, op, 2, 1, sd, le)) := by
        unfold q_take
        dsimp only
        rw [if_neg (by decide), if_pos rfl, if_pos c_45]
      rw [eq] at hpost
      refine x_aload_n G dX1_take_48 rfl ?_
      refine x_iconstV (v := nI 2) G dX1_take_49 (by decide) ?_
      refine x_put G kX1 inX1 4 (by decide) (by decide +kernel) rfl dX1_take_50 (re_o S) rfl rfl (Nat.le_of_ble_eq_true rfl) ?_
      replace S := re_os S op 2 ps sd le pl
      replace F := xF_up (a := q) (e := .inr (1, [.ref (q + 1), .ref (q + 9), .ref (q + 10), .int (nI (op)), .int (nI (2)), .int (ps), .int (sd), .int (le), .int (pl)])) F (by omega) (by omega)
      refine x_aload_n G dX1_take_53 rfl ?_
      refine x_iconstV (v := nI 1) G dX1_take_54 (by decide) ?_
      refine x_put G kX1 inX1 5 (by decide) (by decide +kernel) rfl dX1_take_55 (re_o S) rfl rfl (Nat.le_of_ble_eq_true rfl) ?_
      replace S := re_os S op 2 1 sd le pl
      replace F := xF_up (a := q) (e := .inr (1, [.ref (q + 1), .ref (q + 9), .ref (q + 10), .int (nI (op)), .int (nI (2)), .int (1), .int (sd), .int (le), .int (pl)])) F (by omega) (by omega)
      refine x_iconstV (v := nI 0) G dX1_take_58 (by decide) ?_
      exact x_iret G dX1_take_59 (hpost _ _ S F)
  · refine x_tableIn (off := 62) G 66 dX1_take_4 (by decide) (by decide) (by decide) (by decide) ?_
    refine x_iload_n G dX1_take_66 rfl ?_
    refine x_bipushV (v := nI 45) G dX1_take_67 (by decide) ?_
    refine x_icmp_ne G 84 dX1_take_69 (by decide) (fun c_69 => ?_) (fun c_69 => ?_)
    · have eq : q_take v (tt, sn, fc, op, 2, ps, sd, le) = q_fig v (tt, sn, fc, op, 2, ps, sd, le) := by
        unfold q_take
        dsimp only
        rw [if_neg (by decide), if_neg (by decide), if_pos rfl, if_neg c_69]
      rw [eq] at hpost
      refine x_aload_n G dX1_take_84 rfl ?_
      refine x_iload_n G dX1_take_85 rfl ?_
      refine x_callV (n := 1) (rest := []) (As := [.int v]) G (ci := 1) (c_q_fig (Post := fun r7 h7 sz7 => r7 = some (.int (nI (q_fig v (tt, sn, fc, op, 2, ps, sd, le)).1)) ∧ RdT dA h7 q (q_fig v (tt, sn, fc, op, 2, ps, sd, le)).2 pl ∧ xF q (q + 11) h h7) l D S (fun h7 sz7 q1 q2 => ⟨rfl, q1, q2⟩)) gX1_take_X1_takeFigure rfl ⟨rfl, by decide +kernel, by decide +kernel, by decide +kernel⟩ ⟨by decide, by decide⟩ rfl rfl (re_o S) dX1_take_86 rfl rfl (Nat.le_of_ble_eq_true rfl) ⟨by decide, by decide⟩ ?_
      rintro _ h2 sz2 ⟨rfl, S2, F2⟩
      try dsimp only [Option.toList, List.cons_append, List.nil_append]
      exact x_iret G dX1_take_89 (hpost _ _ S2 F2)
    · have eq : q_take v (tt, sn, fc, op, 2, ps, sd, le) = (0, (tt, sn, fc, op, 3, -1, sd, le)) := by
        unfold q_take
        dsimp only
        rw [if_neg (by decide), if_neg (by decide), if_pos rfl, if_pos c_69]
      rw [eq] at hpost
      refine x_aload_n G dX1_take_72 rfl ?_
      refine x_iconstV (v := nI 3) G dX1_take_73 (by decide) ?_
      refine x_put G kX1 inX1 4 (by decide) (by decide +kernel) rfl dX1_take_74 (re_o S) rfl rfl (Nat.le_of_ble_eq_true rfl) ?_
      replace S := re_os S op 3 ps sd le pl
      replace F := xF_up (a := q) (e := .inr (1, [.ref (q + 1), .ref (q + 9), .ref (q + 10), .int (nI (op)), .int (nI (3)), .int (ps), .int (sd), .int (le), .int (pl)])) F (by omega) (by omega)
      refine x_aload_n G dX1_take_77 rfl ?_
      refine x_iconstV (v := (-1)) G dX1_take_78 (by decide) ?_
      refine x_put G kX1 inX1 5 (by decide) (by decide +kernel) rfl dX1_take_79 (re_o S) rfl rfl (Nat.le_of_ble_eq_true rfl) ?_
      replace S := re_os S op 3 (-1) sd le pl
      replace F := xF_up (a := q) (e := .inr (1, [.ref (q + 1), .ref (q + 9), .ref (q + 10), .int (nI (op)), .int (nI (3)), .int (-1), .int (sd), .int (le), .int (pl)])) F (by omega) (by omega)
      refine x_iconstV (v := nI 0) G dX1_take_82 (by decide) ?_
      exact x_iret G dX1_take_83 (hpost _ _ S F)
  · refine x_tableIn (off := 86) G 90 dX1_take_4 (by decide) (by decide) (by decide) (by decide) ?_
    have eq : q_take v (tt, sn, fc, op, 3, ps, sd, le) = q_fig v (tt, sn, fc, op, 3, ps, sd, le) := by
      unfold q_take
      dsimp only
      rw [if_neg (by decide), if_neg (by decide), if_neg (by decide), if_pos rfl]
    rw [eq] at hpost
    refine x_aload_n G dX1_take_90 rfl ?_
    refine x_iload_n G dX1_take_91 rfl ?_
    refine x_callV (n := 1) (rest := []) (As := [.int v]) G (ci := 1) (c_q_fig (Post := fun r7 h7 sz7 => r7 = some (.int (nI (q_fig v (tt, sn, fc, op, 3, ps, sd, le)).1)) ∧ RdT dA h7 q (q_fig v (tt, sn, fc, op, 3, ps, sd, le)).2 pl ∧ xF q (q + 11) h h7) l D S (fun h7 sz7 q1 q2 => ⟨rfl, q1, q2⟩)) gX1_take_X1_takeFigure rfl ⟨rfl, by decide +kernel, by decide +kernel, by decide +kernel⟩ ⟨by decide, by decide⟩ rfl rfl (re_o S) dX1_take_92 rfl rfl (Nat.le_of_ble_eq_true rfl) ⟨by decide, by decide⟩ ?_
    rintro _ h2 sz2 ⟨rfl, S2, F2⟩
    try dsimp only [Option.toList, List.cons_append, List.nil_append]
    exact x_iret G dX1_take_95 (hpost _ _ S2 F2)
  · refine x_tableOut G 96 dX1_take_4 (by decide) (by decide) ?_
    have eq : q_take v (tt, sn, fc, op, 4, ps, sd, le) = q_jnt v (tt, sn, fc, op, 4, ps, sd, le) := by
      unfold q_take
      dsimp only
      rw [if_neg (by decide), if_neg (by decide), if_neg (by decide), if_neg (by decide)]
    rw [eq] at hpost
    refine x_aload_n G dX1_take_96 rfl ?_
    refine x_iload_n G dX1_take_97 rfl ?_
    refine x_callV (n := 1) (rest := []) (As := [.int v]) G (ci := 1) (c_X1_takeJoint (Post := fun r7 h7 sz7 => r7 = some (.int (nI (q_jnt v (tt, sn, fc, op, 4, ps, sd, le)).1)) ∧ RdT dA h7 q (q_jnt v (tt, sn, fc, op, 4, ps, sd, le)).2 pl ∧ xF q (q + 11) h h7) l D ho S (fun h7 sz7 q1 q2 => ⟨rfl, q1, q2⟩)) gX1_take_X1_takeJoint rfl ⟨rfl, by decide +kernel, by decide +kernel, by decide +kernel⟩ ⟨by decide, by decide⟩ rfl rfl (re_o S) dX1_take_98 rfl rfl (Nat.le_of_ble_eq_true rfl) ⟨by decide, by decide⟩ ?_
    rintro _ h2 sz2 ⟨rfl, S2, F2⟩
    try dsimp only [Option.toList, List.cons_append, List.nil_append]
    exact x_iret G dX1_take_101 (hpost _ _ S2 F2)
