theorem inX5_feed_5 : ∀ w ∈ wsX50, w ∈ wsX5_feed := by decide +kernel
def OUTS : Int32 := -1000000002
def UNKN : Int32 := -1000000001
def NOTT : Int32 := -1000000003
def FULL : Int32 := -1000000004
def r_feed (x : Int32) (ln : Nat) : Int32 := if ¬ (nI 0 ≤ x ∧ x ≤ nI 255) then OUTS else if ln = 60 then FULL else nI (ln + 1)
set_option maxRecDepth 100000 in
set_option maxHeartbeats 4000000 in
/-- feed -/
theorem c_feed (l : Launch) (D : va_G) {dA : Nat → ClassId} {b n : Nat} {x : Int32} {tx : Nat → Int32} {fa : Int32} {st : Nat → Int32} {de : Nat → Int32} {dm : Int32} {sd : Int64} {im : Nat → Int32} {se : Nat → Int64} {kp : Nat → Int32} {pl : Int32} {wr : Int32} {dp : Int32} {su : Nat → Int32} {wa : Nat → Int32} {fc : Nat → Int32} {po : Nat → Int32} {ro : Nat → Int64} {fr : Int32} {ch : Nat → Int64} {ov : Nat → Int64} {h : xH} {sz : Nat} {Post : Option Value → xH → Nat → Prop} (hn : n ≤ 60) (M : Md dA h b tx (nI n) fa st de dm sd im se kp pl wr dp su wa fc po ro fr ch ov) (hp1 : ¬ (nI 0 ≤ x ∧ x ≤ nI 255) → Post (some (.int (-1000000002))) h sz) (hp2 : (nI 0 ≤ x ∧ x ≤ nI 255) → n = 60 → Post (some (.int (-1000000004))) h sz) (hp3 : (nI 0 ≤ x ∧ x ≤ nI 255) → ¬ n = 60 → ∀ (h1 : xH) (sz1 : Nat), Md dA h1 b (upd tx n x) (nI (n + 1)) fa st de dm sd im se kp pl wr dp su wa fc po ro fr ch ov → xF b (b + 14) h h1 → Post (some (.int (nI (n + 1)))) h1 sz1) (hpost : True) : xMet l yX5_feed wsX5_feed 1 22 0 0 D dA [.ref b, .int x] h sz Post := by
  refine x_open (cc := cX5_feed) (maxL := 2) (ret := (some .int)) (by decide) rfl (Nat.le_of_ble_eq_true rfl) ?_
  intro p e s m args below meth c G _
  have inX5 : ∀ w ∈ wsX50, w ∈ wsX5_feed := inX5_feed_5
  have F := xF_rf (lo := b) (hi := b + 14) (h := h)
  refine x_iload_n G dX5_feed_0 rfl ?_
  refine x_iconstV (v := nI 0) G dX5_feed_1 (by decide) ?_
  refine x_sipushV (v := nI 255) G dX5_feed_2 (by decide) ?_
  refine x_callS (n := 3) (rest := []) (As := [.int (x), .int (nI 0), .int (nI 255)]) G (c_in (Post := fun r7 h7 sz7 => r7 = some (.int (x_b ((nI 0) ≤ (x) ∧ (x) ≤ (nI 255)))) ∧ h = h7 ∧ sz = sz7) l D ⟨rfl, rfl, rfl⟩) gX5_feed_X5_in rfl ⟨by decide +kernel, by decide +kernel, by decide +kernel⟩ ⟨by decide, by decide⟩ dX5_feed_5 rfl rfl (Nat.le_of_ble_eq_true rfl) ⟨by decide, by decide⟩ ?_
  rintro _ _ _ ⟨rfl, rfl, rfl⟩
  try dsimp only [Option.toList, List.cons_append, List.nil_append]
  refine x_if_ne G 14 dX5_feed_8 (by decide) (fun c_8 => ?_) (fun c_8 => ?_)
  · have e1 := x_b_n.mp c_8
    refine x_aload_n G dX5_feed_14 rfl ?_
    refine x_get G kX5 inX5 1 (by decide) (by decide +kernel) dX5_feed_15 (md_o M) rfl ?_
    refine x_bipushV (v := nI 60) G dX5_feed_18 (by decide) ?_
    refine x_icmp_ne G 26 dX5_feed_20 (by decide) (fun c_20 => ?_) (fun c_20 => ?_)
    · have e2 : ¬ n = 60 := fun z => c_20 (by rw [z])
      refine x_aload_n G dX5_feed_26 rfl ?_
      refine x_get G kX5 inX5 0 (by decide) (by decide +kernel) dX5_feed_27 (md_o M) rfl ?_
      refine x_aload_n G dX5_feed_30 rfl ?_
      refine x_get G kX5 inX5 1 (by decide) (by decide +kernel) dX5_feed_31 (md_o M) rfl ?_
      refine x_iload_n G dX5_feed_34 rfl ?_
      refine x_iastN G dX5_feed_35 (md_tx M) (by omega) (by decide) ?_
      have M := md_tx_s M (upd tx n x)
      have F := xF_up (a := b + 1) (e := .inl (dA 0, 60, .inl (upd tx n x))) F (by omega) (by omega)
      refine x_aload_n G dX5_feed_36 rfl ?_
      refine x_dup G dX5_feed_37 rfl ?_
      refine x_get G kX5 inX5 1 (by decide) (by decide +kernel) dX5_feed_38 (md_o M) rfl ?_
      refine x_iconstV (v := nI 1) G dX5_feed_41 (by decide) ?_
      refine x_iadd G dX5_feed_42 ?_
      refine x_topE (y := nI (n + 1)) (nI_1 n) ?_
      refine x_put G kX5 inX5 1 (by decide) (by decide +kernel) rfl dX5_feed_43 (md_o M) rfl rfl (Nat.le_of_ble_eq_true rfl) ?_
      have M := md_ln_s M (nI (n + 1))
      have F := xF_up (a := b) (e := .inr (5, List.set [.ref (b + 1), .int (nI n), .int (fa), .ref (b + 2), .ref (b + 3), .int (dm), .long (sd), .ref (b + 4), .ref (b + 5), .ref (b + 6), .int (pl), .int (wr), .int (dp), .ref (b + 7), .ref (b + 8), .ref (b + 9), .ref (b + 10), .ref (b + 11), .int (fr), .ref (b + 12), .ref (b + 13)] 1 (.int (nI (n + 1))))) F (by omega) (by omega)
      refine x_aload_n G dX5_feed_46 rfl ?_
      refine x_get G kX5 inX5 1 (by decide) (by decide +kernel) dX5_feed_47 (md_o M) rfl ?_
      exact x_iret G dX5_feed_50 (hp3 e1 e2 _ _ M F)
    · have e2 : n = 60 := (nI_eq (by omega) (by decide)).mp c_20
      refine x_ldc G (-1000000004) (by decide +kernel) dX5_feed_23 ?_
      exact x_iret G dX5_feed_25 (hp2 e1 e2)
  · have e1 := x_b_0.mp c_8
    refine x_ldc G (-1000000002) (by decide +kernel) dX5_feed_11 ?_
    exact x_iret G dX5_feed_13 (hp1 e1)
theorem inX5_wipe_5 : ∀ w ∈ wsX50, w ∈ wsX5_wipe := by decide +kernel
set_option maxRecDepth 100000 in
set_option maxHeartbeats 4000000 in
/-- wipe -/
theorem c_wipe (l : Launch) (D : va_G) {dA : Nat → ClassId} {b : Nat} {tx : Nat → Int32} {ln : Int32} {fa : Int32} {st : Nat → Int32} {de : Nat → Int32} {dm : Int32} {sd : Int64} {im : Nat → Int32} {se : Nat → Int64} {kp : Nat → Int32} {pl : Int32} {wr : Int32} {dp : Int32} {su : Nat → Int32} {wa : Nat → Int32} {fc : Nat → Int32} {po : Nat → Int32} {ro : Nat → Int64} {fr : Int32} {ch : Nat → Int64} {ov : Nat → Int64} {h : xH} {sz : Nat} {Post : Option Value → xH → Nat → Prop} (M : Md dA h b tx ln fa st de dm sd im se kp pl wr dp su wa fc po ro fr ch ov) (hpost : ∀ (h1 : xH) (sz1 : Nat), Md dA h1 b tx (nI 0) fa st de dm sd im se kp pl wr dp su wa fc po ro fr ch ov → xF b (b + 14) h h1 → Post (some (.int ln)) h1 sz1) : xMet l yX5_wipe wsX5_wipe 0 0 0 0 D dA [.ref b] h sz Post := by
  refine x_open (cc := cX5_wipe) (maxL := 2) (ret := (some .int)) (by decide) rfl (Nat.le_of_ble_eq_true rfl) ?_
  intro p e s m args below meth c G _
  have inX5 : ∀ w ∈ wsX50, w ∈ wsX5_wipe := inX5_wipe_5
  have F := xF_rf (lo := b) (hi := b + 14) (h := h)
  refine x_aload_n G dX5_wipe_0 rfl ?_
  refine x_get G kX5 inX5 1 (by decide) (by decide +kernel) dX5_wipe_1 (md_o M) rfl ?_
  refine x_istore_n G dX5_wipe_4 (by decide) ?_
  refine x_aload_n G dX5_wipe_5 rfl ?_
  refine x_iconstV (v := nI 0) G dX5_wipe_6 (by decide) ?_
  refine x_put G kX5 inX5 1 (by decide) (by decide +kernel) rfl dX5_wipe_7 (md_o M) rfl rfl (Nat.le_of_ble_eq_true rfl) ?_
  have M := md_ln_s M (nI 0)
  have F := xF_up (a := b) (e := .inr (5, List.set [.ref (b + 1), .int (ln), .int (fa), .ref (b + 2), .ref (b + 3), .int (dm), .long (sd), .ref (b + 4), .ref (b + 5), .ref (b + 6), .int (pl), .int (wr), .int (dp), .ref (b + 7), .ref (b + 8), .ref (b + 9), .ref (b + 10), .ref (b + 11), .int (fr), .ref (b + 12), .ref (b + 13)] 1 (.int (nI 0)))) F (by omega) (by omega)
  refine x_iload_n G dX5_wipe_10 rfl ?_
  exact x_iret G dX5_wipe_11 (hpost _ _ M F)
theorem inX5_fault_5 : ∀ w ∈ wsX50, w ∈ wsX5_fault := by decide +kernel
set_option maxRecDepth 100000 in
set_option maxHeartbeats 4000000 in
/-- fault -/
theorem c_fault (l : Launch) (D : va_G) {dA : Nat → ClassId} {b : Nat} {tx : Nat → Int32} {ln : Int32} {fa : Int32} {st : Nat → Int32} {de : Nat → Int32} {dm : Int32} {sd : Int64} {im : Nat → Int32} {se : Nat → Int64} {kp : Nat → Int32} {pl : Int32} {wr : Int32} {dp : Int32} {su : Nat → Int32} {wa : Nat → Int32} {fc : Nat → Int32} {po : Nat → Int32} {ro : Nat → Int64} {fr : Int32} {ch : Nat → Int64} {ov : Nat → Int64} {h : xH} {sz : Nat} {Post : Option Value → xH → Nat → Prop} (M : Md dA h b tx ln fa st de dm sd im se kp pl wr dp su wa fc po ro fr ch ov) (hpost : Post (some (.int fa)) h sz) : xMet l yX5_fault wsX5_fault 0 0 0 0 D dA [.ref b] h sz Post := by
  refine x_open (cc := cX5_fault) (maxL := 1) (ret := (some .int)) (by decide) rfl (Nat.le_of_ble_eq_true rfl) ?_
  intro p e s m args below meth c G _
  have inX5 : ∀ w ∈ wsX50, w ∈ wsX5_fault := inX5_fault_5
  refine x_aload_n G dX5_fault_0 rfl ?_
  refine x_get G kX5 inX5 2 (by decide) (by decide +kernel) dX5_fault_1 (md_o M) rfl ?_
  exact x_iret G dX5_fault_4 hpost
set_option maxRecDepth 100000 in
set_option maxHeartbeats 4000000 in
/-- isBase -/
theorem c_isBase (l : Launch) (D : va_G) {dA : Nat → ClassId} {v : Int32} {h : xH} {sz : Nat} {Post : Option Value → xH → Nat → Prop}  (hpost : Post (some (.int (x_b (nI 0 ≤ v ∧ v ≤ nI 3)))) h sz) : xMet l yX5_isBase wsX5_isBase 1 22 0 0 D dA [.int v] h sz Post := by
  refine x_open (cc := cX5_isBase) (maxL := 1) (ret := (some .boolean)) (by decide) rfl (Nat.le_of_ble_eq_true rfl) ?_
  intro p e s m args below meth c G _
  refine x_iload_n G dX5_isBase_0 rfl ?_
  refine x_iconstV (v := nI 0) G dX5_isBase_1 (by decide) ?_
  refine x_iconstV (v := nI 3) G dX5_isBase_2 (by decide) ?_
  refine x_callS (n := 3) (rest := []) (As := [.int (v), .int (nI 0), .int (nI 3)]) G (c_in (Post := fun r7 h7 sz7 => r7 = some (.int (x_b ((nI 0) ≤ (v) ∧ (v) ≤ (nI 3)))) ∧ h = h7 ∧ sz = sz7) l D ⟨rfl, rfl, rfl⟩) gX5_isBase_X5_in rfl ⟨by decide +kernel, by decide +kernel, by decide +kernel⟩ ⟨by decide, by decide⟩ dX5_isBase_3 rfl rfl (Nat.le_of_ble_eq_true rfl) ⟨by decide, by decide⟩ ?_
  rintro _ _ _ ⟨rfl, rfl, rfl⟩
  try dsimp only [Option.toList, List.cons_append, List.nil_append]
  exact x_zret G dX5_isBase_6 x_b_z hpost
set_option maxRecDepth 100000 in
set_option maxHeartbeats 4000000 in
/-- isUnknown -/
theorem c_isUnknown (l : Launch) (D : va_G) {dA : Nat → ClassId} {v : Int32} {h : xH} {sz : Nat} {Post : Option Value → xH → Nat → Prop}  (hpost : Post (some (.int (x_b (nI 0 ≤ v ∧ v ≤ nI 5)))) h sz) : xMet l yX5_isUnknown wsX5_isUnknown 1 22 0 0 D dA [.int v] h sz Post := by
  refine x_open (cc := cX5_isUnknown) (maxL := 1) (ret := (some .boolean)) (by decide) rfl (Nat.le_of_ble_eq_true rfl) ?_
  intro p e s m args below meth c G _
  refine x_iload_n G dX5_isUnknown_0 rfl ?_
  refine x_iconstV (v := nI 0) G dX5_isUnknown_1 (by decide) ?_
  refine x_iconstV (v := nI 5) G dX5_isUnknown_2 (by decide) ?_
  refine x_callS (n := 3) (rest := []) (As := [.int (v), .int (nI 0), .int (nI 5)]) G (c_in (Post := fun r7 h7 sz7 => r7 = some (.int (x_b ((nI 0) ≤ (v) ∧ (v) ≤ (nI 5)))) ∧ h = h7 ∧ sz = sz7) l D ⟨rfl, rfl, rfl⟩) gX5_isUnknown_X5_in rfl ⟨by decide +kernel, by decide +kernel, by decide +kernel⟩ ⟨by decide, by decide⟩ dX5_isUnknown_3 rfl rfl (Nat.le_of_ble_eq_true rfl) ⟨by decide, by decide⟩ ?_
  rintro _ _ _ ⟨rfl, rfl, rfl⟩
  try dsimp only [Option.toList, List.cons_append, List.nil_append]
  exact x_zret G dX5_isUnknown_6 x_b_z hpost
theorem inX5_notes_5 : ∀ w ∈ wsX50, w ∈ wsX5_notes := by decide +kernel
def nt_d (d : Nat) : Nat := if d = 20 then 20 else d + 1
def nt_e (de st : Nat → Int32) (d : Nat) : Nat → Int32 := if d = 20 then va_cpy st (va_cpy de de 69 0 1311) 0 (69 * 19) 69 else va_cpy st de 0 (69 * d) 69
set_option maxRecDepth 100000 in
set_option maxHeartbeats 4000000 in
/-- notes -/
theorem c_notes (l : Launch) (D : va_G) {dA : Nat → ClassId} {b d : Nat} {tx : Nat → Int32} {ln : Int32} {fa : Int32} {st : Nat → Int32} {de : Nat → Int32} {sd : Int64} {im : Nat → Int32} {se : Nat → Int64} {kp : Nat → Int32} {pl : Int32} {wr : Int32} {dp : Int32} {su : Nat → Int32} {wa : Nat → Int32} {fc : Nat → Int32} {po : Nat → Int32} {ro : Nat → Int64} {fr : Int32} {ch : Nat → Int64} {ov : Nat → Int64} {h : xH} {sz : Nat} {Post : Option Value → xH → Nat → Prop} (hd : d ≤ 20) (M : Md dA h b tx ln fa st de (nI d) sd im se kp pl wr dp su wa fc po ro fr ch ov) (hpost : ∀ (h1 : xH) (sz1 : Nat), Md dA h1 b tx ln fa st (nt_e de st d) (nI (nt_d d)) sd im se kp pl wr dp su wa fc po ro fr ch ov → xF b (b + 14) h h1 → Post none h1 sz1) : xMet l yX5_notes wsX5_notes 1 25 0 0 D dA [.ref b] h sz Post := by
  refine x_open (cc := cX5_notes) (maxL := 1) (ret := none) (by decide) rfl (Nat.le_of_ble_eq_true rfl) ?_
  intro p e s m args below meth c G _
  have inX5 : ∀ w ∈ wsX50, w ∈ wsX5_notes := inX5_notes_5
  have F := xF_rf (lo := b) (hi := b + 14) (h := h)
  have J36 : ∀ (d1 : Nat) (de1 : Nat → Int32) (h1 : xH) (sz1 : Nat), d1 < 20 → Md dA h1 b tx ln fa st de1 (nI d1) sd im se kp pl wr dp su wa fc po ro fr ch ov → xF b (b + 14) h h1 → (∀ (h1 : xH) (sz1 : Nat), Md dA h1 b tx ln fa st (va_cpy st de1 0 (69 * d1) 69) (nI (d1 + 1)) sd im se kp pl wr dp su wa fc po ro fr ch ov → xF b (b + 14) h h1 → Post none h1 sz1) → xV p l e (headSpec wsX5_notes { frames := 1, cells := 0, slots := 0, locals := 25 }).room s m args below meth c D dA 1 h sz 0 0 Post 0 0 36 [(0, .ref b)] [] h1 sz1 := by
    intro d1 de1 h1 sz1 hd1 M F hpost
    refine x_aload_n G dX5_notes_36 rfl ?_
    refine x_get G kX5 inX5 3 (by decide) (by decide +kernel) dX5_notes_37 (md_o M) rfl ?_
    refine x_iconstV (v := nI 0) G dX5_notes_40 (by decide) ?_
    refine x_aload_n G dX5_notes_41 rfl ?_
    refine x_get G kX5 inX5 4 (by decide) (by decide +kernel) dX5_notes_42 (md_o M) rfl ?_
    refine x_bipushV (v := nI 69) G dX5_notes_45 (by decide) ?_
    refine x_aload_n G dX5_notes_47 rfl ?_
    refine x_get G kX5 inX5 5 (by decide) (by decide +kernel) dX5_notes_48 (md_o M) rfl ?_
    refine x_imul G dX5_notes_51 ?_
    refine x_topE (y := nI (69 * d1)) (by rw [pk_mul]) ?_
    refine x_bipushV (v := nI 69) G dX5_notes_52 (by decide) ?_
    refine x_callS (n := 5) (rest := []) (As := [.ref (b + 2), .int (nI (0)), .ref (b + 3), .int (nI (69 * d1)), .int (nI (69))]) G (c_bring (Post := fun r7 h7 sz7 => r7 = none ∧ h7 = x_up h1 (b + 3) (.inl (dA 0, 1380, .inl (va_cpy (st) (de1) (0) (69 * d1) (69))))) l D (md_st M) (md_de M) (Or.inl (by omega)) (by omega) (by omega) (by decide) (by decide) (fun sz7 => ⟨rfl, rfl⟩)) gX5_notes_X5_bring rfl ⟨by decide +kernel, by decide +kernel, by decide +kernel⟩ ⟨by decide, by decide⟩ dX5_notes_54 rfl rfl (Nat.le_of_ble_eq_true rfl) ⟨by decide, by decide⟩ ?_
    rintro _ _ sz1 ⟨rfl, rfl⟩
    try dsimp only [Option.toList, List.cons_append, List.nil_append]
    have M := md_de_s M (va_cpy (st) (de1) (0) (69 * d1) (69))
    have F := xF_up (a := b + 3) (e := .inl (dA 0, 1380, .inl (va_cpy (st) (de1) (0) (69 * d1) (69)))) F (by omega) (by omega)
    refine x_aload_n G dX5_notes_57 rfl ?_
    refine x_dup G dX5_notes_58 rfl ?_
    refine x_get G kX5 inX5 5 (by decide) (by decide +kernel) dX5_notes_59 (md_o M) rfl ?_
    refine x_iconstV (v := nI 1) G dX5_notes_62 (by decide) ?_
    refine x_iadd G dX5_notes_63 ?_
    refine x_topE (y := nI (d1 + 1)) (nI_1 d1) ?_
    refine x_put G kX5 inX5 5 (by decide) (by decide +kernel) rfl dX5_notes_64 (md_o M) rfl rfl (Nat.le_of_ble_eq_true rfl) ?_
    have M := md_dm_s M (nI (d1 + 1))
    have F := xF_up (a := b) (e := .inr (5, List.set [.ref (b + 1), .int (ln), .int (fa), .ref (b + 2), .ref (b + 3), .int (nI d1), .long (sd), .ref (b + 4), .ref (b + 5), .ref (b + 6), .int (pl), .int (wr), .int (dp), .ref (b + 7), .ref (b + 8), .ref (b + 9), .ref (b + 10), .ref (b + 11), .int (fr), .ref (b + 12), .ref (b + 13)] 5 (.int (nI (d1 + 1))))) F (by omega) (by omega)
    exact x_vret G dX5_notes_67 (hpost _ _ M F)
  refine x_aload_n G dX5_notes_0 rfl ?_
  refine x_get G kX5 inX5 5 (by decide) (by decide +kernel) dX5_notes_1 (md_o M) rfl ?_
  refine x_bipushV (v := nI 20) G dX5_notes_4 (by decide) ?_
  refine x_icmp_ne G 36 dX5_notes_6 (by decide) (fun c_6 => ?_) (fun c_6 => ?_)
  · have e1 : ¬ d = 20 := fun z => c_6 (by rw [z])
    exact J36 d de _ _ (by omega) M F (fun h1 sz1 q1 q2 => hpost h1 sz1 (by unfold nt_d nt_e; rw [if_neg e1, if_neg e1]; exact q1) q2)
  · have e1 : d = 20 := (nI_eq (by omega) (by decide)).mp c_6
    subst e1
    refine x_aload_n G dX5_notes_9 rfl ?_
    refine x_get G kX5 inX5 4 (by decide) (by decide +kernel) dX5_notes_10 (md_o M) rfl ?_
    refine x_bipushV (v := nI 69) G dX5_notes_13 (by decide) ?_
    refine x_aload_n G dX5_notes_15 rfl ?_
    refine x_get G kX5 inX5 4 (by decide) (by decide +kernel) dX5_notes_16 (md_o M) rfl ?_
    refine x_iconstV (v := nI 0) G dX5_notes_19 (by decide) ?_
    refine x_sipushV (v := nI 1311) G dX5_notes_20 (by decide) ?_
    refine x_callS (n := 5) (rest := []) (As := [.ref (b + 3), .int (nI (69)), .ref (b + 3), .int (nI (0)), .int (nI (1311))]) G (c_bring (Post := fun r7 h7 sz7 => r7 = none ∧ h7 = x_up h (b + 3) (.inl (dA 0, 1380, .inl (va_cpy (de) (de) (69) (0) (1311))))) l D (md_de M) (md_de M) (Or.inr ⟨rfl, by omega, rfl, rfl⟩) (by omega) (by omega) (by decide) (by decide) (fun sz7 => ⟨rfl, rfl⟩)) gX5_notes_X5_bring rfl ⟨by decide +kernel, by decide +kernel, by decide +kernel⟩ ⟨by decide, by decide⟩ dX5_notes_23 rfl rfl (Nat.le_of_ble_eq_true rfl) ⟨by decide, by decide⟩ ?_
    rintro _ _ sz1 ⟨rfl, rfl⟩
    try dsimp only [Option.toList, List.cons_append, List.nil_append]
    have M := md_de_s M (va_cpy (de) (de) (69) (0) (1311))
    have F := xF_up (a := b + 3) (e := .inl (dA 0, 1380, .inl (va_cpy (de) (de) (69) (0) (1311)))) F (by omega) (by omega)
    refine x_aload_n G dX5_notes_26 rfl ?_
    refine x_dup G dX5_notes_27 rfl ?_
    refine x_get G kX5 inX5 5 (by decide) (by decide +kernel) dX5_notes_28 (md_o M) rfl ?_
    refine x_iconstV (v := nI 1) G dX5_notes_31 (by decide) ?_
    refine x_isub G dX5_notes_32 ?_
    refine x_topE (y := nI 19) (by decide) ?_
    refine x_put G kX5 inX5 5 (by decide) (by decide +kernel) rfl dX5_notes_33 (md_o M) rfl rfl (Nat.le_of_ble_eq_true rfl) ?_
    have M := md_dm_s M (nI 19)
    have F := xF_up (a := b) (e := .inr (5, List.set [.ref (b + 1), .int (ln), .int (fa), .ref (b + 2), .ref (b + 3), .int (nI 20), .long (sd), .ref (b + 4), .ref (b + 5), .ref (b + 6), .int (pl), .int (wr), .int (dp), .ref (b + 7), .ref (b + 8), .ref (b + 9), .ref (b + 10), .ref (b + 11), .int (fr), .ref (b + 12), .ref (b + 13)] 5 (.int (nI 19)))) F (by omega) (by omega)
    exact J36 19 (va_cpy de de 69 0 1311) _ _ (by decide) M F hpost
theorem inX5_says_5 : ∀ w ∈ wsX50, w ∈ wsX5_says := by decide +kernel
def sy_st (st po : Nat → Int32) (n : Nat) : Nat → Int32 := upd (va_cpy po st 0 (1 + 10 * n) 10) 0 (nI (n + 1))
theorem sy_0 {st po : Nat → Int32} {n : Nat} (k : st 0 = nI n) : va_cpy po st 0 (1 + 10 * n) 10 0 = nI n := by
  unfold va_cpy
  rw [if_neg (by omega)]
  exact k
set_option maxRecDepth 100000 in
set_option maxHeartbeats 4000000 in
/-- says -/
theorem c_says (l : Launch) (D : va_G) {dA : Nat → ClassId} {b n : Nat} {tx : Nat → Int32} {ln : Int32} {fa : Int32} {st : Nat → Int32} {de : Nat → Int32} {dm : Int32} {sd : Int64} {im : Nat → Int32} {se : Nat → Int64} {kp : Nat → Int32} {pl : Int32} {wr : Int32} {dp : Int32} {su : Nat → Int32} {wa : Nat → Int32} {fc : Nat → Int32} {po : Nat → Int32} {ro : Nat → Int64} {fr : Int32} {ch : Nat → Int64} {ov : Nat → Int64} {h : xH} {sz : Nat} {Post : Option Value → xH → Nat → Prop} (hn : st 0 = nI n) (hn6 : n < 6) (M : Md dA h b tx ln fa st de dm sd im se kp pl wr dp su wa fc po ro fr ch ov) (hpost : ∀ (h1 : xH) (sz1 : Nat), Md dA h1 b tx ln fa (sy_st st po n) de dm sd im se kp pl wr dp su wa fc po ro fr ch ov → xF b (b + 14) h h1 → Post none h1 sz1) : xMet l yX5_says wsX5_says 1 25 0 0 D dA [.ref b] h sz Post := by
  refine x_open (cc := cX5_says) (maxL := 1) (ret := none) (by decide) rfl (Nat.le_of_ble_eq_true rfl) ?_
  intro p e s m args below meth c G _
  have inX5 : ∀ w ∈ wsX50, w ∈ wsX5_says := inX5_says_5
  have F := xF_rf (lo := b) (hi := b + 14) (h := h)
  refine x_aload_n G dX5_says_0 rfl ?_
  refine x_get G kX5 inX5 16 (by decide) (by decide +kernel) dX5_says_1 (md_o M) rfl ?_
  refine x_iconstV (v := nI 0) G dX5_says_4 (by decide) ?_
  refine x_aload_n G dX5_says_5 rfl ?_
  refine x_get G kX5 inX5 3 (by decide) (by decide +kernel) dX5_says_6 (md_o M) rfl ?_
  refine x_iconstV (v := nI 1) G dX5_says_9 (by decide) ?_
  refine x_bipushV (v := nI 10) G dX5_says_10 (by decide) ?_
  refine x_aload_n G dX5_says_12 rfl ?_
  refine x_get G kX5 inX5 3 (by decide) (by decide +kernel) dX5_says_13 (md_o M) rfl ?_
  refine x_iconstV (v := nI 0) G dX5_says_16 (by decide) ?_
  refine x_ialdN G dX5_says_17 (md_st M) (by omega) (by decide) ?_
  refine x_topE (y := nI n) hn ?_
  refine x_imul G dX5_says_18 ?_
  refine x_iadd G dX5_says_19 ?_
  refine x_topE (y := nI (1 + 10 * n)) (by rw [pk_mul, nI_add]) ?_
  refine x_bipushV (v := nI 10) G dX5_says_20 (by decide) ?_
  refine x_callS (n := 5) (rest := []) (As := [.ref (b + 10), .int (nI (0)), .ref (b + 2), .int (nI (1 + 10 * n)), .int (nI (10))]) G (c_bring (Post := fun r7 h7 sz7 => r7 = none ∧ h7 = x_up h (b + 2) (.inl (dA 0, 69, .inl (va_cpy (po) (st) (0) (1 + 10 * n) (10))))) l D (md_po M) (md_st M) (Or.inl (by omega)) (by omega) (by omega) (by decide) (by decide) (fun sz7 => ⟨rfl, rfl⟩)) gX5_says_X5_bring rfl ⟨by decide +kernel, by decide +kernel, by decide +kernel⟩ ⟨by decide, by decide⟩ dX5_says_22 rfl rfl (Nat.le_of_ble_eq_true rfl) ⟨by decide, by decide⟩ ?_
  rintro _ _ sz1 ⟨rfl, rfl⟩
  try dsimp only [Option.toList, List.cons_append, List.nil_append]
  have M := md_st_s M (va_cpy (po) (st) (0) (1 + 10 * n) (10))
  have F := xF_up (a := b + 2) (e := .inl (dA 0, 69, .inl (va_cpy (po) (st) (0) (1 + 10 * n) (10)))) F (by omega) (by omega)
  refine x_aload_n G dX5_says_25 rfl ?_
  refine x_get G kX5 inX5 3 (by decide) (by decide +kernel) dX5_says_26 (md_o M) rfl ?_
  refine x_iconstV (v := nI 0) G dX5_says_29 (by decide) ?_
  refine x_dup2 G dX5_says_30 rfl rfl ?_
  refine x_ialdN G dX5_says_31 (md_st M) (by omega) (by decide) ?_
  refine x_topE (y := nI n) (sy_0 hn) ?_
  refine x_iconstV (v := nI 1) G dX5_says_32 (by decide) ?_
  refine x_iadd G dX5_says_33 ?_
  refine x_topE (y := nI (n + 1)) (nI_1 n) ?_
  refine x_iastN G dX5_says_34 (md_st M) (by omega) (by decide) ?_
  have M := md_st_s M (sy_st st po n)
  have F := xF_up (a := b + 2) (e := .inl (dA 0, 69, .inl (sy_st st po n))) F (by omega) (by omega)
  exact x_vret G dX5_says_35 (hpost _ _ M F)
theorem inX5_draw_5 : ∀ w ∈ wsX50, w ∈ wsX5_draw := by decide +kernel
def dr_s (sd : Int64) : Int64 := (sd * 1103515245 + 12345) - (sd * 1103515245 + 12345) / 2147483648 * 2147483648
def dr_v (sd : Int64) (n : Int32) : Int32 := (dr_s sd / 65536 - dr_s sd / 65536 / n.toInt64 * n.toInt64).toInt32
set_option maxRecDepth 100000 in
set_option maxHeartbeats 4000000 in
/-- draw -/
theorem c_draw (l : Launch) (D : va_G) {dA : Nat → ClassId} {b : Nat} {n : Int32} {tx : Nat → Int32} {ln : Int32} {fa : Int32} {st : Nat → Int32} {de : Nat → Int32} {dm : Int32} {sd : Int64} {im : Nat → Int32} {se : Nat → Int64} {kp : Nat → Int32} {pl : Int32} {wr : Int32} {dp : Int32} {su : Nat → Int32} {wa : Nat → Int32} {fc : Nat → Int32} {po : Nat → Int32} {ro : Nat → Int64} {fr : Int32} {ch : Nat → Int64} {ov : Nat → Int64} {h : xH} {sz : Nat} {Post : Option Value → xH → Nat → Prop} (hn : ¬ n.toInt64 = 0) (M : Md dA h b tx ln fa st de dm sd im se kp pl wr dp su wa fc po ro fr ch ov) (hpost : ∀ (h1 : xH) (sz1 : Nat), Md dA h1 b tx ln fa st de dm (dr_s sd) im se kp pl wr dp su wa fc po ro fr ch ov → xF b (b + 14) h h1 → Post (some (.int (dr_v sd n))) h1 sz1) : xMet l yX5_draw wsX5_draw 0 0 0 0 D dA [.ref b, .int n] h sz Post := by
  refine x_open (cc := cX5_draw) (maxL := 2) (ret := (some .int)) (by decide) rfl (Nat.le_of_ble_eq_true rfl) ?_
  intro p e s m args below meth c G _
  have inX5 : ∀ w ∈ wsX50, w ∈ wsX5_draw := inX5_draw_5
  have F := xF_rf (lo := b) (hi := b + 14) (h := h)
  refine x_aload_n G dX5_draw_0 rfl ?_
  refine x_aload_n G dX5_draw_1 rfl ?_
  refine x_get G kX5 inX5 6 (by decide) (by decide +kernel) dX5_draw_2 (md_o M) rfl ?_
  refine x_ldc2_w G (1103515245) (by decide +kernel) dX5_draw_5 ?_
  refine x_lmul G dX5_draw_8 ?_
  refine x_ldc2_w G (12345) (by decide +kernel) dX5_draw_9 ?_
  refine x_ladd G dX5_draw_12 ?_
  refine x_ldc2_w G (2147483648) (by decide +kernel) dX5_draw_13 ?_
  refine x_lrem G dX5_draw_16 (by decide) ?_
  refine x_put G kX5 inX5 6 (by decide) (by decide +kernel) rfl dX5_draw_17 (md_o M) rfl rfl (Nat.le_of_ble_eq_true rfl) ?_
  have M := md_sd_s M (dr_s sd)
  have F := xF_up (a := b) (e := .inr (5, List.set [.ref (b + 1), .int (ln), .int (fa), .ref (b + 2), .ref (b + 3), .int (dm), .long (sd), .ref (b + 4), .ref (b + 5), .ref (b + 6), .int (pl), .int (wr), .int (dp), .ref (b + 7), .ref (b + 8), .ref (b + 9), .ref (b + 10), .ref (b + 11), .int (fr), .ref (b + 12), .ref (b + 13)] 6 (.long (dr_s sd)))) F (by omega) (by omega)
  refine x_aload_n G dX5_draw_20 rfl ?_
  refine x_get G kX5 inX5 6 (by decide) (by decide +kernel) dX5_draw_21 (md_o M) rfl ?_
  refine x_ldc2_w G (65536) (by decide +kernel) dX5_draw_24 ?_
  refine x_ldiv G dX5_draw_27 (by decide) ?_
  refine x_iload_n G dX5_draw_28 rfl ?_
  refine x_i2l G dX5_draw_29 ?_
  refine x_lrem G dX5_draw_30 hn ?_
  refine x_l2i G dX5_draw_31 ?_
  exact x_iret G dX5_draw_32 (hpost _ _ M F)
