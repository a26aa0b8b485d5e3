/-! ## The class: Reader, eleven cells q .. q + 10 (object, totals, seven of them, signs, factor) -/
def Rd (dA : Nat → ClassId) (h : xH) (q : Nat) (tt : Nat → Nat → Int64) (sn : Nat → Int32) (fc : Nat → Int64) (op ex : Nat) (ps sd le pl : Int32) : Prop :=
  h q = some (.inr (1, [.ref (q + 1), .ref (q + 9), .ref (q + 10), .int (nI op), .int (nI ex), .int ps, .int sd, .int le, .int pl])) ∧
  h (q + 1) = some (.inl (dA 5, 7, .inr (.inr (.inr (.inr (fun i => if i < 7 then some (q + 2 + i) else none)))))) ∧
  (∀ k, k < 7 → h (q + 2 + k) = some (.inl (dA 1, 10, .inr (.inl (tt k))))) ∧
  h (q + 9) = some (.inl (dA 0, 7, .inl sn)) ∧ h (q + 10) = some (.inl (dA 1, 10, .inr (.inl fc)))
section RD
variable {dA : Nat → ClassId} {h : xH} {q : Nat} {tt : Nat → Nat → Int64} {sn : Nat → Int32} {fc : Nat → Int64} {op ex : Nat} {ps sd le pl : Int32}
theorem re_o (S : Rd dA h q tt sn fc op ex ps sd le pl) : h q = some (.inr (1, [.ref (q + 1), .ref (q + 9), .ref (q + 10), .int (nI op), .int (nI ex), .int ps, .int sd, .int le, .int pl])) := S.1
theorem re_y (S : Rd dA h q tt sn fc op ex ps sd le pl) : h (q + 1) = some (.inl (dA 5, 7, .inr (.inr (.inr (.inr (fun i => if i < 7 then some (q + 2 + i) else none)))))) := S.2.1
theorem re_t (S : Rd dA h q tt sn fc op ex ps sd le pl) {k : Nat} (hk : k < 7) : h (q + 2 + k) = some (.inl (dA 1, 10, .inr (.inl (tt k)))) := S.2.2.1 k hk
theorem re_s (S : Rd dA h q tt sn fc op ex ps sd le pl) : h (q + 9) = some (.inl (dA 0, 7, .inl sn)) := S.2.2.2.1
theorem re_f (S : Rd dA h q tt sn fc op ex ps sd le pl) : h (q + 10) = some (.inl (dA 1, 10, .inr (.inl fc))) := S.2.2.2.2
theorem re_fo (S : Rd dA h q tt sn fc op ex ps sd le pl) {h1 : xH} {l1 l2 : Nat} (F : xF l1 l2 h h1) (k : q + 11 ≤ l1 ∨ l2 ≤ q) : Rd dA h1 q tt sn fc op ex ps sd le pl :=
  ⟨by rw [F q (by omega)]; exact re_o S, by rw [F (q + 1) (by omega)]; exact re_y S, fun j hj => by rw [F (q + 2 + j) (by omega)]; exact re_t S hj, by rw [F (q + 9) (by omega)]; exact re_s S, by rw [F (q + 10) (by omega)]; exact re_f S⟩
theorem re_os (S : Rd dA h q tt sn fc op ex ps sd le pl) (op1 ex1 : Nat) (ps1 sd1 le1 pl1 : Int32) : Rd dA (x_up h q (.inr (1, [.ref (q + 1), .ref (q + 9), .ref (q + 10), .int (nI op1), .int (nI ex1), .int ps1, .int sd1, .int le1, .int pl1]))) q tt sn fc op1 ex1 ps1 sd1 le1 pl1 :=
  ⟨x_up_eq, by rw [x_up_ne (by omega)]; exact re_y S, fun j hj => by rw [x_up_ne (by omega)]; exact re_t S hj, by rw [x_up_ne (by omega)]; exact re_s S, by rw [x_up_ne (by omega)]; exact re_f S⟩
theorem re_ts (S : Rd dA h q tt sn fc op ex ps sd le pl) {k : Nat} (hk : k < 7) (r : Nat → Int64) : Rd dA (x_up h (q + 2 + k) (.inl (dA 1, 10, .inr (.inl r)))) q (sl_u tt k r) sn fc op ex ps sd le pl := by
  refine ⟨by rw [x_up_ne (by omega)]; exact re_o S, by rw [x_up_ne (by omega)]; exact re_y S, fun j hj => ?_, by rw [x_up_ne (by omega)]; exact re_s S, by rw [x_up_ne (by omega)]; exact re_f S⟩
  unfold sl_u
  by_cases e : j = k
  · subst e
    rw [if_pos rfl]
    exact x_up_eq
  · rw [if_neg e, x_up_ne (by omega)]
    exact re_t S hj
theorem re_ss (S : Rd dA h q tt sn fc op ex ps sd le pl) (r : Nat → Int32) : Rd dA (x_up h (q + 9) (.inl (dA 0, 7, .inl r))) q tt r fc op ex ps sd le pl :=
  ⟨by rw [x_up_ne (by omega)]; exact re_o S, by rw [x_up_ne (by omega)]; exact re_y S, fun j hj => by rw [x_up_ne (by omega)]; exact re_t S hj, x_up_eq, by rw [x_up_ne (by omega)]; exact re_f S⟩
theorem re_fs (S : Rd dA h q tt sn fc op ex ps sd le pl) (r : Nat → Int64) : Rd dA (x_up h (q + 10) (.inl (dA 1, 10, .inr (.inl r)))) q tt sn r op ex ps sd le pl :=
  ⟨by rw [x_up_ne (by omega)]; exact re_o S, by rw [x_up_ne (by omega)]; exact re_y S, fun j hj => by rw [x_up_ne (by omega)]; exact re_t S hj, by rw [x_up_ne (by omega)]; exact re_s S, x_up_eq⟩
end RD
theorem inX1_startTotal_1 : ∀ w ∈ wsX10, w ∈ wsX1_startTotal := by decide +kernel
set_option maxRecDepth 100000 in
set_option maxHeartbeats 4000000 in
/-- startTotal -/
theorem c_X1_startTotal (l : Launch) (D : va_G) {dA : Nat → ClassId} {q : Nat} {tt : Nat → Nat → Int64} {sn : Nat → Int32} {fc : Nat → Int64} {op ex : Nat} {ps sd le pl : Int32} {h : xH} {sz : Nat} {Post : Option Value → xH → Nat → Prop} (ho : op < 7) (S : Rd dA h q tt sn fc op ex ps sd le pl) (hpost : ∀ (h1 : xH) (sz1 : Nat), Rd dA h1 q (sl_u tt op (fl_L (tt op) 0 10)) (upd sn op 1) fc op 0 ps sd le pl → xF q (q + 11) h h1 → Post none h1 sz1) : xMet l yX1_startTotal wsX1_startTotal 0 0 0 0 D dA [.ref q] h sz Post := by
  refine x_open (cc := cX1_startTotal) (maxL := 2) (ret := none) (by decide) rfl (Nat.le_of_ble_eq_true rfl) ?_
  intro p e s m args below meth c G _
  have inX1 : ∀ w ∈ wsX10, w ∈ wsX1_startTotal := inX1_startTotal_1
  have F := xF_rf (lo := q) (hi := q + 11) (h := h)
  refine x_iconstV (v := nI 0) G dX1_startTotal_0 (by decide) ?_
  refine x_istore_n G dX1_startTotal_1 (by decide) ?_
  refine x_loop (σ := Unit) (fun j _ => [(0, .ref q), (1, .int (nI j))]) 10 (fun j _ h1 sz1 => Rd dA h1 q (sl_u tt op (fl_L (tt op) 0 j)) sn fc op ex ps sd le pl ∧ xF q (q + 11) h h1) ?_ ?_ 0 () _ _ (Nat.zero_le _) ⟨by rw [fl_L_0, sl_us]; exact S, F⟩
  · intro j _ h1 sz1 hj hI nx
    try dsimp only at hI nx ⊢
    obtain ⟨S, F⟩ := hI
    refine x_iload_n G dX1_startTotal_2 rfl ?_
    refine x_bipushV (v := nI 10) G dX1_startTotal_3 (by decide) ?_
    refine x_icmp_ge G 26 dX1_startTotal_5 (by decide) (fun c_5 => ?_) (fun c_5 => ?_)
    · exact absurd c_5 (nI_ge hj (by omega))
    · refine x_aload_n G dX1_startTotal_8 rfl ?_
      refine x_get G kX1 inX1 0 (by decide) (by decide +kernel) dX1_startTotal_9 (re_o S) rfl ?_
      refine x_aload_n G dX1_startTotal_12 rfl ?_
      refine x_get G kX1 inX1 3 (by decide) (by decide +kernel) dX1_startTotal_13 (re_o S) rfl ?_
      refine x_aald (t := 5) G rfl rfl dX1_startTotal_16 (re_y S) (vp_in_nI (show op < 7 by omega) (by decide)) (show (if (nI (op)).toNatClampNeg < 7 then some (q + 2 + (nI (op)).toNatClampNeg) else none) = some (q + 2 + (op)) by rw [nI_clamp (by omega), if_pos (by omega)]) ?_
      refine x_iload_n G dX1_startTotal_17 rfl ?_
      refine x_lconstV (v := 0) G dX1_startTotal_18 (by decide) ?_
      refine x_lastN G dX1_startTotal_19 (re_t S (show op < 7 by omega)) (by omega) (by decide) ?_
      replace S := re_ts S (show op < 7 by omega) (vp_updL (sl_u tt op (fl_L (tt op) 0 j) op) j 0)
      replace F := xF_up (a := q + 2 + op) (e := .inl (dA 1, 10, .inr (.inl (vp_updL (sl_u tt op (fl_L (tt op) 0 j) op) j 0)))) F (by omega) (by omega)
      rw [sl_ue, fl_L_s] at S F ⊢
      rw [sl_uu] at S
      refine x_iinc G dX1_startTotal_20 rfl (by decide) ?_
      refine x_locE (lv2 := [(0, .ref q), (1, .int (nI (j + 1)))]) (by rw [nI_succ j]; rfl) ?_
      refine x_goto G 2 dX1_startTotal_23 (by decide) ?_
      exact nx () _ _ ⟨S, F⟩
  · intro _ h1 sz1 hI
    try dsimp only at hI ⊢
    obtain ⟨S, F⟩ := hI
    refine x_iload_n G dX1_startTotal_2 rfl ?_
    refine x_bipushV (v := nI 10) G dX1_startTotal_3 (by decide) ?_
    refine x_icmp_ge G 26 dX1_startTotal_5 (by decide) (fun c_5 => ?_) (fun c_5 => ?_)
    · refine x_aload_n G dX1_startTotal_26 rfl ?_
      refine x_get G kX1 inX1 1 (by decide) (by decide +kernel) dX1_startTotal_27 (re_o S) rfl ?_
      refine x_aload_n G dX1_startTotal_30 rfl ?_
      refine x_get G kX1 inX1 3 (by decide) (by decide +kernel) dX1_startTotal_31 (re_o S) rfl ?_
      refine x_iconstV (v := nI 1) G dX1_startTotal_34 (by decide) ?_
      refine x_iastN G dX1_startTotal_35 (re_s S) (show op < 7 by omega) (by decide) ?_
      replace S := re_ss S (upd sn op 1)
      replace F := xF_up (a := q + 9) (e := .inl (dA 0, 7, .inl (upd sn op 1))) F (by omega) (by omega)
      refine x_aload_n G dX1_startTotal_36 rfl ?_
      refine x_iconstV (v := nI 0) G dX1_startTotal_37 (by decide) ?_
      refine x_put G kX1 inX1 4 (by decide) (by decide +kernel) rfl dX1_startTotal_38 (re_o S) rfl rfl (Nat.le_of_ble_eq_true rfl) ?_
      replace S := re_os S op 0 ps sd le pl
      replace F := xF_up (a := q) (e := .inr (1, [.ref (q + 1), .ref (q + 9), .ref (q + 10), .int (nI (op)), .int (nI (0)), .int (ps), .int (sd), .int (le), .int (pl)])) F (by omega) (by omega)
      exact x_vret G dX1_startTotal_41 (hpost _ _ S F)
    · exact absurd (nI_le (Nat.le_refl _) (by omega)) c_5
theorem inX1_start_1 : ∀ w ∈ wsX10, w ∈ wsX1_start := by decide +kernel
set_option maxRecDepth 100000 in
set_option maxHeartbeats 4000000 in
/-- start -/
theorem c_X1_start (l : Launch) (D : va_G) {dA : Nat → ClassId} {q : Nat} {tt : Nat → Nat → Int64} {sn : Nat → Int32} {fc : Nat → Int64} {op ex : Nat} {ps sd le pl : Int32} {v : Int32} {h : xH} {sz : Nat} {Post : Option Value → xH → Nat → Prop} (hz : narrow .boolean (.int v) = .int v) (hf : fits .boolean (.int v) = true) (S : Rd dA h q tt sn fc op ex ps sd le pl) (hpost : ∀ (h1 : xH) (sz1 : Nat), Rd dA h1 q (sl_u tt 0 (fl_L (tt 0) 0 10)) (upd sn 0 1) fc 0 0 ps 1 v pl → xF q (q + 11) h h1 → Post none h1 sz1) : xMet l yX1_start wsX1_start 1 24 0 0 D dA [.ref q, .int v] h sz Post := by
  refine x_open (cc := cX1_start) (maxL := 2) (ret := none) (by decide) rfl (Nat.le_of_ble_eq_true rfl) ?_
  intro p e s m args below meth c G _
  have inX1 : ∀ w ∈ wsX10, w ∈ wsX1_start := inX1_start_1
  have F := xF_rf (lo := q) (hi := q + 11) (h := h)
  refine x_aload_n G dX1_start_0 rfl ?_
  refine x_iconstV (v := nI 0) G dX1_start_1 (by decide) ?_
  refine x_put G kX1 inX1 3 (by decide) (by decide +kernel) rfl dX1_start_2 (re_o S) rfl rfl (Nat.le_of_ble_eq_true rfl) ?_
  replace S := re_os S 0 ex ps sd le pl
  replace F := xF_up (a := q) (e := .inr (1, [.ref (q + 1), .ref (q + 9), .ref (q + 10), .int (nI (0)), .int (nI (ex)), .int (ps), .int (sd), .int (le), .int (pl)])) F (by omega) (by omega)
  refine x_aload_n G dX1_start_5 rfl ?_
  refine x_iconstV (v := nI 1) G dX1_start_6 (by decide) ?_
  refine x_put G kX1 inX1 6 (by decide) (by decide +kernel) rfl dX1_start_7 (re_o S) rfl rfl (Nat.le_of_ble_eq_true rfl) ?_
  replace S := re_os S 0 ex ps 1 le pl
  replace F := xF_up (a := q) (e := .inr (1, [.ref (q + 1), .ref (q + 9), .ref (q + 10), .int (nI (0)), .int (nI (ex)), .int (ps), .int (1), .int (le), .int (pl)])) F (by omega) (by omega)
  refine x_aload_n G dX1_start_10 rfl ?_
  refine x_iload_n G dX1_start_11 rfl ?_
  refine x_put G kX1 inX1 7 (by decide) (by decide +kernel) rfl dX1_start_12 (re_o S) hz hf (Nat.le_of_ble_eq_true rfl) ?_
  replace S := re_os S 0 ex ps 1 v pl
  replace F := xF_up (a := q) (e := .inr (1, [.ref (q + 1), .ref (q + 9), .ref (q + 10), .int (nI (0)), .int (nI (ex)), .int (ps), .int (1), .int (v), .int (pl)])) F (by omega) (by omega)
  refine x_aload_n G dX1_start_15 rfl ?_
  refine x_callV (n := 0) (rest := []) (As := []) G (ci := 1) (c_X1_startTotal (Post := fun r7 h7 sz7 => r7 = none ∧ Rd dA h7 q (sl_u tt (0) (fl_L (tt (0)) 0 10)) (upd sn (0) 1) fc 0 0 ps 1 v pl ∧ xF q (q + 11) _ h7) l D (by omega) S (fun h7 sz7 q1 q2 => ⟨rfl, q1, q2⟩)) gX1_start_X1_startTotal rfl ⟨rfl, by decide +kernel, by decide +kernel, by decide +kernel⟩ ⟨by decide, by decide⟩ rfl rfl (re_o S) dX1_start_16 rfl rfl (Nat.le_of_ble_eq_true rfl) ⟨by decide, by decide⟩ ?_
  rintro _ h2 sz2 ⟨rfl, S, F2⟩
  try dsimp only [Option.toList, List.cons_append, List.nil_append]
  replace F := xF_tr F F2
  exact x_vret G dX1_start_19 (hpost _ _ S F)
theorem inX1_putFactor_1 : ∀ w ∈ wsX10, w ∈ wsX1_putFactor := by decide +kernel
set_option maxRecDepth 100000 in
set_option maxHeartbeats 4000000 in
/-- putFactor -/
theorem c_X1_putFactor (l : Launch) (D : va_G) {dA : Nat → ClassId} {q : Nat} {tt : Nat → Nat → Int64} {sn : Nat → Int32} {fc : Nat → Int64} {op ex : Nat} {ps sd le pl : Int32} {h : xH} {sz : Nat} {Post : Option Value → xH → Nat → Prop} (ho : op < 7) (S : Rd dA h q tt sn fc op ex ps sd le pl) (hpost : ∀ (h1 : xH) (sz1 : Nat), Rd dA h1 q (sl_u tt op (at_s (tt op) fc (sn op).toInt64 10)) sn fc op ex ps sd le pl → xF q (q + 11) h h1 → Post none h1 sz1) : xMet l yX1_putFactor wsX1_putFactor 0 0 0 0 D dA [.ref q] h sz Post := by
  refine x_open (cc := cX1_putFactor) (maxL := 2) (ret := none) (by decide) rfl (Nat.le_of_ble_eq_true rfl) ?_
  intro p e s m args below meth c G _
  have inX1 : ∀ w ∈ wsX10, w ∈ wsX1_putFactor := inX1_putFactor_1
  have F := xF_rf (lo := q) (hi := q + 11) (h := h)
  refine x_iconstV (v := nI 0) G dX1_putFactor_0 (by decide) ?_
  refine x_istore_n G dX1_putFactor_1 (by decide) ?_
  refine x_loop (σ := Unit) (fun j _ => [(0, .ref q), (1, .int (nI j))]) 10 (fun j _ h1 sz1 => Rd dA h1 q (sl_u tt op (at_s (tt op) fc (sn op).toInt64 j)) sn fc op ex ps sd le pl ∧ xF q (q + 11) h h1) ?_ ?_ 0 () _ _ (Nat.zero_le _) ⟨by rw [at_s0, sl_us]; exact S, F⟩
  · intro j _ h1 sz1 hj hI nx
    try dsimp only at hI nx ⊢
    obtain ⟨S, F⟩ := hI
    refine x_iload_n G dX1_putFactor_2 rfl ?_
    refine x_bipushV (v := nI 10) G dX1_putFactor_3 (by decide) ?_
    refine x_icmp_ge G 45 dX1_putFactor_5 (by decide) (fun c_5 => ?_) (fun c_5 => ?_)
    · exact absurd c_5 (nI_ge hj (by omega))
    · refine x_aload_n G dX1_putFactor_8 rfl ?_
      refine x_get G kX1 inX1 0 (by decide) (by decide +kernel) dX1_putFactor_9 (re_o S) rfl ?_
      refine x_aload_n G dX1_putFactor_12 rfl ?_
      refine x_get G kX1 inX1 3 (by decide) (by decide +kernel) dX1_putFactor_13 (re_o S) rfl ?_
      refine x_aald (t := 5) G rfl rfl dX1_putFactor_16 (re_y S) (vp_in_nI (show op < 7 by omega) (by decide)) (show (if (nI (op)).toNatClampNeg < 7 then some (q + 2 + (nI (op)).toNatClampNeg) else none) = some (q + 2 + (op)) by rw [nI_clamp (by omega), if_pos (by omega)]) ?_
      refine x_iload_n G dX1_putFactor_17 rfl ?_
      refine x_dup2 G dX1_putFactor_18 rfl rfl ?_
      refine x_laldN G dX1_putFactor_19 (re_t S (show op < 7 by omega)) (by omega) (by decide) ?_
      refine x_aload_n G dX1_putFactor_20 rfl ?_
      refine x_get G kX1 inX1 1 (by decide) (by decide +kernel) dX1_putFactor_21 (re_o S) rfl ?_
      refine x_aload_n G dX1_putFactor_24 rfl ?_
      refine x_get G kX1 inX1 3 (by decide) (by decide +kernel) dX1_putFactor_25 (re_o S) rfl ?_
      refine x_ialdN G dX1_putFactor_28 (re_s S) (show op < 7 by omega) (by decide) ?_
      refine x_i2l G dX1_putFactor_29 ?_
      refine x_aload_n G dX1_putFactor_30 rfl ?_
      refine x_get G kX1 inX1 2 (by decide) (by decide +kernel) dX1_putFactor_31 (re_o S) rfl ?_
      refine x_iload_n G dX1_putFactor_34 rfl ?_
      refine x_laldN G dX1_putFactor_35 (re_f S) (by omega) (by decide) ?_
      refine x_lmul G dX1_putFactor_36 ?_
      refine x_ladd G dX1_putFactor_37 ?_
      refine x_lastN G dX1_putFactor_38 (re_t S (show op < 7 by omega)) (by omega) (by decide) ?_
      replace S := re_ts S (show op < 7 by omega) (vp_updL (sl_u tt op (at_s (tt op) fc (sn op).toInt64 j) op) j (sl_u tt op (at_s (tt op) fc (sn op).toInt64 j) op j + (sn op).toInt64 * fc j))
      replace F := xF_up (a := q + 2 + op) (e := .inl (dA 1, 10, .inr (.inl (vp_updL (sl_u tt op (at_s (tt op) fc (sn op).toInt64 j) op) j (sl_u tt op (at_s (tt op) fc (sn op).toInt64 j) op j + (sn op).toInt64 * fc j))))) F (by omega) (by omega)
      rw [sl_ue, at_ss] at S F ⊢
      rw [sl_uu] at S
      refine x_iinc G dX1_putFactor_39 rfl (by decide) ?_
      refine x_locE (lv2 := [(0, .ref q), (1, .int (nI (j + 1)))]) (by rw [nI_succ j]; rfl) ?_
      refine x_goto G 2 dX1_putFactor_42 (by decide) ?_
      exact nx () _ _ ⟨S, F⟩
  · intro _ h1 sz1 hI
    try dsimp only at hI ⊢
    obtain ⟨S, F⟩ := hI
    refine x_iload_n G dX1_putFactor_2 rfl ?_
    refine x_bipushV (v := nI 10) G dX1_putFactor_3 (by decide) ?_
    refine x_icmp_ge G 45 dX1_putFactor_5 (by decide) (fun c_5 => ?_) (fun c_5 => ?_)
    · exact x_vret G dX1_putFactor_45 (hpost _ _ S F)
    · exact absurd (nI_le (Nat.le_refl _) (by omega)) c_5
theorem inX1_joinNext_1 : ∀ w ∈ wsX10, w ∈ wsX1_joinNext := by decide +kernel
set_option maxRecDepth 100000 in
set_option maxHeartbeats 4000000 in
/-- joinNext -/
theorem c_X1_joinNext (l : Launch) (D : va_G) {dA : Nat → ClassId} {q : Nat} {tt : Nat → Nat → Int64} {sn : Nat → Int32} {fc : Nat → Int64} {op ex : Nat} {ps sd le pl : Int32} {v : Int32} {h : xH} {sz : Nat} {Post : Option Value → xH → Nat → Prop} (ho : op < 7) (S : Rd dA h q tt sn fc op ex ps sd le pl) (hpost : ∀ (h1 : xH) (sz1 : Nat), Rd dA h1 q (sl_u tt op (at_s (tt op) fc (sn op).toInt64 10)) (upd sn op v) fc op 0 ps sd le pl → xF q (q + 11) h h1 → Post none h1 sz1) : xMet l yX1_joinNext wsX1_joinNext 1 24 0 0 D dA [.ref q, .int v] h sz Post := by
  refine x_open (cc := cX1_joinNext) (maxL := 2) (ret := none) (by decide) rfl (Nat.le_of_ble_eq_true rfl) ?_
  intro p e s m args below meth c G _
  have inX1 : ∀ w ∈ wsX10, w ∈ wsX1_joinNext := inX1_joinNext_1
  have F := xF_rf (lo := q) (hi := q + 11) (h := h)
  refine x_aload_n G dX1_joinNext_0 rfl ?_
  refine x_callV (n := 0) (rest := []) (As := []) G (ci := 1) (c_X1_putFactor (Post := fun r7 h7 sz7 => r7 = none ∧ Rd dA h7 q (sl_u tt op (at_s (tt op) fc (sn op).toInt64 10)) sn fc op ex ps sd le pl ∧ xF q (q + 11) _ h7) l D ho S (fun h7 sz7 q1 q2 => ⟨rfl, q1, q2⟩)) gX1_joinNext_X1_putFactor rfl ⟨rfl, by decide +kernel, by decide +kernel, by decide +kernel⟩ ⟨by decide, by decide⟩ rfl rfl (re_o S) dX1_joinNext_1 rfl rfl (Nat.le_of_ble_eq_true rfl) ⟨by decide, by decide⟩ ?_
  rintro _ h2 sz2 ⟨rfl, S, F2⟩
  try dsimp only [Option.toList, List.cons_append, List.nil_append]
  replace F := xF_tr F F2
  refine x_aload_n G dX1_joinNext_4 rfl ?_
  refine x_get G kX1 inX1 1 (by decide) (by decide +kernel) dX1_joinNext_5 (re_o S) rfl ?_
  refine x_aload_n G dX1_joinNext_8 rfl ?_
  refine x_get G kX1 inX1 3 (by decide) (by decide +kernel) dX1_joinNext_9 (re_o S) rfl ?_
  refine x_iload_n G dX1_joinNext_12 rfl ?_
  refine x_iastN G dX1_joinNext_13 (re_s S) (show op < 7 by omega) (by decide) ?_
  replace S := re_ss S (upd sn op v)
  replace F := xF_up (a := q + 9) (e := .inl (dA 0, 7, .inl (upd sn op v))) F (by omega) (by omega)
  refine x_aload_n G dX1_joinNext_14 rfl ?_
  refine x_iconstV (v := nI 0) G dX1_joinNext_15 (by decide) ?_
  refine x_put G kX1 inX1 4 (by decide) (by decide +kernel) rfl dX1_joinNext_16 (re_o S) rfl rfl (Nat.le_of_ble_eq_true rfl) ?_
  replace S := re_os S op 0 ps sd le pl
  replace F := xF_up (a := q) (e := .inr (1, [.ref (q + 1), .ref (q + 9), .ref (q + 10), .int (nI (op)), .int (nI (0)), .int (ps), .int (sd), .int (le), .int (pl)])) F (by omega) (by omega)
  exact x_vret G dX1_joinNext_19 (hpost _ _ S F)
theorem inX1_takeClosing_1 : ∀ w ∈ wsX10, w ∈ wsX1_takeClosing := by decide +kernel
set_option maxRecDepth 100000 in
set_option maxHeartbeats 4000000 in
/-- takeClosing -/
theorem c_X1_takeClosing (l : Launch) (D : va_G) {dA : Nat → ClassId} {q : Nat} {tt : Nat → Nat → Int64} {sn : Nat → Int32} {fc : Nat → Int64} {op ex : Nat} {ps sd le pl : Int32} {h : xH} {sz : Nat} {Post : Option Value → xH → Nat → Prop} (ho : op < 7) (ho0 : 0 < op) (S : Rd dA h q tt sn fc op ex ps sd le pl) (hpost : ∀ (h1 : xH) (sz1 : Nat), Rd dA h1 q (sl_u tt op (at_s (tt op) fc (sn op).toInt64 10)) sn (va_cpy (at_s (tt op) fc (sn op).toInt64 10) fc 0 0 10) (op - 1) 1 ps sd le pl → xF q (q + 11) h h1 → Post none h1 sz1) : xMet l yX1_takeClosing wsX1_takeClosing 1 40 0 0 D dA [.ref q] h sz Post := by
  refine x_open (cc := cX1_takeClosing) (maxL := 1) (ret := none) (by decide) rfl (Nat.le_of_ble_eq_true rfl) ?_
  intro p e s m args below meth c G _
  have inX1 : ∀ w ∈ wsX10, w ∈ wsX1_takeClosing := inX1_takeClosing_1
  have F := xF_rf (lo := q) (hi := q + 11) (h := h)
  refine x_aload_n G dX1_takeClosing_0 rfl ?_
  refine x_callV (n := 0) (rest := []) (As := []) G (ci := 1) (c_X1_putFactor (Post := fun r7 h7 sz7 => r7 = none ∧ Rd dA h7 q (sl_u tt op (at_s (tt op) fc (sn op).toInt64 10)) sn fc op ex ps sd le pl ∧ xF q (q + 11) _ h7) l D ho S (fun h7 sz7 q1 q2 => ⟨rfl, q1, q2⟩)) gX1_takeClosing_X1_putFactor rfl ⟨rfl, by decide +kernel, by decide +kernel, by decide +kernel⟩ ⟨by decide, by decide⟩ rfl rfl (re_o S) dX1_takeClosing_1 rfl rfl (Nat.le_of_ble_eq_true rfl) ⟨by decide, by decide⟩ ?_
  rintro _ h2 sz2 ⟨rfl, S, F2⟩
  try dsimp only [Option.toList, List.cons_append, List.nil_append]
  replace F := xF_tr F F2
  have ft := re_t S (show op < 7 by omega)
  rw [sl_ue] at ft
  refine x_aload_n G dX1_takeClosing_4 rfl ?_
  refine x_get G kX1 inX1 0 (by decide) (by decide +kernel) dX1_takeClosing_5 (re_o S) rfl ?_
  refine x_aload_n G dX1_takeClosing_8 rfl ?_
  refine x_get G kX1 inX1 3 (by decide) (by decide +kernel) dX1_takeClosing_9 (re_o S) rfl ?_
  refine x_aald (t := 5) G rfl rfl dX1_takeClosing_12 (re_y S) (vp_in_nI (show op < 7 by omega) (by decide)) (show (if (nI (op)).toNatClampNeg < 7 then some (q + 2 + (nI (op)).toNatClampNeg) else none) = some (q + 2 + (op)) by rw [nI_clamp (by omega), if_pos (by omega)]) ?_
  refine x_iconstV (v := nI 0) G dX1_takeClosing_13 (by decide) ?_
  refine x_aload_n G dX1_takeClosing_14 rfl ?_
  refine x_get G kX1 inX1 2 (by decide) (by decide +kernel) dX1_takeClosing_15 (re_o S) rfl ?_
  refine x_iconstV (v := nI 0) G dX1_takeClosing_18 (by decide) ?_
  refine x_bipushV (v := nI 10) G dX1_takeClosing_19 (by decide) ?_
  refine x_copyl G (by decide +kernel) (by decide +kernel) (by decide +kernel) (by decide +kernel) dX1_takeClosing_21 ft (re_f S) (by decide) (by decide) (by decide) (by decide) (by decide) (by decide) (by decide) ?_
  intro sz3
  rw [show (nI 0).toNatClampNeg = 0 from rfl, show (nI 10).toNatClampNeg = 10 from rfl]
  replace S := re_fs S (va_cpy (at_s (tt op) fc (sn op).toInt64 10) fc 0 0 10)
  replace F := xF_up (a := q + 10) (e := .inl (dA 1, 10, .inr (.inl (va_cpy (at_s (tt op) fc (sn op).toInt64 10) fc 0 0 10)))) F (by omega) (by omega)
  refine x_aload_n G dX1_takeClosing_24 rfl ?_
  refine x_dup G dX1_takeClosing_25 rfl ?_
  refine x_get G kX1 inX1 3 (by decide) (by decide +kernel) dX1_takeClosing_26 (re_o S) rfl ?_
  refine x_iconstV (v := nI 1) G dX1_takeClosing_29 (by decide) ?_
  refine x_isub G dX1_takeClosing_30 ?_
  refine x_topE (y := nI (op - 1)) (pk_sub (by omega)) ?_
  refine x_put G kX1 inX1 3 (by decide) (by decide +kernel) rfl dX1_takeClosing_31 (re_o S) rfl rfl (Nat.le_of_ble_eq_true rfl) ?_
  replace S := re_os S (op - 1) ex ps sd le pl
  replace F := xF_up (a := q) (e := .inr (1, [.ref (q + 1), .ref (q + 9), .ref (q + 10), .int (nI (op - 1)), .int (nI (ex)), .int (ps), .int (sd), .int (le), .int (pl)])) F (by omega) (by omega)
  refine x_aload_n G dX1_takeClosing_34 rfl ?_
  refine x_iconstV (v := nI 1) G dX1_takeClosing_35 (by decide) ?_
  refine x_put G kX1 inX1 4 (by decide) (by decide +kernel) rfl dX1_takeClosing_36 (re_o S) rfl rfl (Nat.le_of_ble_eq_true rfl) ?_
  replace S := re_os S (op - 1) 1 ps sd le pl
  replace F := xF_up (a := q) (e := .inr (1, [.ref (q + 1), .ref (q + 9), .ref (q + 10), .int (nI (op - 1)), .int (nI (1)), .int (ps), .int (sd), .int (le), .int (pl)])) F (by omega) (by omega)
  exact x_vret G dX1_takeClosing_39 (hpost _ _ S F)
theorem inX1_takeOpening_1 : ∀ w ∈ wsX10, w ∈ wsX1_takeOpening := by decide +kernel
set_option maxRecDepth 100000 in
set_option maxHeartbeats 4000000 in
/-- takeOpening -/
theorem c_X1_takeOpening (l : Launch) (D : va_G) {dA : Nat → ClassId} {q : Nat} {tt : Nat → Nat → Int64} {sn : Nat → Int32} {fc : Nat → Int64} {op ex : Nat} {ps sd le pl : Int32} {h : xH} {sz : Nat} {Post : Option Value → xH → Nat → Prop} (ho : op < 7) (S : Rd dA h q tt sn fc op ex ps sd le pl) (hp1 : ¬ op < 6 → Post (some (.int (nI 2))) h sz) (hp2 : op < 6 → ∀ (h1 : xH) (sz1 : Nat), Rd dA h1 q (sl_u tt (op + 1) (fl_L (tt (op + 1)) 0 10)) (upd sn (op + 1) 1) fc (op + 1) 0 ps sd le pl → xF q (q + 11) h h1 → Post (some (.int (nI 0))) h1 sz1) (hpost : True) : xMet l yX1_takeOpening wsX1_takeOpening 1 24 0 0 D dA [.ref q] h sz Post := by
  refine x_open (cc := cX1_takeOpening) (maxL := 1) (ret := (some .int)) (by decide) rfl (Nat.le_of_ble_eq_true rfl) ?_
  intro p e s m args below meth c G _
  have inX1 : ∀ w ∈ wsX10, w ∈ wsX1_takeOpening := inX1_takeOpening_1
  have F := xF_rf (lo := q) (hi := q + 11) (h := h)
  refine x_aload_n G dX1_takeOpening_0 rfl ?_
  refine x_get G kX1 inX1 3 (by decide) (by decide +kernel) dX1_takeOpening_1 (re_o S) rfl ?_
  refine x_bipushV (v := nI 6) G dX1_takeOpening_4 (by decide) ?_
  refine x_icmp_lt G 11 dX1_takeOpening_6 (by decide) (fun c_6 => ?_) (fun c_6 => ?_)
  · have e : op < 6 := by
      rcases Nat.lt_or_ge op 6 with z | z
      · exact z
      · exact absurd (nI_le z (by omega)) (Int32.not_le.mpr c_6)
    refine x_aload_n G dX1_takeOpening_11 rfl ?_
    refine x_dup G dX1_takeOpening_12 rfl ?_
    refine x_get G kX1 inX1 3 (by decide) (by decide +kernel) dX1_takeOpening_13 (re_o S) rfl ?_
    refine x_iconstV (v := nI 1) G dX1_takeOpening_16 (by decide) ?_
    refine x_iadd G dX1_takeOpening_17 ?_
    refine x_topE (y := nI (op + 1)) (nI_1 op) ?_
    refine x_put G kX1 inX1 3 (by decide) (by decide +kernel) rfl dX1_takeOpening_18 (re_o S) rfl rfl (Nat.le_of_ble_eq_true rfl) ?_
    replace S := re_os S (op + 1) ex ps sd le pl
    replace F := xF_up (a := q) (e := .inr (1, [.ref (q + 1), .ref (q + 9), .ref (q + 10), .int (nI (op + 1)), .int (nI (ex)), .int (ps), .int (sd), .int (le), .int (pl)])) F (by omega) (by omega)
    refine x_aload_n G dX1_takeOpening_21 rfl ?_
    refine x_callV (n := 0) (rest := []) (As := []) G (ci := 1) (c_X1_startTotal (Post := fun r7 h7 sz7 => r7 = none ∧ Rd dA h7 q (sl_u tt (op + 1) (fl_L (tt (op + 1)) 0 10)) (upd sn (op + 1) 1) fc (op + 1) 0 ps sd le pl ∧ xF q (q + 11) _ h7) l D (by omega) S (fun h7 sz7 q1 q2 => ⟨rfl, q1, q2⟩)) gX1_takeOpening_X1_startTotal rfl ⟨rfl, by decide +kernel, by decide +kernel, by decide +kernel⟩ ⟨by decide, by decide⟩ rfl rfl (re_o S) dX1_takeOpening_22 rfl rfl (Nat.le_of_ble_eq_true rfl) ⟨by decide, by decide⟩ ?_
    rintro _ h2 sz2 ⟨rfl, S, F2⟩
    try dsimp only [Option.toList, List.cons_append, List.nil_append]
    replace F := xF_tr F F2
    refine x_iconstV (v := nI 0) G dX1_takeOpening_25 (by decide) ?_
    exact x_iret G dX1_takeOpening_26 (hp2 e _ _ S F)
  · have e : ¬ op < 6 := fun z => c_6 (Int32.not_le.mp (nI_ge z (by decide)))
    exact (by
      refine x_iconstV (v := nI 2) G dX1_takeOpening_9 (by decide) ?_
      exact x_iret G dX1_takeOpening_10 (hp1 e))
theorem inX1_takeFigure_1 : ∀ w ∈ wsX10, w ∈ wsX1_takeFigure := by decide +kernel
def fg_s (f : Nat → Int64) (t : Int64) (j : Nat) : Nat → Int64 := fun k => if k < j then f k * t else f k
theorem fg_0 {f : Nat → Int64} {t : Int64} : fg_s f t 0 = f := by
  funext k
  unfold fg_s
  rw [if_neg (by omega)]
theorem fg_ss {f : Nat → Int64} {t : Int64} {j : Nat} : vp_updL (fg_s f t j) j (fg_s f t j j * t) = fg_s f t (j + 1) := by
  have e0 : fg_s f t j j = f j := if_neg (by omega)
  rw [e0]
  funext k
  unfold vp_updL fg_s
  by_cases e : k = j
  · subst e
    rw [if_pos rfl, if_pos (by omega)]
  · rw [if_neg e]
    by_cases e2 : k < j
    · rw [if_pos e2, if_pos (by omega)]
    · rw [if_neg e2, if_neg (by omega)]
set_option maxRecDepth 100000 in
set_option maxHeartbeats 4000000 in
/-- takeFigure -/
theorem c_X1_takeFigure (l : Launch) (D : va_G) {dA : Nat → ClassId} {q : Nat} {tt : Nat → Nat → Int64} {sn : Nat → Int32} {fc : Nat → Int64} {op ex : Nat} {ps sd le pl : Int32} {v : Int32} {h : xH} {sz : Nat} {Post : Option Value → xH → Nat → Prop} (S : Rd dA h q tt sn fc op ex ps sd le pl) (hp1 : ¬ (nI 48 ≤ v ∧ v ≤ nI 57) → Post (some (.int (nI 1))) h sz) (hp2 : nI 48 ≤ v ∧ v ≤ nI 57 → ∀ (h1 : xH) (sz1 : Nat), Rd dA h1 q tt sn (fg_s fc (ps * (v - nI 48)).toInt64 10) op 4 ps sd le pl → xF q (q + 11) h h1 → Post (some (.int (nI 0))) h1 sz1) (hpost : True) : xMet l yX1_takeFigure wsX1_takeFigure 0 0 0 0 D dA [.ref q, .int v] h sz Post := by
  refine x_open (cc := cX1_takeFigure) (maxL := 3) (ret := (some .int)) (by decide) rfl (Nat.le_of_ble_eq_true rfl) ?_
  intro p e s m args below meth c G _
  have inX1 : ∀ w ∈ wsX10, w ∈ wsX1_takeFigure := inX1_takeFigure_1
  have F := xF_rf (lo := q) (hi := q + 11) (h := h)
  refine x_iload_n G dX1_takeFigure_0 rfl ?_
  refine x_bipushV (v := nI 48) G dX1_takeFigure_1 (by decide) ?_
  refine x_icmp_lt G 12 dX1_takeFigure_3 (by decide) (fun c_3 => ?_) (fun c_3 => ?_)
  · have e : ¬ (nI 48 ≤ v ∧ v ≤ nI 57) := fun z => absurd z.1 (Int32.not_le.mpr c_3)
    exact (by
      refine x_iconstV (v := nI 1) G dX1_takeFigure_12 (by decide) ?_
      exact x_iret G dX1_takeFigure_13 (hp1 e))
  · have e1 := Int32.not_lt.mp c_3
    refine x_iload_n G dX1_takeFigure_6 rfl ?_
    refine x_bipushV (v := nI 57) G dX1_takeFigure_7 (by decide) ?_
    refine x_icmp_le G 14 dX1_takeFigure_9 (by decide) (fun c_9 => ?_) (fun c_9 => ?_)
    · have e : nI 48 ≤ v ∧ v ≤ nI 57 := ⟨e1, c_9⟩
      refine x_iconstV (v := nI 0) G dX1_takeFigure_14 (by decide) ?_
      refine x_istore_n G dX1_takeFigure_15 (by decide) ?_
      refine x_loop (σ := Unit) (fun j _ => [(0, .ref q), (1, .int v), (2, .int (nI j))]) 10 (fun j _ h1 sz1 => Rd dA h1 q tt sn (fg_s fc (ps * (v - nI 48)).toInt64 j) op ex ps sd le pl ∧ xF q (q + 11) h h1) ?_ ?_ 0 () _ _ (Nat.zero_le _) ⟨by rw [fg_0]; exact S, F⟩
      · intro j _ h1 sz1 hj hI nx
        try dsimp only at hI nx ⊢
        obtain ⟨S, F⟩ := hI
        refine x_iload_n G dX1_takeFigure_16 rfl ?_
        refine x_bipushV (v := nI 10) G dX1_takeFigure_17 (by decide) ?_
        refine x_icmp_ge G 47 dX1_takeFigure_19 (by decide) (fun c_19 => ?_) (fun c_19 => ?_)
        · exact absurd c_19 (nI_ge hj (by omega))
        · refine x_aload_n G dX1_takeFigure_22 rfl ?_
          refine x_get G kX1 inX1 2 (by decide) (by decide +kernel) dX1_takeFigure_23 (re_o S) rfl ?_
          refine x_iload_n G dX1_takeFigure_26 rfl ?_
          refine x_dup2 G dX1_takeFigure_27 rfl rfl ?_
          refine x_laldN G dX1_takeFigure_28 (re_f S) (by omega) (by decide) ?_
          refine x_aload_n G dX1_takeFigure_29 rfl ?_
          refine x_get G kX1 inX1 5 (by decide) (by decide +kernel) dX1_takeFigure_30 (re_o S) rfl ?_
          refine x_iload_n G dX1_takeFigure_33 rfl ?_
          refine x_bipushV (v := nI 48) G dX1_takeFigure_34 (by decide) ?_
          refine x_isub G dX1_takeFigure_36 ?_
          refine x_imul G dX1_takeFigure_37 ?_
          refine x_i2l G dX1_takeFigure_38 ?_
          refine x_lmul G dX1_takeFigure_39 ?_
          refine x_lastN G dX1_takeFigure_40 (re_f S) (by omega) (by decide) ?_
          replace S := re_fs S (vp_updL (fg_s fc (ps * (v - nI 48)).toInt64 j) j ((fg_s fc (ps * (v - nI 48)).toInt64 j) j * (ps * (v - nI 48)).toInt64))
          replace F := xF_up (a := q + 10) (e := .inl (dA 1, 10, .inr (.inl (vp_updL (fg_s fc (ps * (v - nI 48)).toInt64 j) j ((fg_s fc (ps * (v - nI 48)).toInt64 j) j * (ps * (v - nI 48)).toInt64))))) F (by omega) (by omega)
          rw [fg_ss] at S F ⊢
          refine x_iinc G dX1_takeFigure_41 rfl (by decide) ?_
          refine x_locE (lv2 := [(0, .ref q), (1, .int v), (2, .int (nI (j + 1)))]) (by rw [nI_succ j]; rfl) ?_
          refine x_goto G 16 dX1_takeFigure_44 (by decide) ?_
          exact nx () _ _ ⟨S, F⟩
      · intro _ h1 sz1 hI
        try dsimp only at hI ⊢
        obtain ⟨S, F⟩ := hI
        refine x_iload_n G dX1_takeFigure_16 rfl ?_
        refine x_bipushV (v := nI 10) G dX1_takeFigure_17 (by decide) ?_
        refine x_icmp_ge G 47 dX1_takeFigure_19 (by decide) (fun c_19 => ?_) (fun c_19 => ?_)
        · refine x_aload_n G dX1_takeFigure_47 rfl ?_
          refine x_iconstV (v := nI 4) G dX1_takeFigure_48 (by decide) ?_
          refine x_put G kX1 inX1 4 (by decide) (by decide +kernel) rfl dX1_takeFigure_49 (re_o S) rfl rfl (Nat.le_of_ble_eq_true rfl) ?_
          replace S := re_os S op 4 ps sd le pl
          replace F := xF_up (a := q) (e := .inr (1, [.ref (q + 1), .ref (q + 9), .ref (q + 10), .int (nI (op)), .int (nI (4)), .int (ps), .int (sd), .int (le), .int (pl)])) F (by omega) (by omega)
          refine x_iconstV (v := nI 0) G dX1_takeFigure_52 (by decide) ?_
          exact x_iret G dX1_takeFigure_53 (hp2 e _ _ S F)
        · exact absurd (nI_le (Nat.le_refl _) (by omega)) c_19
    · have e : ¬ (nI 48 ≤ v ∧ v ≤ nI 57) := fun z => c_9 z.2
      exact (by
        refine x_iconstV (v := nI 1) G dX1_takeFigure_12 (by decide) ?_
        exact x_iret G dX1_takeFigure_13 (hp1 e))
