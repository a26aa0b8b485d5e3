/-! ## The class: sayings put in: putSaying, solveAnew, isSpare, countSpare, neededSet -/
/-- weighed by a saying -/
def sw_u2 (po : Nat → Int32) (u : slT) : slT := (u.1, u.2.1, wg_g po u.1 u.2.2.1 u.2.2.2.2.2, wg_l po u.2.1 u.2.2.2.1 4, u.2.2.2.2.1, u.2.2.2.2.2)
/-- a saying put in -/
def su (po : Nat → Int32) (u : slT) : slT := ((pu po u.1 u.2.1 u.2.2.1 u.2.2.2.1 u.2.2.2.2.1 u.2.2.2.2.2).1, (pu po u.1 u.2.1 u.2.2.1 u.2.2.2.1 u.2.2.2.2.1 u.2.2.2.2.2).2.1, wg_g po u.1 u.2.2.1 u.2.2.2.2.2, wg_l po u.2.1 u.2.2.2.1 4, (pu po u.1 u.2.1 u.2.2.1 u.2.2.2.1 u.2.2.2.2.1 u.2.2.2.2.2).2.2.1, (pu po u.1 u.2.1 u.2.2.1 u.2.2.2.1 u.2.2.2.2.1 u.2.2.2.2.2).2.2.2)
/-- cleared -/
def sc (u : slT) : slT := (cl_f u.1 6, cl_l u.2.1 4, u.2.2.1, u.2.2.2.1, u.2.2.2.2.1, 6)
def im_u (po : Nat → Int32) (u : slT) : Bool := im_b po u.1 u.2.1 u.2.2.1 u.2.2.2.1 u.2.2.2.2.2
def ag_u (po : Nat → Int32) (u : slT) : Bool := ag_b po u.1 u.2.1 u.2.2.1 u.2.2.2.1 u.2.2.2.2.2
def sa (sy : Nat → Nat → Int32) (u : slT) : Nat → slT
  | 0 => sc u
  | k + 1 => su (sy k) (sa sy u k)
def so_k (sy : Nat → Nat → Int32) (u : slT) (k : Nat) : Nat → slT
  | 0 => sc u
  | i + 1 => if i = k then so_k sy u k i else su (sy i) (so_k sy u k i)
def cs (sy : Nat → Nat → Int32) (n : Nat) (u : slT) : Nat → Nat × slT
  | 0 => (0, u)
  | k + 1 => ((cs sy n u k).1 + (if im_u (sy k) (so_k sy (cs sy n u k).2 k n) = true then 1 else 0), sw_u2 (sy k) (so_k sy (cs sy n u k).2 k n))
def ns (sy : Nat → Nat → Int32) (u : slT) : Nat → Nat × slT
  | 0 => (0, sc u)
  | k + 1 => if im_u (sy k) (ns sy u k).2 = true then ((ns sy u k).1, sw_u2 (sy k) (ns sy u k).2) else ((ns sy u k).1 + 2 ^ k, su (sy k) (sw_u2 (sy k) (ns sy u k).2))
theorem su_n {po : Nat → Int32} {u : slT} : (su po u).2.2.2.2.2 ≤ u.2.2.2.2.2 := by
  show (pu po u.1 u.2.1 u.2.2.1 u.2.2.2.1 u.2.2.2.2.1 u.2.2.2.2.2).2.2.2 ≤ u.2.2.2.2.2
  unfold pu
  split
  · exact Nat.le_refl _
  · exact Nat.sub_le _ _
theorem sa_n {sy : Nat → Nat → Int32} {u : slT} : ∀ {k : Nat}, (sa sy u k).2.2.2.2.2 ≤ 6
  | 0 => Nat.le_refl _
  | k + 1 => Nat.le_trans su_n sa_n
theorem so_n {sy : Nat → Nat → Int32} {u : slT} {k : Nat} : ∀ {i : Nat}, (so_k sy u k i).2.2.2.2.2 ≤ 6
  | 0 => Nat.le_refl _
  | i + 1 => by
    show (if i = k then so_k sy u k i else su (sy i) (so_k sy u k i)).2.2.2.2.2 ≤ 6
    split
    · exact so_n
    · exact Nat.le_trans su_n so_n
theorem ns_n {sy : Nat → Nat → Int32} {u : slT} : ∀ {k : Nat}, (ns sy u k).2.2.2.2.2.2 ≤ 6
  | 0 => Nat.le_refl _
  | k + 1 => by
    show (if im_u (sy k) (ns sy u k).2 = true then ((ns sy u k).1, sw_u2 (sy k) (ns sy u k).2) else ((ns sy u k).1 + 2 ^ k, su (sy k) (sw_u2 (sy k) (ns sy u k).2))).2.2.2.2.2.2 ≤ 6
    split
    · exact ns_n
    · exact Nat.le_trans su_n ns_n
theorem ns_lt {sy : Nat → Nat → Int32} {u : slT} : ∀ {k : Nat}, (ns sy u k).1 < 2 ^ k
  | 0 => Nat.le_refl _
  | k + 1 => by
    have ih := ns_lt (sy := sy) (u := u) (k := k)
    show (if im_u (sy k) (ns sy u k).2 = true then ((ns sy u k).1, sw_u2 (sy k) (ns sy u k).2) else ((ns sy u k).1 + 2 ^ k, su (sy k) (sw_u2 (sy k) (ns sy u k).2))).1 < 2 ^ (k + 1)
    rw [Nat.pow_succ]
    split
    · show (ns sy u k).1 < _
      omega
    · show (ns sy u k).1 + 2 ^ k < _
      omega
/-- the calls of a Solutions, by its numbers -/
theorem c_u_clear (l : Launch) (D : va_G) {dA : Nat → ClassId} {w : Nat} {u : slT} {h : xH} {sz : Nat} {Post : Option Value → xH → Nat → Prop} (S : SlT dA h w u) (hpost : ∀ h1 : xH, SlT dA h1 w (sc u) → xF w (w + 16) h h1 → Post none h1 sz) : xMet l yX2_clear wsX2_clear 1 40 0 0 D dA [.ref w] h sz Post := by
  obtain ⟨ad, S⟩ := S
  exact c_X2_clear l D S (fun h1 S1 F => hpost h1 ⟨ad, S1⟩ F)
theorem c_u_put (l : Launch) (D : va_G) {dA : Nat → ClassId} {w a n1 : Nat} {u : slT} {po : Nat → Int32} {h : xH} {sz : Nat} {Post : Option Value → xH → Nat → Prop} (hn : u.2.2.2.2.2 ≤ 6) (ho : a < w ∨ w + 16 ≤ a) (hn1 : 10 ≤ n1) (hn2 : n1 < 2000) (hp : h a = some (.inl (dA 0, n1, .inl po))) (S : SlT dA h w u) (hpost : ∀ (h1 : xH) (sz1 : Nat), SlT dA h1 w (su po u) → xF w (w + 16) h h1 → Post none h1 sz1) : xMet l yX2_put wsX2_put 3 76 0 0 D dA [.ref w, .ref a] h sz Post := by
  obtain ⟨ad, S⟩ := S
  exact c_X2_put l D hn ho hn1 hn2 hp S (fun h1 sz1 ad1 S1 F => hpost h1 sz1 ⟨ad1, S1⟩ F)
theorem c_u_imply (l : Launch) (D : va_G) {dA : Nat → ClassId} {w a n1 : Nat} {u : slT} {po : Nat → Int32} {h : xH} {sz : Nat} {Post : Option Value → xH → Nat → Prop} (hn : u.2.2.2.2.2 ≤ 6) (ho : a < w ∨ w + 16 ≤ a) (hn1 : 10 ≤ n1) (hn2 : n1 < 2000) (hp : h a = some (.inl (dA 0, n1, .inl po))) (S : SlT dA h w u) (hpost : ∀ (h1 : xH) (sz1 : Nat), SlT dA h1 w (sw_u2 po u) → xF w (w + 16) h h1 → Post (some (.int (x_b (im_u po u = true)))) h1 sz1) : xMet l yX2_imply wsX2_imply 3 90 0 0 D dA [.ref w, .ref a] h sz Post := by
  obtain ⟨ad, S⟩ := S
  exact c_X2_imply l D hn ho hn1 hn2 hp S (fun h1 sz1 S1 F => hpost h1 sz1 ⟨ad, S1⟩ F)
theorem c_u_agrees (l : Launch) (D : va_G) {dA : Nat → ClassId} {w a n1 : Nat} {u : slT} {po : Nat → Int32} {h : xH} {sz : Nat} {Post : Option Value → xH → Nat → Prop} (hn : u.2.2.2.2.2 ≤ 6) (ho : a < w ∨ w + 16 ≤ a) (hn1 : 10 ≤ n1) (hn2 : n1 < 2000) (hp : h a = some (.inl (dA 0, n1, .inl po))) (S : SlT dA h w u) (hpost : ∀ (h1 : xH) (sz1 : Nat), SlT dA h1 w (sw_u2 po u) → xF w (w + 16) h h1 → Post (some (.int (x_b (ag_u po u = true)))) h1 sz1) : xMet l yX2_agrees wsX2_agrees 3 90 0 0 D dA [.ref w, .ref a] h sz Post := by
  obtain ⟨ad, S⟩ := S
  exact c_X2_agrees l D hn ho hn1 hn2 hp S (fun h1 sz1 S1 F => hpost h1 sz1 ⟨ad, S1⟩ F)
theorem slt_o {dA : Nat → ClassId} {h : xH} {w : Nat} {u : slT} (S : SlT dA h w u) : ∃ fs, h w = some (.inr (2, fs)) := by
  obtain ⟨ad, S⟩ := S
  exact ⟨_, sl_o S⟩
theorem inX4_putSaying_4 : ∀ w ∈ wsX40, w ∈ wsX4_putSaying := by decide +kernel
set_option maxRecDepth 100000 in
set_option maxHeartbeats 4000000 in
/-- putSaying -/
theorem c_X4_putSaying (l : Launch) (D : va_G) {dA : Nat → ClassId} {b : Nat} {tx : Nat → Int32} {ln : Nat} {fa : Int32} {x : rT} {pl : Int32} {rd : Nat → Int32} {im : Nat → sT} {ss : Nat → sT} {mx : Nat} {ct : Nat} {so : slT} {ot : slT} {sy : Nat → Nat → Int32} {ab be : Nat → Int32} {n : Nat} {dw kp : Int32} {h : xH} {sz : Nat} {Post : Option Value → xH → Nat → Prop} (hn6 : n < 6) (hs6 : so.2.2.2.2.2 ≤ 6) (U : Uv dA h b tx ln fa x pl rd ((sy, ab, be, nI n, dw, kp)) im ss mx ct so ot) (hpost : ∀ (h1 : xH) (sz1 : Nat), Uv dA h1 b tx ln fa x pl rd ((fun i => if i = n then va_cpy rd (sy n) 0 0 10 else sy i, ab, be, nI (n + 1), dw, kp)) im ss mx ct (su rd so) ot → xF b (b + 279) h h1 → Post none h1 sz1) : xMet l yX4_putSaying wsX4_putSaying 4 100 0 0 D dA [.ref b] h sz Post := by
  refine x_open (cc := cX4_putSaying) (maxL := 1) (ret := none) (by decide) rfl (Nat.le_of_ble_eq_true rfl) ?_
  intro p e s m args below meth c G _
  have inX4 : ∀ w ∈ wsX40, w ∈ wsX4_putSaying := inX4_putSaying_4
  have F := xF_rf (lo := b) (hi := b + 279) (h := h)
  refine x_aload_n G dX4_putSaying_0 rfl ?_
  refine x_get G kX4 inX4 5 (by decide) (by decide +kernel) dX4_putSaying_1 (uv_o U) rfl ?_
  refine x_aload_n G dX4_putSaying_4 rfl ?_
  refine x_get G kX4 inX4 4 (by decide) (by decide +kernel) dX4_putSaying_5 (uv_o U) rfl ?_
  refine x_callV (n := 1) (rest := []) (As := [.ref (b + 13)]) G (ci := 3) (c_X3_put (Post := fun r7 h7 sz7 => r7 = none ∧ StT dA h7 (b + 14) (fun i => if i = n then va_cpy rd (sy n) 0 0 10 else sy i, ab, be, nI (n + 1), dw, kp) ∧ xF (b + 14) (b + 14 + 10) h h7) l D hn6 (uv_d U) (uv_n U) (fun h7 sz7 q1 q2 => ⟨rfl, q1, q2⟩)) gX4_putSaying_X3_put rfl ⟨rfl, by decide +kernel, by decide +kernel, by decide +kernel⟩ ⟨by decide, by decide⟩ rfl rfl (st_o (uv_n U)) dX4_putSaying_8 rfl rfl (Nat.le_of_ble_eq_true rfl) ⟨by decide, by decide⟩ ?_
  rintro _ h2 sz2 ⟨rfl, Z, F2⟩
  try dsimp only [Option.toList, List.cons_append, List.nil_append]
  replace U := uv_nu U (nw1 := (fun i => if i = n then va_cpy rd (sy n) 0 0 10 else sy i, ab, be, nI (n + 1), dw, kp)) Z F2
  replace F := xF_tr F (xF_wd (lo1 := b) (hi1 := b + 279) F2 (by omega) (by omega))
  refine x_aload_n G dX4_putSaying_11 rfl ?_
  refine x_get G kX4 inX4 8 (by decide) (by decide +kernel) dX4_putSaying_12 (uv_o U) rfl ?_
  refine x_aload_n G dX4_putSaying_15 rfl ?_
  refine x_get G kX4 inX4 4 (by decide) (by decide +kernel) dX4_putSaying_16 (uv_o U) rfl ?_
  refine x_callV (n := 1) (rest := []) (As := [.ref (b + 13)]) G (ci := 2) (c_u_put (Post := fun r7 h7 sz7 => r7 = none ∧ SlT dA h7 (b + 227) (su rd so) ∧ xF (b + 227) (b + 227 + 16) h2 h7) l D hs6 (by omega) (by decide) (by decide) (uv_d U) (uv_s U) (fun h7 sz7 q1 q2 => ⟨rfl, q1, q2⟩)) gX4_putSaying_X2_put rfl ⟨rfl, by decide +kernel, by decide +kernel, by decide +kernel⟩ ⟨by decide, by decide⟩ rfl rfl (slt_o (uv_s U)).choose_spec dX4_putSaying_19 rfl rfl (Nat.le_of_ble_eq_true rfl) ⟨by decide, by decide⟩ ?_
  rintro _ h3 sz3 ⟨rfl, Z, F3⟩
  try dsimp only [Option.toList, List.cons_append, List.nil_append]
  replace U := uv_su U Z F3
  replace F := xF_tr F (xF_wd (lo1 := b) (hi1 := b + 279) F3 (by omega) (by omega))
  exact x_vret G dX4_putSaying_22 (hpost _ _ U F)
theorem inX4_solveAnew_4 : ∀ w ∈ wsX40, w ∈ wsX4_solveAnew := by decide +kernel
theorem inX4_solveAnew_3 : ∀ w ∈ wsX30, w ∈ wsX4_solveAnew := by decide +kernel
set_option maxRecDepth 100000 in
set_option maxHeartbeats 4000000 in
/-- solveAnew -/
theorem c_X4_solveAnew (l : Launch) (D : va_G) {dA : Nat → ClassId} {b : Nat} {tx : Nat → Int32} {ln : Nat} {fa : Int32} {x : rT} {pl : Int32} {rd : Nat → Int32} {im : Nat → sT} {ss : Nat → sT} {mx : Nat} {ct : Nat} {so : slT} {ot : slT} {sy : Nat → Nat → Int32} {ab be : Nat → Int32} {n : Nat} {dw kp : Int32} {h : xH} {sz : Nat} {Post : Option Value → xH → Nat → Prop} (hn6 : n ≤ 6) (U : Uv dA h b tx ln fa x pl rd ((sy, ab, be, nI n, dw, kp)) im ss mx ct so ot) (hpost : ∀ (h1 : xH) (sz1 : Nat), Uv dA h1 b tx ln fa x pl rd ((sy, ab, be, nI n, dw, kp)) im ss mx ct (sa sy so n) ot → xF b (b + 279) h h1 → Post none h1 sz1) : xMet l yX4_solveAnew wsX4_solveAnew 4 100 0 0 D dA [.ref b] h sz Post := by
  refine x_open (cc := cX4_solveAnew) (maxL := 2) (ret := none) (by decide) rfl (Nat.le_of_ble_eq_true rfl) ?_
  intro p e s m args below meth c G _
  have inX4 : ∀ w ∈ wsX40, w ∈ wsX4_solveAnew := inX4_solveAnew_4
  have inX3 : ∀ w ∈ wsX30, w ∈ wsX4_solveAnew := inX4_solveAnew_3
  have F := xF_rf (lo := b) (hi := b + 279) (h := h)
  refine x_aload_n G dX4_solveAnew_0 rfl ?_
  refine x_get G kX4 inX4 8 (by decide) (by decide +kernel) dX4_solveAnew_1 (uv_o U) rfl ?_
  refine x_callV (n := 0) (rest := []) (As := []) G (ci := 2) (c_u_clear (Post := fun r7 h7 sz7 => r7 = none ∧ SlT dA h7 (b + 227) (sc so) ∧ xF (b + 227) (b + 227 + 16) h h7) l D (uv_s U) (fun h7 q1 q2 => ⟨rfl, q1, q2⟩)) gX4_solveAnew_X2_clear rfl ⟨rfl, by decide +kernel, by decide +kernel, by decide +kernel⟩ ⟨by decide, by decide⟩ rfl rfl (slt_o (uv_s U)).choose_spec dX4_solveAnew_4 rfl rfl (Nat.le_of_ble_eq_true rfl) ⟨by decide, by decide⟩ ?_
  rintro _ h2 sz2 ⟨rfl, Z, F2⟩
  try dsimp only [Option.toList, List.cons_append, List.nil_append]
  replace U := uv_su U Z F2
  replace F := xF_tr F (xF_wd (lo1 := b) (hi1 := b + 279) F2 (by omega) (by omega))
  refine x_iconstV (v := nI 0) G dX4_solveAnew_7 (by decide) ?_
  refine x_istore_n G dX4_solveAnew_8 (by decide) ?_
  refine x_loop (σ := Unit) (fun j _ => [(0, .ref b), (1, .int (nI j))]) n (fun j _ h1 sz1 => Uv dA h1 b tx ln fa x pl rd ((sy, ab, be, nI n, dw, kp)) im ss mx ct (sa sy so j) ot ∧ xF b (b + 279) h h1) ?_ ?_ 0 () _ _ (Nat.zero_le _) ⟨U, F⟩
  · intro j _ h1 sz1 hj hI nx
    try dsimp only at hI nx ⊢
    obtain ⟨U, F⟩ := hI
    refine x_iload_n G dX4_solveAnew_9 rfl ?_
    refine x_aload_n G dX4_solveAnew_10 rfl ?_
    refine x_get G kX4 inX4 5 (by decide) (by decide +kernel) dX4_solveAnew_11 (uv_o U) rfl ?_
    refine x_getN (host := "UnitVectors") G kX3 inX3 3 (by decide) (by decide +kernel) dX4_solveAnew_14 (st_o (uv_n U)) rfl ?_
    refine x_icmp_ge G 42 dX4_solveAnew_17 (by decide) (fun c_17 => ?_) (fun c_17 => ?_)
    · exact absurd c_17 (nI_ge hj (by omega))
    · refine x_aload_n G dX4_solveAnew_20 rfl ?_
      refine x_get G kX4 inX4 8 (by decide) (by decide +kernel) dX4_solveAnew_21 (uv_o U) rfl ?_
      refine x_aload_n G dX4_solveAnew_24 rfl ?_
      refine x_get G kX4 inX4 5 (by decide) (by decide +kernel) dX4_solveAnew_25 (uv_o U) rfl ?_
      refine x_getN (host := "UnitVectors") G kX3 inX3 0 (by decide) (by decide +kernel) dX4_solveAnew_28 (st_o (uv_n U)) rfl ?_
      refine x_iload_n G dX4_solveAnew_31 rfl ?_
      refine x_aald (t := 4) G rfl rfl dX4_solveAnew_32 (st_y (uv_n U)) (vp_in_nI (show j < 6 by omega) (by decide)) (show (if (nI (j)).toNatClampNeg < 6 then some (b + 14 + 2 + (nI (j)).toNatClampNeg) else none) = some (b + 14 + 2 + (j)) by rw [nI_clamp (by omega), if_pos (by omega)]) ?_
      refine x_callV (n := 1) (rest := []) (As := [.ref (b + 14 + 2 + j)]) G (ci := 2) (c_u_put (Post := fun r7 h7 sz7 => r7 = none ∧ SlT dA h7 (b + 227) (sa sy so (j + 1)) ∧ xF (b + 227) (b + 227 + 16) h1 h7) l D (sa_n (sy := sy) (u := so) (k := j)) (by omega) (by decide) (by decide) (st_r (uv_n U) (show j < 6 by omega)) (uv_s U) (fun h7 sz7 q1 q2 => ⟨rfl, q1, q2⟩)) gX4_solveAnew_X2_put rfl ⟨rfl, by decide +kernel, by decide +kernel, by decide +kernel⟩ ⟨by decide, by decide⟩ rfl rfl (slt_o (uv_s U)).choose_spec dX4_solveAnew_33 rfl rfl (Nat.le_of_ble_eq_true rfl) ⟨by decide, by decide⟩ ?_
      rintro _ h3 sz3 ⟨rfl, Z, F3⟩
      try dsimp only [Option.toList, List.cons_append, List.nil_append]
      replace U := uv_su U Z F3
      replace F := xF_tr F (xF_wd (lo1 := b) (hi1 := b + 279) F3 (by omega) (by omega))
      refine x_iinc G dX4_solveAnew_36 rfl (by decide) ?_
      refine x_locE (lv2 := [(0, .ref b), (1, .int (nI (j + 1)))]) (by rw [nI_succ j]; rfl) ?_
      refine x_goto G 9 dX4_solveAnew_39 (by decide) ?_
      exact nx () _ _ ⟨U, F⟩
  · intro _ h1 sz1 hI
    try dsimp only at hI ⊢
    obtain ⟨U, F⟩ := hI
    refine x_iload_n G dX4_solveAnew_9 rfl ?_
    refine x_aload_n G dX4_solveAnew_10 rfl ?_
    refine x_get G kX4 inX4 5 (by decide) (by decide +kernel) dX4_solveAnew_11 (uv_o U) rfl ?_
    refine x_getN (host := "UnitVectors") G kX3 inX3 3 (by decide) (by decide +kernel) dX4_solveAnew_14 (st_o (uv_n U)) rfl ?_
    refine x_icmp_ge G 42 dX4_solveAnew_17 (by decide) (fun c_17 => ?_) (fun c_17 => ?_)
    · exact x_vret G dX4_solveAnew_42 (hpost _ _ U F)
    · exact absurd (nI_le (Nat.le_refl _) (by omega)) c_17
theorem inX4_isSpare_4 : ∀ w ∈ wsX40, w ∈ wsX4_isSpare := by decide +kernel
theorem inX4_isSpare_3 : ∀ w ∈ wsX30, w ∈ wsX4_isSpare := by decide +kernel
set_option maxRecDepth 100000 in
set_option maxHeartbeats 4000000 in
/-- isSpare -/
theorem c_X4_isSpare (l : Launch) (D : va_G) {dA : Nat → ClassId} {b : Nat} {tx : Nat → Int32} {ln : Nat} {fa : Int32} {x : rT} {pl : Int32} {rd : Nat → Int32} {im : Nat → sT} {ss : Nat → sT} {mx : Nat} {ct : Nat} {so : slT} {ot : slT} {sy : Nat → Nat → Int32} {ab be : Nat → Int32} {n : Nat} {dw kp : Int32} {k : Nat} {h : xH} {sz : Nat} {Post : Option Value → xH → Nat → Prop} (hn6 : n ≤ 6) (hk : k < n) (U : Uv dA h b tx ln fa x pl rd ((sy, ab, be, nI n, dw, kp)) im ss mx ct so ot) (hpost : ∀ (h1 : xH) (sz1 : Nat), Uv dA h1 b tx ln fa x pl rd ((sy, ab, be, nI n, dw, kp)) im ss mx ct so (sw_u2 (sy k) (so_k sy ot k n)) → xF b (b + 279) h h1 → Post (some (.int (x_b (im_u (sy k) (so_k sy ot k n) = true)))) h1 sz1) : xMet l yX4_isSpare wsX4_isSpare 4 112 0 0 D dA [.ref b, .int (nI k)] h sz Post := by
  refine x_open (cc := cX4_isSpare) (maxL := 3) (ret := (some .boolean)) (by decide) rfl (Nat.le_of_ble_eq_true rfl) ?_
  intro p e s m args below meth c G _
  have inX4 : ∀ w ∈ wsX40, w ∈ wsX4_isSpare := inX4_isSpare_4
  have inX3 : ∀ w ∈ wsX30, w ∈ wsX4_isSpare := inX4_isSpare_3
  have F := xF_rf (lo := b) (hi := b + 279) (h := h)
  refine x_aload_n G dX4_isSpare_0 rfl ?_
  refine x_get G kX4 inX4 9 (by decide) (by decide +kernel) dX4_isSpare_1 (uv_o U) rfl ?_
  refine x_callV (n := 0) (rest := []) (As := []) G (ci := 2) (c_u_clear (Post := fun r7 h7 sz7 => r7 = none ∧ SlT dA h7 (b + 243) (sc ot) ∧ xF (b + 243) (b + 243 + 16) h h7) l D (uv_q U) (fun h7 q1 q2 => ⟨rfl, q1, q2⟩)) gX4_isSpare_X2_clear rfl ⟨rfl, by decide +kernel, by decide +kernel, by decide +kernel⟩ ⟨by decide, by decide⟩ rfl rfl (slt_o (uv_q U)).choose_spec dX4_isSpare_4 rfl rfl (Nat.le_of_ble_eq_true rfl) ⟨by decide, by decide⟩ ?_
  rintro _ h2 sz2 ⟨rfl, Z, F2⟩
  try dsimp only [Option.toList, List.cons_append, List.nil_append]
  replace U := uv_qu U Z F2
  replace F := xF_tr F (xF_wd (lo1 := b) (hi1 := b + 279) F2 (by omega) (by omega))
  refine x_iconstV (v := nI 0) G dX4_isSpare_7 (by decide) ?_
  refine x_istore_n G dX4_isSpare_8 (by decide) ?_
  refine x_loop (σ := Unit) (fun j _ => [(0, .ref b), (1, .int (nI k)), (2, .int (nI j))]) n (fun j _ h1 sz1 => Uv dA h1 b tx ln fa x pl rd ((sy, ab, be, nI n, dw, kp)) im ss mx ct so (so_k sy ot k j) ∧ xF b (b + 279) h h1) ?_ ?_ 0 () _ _ (Nat.zero_le _) ⟨U, F⟩
  · intro j _ h1 sz1 hj hI nx
    try dsimp only at hI nx ⊢
    obtain ⟨U, F⟩ := hI
    refine x_iload_n G dX4_isSpare_9 rfl ?_
    refine x_aload_n G dX4_isSpare_10 rfl ?_
    refine x_get G kX4 inX4 5 (by decide) (by decide +kernel) dX4_isSpare_11 (uv_o U) rfl ?_
    refine x_getN (host := "UnitVectors") G kX3 inX3 3 (by decide) (by decide +kernel) dX4_isSpare_14 (st_o (uv_n U)) rfl ?_
    refine x_icmp_ge G 47 dX4_isSpare_17 (by decide) (fun c_17 => ?_) (fun c_17 => ?_)
    · exact absurd c_17 (nI_ge hj (by omega))
    · refine x_iload_n G dX4_isSpare_20 rfl ?_
      refine x_iload_n G dX4_isSpare_21 rfl ?_
      refine x_icmp_eq G 41 dX4_isSpare_22 (by decide) (fun c_22 => ?_) (fun c_22 => ?_)
      · have ejk : j = k := by
          have z := congrArg Int32.toInt c_22
          rw [nI_toInt (by omega), nI_toInt (by omega)] at z
          omega
        have eo : so_k sy ot k (j + 1) = so_k sy ot k j := if_pos ejk
        refine x_iinc G dX4_isSpare_41 rfl (by decide) ?_
        refine x_locE (lv2 := [(0, .ref b), (1, .int (nI k)), (2, .int (nI (j + 1)))]) (by rw [nI_succ j]; rfl) ?_
        refine x_goto G 9 dX4_isSpare_44 (by decide) ?_
        exact nx () _ _ ⟨by rw [eo]; exact U, F⟩
      · have ejk : ¬ j = k := fun z => c_22 (by rw [z])
        have eo : so_k sy ot k (j + 1) = su (sy j) (so_k sy ot k j) := if_neg ejk
        refine x_aload_n G dX4_isSpare_25 rfl ?_
        refine x_get G kX4 inX4 9 (by decide) (by decide +kernel) dX4_isSpare_26 (uv_o U) rfl ?_
        refine x_aload_n G dX4_isSpare_29 rfl ?_
        refine x_get G kX4 inX4 5 (by decide) (by decide +kernel) dX4_isSpare_30 (uv_o U) rfl ?_
        refine x_getN (host := "UnitVectors") G kX3 inX3 0 (by decide) (by decide +kernel) dX4_isSpare_33 (st_o (uv_n U)) rfl ?_
        refine x_iload_n G dX4_isSpare_36 rfl ?_
        refine x_aald (t := 4) G rfl rfl dX4_isSpare_37 (st_y (uv_n U)) (vp_in_nI (show j < 6 by omega) (by decide)) (show (if (nI (j)).toNatClampNeg < 6 then some (b + 14 + 2 + (nI (j)).toNatClampNeg) else none) = some (b + 14 + 2 + (j)) by rw [nI_clamp (by omega), if_pos (by omega)]) ?_
        refine x_callV (n := 1) (rest := []) (As := [.ref (b + 14 + 2 + j)]) G (ci := 2) (c_u_put (Post := fun r7 h7 sz7 => r7 = none ∧ SlT dA h7 (b + 243) (su (sy j) (so_k sy ot k j)) ∧ xF (b + 243) (b + 243 + 16) h1 h7) l D (so_n (sy := sy) (u := ot) (k := k) (i := j)) (by omega) (by decide) (by decide) (st_r (uv_n U) (show j < 6 by omega)) (uv_q U) (fun h7 sz7 q1 q2 => ⟨rfl, q1, q2⟩)) gX4_isSpare_X2_put rfl ⟨rfl, by decide +kernel, by decide +kernel, by decide +kernel⟩ ⟨by decide, by decide⟩ rfl rfl (slt_o (uv_q U)).choose_spec dX4_isSpare_38 rfl rfl (Nat.le_of_ble_eq_true rfl) ⟨by decide, by decide⟩ ?_
        rintro _ h3 sz3 ⟨rfl, Z, F3⟩
        try dsimp only [Option.toList, List.cons_append, List.nil_append]
        rw [← eo] at Z
        replace U := uv_qu U Z F3
        replace F := xF_tr F (xF_wd (lo1 := b) (hi1 := b + 279) F3 (by omega) (by omega))
        refine x_iinc G dX4_isSpare_41 rfl (by decide) ?_
        refine x_locE (lv2 := [(0, .ref b), (1, .int (nI k)), (2, .int (nI (j + 1)))]) (by rw [nI_succ j]; rfl) ?_
        refine x_goto G 9 dX4_isSpare_44 (by decide) ?_
        exact nx () _ _ ⟨U, F⟩
  · intro _ h1 sz1 hI
    try dsimp only at hI ⊢
    obtain ⟨U, F⟩ := hI
    refine x_iload_n G dX4_isSpare_9 rfl ?_
    refine x_aload_n G dX4_isSpare_10 rfl ?_
    refine x_get G kX4 inX4 5 (by decide) (by decide +kernel) dX4_isSpare_11 (uv_o U) rfl ?_
    refine x_getN (host := "UnitVectors") G kX3 inX3 3 (by decide) (by decide +kernel) dX4_isSpare_14 (st_o (uv_n U)) rfl ?_
    refine x_icmp_ge G 47 dX4_isSpare_17 (by decide) (fun c_17 => ?_) (fun c_17 => ?_)
    · refine x_aload_n G dX4_isSpare_47 rfl ?_
      refine x_get G kX4 inX4 9 (by decide) (by decide +kernel) dX4_isSpare_48 (uv_o U) rfl ?_
      refine x_aload_n G dX4_isSpare_51 rfl ?_
      refine x_get G kX4 inX4 5 (by decide) (by decide +kernel) dX4_isSpare_52 (uv_o U) rfl ?_
      refine x_getN (host := "UnitVectors") G kX3 inX3 0 (by decide) (by decide +kernel) dX4_isSpare_55 (st_o (uv_n U)) rfl ?_
      refine x_iload_n G dX4_isSpare_58 rfl ?_
      refine x_aald (t := 4) G rfl rfl dX4_isSpare_59 (st_y (uv_n U)) (vp_in_nI (show k < 6 by omega) (by decide)) (show (if (nI (k)).toNatClampNeg < 6 then some (b + 14 + 2 + (nI (k)).toNatClampNeg) else none) = some (b + 14 + 2 + (k)) by rw [nI_clamp (by omega), if_pos (by omega)]) ?_
      refine x_callV (n := 1) (rest := []) (As := [.ref (b + 14 + 2 + k)]) G (ci := 2) (c_u_imply (Post := fun r7 h7 sz7 => r7 = some (.int (x_b (im_u (sy k) (so_k sy ot k n) = true))) ∧ SlT dA h7 (b + 243) (sw_u2 (sy k) (so_k sy ot k n)) ∧ xF (b + 243) (b + 243 + 16) h1 h7) l D (so_n (sy := sy) (u := ot) (k := k) (i := n)) (by omega) (by decide) (by decide) (st_r (uv_n U) (show k < 6 by omega)) (uv_q U) (fun h7 sz7 q1 q2 => ⟨rfl, q1, q2⟩)) gX4_isSpare_X2_imply rfl ⟨rfl, by decide +kernel, by decide +kernel, by decide +kernel⟩ ⟨by decide, by decide⟩ rfl rfl (slt_o (uv_q U)).choose_spec dX4_isSpare_60 rfl rfl (Nat.le_of_ble_eq_true rfl) ⟨by decide, by decide⟩ ?_
      rintro _ h3 sz3 ⟨rfl, Z, F3⟩
      try dsimp only [Option.toList, List.cons_append, List.nil_append]
      replace U := uv_qu U Z F3
      replace F := xF_tr F (xF_wd (lo1 := b) (hi1 := b + 279) F3 (by omega) (by omega))
      exact x_zret G dX4_isSpare_63 x_b_z (hpost _ _ U F)
    · exact absurd (nI_le (Nat.le_refl _) (by omega)) c_17
theorem inX4_countSpare_4 : ∀ w ∈ wsX40, w ∈ wsX4_countSpare := by decide +kernel
theorem inX4_countSpare_3 : ∀ w ∈ wsX30, w ∈ wsX4_countSpare := by decide +kernel
set_option maxRecDepth 100000 in
set_option maxHeartbeats 4000000 in
/-- countSpare -/
theorem c_X4_countSpare (l : Launch) (D : va_G) {dA : Nat → ClassId} {b : Nat} {tx : Nat → Int32} {ln : Nat} {fa : Int32} {x : rT} {pl : Int32} {rd : Nat → Int32} {im : Nat → sT} {ss : Nat → sT} {mx : Nat} {ct : Nat} {so : slT} {ot : slT} {sy : Nat → Nat → Int32} {ab be : Nat → Int32} {n : Nat} {dw kp : Int32} {h : xH} {sz : Nat} {Post : Option Value → xH → Nat → Prop} (hn6 : n ≤ 6) (U : Uv dA h b tx ln fa x pl rd ((sy, ab, be, nI n, dw, kp)) im ss mx ct so ot) (hpost : ∀ (h1 : xH) (sz1 : Nat), Uv dA h1 b tx ln fa x pl rd ((sy, ab, be, nI n, dw, kp)) im ss mx ct so ((cs sy n ot n).2) → xF b (b + 279) h h1 → Post (some (.int (nI (cs sy n ot n).1))) h1 sz1) : xMet l yX4_countSpare wsX4_countSpare 5 134 0 0 D dA [.ref b] h sz Post := by
  refine x_open (cc := cX4_countSpare) (maxL := 3) (ret := (some .int)) (by decide) rfl (Nat.le_of_ble_eq_true rfl) ?_
  intro p e s m args below meth c G _
  have inX4 : ∀ w ∈ wsX40, w ∈ wsX4_countSpare := inX4_countSpare_4
  have inX3 : ∀ w ∈ wsX30, w ∈ wsX4_countSpare := inX4_countSpare_3
  have F := xF_rf (lo := b) (hi := b + 279) (h := h)
  refine x_iconstV (v := nI 0) G dX4_countSpare_0 (by decide) ?_
  refine x_istore_n G dX4_countSpare_1 (by decide) ?_
  refine x_iconstV (v := nI 0) G dX4_countSpare_2 (by decide) ?_
  refine x_istore_n G dX4_countSpare_3 (by decide) ?_
  refine x_loop (σ := Unit) (fun j _ => [(0, .ref b), (1, .int (nI (cs sy n ot j).1)), (2, .int (nI j))]) n (fun j _ h1 sz1 => Uv dA h1 b tx ln fa x pl rd ((sy, ab, be, nI n, dw, kp)) im ss mx ct so ((cs sy n ot j).2) ∧ xF b (b + 279) h h1) ?_ ?_ 0 () _ _ (Nat.zero_le _) ⟨U, F⟩
  · intro j _ h1 sz1 hj hI nx
    try dsimp only at hI nx ⊢
    obtain ⟨U, F⟩ := hI
    refine x_iload_n G dX4_countSpare_4 rfl ?_
    refine x_aload_n G dX4_countSpare_5 rfl ?_
    refine x_get G kX4 inX4 5 (by decide) (by decide +kernel) dX4_countSpare_6 (uv_o U) rfl ?_
    refine x_getN (host := "UnitVectors") G kX3 inX3 3 (by decide) (by decide +kernel) dX4_countSpare_9 (st_o (uv_n U)) rfl ?_
    refine x_icmp_ge G 32 dX4_countSpare_12 (by decide) (fun c_12 => ?_) (fun c_12 => ?_)
    · exact absurd c_12 (nI_ge hj (by omega))
    · refine x_aload_n G dX4_countSpare_15 rfl ?_
      refine x_iload_n G dX4_countSpare_16 rfl ?_
      refine x_callV (n := 1) (rest := []) (As := [.int (nI j)]) G (ci := 4) (c_X4_isSpare (Post := fun r7 h7 sz7 => r7 = some (.int (x_b (im_u (sy j) (so_k sy (cs sy n ot j).2 j n) = true))) ∧ Uv dA h7 b tx ln fa x pl rd ((sy, ab, be, nI n, dw, kp)) im ss mx ct so ((cs sy n ot (j + 1)).2) ∧ xF b (b + 279) h1 h7) l D hn6 hj U (fun h7 sz7 q1 q2 => ⟨rfl, q1, q2⟩)) gX4_countSpare_X4_isSpare rfl ⟨rfl, by decide +kernel, by decide +kernel, by decide +kernel⟩ ⟨by decide, by decide⟩ rfl rfl (uv_o U) dX4_countSpare_17 rfl rfl (Nat.le_of_ble_eq_true rfl) ⟨by decide, by decide⟩ ?_
      rintro _ h3 sz3 ⟨rfl, U, F3⟩
      try dsimp only [Option.toList, List.cons_append, List.nil_append]
      replace F := xF_tr F F3
      refine x_if_eq G 26 dX4_countSpare_20 (by decide) (fun c_20 => ?_) (fun c_20 => ?_)
      · have e : (cs sy n ot (j + 1)).1 = (cs sy n ot j).1 := by
          show _ + (if im_u (sy j) (so_k sy (cs sy n ot j).2 j n) = true then 1 else 0) = _
          rw [if_neg (x_b_0.mp c_20), Nat.add_zero]
        refine x_iinc G dX4_countSpare_26 rfl (by decide) ?_
        refine x_goto G 4 dX4_countSpare_29 (by decide) ?_
        refine x_locE (lv2 := [(0, .ref b), (1, .int (nI (cs sy n ot (j + 1)).1)), (2, .int (nI (j + 1)))]) (by rw [nI_succ j, e]; rfl) ?_
        exact nx () _ _ ⟨U, F⟩
      · have e : (cs sy n ot (j + 1)).1 = (cs sy n ot j).1 + 1 := by
          show _ + (if im_u (sy j) (so_k sy (cs sy n ot j).2 j n) = true then 1 else 0) = _
          rw [if_pos (x_b_n.mp c_20)]
        refine x_iinc G dX4_countSpare_23 rfl (by decide) ?_
        refine x_iinc G dX4_countSpare_26 rfl (by decide) ?_
        refine x_goto G 4 dX4_countSpare_29 (by decide) ?_
        refine x_locE (lv2 := [(0, .ref b), (1, .int (nI (cs sy n ot (j + 1)).1)), (2, .int (nI (j + 1)))]) (by rw [nI_succ j, e, nI_succ (cs sy n ot j).1]; rfl) ?_
        exact nx () _ _ ⟨U, F⟩
  · intro _ h1 sz1 hI
    try dsimp only at hI ⊢
    obtain ⟨U, F⟩ := hI
    refine x_iload_n G dX4_countSpare_4 rfl ?_
    refine x_aload_n G dX4_countSpare_5 rfl ?_
    refine x_get G kX4 inX4 5 (by decide) (by decide +kernel) dX4_countSpare_6 (uv_o U) rfl ?_
    refine x_getN (host := "UnitVectors") G kX3 inX3 3 (by decide) (by decide +kernel) dX4_countSpare_9 (st_o (uv_n U)) rfl ?_
    refine x_icmp_ge G 32 dX4_countSpare_12 (by decide) (fun c_12 => ?_) (fun c_12 => ?_)
    · refine x_iload_n G dX4_countSpare_32 rfl ?_
      exact x_iret G dX4_countSpare_33 (hpost _ _ U F)
    · exact absurd (nI_le (Nat.le_refl _) (by omega)) c_12
theorem inX4_neededSet_4 : ∀ w ∈ wsX40, w ∈ wsX4_neededSet := by decide +kernel
theorem inX4_neededSet_3 : ∀ w ∈ wsX30, w ∈ wsX4_neededSet := by decide +kernel
theorem ns_or : ∀ k, k < 6 → ∀ s, s < 2 ^ k → nI s ||| nI 1 <<< (nI k &&& 31) = nI (s + 2 ^ k) := by decide +kernel
set_option maxRecDepth 100000 in
set_option maxHeartbeats 4000000 in
/-- neededSet -/
theorem c_X4_neededSet (l : Launch) (D : va_G) {dA : Nat → ClassId} {b : Nat} {tx : Nat → Int32} {ln : Nat} {fa : Int32} {x : rT} {pl : Int32} {rd : Nat → Int32} {im : Nat → sT} {ss : Nat → sT} {mx : Nat} {ct : Nat} {so : slT} {ot : slT} {sy : Nat → Nat → Int32} {ab be : Nat → Int32} {n : Nat} {dw kp : Int32} {h : xH} {sz : Nat} {Post : Option Value → xH → Nat → Prop} (hn6 : n ≤ 6) (U : Uv dA h b tx ln fa x pl rd ((sy, ab, be, nI n, dw, kp)) im ss mx ct so ot) (hpost : ∀ (h1 : xH) (sz1 : Nat), Uv dA h1 b tx ln fa x pl rd ((sy, ab, be, nI n, dw, kp)) im ss mx ct so ((ns sy ot n).2) → xF b (b + 279) h h1 → Post (some (.int (nI (ns sy ot n).1))) h1 sz1) : xMet l yX4_neededSet wsX4_neededSet 4 112 0 0 D dA [.ref b] h sz Post := by
  refine x_open (cc := cX4_neededSet) (maxL := 3) (ret := (some .int)) (by decide) rfl (Nat.le_of_ble_eq_true rfl) ?_
  intro p e s m args below meth c G _
  have inX4 : ∀ w ∈ wsX40, w ∈ wsX4_neededSet := inX4_neededSet_4
  have inX3 : ∀ w ∈ wsX30, w ∈ wsX4_neededSet := inX4_neededSet_3
  have F := xF_rf (lo := b) (hi := b + 279) (h := h)
  refine x_iconstV (v := nI 0) G dX4_neededSet_0 (by decide) ?_
  refine x_istore_n G dX4_neededSet_1 (by decide) ?_
  refine x_aload_n G dX4_neededSet_2 rfl ?_
  refine x_get G kX4 inX4 9 (by decide) (by decide +kernel) dX4_neededSet_3 (uv_o U) rfl ?_
  refine x_callV (n := 0) (rest := []) (As := []) G (ci := 2) (c_u_clear (Post := fun r7 h7 sz7 => r7 = none ∧ SlT dA h7 (b + 243) (sc ot) ∧ xF (b + 243) (b + 243 + 16) h h7) l D (uv_q U) (fun h7 q1 q2 => ⟨rfl, q1, q2⟩)) gX4_neededSet_X2_clear rfl ⟨rfl, by decide +kernel, by decide +kernel, by decide +kernel⟩ ⟨by decide, by decide⟩ rfl rfl (slt_o (uv_q U)).choose_spec dX4_neededSet_6 rfl rfl (Nat.le_of_ble_eq_true rfl) ⟨by decide, by decide⟩ ?_
  rintro _ h2 sz2 ⟨rfl, Z, F2⟩
  try dsimp only [Option.toList, List.cons_append, List.nil_append]
  replace U := uv_qu U Z F2
  replace F := xF_tr F (xF_wd (lo1 := b) (hi1 := b + 279) F2 (by omega) (by omega))
  refine x_iconstV (v := nI 0) G dX4_neededSet_9 (by decide) ?_
  refine x_istore_n G dX4_neededSet_10 (by decide) ?_
  refine x_loop (σ := Unit) (fun j _ => [(0, .ref b), (1, .int (nI (ns sy ot j).1)), (2, .int (nI j))]) n (fun j _ h1 sz1 => Uv dA h1 b tx ln fa x pl rd ((sy, ab, be, nI n, dw, kp)) im ss mx ct so ((ns sy ot j).2) ∧ xF b (b + 279) h h1) ?_ ?_ 0 () _ _ (Nat.zero_le _) ⟨U, F⟩
  · intro j _ h1 sz1 hj hI nx
    try dsimp only at hI nx ⊢
    obtain ⟨U, F⟩ := hI
    refine x_iload_n G dX4_neededSet_11 rfl ?_
    refine x_aload_n G dX4_neededSet_12 rfl ?_
    refine x_get G kX4 inX4 5 (by decide) (by decide +kernel) dX4_neededSet_13 (uv_o U) rfl ?_
    refine x_getN (host := "UnitVectors") G kX3 inX3 3 (by decide) (by decide +kernel) dX4_neededSet_16 (st_o (uv_n U)) rfl ?_
    refine x_icmp_ge G 69 dX4_neededSet_19 (by decide) (fun c_19 => ?_) (fun c_19 => ?_)
    · exact absurd c_19 (nI_ge hj (by omega))
    · refine x_aload_n G dX4_neededSet_22 rfl ?_
      refine x_get G kX4 inX4 9 (by decide) (by decide +kernel) dX4_neededSet_23 (uv_o U) rfl ?_
      refine x_aload_n G dX4_neededSet_26 rfl ?_
      refine x_get G kX4 inX4 5 (by decide) (by decide +kernel) dX4_neededSet_27 (uv_o U) rfl ?_
      refine x_getN (host := "UnitVectors") G kX3 inX3 0 (by decide) (by decide +kernel) dX4_neededSet_30 (st_o (uv_n U)) rfl ?_
      refine x_iload_n G dX4_neededSet_33 rfl ?_
      refine x_aald (t := 4) G rfl rfl dX4_neededSet_34 (st_y (uv_n U)) (vp_in_nI (show j < 6 by omega) (by decide)) (show (if (nI (j)).toNatClampNeg < 6 then some (b + 14 + 2 + (nI (j)).toNatClampNeg) else none) = some (b + 14 + 2 + (j)) by rw [nI_clamp (by omega), if_pos (by omega)]) ?_
      refine x_callV (n := 1) (rest := []) (As := [.ref (b + 14 + 2 + j)]) G (ci := 2) (c_u_imply (Post := fun r7 h7 sz7 => r7 = some (.int (x_b (im_u (sy j) (ns sy ot j).2 = true))) ∧ SlT dA h7 (b + 243) (sw_u2 (sy j) (ns sy ot j).2) ∧ xF (b + 243) (b + 243 + 16) h1 h7) l D (ns_n (sy := sy) (u := ot) (k := j)) (by omega) (by decide) (by decide) (st_r (uv_n U) (show j < 6 by omega)) (uv_q U) (fun h7 sz7 q1 q2 => ⟨rfl, q1, q2⟩)) gX4_neededSet_X2_imply rfl ⟨rfl, by decide +kernel, by decide +kernel, by decide +kernel⟩ ⟨by decide, by decide⟩ rfl rfl (slt_o (uv_q U)).choose_spec dX4_neededSet_35 rfl rfl (Nat.le_of_ble_eq_true rfl) ⟨by decide, by decide⟩ ?_
      rintro _ h3 sz3 ⟨rfl, Z, F3⟩
      try dsimp only [Option.toList, List.cons_append, List.nil_append]
      replace U := uv_qu U Z F3
      replace F := xF_tr F (xF_wd (lo1 := b) (hi1 := b + 279) F3 (by omega) (by omega))
      refine x_if_ne G 63 dX4_neededSet_38 (by decide) (fun c_38 => ?_) (fun c_38 => ?_)
      · have eo : ns sy ot (j + 1) = ((ns sy ot j).1, sw_u2 (sy j) (ns sy ot j).2) := if_pos (x_b_n.mp c_38)
        refine x_iinc G dX4_neededSet_63 rfl (by decide) ?_
        refine x_locE (lv2 := [(0, .ref b), (1, .int (nI (ns sy ot (j + 1)).1)), (2, .int (nI (j + 1)))]) (by rw [nI_succ j, eo]; rfl) ?_
        refine x_goto G 11 dX4_neededSet_66 (by decide) ?_
        exact nx () _ _ ⟨by rw [eo]; exact U, F⟩
      · have eo : ns sy ot (j + 1) = ((ns sy ot j).1 + 2 ^ j, su (sy j) (sw_u2 (sy j) (ns sy ot j).2)) := if_neg (x_b_0.mp c_38)
        refine x_aload_n G dX4_neededSet_41 rfl ?_
        refine x_get G kX4 inX4 9 (by decide) (by decide +kernel) dX4_neededSet_42 (uv_o U) rfl ?_
        refine x_aload_n G dX4_neededSet_45 rfl ?_
        refine x_get G kX4 inX4 5 (by decide) (by decide +kernel) dX4_neededSet_46 (uv_o U) rfl ?_
        refine x_getN (host := "UnitVectors") G kX3 inX3 0 (by decide) (by decide +kernel) dX4_neededSet_49 (st_o (uv_n U)) rfl ?_
        refine x_iload_n G dX4_neededSet_52 rfl ?_
        refine x_aald (t := 4) G rfl rfl dX4_neededSet_53 (st_y (uv_n U)) (vp_in_nI (show j < 6 by omega) (by decide)) (show (if (nI (j)).toNatClampNeg < 6 then some (b + 14 + 2 + (nI (j)).toNatClampNeg) else none) = some (b + 14 + 2 + (j)) by rw [nI_clamp (by omega), if_pos (by omega)]) ?_
        refine x_callV (n := 1) (rest := []) (As := [.ref (b + 14 + 2 + j)]) G (ci := 2) (c_u_put (u := sw_u2 (sy j) (ns sy ot j).2) (Post := fun r7 h7 sz7 => r7 = none ∧ SlT dA h7 (b + 243) (su (sy j) (sw_u2 (sy j) (ns sy ot j).2)) ∧ xF (b + 243) (b + 243 + 16) h3 h7) l D (show (sw_u2 (sy j) (ns sy ot j).2).2.2.2.2.2 ≤ 6 from ns_n (sy := sy) (u := ot) (k := j)) (by omega) (by decide) (by decide) (st_r (uv_n U) (show j < 6 by omega)) (uv_q U) (fun h7 sz7 q1 q2 => ⟨rfl, q1, q2⟩)) gX4_neededSet_X2_put rfl ⟨rfl, by decide +kernel, by decide +kernel, by decide +kernel⟩ ⟨by decide, by decide⟩ rfl rfl (slt_o (uv_q U)).choose_spec dX4_neededSet_54 rfl rfl (Nat.le_of_ble_eq_true rfl) ⟨by decide, by decide⟩ ?_
        rintro _ h4 sz4 ⟨rfl, Z, F4⟩
        try dsimp only [Option.toList, List.cons_append, List.nil_append]
        replace U := uv_qu U Z F4
        replace F := xF_tr F (xF_wd (lo1 := b) (hi1 := b + 279) F4 (by omega) (by omega))
        refine x_iload_n G dX4_neededSet_57 rfl ?_
        refine x_iconstV (v := nI 1) G dX4_neededSet_58 (by decide) ?_
        refine x_iload_n G dX4_neededSet_59 rfl ?_
        refine x_ishl G dX4_neededSet_60 ?_
        refine x_ior G dX4_neededSet_61 ?_
        refine x_topE (y := nI ((ns sy ot j).1 + 2 ^ j)) (ns_or j (by omega) _ ns_lt) ?_
        refine x_istore_n G dX4_neededSet_62 (by decide) ?_
        refine x_iinc G dX4_neededSet_63 rfl (by decide) ?_
        refine x_locE (lv2 := [(0, .ref b), (1, .int (nI (ns sy ot (j + 1)).1)), (2, .int (nI (j + 1)))]) (by rw [nI_succ j, eo]; rfl) ?_
        refine x_goto G 11 dX4_neededSet_66 (by decide) ?_
        exact nx () _ _ ⟨by rw [eo]; exact U, F⟩
  · intro _ h1 sz1 hI
    try dsimp only at hI ⊢
    obtain ⟨U, F⟩ := hI
    refine x_iload_n G dX4_neededSet_11 rfl ?_
    refine x_aload_n G dX4_neededSet_12 rfl ?_
    refine x_get G kX4 inX4 5 (by decide) (by decide +kernel) dX4_neededSet_13 (uv_o U) rfl ?_
    refine x_getN (host := "UnitVectors") G kX3 inX3 3 (by decide) (by decide +kernel) dX4_neededSet_16 (st_o (uv_n U)) rfl ?_
    refine x_icmp_ge G 69 dX4_neededSet_19 (by decide) (fun c_19 => ?_) (fun c_19 => ?_)
    · refine x_iload_n G dX4_neededSet_69 rfl ?_
      exact x_iret G dX4_neededSet_70 (hpost _ _ U F)
    · exact absurd (nI_le (Nat.le_refl _) (by omega)) c_19
