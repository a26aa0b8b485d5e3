/-! ## The class: readText, scaleProduct -/
section XAB
variable {p : Program} {l : Launch} {e : Env} {R : Room} {s : State} {m : MethodId} {args : Array Value} {below : List Frame} {meth : Method} {c : Code} {D : va_G} {dA : Nat → ClassId} {nL : Nat} {h0 : xH} {sz0 mc ms : Nat} {Post : Option Value → xH → Nat → Prop} {cells slots pc : Nat} {lv : List (Nat × Value)} {st : List Value} {h : xH} {sz : Nat} {cc : ByteArray} {Ts : List Cond} {own : String} {ret : Option FieldType} {i : Nat}
theorem x_absi (G : xG p s m args meth c cc nL Ts own ret D dA sz0) {x : Int32} (hl : Cond.methodLink own i Lib.Math.abs.name ∈ Ts) (hst : Cond.static Lib.Math.abs.name ∈ Ts) (hini : Cond.initialized "java/lang/Math" ∈ Ts) (hco : Cond.code Lib.Math.abs.name Lib.Math.abs.code 1 (some .int) ∈ Ts) (hfr : 1 ≤ R.frames) (hlo : (st.map fun v => v.category).sum + 13 ≤ R.locals) (hcl : cells ≤ R.cells) (hsl : slots ≤ R.slots) (hd : decode cc pc = .ok (.invokestatic i, 3))
    (kk : xV p l e R s m args below meth c D dA nL h0 sz0 mc ms Post cells slots (pc + 3) lv (.int (if 0 ≤ x then x else 0 - x) :: st) h sz) : xV p l e R s m args below meth c D dA nL h0 sz0 mc ms Post cells slots pc lv (.int x :: st) h sz := fun H locs ls hR hz hS hv =>
  va_mabs G.1 G.2.1 (G.2.2.1.trans hv.1.symm) G.2.2.2.1 (G.2.2.2.2.1 _ hl) (G.2.2.2.2.1 _ hst) (G.2.2.2.2.1 _ hini) (G.2.2.2.2.1 _ hco) hfr hlo hcl hsl hd (kk H locs ls hR hz hS hv)
end XAB
/-- what the reader starts with, and what comes of a text -/
def rt_0 (x : rT) (v : Int32) : rT := (sl_u x.1 0 (fl_L (x.1 0) 0 10), upd x.2.1 0 1, x.2.2.1, 0, 0, x.2.2.2.2.2.1, 1, v)
def rt (tx : Nat → Int32) (ln : Nat) (x : rT) (v : Int32) : Nat × Nat × rT := q_run tx ln 0 (rt_0 x v)
def rt_p (r : Nat × Nat × rT) : Int32 := if r.1 = 0 then -1 else nI r.2.1
def rt_d (t : Nat → Int64) (rd : Nat → Int32) (j : Nat) : Nat → Int32 := fun k => if k < j then (t k).toInt32 else rd k
theorem rt_d0 {t : Nat → Int64} {rd : Nat → Int32} : rt_d t rd 0 = rd := by
  funext k
  unfold rt_d
  rw [if_neg (by omega)]
theorem rt_ds {t : Nat → Int64} {rd : Nat → Int32} {j : Nat} : upd (rt_d t rd j) j (t j).toInt32 = rt_d t rd (j + 1) := by
  funext k
  unfold upd rt_d
  by_cases e : k = j
  · rw [if_pos e, if_pos (by omega), e]
  · rw [if_neg e]
    by_cases e2 : k < j
    · rw [if_pos e2, if_pos (by omega)]
    · rw [if_neg e2, if_neg (by omega)]
theorem q_run_lt {f : Nat → Int32} : ∀ {k i : Nat} {x : rT}, q_in x → (q_run f k i x).1 < 4
  | 0, i, x => fun _ => q_end_lt
  | k + 1, i, x => fun hx => by
    show (if f i = nI 32 then q_run f k (i + 1) x else if (q_take (f i) x).1 = 0 then q_run f k (i + 1) (q_take (f i) x).2 else ((q_take (f i) x).1, i, (q_take (f i) x).2)).1 < 4
    split
    · exact q_run_lt hx
    · split
      · exact q_run_lt (q_take_in hx).1
      · exact (q_take_in hx).2
theorem rt_lt {tx : Nat → Int32} {ln : Nat} {x : rT} {v : Int32} : (rt tx ln x v).1 < 4 := q_run_lt ⟨by show 0 < 7; omega, by show 0 < 5; omega⟩
theorem inX4_readText_4 : ∀ w ∈ wsX40, w ∈ wsX4_readText := by decide +kernel
theorem inX4_readText_1 : ∀ w ∈ wsX10, w ∈ wsX4_readText := by decide +kernel
set_option maxRecDepth 100000 in
set_option maxHeartbeats 4000000 in
/-- readText -/
theorem c_X4_readText (l : Launch) (D : va_G) {dA : Nat → ClassId} {b : Nat} {tx : Nat → Int32} {ln : Nat} {fa : Int32} {x : rT} {pl : Int32} {rd : Nat → Int32} {im : Nat → sT} {ss : Nat → sT} {mx : Nat} {ct : Nat} {so : slT} {ot : slT} {sy : Nat → Nat → Int32} {ab be : Nat → Int32} {n : Nat} {dw kp : Int32} {v : Int32} {h : xH} {sz : Nat} {Post : Option Value → xH → Nat → Prop} (hl60 : ln ≤ 60) (hz : narrow .boolean (.int v) = .int v) (hf : fits .boolean (.int v) = true) (U : Uv dA h b tx ln fa x pl rd ((sy, ab, be, nI n, dw, kp)) im ss mx ct so ot) (hp1 : ¬ (rt tx ln x v).1 = 0 → ∀ (h1 : xH) (sz1 : Nat), Uv dA h1 b tx 0 (rt_p (rt tx ln x v)) ((rt tx ln x v).2.2) (rt_p (rt tx ln x v)) rd ((sy, ab, be, nI n, dw, kp)) im ss mx ct so ot → xF b (b + 279) h h1 → Post (some (.int ((-10) - nI (rt tx ln x v).1))) h1 sz1) (hp2 : (rt tx ln x v).1 = 0 → ∀ (h1 : xH) (sz1 : Nat), Uv dA h1 b tx 0 (rt_p (rt tx ln x v)) ((rt tx ln x v).2.2) (rt_p (rt tx ln x v)) (rt_d ((rt tx ln x v).2.2.1 0) rd 10) ((sy, ab, be, nI n, dw, kp)) im ss mx ct so ot → xF b (b + 279) h h1 → Post (some (.int (nI 0))) h1 sz1) (hpost : True) : xMet l yX4_readText wsX4_readText 5 134 0 0 D dA [.ref b, .int v] h sz Post := by
  refine x_open (cc := cX4_readText) (maxL := 4) (ret := (some .int)) (by decide) rfl (Nat.le_of_ble_eq_true rfl) ?_
  intro p e s m args below meth c G _
  have inX4 : ∀ w ∈ wsX40, w ∈ wsX4_readText := inX4_readText_4
  have inX1 : ∀ w ∈ wsX10, w ∈ wsX4_readText := inX4_readText_1
  have F := xF_rf (lo := b) (hi := b + 279) (h := h)
  refine x_aload_n G dX4_readText_0 rfl ?_
  refine x_get G kX4 inX4 3 (by decide) (by decide +kernel) dX4_readText_1 (uv_o U) rfl ?_
  refine x_aload_n G dX4_readText_4 rfl ?_
  refine x_get G kX4 inX4 0 (by decide) (by decide +kernel) dX4_readText_5 (uv_o U) rfl ?_
  refine x_aload_n G dX4_readText_8 rfl ?_
  refine x_get G kX4 inX4 1 (by decide) (by decide +kernel) dX4_readText_9 (uv_o U) rfl ?_
  refine x_iload_n G dX4_readText_12 rfl ?_
  refine x_callV (n := 3) (rest := []) (As := [.ref (b + 1), .int (nI ln), .int v]) G (ci := 1) (c_X1_readAll (Post := fun r7 h7 sz7 => r7 = some (.int (nI (rt tx ln x v).1)) ∧ RdT dA h7 (b + 2) (rt tx ln x v).2.2 (rt_p (rt tx ln x v)) ∧ xF (b + 2) (b + 2 + 11) h h7) l D hl60 hz hf (Or.inl (by omega)) (uv_t U) (uv_r U) (fun h7 sz7 q1 q2 => ⟨rfl, q1, q2⟩)) gX4_readText_X1_readAll rfl ⟨rfl, by decide +kernel, by decide +kernel, by decide +kernel⟩ ⟨by decide, by decide⟩ rfl rfl (re_o (uv_r U)) dX4_readText_13 rfl rfl (Nat.le_of_ble_eq_true rfl) ⟨by decide, by decide⟩ ?_
  rintro _ h2 sz2 ⟨rfl, Z, F2⟩
  try dsimp only [Option.toList, List.cons_append, List.nil_append]
  replace U := uv_ru U Z F2
  replace F := xF_tr F (xF_wd (lo1 := b) (hi1 := b + 279) F2 (by omega) (by omega))
  refine x_istore_n G dX4_readText_16 (by decide) ?_
  refine x_aload_n G dX4_readText_17 rfl ?_
  refine x_aload_n G dX4_readText_18 rfl ?_
  refine x_get G kX4 inX4 3 (by decide) (by decide +kernel) dX4_readText_19 (uv_o U) rfl ?_
  refine x_getN (host := "UnitVectors") G kX1 inX1 8 (by decide) (by decide +kernel) dX4_readText_22 (re_o (uv_r U)) rfl ?_
  refine x_put G kX4 inX4 2 (by decide) (by decide +kernel) rfl dX4_readText_25 (uv_o U) rfl rfl (Nat.le_of_ble_eq_true rfl) ?_
  replace U := uv_os U (ln) (rt_p (rt tx ln x v))
  replace F := xF_up (a := b) (e := .inr (4, [.ref (b + 1), .int (nI (ln)), .int (rt_p (rt tx ln x v)), .ref (b + 2), .ref (b + 13), .ref (b + 14), .ref (b + 24), .ref (b + 25), .ref (b + 227), .ref (b + 243)])) F (by omega) (by omega)
  refine x_aload_n G dX4_readText_28 rfl ?_
  refine x_iconstV (v := nI 0) G dX4_readText_29 (by decide) ?_
  refine x_put G kX4 inX4 1 (by decide) (by decide +kernel) rfl dX4_readText_30 (uv_o U) rfl rfl (Nat.le_of_ble_eq_true rfl) ?_
  replace U := uv_os U (0) (rt_p (rt tx ln x v))
  replace F := xF_up (a := b) (e := .inr (4, [.ref (b + 1), .int (nI (0)), .int (rt_p (rt tx ln x v)), .ref (b + 2), .ref (b + 13), .ref (b + 14), .ref (b + 24), .ref (b + 25), .ref (b + 227), .ref (b + 243)])) F (by omega) (by omega)
  refine x_iload_n G dX4_readText_33 rfl ?_
  refine x_if_eq G 42 dX4_readText_34 (by decide) (fun c_34 => ?_) (fun c_34 => ?_)
  · have e0 : (rt tx ln x v).1 = 0 := by
      have z := congrArg Int32.toInt c_34
      rw [nI_toInt (Nat.lt_trans rt_lt (by decide))] at z
      have z2 : (0 : Int32).toInt = 0 := by decide
      omega
    refine x_iconstV (v := nI 0) G dX4_readText_42 (by decide) ?_
    refine x_istore_n G dX4_readText_43 (by decide) ?_
    refine x_loop (σ := Unit) (fun j _ => [(0, .ref b), (1, .int v), (2, .int (nI (rt tx ln x v).1)), (3, .int (nI j))]) 10 (fun j _ h1 sz1 => Uv dA h1 b tx 0 (rt_p (rt tx ln x v)) ((rt tx ln x v).2.2) (rt_p (rt tx ln x v)) (rt_d ((rt tx ln x v).2.2.1 0) rd j) ((sy, ab, be, nI n, dw, kp)) im ss mx ct so ot ∧ xF b (b + 279) h h1) ?_ ?_ 0 () _ _ (Nat.zero_le _) ⟨by rw [rt_d0]; exact U, F⟩
    · intro j _ h1 sz1 hj hI nx
      try dsimp only at hI nx ⊢
      obtain ⟨U, F⟩ := hI
      refine x_iload_n G dX4_readText_44 rfl ?_
      refine x_bipushV (v := nI 10) G dX4_readText_45 (by decide) ?_
      refine x_icmp_ge G 74 dX4_readText_47 (by decide) (fun c_47 => ?_) (fun c_47 => ?_)
      · exact absurd c_47 (nI_ge hj (by omega))
      · refine x_aload_n G dX4_readText_50 rfl ?_
        refine x_get G kX4 inX4 4 (by decide) (by decide +kernel) dX4_readText_51 (uv_o U) rfl ?_
        refine x_iload_n G dX4_readText_54 rfl ?_
        refine x_aload_n G dX4_readText_55 rfl ?_
        refine x_get G kX4 inX4 3 (by decide) (by decide +kernel) dX4_readText_56 (uv_o U) rfl ?_
        refine x_getN (host := "UnitVectors") G kX1 inX1 0 (by decide) (by decide +kernel) dX4_readText_59 (re_o (uv_r U)) rfl ?_
        refine x_iconstV (v := nI 0) G dX4_readText_62 (by decide) ?_
        refine x_aald (t := 5) G rfl rfl dX4_readText_63 (re_y (uv_r U)) (vp_in_nI (show 0 < 7 by omega) (by decide)) (show (if (nI (0)).toNatClampNeg < 7 then some (b + 2 + 2 + (nI (0)).toNatClampNeg) else none) = some (b + 2 + 2 + (0)) by rw [nI_clamp (by omega), if_pos (by omega)]) ?_
        refine x_iload_n G dX4_readText_64 rfl ?_
        refine x_laldN G dX4_readText_65 (re_t (uv_r U) (by decide : 0 < 7)) (by omega) (by decide) ?_
        refine x_l2i G dX4_readText_66 ?_
        refine x_iastN G dX4_readText_67 (uv_d U) (by omega) (by decide) ?_
        have F1 : xF (b + 13) (b + 14) h1 _ := xF_up (a := b + 13) (e := .inl (dA 0, 10, .inl (upd (rt_d ((rt tx ln x v).2.2.1 0) rd j) j (((rt tx ln x v).2.2.1 0) j).toInt32))) xF_rf (by omega) (by omega)
        replace U := uv_du U (rd1 := upd (rt_d ((rt tx ln x v).2.2.1 0) rd j) j (((rt tx ln x v).2.2.1 0) j).toInt32) x_up_eq F1
        replace F := xF_up (a := b + 13) (e := .inl (dA 0, 10, .inl (upd (rt_d ((rt tx ln x v).2.2.1 0) rd j) j (((rt tx ln x v).2.2.1 0) j).toInt32))) F (by omega) (by omega)
        rw [rt_ds] at U F ⊢
        refine x_iinc G dX4_readText_68 rfl (by decide) ?_
        refine x_keep [0, 1, 2, 3] ?_
        refine x_locE (lv2 := [(0, .ref b), (1, .int v), (2, .int (nI (rt tx ln x v).1)), (3, .int (nI (j + 1)))]) (by rw [nI_succ j]; rfl) ?_
        refine x_goto G 44 dX4_readText_71 (by decide) ?_
        exact nx () _ _ ⟨U, F⟩
    · intro _ h1 sz1 hI
      try dsimp only at hI ⊢
      obtain ⟨U, F⟩ := hI
      refine x_iload_n G dX4_readText_44 rfl ?_
      refine x_bipushV (v := nI 10) G dX4_readText_45 (by decide) ?_
      refine x_icmp_ge G 74 dX4_readText_47 (by decide) (fun c_47 => ?_) (fun c_47 => ?_)
      · refine x_iconstV (v := nI 0) G dX4_readText_74 (by decide) ?_
        exact x_iret G dX4_readText_75 (hp2 e0 _ _ U F)
      · exact absurd (nI_le (Nat.le_refl _) (by omega)) c_47
  · have e0 : ¬ (rt tx ln x v).1 = 0 := fun z => c_34 (by rw [z]; rfl)
    refine x_bipushV (v := (-10)) G dX4_readText_37 (by decide) ?_
    refine x_iload_n G dX4_readText_39 rfl ?_
    refine x_isub G dX4_readText_40 ?_
    exact x_iret G dX4_readText_41 (hp1 e0 _ _ U F)
theorem inX4_scaleProduct_4 : ∀ w ∈ wsX40, w ∈ wsX4_scaleProduct := by decide +kernel
theorem inX4_scaleProduct_3 : ∀ w ∈ wsX30, w ∈ wsX4_scaleProduct := by decide +kernel
def ab_i (x : Int32) : Int32 := if 0 ≤ x then x else 0 - x
def sp_p (a t : Int64) : Nat → Int64
  | 0 => a
  | k + 1 => sp_p a t k * t
def sp_t (rd ab be : Nat → Int32) (v : Int32) (j : Nat) : Int32 := if x_b (0 < rd (6 + j)) = v then ab j else be j
/-- what is above (1) or below (0) of the first j bases; m: how often each -/
def sp_a (rd ab be : Nat → Int32) (v : Int32) (mu : Nat → Nat) : Nat → Int64
  | 0 => 1
  | j + 1 => sp_p (sp_a rd ab be v mu j) (sp_t rd ab be v j).toInt64 (mu j)
set_option maxRecDepth 100000 in
set_option maxHeartbeats 4000000 in
/-- scaleProduct -/
theorem c_X4_scaleProduct (l : Launch) (D : va_G) {dA : Nat → ClassId} {b : Nat} {tx : Nat → Int32} {ln : Nat} {fa : Int32} {x : rT} {pl : Int32} {rd : Nat → Int32} {im : Nat → sT} {ss : Nat → sT} {mx : Nat} {ct : Nat} {so : slT} {ot : slT} {sy : Nat → Nat → Int32} {ab be : Nat → Int32} {n : Nat} {dw kp : Int32} {v : Int32} {mu : Nat → Nat} {h : xH} {sz : Nat} {Post : Option Value → xH → Nat → Prop} (hmu : ∀ j, j < 4 → ab_i (rd (6 + j)) = nI (mu j) ∧ mu j < 100) (U : Uv dA h b tx ln fa x pl rd ((sy, ab, be, nI n, dw, kp)) im ss mx ct so ot) (hpost : Post (some (.long (sp_a rd ab be v mu 4))) h sz) : xMet l yX4_scaleProduct wsX4_scaleProduct 1 24 0 0 D dA [.ref b, .int v] h sz Post := by
  refine x_open (cc := cX4_scaleProduct) (maxL := 8) (ret := (some .long)) (by decide) rfl (Nat.le_of_ble_eq_true rfl) ?_
  intro p e s m args below meth c G _
  have inX4 : ∀ w ∈ wsX40, w ∈ wsX4_scaleProduct := inX4_scaleProduct_4
  have inX3 : ∀ w ∈ wsX30, w ∈ wsX4_scaleProduct := inX4_scaleProduct_3
  refine x_lconstV (v := 1) G dX4_scaleProduct_0 (by decide) ?_
  refine x_lstore_n G dX4_scaleProduct_1 (by decide) ?_
  refine x_iconstV (v := nI 0) G dX4_scaleProduct_2 (by decide) ?_
  refine x_istore G dX4_scaleProduct_3 (by decide) ?_
  refine x_loop (σ := Unit) (fun j _ => [(0, .ref b), (1, .int v), (2, .long (sp_a rd ab be v mu j)), (4, .int (nI j))]) 4 (fun j _ h1 sz1 => h = h1 ∧ sz = sz1) ?_ ?_ 0 () h sz (Nat.zero_le _) ⟨rfl, rfl⟩
  · intro j _ h1 sz1 hj hI nx
    try dsimp only at hI nx ⊢
    obtain ⟨rfl, rfl⟩ := hI
    refine x_iload G dX4_scaleProduct_5 rfl ?_
    refine x_iconstV (v := nI 4) G dX4_scaleProduct_7 (by decide) ?_
    refine x_icmp_ge G 93 dX4_scaleProduct_8 (by decide) (fun c_8 => ?_) (fun c_8 => ?_)
    · exact absurd c_8 (nI_ge hj (by omega))
    · refine x_aload_n G dX4_scaleProduct_11 rfl ?_
      refine x_get G kX4 inX4 4 (by decide) (by decide +kernel) dX4_scaleProduct_12 (uv_o U) rfl ?_
      refine x_bipushV (v := nI 6) G dX4_scaleProduct_15 (by decide) ?_
      refine x_iload G dX4_scaleProduct_17 rfl ?_
      refine x_iadd G dX4_scaleProduct_19 ?_
      refine x_topE (y := nI (6 + j)) (by rw [nI_add]) ?_
      refine x_ialdN G dX4_scaleProduct_20 (uv_d U) (show 6 + j < 10 by omega) (by decide) ?_
      refine x_istore G dX4_scaleProduct_21 (by decide) ?_
      refine x_iload G dX4_scaleProduct_23 rfl ?_
      refine x_if_le G 32 dX4_scaleProduct_25 (by decide) (fun c_25 => ?_) (fun c_25 => ?_)
      · have e0 : x_b (0 < rd (6 + j)) = nI 0 := x_b_f (Int32.not_lt.mpr c_25)
        refine x_iconstV (v := nI 0) G dX4_scaleProduct_32 (by decide) ?_
        refine x_iload_n G dX4_scaleProduct_33 rfl ?_
        refine x_icmp_ne G 50 dX4_scaleProduct_34 (by decide) (fun c_34 => ?_) (fun c_34 => ?_)
        · have et : sp_t rd ab be v j = be j := if_neg (by rw [e0]; exact c_34)
          refine x_aload_n G dX4_scaleProduct_50 rfl ?_
          refine x_get G kX4 inX4 5 (by decide) (by decide +kernel) dX4_scaleProduct_51 (uv_o U) rfl ?_
          refine x_getN (host := "UnitVectors") G kX3 inX3 2 (by decide) (by decide +kernel) dX4_scaleProduct_54 (st_o (uv_n U)) rfl ?_
          refine x_iload G dX4_scaleProduct_57 rfl ?_
          refine x_ialdN G dX4_scaleProduct_59 (st_b (uv_n U)) hj (by decide) ?_
          refine x_topE (y := sp_t rd ab be v j) et.symm ?_
          refine x_istore G dX4_scaleProduct_60 (by decide) ?_
          refine x_iconstV (v := nI 0) G dX4_scaleProduct_62 (by decide) ?_
          refine x_istore G dX4_scaleProduct_63 (by decide) ?_
          refine x_loop (σ := Unit) (fun i _ => [(0, .ref b), (1, .int v), (2, .long (sp_p (sp_a rd ab be v mu j) (sp_t rd ab be v j).toInt64 i)), (4, .int (nI j)), (5, .int (rd (6 + j))), (6, .int (sp_t rd ab be v j)), (7, .int (nI i))]) (mu j) (fun i _ h1 sz1 => h = h1 ∧ sz = sz1) ?_ ?_ 0 () h sz (Nat.zero_le _) ⟨rfl, rfl⟩
          · intro i _ h1 sz1 hj2 hI nx2
            try dsimp only at hI nx2 ⊢
            obtain ⟨rfl, rfl⟩ := hI
            refine x_iload G dX4_scaleProduct_65 rfl ?_
            refine x_iload G dX4_scaleProduct_67 rfl ?_
            refine x_absi G (by decide +kernel) (by decide +kernel) (by decide +kernel) (by decide +kernel) (by decide) (Nat.le_of_ble_eq_true rfl) (by decide) (by decide) dX4_scaleProduct_69 ?_
            refine x_topE (y := nI (mu j)) (hmu j hj).1 ?_
            refine x_icmp_ge G 87 dX4_scaleProduct_72 (by decide) (fun c_72 => ?_) (fun c_72 => ?_)
            · exact absurd c_72 (nI_ge hj2 (by have := (hmu j hj).2; omega))
            · refine x_lload_n G dX4_scaleProduct_75 rfl ?_
              refine x_iload G dX4_scaleProduct_76 rfl ?_
              refine x_i2l G dX4_scaleProduct_78 ?_
              refine x_lmul G dX4_scaleProduct_79 ?_
              refine x_lstore_n G dX4_scaleProduct_80 (by decide) ?_
              refine x_iinc G dX4_scaleProduct_81 rfl (by decide) ?_
              refine x_locE (lv2 := [(0, .ref b), (1, .int v), (2, .long (sp_p (sp_a rd ab be v mu j) (sp_t rd ab be v j).toInt64 (i + 1))), (4, .int (nI j)), (5, .int (rd (6 + j))), (6, .int (sp_t rd ab be v j)), (7, .int (nI (i + 1)))]) (by rw [nI_succ i]; rfl) ?_
              refine x_goto G 65 dX4_scaleProduct_84 (by decide) ?_
              exact nx2 () _ _ ⟨rfl, rfl⟩
          · intro _ h1 sz1 hI
            try dsimp only at hI ⊢
            obtain ⟨rfl, rfl⟩ := hI
            refine x_iload G dX4_scaleProduct_65 rfl ?_
            refine x_iload G dX4_scaleProduct_67 rfl ?_
            refine x_absi G (by decide +kernel) (by decide +kernel) (by decide +kernel) (by decide +kernel) (by decide) (Nat.le_of_ble_eq_true rfl) (by decide) (by decide) dX4_scaleProduct_69 ?_
            refine x_topE (y := nI (mu j)) (hmu j hj).1 ?_
            refine x_icmp_ge G 87 dX4_scaleProduct_72 (by decide) (fun c_72 => ?_) (fun c_72 => ?_)
            · refine x_iinc G dX4_scaleProduct_87 rfl (by decide) ?_
              refine x_keep [0, 1, 2, 4] ?_
              refine x_locE (lv2 := [(0, .ref b), (1, .int v), (2, .long (sp_a rd ab be v mu (j + 1))), (4, .int (nI (j + 1)))]) (by rw [nI_succ j]; rfl) ?_
              refine x_goto G 5 dX4_scaleProduct_90 (by decide) ?_
              exact nx () _ _ ⟨rfl, rfl⟩
            · exact absurd (nI_le (Nat.le_refl _) (by have := (hmu j hj).2; omega)) c_72
        · have et : sp_t rd ab be v j = ab j := if_pos (by rw [e0]; exact c_34)
          refine x_aload_n G dX4_scaleProduct_37 rfl ?_
          refine x_get G kX4 inX4 5 (by decide) (by decide +kernel) dX4_scaleProduct_38 (uv_o U) rfl ?_
          refine x_getN (host := "UnitVectors") G kX3 inX3 1 (by decide) (by decide +kernel) dX4_scaleProduct_41 (st_o (uv_n U)) rfl ?_
          refine x_iload G dX4_scaleProduct_44 rfl ?_
          refine x_ialdN G dX4_scaleProduct_46 (st_a (uv_n U)) hj (by decide) ?_
          refine x_goto G 60 dX4_scaleProduct_47 (by decide) ?_
          refine x_topE (y := sp_t rd ab be v j) et.symm ?_
          refine x_istore G dX4_scaleProduct_60 (by decide) ?_
          refine x_iconstV (v := nI 0) G dX4_scaleProduct_62 (by decide) ?_
          refine x_istore G dX4_scaleProduct_63 (by decide) ?_
          refine x_loop (σ := Unit) (fun i _ => [(0, .ref b), (1, .int v), (2, .long (sp_p (sp_a rd ab be v mu j) (sp_t rd ab be v j).toInt64 i)), (4, .int (nI j)), (5, .int (rd (6 + j))), (6, .int (sp_t rd ab be v j)), (7, .int (nI i))]) (mu j) (fun i _ h1 sz1 => h = h1 ∧ sz = sz1) ?_ ?_ 0 () h sz (Nat.zero_le _) ⟨rfl, rfl⟩
          · intro i _ h1 sz1 hj2 hI nx2
            try dsimp only at hI nx2 ⊢
            obtain ⟨rfl, rfl⟩ := hI
            refine x_iload G dX4_scaleProduct_65 rfl ?_
            refine x_iload G dX4_scaleProduct_67 rfl ?_
            refine x_absi G (by decide +kernel) (by decide +kernel) (by decide +kernel) (by decide +kernel) (by decide) (Nat.le_of_ble_eq_true rfl) (by decide) (by decide) dX4_scaleProduct_69 ?_
            refine x_topE (y := nI (mu j)) (hmu j hj).1 ?_
            refine x_icmp_ge G 87 dX4_scaleProduct_72 (by decide) (fun c_72 => ?_) (fun c_72 => ?_)
            · exact absurd c_72 (nI_ge hj2 (by have := (hmu j hj).2; omega))
            · refine x_lload_n G dX4_scaleProduct_75 rfl ?_
              refine x_iload G dX4_scaleProduct_76 rfl ?_
              refine x_i2l G dX4_scaleProduct_78 ?_
              refine x_lmul G dX4_scaleProduct_79 ?_
              refine x_lstore_n G dX4_scaleProduct_80 (by decide) ?_
              refine x_iinc G dX4_scaleProduct_81 rfl (by decide) ?_
              refine x_locE (lv2 := [(0, .ref b), (1, .int v), (2, .long (sp_p (sp_a rd ab be v mu j) (sp_t rd ab be v j).toInt64 (i + 1))), (4, .int (nI j)), (5, .int (rd (6 + j))), (6, .int (sp_t rd ab be v j)), (7, .int (nI (i + 1)))]) (by rw [nI_succ i]; rfl) ?_
              refine x_goto G 65 dX4_scaleProduct_84 (by decide) ?_
              exact nx2 () _ _ ⟨rfl, rfl⟩
          · intro _ h1 sz1 hI
            try dsimp only at hI ⊢
            obtain ⟨rfl, rfl⟩ := hI
            refine x_iload G dX4_scaleProduct_65 rfl ?_
            refine x_iload G dX4_scaleProduct_67 rfl ?_
            refine x_absi G (by decide +kernel) (by decide +kernel) (by decide +kernel) (by decide +kernel) (by decide) (Nat.le_of_ble_eq_true rfl) (by decide) (by decide) dX4_scaleProduct_69 ?_
            refine x_topE (y := nI (mu j)) (hmu j hj).1 ?_
            refine x_icmp_ge G 87 dX4_scaleProduct_72 (by decide) (fun c_72 => ?_) (fun c_72 => ?_)
            · refine x_iinc G dX4_scaleProduct_87 rfl (by decide) ?_
              refine x_keep [0, 1, 2, 4] ?_
              refine x_locE (lv2 := [(0, .ref b), (1, .int v), (2, .long (sp_a rd ab be v mu (j + 1))), (4, .int (nI (j + 1)))]) (by rw [nI_succ j]; rfl) ?_
              refine x_goto G 5 dX4_scaleProduct_90 (by decide) ?_
              exact nx () _ _ ⟨rfl, rfl⟩
            · exact absurd (nI_le (Nat.le_refl _) (by have := (hmu j hj).2; omega)) c_72
      · have e0 : x_b (0 < rd (6 + j)) = nI 1 := x_b_t (Int32.not_le.mp c_25)
        refine x_iconstV (v := nI 1) G dX4_scaleProduct_28 (by decide) ?_
        refine x_goto G 33 dX4_scaleProduct_29 (by decide) ?_
        refine x_iload_n G dX4_scaleProduct_33 rfl ?_
        refine x_icmp_ne G 50 dX4_scaleProduct_34 (by decide) (fun c_34 => ?_) (fun c_34 => ?_)
        · have et : sp_t rd ab be v j = be j := if_neg (by rw [e0]; exact c_34)
          refine x_aload_n G dX4_scaleProduct_50 rfl ?_
          refine x_get G kX4 inX4 5 (by decide) (by decide +kernel) dX4_scaleProduct_51 (uv_o U) rfl ?_
          refine x_getN (host := "UnitVectors") G kX3 inX3 2 (by decide) (by decide +kernel) dX4_scaleProduct_54 (st_o (uv_n U)) rfl ?_
          refine x_iload G dX4_scaleProduct_57 rfl ?_
          refine x_ialdN G dX4_scaleProduct_59 (st_b (uv_n U)) hj (by decide) ?_
          refine x_topE (y := sp_t rd ab be v j) et.symm ?_
          refine x_istore G dX4_scaleProduct_60 (by decide) ?_
          refine x_iconstV (v := nI 0) G dX4_scaleProduct_62 (by decide) ?_
          refine x_istore G dX4_scaleProduct_63 (by decide) ?_
          refine x_loop (σ := Unit) (fun i _ => [(0, .ref b), (1, .int v), (2, .long (sp_p (sp_a rd ab be v mu j) (sp_t rd ab be v j).toInt64 i)), (4, .int (nI j)), (5, .int (rd (6 + j))), (6, .int (sp_t rd ab be v j)), (7, .int (nI i))]) (mu j) (fun i _ h1 sz1 => h = h1 ∧ sz = sz1) ?_ ?_ 0 () h sz (Nat.zero_le _) ⟨rfl, rfl⟩
          · intro i _ h1 sz1 hj2 hI nx2
            try dsimp only at hI nx2 ⊢
            obtain ⟨rfl, rfl⟩ := hI
            refine x_iload G dX4_scaleProduct_65 rfl ?_
            refine x_iload G dX4_scaleProduct_67 rfl ?_
            refine x_absi G (by decide +kernel) (by decide +kernel) (by decide +kernel) (by decide +kernel) (by decide) (Nat.le_of_ble_eq_true rfl) (by decide) (by decide) dX4_scaleProduct_69 ?_
            refine x_topE (y := nI (mu j)) (hmu j hj).1 ?_
            refine x_icmp_ge G 87 dX4_scaleProduct_72 (by decide) (fun c_72 => ?_) (fun c_72 => ?_)
            · exact absurd c_72 (nI_ge hj2 (by have := (hmu j hj).2; omega))
            · refine x_lload_n G dX4_scaleProduct_75 rfl ?_
              refine x_iload G dX4_scaleProduct_76 rfl ?_
              refine x_i2l G dX4_scaleProduct_78 ?_
              refine x_lmul G dX4_scaleProduct_79 ?_
              refine x_lstore_n G dX4_scaleProduct_80 (by decide) ?_
              refine x_iinc G dX4_scaleProduct_81 rfl (by decide) ?_
              refine x_locE (lv2 := [(0, .ref b), (1, .int v), (2, .long (sp_p (sp_a rd ab be v mu j) (sp_t rd ab be v j).toInt64 (i + 1))), (4, .int (nI j)), (5, .int (rd (6 + j))), (6, .int (sp_t rd ab be v j)), (7, .int (nI (i + 1)))]) (by rw [nI_succ i]; rfl) ?_
              refine x_goto G 65 dX4_scaleProduct_84 (by decide) ?_
              exact nx2 () _ _ ⟨rfl, rfl⟩
          · intro _ h1 sz1 hI
            try dsimp only at hI ⊢
            obtain ⟨rfl, rfl⟩ := hI
            refine x_iload G dX4_scaleProduct_65 rfl ?_
            refine x_iload G dX4_scaleProduct_67 rfl ?_
            refine x_absi G (by decide +kernel) (by decide +kernel) (by decide +kernel) (by decide +kernel) (by decide) (Nat.le_of_ble_eq_true rfl) (by decide) (by decide) dX4_scaleProduct_69 ?_
            refine x_topE (y := nI (mu j)) (hmu j hj).1 ?_
            refine x_icmp_ge G 87 dX4_scaleProduct_72 (by decide) (fun c_72 => ?_) (fun c_72 => ?_)
            · refine x_iinc G dX4_scaleProduct_87 rfl (by decide) ?_
              refine x_keep [0, 1, 2, 4] ?_
              refine x_locE (lv2 := [(0, .ref b), (1, .int v), (2, .long (sp_a rd ab be v mu (j + 1))), (4, .int (nI (j + 1)))]) (by rw [nI_succ j]; rfl) ?_
              refine x_goto G 5 dX4_scaleProduct_90 (by decide) ?_
              exact nx () _ _ ⟨rfl, rfl⟩
            · exact absurd (nI_le (Nat.le_refl _) (by have := (hmu j hj).2; omega)) c_72
        · have et : sp_t rd ab be v j = ab j := if_pos (by rw [e0]; exact c_34)
          refine x_aload_n G dX4_scaleProduct_37 rfl ?_
          refine x_get G kX4 inX4 5 (by decide) (by decide +kernel) dX4_scaleProduct_38 (uv_o U) rfl ?_
          refine x_getN (host := "UnitVectors") G kX3 inX3 1 (by decide) (by decide +kernel) dX4_scaleProduct_41 (st_o (uv_n U)) rfl ?_
          refine x_iload G dX4_scaleProduct_44 rfl ?_
          refine x_ialdN G dX4_scaleProduct_46 (st_a (uv_n U)) hj (by decide) ?_
          refine x_goto G 60 dX4_scaleProduct_47 (by decide) ?_
          refine x_topE (y := sp_t rd ab be v j) et.symm ?_
          refine x_istore G dX4_scaleProduct_60 (by decide) ?_
          refine x_iconstV (v := nI 0) G dX4_scaleProduct_62 (by decide) ?_
          refine x_istore G dX4_scaleProduct_63 (by decide) ?_
          refine x_loop (σ := Unit) (fun i _ => [(0, .ref b), (1, .int v), (2, .long (sp_p (sp_a rd ab be v mu j) (sp_t rd ab be v j).toInt64 i)), (4, .int (nI j)), (5, .int (rd (6 + j))), (6, .int (sp_t rd ab be v j)), (7, .int (nI i))]) (mu j) (fun i _ h1 sz1 => h = h1 ∧ sz = sz1) ?_ ?_ 0 () h sz (Nat.zero_le _) ⟨rfl, rfl⟩
          · intro i _ h1 sz1 hj2 hI nx2
            try dsimp only at hI nx2 ⊢
            obtain ⟨rfl, rfl⟩ := hI
            refine x_iload G dX4_scaleProduct_65 rfl ?_
            refine x_iload G dX4_scaleProduct_67 rfl ?_
            refine x_absi G (by decide +kernel) (by decide +kernel) (by decide +kernel) (by decide +kernel) (by decide) (Nat.le_of_ble_eq_true rfl) (by decide) (by decide) dX4_scaleProduct_69 ?_
            refine x_topE (y := nI (mu j)) (hmu j hj).1 ?_
            refine x_icmp_ge G 87 dX4_scaleProduct_72 (by decide) (fun c_72 => ?_) (fun c_72 => ?_)
            · exact absurd c_72 (nI_ge hj2 (by have := (hmu j hj).2; omega))
            · refine x_lload_n G dX4_scaleProduct_75 rfl ?_
              refine x_iload G dX4_scaleProduct_76 rfl ?_
              refine x_i2l G dX4_scaleProduct_78 ?_
              refine x_lmul G dX4_scaleProduct_79 ?_
              refine x_lstore_n G dX4_scaleProduct_80 (by decide) ?_
              refine x_iinc G dX4_scaleProduct_81 rfl (by decide) ?_
              refine x_locE (lv2 := [(0, .ref b), (1, .int v), (2, .long (sp_p (sp_a rd ab be v mu j) (sp_t rd ab be v j).toInt64 (i + 1))), (4, .int (nI j)), (5, .int (rd (6 + j))), (6, .int (sp_t rd ab be v j)), (7, .int (nI (i + 1)))]) (by rw [nI_succ i]; rfl) ?_
              refine x_goto G 65 dX4_scaleProduct_84 (by decide) ?_
              exact nx2 () _ _ ⟨rfl, rfl⟩
          · intro _ h1 sz1 hI
            try dsimp only at hI ⊢
            obtain ⟨rfl, rfl⟩ := hI
            refine x_iload G dX4_scaleProduct_65 rfl ?_
            refine x_iload G dX4_scaleProduct_67 rfl ?_
            refine x_absi G (by decide +kernel) (by decide +kernel) (by decide +kernel) (by decide +kernel) (by decide) (Nat.le_of_ble_eq_true rfl) (by decide) (by decide) dX4_scaleProduct_69 ?_
            refine x_topE (y := nI (mu j)) (hmu j hj).1 ?_
            refine x_icmp_ge G 87 dX4_scaleProduct_72 (by decide) (fun c_72 => ?_) (fun c_72 => ?_)
            · refine x_iinc G dX4_scaleProduct_87 rfl (by decide) ?_
              refine x_keep [0, 1, 2, 4] ?_
              refine x_locE (lv2 := [(0, .ref b), (1, .int v), (2, .long (sp_a rd ab be v mu (j + 1))), (4, .int (nI (j + 1)))]) (by rw [nI_succ j]; rfl) ?_
              refine x_goto G 5 dX4_scaleProduct_90 (by decide) ?_
              exact nx () _ _ ⟨rfl, rfl⟩
            · exact absurd (nI_le (Nat.le_refl _) (by have := (hmu j hj).2; omega)) c_72
  · intro _ h1 sz1 hI
    try dsimp only at hI ⊢
    obtain ⟨rfl, rfl⟩ := hI
    refine x_iload G dX4_scaleProduct_5 rfl ?_
    refine x_iconstV (v := nI 4) G dX4_scaleProduct_7 (by decide) ?_
    refine x_icmp_ge G 93 dX4_scaleProduct_8 (by decide) (fun c_8 => ?_) (fun c_8 => ?_)
    · refine x_lload_n G dX4_scaleProduct_93 rfl ?_
      exact x_lret G dX4_scaleProduct_94 hpost
    · exact absurd (nI_le (Nat.le_refl _) (by omega)) c_8
