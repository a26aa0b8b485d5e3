/-! ## The class: what works on rows alone, and what it takes of the JDK -/
set_option maxRecDepth 100000 in
set_option maxHeartbeats 4000000 in
/-- product -/
theorem c_X2_product (l : Launch) (D : va_G) {dA : Nat → ClassId} {a r n : Nat} {po : Nat → Int32} {f : Nat → Int64} {h : xH} {sz : Nat} {Post : Option Value → xH → Nat → Prop} (hn6 : 6 ≤ n) (hn : n < 2000) (ha : h a = some (.inl (dA 0, n, .inl po))) (hr : h r = some (.inl (dA 1, 6, .inr (.inl f)))) (hpost : Post (some (.long (r_dot 0 po 0 f 0 6))) h sz) : xMet l yX2_product wsX2_product 0 0 0 0 D dA [.ref a, .ref r] h sz Post := by
  refine x_open (cc := cX2_product) (maxL := 5) (ret := (some .long)) (by decide) rfl (Nat.le_of_ble_eq_true rfl) ?_
  intro p e s m args below meth c G _
  refine x_lconstV (v := 0) G dX2_product_0 (by decide) ?_
  refine x_lstore_n G dX2_product_1 (by decide) ?_
  refine x_iconstV (v := nI 0) G dX2_product_2 (by decide) ?_
  refine x_istore G dX2_product_3 (by decide) ?_
  refine x_loop (σ := Unit) (fun j _ => [(0, .ref a), (1, .ref r), (2, .long (r_dot 0 po 0 f 0 j)), (4, .int (nI j))]) 6 (fun j _ h1 sz1 => h = h1 ∧ sz = sz1) ?_ ?_ 0 () h sz (Nat.zero_le _) ⟨rfl, rfl⟩
  · intro j _ h1 sz1 hj hI nx
    try dsimp only at hI nx ⊢
    obtain ⟨rfl, rfl⟩ := hI
    refine x_iload G dX2_product_5 rfl ?_
    refine x_bipushV (v := nI 6) G dX2_product_7 (by decide) ?_
    refine x_icmp_ge G 31 dX2_product_9 (by decide) (fun c_9 => ?_) (fun c_9 => ?_)
    · exact absurd c_9 (nI_ge hj (by omega))
    · refine x_lload_n G dX2_product_12 rfl ?_
      refine x_aload_n G dX2_product_13 rfl ?_
      refine x_iload G dX2_product_14 rfl ?_
      refine x_topE (y := nI (0 + j)) (by rw [Nat.zero_add]) ?_
      refine x_ialdN G dX2_product_16 ha (by omega) (by omega) ?_
      refine x_i2l G dX2_product_17 ?_
      refine x_aload_n G dX2_product_18 rfl ?_
      refine x_iload G dX2_product_19 rfl ?_
      refine x_topE (y := nI (0 + j)) (by rw [Nat.zero_add]) ?_
      refine x_laldN G dX2_product_21 hr (by omega) (by decide) ?_
      refine x_lmul G dX2_product_22 ?_
      refine x_ladd G dX2_product_23 ?_
      refine x_lstore_n G dX2_product_24 (by decide) ?_
      refine x_iinc G dX2_product_25 rfl (by decide) ?_
      refine x_locE (lv2 := [(0, .ref a), (1, .ref r), (2, .long (r_dot 0 po 0 f 0 (j + 1))), (4, .int (nI (j + 1)))]) (by rw [nI_succ j]; rfl) ?_
      refine x_goto G 5 dX2_product_28 (by decide) ?_
      exact nx () _ _ ⟨rfl, rfl⟩
  · intro _ h1 sz1 hI
    try dsimp only at hI ⊢
    obtain ⟨rfl, rfl⟩ := hI
    refine x_iload G dX2_product_5 rfl ?_
    refine x_bipushV (v := nI 6) G dX2_product_7 (by decide) ?_
    refine x_icmp_ge G 31 dX2_product_9 (by decide) (fun c_9 => ?_) (fun c_9 => ?_)
    · refine x_lload_n G dX2_product_31 rfl ?_
      exact x_lret G dX2_product_32 hpost
    · exact absurd (nI_le (Nat.le_refl _) (by omega)) c_9
/-- the head of a row: its first place that is not 0, or -1 -/
def hd_i (f : Nat → Int64) : Int32 := if r_hd f 0 0 6 = 6 then -1 else nI (r_hd f 0 0 6)
set_option maxRecDepth 100000 in
set_option maxHeartbeats 4000000 in
/-- headOf -/
theorem c_X2_headOf (l : Launch) (D : va_G) {dA : Nat → ClassId} {a : Nat} {f : Nat → Int64} {h : xH} {sz : Nat} {Post : Option Value → xH → Nat → Prop} (ha : h a = some (.inl (dA 1, 6, .inr (.inl f)))) (hpost : Post (some (.int (hd_i f))) h sz) : xMet l yX2_headOf wsX2_headOf 0 0 0 0 D dA [.ref a] h sz Post := by
  refine x_open (cc := cX2_headOf) (maxL := 2) (ret := (some .int)) (by decide) rfl (Nat.le_of_ble_eq_true rfl) ?_
  intro p e s m args below meth c G _
  refine x_iconstV (v := nI 0) G dX2_headOf_0 (by decide) ?_
  refine x_istore_n G dX2_headOf_1 (by decide) ?_
  refine x_while (σ := Nat) (fun u => [(0, .ref a), (1, .int (nI u))]) [] (fun u h1 sz1 => u ≤ 6 ∧ r_hd f 0 u (6 - u) = r_hd f 0 0 6 ∧ h = h1 ∧ sz = sz1) (fun u => 6 - u) ?_ 0 h sz ⟨by omega, rfl, rfl, rfl⟩
  intro u h1 sz1 hI nx
  obtain ⟨hu6, hI, rfl, rfl⟩ := hI
  refine x_iload_n G dX2_headOf_2 rfl ?_
  refine x_bipushV (v := nI 6) G dX2_headOf_3 (by decide) ?_
  refine x_icmp_ge G 24 dX2_headOf_5 (by decide) (fun c_5 => ?_) (fun c_5 => ?_)
  · have hu : u = 6 := by
      rcases Nat.lt_or_ge u 6 with z | z
      · exact absurd c_5 (nI_ge z (by decide))
      · omega
    subst hu
    have e : r_hd f 0 0 6 = 6 := hI.symm
    have ei : hd_i f = -1 := if_pos e
    rw [ei] at hpost
    refine x_iconstV (v := (-1)) G dX2_headOf_24 (by decide) ?_
    exact x_iret G dX2_headOf_25 hpost
  · have hu : u < 6 := by
      rcases Nat.lt_or_ge u 6 with z | z
      · exact z
      · exact absurd (nI_le z (by omega)) c_5
    refine x_aload_n G dX2_headOf_8 rfl ?_
    refine x_iload_n G dX2_headOf_9 rfl ?_
    refine x_topE (y := nI (0 + u)) (by rw [Nat.zero_add]) ?_
    refine x_laldN G dX2_headOf_10 ha (by omega) (by decide) ?_
    refine x_lconstV (v := 0) G dX2_headOf_11 (by decide) ?_
    refine x_lcmp G dX2_headOf_12 ?_
    refine x_if_eq G 18 dX2_headOf_13 (by decide) (fun c_13 => ?_) (fun c_13 => ?_)
    · have e : r_hd f 0 u (6 - u) = r_hd f 0 (u + 1) (6 - (u + 1)) := by
        rw [show 6 - u = (6 - (u + 1)) + 1 by omega]
        show (if f (0 + u) = 0 then _ else _) = _
        rw [if_pos ((x_lgeq _ _).mp c_13)]
      refine x_iinc G dX2_headOf_18 rfl (by decide) ?_
      refine x_locE (lv2 := [(0, .ref a), (1, .int (nI (u + 1)))]) (by rw [nI_succ u]; rfl) ?_
      refine x_goto G 2 dX2_headOf_21 (by decide) ?_
      exact nx (u + 1) _ _ ⟨by omega, by rw [← e]; exact hI, rfl, rfl⟩ (by omega)
    · have e : r_hd f 0 u (6 - u) = u := by
        rw [show 6 - u = (5 - u) + 1 by omega]
        unfold r_hd
        rw [if_neg (fun z => c_13 ((x_lgeq _ _).mpr z))]
      have e2 : r_hd f 0 0 6 = u := hI.symm.trans e
      have ei : hd_i f = nI u := by
        unfold hd_i
        rw [e2, if_neg (by omega)]
      rw [ei] at hpost
      refine x_iload_n G dX2_headOf_16 rfl ?_
      exact x_iret G dX2_headOf_17 hpost
def at_s (f g : Nat → Int64) (t : Int64) (j : Nat) : Nat → Int64 := fun k => if k < j then f k + t * g k else f k
theorem at_s0 {f g : Nat → Int64} {t : Int64} : at_s f g t 0 = f := by
  funext k
  unfold at_s
  rw [if_neg (by omega)]
theorem at_ss {f g : Nat → Int64} {t : Int64} {j : Nat} : vp_updL (at_s f g t j) j (at_s f g t j j + t * g j) = at_s f g t (j + 1) := by
  have e0 : at_s f g t j j = f j := if_neg (by omega)
  rw [e0]
  funext k
  unfold vp_updL at_s
  by_cases e : k = j
  · subst e
    rw [if_pos rfl, if_pos (by omega)]
  · rw [if_neg e]
    by_cases e2 : k < j
    · rw [if_pos e2, if_pos (by omega)]
    · rw [if_neg e2, if_neg (by omega)]
theorem at_z {f g : Nat → Int64} {t : Int64} {j : Nat} (h : t = 0) : at_s f g t j = f := by
  funext k
  unfold at_s
  rw [h, Int64.zero_mul, Int64.add_zero, ite_self]
set_option maxRecDepth 100000 in
set_option maxHeartbeats 4000000 in
/-- addTimes -/
theorem c_X2_addTimes (l : Launch) (D : va_G) {dA : Nat → ClassId} {a r : Nat} {f g : Nat → Int64} {t : Int64} {h : xH} {sz : Nat} {Post : Option Value → xH → Nat → Prop} (hne : r ≠ a) (ha : h a = some (.inl (dA 1, 6, .inr (.inl f)))) (hr : h r = some (.inl (dA 1, 6, .inr (.inl g)))) (hpost : ∀ sz1 : Nat, Post none (x_up h a (.inl (dA 1, 6, .inr (.inl (at_s f g t 6))))) sz1) : xMet l yX2_addTimes wsX2_addTimes 0 0 0 0 D dA [.ref a, .ref r, .long t] h sz Post := by
  refine x_open (cc := cX2_addTimes) (maxL := 5) (ret := none) (by decide) rfl (Nat.le_of_ble_eq_true rfl) ?_
  intro p e s m args below meth c G _
  refine x_iconstV (v := nI 0) G dX2_addTimes_0 (by decide) ?_
  refine x_istore G dX2_addTimes_1 (by decide) ?_
  refine x_loop (σ := Unit) (fun j _ => [(0, .ref a), (1, .ref r), (2, .long t), (4, .int (nI j))]) 6 (fun j _ h1 sz1 => h1 = x_up h a (.inl (dA 1, 6, .inr (.inl (at_s f g t j))))) ?_ ?_ 0 () h sz (Nat.zero_le _) (by rw [at_s0, x_up_self ha])
  · intro j _ h1 sz1 hj hI nx
    try dsimp only at hI nx ⊢
    obtain rfl := hI
    refine x_iload G dX2_addTimes_3 rfl ?_
    refine x_bipushV (v := nI 6) G dX2_addTimes_5 (by decide) ?_
    refine x_icmp_ge G 35 dX2_addTimes_7 (by decide) (fun c_7 => ?_) (fun c_7 => ?_)
    · exact absurd c_7 (nI_ge hj (by omega))
    · refine x_lload_n G dX2_addTimes_10 rfl ?_
      refine x_lconstV (v := 0) G dX2_addTimes_11 (by decide) ?_
      refine x_lcmp G dX2_addTimes_12 ?_
      refine x_if_eq G 35 dX2_addTimes_13 (by decide) (fun c_13 => ?_) (fun c_13 => ?_)
      · have e := (x_lgeq _ _).mp c_13
        rw [at_z e]
        rw [at_z e] at hpost
        exact x_vret G dX2_addTimes_35 (hpost _)
      · refine x_aload_n G dX2_addTimes_16 rfl ?_
        refine x_iload G dX2_addTimes_17 rfl ?_
        refine x_dup2 G dX2_addTimes_19 rfl rfl ?_
        refine x_laldN G dX2_addTimes_20 x_up_eq (by omega) (by decide) ?_
        refine x_lload_n G dX2_addTimes_21 rfl ?_
        refine x_aload_n G dX2_addTimes_22 rfl ?_
        refine x_iload G dX2_addTimes_23 rfl ?_
        refine x_laldN G dX2_addTimes_25 ((x_up_ne hne).trans hr) (by omega) (by decide) ?_
        refine x_lmul G dX2_addTimes_26 ?_
        refine x_ladd G dX2_addTimes_27 ?_
        refine x_lastN G dX2_addTimes_28 x_up_eq (by omega) (by decide) ?_
        rw [at_ss, x_up_up]
        refine x_iinc G dX2_addTimes_29 rfl (by decide) ?_
        refine x_locE (lv2 := [(0, .ref a), (1, .ref r), (2, .long t), (4, .int (nI (j + 1)))]) (by rw [nI_succ j]; rfl) ?_
        refine x_goto G 3 dX2_addTimes_32 (by decide) ?_
        exact nx () _ _ rfl
  · intro _ h1 sz1 hI
    try dsimp only at hI ⊢
    obtain rfl := hI
    refine x_iload G dX2_addTimes_3 rfl ?_
    refine x_bipushV (v := nI 6) G dX2_addTimes_5 (by decide) ?_
    refine x_icmp_ge G 35 dX2_addTimes_7 (by decide) (fun c_7 => ?_) (fun c_7 => ?_)
    · exact x_vret G dX2_addTimes_35 (hpost _)
    · exact absurd (nI_le (Nat.le_refl _) (by omega)) c_7
def fl_L (f : Nat → Int64) (v : Int64) (j : Nat) : Nat → Int64 := fun k => if k < j then v else f k
theorem fl_L_0 {f : Nat → Int64} {v : Int64} : fl_L f v 0 = f := by
  funext k
  unfold fl_L
  rw [if_neg (by omega)]
theorem fl_L_s {f : Nat → Int64} {v : Int64} {j : Nat} : vp_updL (fl_L f v j) j v = fl_L f v (j + 1) := by
  funext k
  unfold vp_updL fl_L
  by_cases e : k = j
  · rw [if_pos e, if_pos (by omega)]
  · rw [if_neg e]
    by_cases e2 : k < j
    · rw [if_pos e2, if_pos (by omega)]
    · rw [if_neg e2, if_neg (by omega)]
set_option maxRecDepth 100000 in
set_option maxHeartbeats 4000000 in
/-- fill -/
theorem c_fillL (l : Launch) (D : va_G) {dA : Nat → ClassId} {a n : Nat} {f : Nat → Int64} {v : Int64} {h : xH} {sz : Nat} {Post : Option Value → xH → Nat → Prop} (hn : n < 2000) (ha : h a = some (.inl (dA 1, n, .inr (.inl f)))) (hpost : Post none (x_up h a (.inl (dA 1, n, .inr (.inl (fl_L f v n))))) sz) : xMet l yJ7_fill_d0a16 wsJ7_fill_d0a16 0 0 0 0 D dA [.ref a, .long v] h sz Post := by
  refine x_open (cc := cJ7_fill_d0a16) (maxL := 5) (ret := none) (by decide) rfl (Nat.le_of_ble_eq_true rfl) ?_
  intro p e s m args below meth c G _
  refine x_iconstV (v := nI 0) G dJ7_fill_d0a16_0 (by decide) ?_
  refine x_istore_n G dJ7_fill_d0a16_1 (by decide) ?_
  refine x_aload_n G dJ7_fill_d0a16_2 rfl ?_
  refine x_alen (t := 1) G rfl dJ7_fill_d0a16_3 ha ?_
  refine x_topE (y := nI n) rfl ?_
  refine x_istore G dJ7_fill_d0a16_4 (by decide) ?_
  refine x_loop (σ := Unit) (fun j _ => [(0, .ref a), (1, .long v), (3, .int (nI j)), (4, .int (nI n))]) n (fun j _ h1 sz1 => h1 = x_up h a (.inl (dA 1, n, .inr (.inl (fl_L f v j)))) ∧ sz = sz1) ?_ ?_ 0 () h sz (Nat.zero_le _) ⟨by rw [fl_L_0, x_up_self ha], rfl⟩
  · intro j _ h1 sz1 hj hI nx
    try dsimp only at hI nx ⊢
    obtain ⟨rfl, rfl⟩ := hI
    refine x_iload_n G dJ7_fill_d0a16_6 rfl ?_
    refine x_iload G dJ7_fill_d0a16_7 rfl ?_
    refine x_icmp_ge G 22 dJ7_fill_d0a16_9 (by decide) (fun c_9 => ?_) (fun c_9 => ?_)
    · exact absurd c_9 (nI_ge hj (by omega))
    · refine x_aload_n G dJ7_fill_d0a16_12 rfl ?_
      refine x_iload_n G dJ7_fill_d0a16_13 rfl ?_
      refine x_lload_n G dJ7_fill_d0a16_14 rfl ?_
      refine x_lastN G dJ7_fill_d0a16_15 x_up_eq (by omega) (by omega) ?_
      rw [fl_L_s, x_up_up]
      refine x_iinc G dJ7_fill_d0a16_16 rfl (by decide) ?_
      refine x_locE (lv2 := [(0, .ref a), (1, .long v), (3, .int (nI (j + 1))), (4, .int (nI n))]) (by rw [nI_succ j]; rfl) ?_
      refine x_goto G 6 dJ7_fill_d0a16_19 (by decide) ?_
      exact nx () _ _ ⟨rfl, rfl⟩
  · intro _ h1 sz1 hI
    try dsimp only at hI ⊢
    obtain ⟨rfl, rfl⟩ := hI
    refine x_iload_n G dJ7_fill_d0a16_6 rfl ?_
    refine x_iload G dJ7_fill_d0a16_7 rfl ?_
    refine x_icmp_ge G 22 dJ7_fill_d0a16_9 (by decide) (fun c_9 => ?_) (fun c_9 => ?_)
    · exact x_vret G dJ7_fill_d0a16_22 hpost
    · exact absurd (nI_le (Nat.le_refl _) (by omega)) c_9
def fl_I (f : Nat → Int32) (v : Int32) (j : Nat) : Nat → Int32 := fun k => if k < j then v else f k
theorem fl_I_0 {f : Nat → Int32} {v : Int32} : fl_I f v 0 = f := by
  funext k
  unfold fl_I
  rw [if_neg (by omega)]
theorem fl_I_s {f : Nat → Int32} {v : Int32} {j : Nat} : upd (fl_I f v j) j v = fl_I f v (j + 1) := by
  funext k
  unfold upd fl_I
  by_cases e : k = j
  · rw [if_pos e, if_pos (by omega)]
  · rw [if_neg e]
    by_cases e2 : k < j
    · rw [if_pos e2, if_pos (by omega)]
    · rw [if_neg e2, if_neg (by omega)]
set_option maxRecDepth 100000 in
set_option maxHeartbeats 4000000 in
/-- fill -/
theorem c_fillI (l : Launch) (D : va_G) {dA : Nat → ClassId} {a n : Nat} {f : Nat → Int32} {v : Int32} {h : xH} {sz : Nat} {Post : Option Value → xH → Nat → Prop} (hn : n < 2000) (ha : h a = some (.inl (dA 0, n, .inl f))) (hpost : Post none (x_up h a (.inl (dA 0, n, .inl (fl_I f v n)))) sz) : xMet l yJ7_fill_53178 wsJ7_fill_53178 0 0 0 0 D dA [.ref a, .int v] h sz Post := by
  refine x_open (cc := cJ7_fill_53178) (maxL := 4) (ret := none) (by decide) rfl (Nat.le_of_ble_eq_true rfl) ?_
  intro p e s m args below meth c G _
  refine x_iconstV (v := nI 0) G dJ7_fill_53178_0 (by decide) ?_
  refine x_istore_n G dJ7_fill_53178_1 (by decide) ?_
  refine x_aload_n G dJ7_fill_53178_2 rfl ?_
  refine x_alen (t := 0) G rfl dJ7_fill_53178_3 ha ?_
  refine x_topE (y := nI n) rfl ?_
  refine x_istore_n G dJ7_fill_53178_4 (by decide) ?_
  refine x_loop (σ := Unit) (fun j _ => [(0, .ref a), (1, .int v), (2, .int (nI j)), (3, .int (nI n))]) n (fun j _ h1 sz1 => h1 = x_up h a (.inl (dA 0, n, .inl (fl_I f v j))) ∧ sz = sz1) ?_ ?_ 0 () h sz (Nat.zero_le _) ⟨by rw [fl_I_0, x_up_self ha], rfl⟩
  · intro j _ h1 sz1 hj hI nx
    try dsimp only at hI nx ⊢
    obtain ⟨rfl, rfl⟩ := hI
    refine x_iload_n G dJ7_fill_53178_5 rfl ?_
    refine x_iload_n G dJ7_fill_53178_6 rfl ?_
    refine x_icmp_ge G 20 dJ7_fill_53178_7 (by decide) (fun c_7 => ?_) (fun c_7 => ?_)
    · exact absurd c_7 (nI_ge hj (by omega))
    · refine x_aload_n G dJ7_fill_53178_10 rfl ?_
      refine x_iload_n G dJ7_fill_53178_11 rfl ?_
      refine x_iload_n G dJ7_fill_53178_12 rfl ?_
      refine x_iastN G dJ7_fill_53178_13 x_up_eq (by omega) (by omega) ?_
      rw [fl_I_s, x_up_up]
      refine x_iinc G dJ7_fill_53178_14 rfl (by decide) ?_
      refine x_locE (lv2 := [(0, .ref a), (1, .int v), (2, .int (nI (j + 1))), (3, .int (nI n))]) (by rw [nI_succ j]; rfl) ?_
      refine x_goto G 5 dJ7_fill_53178_17 (by decide) ?_
      exact nx () _ _ ⟨rfl, rfl⟩
  · intro _ h1 sz1 hI
    try dsimp only at hI ⊢
    obtain ⟨rfl, rfl⟩ := hI
    refine x_iload_n G dJ7_fill_53178_5 rfl ?_
    refine x_iload_n G dJ7_fill_53178_6 rfl ?_
    refine x_icmp_ge G 20 dJ7_fill_53178_7 (by decide) (fun c_7 => ?_) (fun c_7 => ?_)
    · exact x_vret G dJ7_fill_53178_20 hpost
    · exact absurd (nI_le (Nat.le_refl _) (by omega)) c_7
