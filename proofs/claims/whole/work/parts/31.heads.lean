/-! ## The class: makeHeadPositive, commonDivisor -/
theorem r_hd_le {f : Nat → Int64} {q : Nat} : ∀ {n j : Nat}, r_hd f q j n ≤ j + n
  | 0, j => Nat.le_refl _
  | n + 1, j => by
    unfold r_hd
    by_cases z : f (q + j) = 0
    · rw [if_pos z]
      have := r_hd_le (f := f) (q := q) (n := n) (j := j + 1)
      omega
    · rw [if_neg z]
      omega
theorem hd_k {f : Nat → Int64} (h : ¬ hd_i f = -1) : ∃ k, k < 6 ∧ r_hd f 0 0 6 = k ∧ hd_i f = nI k := by
  have b := r_hd_le (f := f) (q := 0) (n := 6) (j := 0)
  by_cases z : r_hd f 0 0 6 = 6
  · exact absurd (if_pos z) h
  · exact ⟨_, by omega, rfl, if_neg z⟩
theorem hd_n {f : Nat → Int64} (h : hd_i f = -1) : r_hd f 0 0 6 = 6 := by
  have b := r_hd_le (f := f) (q := 0) (n := 6) (j := 0)
  by_cases z : r_hd f 0 0 6 = 6
  · exact z
  · have e : hd_i f = nI (r_hd f 0 0 6) := if_neg z
    rw [h] at e
    have e2 := congrArg Int32.toInt e
    rw [nI_toInt (by omega)] at e2
    have e3 : (-1 : Int32).toInt = -1 := by decide
    omega
def mn_s (f : Nat → Int64) (k j : Nat) : Nat → Int64 := fun i => if k ≤ i ∧ i < j then -f i else f i
theorem mn_0 {f : Nat → Int64} {k : Nat} : mn_s f k k = f := by
  funext i
  unfold mn_s
  rw [if_neg (by omega)]
theorem mn_s1 {f : Nat → Int64} {k j : Nat} (h : k ≤ j) : vp_updL (mn_s f k j) j (-mn_s f k j j) = mn_s f k (j + 1) := by
  have e0 : mn_s f k j j = f j := if_neg (by omega)
  rw [e0]
  funext i
  unfold vp_updL mn_s
  by_cases e : i = j
  · subst e
    rw [if_pos rfl, if_pos (by omega)]
  · rw [if_neg e]
    by_cases e2 : k ≤ i ∧ i < j
    · rw [if_pos e2, if_pos (by omega)]
    · rw [if_neg e2, if_neg (by omega)]
/-- a row whose head is not less than 0 -/
def mh_f (f : Nat → Int64) : Nat → Int64 := if r_hd f 0 0 6 < 6 ∧ f (r_hd f 0 0 6) < 0 then mn_s f (r_hd f 0 0 6) 6 else f
set_option maxRecDepth 100000 in
set_option maxHeartbeats 4000000 in
/-- makeHeadPositive -/
theorem c_X2_makeHeadPositive (l : Launch) (D : va_G) {dA : Nat → ClassId} {a : Nat} {f : Nat → Int64} {h : xH} {sz : Nat} {Post : Option Value → xH → Nat → Prop} (ha : h a = some (.inl (dA 1, 6, .inr (.inl f)))) (hpost : ∀ sz1 : Nat, Post none (x_up h a (.inl (dA 1, 6, .inr (.inl (mh_f f))))) sz1) : xMet l yX2_makeHeadPositive wsX2_makeHeadPositive 1 21 0 0 D dA [.ref a] h sz Post := by
  refine x_open (cc := cX2_makeHeadPositive) (maxL := 3) (ret := none) (by decide) rfl (Nat.le_of_ble_eq_true rfl) ?_
  intro p e s m args below meth c G _
  refine x_aload_n G dX2_makeHeadPositive_0 rfl ?_
  refine x_callS (n := 1) (rest := []) (As := [.ref a]) G (c_X2_headOf (Post := fun r7 h7 sz7 => r7 = some (.int (hd_i f)) ∧ h = h7 ∧ sz = sz7) l D ha ⟨rfl, rfl, rfl⟩) gX2_makeHeadPositive_X2_headOf rfl ⟨by decide +kernel, by decide +kernel, by decide +kernel⟩ ⟨by decide, by decide⟩ dX2_makeHeadPositive_1 rfl rfl (Nat.le_of_ble_eq_true rfl) ⟨by decide, by decide⟩ ?_
  rintro _ _ _ ⟨rfl, rfl, rfl⟩
  try dsimp only [Option.toList, List.cons_append, List.nil_append]
  refine x_istore_n G dX2_makeHeadPositive_4 (by decide) ?_
  refine x_iload_n G dX2_makeHeadPositive_5 rfl ?_
  refine x_iconstV (v := (-1)) G dX2_makeHeadPositive_6 (by decide) ?_
  refine x_icmp_eq G 39 dX2_makeHeadPositive_7 (by decide) (fun c_7 => ?_) (fun c_7 => ?_)
  · have e : mh_f f = f := if_neg (fun z => by have := hd_n c_7; omega)
    rw [e, x_up_self ha] at hpost
    exact x_vret G dX2_makeHeadPositive_39 (hpost _)
  · obtain ⟨k, hk6, ek, ei⟩ := hd_k c_7
    rw [ei]
    refine x_aload_n G dX2_makeHeadPositive_10 rfl ?_
    refine x_iload_n G dX2_makeHeadPositive_11 rfl ?_
    refine x_laldN G dX2_makeHeadPositive_12 ha (by omega) (by decide) ?_
    refine x_lconstV (v := 0) G dX2_makeHeadPositive_13 (by decide) ?_
    refine x_lcmp G dX2_makeHeadPositive_14 ?_
    refine x_if_ge G 39 dX2_makeHeadPositive_15 (by decide) (fun c_15 => ?_) (fun c_15 => ?_)
    · have e : mh_f f = f := if_neg (fun z => by rw [ek] at z; exact absurd ((x_lgge _ _).mp c_15) (Int64.not_le.mpr z.2))
      rw [e, x_up_self ha] at hpost
      exact x_vret G dX2_makeHeadPositive_39 (hpost _)
    · have e1 : f k < 0 := Int64.not_le.mp (fun z => c_15 ((x_lgge _ _).mpr z))
      have e : mh_f f = mn_s f k 6 := by
        unfold mh_f
        rw [ek, if_pos ⟨hk6, e1⟩]
      rw [e] at hpost
      refine x_iload_n G dX2_makeHeadPositive_18 rfl ?_
      refine x_istore_n G dX2_makeHeadPositive_19 (by decide) ?_
      refine x_loop (σ := Unit) (fun j _ => [(0, .ref a), (1, .int (nI k)), (2, .int (nI j))]) 6 (fun j _ h1 sz1 => k ≤ j ∧ h1 = x_up h a (.inl (dA 1, 6, .inr (.inl (mn_s f k j))))) ?_ ?_ k () h sz (by omega) ⟨Nat.le_refl _, by rw [mn_0, x_up_self ha]⟩
      · intro j _ h1 sz1 hj hI nx
        try dsimp only at hI nx ⊢
        obtain ⟨hkj, rfl⟩ := hI
        refine x_iload_n G dX2_makeHeadPositive_20 rfl ?_
        refine x_bipushV (v := nI 6) G dX2_makeHeadPositive_21 (by decide) ?_
        refine x_icmp_ge G 39 dX2_makeHeadPositive_23 (by decide) (fun c_23 => ?_) (fun c_23 => ?_)
        · exact absurd c_23 (nI_ge hj (by omega))
        · refine x_aload_n G dX2_makeHeadPositive_26 rfl ?_
          refine x_iload_n G dX2_makeHeadPositive_27 rfl ?_
          refine x_aload_n G dX2_makeHeadPositive_28 rfl ?_
          refine x_iload_n G dX2_makeHeadPositive_29 rfl ?_
          refine x_laldN G dX2_makeHeadPositive_30 x_up_eq (by omega) (by decide) ?_
          refine x_lneg G dX2_makeHeadPositive_31 ?_
          refine x_lastN G dX2_makeHeadPositive_32 x_up_eq (by omega) (by decide) ?_
          rw [mn_s1 hkj, x_up_up]
          refine x_iinc G dX2_makeHeadPositive_33 rfl (by decide) ?_
          refine x_locE (lv2 := [(0, .ref a), (1, .int (nI k)), (2, .int (nI (j + 1)))]) (by rw [nI_succ j]; rfl) ?_
          refine x_goto G 20 dX2_makeHeadPositive_36 (by decide) ?_
          exact nx () _ _ ⟨by omega, rfl⟩
      · intro _ h1 sz1 hI
        try dsimp only at hI ⊢
        obtain ⟨hkj, rfl⟩ := hI
        refine x_iload_n G dX2_makeHeadPositive_20 rfl ?_
        refine x_bipushV (v := nI 6) G dX2_makeHeadPositive_21 (by decide) ?_
        refine x_icmp_ge G 39 dX2_makeHeadPositive_23 (by decide) (fun c_23 => ?_) (fun c_23 => ?_)
        · exact x_vret G dX2_makeHeadPositive_39 (hpost _)
        · exact absurd (nI_le (Nat.le_refl _) (by omega)) c_23
def ab_l (x : Int64) : Int64 := if 0 < x then x else -x
/-- division with rest, at most n times -/
def cd_l : Nat → Int64 → Int64 → Int64
  | 0, x, _ => x
  | n + 1, x, y => if y = 0 then x else cd_l n y (x - x / y * y)
set_option maxRecDepth 100000 in
set_option maxHeartbeats 4000000 in
/-- commonDivisor -/
theorem c_X2_commonDivisor (l : Launch) (D : va_G) {dA : Nat → ClassId} {x y : Int64} {h : xH} {sz : Nat} {Post : Option Value → xH → Nat → Prop}  (hpost : Post (some (.long (cd_l 200 (ab_l x) (ab_l y)))) h sz) : xMet l yX2_commonDivisor wsX2_commonDivisor 1 30 0 0 D dA [.long x, .long y] h sz Post := by
  refine x_open (cc := cX2_commonDivisor) (maxL := 11) (ret := (some .long)) (by decide) rfl (Nat.le_of_ble_eq_true rfl) ?_
  intro p e s m args below meth c G _
  refine x_lload_n G dX2_commonDivisor_0 rfl ?_
  refine x_absl G (by decide +kernel) (by decide +kernel) (by decide +kernel) (by decide +kernel) (by decide) (by decide) (by decide) (by decide) dX2_commonDivisor_1 ?_
  refine x_lstore G dX2_commonDivisor_4 (by decide) ?_
  refine x_lload_n G dX2_commonDivisor_6 rfl ?_
  refine x_absl G (by decide +kernel) (by decide +kernel) (by decide +kernel) (by decide +kernel) (by decide) (by decide) (by decide) (by decide) dX2_commonDivisor_7 ?_
  refine x_lstore G dX2_commonDivisor_10 (by decide) ?_
  refine x_iconstV (v := nI 0) G dX2_commonDivisor_12 (by decide) ?_
  refine x_istore G dX2_commonDivisor_13 (by decide) ?_
  refine x_while (σ := Nat × Int64 × Int64) (fun u => [(0, .long x), (2, .long y), (4, .long u.2.1), (6, .long u.2.2), (8, .int (nI u.1))]) [] (fun u h1 sz1 => u.1 ≤ 200 ∧ cd_l (200 - u.1) u.2.1 u.2.2 = cd_l 200 (ab_l x) (ab_l y) ∧ h = h1 ∧ sz = sz1) (fun u => 200 - u.1) ?_ (0, ab_l x, ab_l y) h sz ⟨Nat.zero_le _, rfl, rfl, rfl⟩
  intro u h1 sz1 hI nx
  obtain ⟨hu2, hI, rfl, rfl⟩ := hI
  try dsimp only at hu2 hI ⊢
  refine x_iload G dX2_commonDivisor_15 rfl ?_
  refine x_sipushV (v := nI 200) G dX2_commonDivisor_17 (by decide) ?_
  refine x_icmp_ge G 51 dX2_commonDivisor_20 (by decide) (fun c_20 => ?_) (fun c_20 => ?_)
  · have hu : u.1 = 200 := by
      rcases Nat.lt_or_ge u.1 200 with z | z
      · exact absurd c_20 (nI_ge z (by decide))
      · omega
    rw [hu] at hI
    rw [← hI] at hpost
    refine x_lload G dX2_commonDivisor_51 rfl ?_
    exact x_lret G dX2_commonDivisor_53 hpost
  · have hu : u.1 < 200 := by
      rcases Nat.lt_or_ge u.1 200 with z | z
      · exact z
      · exact absurd (nI_le z (by omega)) c_20
    rw [show 200 - u.1 = (200 - (u.1 + 1)) + 1 by omega] at hI
    refine x_lload G dX2_commonDivisor_23 rfl ?_
    refine x_lconstV (v := 0) G dX2_commonDivisor_25 (by decide) ?_
    refine x_lcmp G dX2_commonDivisor_26 ?_
    refine x_if_eq G 51 dX2_commonDivisor_27 (by decide) (fun c_27 => ?_) (fun c_27 => ?_)
    · have e := (x_lgeq _ _).mp c_27
      rw [show cd_l (200 - (u.1 + 1) + 1) u.2.1 u.2.2 = u.2.1 from if_pos e] at hI
      rw [← hI] at hpost
      refine x_lload G dX2_commonDivisor_51 rfl ?_
      exact x_lret G dX2_commonDivisor_53 hpost
    · have e : ¬ u.2.2 = 0 := fun z => c_27 ((x_lgeq _ _).mpr z)
      rw [show cd_l (200 - (u.1 + 1) + 1) u.2.1 u.2.2 = cd_l (200 - (u.1 + 1)) u.2.2 (u.2.1 - u.2.1 / u.2.2 * u.2.2) from if_neg e] at hI
      refine x_lload G dX2_commonDivisor_30 rfl ?_
      refine x_lload G dX2_commonDivisor_32 rfl ?_
      refine x_lrem G dX2_commonDivisor_34 e ?_
      refine x_lstore G dX2_commonDivisor_35 (by decide) ?_
      refine x_lload G dX2_commonDivisor_37 rfl ?_
      refine x_lstore G dX2_commonDivisor_39 (by decide) ?_
      refine x_lload G dX2_commonDivisor_41 rfl ?_
      refine x_lstore G dX2_commonDivisor_43 (by decide) ?_
      refine x_iinc G dX2_commonDivisor_45 rfl (by decide) ?_
      refine x_keep [0, 2, 4, 6, 8] ?_
      refine x_locE (lv2 := [(0, .long x), (2, .long y), (4, .long u.2.2), (6, .long (u.2.1 - u.2.1 / u.2.2 * u.2.2)), (8, .int (nI (u.1 + 1)))]) (by rw [nI_succ u.1]; rfl) ?_
      refine x_goto G 15 dX2_commonDivisor_48 (by decide) ?_
      exact nx (u.1 + 1, u.2.2, u.2.1 - u.2.1 / u.2.2 * u.2.2) _ _ ⟨by show u.1 + 1 ≤ 200; omega, hI, rfl, rfl⟩ (by show 200 - (u.1 + 1) < 200 - u.1; omega)
