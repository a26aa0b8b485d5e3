/-! ## The class: Solutions: commonGain, lacksAreTimes, imply, agrees -/
def cg_l (ga : Nat → Int64) : Nat → Int64
  | 0 => 0
  | j + 1 => cd_l 200 (ab_l (cg_l ga j)) (ab_l (ga j))
def lt_r (la : Nat → Int64) (d : Int64) (b : Nat) : Int64 := if d = 0 then la b else la b - la b / d * d
def lt_n (la : Nat → Int64) (d : Int64) : Nat → Bool
  | 0 => true
  | k + 1 => lt_n la d k && (lt_r la d k == 0)
theorem lt_n_iff {la : Nat → Int64} {d : Int64} : ∀ {n : Nat}, lt_n la d n = true ↔ ∀ b, b < n → lt_r la d b = 0
  | 0 => ⟨fun _ b hb => absurd hb (Nat.not_lt_zero _), fun _ => rfl⟩
  | n + 1 => by
    show (lt_n la d n && (lt_r la d n == 0)) = true ↔ _
    rw [Bool.and_eq_true, lt_n_iff, beq_iff_eq]
    constructor
    · intro z b hb
      rcases Nat.lt_or_ge b n with y | y
      · exact z.1 b y
      · rw [show b = n by omega]; exact z.2
    · intro z
      exact ⟨fun b hb => z b (by omega), z n (by omega)⟩
def lt_b (la : Nat → Int64) (d : Int64) : Bool := lt_n la d 4
theorem lt_b_iff {la : Nat → Int64} {d : Int64} : lt_b la d = true ↔ ∀ b, b < 4 → lt_r la d b = 0 := lt_n_iff
theorem inX2_commonGain_2 : ∀ w ∈ wsX20, w ∈ wsX2_commonGain := by decide +kernel
set_option maxRecDepth 100000 in
set_option maxHeartbeats 4000000 in
/-- commonGain -/
theorem c_X2_commonGain (l : Launch) (D : va_G) {dA : Nat → ClassId} {w : Nat} {ad : Nat → Nat} {f lo : Nat → Nat → Int64} {ga la : Nat → Int64} {sg : Int64} {n : Nat} {h : xH} {sz : Nat} {Post : Option Value → xH → Nat → Prop} (hn : n ≤ 6) (S : SlA dA h w ad f lo ga la sg n) (hpost : Post (some (.long (cg_l ga n))) h sz) : xMet l yX2_commonGain wsX2_commonGain 2 64 0 0 D dA [.ref w] h sz Post := by
  refine x_open (cc := cX2_commonGain) (maxL := 4) (ret := (some .long)) (by decide) rfl (Nat.le_of_ble_eq_true rfl) ?_
  intro p e s m args below meth c G _
  have inX2 : ∀ w ∈ wsX20, w ∈ wsX2_commonGain := inX2_commonGain_2
  refine x_lconstV (v := 0) G dX2_commonGain_0 (by decide) ?_
  refine x_lstore_n G dX2_commonGain_1 (by decide) ?_
  refine x_iconstV (v := nI 0) G dX2_commonGain_2 (by decide) ?_
  refine x_istore_n G dX2_commonGain_3 (by decide) ?_
  refine x_loop (σ := Unit) (fun j _ => [(0, .ref w), (1, .long (cg_l ga j)), (3, .int (nI j))]) n (fun j _ h1 sz1 => h = h1 ∧ sz = sz1) ?_ ?_ 0 () h sz (Nat.zero_le _) ⟨rfl, rfl⟩
  · intro j _ h1 sz1 hj hI nx
    try dsimp only at hI nx ⊢
    obtain ⟨rfl, rfl⟩ := hI
    refine x_iload_n G dX2_commonGain_4 rfl ?_
    refine x_aload_n G dX2_commonGain_5 rfl ?_
    refine x_get G kX2 inX2 6 (by decide) (by decide +kernel) dX2_commonGain_6 (sl_o S) rfl ?_
    refine x_icmp_ge G 29 dX2_commonGain_9 (by decide) (fun c_9 => ?_) (fun c_9 => ?_)
    · exact absurd c_9 (nI_ge hj (by omega))
    · refine x_lload_n G dX2_commonGain_12 rfl ?_
      refine x_aload_n G dX2_commonGain_13 rfl ?_
      refine x_get G kX2 inX2 2 (by decide) (by decide +kernel) dX2_commonGain_14 (sl_o S) rfl ?_
      refine x_iload_n G dX2_commonGain_17 rfl ?_
      refine x_laldN G dX2_commonGain_18 (sl_g S) (show j < 6 by omega) (by decide) ?_
      refine x_callS (n := 2) (rest := []) (As := [.long (cg_l ga j), .long (ga j)]) G (c_X2_commonDivisor (Post := fun r7 h7 sz7 => r7 = some (.long (cg_l ga (j + 1))) ∧ h = h7 ∧ sz = sz7) l D ⟨rfl, rfl, rfl⟩) gX2_commonGain_X2_commonDivisor rfl ⟨by decide +kernel, by decide +kernel, by decide +kernel⟩ ⟨by decide, by decide⟩ dX2_commonGain_19 rfl rfl (Nat.le_of_ble_eq_true rfl) ⟨by decide, by decide⟩ ?_
      rintro _ _ _ ⟨rfl, rfl, rfl⟩
      try dsimp only [Option.toList, List.cons_append, List.nil_append]
      refine x_lstore_n G dX2_commonGain_22 (by decide) ?_
      refine x_iinc G dX2_commonGain_23 rfl (by decide) ?_
      refine x_locE (lv2 := [(0, .ref w), (1, .long (cg_l ga (j + 1))), (3, .int (nI (j + 1)))]) (by rw [nI_succ j]; rfl) ?_
      refine x_goto G 4 dX2_commonGain_26 (by decide) ?_
      exact nx () _ _ ⟨rfl, rfl⟩
  · intro _ h1 sz1 hI
    try dsimp only at hI ⊢
    obtain ⟨rfl, rfl⟩ := hI
    refine x_iload_n G dX2_commonGain_4 rfl ?_
    refine x_aload_n G dX2_commonGain_5 rfl ?_
    refine x_get G kX2 inX2 6 (by decide) (by decide +kernel) dX2_commonGain_6 (sl_o S) rfl ?_
    refine x_icmp_ge G 29 dX2_commonGain_9 (by decide) (fun c_9 => ?_) (fun c_9 => ?_)
    · refine x_lload_n G dX2_commonGain_29 rfl ?_
      exact x_lret G dX2_commonGain_30 hpost
    · exact absurd (nI_le (Nat.le_refl _) (by omega)) c_9
theorem inX2_lacksAreTimes_2 : ∀ w ∈ wsX20, w ∈ wsX2_lacksAreTimes := by decide +kernel
set_option maxRecDepth 100000 in
set_option maxHeartbeats 4000000 in
/-- lacksAreTimes -/
theorem c_X2_lacksAreTimes (l : Launch) (D : va_G) {dA : Nat → ClassId} {w : Nat} {ad : Nat → Nat} {f lo : Nat → Nat → Int64} {ga la : Nat → Int64} {sg : Int64} {n : Nat} {d : Int64} {h : xH} {sz : Nat} {Post : Option Value → xH → Nat → Prop} (S : SlA dA h w ad f lo ga la sg n) (hpost : Post (some (.int (x_b (lt_b la d = true)))) h sz) : xMet l yX2_lacksAreTimes wsX2_lacksAreTimes 0 0 0 0 D dA [.ref w, .long d] h sz Post := by
  refine x_open (cc := cX2_lacksAreTimes) (maxL := 6) (ret := (some .boolean)) (by decide) rfl (Nat.le_of_ble_eq_true rfl) ?_
  intro p e s m args below meth c G _
  have inX2 : ∀ w ∈ wsX20, w ∈ wsX2_lacksAreTimes := inX2_lacksAreTimes_2
  refine x_iconstV (v := nI 0) G dX2_lacksAreTimes_0 (by decide) ?_
  refine x_istore_n G dX2_lacksAreTimes_1 (by decide) ?_
  refine x_loop (σ := Unit) (fun j _ => [(0, .ref w), (1, .long d), (3, .int (nI j))]) 4 (fun j _ h1 sz1 => (∀ b, b < j → lt_r la d b = 0) ∧ h = h1 ∧ sz = sz1) ?_ ?_ 0 () h sz (Nat.zero_le _) ⟨fun i hi => absurd hi (Nat.not_lt_zero _), rfl, rfl⟩
  · intro j _ h1 sz1 hj hI nx
    try dsimp only at hI nx ⊢
    obtain ⟨hI, rfl, rfl⟩ := hI
    refine x_iload_n G dX2_lacksAreTimes_2 rfl ?_
    refine x_iconstV (v := nI 4) G dX2_lacksAreTimes_3 (by decide) ?_
    refine x_icmp_ge G 47 dX2_lacksAreTimes_4 (by decide) (fun c_4 => ?_) (fun c_4 => ?_)
    · exact absurd c_4 (nI_ge hj (by omega))
    · refine x_lload_n G dX2_lacksAreTimes_7 rfl ?_
      refine x_lconstV (v := 0) G dX2_lacksAreTimes_8 (by decide) ?_
      refine x_lcmp G dX2_lacksAreTimes_9 ?_
      refine x_if_ne G 22 dX2_lacksAreTimes_10 (by decide) (fun c_10 => ?_) (fun c_10 => ?_)
      · have e0 : ¬ d = 0 := fun z => c_10 ((x_lgeq _ _).mpr z)
        have ev : lt_r la d j = la j - la j / d * d := if_neg e0
        refine x_aload_n G dX2_lacksAreTimes_22 rfl ?_
        refine x_get G kX2 inX2 3 (by decide) (by decide +kernel) dX2_lacksAreTimes_23 (sl_o S) rfl ?_
        refine x_iload_n G dX2_lacksAreTimes_26 rfl ?_
        refine x_laldN G dX2_lacksAreTimes_27 (sl_k S) (by omega) (by decide) ?_
        refine x_lload_n G dX2_lacksAreTimes_28 rfl ?_
        refine x_lrem G dX2_lacksAreTimes_29 e0 ?_
        refine x_lstore G dX2_lacksAreTimes_30 (by decide) ?_
        refine x_lload G dX2_lacksAreTimes_32 rfl ?_
        refine x_lconstV (v := 0) G dX2_lacksAreTimes_34 (by decide) ?_
        refine x_lcmp G dX2_lacksAreTimes_35 ?_
        refine x_if_eq G 41 dX2_lacksAreTimes_36 (by decide) (fun c_36 => ?_) (fun c_36 => ?_)
        · have e : ∀ b, b < j + 1 → lt_r la d b = 0 := fun b hb => by
            rcases Nat.lt_or_ge b j with z | z
            · exact hI b z
            · rw [show b = j by omega, ev]; exact (x_lgeq _ _).mp c_36
          refine x_iinc G dX2_lacksAreTimes_41 rfl (by decide) ?_
          refine x_keep [0, 1, 3] ?_
          refine x_locE (lv2 := [(0, .ref w), (1, .long d), (3, .int (nI (j + 1)))]) (by rw [nI_succ j]; rfl) ?_
          refine x_goto G 2 dX2_lacksAreTimes_44 (by decide) ?_
          exact nx () _ _ ⟨e, rfl, rfl⟩
        · rw [x_b_f (fun z => c_36 ((x_lgeq _ _).mpr (by rw [← ev]; exact lt_b_iff.mp z j hj)))] at hpost
          refine x_iconstV (v := nI 0) G dX2_lacksAreTimes_39 (by decide) ?_
          exact x_zret G dX2_lacksAreTimes_40 rfl hpost
      · have e0 : d = 0 := (x_lgeq _ _).mp c_10
        have ev : lt_r la d j = la j := if_pos e0
        refine x_aload_n G dX2_lacksAreTimes_13 rfl ?_
        refine x_get G kX2 inX2 3 (by decide) (by decide +kernel) dX2_lacksAreTimes_14 (sl_o S) rfl ?_
        refine x_iload_n G dX2_lacksAreTimes_17 rfl ?_
        refine x_laldN G dX2_lacksAreTimes_18 (sl_k S) (by omega) (by decide) ?_
        refine x_goto G 30 dX2_lacksAreTimes_19 (by decide) ?_
        refine x_lstore G dX2_lacksAreTimes_30 (by decide) ?_
        refine x_lload G dX2_lacksAreTimes_32 rfl ?_
        refine x_lconstV (v := 0) G dX2_lacksAreTimes_34 (by decide) ?_
        refine x_lcmp G dX2_lacksAreTimes_35 ?_
        refine x_if_eq G 41 dX2_lacksAreTimes_36 (by decide) (fun c_36 => ?_) (fun c_36 => ?_)
        · have e : ∀ b, b < j + 1 → lt_r la d b = 0 := fun b hb => by
            rcases Nat.lt_or_ge b j with z | z
            · exact hI b z
            · rw [show b = j by omega, ev]; exact (x_lgeq _ _).mp c_36
          refine x_iinc G dX2_lacksAreTimes_41 rfl (by decide) ?_
          refine x_keep [0, 1, 3] ?_
          refine x_locE (lv2 := [(0, .ref w), (1, .long d), (3, .int (nI (j + 1)))]) (by rw [nI_succ j]; rfl) ?_
          refine x_goto G 2 dX2_lacksAreTimes_44 (by decide) ?_
          exact nx () _ _ ⟨e, rfl, rfl⟩
        · rw [x_b_f (fun z => c_36 ((x_lgeq _ _).mpr (by rw [← ev]; exact lt_b_iff.mp z j hj)))] at hpost
          refine x_iconstV (v := nI 0) G dX2_lacksAreTimes_39 (by decide) ?_
          exact x_zret G dX2_lacksAreTimes_40 rfl hpost
  · intro _ h1 sz1 hI
    try dsimp only at hI ⊢
    obtain ⟨hI, rfl, rfl⟩ := hI
    refine x_iload_n G dX2_lacksAreTimes_2 rfl ?_
    refine x_iconstV (v := nI 4) G dX2_lacksAreTimes_3 (by decide) ?_
    refine x_icmp_ge G 47 dX2_lacksAreTimes_4 (by decide) (fun c_4 => ?_) (fun c_4 => ?_)
    · rw [x_b_t (show lt_b la d = true from lt_b_iff.mpr hI)] at hpost
      refine x_iconstV (v := nI 1) G dX2_lacksAreTimes_47 (by decide) ?_
      exact x_zret G dX2_lacksAreTimes_48 rfl hpost
    · exact absurd (nI_le (Nat.le_refl _) (by omega)) c_4
def im_b (po : Nat → Int32) (f lo : Nat → Nat → Int64) (ga la : Nat → Int64) (n : Nat) : Bool := decide (cg_l (wg_g po f ga n) n = 0) && lt_b (wg_l po lo la 4) 0
def ag_b (po : Nat → Int32) (f lo : Nat → Nat → Int64) (ga la : Nat → Int64) (n : Nat) : Bool := lt_b (wg_l po lo la 4) (cg_l (wg_g po f ga n) n)
theorem inX2_imply_2 : ∀ w ∈ wsX20, w ∈ wsX2_imply := by decide +kernel
set_option maxRecDepth 100000 in
set_option maxHeartbeats 4000000 in
/-- imply -/
theorem c_X2_imply (l : Launch) (D : va_G) {dA : Nat → ClassId} {w : Nat} {ad : Nat → Nat} {f lo : Nat → Nat → Int64} {ga la : Nat → Int64} {sg : Int64} {n : Nat} {a n1 : Nat} {po : Nat → Int32} {h : xH} {sz : Nat} {Post : Option Value → xH → Nat → Prop} (hn : n ≤ 6) (ho : a < w ∨ w + 16 ≤ a) (hn1 : 10 ≤ n1) (hn2 : n1 < 2000) (hp : h a = some (.inl (dA 0, n1, .inl po))) (S : SlA dA h w ad f lo ga la sg n) (hpost : ∀ (h1 : xH) (sz1 : Nat), SlA dA h1 w ad f lo (wg_g po f ga n) (wg_l po lo la 4) sg n → xF w (w + 16) h h1 → Post (some (.int (x_b (im_b po f lo ga la n = true)))) h1 sz1) : xMet l yX2_imply wsX2_imply 3 90 0 0 D dA [.ref w, .ref a] h sz Post := by
  refine x_open (cc := cX2_imply) (maxL := 2) (ret := (some .boolean)) (by decide) rfl (Nat.le_of_ble_eq_true rfl) ?_
  intro p e s m args below meth c G _
  have inX2 : ∀ w ∈ wsX20, w ∈ wsX2_imply := inX2_imply_2
  refine x_aload_n G dX2_imply_0 rfl ?_
  refine x_aload_n G dX2_imply_1 rfl ?_
  refine x_callV (n := 1) (rest := []) (As := [.ref a]) G (ci := 2) (c_X2_weigh (Post := fun r7 h7 sz7 => r7 = none ∧ SlA dA h7 w ad f lo (wg_g po f ga n) (wg_l po lo la 4) sg n ∧ xF w (w + 16) h h7) l D hn ho hn1 hn2 hp S (fun h7 sz7 q1 q2 => ⟨rfl, q1, q2⟩)) gX2_imply_X2_weigh rfl ⟨rfl, by decide +kernel, by decide +kernel, by decide +kernel⟩ ⟨by decide, by decide⟩ rfl rfl (sl_o S) dX2_imply_2 rfl rfl (Nat.le_of_ble_eq_true rfl) ⟨by decide, by decide⟩ ?_
  rintro _ h1 sz1 ⟨rfl, S, F⟩
  try dsimp only [Option.toList, List.cons_append, List.nil_append]
  replace hpost := hpost _ sz1 S F
  refine x_aload_n G dX2_imply_5 rfl ?_
  refine x_callV (n := 0) (rest := []) (As := []) G (ci := 2) (c_X2_commonGain (Post := fun r7 h7 sz7 => r7 = some (.long (cg_l (wg_g po f ga n) n)) ∧ h1 = h7 ∧ sz1 = sz7) l D hn S ⟨rfl, rfl, rfl⟩) gX2_imply_X2_commonGain rfl ⟨rfl, by decide +kernel, by decide +kernel, by decide +kernel⟩ ⟨by decide, by decide⟩ rfl rfl (sl_o S) dX2_imply_6 rfl rfl (Nat.le_of_ble_eq_true rfl) ⟨by decide, by decide⟩ ?_
  rintro _ _ _ ⟨rfl, rfl, rfl⟩
  try dsimp only [Option.toList, List.cons_append, List.nil_append]
  refine x_lconstV (v := 0) G dX2_imply_9 (by decide) ?_
  refine x_lcmp G dX2_imply_10 ?_
  refine x_if_ne G 26 dX2_imply_11 (by decide) (fun c_11 => ?_) (fun c_11 => ?_)
  · rw [x_b_f (fun z => by unfold im_b at z; rw [Bool.and_eq_true] at z; exact c_11 ((x_lgeq _ _).mpr (of_decide_eq_true z.1)))] at hpost
    refine x_iconstV (v := nI 0) G dX2_imply_26 (by decide) ?_
    exact x_zret G dX2_imply_27 rfl hpost
  · have e1 := (x_lgeq _ _).mp c_11
    refine x_aload_n G dX2_imply_14 rfl ?_
    refine x_lconstV (v := 0) G dX2_imply_15 (by decide) ?_
    refine x_callV (n := 1) (rest := []) (As := [.long 0]) G (ci := 2) (c_X2_lacksAreTimes (Post := fun r7 h7 sz7 => r7 = some (.int (x_b (lt_b (wg_l po lo la 4) (0) = true))) ∧ h1 = h7 ∧ sz1 = sz7) l D S ⟨rfl, rfl, rfl⟩) gX2_imply_X2_lacksAreTimes rfl ⟨rfl, by decide +kernel, by decide +kernel, by decide +kernel⟩ ⟨by decide, by decide⟩ rfl rfl (sl_o S) dX2_imply_16 rfl rfl (Nat.le_of_ble_eq_true rfl) ⟨by decide, by decide⟩ ?_
    rintro _ _ _ ⟨rfl, rfl, rfl⟩
    try dsimp only [Option.toList, List.cons_append, List.nil_append]
    refine x_if_eq G 26 dX2_imply_19 (by decide) (fun c_19 => ?_) (fun c_19 => ?_)
    · rw [x_b_f (fun z => by unfold im_b at z; rw [Bool.and_eq_true] at z; exact (x_b_0.mp c_19) z.2)] at hpost
      refine x_iconstV (v := nI 0) G dX2_imply_26 (by decide) ?_
      exact x_zret G dX2_imply_27 rfl hpost
    · rw [x_b_t (show im_b po f lo ga la n = true by unfold im_b; rw [Bool.and_eq_true]; exact ⟨decide_eq_true e1, x_b_n.mp c_19⟩)] at hpost
      refine x_iconstV (v := nI 1) G dX2_imply_22 (by decide) ?_
      refine x_goto G 27 dX2_imply_23 (by decide) ?_
      exact x_zret G dX2_imply_27 rfl hpost
theorem inX2_agrees_2 : ∀ w ∈ wsX20, w ∈ wsX2_agrees := by decide +kernel
set_option maxRecDepth 100000 in
set_option maxHeartbeats 4000000 in
/-- agrees -/
theorem c_X2_agrees (l : Launch) (D : va_G) {dA : Nat → ClassId} {w : Nat} {ad : Nat → Nat} {f lo : Nat → Nat → Int64} {ga la : Nat → Int64} {sg : Int64} {n : Nat} {a n1 : Nat} {po : Nat → Int32} {h : xH} {sz : Nat} {Post : Option Value → xH → Nat → Prop} (hn : n ≤ 6) (ho : a < w ∨ w + 16 ≤ a) (hn1 : 10 ≤ n1) (hn2 : n1 < 2000) (hp : h a = some (.inl (dA 0, n1, .inl po))) (S : SlA dA h w ad f lo ga la sg n) (hpost : ∀ (h1 : xH) (sz1 : Nat), SlA dA h1 w ad f lo (wg_g po f ga n) (wg_l po lo la 4) sg n → xF w (w + 16) h h1 → Post (some (.int (x_b (ag_b po f lo ga la n = true)))) h1 sz1) : xMet l yX2_agrees wsX2_agrees 3 90 0 0 D dA [.ref w, .ref a] h sz Post := by
  refine x_open (cc := cX2_agrees) (maxL := 2) (ret := (some .boolean)) (by decide) rfl (Nat.le_of_ble_eq_true rfl) ?_
  intro p e s m args below meth c G _
  have inX2 : ∀ w ∈ wsX20, w ∈ wsX2_agrees := inX2_agrees_2
  refine x_aload_n G dX2_agrees_0 rfl ?_
  refine x_aload_n G dX2_agrees_1 rfl ?_
  refine x_callV (n := 1) (rest := []) (As := [.ref a]) G (ci := 2) (c_X2_weigh (Post := fun r7 h7 sz7 => r7 = none ∧ SlA dA h7 w ad f lo (wg_g po f ga n) (wg_l po lo la 4) sg n ∧ xF w (w + 16) h h7) l D hn ho hn1 hn2 hp S (fun h7 sz7 q1 q2 => ⟨rfl, q1, q2⟩)) gX2_agrees_X2_weigh rfl ⟨rfl, by decide +kernel, by decide +kernel, by decide +kernel⟩ ⟨by decide, by decide⟩ rfl rfl (sl_o S) dX2_agrees_2 rfl rfl (Nat.le_of_ble_eq_true rfl) ⟨by decide, by decide⟩ ?_
  rintro _ h1 sz1 ⟨rfl, S, F⟩
  try dsimp only [Option.toList, List.cons_append, List.nil_append]
  replace hpost := hpost _ sz1 S F
  refine x_aload_n G dX2_agrees_5 rfl ?_
  refine x_aload_n G dX2_agrees_6 rfl ?_
  refine x_callV (n := 0) (rest := [.ref w]) (As := []) G (ci := 2) (c_X2_commonGain (Post := fun r7 h7 sz7 => r7 = some (.long (cg_l (wg_g po f ga n) n)) ∧ h1 = h7 ∧ sz1 = sz7) l D hn S ⟨rfl, rfl, rfl⟩) gX2_agrees_X2_commonGain rfl ⟨rfl, by decide +kernel, by decide +kernel, by decide +kernel⟩ ⟨by decide, by decide⟩ rfl rfl (sl_o S) dX2_agrees_7 rfl rfl (Nat.le_of_ble_eq_true rfl) ⟨by decide, by decide⟩ ?_
  rintro _ _ _ ⟨rfl, rfl, rfl⟩
  try dsimp only [Option.toList, List.cons_append, List.nil_append]
  refine x_callV (n := 1) (rest := []) (As := [.long (cg_l (wg_g po f ga n) n)]) G (ci := 2) (c_X2_lacksAreTimes (Post := fun r7 h7 sz7 => r7 = some (.int (x_b (lt_b (wg_l po lo la 4) (cg_l (wg_g po f ga n) n) = true))) ∧ h1 = h7 ∧ sz1 = sz7) l D S ⟨rfl, rfl, rfl⟩) gX2_agrees_X2_lacksAreTimes rfl ⟨rfl, by decide +kernel, by decide +kernel, by decide +kernel⟩ ⟨by decide, by decide⟩ rfl rfl (sl_o S) dX2_agrees_10 rfl rfl (Nat.le_of_ble_eq_true rfl) ⟨by decide, by decide⟩ ?_
  rintro _ _ _ ⟨rfl, rfl, rfl⟩
  try dsimp only [Option.toList, List.cons_append, List.nil_append]
  exact x_zret G dX2_agrees_13 x_b_z hpost
