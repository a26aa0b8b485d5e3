/-! ## The class: Solutions: moveLowest, leaveOut -/
def ml_1 (f lo : Nat → Nat → Int64) (la : Nat → Int64) (sg : Int64) (g n b : Nat) : Nat → Int64 := rx_s f g (if sg = 0 then lo b else at_s (lo b) (f 6) (la b / sg) 6) 0 n
def ml_l (f lo : Nat → Nat → Int64) (la : Nat → Int64) (sg : Int64) (g n j : Nat) : Nat → Nat → Int64 := fun b => if b < j then ml_1 f lo la sg g n b else lo b
theorem ml_0 {f lo : Nat → Nat → Int64} {la : Nat → Int64} {sg : Int64} {g n : Nat} : ml_l f lo la sg g n 0 = lo := by
  funext b
  unfold ml_l
  rw [if_neg (by omega)]
theorem ml_s {f lo : Nat → Nat → Int64} {la : Nat → Int64} {sg : Int64} {g n j : Nat} : sl_u (ml_l f lo la sg g n j) j (ml_1 f lo la sg g n j) = ml_l f lo la sg g n (j + 1) := by
  funext b
  unfold sl_u ml_l
  by_cases e : b = j
  · rw [if_pos e, if_pos (by omega), e]
  · rw [if_neg e]
    by_cases e2 : b < j
    · rw [if_pos e2, if_pos (by omega)]
    · rw [if_neg e2, if_neg (by omega)]
theorem ml_j {f lo : Nat → Nat → Int64} {la : Nat → Int64} {sg : Int64} {g n j : Nat} : ml_l f lo la sg g n j j = lo j := if_neg (by omega)
theorem inX2_moveLowest_2 : ∀ w ∈ wsX20, w ∈ wsX2_moveLowest := by decide +kernel
set_option maxRecDepth 100000 in
set_option maxHeartbeats 4000000 in
/-- moveLowest -/
theorem c_X2_moveLowest (l : Launch) (D : va_G) {dA : Nat → ClassId} {w : Nat} {ad : Nat → Nat} {f lo : Nat → Nat → Int64} {ga la : Nat → Int64} {sg : Int64} {n : Nat} {g : Nat} {h : xH} {sz : Nat} {Post : Option Value → xH → Nat → Prop} (hn : n ≤ 6) (hg : g < 6) (S : SlA dA h w ad f lo ga la sg n) (hpost : ∀ (h1 : xH) (sz1 : Nat), SlA dA h1 w ad f (ml_l f lo la sg g n 4) ga la sg n → xF w (w + 16) h h1 → Post none h1 sz1) : xMet l yX2_moveLowest wsX2_moveLowest 2 50 0 0 D dA [.ref w, .int (nI g)] h sz Post := by
  refine x_open (cc := cX2_moveLowest) (maxL := 3) (ret := none) (by decide) rfl (Nat.le_of_ble_eq_true rfl) ?_
  intro p e s m args below meth c G _
  have inX2 : ∀ w ∈ wsX20, w ∈ wsX2_moveLowest := inX2_moveLowest_2
  have F := xF_rf (lo := w) (hi := w + 16) (h := h)
  refine x_iconstV (v := nI 0) G dX2_moveLowest_0 (by decide) ?_
  refine x_istore_n G dX2_moveLowest_1 (by decide) ?_
  refine x_loop (σ := Unit) (fun j _ => [(0, .ref w), (1, .int (nI g)), (2, .int (nI j))]) 4 (fun j _ h1 sz1 => SlA dA h1 w ad f (ml_l f lo la sg g n j) ga la sg n ∧ xF w (w + 16) h h1) ?_ ?_ 0 () _ _ (Nat.zero_le _) ⟨by rw [ml_0]; exact S, F⟩
  · intro j _ h1 sz1 hj hI nx
    try dsimp only at hI nx ⊢
    obtain ⟨S, F⟩ := hI
    refine x_iload_n G dX2_moveLowest_2 rfl ?_
    refine x_iconstV (v := nI 4) G dX2_moveLowest_3 (by decide) ?_
    refine x_icmp_ge G 58 dX2_moveLowest_4 (by decide) (fun c_4 => ?_) (fun c_4 => ?_)
    · exact absurd c_4 (nI_ge hj (by omega))
    · refine x_aload_n G dX2_moveLowest_7 rfl ?_
      refine x_get G kX2 inX2 5 (by decide) (by decide +kernel) dX2_moveLowest_8 (sl_o S) rfl ?_
      refine x_lconstV (v := 0) G dX2_moveLowest_11 (by decide) ?_
      refine x_lcmp G dX2_moveLowest_12 ?_
      refine x_if_eq G 40 dX2_moveLowest_13 (by decide) (fun c_13 => ?_) (fun c_13 => ?_)
      · have e := (x_lgeq _ _).mp c_13
        have fb : h1 (w + 9 + j) = some (.inl (dA 1, 6, .inr (.inl (lo j)))) := by
          have := sl_b S hj
          rwa [ml_j] at this
        refine x_aload_n G dX2_moveLowest_40 rfl ?_
        refine x_aload_n G dX2_moveLowest_41 rfl ?_
        refine x_get G kX2 inX2 1 (by decide) (by decide +kernel) dX2_moveLowest_42 (sl_o S) rfl ?_
        refine x_iload_n G dX2_moveLowest_45 rfl ?_
        refine x_aald (t := 5) G rfl rfl dX2_moveLowest_46 (sl_l S) (vp_in_nI (show j < 4 by omega) (by decide)) (show (if (nI (j)).toNatClampNeg < 4 then some (w + 9 + (nI (j)).toNatClampNeg) else none) = some (w + 9 + (j)) by rw [nI_clamp (by omega), if_pos (by omega)]) ?_
        refine x_iconstV (v := nI 0) G dX2_moveLowest_47 (by decide) ?_
        refine x_iload_n G dX2_moveLowest_48 rfl ?_
        refine x_callV (n := 3) (rest := []) (As := [.ref (w + 9 + j), .int (nI 0), .int (nI g)]) G (ci := 2) (c_X2_reduce (Post := fun r7 h7 sz7 => r7 = none ∧ h7 = x_up _ (w + 9 + j) (.inl (dA 1, 6, .inr (.inl (rx_s f g (lo j) 0 n))))) l D hn (Nat.zero_le _) hg (r := lo j) fb (by omega) (by omega) (fun i _ hi => by have := sl_rg S (show i < 7 by omega); omega) S (fun sz7 => ⟨rfl, rfl⟩)) gX2_moveLowest_X2_reduce rfl ⟨rfl, by decide +kernel, by decide +kernel, by decide +kernel⟩ ⟨by decide, by decide⟩ rfl rfl (sl_o S) dX2_moveLowest_49 rfl rfl (Nat.le_of_ble_eq_true rfl) ⟨by decide, by decide⟩ ?_
        rintro _ _ sz3 ⟨rfl, rfl⟩
        try dsimp only [Option.toList, List.cons_append, List.nil_append]
        have e1 : ml_1 f lo la sg g n j = rx_s f g (lo j) 0 n := by
          unfold ml_1
          rw [if_pos e]
        rw [← e1]
        replace S := sl_bs S hj (ml_1 f lo la sg g n j)
        rw [ml_s] at S
        replace F := xF_up (a := w + 9 + j) (e := .inl (dA 1, 6, .inr (.inl (ml_1 f lo la sg g n j)))) F (by omega) (by omega)
        refine x_iinc G dX2_moveLowest_52 rfl (by decide) ?_
        refine x_locE (lv2 := [(0, .ref w), (1, .int (nI g)), (2, .int (nI (j + 1)))]) (by rw [nI_succ j]; rfl) ?_
        refine x_goto G 2 dX2_moveLowest_55 (by decide) ?_
        exact nx () _ _ ⟨S, F⟩
      · have e : ¬ sg = 0 := fun z => c_13 ((x_lgeq _ _).mpr z)
        have fb0 : h1 (w + 9 + j) = some (.inl (dA 1, 6, .inr (.inl (lo j)))) := by
          have := sl_b S hj
          rwa [ml_j] at this
        refine x_aload_n G dX2_moveLowest_16 rfl ?_
        refine x_get G kX2 inX2 1 (by decide) (by decide +kernel) dX2_moveLowest_17 (sl_o S) rfl ?_
        refine x_iload_n G dX2_moveLowest_20 rfl ?_
        refine x_aald (t := 5) G rfl rfl dX2_moveLowest_21 (sl_l S) (vp_in_nI (show j < 4 by omega) (by decide)) (show (if (nI (j)).toNatClampNeg < 4 then some (w + 9 + (nI (j)).toNatClampNeg) else none) = some (w + 9 + (j)) by rw [nI_clamp (by omega), if_pos (by omega)]) ?_
        refine x_aload_n G dX2_moveLowest_22 rfl ?_
        refine x_get G kX2 inX2 4 (by decide) (by decide +kernel) dX2_moveLowest_23 (sl_o S) rfl ?_
        refine x_aload_n G dX2_moveLowest_26 rfl ?_
        refine x_get G kX2 inX2 3 (by decide) (by decide +kernel) dX2_moveLowest_27 (sl_o S) rfl ?_
        refine x_iload_n G dX2_moveLowest_30 rfl ?_
        refine x_laldN G dX2_moveLowest_31 (sl_k S) hj (by decide) ?_
        refine x_aload_n G dX2_moveLowest_32 rfl ?_
        refine x_get G kX2 inX2 5 (by decide) (by decide +kernel) dX2_moveLowest_33 (sl_o S) rfl ?_
        refine x_ldiv G dX2_moveLowest_36 e ?_
        refine x_callS (n := 3) (rest := []) (As := [.ref (w + 9 + j), .ref (ad 6), .long (la j / sg)]) G (c_X2_addTimes (Post := fun r7 h7 sz7 => r7 = none ∧ h7 = x_up h1 (w + 9 + j) (.inl (dA 1, 6, .inr (.inl (at_s (lo j) (f 6) (la j / sg) 6))))) l D (by have := sl_rg S (by decide : 6 < 7); omega) fb0 (sl_f S (by decide : 6 < 7)) (fun sz7 => ⟨rfl, rfl⟩)) gX2_moveLowest_X2_addTimes rfl ⟨by decide +kernel, by decide +kernel, by decide +kernel⟩ ⟨by decide, by decide⟩ dX2_moveLowest_37 rfl rfl (Nat.le_of_ble_eq_true rfl) ⟨by decide, by decide⟩ ?_
        rintro _ _ sz2 ⟨rfl, rfl⟩
        try dsimp only [Option.toList, List.cons_append, List.nil_append]
        replace S := sl_bs S hj (at_s (lo j) (f 6) (la j / sg) 6)
        replace F := xF_up (a := w + 9 + j) (e := .inl (dA 1, 6, .inr (.inl (at_s (lo j) (f 6) (la j / sg) 6)))) F (by omega) (by omega)
        have fb : x_up h1 (w + 9 + j) (.inl (dA 1, 6, .inr (.inl (at_s (lo j) (f 6) (la j / sg) 6)))) (w + 9 + j) = some (.inl (dA 1, 6, .inr (.inl (at_s (lo j) (f 6) (la j / sg) 6)))) := x_up_eq
        refine x_aload_n G dX2_moveLowest_40 rfl ?_
        refine x_aload_n G dX2_moveLowest_41 rfl ?_
        refine x_get G kX2 inX2 1 (by decide) (by decide +kernel) dX2_moveLowest_42 (sl_o S) rfl ?_
        refine x_iload_n G dX2_moveLowest_45 rfl ?_
        refine x_aald (t := 5) G rfl rfl dX2_moveLowest_46 (sl_l S) (vp_in_nI (show j < 4 by omega) (by decide)) (show (if (nI (j)).toNatClampNeg < 4 then some (w + 9 + (nI (j)).toNatClampNeg) else none) = some (w + 9 + (j)) by rw [nI_clamp (by omega), if_pos (by omega)]) ?_
        refine x_iconstV (v := nI 0) G dX2_moveLowest_47 (by decide) ?_
        refine x_iload_n G dX2_moveLowest_48 rfl ?_
        refine x_callV (n := 3) (rest := []) (As := [.ref (w + 9 + j), .int (nI 0), .int (nI g)]) G (ci := 2) (c_X2_reduce (Post := fun r7 h7 sz7 => r7 = none ∧ h7 = x_up _ (w + 9 + j) (.inl (dA 1, 6, .inr (.inl (rx_s f g (at_s (lo j) (f 6) (la j / sg) 6) 0 n))))) l D hn (Nat.zero_le _) hg (r := at_s (lo j) (f 6) (la j / sg) 6) fb (by omega) (by omega) (fun i _ hi => by have := sl_rg S (show i < 7 by omega); omega) S (fun sz7 => ⟨rfl, rfl⟩)) gX2_moveLowest_X2_reduce rfl ⟨rfl, by decide +kernel, by decide +kernel, by decide +kernel⟩ ⟨by decide, by decide⟩ rfl rfl (sl_o S) dX2_moveLowest_49 rfl rfl (Nat.le_of_ble_eq_true rfl) ⟨by decide, by decide⟩ ?_
        rintro _ _ sz3 ⟨rfl, rfl⟩
        try dsimp only [Option.toList, List.cons_append, List.nil_append]
        have e1 : ml_1 f lo la sg g n j = rx_s f g (at_s (lo j) (f 6) (la j / sg) 6) 0 n := by
          unfold ml_1
          rw [if_neg e]
        rw [← e1]
        replace S := sl_bs S hj (ml_1 f lo la sg g n j)
        rw [sl_uu] at S
        rw [ml_s] at S
        replace F := xF_up (a := w + 9 + j) (e := .inl (dA 1, 6, .inr (.inl (ml_1 f lo la sg g n j)))) F (by omega) (by omega)
        refine x_iinc G dX2_moveLowest_52 rfl (by decide) ?_
        refine x_locE (lv2 := [(0, .ref w), (1, .int (nI g)), (2, .int (nI (j + 1)))]) (by rw [nI_succ j]; rfl) ?_
        refine x_goto G 2 dX2_moveLowest_55 (by decide) ?_
        exact nx () _ _ ⟨S, F⟩
  · intro _ h1 sz1 hI
    try dsimp only at hI ⊢
    obtain ⟨S, F⟩ := hI
    refine x_iload_n G dX2_moveLowest_2 rfl ?_
    refine x_iconstV (v := nI 4) G dX2_moveLowest_3 (by decide) ?_
    refine x_icmp_ge G 58 dX2_moveLowest_4 (by decide) (fun c_4 => ?_) (fun c_4 => ?_)
    · exact x_vret G dX2_moveLowest_58 (hpost _ _ S F)
    · exact absurd (nI_le (Nat.le_refl _) (by omega)) c_4
theorem inX2_leaveOut_2 : ∀ w ∈ wsX20, w ∈ wsX2_leaveOut := by decide +kernel
def lv_y (ad : Nat → Nat) (g j : Nat) : Nat → Option Nat := fun i => if g ≤ i ∧ i < j then some (ad (i + 1)) else if i < 6 then some (ad i) else none
theorem lv_y0 {ad : Nat → Nat} {g : Nat} : lv_y ad g g = fun i => if i < 6 then some (ad i) else none := by
  funext i
  unfold lv_y
  rw [if_neg (by omega)]
theorem lv_ys {ad : Nat → Nat} {g j : Nat} (h : g ≤ j) : va_up (lv_y ad g j) j (some (ad (j + 1))) = lv_y ad g (j + 1) := by
  funext i
  unfold va_up lv_y
  by_cases e : i = j
  · rw [if_pos e, if_pos (by omega), e]
  · rw [if_neg e]
    by_cases e2 : g ≤ i ∧ i < j
    · rw [if_pos e2, if_pos (by omega)]
    · rw [if_neg e2, if_neg (show ¬ (g ≤ i ∧ i < j + 1) by omega)]
def lv_i (g n i : Nat) : Nat := if g ≤ i ∧ i < n - 1 then i + 1 else if i = n - 1 then g else i
def lv_f (f : Nat → Nat → Int64) (g n : Nat) : Nat → Nat → Int64 := fun i => f (lv_i g n i)
theorem lv_ye {ad : Nat → Nat} {g n : Nat} (hg : g < n) (hn : n ≤ 6) : va_up (lv_y ad g (n - 1)) (n - 1) (some (ad g)) = fun i => if i < 6 then some (ad (lv_i g n i)) else none := by
  funext i
  unfold va_up lv_y lv_i
  by_cases e : i = n - 1
  · rw [if_pos e, if_pos (by omega), if_neg (by omega), if_pos e]
  · rw [if_neg e]
    by_cases e2 : g ≤ i ∧ i < n - 1
    · rw [if_pos e2, if_pos (by omega), if_pos e2]
    · rw [if_neg e2, if_neg e2, if_neg e]
theorem lu_lt {g n i : Nat} (hg : g < n) (hn : n ≤ 6) (hi : i < 7) : lv_i g n i < 7 := by
  unfold lv_i
  split
  · omega
  · split <;> omega
theorem lu_6 {g n : Nat} (hg : g < n) (hn : n ≤ 6) : lv_i g n 6 = 6 := by
  unfold lv_i
  rw [if_neg (by omega), if_neg (by omega)]
theorem lu_in {g n i j : Nat} (hg : g < n) (e : lv_i g n i = lv_i g n j) : i = j := by
  unfold lv_i at e
  split at e
  · split at e
    · omega
    · split at e <;> omega
  · split at e
    · split at e
      · omega
      · split at e <;> omega
    · split at e
      · omega
      · split at e <;> omega
theorem sl_lv {dA : Nat → ClassId} {h : xH} {w : Nat} {ad : Nat → Nat} {f lo : Nat → Nat → Int64} {ga la : Nat → Int64} {sg : Int64} {n g : Nat} (S : SlA dA h w ad f lo ga la sg n) (hg : g < n) (hn : n ≤ 6) : SlA dA (x_up h (w + 1) (.inl (dA 5, 6, .inr (.inr (.inr (.inr (va_up (lv_y ad g (n - 1)) (n - 1) (some (ad g))))))))) w (fun i => ad (lv_i g n i)) (lv_f f g n) lo ga la sg n := by
  rw [lv_ye hg hn]
  refine ⟨by rw [x_up_ne (by omega)]; dsimp only; rw [lu_6 hg hn]; exact sl_o S, x_up_eq, fun i hi => ?_, fun i hi => sl_rg S (lu_lt hg hn hi), fun i j hi hj e => lu_in hg (S.2.2.2.2.1 _ _ (lu_lt hg hn hi) (lu_lt hg hn hj) e), by rw [x_up_ne (by omega)]; exact sl_l S, fun b hb => by rw [x_up_ne (by omega)]; exact sl_b S hb, by rw [x_up_ne (by omega)]; exact sl_g S, by rw [x_up_ne (by omega)]; exact sl_k S⟩
  have := sl_rg S (lu_lt hg hn hi)
  dsimp only
  rw [x_up_ne (by omega)]
  exact sl_f S (lu_lt hg hn hi)
set_option maxRecDepth 100000 in
set_option maxHeartbeats 4000000 in
/-- leaveOut -/
theorem c_X2_leaveOut (l : Launch) (D : va_G) {dA : Nat → ClassId} {w : Nat} {ad : Nat → Nat} {f lo : Nat → Nat → Int64} {ga la : Nat → Int64} {sg : Int64} {n : Nat} {g : Nat} {h : xH} {sz : Nat} {Post : Option Value → xH → Nat → Prop} (hg : g < n) (hn : n ≤ 6) (S : SlA dA h w ad f lo ga la sg n) (hpost : ∀ (h1 : xH) (sz1 : Nat) (ad1 : Nat → Nat), SlA dA h1 w ad1 (lv_f f g n) lo ga la sg (n - 1) → xF w (w + 16) h h1 → Post none h1 sz1) : xMet l yX2_leaveOut wsX2_leaveOut 0 0 0 0 D dA [.ref w, .int (nI g)] h sz Post := by
  refine x_open (cc := cX2_leaveOut) (maxL := 4) (ret := none) (by decide) rfl (Nat.le_of_ble_eq_true rfl) ?_
  intro p e s m args below meth c G _
  have inX2 : ∀ w ∈ wsX20, w ∈ wsX2_leaveOut := inX2_leaveOut_2
  refine x_aload_n G dX2_leaveOut_0 rfl ?_
  refine x_get G kX2 inX2 0 (by decide) (by decide +kernel) dX2_leaveOut_1 (sl_o S) rfl ?_
  refine x_iload_n G dX2_leaveOut_4 rfl ?_
  refine x_aald (t := 5) G rfl rfl dX2_leaveOut_5 (sl_y S) (vp_in_nI (show g < 6 from by omega) (by decide)) (show (if (nI (g)).toNatClampNeg < 6 then some (ad (nI (g)).toNatClampNeg) else none) = some (ad (g)) by rw [nI_clamp (by omega), if_pos (by omega)]) ?_
  refine x_astore_n G dX2_leaveOut_6 (by decide) ?_
  refine x_iload_n G dX2_leaveOut_7 rfl ?_
  refine x_istore_n G dX2_leaveOut_8 (by decide) ?_
  refine x_loop (σ := Unit) (fun j _ => [(0, .ref w), (1, .int (nI g)), (2, .ref (ad g)), (3, .int (nI j))]) (n - 1) (fun j _ h1 sz1 => g ≤ j ∧ h1 = x_up h (w + 1) (.inl (dA 5, 6, .inr (.inr (.inr (.inr (lv_y ad g j))))))) ?_ ?_ g () h sz (by omega) ⟨Nat.le_refl _, by rw [lv_y0, x_up_self (sl_y S)]⟩
  · intro j _ h1 sz1 hj hI nx
    try dsimp only at hI nx ⊢
    obtain ⟨hgj, rfl⟩ := hI
    refine x_iload_n G dX2_leaveOut_9 rfl ?_
    refine x_aload_n G dX2_leaveOut_10 rfl ?_
    refine x_get G kX2 inX2 6 (by decide) (by decide +kernel) dX2_leaveOut_11 ((x_up_ne (by omega)).trans (sl_o S)) rfl ?_
    refine x_iconstV (v := nI 1) G dX2_leaveOut_14 (by decide) ?_
    refine x_isub G dX2_leaveOut_15 ?_
    refine x_topE (y := nI (n - 1)) (pk_sub (by omega)) ?_
    refine x_icmp_ge G 39 dX2_leaveOut_16 (by decide) (fun c_16 => ?_) (fun c_16 => ?_)
    · exact absurd c_16 (nI_ge hj (by omega))
    · refine x_aload_n G dX2_leaveOut_19 rfl ?_
      refine x_get G kX2 inX2 0 (by decide) (by decide +kernel) dX2_leaveOut_20 ((x_up_ne (by omega)).trans (sl_o S)) rfl ?_
      refine x_iload_n G dX2_leaveOut_23 rfl ?_
      refine x_aload_n G dX2_leaveOut_24 rfl ?_
      refine x_get G kX2 inX2 0 (by decide) (by decide +kernel) dX2_leaveOut_25 ((x_up_ne (by omega)).trans (sl_o S)) rfl ?_
      refine x_iload_n G dX2_leaveOut_28 rfl ?_
      refine x_iconstV (v := nI 1) G dX2_leaveOut_29 (by decide) ?_
      refine x_iadd G dX2_leaveOut_30 ?_
      refine x_topE (y := nI (j + 1)) (nI_1 j) ?_
      refine x_aald (t := 5) G rfl rfl dX2_leaveOut_31 x_up_eq (vp_in_nI (show j + 1 < 6 by omega) (by decide)) (show (if g ≤ (nI (j + 1)).toNatClampNeg ∧ (nI (j + 1)).toNatClampNeg < j then some (ad ((nI (j + 1)).toNatClampNeg + 1)) else if (nI (j + 1)).toNatClampNeg < 6 then some (ad (nI (j + 1)).toNatClampNeg) else none) = some (ad (j + 1)) by rw [nI_clamp (by omega), if_neg (by omega), if_pos (by omega)]) ?_
      refine x_aast G dX2_leaveOut_32 x_up_eq ((x_up_ne (by have := sl_rg S (show j + 1 < 7 by omega); omega)).trans (sl_f S (show j + 1 < 7 by omega))) (show j < 6 by omega) (by decide) ?_
      rw [x_up_up, lv_ys hgj]
      refine x_iinc G dX2_leaveOut_33 rfl (by decide) ?_
      refine x_locE (lv2 := [(0, .ref w), (1, .int (nI g)), (2, .ref (ad g)), (3, .int (nI (j + 1)))]) (by rw [nI_succ j]; rfl) ?_
      refine x_goto G 9 dX2_leaveOut_36 (by decide) ?_
      exact nx () _ _ ⟨by omega, rfl⟩
  · intro _ h1 sz1 hI
    try dsimp only at hI ⊢
    obtain ⟨hgj, rfl⟩ := hI
    refine x_iload_n G dX2_leaveOut_9 rfl ?_
    refine x_aload_n G dX2_leaveOut_10 rfl ?_
    refine x_get G kX2 inX2 6 (by decide) (by decide +kernel) dX2_leaveOut_11 ((x_up_ne (by omega)).trans (sl_o S)) rfl ?_
    refine x_iconstV (v := nI 1) G dX2_leaveOut_14 (by decide) ?_
    refine x_isub G dX2_leaveOut_15 ?_
    refine x_topE (y := nI (n - 1)) (pk_sub (by omega)) ?_
    refine x_icmp_ge G 39 dX2_leaveOut_16 (by decide) (fun c_16 => ?_) (fun c_16 => ?_)
    · refine x_aload_n G dX2_leaveOut_39 rfl ?_
      refine x_get G kX2 inX2 0 (by decide) (by decide +kernel) dX2_leaveOut_40 ((x_up_ne (by omega)).trans (sl_o S)) rfl ?_
      refine x_aload_n G dX2_leaveOut_43 rfl ?_
      refine x_get G kX2 inX2 6 (by decide) (by decide +kernel) dX2_leaveOut_44 ((x_up_ne (by omega)).trans (sl_o S)) rfl ?_
      refine x_iconstV (v := nI 1) G dX2_leaveOut_47 (by decide) ?_
      refine x_isub G dX2_leaveOut_48 ?_
      refine x_topE (y := nI (n - 1)) (pk_sub (by omega)) ?_
      refine x_aload_n G dX2_leaveOut_49 rfl ?_
      refine x_aast G dX2_leaveOut_50 x_up_eq ((x_up_ne (by have := sl_rg S (show g < 7 by omega); omega)).trans (sl_f S (show g < 7 by omega))) (show n - 1 < 6 by omega) (by decide) ?_
      rw [x_up_up]
      replace S := sl_lv S hg hn
      have F : xF w (w + 16) h _ := xF_up (a := w + 1) (e := .inl (dA 5, 6, .inr (.inr (.inr (.inr (va_up (lv_y ad g (n - 1)) (n - 1) (some (ad g)))))))) xF_rf (by omega) (by omega)
      refine x_aload_n G dX2_leaveOut_51 rfl ?_
      refine x_dup G dX2_leaveOut_52 rfl ?_
      refine x_get G kX2 inX2 6 (by decide) (by decide +kernel) dX2_leaveOut_53 (sl_o S) rfl ?_
      refine x_iconstV (v := nI 1) G dX2_leaveOut_56 (by decide) ?_
      refine x_isub G dX2_leaveOut_57 ?_
      refine x_topE (y := nI (n - 1)) (pk_sub (by omega)) ?_
      refine x_put G kX2 inX2 6 (by decide) (by decide +kernel) rfl dX2_leaveOut_58 (sl_o S) rfl rfl (Nat.le_of_ble_eq_true rfl) ?_
      replace S := sl_os S sg (n - 1)
      replace F := xF_up (a := w) (e := .inr (2, [.ref (w + 1), .ref (w + 8), .ref (w + 13), .ref (w + 14), .ref (ad (lv_i g n 6)), .long sg, .int (nI (n - 1))])) F (by omega) (by omega)
      exact x_vret G dX2_leaveOut_61 (hpost _ _ _ S F)
    · exact absurd (nI_le (Nat.le_refl _) (by omega)) c_16
