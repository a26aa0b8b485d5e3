/-! ## The class: Solutions: divideToAndFro, reduce -/
/-- divisions with a rest to and fro, at most t turns: the row, the step, the step's gain -/
def dv : Nat → (Nat → Int64) → (Nat → Int64) → Int64 → Int64 → (Nat → Int64) × (Nat → Int64) × Int64
  | 0, r, q, _, v => (r, q, v)
  | t + 1, r, q, g, v => if g = 0 then (r, q, v) else dv t (at_s q r (-(v / g)) 6) r (v - v / g * g) g
def sw_a (ad : Nat → Nat) (i : Nat) : Nat → Nat := fun k => if k = i then ad 6 else if k = 6 then ad i else ad k
def sw_f (f : Nat → Nat → Int64) (i : Nat) : Nat → Nat → Int64 := fun k => if k = i then f 6 else if k = 6 then f i else f k
theorem sl_sw {dA : Nat → ClassId} {h : xH} {w : Nat} {ad : Nat → Nat} {f lo : Nat → Nat → Int64} {ga la : Nat → Int64} {sg : Int64} {n i : Nat} (S : SlA dA h w ad f lo ga la sg n) (hi : i < 6) : SlA dA (x_up (x_up h w (.inr (2, [.ref (w + 1), .ref (w + 8), .ref (w + 13), .ref (w + 14), .ref (ad i), .long sg, .int (nI n)]))) (w + 1) (.inl (dA 5, 6, .inr (.inr (.inr (.inr (va_up (fun k => if k < 6 then some (ad k) else none) i (some (ad 6))))))))) w (sw_a ad i) (sw_f f i) lo ga la sg n := by
  have e6 : sw_a ad i 6 = ad i := by
    unfold sw_a
    rw [if_neg (by omega), if_pos rfl]
  have ey : va_up (fun k => if k < 6 then some (ad k) else none) i (some (ad 6)) = fun k => if k < 6 then some (sw_a ad i k) else none := by
    funext k
    unfold va_up sw_a
    by_cases e : k = i
    · subst e
      rw [if_pos rfl, if_pos hi, if_pos rfl]
    · rw [if_neg e, if_neg e]
      dsimp only
      by_cases e2 : k < 6
      · rw [if_pos e2, if_pos e2, if_neg (by omega)]
      · rw [if_neg e2, if_neg e2]
  rw [ey]
  have hrg : ∀ k, k < 7 → (w + 2 ≤ sw_a ad i k ∧ sw_a ad i k < w + 8) ∨ sw_a ad i k = w + 15 := fun k hk => by
    unfold sw_a
    by_cases e : k = i
    · rw [if_pos e]
      exact sl_rg S (by decide)
    · rw [if_neg e]
      by_cases e2 : k = 6
      · rw [if_pos e2]
        exact sl_rg S (by omega)
      · rw [if_neg e2]
        exact sl_rg S hk
  refine ⟨by rw [x_up_ne (by omega), e6]; exact x_up_eq, x_up_eq, fun k hk => ?_, hrg, fun a b hA hB z => ?_, by rw [x_up_ne (by omega), x_up_ne (by omega)]; exact sl_l S, fun b hb => by rw [x_up_ne (by omega), x_up_ne (by omega)]; exact sl_b S hb, by rw [x_up_ne (by omega), x_up_ne (by omega)]; exact sl_g S, by rw [x_up_ne (by omega), x_up_ne (by omega)]; exact sl_k S⟩
  · have := hrg k hk
    rw [x_up_ne (by omega), x_up_ne (by omega)]
    unfold sw_a sw_f
    by_cases e : k = i
    · rw [if_pos e, if_pos e]
      exact sl_f S (by decide)
    · rw [if_neg e, if_neg e]
      by_cases e2 : k = 6
      · rw [if_pos e2, if_pos e2]
        exact sl_f S (by omega)
      · rw [if_neg e2, if_neg e2]
        exact sl_f S hk
  · have hij := @sl_ij dA h w ad f lo ga la sg n S
    unfold sw_a at z
    by_cases a1 : a = i
    · rw [if_pos a1] at z
      by_cases b1 : b = i
      · omega
      · rw [if_neg b1] at z
        by_cases b2 : b = 6
        · rw [if_pos b2] at z
          exact absurd z (hij (by omega) (by omega) (by omega))
        · rw [if_neg b2] at z
          exact absurd z (hij (by omega) (by omega) (by omega))
    · rw [if_neg a1] at z
      by_cases a2 : a = 6
      · rw [if_pos a2] at z
        by_cases b1 : b = i
        · rw [if_pos b1] at z
          exact absurd z (hij (by omega) (by omega) (by omega))
        · rw [if_neg b1] at z
          by_cases b2 : b = 6
          · omega
          · rw [if_neg b2] at z
            exact absurd z (hij (by omega) (by omega) (by omega))
      · rw [if_neg a2] at z
        by_cases b1 : b = i
        · rw [if_pos b1] at z
          exact absurd z (hij (by omega) (by omega) (by omega))
        · rw [if_neg b1] at z
          by_cases b2 : b = 6
          · rw [if_pos b2] at z
            exact absurd z (hij (by omega) (by omega) (by omega))
          · rw [if_neg b2] at z
            exact S.2.2.2.2.1 a b hA hB z
theorem sw_u {f : Nat → Nat → Int64} {i : Nat} {r q : Nat → Int64} (hi : i < 6) : sw_f (sl_u (sl_u f i r) 6 q) i = sl_u (sl_u f i q) 6 r := by
  funext k
  unfold sw_f sl_u
  by_cases e : k = i
  · subst e
    rw [if_pos rfl, if_pos rfl, if_neg (by omega), if_pos rfl]
  · rw [if_neg e]
    by_cases e2 : k = 6
    · subst e2
      rw [if_pos rfl, if_pos rfl, if_neg (by omega), if_pos rfl]
    · rw [if_neg e2, if_neg e2, if_neg e2, if_neg e, if_neg e]
theorem sl_uu {f : Nat → Nat → Int64} {i : Nat} {r q : Nat → Int64} : sl_u (sl_u f i r) i q = sl_u f i q := by
  funext k
  unfold sl_u
  by_cases e : k = i
  · rw [if_pos e, if_pos e]
  · rw [if_neg e, if_neg e, if_neg e]
theorem sl_us {f : Nat → Nat → Int64} {i : Nat} : sl_u f i (f i) = f := by
  funext k
  unfold sl_u
  by_cases e : k = i
  · rw [if_pos e, e]
  · rw [if_neg e]
theorem sl_ue {f : Nat → Nat → Int64} {i : Nat} {r : Nat → Int64} : sl_u f i r i = r := if_pos rfl
theorem sl_un {f : Nat → Nat → Int64} {i k : Nat} {r : Nat → Int64} (e : k ≠ i) : sl_u f i r k = f k := if_neg e
theorem inX2_divideToAndFro_2 : ∀ w ∈ wsX20, w ∈ wsX2_divideToAndFro := by decide +kernel
set_option maxRecDepth 100000 in
set_option maxHeartbeats 4000000 in
/-- divideToAndFro -/
theorem c_X2_divide (l : Launch) (D : va_G) {dA : Nat → ClassId} {w : Nat} {ad : Nat → Nat} {f lo : Nat → Nat → Int64} {ga la : Nat → Int64} {sg : Int64} {n : Nat} {i : Nat} {h : xH} {sz : Nat} {Post : Option Value → xH → Nat → Prop} (hi : i < 6) (S : SlA dA h w ad f lo ga la sg n) (hpost : ∀ (h1 : xH) (sz1 : Nat) (ad1 : Nat → Nat), SlA dA h1 w ad1 (sl_u (sl_u f i (dv 200 (f i) (f 6) (ga i) sg).1) 6 (dv 200 (f i) (f 6) (ga i) sg).2.1) lo ga la ((dv 200 (f i) (f 6) (ga i) sg).2.2) n → xF w (w + 16) h h1 → Post none h1 sz1) : xMet l yX2_divideToAndFro wsX2_divideToAndFro 1 24 0 0 D dA [.ref w, .int (nI i)] h sz Post := by
  refine x_open (cc := cX2_divideToAndFro) (maxL := 10) (ret := none) (by decide) rfl (Nat.le_of_ble_eq_true rfl) ?_
  intro p e s m args below meth c G _
  have inX2 : ∀ w ∈ wsX20, w ∈ wsX2_divideToAndFro := inX2_divideToAndFro_2
  have F := xF_rf (lo := w) (hi := w + 16) (h := h)
  refine x_aload_n G dX2_divideToAndFro_0 rfl ?_
  refine x_get G kX2 inX2 2 (by decide) (by decide +kernel) dX2_divideToAndFro_1 (sl_o S) rfl ?_
  refine x_iload_n G dX2_divideToAndFro_4 rfl ?_
  refine x_laldN G dX2_divideToAndFro_5 (sl_g S) hi (by decide) ?_
  refine x_lstore_n G dX2_divideToAndFro_6 (by decide) ?_
  refine x_iconstV (v := nI 0) G dX2_divideToAndFro_7 (by decide) ?_
  refine x_istore G dX2_divideToAndFro_8 (by decide) ?_
  refine x_while (σ := Nat × Int64) (fun u => [(0, .ref w), (1, .int (nI i)), (2, .long u.2), (4, .int (nI u.1))]) [] (fun u h1 sz1 => ∃ (t : Nat) (ad1 : Nat → Nat) (r q : Nat → Int64) (v : Int64), u.1 = t ∧ t ≤ 200 ∧ SlA dA h1 w ad1 (sl_u (sl_u f i r) 6 q) lo ga la v n ∧ dv (200 - t) r q u.2 v = dv 200 (f i) (f 6) (ga i) sg ∧ xF w (w + 16) h h1) (fun u => 200 - u.1) ?_ (0, ga i) h sz ⟨0, ad, f i, f 6, sg, rfl, Nat.zero_le _, by rw [sl_us, sl_us]; exact S, rfl, F⟩
  intro u h1 sz1 hI nx
  try dsimp only at hI nx ⊢
  obtain ⟨t, ad1, r, q, v, rfl, ht2, S, hI, F⟩ := hI
  have fr : h1 (ad1 i) = some (.inl (dA 1, 6, .inr (.inl (r)))) := by
    have := sl_f S (show i < 7 by omega)
    rwa [sl_un (by omega), sl_ue] at this
  have fq : h1 (ad1 6) = some (.inl (dA 1, 6, .inr (.inl (q)))) := by
    have := sl_f S (by decide : 6 < 7)
    rwa [sl_ue] at this
  refine x_iload G dX2_divideToAndFro_10 rfl ?_
  refine x_sipushV (v := nI 200) G dX2_divideToAndFro_12 (by decide) ?_
  refine x_icmp_ge G 97 dX2_divideToAndFro_15 (by decide) (fun c_15 => ?_) (fun c_15 => ?_)
  · have ht : u.1 = 200 := by
      rcases Nat.lt_or_ge u.1 200 with z | z
      · exact absurd c_15 (nI_ge z (by decide))
      · omega
    rw [show 200 - u.1 = 0 by omega] at hI
    refine x_vret G dX2_divideToAndFro_97 (hpost _ _ ad1 ?_ F)
    rw [← hI]
    exact S
  · have ht : u.1 < 200 := by
      rcases Nat.lt_or_ge u.1 200 with z | z
      · exact z
      · exact absurd (nI_le z (by omega)) c_15
    rw [show 200 - u.1 = (200 - (u.1 + 1)) + 1 by omega] at hI
    refine x_lload_n G dX2_divideToAndFro_18 rfl ?_
    refine x_lconstV (v := 0) G dX2_divideToAndFro_19 (by decide) ?_
    refine x_lcmp G dX2_divideToAndFro_20 ?_
    refine x_if_eq G 97 dX2_divideToAndFro_21 (by decide) (fun c_21 => ?_) (fun c_21 => ?_)
    · have e := (x_lgeq _ _).mp c_21
      rw [show dv (200 - (u.1 + 1) + 1) r q u.2 v = (r, q, v) from if_pos e] at hI
      refine x_vret G dX2_divideToAndFro_97 (hpost _ _ ad1 ?_ F)
      rw [← hI]
      exact S
    · have e : ¬ u.2 = 0 := fun z => c_21 ((x_lgeq _ _).mpr z)
      rw [show dv (200 - (u.1 + 1) + 1) r q u.2 v = dv (200 - (u.1 + 1)) (at_s q r (-(v / u.2)) 6) r (v - v / u.2 * u.2) u.2 from if_neg e] at hI
      refine x_aload_n G dX2_divideToAndFro_24 rfl ?_
      refine x_get G kX2 inX2 5 (by decide) (by decide +kernel) dX2_divideToAndFro_25 (sl_o S) rfl ?_
      refine x_lload_n G dX2_divideToAndFro_28 rfl ?_
      refine x_ldiv G dX2_divideToAndFro_29 e ?_
      refine x_lstore G dX2_divideToAndFro_30 (by decide) ?_
      refine x_aload_n G dX2_divideToAndFro_32 rfl ?_
      refine x_get G kX2 inX2 4 (by decide) (by decide +kernel) dX2_divideToAndFro_33 (sl_o S) rfl ?_
      refine x_aload_n G dX2_divideToAndFro_36 rfl ?_
      refine x_get G kX2 inX2 0 (by decide) (by decide +kernel) dX2_divideToAndFro_37 (sl_o S) rfl ?_
      refine x_iload_n G dX2_divideToAndFro_40 rfl ?_
      refine x_aald (t := 5) G rfl rfl dX2_divideToAndFro_41 (sl_y S) (vp_in_nI (show i < 6 by omega) (by decide)) (show (if (nI i).toNatClampNeg < 6 then some (ad1 (nI i).toNatClampNeg) else none) = some (ad1 i) by rw [nI_clamp (by omega), if_pos (by omega)]) ?_
      refine x_lload G dX2_divideToAndFro_42 rfl ?_
      refine x_lneg G dX2_divideToAndFro_44 ?_
      refine x_callS (n := 3) (rest := []) (As := [.ref (ad1 6), .ref (ad1 i), .long (-(v / u.2))]) G (c_X2_addTimes (Post := fun r7 h7 sz7 => r7 = none ∧ h7 = x_up h1 (ad1 6) (.inl (dA 1, 6, .inr (.inl (at_s q r (-(v / u.2)) 6))))) l D (sl_ij S (by omega) (by decide) (by omega)) fq fr (fun sz7 => ⟨rfl, rfl⟩)) gX2_divideToAndFro_X2_addTimes rfl ⟨by decide +kernel, by decide +kernel, by decide +kernel⟩ ⟨by decide, by decide⟩ dX2_divideToAndFro_45 rfl rfl (Nat.le_of_ble_eq_true rfl) ⟨by decide, by decide⟩ ?_
      rintro _ _ sz2 ⟨rfl, rfl⟩
      try dsimp only [Option.toList, List.cons_append, List.nil_append]
      have rg := sl_rg S (by decide : 6 < 7)
      replace S := sl_fs S (by decide : 6 < 7) (at_s q r (-(v / u.2)) 6)
      rw [sl_uu] at S
      replace F := xF_up (a := ad1 6) (e := .inl (dA 1, 6, .inr (.inl (at_s q r (-(v / u.2)) 6)))) F (by omega) (by omega)
      have rgi := sl_rg S (show i < 7 by omega)
      refine x_aload_n G dX2_divideToAndFro_48 rfl ?_
      refine x_get G kX2 inX2 5 (by decide) (by decide +kernel) dX2_divideToAndFro_49 (sl_o S) rfl ?_
      refine x_lload G dX2_divideToAndFro_52 rfl ?_
      refine x_lload_n G dX2_divideToAndFro_54 rfl ?_
      refine x_lmul G dX2_divideToAndFro_55 ?_
      refine x_lsub G dX2_divideToAndFro_56 ?_
      refine x_lstore G dX2_divideToAndFro_57 (by decide) ?_
      refine x_aload_n G dX2_divideToAndFro_59 rfl ?_
      refine x_get G kX2 inX2 4 (by decide) (by decide +kernel) dX2_divideToAndFro_60 (sl_o S) rfl ?_
      refine x_astore G dX2_divideToAndFro_63 (by decide) ?_
      refine x_aload_n G dX2_divideToAndFro_65 rfl ?_
      refine x_aload_n G dX2_divideToAndFro_66 rfl ?_
      refine x_get G kX2 inX2 0 (by decide) (by decide +kernel) dX2_divideToAndFro_67 (sl_o S) rfl ?_
      refine x_iload_n G dX2_divideToAndFro_70 rfl ?_
      refine x_aald (t := 5) G rfl rfl dX2_divideToAndFro_71 (sl_y S) (vp_in_nI (show i < 6 by omega) (by decide)) (show (if (nI i).toNatClampNeg < 6 then some (ad1 (nI i).toNatClampNeg) else none) = some (ad1 i) by rw [nI_clamp (by omega), if_pos (by omega)]) ?_
      refine x_put G kX2 inX2 4 (by decide) (by decide +kernel) rfl dX2_divideToAndFro_72 (sl_o S) rfl rfl (Nat.le_of_ble_eq_true rfl) ?_
      replace F := xF_up (a := w) (e := .inr (2, [.ref (w + 1), .ref (w + 8), .ref (w + 13), .ref (w + 14), .ref (ad1 i), .long v, .int (nI n)])) F (by omega) (by omega)
      refine x_aload_n G dX2_divideToAndFro_75 rfl ?_
      refine x_get G kX2 inX2 0 (by decide) (by decide +kernel) dX2_divideToAndFro_76 x_up_eq rfl ?_
      refine x_iload_n G dX2_divideToAndFro_79 rfl ?_
      refine x_aload G dX2_divideToAndFro_80 rfl ?_
      refine x_aast G dX2_divideToAndFro_82 ((x_up_ne (by omega)).trans (sl_y S)) ((x_up_ne (by omega)).trans (sl_f S (by decide : 6 < 7))) hi (by decide) ?_
      replace S := sl_sw S hi
      rw [sw_u hi] at S
      replace F := xF_up (a := w + 1) (e := .inl (dA 5, 6, .inr (.inr (.inr (.inr (va_up (fun k => if k < 6 then some (ad1 k) else none) i (some (ad1 6)))))))) F (by omega) (by omega)
      refine x_aload_n G dX2_divideToAndFro_83 rfl ?_
      refine x_lload_n G dX2_divideToAndFro_84 rfl ?_
      refine x_put G kX2 inX2 5 (by decide) (by decide +kernel) rfl dX2_divideToAndFro_85 (sl_o S) rfl rfl (Nat.le_of_ble_eq_true rfl) ?_
      replace S := sl_os S u.2 n
      replace F := xF_up (a := w) (e := .inr (2, [.ref (w + 1), .ref (w + 8), .ref (w + 13), .ref (w + 14), .ref (sw_a ad1 i 6), .long u.2, .int (nI n)])) F (by omega) (by omega)
      refine x_lload G dX2_divideToAndFro_88 rfl ?_
      refine x_lstore_n G dX2_divideToAndFro_90 (by decide) ?_
      refine x_iinc G dX2_divideToAndFro_91 rfl (by decide) ?_
      refine x_keep [0, 1, 2, 4] ?_
      refine x_locE (lv2 := [(0, .ref w), (1, .int (nI i)), (2, .long (v - v / u.2 * u.2)), (4, .int (nI (u.1 + 1)))]) (by rw [nI_succ u.1]; rfl) ?_
      refine x_goto G 10 dX2_divideToAndFro_94 (by decide) ?_
      exact nx (u.1 + 1, v - v / u.2 * u.2) _ _ ⟨u.1 + 1, sw_a ad1 i, at_s q r (-(v / u.2)) 6, r, u.2, rfl, ht, S, hI, F⟩ (by show 200 - (u.1 + 1) < 200 - u.1; omega)
theorem inX2_reduce_2 : ∀ w ∈ wsX20, w ∈ wsX2_reduce := by decide +kernel
/-- a row less what makes its number at the head of another 0 or more and less than that head -/
def rx_1 (f : Nat → Nat → Int64) (g : Nat) (r : Nat → Int64) (i : Nat) : Nat → Int64 := if i = g ∨ r_hd (f i) 0 0 6 = 6 then r else at_s r (f i) (-fd_i (r (r_hd (f i) 0 0 6)) (f i (r_hd (f i) 0 0 6))) 6
def rx_s (f : Nat → Nat → Int64) (g : Nat) (r : Nat → Int64) (i : Nat) : Nat → Nat → Int64
  | 0 => r
  | k + 1 => rx_1 f g (rx_s f g r i k) (i + k)
set_option maxRecDepth 100000 in
set_option maxHeartbeats 4000000 in
/-- reduce -/
theorem c_X2_reduce (l : Launch) (D : va_G) {dA : Nat → ClassId} {w : Nat} {ad : Nat → Nat} {f lo : Nat → Nat → Int64} {ga la : Nat → Int64} {sg : Int64} {n : Nat} {a i0 g : Nat} {r : Nat → Int64} {h : xH} {sz : Nat} {Post : Option Value → xH → Nat → Prop} (hn : n ≤ 6) (hi0 : i0 ≤ n) (hg : g < 6) (ha : h a = some (.inl (dA 1, 6, .inr (.inl (r))))) (ha1 : a ≠ w) (ha2 : a ≠ w + 1) (ha3 : ∀ i, i0 ≤ i → i < n → ad i ≠ a) (S : SlA dA h w ad f lo ga la sg n) (hpost : ∀ sz1 : Nat, Post none (x_up h a (.inl (dA 1, 6, .inr (.inl (rx_s f g r i0 (n - i0)))))) sz1) : xMet l yX2_reduce wsX2_reduce 1 24 0 0 D dA [.ref w, .ref a, .int (nI i0), .int (nI g)] h sz Post := by
  refine x_open (cc := cX2_reduce) (maxL := 6) (ret := none) (by decide) rfl (Nat.le_of_ble_eq_true rfl) ?_
  intro p e s m args below meth c G _
  have inX2 : ∀ w ∈ wsX20, w ∈ wsX2_reduce := inX2_reduce_2
  refine x_iload_n G dX2_reduce_0 rfl ?_
  refine x_istore G dX2_reduce_1 (by decide) ?_
  refine x_loop (σ := Unit) (fun j _ => [(0, .ref w), (1, .ref a), (2, .int (nI i0)), (3, .int (nI g)), (4, .int (nI j))]) n (fun j _ h1 sz1 => i0 ≤ j ∧ h1 = x_up h a (.inl (dA 1, 6, .inr (.inl (rx_s f g r i0 (j - i0)))))) ?_ ?_ i0 () h sz hi0 ⟨Nat.le_refl _, by rw [Nat.sub_self]; exact (x_up_self ha).symm⟩
  · intro j _ h1 sz1 hj hI nx
    try dsimp only at hI nx ⊢
    obtain ⟨hij, rfl⟩ := hI
    refine x_iload G dX2_reduce_3 rfl ?_
    refine x_aload_n G dX2_reduce_5 rfl ?_
    refine x_get G kX2 inX2 6 (by decide) (by decide +kernel) dX2_reduce_6 ((x_up_ne (Ne.symm ha1)).trans (sl_o S)) rfl ?_
    refine x_icmp_ge G 86 dX2_reduce_9 (by decide) (fun c_9 => ?_) (fun c_9 => ?_)
    · exact absurd c_9 (nI_ge hj (by omega))
    · refine x_aload_n G dX2_reduce_12 rfl ?_
      refine x_get G kX2 inX2 0 (by decide) (by decide +kernel) dX2_reduce_13 ((x_up_ne (Ne.symm ha1)).trans (sl_o S)) rfl ?_
      refine x_iload G dX2_reduce_16 rfl ?_
      refine x_aald (t := 5) G rfl rfl dX2_reduce_18 ((x_up_ne (Ne.symm ha2)).trans (sl_y S)) (vp_in_nI (show j < 6 from by omega) (by decide)) (show (if (nI (j)).toNatClampNeg < 6 then some (ad (nI (j)).toNatClampNeg) else none) = some (ad (j)) by rw [nI_clamp (by omega), if_pos (by omega)]) ?_
      refine x_callS (n := 1) (rest := []) (As := [.ref (ad j)]) G (c_X2_headOf (Post := fun r7 h7 sz7 => r7 = some (.int (hd_i (f j))) ∧ x_up h a (.inl (dA 1, 6, .inr (.inl (rx_s f g r i0 (j - i0))))) = h7 ∧ sz1 = sz7) l D ((x_up_ne (ha3 j hij hj)).trans (sl_f S (show j < 7 by omega))) ⟨rfl, rfl, rfl⟩) gX2_reduce_X2_headOf rfl ⟨by decide +kernel, by decide +kernel, by decide +kernel⟩ ⟨by decide, by decide⟩ dX2_reduce_19 rfl rfl (Nat.le_of_ble_eq_true rfl) ⟨by decide, by decide⟩ ?_
      rintro _ _ _ ⟨rfl, rfl, rfl⟩
      try dsimp only [Option.toList, List.cons_append, List.nil_append]
      refine x_istore G dX2_reduce_22 (by decide) ?_
      refine x_iload G dX2_reduce_24 rfl ?_
      refine x_iload_n G dX2_reduce_26 rfl ?_
      refine x_icmp_eq G 80 dX2_reduce_27 (by decide) (fun c_27 => ?_) (fun c_27 => ?_)
      · have ejg : j = g := by
          have z := congrArg Int32.toInt c_27
          rw [nI_toInt (by omega), nI_toInt (by omega)] at z
          omega
        have ej : rx_s f g r i0 (j + 1 - i0) = rx_s f g r i0 (j - i0) := by
          rw [show j + 1 - i0 = (j - i0) + 1 by omega]
          show rx_1 f g _ (i0 + (j - i0)) = _
          rw [show i0 + (j - i0) = j by omega]
          exact if_pos (Or.inl ejg)
        refine x_iinc G dX2_reduce_80 rfl (by decide) ?_
        refine x_keep [0, 1, 2, 3, 4] ?_
        refine x_locE (lv2 := [(0, .ref w), (1, .ref a), (2, .int (nI i0)), (3, .int (nI g)), (4, .int (nI (j + 1)))]) (by rw [nI_succ j]; rfl) ?_
        refine x_goto G 3 dX2_reduce_83 (by decide) ?_
        exact nx () _ _ ⟨by omega, by rw [ej]⟩
      · have ejg : ¬ j = g := fun z => c_27 (by rw [z])
        refine x_iload G dX2_reduce_30 rfl ?_
        refine x_iconstV (v := (-1)) G dX2_reduce_32 (by decide) ?_
        refine x_icmp_eq G 80 dX2_reduce_33 (by decide) (fun c_33 => ?_) (fun c_33 => ?_)
        · have ej : rx_s f g r i0 (j + 1 - i0) = rx_s f g r i0 (j - i0) := by
            rw [show j + 1 - i0 = (j - i0) + 1 by omega]
            show rx_1 f g _ (i0 + (j - i0)) = _
            rw [show i0 + (j - i0) = j by omega]
            exact if_pos (Or.inr (hd_n c_33))
          refine x_iinc G dX2_reduce_80 rfl (by decide) ?_
          refine x_keep [0, 1, 2, 3, 4] ?_
          refine x_locE (lv2 := [(0, .ref w), (1, .ref a), (2, .int (nI i0)), (3, .int (nI g)), (4, .int (nI (j + 1)))]) (by rw [nI_succ j]; rfl) ?_
          refine x_goto G 3 dX2_reduce_83 (by decide) ?_
          exact nx () _ _ ⟨by omega, by rw [ej]⟩
        · obtain ⟨k, hk6, ek, ei⟩ := hd_k c_33
          rw [ei]
          have hk0 : ¬ f j k = 0 := by
            have z := r_hd_ne (r := f j) (q := 0) (k := 6) (j := 0) (by rw [ek]; omega)
            rw [ek, Nat.zero_add] at z
            exact z
          refine x_aload_n G dX2_reduce_36 rfl ?_
          refine x_get G kX2 inX2 0 (by decide) (by decide +kernel) dX2_reduce_37 ((x_up_ne (Ne.symm ha1)).trans (sl_o S)) rfl ?_
          refine x_iload G dX2_reduce_40 rfl ?_
          refine x_aald (t := 5) G rfl rfl dX2_reduce_42 ((x_up_ne (Ne.symm ha2)).trans (sl_y S)) (vp_in_nI (show j < 6 from by omega) (by decide)) (show (if (nI (j)).toNatClampNeg < 6 then some (ad (nI (j)).toNatClampNeg) else none) = some (ad (j)) by rw [nI_clamp (by omega), if_pos (by omega)]) ?_
          refine x_iload G dX2_reduce_43 rfl ?_
          refine x_laldN G dX2_reduce_45 ((x_up_ne (ha3 j hij hj)).trans (sl_f S (show j < 7 by omega))) (by omega) (by decide) ?_
          refine x_lconstV (v := 0) G dX2_reduce_46 (by decide) ?_
          refine x_lcmp G dX2_reduce_47 ?_
          refine x_if_eq G 80 dX2_reduce_48 (by decide) (fun c_48 => ?_) (fun c_48 => ?_)
          · exact absurd ((x_lgeq _ _).mp c_48) hk0
          · refine x_aload_n G dX2_reduce_51 rfl ?_
            refine x_aload_n G dX2_reduce_52 rfl ?_
            refine x_get G kX2 inX2 0 (by decide) (by decide +kernel) dX2_reduce_53 ((x_up_ne (Ne.symm ha1)).trans (sl_o S)) rfl ?_
            refine x_iload G dX2_reduce_56 rfl ?_
            refine x_aald (t := 5) G rfl rfl dX2_reduce_58 ((x_up_ne (Ne.symm ha2)).trans (sl_y S)) (vp_in_nI (show j < 6 from by omega) (by decide)) (show (if (nI (j)).toNatClampNeg < 6 then some (ad (nI (j)).toNatClampNeg) else none) = some (ad (j)) by rw [nI_clamp (by omega), if_pos (by omega)]) ?_
            refine x_aload_n G dX2_reduce_59 rfl ?_
            refine x_iload G dX2_reduce_60 rfl ?_
            refine x_laldN G dX2_reduce_62 x_up_eq (by omega) (by decide) ?_
            refine x_aload_n G dX2_reduce_63 rfl ?_
            refine x_get G kX2 inX2 0 (by decide) (by decide +kernel) dX2_reduce_64 ((x_up_ne (Ne.symm ha1)).trans (sl_o S)) rfl ?_
            refine x_iload G dX2_reduce_67 rfl ?_
            refine x_aald (t := 5) G rfl rfl dX2_reduce_69 ((x_up_ne (Ne.symm ha2)).trans (sl_y S)) (vp_in_nI (show j < 6 from by omega) (by decide)) (show (if (nI (j)).toNatClampNeg < 6 then some (ad (nI (j)).toNatClampNeg) else none) = some (ad (j)) by rw [nI_clamp (by omega), if_pos (by omega)]) ?_
            refine x_iload G dX2_reduce_70 rfl ?_
            refine x_laldN G dX2_reduce_72 ((x_up_ne (ha3 j hij hj)).trans (sl_f S (show j < 7 by omega))) (by omega) (by decide) ?_
            refine x_fdiv G hk0 (by decide +kernel) (by decide +kernel) (by decide +kernel) (by decide +kernel) (by decide) (Nat.le_of_ble_eq_true rfl) (by decide) (by decide) dX2_reduce_73 ?_
            refine x_lneg G dX2_reduce_76 ?_
            refine x_callS (n := 3) (rest := []) (As := [.ref a, .ref (ad j), .long (-fd_i ((rx_s f g r i0 (j - i0)) k) (f j k))]) G (c_X2_addTimes (Post := fun r7 h7 sz7 => r7 = none ∧ h7 = x_up (x_up h a (.inl (dA 1, 6, .inr (.inl (rx_s f g r i0 (j - i0)))))) a (.inl (dA 1, 6, .inr (.inl (at_s (rx_s f g r i0 (j - i0)) (f j) (-fd_i ((rx_s f g r i0 (j - i0)) k) (f j k)) 6))))) l D (ha3 j hij hj) x_up_eq ((x_up_ne (ha3 j hij hj)).trans (sl_f S (show j < 7 by omega))) (fun sz7 => ⟨rfl, rfl⟩)) gX2_reduce_X2_addTimes rfl ⟨by decide +kernel, by decide +kernel, by decide +kernel⟩ ⟨by decide, by decide⟩ dX2_reduce_77 rfl rfl (Nat.le_of_ble_eq_true rfl) ⟨by decide, by decide⟩ ?_
            rintro _ _ sz2 ⟨rfl, rfl⟩
            try dsimp only [Option.toList, List.cons_append, List.nil_append]
            rw [x_up_up]
            have ej : rx_s f g r i0 (j + 1 - i0) = at_s (rx_s f g r i0 (j - i0)) (f j) (-fd_i ((rx_s f g r i0 (j - i0)) k) (f j k)) 6 := by
              rw [show j + 1 - i0 = (j - i0) + 1 by omega]
              show rx_1 f g _ (i0 + (j - i0)) = _
              rw [show i0 + (j - i0) = j by omega]
              unfold rx_1
              rw [ek, if_neg (fun z => by omega)]
            refine x_iinc G dX2_reduce_80 rfl (by decide) ?_
            refine x_keep [0, 1, 2, 3, 4] ?_
            refine x_locE (lv2 := [(0, .ref w), (1, .ref a), (2, .int (nI i0)), (3, .int (nI g)), (4, .int (nI (j + 1)))]) (by rw [nI_succ j]; rfl) ?_
            refine x_goto G 3 dX2_reduce_83 (by decide) ?_
            exact nx () _ _ ⟨by omega, by rw [ej]⟩
  · intro _ h1 sz1 hI
    try dsimp only at hI ⊢
    obtain ⟨hij, rfl⟩ := hI
    refine x_iload G dX2_reduce_3 rfl ?_
    refine x_aload_n G dX2_reduce_5 rfl ?_
    refine x_get G kX2 inX2 6 (by decide) (by decide +kernel) dX2_reduce_6 ((x_up_ne (Ne.symm ha1)).trans (sl_o S)) rfl ?_
    refine x_icmp_ge G 86 dX2_reduce_9 (by decide) (fun c_9 => ?_) (fun c_9 => ?_)
    · exact x_vret G dX2_reduce_86 (hpost _)
    · exact absurd (nI_le (Nat.le_refl _) (by omega)) c_9
