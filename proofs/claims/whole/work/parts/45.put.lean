/-! ## The class: Solutions: put -/
abbrev ptT : Type := Option Nat × (Nat → Nat → Int64) × Int64
def pt_g (ga : Nat → Int64) (n i g : Nat) (f : Nat → Nat → Int64) (v : Int64) : ptT :=
  (some g, sl_u (sl_u (sl_u (sl_u (sl_u f i (dv 200 (f i) (f 6) (ga i) v).1) 6 (dv 200 (f i) (f 6) (ga i) v).2.1) i (mh_f (dv 200 (f i) (f 6) (ga i) v).1)) i (rx_s (sl_u (sl_u (sl_u f i (dv 200 (f i) (f 6) (ga i) v).1) 6 (dv 200 (f i) (f 6) (ga i) v).2.1) i (mh_f (dv 200 (f i) (f 6) (ga i) v).1)) g (mh_f (dv 200 (f i) (f 6) (ga i) v).1) (i + 1) (n - (i + 1)))) 6 (rx_s (sl_u (sl_u (sl_u (sl_u f i (dv 200 (f i) (f 6) (ga i) v).1) 6 (dv 200 (f i) (f 6) (ga i) v).2.1) i (mh_f (dv 200 (f i) (f 6) (ga i) v).1)) i (rx_s (sl_u (sl_u (sl_u f i (dv 200 (f i) (f 6) (ga i) v).1) 6 (dv 200 (f i) (f 6) (ga i) v).2.1) i (mh_f (dv 200 (f i) (f 6) (ga i) v).1)) g (mh_f (dv 200 (f i) (f 6) (ga i) v).1) (i + 1) (n - (i + 1)))) g (dv 200 (f i) (f 6) (ga i) v).2.1 i (n - i)), (dv 200 (f i) (f 6) (ga i) v).2.2)
/-- one free row, from the last on -/
def pt_1 (ga : Nat → Int64) (n i : Nat) : ptT → ptT
  | (some g, f, v) => pt_g ga n i g f v
  | (none, f, v) => if ga i = 0 then (none, f, v) else (some i, sl_u f 6 (va_cpy (f i) (f 6) 0 0 6), ga i)
def pt_s (ga : Nat → Int64) (n : Nat) : Nat → ptT → ptT
  | 0, x => x
  | k + 1, x => pt_s ga n k (pt_1 ga n k x)
def gn_i : Option Nat → Int32
  | none => -1
  | some g => nI g
theorem gn_n {x : Option Nat} (h : gn_i x = -1) (hx : ∀ g, x = some g → g < 6) : x = none := by
  cases x with
  | none => rfl
  | some g =>
    have hg := hx g rfl
    have e : nI g = -1 := h
    have e2 := congrArg Int32.toInt e
    rw [nI_toInt (by omega)] at e2
    have e3 : (-1 : Int32).toInt = -1 := by decide
    omega
theorem gn_s {x : Option Nat} (h : ¬ gn_i x = -1) : ∃ g, x = some g := by
  cases x with
  | none => exact absurd rfl h
  | some g => exact ⟨g, rfl⟩
/-- all that a saying put in does -/
def pu (po : Nat → Int32) (f lo : Nat → Nat → Int64) (ga la : Nat → Int64) (sg : Int64) (n : Nat) : (Nat → Nat → Int64) × (Nat → Nat → Int64) × Int64 × Nat :=
  match pt_s (wg_g po f ga n) n n (none, f, sg) with
  | (none, f1, v) => (f1, lo, v, n)
  | (some g, f1, v) => (lv_f f1 g n, ml_l f1 lo (wg_l po lo la 4) v g n 4, v, n - 1)
theorem ix_s (k : Nat) : nI (k + 1) - 1 = nI k := by
  show nI (k + 1) - nI 1 = nI k
  rw [pk_sub (by omega)]
  rfl
theorem nI_nn {k : Nat} (h : k < 2 ^ 31) : ¬ nI k < 0 := by
  rw [Int32.lt_iff_toInt_lt, nI_toInt h, show (0 : Int32).toInt = 0 from rfl]
  omega
theorem ix_p (k : Nat) : nI k + (-1) = nI k - 1 := by rw [Int32.sub_eq_add_neg]
theorem inX2_put_2 : ∀ w ∈ wsX20, w ∈ wsX2_put := by decide +kernel
set_option maxRecDepth 100000 in
set_option maxHeartbeats 4000000 in
/-- put -/
theorem c_X2_put (l : Launch) (D : va_G) {dA : Nat → ClassId} {w : Nat} {ad : Nat → Nat} {f lo : Nat → Nat → Int64} {ga la : Nat → Int64} {sg : Int64} {n : Nat} {a n1 : Nat} {po : Nat → Int32} {h : xH} {sz : Nat} {Post : Option Value → xH → Nat → Prop} (hn : n ≤ 6) (ho : a < w ∨ w + 16 ≤ a) (hn1 : 10 ≤ n1) (hn2 : n1 < 2000) (hp : h a = some (.inl (dA 0, n1, .inl po))) (S : SlA dA h w ad f lo ga la sg n) (hpost : ∀ (h1 : xH) (sz1 : Nat) (ad1 : Nat → Nat), SlA dA h1 w ad1 (pu po f lo ga la sg n).1 (pu po f lo ga la sg n).2.1 (wg_g po f ga n) (wg_l po lo la 4) (pu po f lo ga la sg n).2.2.1 (pu po f lo ga la sg n).2.2.2 → xF w (w + 16) h h1 → Post none h1 sz1) : xMet l yX2_put wsX2_put 3 76 0 0 D dA [.ref w, .ref a] h sz Post := by
  refine x_open (cc := cX2_put) (maxL := 4) (ret := none) (by decide) rfl (Nat.le_of_ble_eq_true rfl) ?_
  intro p e s m args below meth c G _
  have inX2 : ∀ w ∈ wsX20, w ∈ wsX2_put := inX2_put_2
  refine x_aload_n G dX2_put_0 rfl ?_
  refine x_aload_n G dX2_put_1 rfl ?_
  refine x_callV (n := 1) (rest := []) (As := [.ref a]) G (ci := 2) (c_X2_weigh (Post := fun r7 h7 sz7 => r7 = none ∧ SlA dA h7 w ad f lo (wg_g po f ga n) (wg_l po lo la 4) sg n ∧ xF w (w + 16) h h7) l D hn ho hn1 hn2 hp S (fun h7 sz7 q1 q2 => ⟨rfl, q1, q2⟩)) gX2_put_X2_weigh rfl ⟨rfl, by decide +kernel, by decide +kernel, by decide +kernel⟩ ⟨by decide, by decide⟩ rfl rfl (sl_o S) dX2_put_2 rfl rfl (Nat.le_of_ble_eq_true rfl) ⟨by decide, by decide⟩ ?_
  rintro _ h1 sz1 ⟨rfl, S, F⟩
  try dsimp only [Option.toList, List.cons_append, List.nil_append]
  have epu : pu po f lo ga la sg n = (match pt_s (wg_g po f ga n) n n (none, f, sg) with
    | (none, f1, v) => (f1, lo, v, n)
    | (some g, f1, v) => (lv_f f1 g n, ml_l f1 lo (wg_l po lo la 4) v g n 4, v, n - 1)) := rfl
  rw [epu] at hpost
  generalize eg : wg_g po f ga n = gg at S hpost
  generalize el : wg_l po lo la 4 = ll at S hpost
  refine x_iconstV (v := (-1)) G dX2_put_5 (by decide) ?_
  refine x_istore_n G dX2_put_6 (by decide) ?_
  refine x_aload_n G dX2_put_7 rfl ?_
  refine x_get G kX2 inX2 6 (by decide) (by decide +kernel) dX2_put_8 (sl_o S) rfl ?_
  refine x_iconstV (v := nI 1) G dX2_put_11 (by decide) ?_
  refine x_isub G dX2_put_12 ?_
  skip
  refine x_istore_n G dX2_put_13 (by decide) ?_
  refine x_while (σ := Nat × Option Nat) (fun u => [(0, .ref w), (1, .ref a), (2, .int (gn_i u.2)), (3, .int (nI u.1 - 1))]) [] (fun u h1 sz1 => ∃ (kk : Nat) (x : Option Nat) (ff : Nat → Nat → Int64) (v : Int64) (ad1 : Nat → Nat), u = (kk, x) ∧ kk ≤ n ∧ (∀ g, x = some g → g < 6) ∧ (∀ g, x = some g → g < n) ∧ SlA dA h1 w ad1 ff lo gg ll v n ∧ pt_s gg n kk (x, ff, v) = pt_s gg n n (none, f, sg) ∧ xF w (w + 16) h h1) (fun u => u.1) ?_ (n, none) _ _ ⟨n, none, f, sg, ad, rfl, Nat.le_refl _, (fun g z => by cases z), (fun g z => by cases z), S, rfl, F⟩
  intro u h1 sz1 hI nx
  obtain ⟨kk, x, ff, v, ad1, rfl, hkn, hx, hx2, S, hI, F⟩ := hI
  dsimp only at nx ⊢
  refine x_iload_n G dX2_put_14 rfl ?_
  refine x_if_lt G 110 dX2_put_15 (by decide) (fun c_15 => ?_) (fun c_15 => ?_)
  · have hk0 : kk = 0 := by
      cases kk with
      | zero => rfl
      | succ k =>
        rw [ix_s] at c_15
        exact absurd c_15 (nI_nn (by omega))
    subst hk0
    have hI2 : (x, ff, v) = pt_s gg n n (none, f, sg) := hI
    rw [← hI2] at hpost
    refine x_iload_n G dX2_put_110 rfl ?_
    refine x_iconstV (v := (-1)) G dX2_put_111 (by decide) ?_
    refine x_icmp_eq G 125 dX2_put_112 (by decide) (fun c_112 => ?_) (fun c_112 => ?_)
    · have ex := gn_n c_112 hx
      subst ex
      exact x_vret G dX2_put_125 (hpost _ _ _ S F)
    · obtain ⟨g, rfl⟩ := gn_s c_112
      have hgn := hx2 g rfl
      have hg6 : g < 6 := by omega
      refine x_aload_n G dX2_put_115 rfl ?_
      refine x_iload_n G dX2_put_116 rfl ?_
      refine x_callV (n := 1) (rest := []) (As := [.int (nI g)]) G (ci := 2) (c_X2_moveLowest (Post := fun r7 h7 sz7 => r7 = none ∧ SlA dA h7 w ad1 ff (ml_l ff lo ll v g n 4) gg ll v n ∧ xF w (w + 16) h1 h7) l D hn hg6 S (fun h7 sz7 q1 q2 => ⟨rfl, q1, q2⟩)) gX2_put_X2_moveLowest rfl ⟨rfl, by decide +kernel, by decide +kernel, by decide +kernel⟩ ⟨by decide, by decide⟩ rfl rfl (sl_o S) dX2_put_117 rfl rfl (Nat.le_of_ble_eq_true rfl) ⟨by decide, by decide⟩ ?_
      rintro _ h2 sz2 ⟨rfl, S, F2⟩
      try dsimp only [Option.toList, List.cons_append, List.nil_append]
      replace F := xF_tr F F2
      refine x_aload_n G dX2_put_120 rfl ?_
      refine x_iload_n G dX2_put_121 rfl ?_
      refine x_callV (n := 1) (rest := []) (As := [.int (nI g)]) G (ci := 2) (c_X2_leaveOut (Post := fun r7 h7 sz7 => r7 = none ∧ ∃ ad7, SlA dA h7 w ad7 (lv_f ff g n) (ml_l ff lo ll v g n 4) gg ll v (n - 1) ∧ xF w (w + 16) h2 h7) l D hgn hn S (fun h7 sz7 ad7 q1 q2 => ⟨rfl, ad7, q1, q2⟩)) gX2_put_X2_leaveOut rfl ⟨rfl, by decide +kernel, by decide +kernel, by decide +kernel⟩ ⟨by decide, by decide⟩ rfl rfl (sl_o S) dX2_put_122 rfl rfl (Nat.le_of_ble_eq_true rfl) ⟨by decide, by decide⟩ ?_
      rintro _ h3 sz3 ⟨rfl, ad3, S, F3⟩
      try dsimp only [Option.toList, List.cons_append, List.nil_append]
      replace F := xF_tr F F3
      exact x_vret G dX2_put_125 (hpost _ _ _ S F)
  · obtain ⟨k, hk⟩ : ∃ k, kk = k + 1 := by
      cases kk with
      | zero => exact absurd (show nI 0 - 1 < 0 by decide) c_15
      | succ k => exact ⟨k, rfl⟩
    subst hk
    have hk6 : k < 6 := by omega
    rw [ix_s] at *
    refine x_iload_n G dX2_put_18 rfl ?_
    refine x_iconstV (v := (-1)) G dX2_put_19 (by decide) ?_
    refine x_icmp_eq G 64 dX2_put_20 (by decide) (fun c_20 => ?_) (fun c_20 => ?_)
    · have ex := gn_n c_20 hx
      subst ex
      refine x_aload_n G dX2_put_64 rfl ?_
      refine x_get G kX2 inX2 2 (by decide) (by decide +kernel) dX2_put_65 (sl_o S) rfl ?_
      refine x_iload_n G dX2_put_68 rfl ?_
      refine x_laldN G dX2_put_69 (sl_g S) (show k < 6 by omega) (by decide) ?_
      refine x_lconstV (v := 0) G dX2_put_70 (by decide) ?_
      refine x_lcmp G dX2_put_71 ?_
      refine x_if_eq G 104 dX2_put_72 (by decide) (fun c_72 => ?_) (fun c_72 => ?_)
      · have e0 := (x_lgeq _ _).mp c_72
        have hI3 : pt_s gg n k (none, ff, v) = pt_s gg n n (none, f, sg) := by
          rw [← hI]
          show _ = pt_s gg n k (if gg k = 0 then _ else _)
          rw [if_pos e0]
        refine x_iinc G dX2_put_104 rfl (by decide) ?_
        refine x_locE (lv2 := [(0, .ref w), (1, .ref a), (2, .int (gn_i none)), (3, .int (nI k - 1))]) (by rw [show (Int32.ofInt (-1)) = -1 from rfl, ix_p]; rfl) ?_
        refine x_goto G 14 dX2_put_107 (by decide) ?_
        exact nx (k, none) _ _ ⟨k, none, ff, v, ad1, rfl, by omega, hx, hx2, S, hI3, F⟩ (by show k < k + 1; omega)
      · have e0 : ¬ gg k = 0 := fun z => c_72 ((x_lgeq _ _).mpr z)
        have hI3 : pt_s gg n k (some k, sl_u ff 6 (va_cpy (ff k) (ff 6) 0 0 6), gg k) = pt_s gg n n (none, f, sg) := by
          rw [← hI]
          show _ = pt_s gg n k (if gg k = 0 then _ else _)
          rw [if_neg e0]
        have r6 := sl_rg S (by decide : 6 < 7)
        refine x_iload_n G dX2_put_75 rfl ?_
        refine x_istore_n G dX2_put_76 (by decide) ?_
        refine x_aload_n G dX2_put_77 rfl ?_
        refine x_get G kX2 inX2 0 (by decide) (by decide +kernel) dX2_put_78 (sl_o S) rfl ?_
        refine x_iload_n G dX2_put_81 rfl ?_
        refine x_aald (t := 5) G rfl rfl dX2_put_82 (sl_y S) (vp_in_nI (show k < 6 by omega) (by decide)) (show (if (nI k).toNatClampNeg < 6 then some (ad1 (nI k).toNatClampNeg) else none) = some (ad1 k) by rw [nI_clamp (by omega), if_pos (by omega)]) ?_
        refine x_iconstV (v := nI 0) G dX2_put_83 (by decide) ?_
        refine x_aload_n G dX2_put_84 rfl ?_
        refine x_get G kX2 inX2 4 (by decide) (by decide +kernel) dX2_put_85 (sl_o S) rfl ?_
        refine x_iconstV (v := nI 0) G dX2_put_88 (by decide) ?_
        refine x_bipushV (v := nI 6) G dX2_put_89 (by decide) ?_
        refine x_copyl G (by decide +kernel) (by decide +kernel) (by decide +kernel) (by decide +kernel) dX2_put_91 (sl_f S (show k < 7 by omega)) (sl_f S (by decide : 6 < 7)) (by decide) (by decide) (by decide) (by decide) (by decide) (by decide) (by decide) ?_
        intro sz2
        rw [show (nI 0).toNatClampNeg = 0 from rfl, show (nI 6).toNatClampNeg = 6 from rfl]
        replace S := sl_fs S (by decide : 6 < 7) (va_cpy (ff k) (ff 6) 0 0 6)
        replace F := xF_up (a := ad1 6) (e := .inl (dA 1, 6, .inr (.inl (va_cpy (ff k) (ff 6) 0 0 6)))) F (by omega) (by omega)
        refine x_aload_n G dX2_put_94 rfl ?_
        refine x_aload_n G dX2_put_95 rfl ?_
        refine x_get G kX2 inX2 2 (by decide) (by decide +kernel) dX2_put_96 (sl_o S) rfl ?_
        refine x_iload_n G dX2_put_99 rfl ?_
        refine x_laldN G dX2_put_100 (sl_g S) (show k < 6 by omega) (by decide) ?_
        refine x_put G kX2 inX2 5 (by decide) (by decide +kernel) rfl dX2_put_101 (sl_o S) rfl rfl (Nat.le_of_ble_eq_true rfl) ?_
        replace S := sl_os S (gg k) n
        replace F := xF_up (a := w) (e := .inr (2, [.ref (w + 1), .ref (w + 8), .ref (w + 13), .ref (w + 14), .ref (ad1 6), .long (gg k), .int (nI n)])) F (by omega) (by omega)
        refine x_iinc G dX2_put_104 rfl (by decide) ?_
        refine x_locE (lv2 := [(0, .ref w), (1, .ref a), (2, .int (gn_i (some k))), (3, .int (nI k - 1))]) (by rw [show (Int32.ofInt (-1)) = -1 from rfl, ix_p]; rfl) ?_
        refine x_goto G 14 dX2_put_107 (by decide) ?_
        exact nx (k, some k) _ _ ⟨k, some k, _, _, _, rfl, by omega, fun g z => by cases z; omega, fun g z => by cases z; omega, S, hI3, F⟩ (by show k < k + 1; omega)
    · obtain ⟨g, rfl⟩ := gn_s c_20
      have hg6 := hx g rfl
      have hgn := hx2 g rfl
      refine x_aload_n G dX2_put_23 rfl ?_
      refine x_iload_n G dX2_put_24 rfl ?_
      refine x_callV (n := 1) (rest := []) (As := [.int (nI k)]) G (ci := 2) (c_X2_divide (Post := fun r7 h7 sz7 => r7 = none ∧ ∃ ad7, SlA dA h7 w ad7 (sl_u (sl_u ff k (dv 200 (ff k) (ff 6) (gg k) v).1) 6 (dv 200 (ff k) (ff 6) (gg k) v).2.1) lo gg ll ((dv 200 (ff k) (ff 6) (gg k) v).2.2) n ∧ xF w (w + 16) h1 h7) l D hk6 S (fun h7 sz7 ad7 q1 q2 => ⟨rfl, ad7, q1, q2⟩)) gX2_put_X2_divideToAndFro rfl ⟨rfl, by decide +kernel, by decide +kernel, by decide +kernel⟩ ⟨by decide, by decide⟩ rfl rfl (sl_o S) dX2_put_25 rfl rfl (Nat.le_of_ble_eq_true rfl) ⟨by decide, by decide⟩ ?_
      rintro _ h2 sz2 ⟨rfl, ad2, S, F2⟩
      try dsimp only [Option.toList, List.cons_append, List.nil_append]
      replace F := xF_tr F F2
      have hI3 : pt_s gg n k (pt_g gg n k g ff v) = pt_s gg n n (none, f, sg) := hI
      unfold pt_g at hI3
      generalize ed : dv 200 (ff k) (ff 6) (gg k) v = dd at S hI3
      obtain ⟨d1, d2, v2⟩ := dd
      dsimp only at S hI3
      have rk := sl_rg S (show k < 7 by omega)
      have r6 := sl_rg S (by decide : 6 < 7)
      have fk : h2 (ad2 k) = some (.inl (dA 1, 6, .inr (.inl (d1)))) := by
        have := sl_f S (show k < 7 by omega)
        rwa [sl_un (by omega), sl_ue] at this
      refine x_aload_n G dX2_put_28 rfl ?_
      refine x_get G kX2 inX2 0 (by decide) (by decide +kernel) dX2_put_29 (sl_o S) rfl ?_
      refine x_iload_n G dX2_put_32 rfl ?_
      refine x_aald (t := 5) G rfl rfl dX2_put_33 (sl_y S) (vp_in_nI (show k < 6 by omega) (by decide)) (show (if (nI k).toNatClampNeg < 6 then some (ad2 (nI k).toNatClampNeg) else none) = some (ad2 k) by rw [nI_clamp (by omega), if_pos (by omega)]) ?_
      refine x_callS (n := 1) (rest := []) (As := [.ref (ad2 k)]) G (c_X2_makeHeadPositive (Post := fun r7 h7 sz7 => r7 = none ∧ h7 = x_up h2 (ad2 k) (.inl (dA 1, 6, .inr (.inl (mh_f d1))))) l D (f := d1) fk (fun sz7 => ⟨rfl, rfl⟩)) gX2_put_X2_makeHeadPositive rfl ⟨by decide +kernel, by decide +kernel, by decide +kernel⟩ ⟨by decide, by decide⟩ dX2_put_34 rfl rfl (Nat.le_of_ble_eq_true rfl) ⟨by decide, by decide⟩ ?_
      rintro _ _ sz3 ⟨rfl, rfl⟩
      try dsimp only [Option.toList, List.cons_append, List.nil_append]
      replace S := sl_fs S (show k < 7 by omega) (mh_f d1)
      replace F := xF_up (a := ad2 k) (e := .inl (dA 1, 6, .inr (.inl (mh_f d1)))) F (by omega) (by omega)
      generalize e2 : sl_u (sl_u (sl_u ff k d1) 6 d2) k (mh_f d1) = f2 at S hI3
      refine x_aload_n G dX2_put_37 rfl ?_
      refine x_aload_n G dX2_put_38 rfl ?_
      refine x_get G kX2 inX2 0 (by decide) (by decide +kernel) dX2_put_39 (sl_o S) rfl ?_
      refine x_iload_n G dX2_put_42 rfl ?_
      refine x_aald (t := 5) G rfl rfl dX2_put_43 (sl_y S) (vp_in_nI (show k < 6 by omega) (by decide)) (show (if (nI k).toNatClampNeg < 6 then some (ad2 (nI k).toNatClampNeg) else none) = some (ad2 k) by rw [nI_clamp (by omega), if_pos (by omega)]) ?_
      refine x_iload_n G dX2_put_44 rfl ?_
      refine x_iconstV (v := nI 1) G dX2_put_45 (by decide) ?_
      refine x_iadd G dX2_put_46 ?_
      refine x_topE (y := nI (k + 1)) (nI_1 k) ?_
      refine x_iload_n G dX2_put_47 rfl ?_
      refine x_callV (n := 3) (rest := []) (As := [.ref (ad2 k), .int (nI (k + 1)), .int (nI g)]) G (ci := 2) (c_X2_reduce (Post := fun r7 h7 sz7 => r7 = none ∧ h7 = x_up _ (ad2 k) (.inl (dA 1, 6, .inr (.inl (rx_s f2 g (mh_f d1) (k + 1) (n - (k + 1))))))) l D hn (by omega) hg6 (r := mh_f d1) x_up_eq (by omega) (by omega) (fun i hi hi2 => sl_ij S (by omega) (by omega) (by omega)) S (fun sz7 => ⟨rfl, rfl⟩)) gX2_put_X2_reduce rfl ⟨rfl, by decide +kernel, by decide +kernel, by decide +kernel⟩ ⟨by decide, by decide⟩ rfl rfl (sl_o S) dX2_put_48 rfl rfl (Nat.le_of_ble_eq_true rfl) ⟨by decide, by decide⟩ ?_
      rintro _ _ sz4 ⟨rfl, rfl⟩
      try dsimp only [Option.toList, List.cons_append, List.nil_append]
      replace S := sl_fs S (show k < 7 by omega) (rx_s f2 g (mh_f d1) (k + 1) (n - (k + 1)))
      replace F := xF_up (a := ad2 k) (e := .inl (dA 1, 6, .inr (.inl (rx_s f2 g (mh_f d1) (k + 1) (n - (k + 1)))))) F (by omega) (by omega)
      have e63 : sl_u f2 k (rx_s f2 g (mh_f d1) (k + 1) (n - (k + 1))) 6 = d2 := by
        rw [sl_un (by omega), ← e2, sl_un (by omega), sl_ue]
      generalize e3 : sl_u f2 k (rx_s f2 g (mh_f d1) (k + 1) (n - (k + 1))) = f3 at S hI3 e63
      have f6 := sl_f S (by decide : 6 < 7)
      rw [e63] at f6
      refine x_aload_n G dX2_put_51 rfl ?_
      refine x_aload_n G dX2_put_52 rfl ?_
      refine x_get G kX2 inX2 4 (by decide) (by decide +kernel) dX2_put_53 (sl_o S) rfl ?_
      refine x_iload_n G dX2_put_56 rfl ?_
      refine x_iload_n G dX2_put_57 rfl ?_
      refine x_callV (n := 3) (rest := []) (As := [.ref (ad2 6), .int (nI k), .int (nI g)]) G (ci := 2) (c_X2_reduce (Post := fun r7 h7 sz7 => r7 = none ∧ h7 = x_up _ (ad2 6) (.inl (dA 1, 6, .inr (.inl (rx_s f3 g d2 k (n - k)))))) l D hn (by omega) hg6 (r := d2) f6 (by omega) (by omega) (fun i hi hi2 => sl_ij S (by omega) (by decide) (by omega)) S (fun sz7 => ⟨rfl, rfl⟩)) gX2_put_X2_reduce rfl ⟨rfl, by decide +kernel, by decide +kernel, by decide +kernel⟩ ⟨by decide, by decide⟩ rfl rfl (sl_o S) dX2_put_58 rfl rfl (Nat.le_of_ble_eq_true rfl) ⟨by decide, by decide⟩ ?_
      rintro _ _ sz5 ⟨rfl, rfl⟩
      try dsimp only [Option.toList, List.cons_append, List.nil_append]
      replace S := sl_fs S (by decide : 6 < 7) (rx_s f3 g d2 k (n - k))
      replace F := xF_up (a := ad2 6) (e := .inl (dA 1, 6, .inr (.inl (rx_s f3 g d2 k (n - k))))) F (by omega) (by omega)
      refine x_goto G 104 dX2_put_61 (by decide) ?_
      refine x_iinc G dX2_put_104 rfl (by decide) ?_
      refine x_locE (lv2 := [(0, .ref w), (1, .ref a), (2, .int (gn_i (some g))), (3, .int (nI k - 1))]) (by rw [show (Int32.ofInt (-1)) = -1 from rfl, ix_p]; rfl) ?_
      refine x_goto G 14 dX2_put_107 (by decide) ?_
      exact nx (k, some g) _ _ ⟨k, some g, _, _, _, rfl, by omega, hx, hx2, S, hI3, F⟩ (by show k < k + 1; omega)
