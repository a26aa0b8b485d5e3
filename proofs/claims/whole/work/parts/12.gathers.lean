theorem inX5_gathers_5 : ∀ w ∈ wsX50, w ∈ wsX5_gathers := by decide +kernel
/-- the least number that is not 0, of those from f on -/
def gl (ov : Nat → Int64) (f : Nat) : Nat → Option Nat
  | 0 => none
  | k + 1 => match gl ov f k with
    | none => if ov (f + k) = 0 then none else some (f + k)
    | some r => if ¬ ov (f + k) = 0 ∧ r_abs (ov (f + k)) < r_abs (ov r) then some (f + k) else some r
theorem gl_lt {ov : Nat → Int64} {f : Nat} : ∀ {k r : Nat}, gl ov f k = some r → f ≤ r ∧ r < f + k ∧ ¬ ov r = 0
  | 0, r, q => by cases q
  | k + 1, r, q => by
    unfold gl at q
    cases hg : gl ov f k with
    | none =>
      rw [hg] at q
      dsimp only at q
      by_cases z : ov (f + k) = 0
      · rw [if_pos z] at q; cases q
      · rw [if_neg z] at q
        cases q
        exact ⟨by omega, by omega, z⟩
    | some r2 =>
      rw [hg] at q
      dsimp only at q
      by_cases z : ¬ ov (f + k) = 0 ∧ r_abs (ov (f + k)) < r_abs (ov r2)
      · rw [if_pos z] at q
        cases q
        exact ⟨by omega, by omega, z.1⟩
      · rw [if_neg z] at q
        cases q
        have := gl_lt hg
        exact ⟨this.1, by omega, this.2.2⟩
def gi (r : Option Nat) : Int32 := match r with
  | none => -1
  | some r => nI r
/-- the rows and numbers behind the first k takings of row f -/
def gtS (ro ov : Nat → Int64) (f : Nat) : Nat → (Nat → Int64) × (Nat → Int64)
  | 0 => (ro, ov)
  | k + 1 => (tk_row (gtS ro ov f k).1 (f + 1 + k) f ((gtS ro ov f k).2 (f + 1 + k) / (gtS ro ov f k).2 f) 6, vp_updL (gtS ro ov f k).2 (f + 1 + k) ((gtS ro ov f k).2 (f + 1 + k) - (gtS ro ov f k).2 (f + 1 + k) / (gtS ro ov f k).2 f * (gtS ro ov f k).2 f))
theorem gtS_f {ro ov : Nat → Int64} {f : Nat} : ∀ k : Nat, (gtS ro ov f k).2 f = ov f
  | 0 => rfl
  | k + 1 => by
    show vp_updL _ _ _ f = _
    rw [pk_uLn (by omega)]
    exact gtS_f k
def gm (ro ov : Nat → Int64) (f : Nat) : Nat → Bool
  | 0 => false
  | k + 1 => gm ro ov f k || !((gtS ro ov f (k + 1)).2 (f + 1 + k) == 0)
def gsw (ov : Nat → Int64) (f r : Nat) : Nat → Int64 := vp_updL (vp_updL ov f (ov r)) r (ov f)
/-- gathers, with fuel -/
def r_ga : Nat → (Nat → Int64) → (Nat → Int64) → Nat → Nat → Option (Bool × (Nat → Int64) × (Nat → Int64))
  | 0, _, _, _, _ => none
  | g + 1, ro, ov, f, n => match gl ov f n with
    | none => some (false, ro, ov)
    | some r => if gm (sw_row ro f r 6) (gsw ov f r) f (n - 1) = true then r_ga g (gtS (sw_row ro f r 6) (gsw ov f r) f (n - 1)).1 (gtS (sw_row ro f r 6) (gsw ov f r) f (n - 1)).2 f n else some (true, (gtS (sw_row ro f r 6) (gsw ov f r) f (n - 1)).1, (gtS (sw_row ro f r 6) (gsw ov f r) f (n - 1)).2)
theorem gsw_f {ov : Nat → Int64} {f r : Nat} : gsw ov f r f = ov r := by
  unfold gsw vp_updL
  by_cases e : f = r
  · rw [if_pos e, e]
  · rw [if_neg e, if_pos rfl]
set_option maxRecDepth 100000 in
set_option maxHeartbeats 4000000 in
/-- gathers -/
theorem c_gathers (l : Launch) (D : va_G) {dA : Nat → ClassId} {b : Nat} {tx : Nat → Int32} {ln : Int32} {fa : Int32} {st : Nat → Int32} {de : Nat → Int32} {dm : Int32} {sd : Int64} {im : Nat → Int32} {se : Nat → Int64} {kp : Nat → Int32} {pl : Int32} {wr : Int32} {dp : Int32} {su : Nat → Int32} {wa : Nat → Int32} {fc : Nat → Int32} {po : Nat → Int32} {ro : Nat → Int64} {fr : Int32} {ch : Nat → Int64} {ov : Nat → Int64} {f n g : Nat} {res : Bool} {ro2 ov2 : Nat → Int64} {h : xH} {sz : Nat} {Post : Option Value → xH → Nat → Prop} (hfn : f + n ≤ 6) (hg : r_ga g ro ov f n = some (res, ro2, ov2)) (M : Md dA h b tx ln fa st de dm sd im se kp pl wr dp su wa fc po ro fr ch ov) (hpost : ∀ (h1 : xH) (sz1 : Nat), Md dA h1 b tx ln fa st de dm sd im se kp pl wr dp su wa fc po ro2 fr ch ov2 → xF b (b + 14) h h1 → Post (some (.int (x_b (res = true)))) h1 sz1) : xMet l yX5_gathers wsX5_gathers 1 25 0 0 D dA [.ref b, .int (nI f), .int (nI n)] h sz Post := by
  refine x_open (cc := cX5_gathers) (maxL := 6) (ret := (some .boolean)) (by decide) rfl (Nat.le_of_ble_eq_true rfl) ?_
  intro p e s m args below meth c G _
  have inX5 : ∀ w ∈ wsX50, w ∈ wsX5_gathers := inX5_gathers_5
  refine x_iconstV (v := nI 1) G dX5_gathers_0 (by decide) ?_
  refine x_istore_n G dX5_gathers_1 (by decide) ?_
  refine x_while (σ := Nat × (Nat → Int64) × (Nat → Int64)) (fun u => [(0, .ref b), (1, .int (nI f)), (2, .int (nI n)), (3, .int (nI 1))]) [] (fun u h1 sz1 => r_ga u.1 u.2.1 u.2.2 f n = some (res, ro2, ov2) ∧ Md dA h1 b tx ln fa st de dm sd im se kp pl wr dp su wa fc po u.2.1 fr ch u.2.2 ∧ xF b (b + 14) h h1) (fun u => u.1) ?_ (g, ro, ov) h sz ⟨hg, M, xF_rf⟩
  intro u h1 sz1 hI nx
  obtain ⟨g0, ro9, ov9⟩ := u
  obtain ⟨hg, M, F⟩ := hI
  obtain ⟨g, rfl⟩ : ∃ g, g0 = g + 1 := by
    cases g0 with
    | zero => cases hg
    | succ g => exact ⟨g, rfl⟩
  dsimp only at hg M nx ⊢
  refine x_iload_n G dX5_gathers_2 rfl ?_
  refine x_if_eq G 152 dX5_gathers_3 (by decide) (fun q => absurd q (by decide)) (fun _ => ?_)
  refine x_iconstV (v := (-1)) G dX5_gathers_6 (by decide) ?_
  refine x_istore G dX5_gathers_7 (by decide) ?_
  refine x_iload_n G dX5_gathers_9 rfl ?_
  refine x_istore G dX5_gathers_10 (by decide) ?_
  refine x_loop (σ := Unit) (fun k _ => [(0, .ref b), (1, .int (nI f)), (2, .int (nI n)), (3, .int (nI 1)), (4, .int (gi (gl ov9 f k))), (5, .int (nI (f + k)))]) n (fun k _ h1 sz1 => Md dA h1 b tx ln fa st de dm sd im se kp pl wr dp su wa fc po ro9 fr ch ov9 ∧ xF b (b + 14) h h1) ?_ ?_ 0 () _ _ (Nat.zero_le _) ⟨M, F⟩
  · intro k _ h1 sz1 hk hI nx
    obtain ⟨M, F⟩ := hI
    rcases hg9 : gl ov9 f k with _ | r
    · try dsimp only
      try rw [hg9]
      refine x_iload G dX5_gathers_12 rfl ?_
      refine x_iload_n G dX5_gathers_14 rfl ?_
      refine x_iload_n G dX5_gathers_15 rfl ?_
      refine x_iadd G dX5_gathers_16 ?_
      refine x_topE (y := nI (f + n)) (by rw [nI_add]) ?_
      refine x_icmp_ge G 71 dX5_gathers_17 (by decide) (fun c_17 => ?_) (fun c_17 => ?_)
      · exact absurd c_17 (nI_ge (by omega) (by omega))
      · refine x_aload_n G dX5_gathers_20 rfl ?_
        refine x_get G kX5 inX5 20 (by decide) (by decide +kernel) dX5_gathers_21 (md_o M) rfl ?_
        refine x_iload G dX5_gathers_24 rfl ?_
        refine x_laldN G dX5_gathers_26 (md_ov M) (by omega) (by decide) ?_
        refine x_lconstV (v := 0) G dX5_gathers_27 (by decide) ?_
        refine x_lcmp G dX5_gathers_28 ?_
        refine x_if_eq G 65 dX5_gathers_29 (by decide) (fun c_29 => ?_) (fun c_29 => ?_)
        · have hgl : gl ov9 f (k + 1) = none := by
            unfold gl
            rw [hg9]
            dsimp only
            rw [if_pos ((x_lgeq _ _).mp c_29)]
          refine x_iinc G dX5_gathers_65 rfl (by decide) ?_
          refine x_locE (lv2 := [(0, .ref b), (1, .int (nI f)), (2, .int (nI n)), (3, .int (nI 1)), (4, .int (gi (gl ov9 f (k + 1)))), (5, .int (nI (f + (k + 1))))]) (by rw [hgl, show f + (k + 1) = f + k + 1 from rfl, nI_succ (f + k)]; rfl) ?_
          refine x_goto G 12 dX5_gathers_68 (by decide) ?_
          exact nx () _ _ ⟨M, F⟩
        · have hgl : gl ov9 f (k + 1) = some (f + k) := by
            unfold gl
            rw [hg9]
            dsimp only
            rw [if_neg (fun q => c_29 ((x_lgeq _ _).mpr q))]
          refine x_iload G dX5_gathers_32 rfl ?_
          refine x_if_lt G 61 dX5_gathers_34 (by decide) (fun c_34 => ?_) (fun c_34 => ?_)
          · refine x_iload G dX5_gathers_61 rfl ?_
            refine x_istore G dX5_gathers_63 (by decide) ?_
            refine x_iinc G dX5_gathers_65 rfl (by decide) ?_
            refine x_locE (lv2 := [(0, .ref b), (1, .int (nI f)), (2, .int (nI n)), (3, .int (nI 1)), (4, .int (gi (gl ov9 f (k + 1)))), (5, .int (nI (f + (k + 1))))]) (by rw [hgl, show f + (k + 1) = f + k + 1 from rfl, nI_succ (f + k)]; rfl) ?_
            refine x_goto G 12 dX5_gathers_68 (by decide) ?_
            exact nx () _ _ ⟨M, F⟩
          · exact absurd (by decide) c_34
    · try dsimp only
      try rw [hg9]
      obtain ⟨hr1, hr2, hr3⟩ := gl_lt hg9
      refine x_iload G dX5_gathers_12 rfl ?_
      refine x_iload_n G dX5_gathers_14 rfl ?_
      refine x_iload_n G dX5_gathers_15 rfl ?_
      refine x_iadd G dX5_gathers_16 ?_
      refine x_topE (y := nI (f + n)) (by rw [nI_add]) ?_
      refine x_icmp_ge G 71 dX5_gathers_17 (by decide) (fun c_17 => ?_) (fun c_17 => ?_)
      · exact absurd c_17 (nI_ge (by omega) (by omega))
      · refine x_aload_n G dX5_gathers_20 rfl ?_
        refine x_get G kX5 inX5 20 (by decide) (by decide +kernel) dX5_gathers_21 (md_o M) rfl ?_
        refine x_iload G dX5_gathers_24 rfl ?_
        refine x_laldN G dX5_gathers_26 (md_ov M) (by omega) (by decide) ?_
        refine x_lconstV (v := 0) G dX5_gathers_27 (by decide) ?_
        refine x_lcmp G dX5_gathers_28 ?_
        refine x_if_eq G 65 dX5_gathers_29 (by decide) (fun c_29 => ?_) (fun c_29 => ?_)
        · have hgl : gl ov9 f (k + 1) = some r := by
            unfold gl
            rw [hg9]
            dsimp only
            rw [if_neg (fun q => q.1 ((x_lgeq _ _).mp c_29))]
          refine x_iinc G dX5_gathers_65 rfl (by decide) ?_
          refine x_locE (lv2 := [(0, .ref b), (1, .int (nI f)), (2, .int (nI n)), (3, .int (nI 1)), (4, .int (gi (gl ov9 f (k + 1)))), (5, .int (nI (f + (k + 1))))]) (by rw [hgl, show f + (k + 1) = f + k + 1 from rfl, nI_succ (f + k)]; rfl) ?_
          refine x_goto G 12 dX5_gathers_68 (by decide) ?_
          exact nx () _ _ ⟨M, F⟩
        · refine x_iload G dX5_gathers_32 rfl ?_
          refine x_if_lt G 61 dX5_gathers_34 (by decide) (fun c_34 => ?_) (fun c_34 => ?_)
          · exact absurd c_34 (nI_pos (by omega))
          · refine x_aload_n G dX5_gathers_37 rfl ?_
            refine x_get G kX5 inX5 20 (by decide) (by decide +kernel) dX5_gathers_38 (md_o M) rfl ?_
            refine x_iload G dX5_gathers_41 rfl ?_
            refine x_laldN G dX5_gathers_43 (md_ov M) (by omega) (by decide) ?_
            refine x_callS (n := 1) (rest := []) (As := [.long (ov9 (f + k))]) G (c_sizeOf (Post := fun r7 h7 sz7 => r7 = some (.long (r_abs (ov9 (f + k)))) ∧ h1 = h7 ∧ sz1 = sz7) l D ⟨rfl, rfl, rfl⟩) gX5_gathers_X5_sizeOf rfl ⟨by decide +kernel, by decide +kernel, by decide +kernel⟩ ⟨by decide, by decide⟩ dX5_gathers_44 rfl rfl (Nat.le_of_ble_eq_true rfl) ⟨by decide, by decide⟩ ?_
            rintro _ _ _ ⟨rfl, rfl, rfl⟩
            try dsimp only [Option.toList, List.cons_append, List.nil_append]
            refine x_aload_n G dX5_gathers_47 rfl ?_
            refine x_get G kX5 inX5 20 (by decide) (by decide +kernel) dX5_gathers_48 (md_o M) rfl ?_
            refine x_iload G dX5_gathers_51 rfl ?_
            refine x_laldN G dX5_gathers_53 (md_ov M) (by omega) (by decide) ?_
            refine x_callS (n := 1) (rest := [.long (r_abs (ov9 (f + k)))]) (As := [.long (ov9 r)]) G (c_sizeOf (Post := fun r7 h7 sz7 => r7 = some (.long (r_abs (ov9 r))) ∧ h1 = h7 ∧ sz1 = sz7) l D ⟨rfl, rfl, rfl⟩) gX5_gathers_X5_sizeOf rfl ⟨by decide +kernel, by decide +kernel, by decide +kernel⟩ ⟨by decide, by decide⟩ dX5_gathers_54 rfl rfl (Nat.le_of_ble_eq_true rfl) ⟨by decide, by decide⟩ ?_
            rintro _ _ _ ⟨rfl, rfl, rfl⟩
            try dsimp only [Option.toList, List.cons_append, List.nil_append]
            refine x_lcmp G dX5_gathers_57 ?_
            refine x_if_ge G 65 dX5_gathers_58 (by decide) (fun c_58 => ?_) (fun c_58 => ?_)
            · have hgl : gl ov9 f (k + 1) = some r := by
                unfold gl
                rw [hg9]
                dsimp only
                rw [if_neg (fun q => Int64.not_le.mpr q.2 ((x_lgge _ _).mp c_58))]
              refine x_iinc G dX5_gathers_65 rfl (by decide) ?_
              refine x_locE (lv2 := [(0, .ref b), (1, .int (nI f)), (2, .int (nI n)), (3, .int (nI 1)), (4, .int (gi (gl ov9 f (k + 1)))), (5, .int (nI (f + (k + 1))))]) (by rw [hgl, show f + (k + 1) = f + k + 1 from rfl, nI_succ (f + k)]; rfl) ?_
              refine x_goto G 12 dX5_gathers_68 (by decide) ?_
              exact nx () _ _ ⟨M, F⟩
            · have hgl : gl ov9 f (k + 1) = some (f + k) := by
                unfold gl
                rw [hg9]
                dsimp only
                rw [if_pos ⟨fun q => c_29 ((x_lgeq _ _).mpr q), Int64.not_le.mp (fun q => c_58 ((x_lgge _ _).mpr q))⟩]
              refine x_iload G dX5_gathers_61 rfl ?_
              refine x_istore G dX5_gathers_63 (by decide) ?_
              refine x_iinc G dX5_gathers_65 rfl (by decide) ?_
              refine x_locE (lv2 := [(0, .ref b), (1, .int (nI f)), (2, .int (nI n)), (3, .int (nI 1)), (4, .int (gi (gl ov9 f (k + 1)))), (5, .int (nI (f + (k + 1))))]) (by rw [hgl, show f + (k + 1) = f + k + 1 from rfl, nI_succ (f + k)]; rfl) ?_
              refine x_goto G 12 dX5_gathers_68 (by decide) ?_
              exact nx () _ _ ⟨M, F⟩
  · intro _ h1 sz1 hI
    obtain ⟨M, F⟩ := hI
    try dsimp only
    refine x_iload G dX5_gathers_12 rfl ?_
    refine x_iload_n G dX5_gathers_14 rfl ?_
    refine x_iload_n G dX5_gathers_15 rfl ?_
    refine x_iadd G dX5_gathers_16 ?_
    refine x_topE (y := nI (f + n)) (by rw [nI_add]) ?_
    refine x_icmp_ge G 71 dX5_gathers_17 (by decide) (fun c_17 => ?_) (fun c_17 => ?_)
    · rcases hr : gl ov9 f n with _ | r
      · try rw [hr]
        refine x_iload G dX5_gathers_71 rfl ?_
        refine x_if_ge G 78 dX5_gathers_73 (by decide) (fun q => absurd q (by decide)) (fun _ => ?_)
        refine x_iconstV (v := 0) G dX5_gathers_76 (by decide) ?_
        unfold r_ga at hg
        rw [hr] at hg
        cases hg
        exact x_zret G dX5_gathers_77 rfl (hpost _ _ M F)
      · try rw [hr]
        obtain ⟨hr1, hr2, hr3⟩ := gl_lt hr
        refine x_iload G dX5_gathers_71 rfl ?_
        refine x_if_ge G 78 dX5_gathers_73 (by decide) (fun _ => ?_) (fun q => absurd (nI_pos' (by omega)) q)
        refine x_aload_n G dX5_gathers_78 rfl ?_
        refine x_iload_n G dX5_gathers_79 rfl ?_
        refine x_iload G dX5_gathers_80 rfl ?_
        refine x_callV (n := 2) (rest := []) (As := [.int (nI f), .int (nI r)]) G (ci := 5) (c_swaps (Post := fun r2 h2 sz2 => r2 = none ∧ Md dA h2 b tx ln fa st de dm sd im se kp pl wr dp su wa fc po (sw_row ro9 f r 6) fr ch (gsw ov9 f r) ∧ xF b (b + 14) h1 h2) (i := f) (o := r) l D (by omega) (by omega) M (fun h2 sz2 q1 q2 => ⟨rfl, q1, q2⟩)) gX5_gathers_X5_swaps rfl ⟨rfl, by decide +kernel, by decide +kernel, by decide +kernel⟩ ⟨by decide, by decide⟩ rfl rfl (md_o M) dX5_gathers_82 rfl rfl (Nat.le_of_ble_eq_true rfl) ⟨by decide, by decide⟩ ?_
        rintro _ h2 sz2 ⟨rfl, q1, q2⟩
        try dsimp only [Option.toList, List.cons_append, List.nil_append]
        have M := q1
        have F := xF_tr F q2
        refine x_iconstV (v := nI 0) G dX5_gathers_85 (by decide) ?_
        refine x_istore_n G dX5_gathers_86 (by decide) ?_
        refine x_iload_n G dX5_gathers_87 rfl ?_
        refine x_iconstV (v := nI 1) G dX5_gathers_88 (by decide) ?_
        refine x_iadd G dX5_gathers_89 ?_
        refine x_topE (y := nI (f + 1)) (nI_1 f) ?_
        refine x_istore G dX5_gathers_90 (by decide) ?_
        have hne : ¬ gsw ov9 f r f = 0 := by rw [gsw_f]; exact hr3
        generalize hro1 : sw_row ro9 f r 6 = ro1 at M hg
        generalize hov1 : gsw ov9 f r = ov1 at M hg hne
        refine x_loop (σ := Unit) (fun k _ => [(0, .ref b), (1, .int (nI f)), (2, .int (nI n)), (3, .int (x_b (gm ro1 ov1 f k = true))), (4, .int (nI r)), (5, .int (nI (f + 1 + k)))]) (n - 1) (fun k _ h1 sz1 => Md dA h1 b tx ln fa st de dm sd im se kp pl wr dp su wa fc po ((gtS ro1 ov1 f k).1) fr ch ((gtS ro1 ov1 f k).2) ∧ xF b (b + 14) h h1) ?_ ?_ 0 () _ _ (Nat.zero_le _) ⟨M, F⟩
        · intro k _ h1 sz1 hk hI nx2
          obtain ⟨M, F⟩ := hI
          refine x_iload G dX5_gathers_92 rfl ?_
          refine x_iload_n G dX5_gathers_94 rfl ?_
          refine x_iload_n G dX5_gathers_95 rfl ?_
          refine x_iadd G dX5_gathers_96 ?_
          refine x_topE (y := nI (f + n)) (by rw [nI_add]) ?_
          refine x_icmp_ge G 149 dX5_gathers_97 (by decide) (fun c_97 => ?_) (fun c_97 => ?_)
          · exact absurd c_97 (nI_ge (by omega) (by omega))
          · refine x_aload_n G dX5_gathers_100 rfl ?_
            refine x_iload G dX5_gathers_101 rfl ?_
            refine x_iload_n G dX5_gathers_103 rfl ?_
            refine x_aload_n G dX5_gathers_104 rfl ?_
            refine x_get G kX5 inX5 20 (by decide) (by decide +kernel) dX5_gathers_105 (md_o M) rfl ?_
            refine x_iload G dX5_gathers_108 rfl ?_
            refine x_laldN G dX5_gathers_110 (md_ov M) (by omega) (by decide) ?_
            refine x_aload_n G dX5_gathers_111 rfl ?_
            refine x_get G kX5 inX5 20 (by decide) (by decide +kernel) dX5_gathers_112 (md_o M) rfl ?_
            refine x_iload_n G dX5_gathers_115 rfl ?_
            refine x_laldN G dX5_gathers_116 (md_ov M) (by omega) (by decide) ?_
            refine x_ldiv G dX5_gathers_117 (by rw [gtS_f]; exact hne) ?_
            refine x_callV (n := 3) (rest := []) (As := [.int (nI (f + 1 + k)), .int (nI f), .long ((gtS ro1 ov1 f k).2 (f + 1 + k) / (gtS ro1 ov1 f k).2 f)]) G (ci := 5) (c_takes (Post := fun r2 h2 sz2 => r2 = none ∧ Md dA h2 b tx ln fa st de dm sd im se kp pl wr dp su wa fc po ((gtS ro1 ov1 f (k + 1)).1) fr ch ((gtS ro1 ov1 f (k + 1)).2) ∧ xF b (b + 14) h1 h2) (i := f + 1 + k) (o := f) l D (by omega) (by omega) M (fun h2 sz2 q1 q2 => ⟨rfl, q1, q2⟩)) gX5_gathers_X5_takes rfl ⟨rfl, by decide +kernel, by decide +kernel, by decide +kernel⟩ ⟨by decide, by decide⟩ rfl rfl (md_o M) dX5_gathers_118 rfl rfl (Nat.le_of_ble_eq_true rfl) ⟨by decide, by decide⟩ ?_
            rintro _ h2 sz2 ⟨rfl, q1, q2⟩
            try dsimp only [Option.toList, List.cons_append, List.nil_append]
            have M := q1
            have F := xF_tr F q2
            refine x_iload_n G dX5_gathers_121 rfl ?_
            refine x_if_ne G 137 dX5_gathers_122 (by decide) (fun c_122 => ?_) (fun c_122 => ?_)
            · have hgm : x_b (gm ro1 ov1 f (k + 1) = true) = nI 1 := by
                rw [x_b_t ?_]
                · rfl
                · show (gm ro1 ov1 f k || _) = true
                  rw [Bool.or_eq_true]
                  left
                  exact x_b_n.mp c_122
              refine x_iconstV (v := nI 1) G dX5_gathers_137 (by decide) ?_
              refine x_goto G 142 dX5_gathers_138 (by decide) ?_
              refine x_istore_n G dX5_gathers_142 (by decide) ?_
              refine x_iinc G dX5_gathers_143 rfl (by decide) ?_
              refine x_locE (lv2 := [(0, .ref b), (1, .int (nI f)), (2, .int (nI n)), (3, .int (x_b (gm ro1 ov1 f (k + 1) = true))), (4, .int (nI r)), (5, .int (nI (f + 1 + (k + 1))))]) (by rw [hgm, show f + 1 + (k + 1) = f + 1 + k + 1 from rfl, nI_succ (f + 1 + k)]; rfl) ?_
              refine x_goto G 92 dX5_gathers_146 (by decide) ?_
              exact nx2 () _ _ ⟨M, F⟩
            · refine x_aload_n G dX5_gathers_125 rfl ?_
              refine x_get G kX5 inX5 20 (by decide) (by decide +kernel) dX5_gathers_126 (md_o M) rfl ?_
              refine x_iload G dX5_gathers_129 rfl ?_
              refine x_laldN G dX5_gathers_131 (md_ov M) (by omega) (by decide) ?_
              refine x_lconstV (v := 0) G dX5_gathers_132 (by decide) ?_
              refine x_lcmp G dX5_gathers_133 ?_
              refine x_if_eq G 141 dX5_gathers_134 (by decide) (fun c_134 => ?_) (fun c_134 => ?_)
              · have hgm : x_b (gm ro1 ov1 f (k + 1) = true) = nI 0 := by
                  rw [x_b_f (fun z => ?_)]
                  · rfl
                  · replace z : (gm ro1 ov1 f k || !((gtS ro1 ov1 f (k + 1)).2 (f + 1 + k) == 0)) = true := z
                    rw [Bool.or_eq_true] at z
                    rcases z with z | z
                    · exact absurd z (x_b_0.mp c_122)
                    · rw [(x_lgeq _ _).mp c_134] at z
                      exact absurd z (by decide)
                refine x_iconstV (v := nI 0) G dX5_gathers_141 (by decide) ?_
                refine x_istore_n G dX5_gathers_142 (by decide) ?_
                refine x_iinc G dX5_gathers_143 rfl (by decide) ?_
                refine x_locE (lv2 := [(0, .ref b), (1, .int (nI f)), (2, .int (nI n)), (3, .int (x_b (gm ro1 ov1 f (k + 1) = true))), (4, .int (nI r)), (5, .int (nI (f + 1 + (k + 1))))]) (by rw [hgm, show f + 1 + (k + 1) = f + 1 + k + 1 from rfl, nI_succ (f + 1 + k)]; rfl) ?_
                refine x_goto G 92 dX5_gathers_146 (by decide) ?_
                exact nx2 () _ _ ⟨M, F⟩
              · have hgm : x_b (gm ro1 ov1 f (k + 1) = true) = nI 1 := by
                  rw [x_b_t ?_]
                  · rfl
                  · show (gm ro1 ov1 f k || !((gtS ro1 ov1 f (k + 1)).2 (f + 1 + k) == 0)) = true
                    rw [Bool.or_eq_true]
                    right
                    rw [Bool.not_eq_true', beq_eq_false_iff_ne]
                    exact fun q => c_134 ((x_lgeq _ _).mpr q)
                refine x_iconstV (v := nI 1) G dX5_gathers_137 (by decide) ?_
                refine x_goto G 142 dX5_gathers_138 (by decide) ?_
                refine x_istore_n G dX5_gathers_142 (by decide) ?_
                refine x_iinc G dX5_gathers_143 rfl (by decide) ?_
                refine x_locE (lv2 := [(0, .ref b), (1, .int (nI f)), (2, .int (nI n)), (3, .int (x_b (gm ro1 ov1 f (k + 1) = true))), (4, .int (nI r)), (5, .int (nI (f + 1 + (k + 1))))]) (by rw [hgm, show f + 1 + (k + 1) = f + 1 + k + 1 from rfl, nI_succ (f + 1 + k)]; rfl) ?_
                refine x_goto G 92 dX5_gathers_146 (by decide) ?_
                exact nx2 () _ _ ⟨M, F⟩
        · intro _ h1 sz1 hI
          obtain ⟨M, F⟩ := hI
          refine x_iload G dX5_gathers_92 rfl ?_
          refine x_iload_n G dX5_gathers_94 rfl ?_
          refine x_iload_n G dX5_gathers_95 rfl ?_
          refine x_iadd G dX5_gathers_96 ?_
          refine x_topE (y := nI (f + n)) (by rw [nI_add]) ?_
          refine x_icmp_ge G 149 dX5_gathers_97 (by decide) (fun c_97 => ?_) (fun c_97 => ?_)
          · refine x_goto G 2 dX5_gathers_149 (by decide) ?_
            rw [show r_ga (g + 1) ro9 ov9 f n = _ from rfl] at hg
            unfold r_ga at hg
            rw [hr] at hg
            dsimp only at hg
            rw [hro1, hov1] at hg
            by_cases z : gm ro1 ov1 f (n - 1) = true
            · rw [if_pos z] at hg
              refine x_keep [0, 1, 2, 3] ?_
              refine x_locE (lv2 := [(0, .ref b), (1, .int (nI f)), (2, .int (nI n)), (3, .int (nI 1))]) (by rw [x_b_t z]; rfl) ?_
              exact nx (g, (gtS ro1 ov1 f (n - 1)).1, (gtS ro1 ov1 f (n - 1)).2) _ _ ⟨hg, M, F⟩ (by dsimp only; omega)
            · rw [if_neg z] at hg
              cases hg
              refine x_iload_n G dX5_gathers_2 rfl ?_
              refine x_if_eq G 152 dX5_gathers_3 (by decide) (fun _ => ?_) (fun q => absurd (x_b_f z) q)
              refine x_iconstV (v := 1) G dX5_gathers_152 (by decide) ?_
              exact x_zret G dX5_gathers_153 rfl (hpost _ _ M F)
          · exact absurd (nI_le (by omega) (by omega)) c_97
    · exact absurd (nI_le (Nat.le_refl _) (by omega)) c_17

