theorem inX5_adds_5 : ∀ w ∈ wsX50, w ∈ wsX5_adds := by decide +kernel
/-- p is what is said, or what was read -/
def md_P (b a n : Nat) (st po p : Nat → Int32) : Prop := (a = b + 2 ∧ n = 69 ∧ p = st) ∨ (a = b + 10 ∧ n = 10 ∧ p = po)
theorem md_p {dA : Nat → ClassId} {h : xH} {b : Nat} {tx : Nat → Int32} {ln : Int32} {fa : Int32} {st : Nat → Int32} {de : Nat → Int32} {dm : Int32} {sd : Int64} {im : Nat → Int32} {se : Nat → Int64} {kp : Nat → Int32} {pl : Int32} {wr : Int32} {dp : Int32} {su : Nat → Int32} {wa : Nat → Int32} {fc : Nat → Int32} {po : Nat → Int32} {ro : Nat → Int64} {fr : Int32} {ch : Nat → Int64} {ov : Nat → Int64} {a n : Nat} {p : Nat → Int32} (k : md_P b a n st po p) (M : Md dA h b tx ln fa st de dm sd im se kp pl wr dp su wa fc po ro fr ch ov) : h a = some (.inl (dA 0, n, .inl p)) := by
  rcases k with ⟨rfl, rfl, rfl⟩ | ⟨rfl, rfl, rfl⟩
  · exact md_st M
  · exact md_po M
theorem md_Pn {b a n : Nat} {st po p : Nat → Int32} (k : md_P b a n st po p) : n < 2000 := by
  rcases k with ⟨-, rfl, -⟩ | ⟨-, rfl, -⟩ <;> decide
/-- the numbers of the first n rows are what a saying comes to by them -/
def aK (p : Nat → Int32) (q : Nat) (ro ov : Nat → Int64) (n : Nat) : Nat → Int64 := fun i => if i < n then r_dot 0 p q ro (6 * i) 6 else ov i
theorem aK_0 (p : Nat → Int32) (q : Nat) (ro ov : Nat → Int64) : aK p q ro ov 0 = ov := by
  funext i
  unfold aK
  rw [if_neg (by omega)]
theorem aK_s {p : Nat → Int32} {q : Nat} {ro ov : Nat → Int64} {n : Nat} : vp_updL (aK p q ro ov n) n (r_dot 0 p q ro (6 * n) 6) = aK p q ro ov (n + 1) := by
  funext i
  unfold vp_updL aK
  by_cases e : i = n
  · subst e
    rw [if_pos rfl, if_pos (show i < i + 1 by omega)]
  · rw [if_neg e]
    by_cases e2 : i < n
    · rw [if_pos e2, if_pos (show i < n + 1 by omega)]
    · rw [if_neg e2, if_neg (show ¬ i < n + 1 by omega)]
def aG (g f : Nat) (ro ov : Nat → Int64) : Option (Bool × (Nat → Int64) × (Nat → Int64)) := if 0 < f then r_ga g ro ov 0 f else some (false, ro, ov)
def aT (p : Nat → Int32) (q : Nat) (c : Nat → Int64) (k : Nat) : Int64 := r_dot (p (q + 6 + k)).toInt64 p q c (6 * k) 6
def aI (one : Bool) (t o0 : Int64) : Bool := if one then t - t / o0 * o0 == 0 else t == 0
/-- the bases, one by one: whether it is true still, and the choice -/
def aB (one : Bool) (p : Nat → Int32) (q : Nat) (ro : Nat → Int64) (o0 : Int64) (c : Nat → Int64) : Nat → Bool × (Nat → Int64)
  | 0 => (true, c)
  | k + 1 => ((aB one p q ro o0 c k).1 && aI one (aT p q (aB one p q ro o0 c k).2 k) o0, if ((aB one p q ro o0 c k).1 && aI one (aT p q (aB one p q ro o0 c k).2 k) o0 && one) = true then ck_row (aB one p q ro o0 c k).2 ro k 0 (aT p q (aB one p q ro o0 c k).2 k / o0) 6 else (aB one p q ro o0 c k).2)
def aS (ro : Nat → Int64) (n : Nat) : Nat → Int64 := fun k => if k < n then ro (k + 6) else ro k
theorem aS_0 (ro : Nat → Int64) : aS ro 0 = ro := by
  funext k
  unfold aS
  rw [if_neg (by omega)]
theorem aS_s {ro : Nat → Int64} {n : Nat} : vp_updL (aS ro n) n (aS ro n (n + 6)) = aS ro (n + 1) := by
  have e0 : aS ro n (n + 6) = ro (n + 6) := by
    unfold aS
    rw [if_neg (by omega)]
  rw [e0]
  funext k
  unfold vp_updL aS
  by_cases e : k = n
  · subst e
    rw [if_pos rfl, if_pos (show k < k + 1 by omega)]
  · rw [if_neg e]
    by_cases e2 : k < n
    · rw [if_pos e2, if_pos (show k < n + 1 by omega)]
    · rw [if_neg e2, if_neg (show ¬ k < n + 1 by omega)]
/-- adds -/
def r_ad (g f : Nat) (p : Nat → Int32) (q : Nat) (ro ov c : Nat → Int64) : Option (Bool × Nat × (Nat → Int64) × (Nat → Int64) × (Nat → Int64)) := match aG g f ro (aK p q ro ov f) with
  | none => none
  | some (one, ro1, ov1) => match r_or g (if one then f - 1 else f) (if one then aS ro1 (6 * (f - 1)) else ro1) ov1 (aB one p q ro1 (ov1 0) c 4).2 with
    | none => none
    | some (ro2, ov2, c2) => some ((aB one p q ro1 (ov1 0) c 4).1, if one then f - 1 else f, ro2, ov2, c2)
set_option maxRecDepth 100000 in
set_option maxHeartbeats 4000000 in
/-- adds -/
theorem c_adds (l : Launch) (D : va_G) {dA : Nat → ClassId} {b a n q : Nat} {po1 : Nat → Int32} {tx : Nat → Int32} {ln : Int32} {fa : Int32} {st : Nat → Int32} {de : Nat → Int32} {dm : Int32} {sd : Int64} {im : Nat → Int32} {se : Nat → Int64} {kp : Nat → Int32} {pl : Int32} {wr : Int32} {dp : Int32} {su : Nat → Int32} {wa : Nat → Int32} {fc : Nat → Int32} {po : Nat → Int32} {ro : Nat → Int64} {ch : Nat → Int64} {ov : Nat → Int64} {f g f9 : Nat} {is9 : Bool} {ro9 ov9 c9 : Nat → Int64} {h : xH} {sz : Nat} {Post : Option Value → xH → Nat → Prop} (hf : f ≤ 6) (ha : md_P b a n st po po1) (hq : q + 10 ≤ n) (had : r_ad g f po1 q ro ov ch = some (is9, f9, ro9, ov9, c9)) (M : Md dA h b tx ln fa st de dm sd im se kp pl wr dp su wa fc po ro (nI f) ch ov) (hpost : ∀ (h1 : xH) (sz1 : Nat), Md dA h1 b tx ln fa st de dm sd im se kp pl wr dp su wa fc po ro9 (nI f9) c9 ov9 → xF b (b + 14) h h1 → Post (some (.int (x_b (is9 = true)))) h1 sz1) : xMet l yX5_adds wsX5_adds 3 77 0 0 D dA [.ref b, .ref a, .int (nI q)] h sz Post := by
  refine x_open (cc := cX5_adds) (maxL := 9) (ret := (some .boolean)) (by decide) rfl (Nat.le_of_ble_eq_true rfl) ?_
  intro p e s m args below meth c G _
  have inX5 : ∀ w ∈ wsX50, w ∈ wsX5_adds := inX5_adds_5
  have J232 : ∀ (f2 : Nat) (ro2 ov2 c2 ro9 ov9 c9 : Nat → Int64) (is : Bool) (x3 x5 : Int32) (h1 : xH) (sz1 : Nat), f2 ≤ 6 → r_or g f2 ro2 ov2 c2 = some (ro9, ov9, c9) → (∀ (h1 : xH) (sz1 : Nat), Md dA h1 b tx ln fa st de dm sd im se kp pl wr dp su wa fc po ro9 (nI f2) c9 ov9 → xF b (b + 14) h h1 → Post (some (.int (x_b (is = true)))) h1 sz1) → Md dA h1 b tx ln fa st de dm sd im se kp pl wr dp su wa fc po ro2 (nI f2) c2 ov2 → xF b (b + 14) h h1 → xV p l e (headSpec wsX5_adds { frames := 3, cells := 0, slots := 0, locals := 77 }).room s m args below meth c D dA 9 h sz 0 0 Post 0 0 232 [(0, .ref b), (1, .ref a), (2, .int (nI q)), (3, .int x3), (4, .int (x_b (is = true))), (5, .int x5)] [] h1 sz1 := by
    intro f2 ro2 ov2 c2 ro9 ov9 c9 is x3 x5 h1 sz1 hf2 hor hpost9 M F
    refine x_aload_n G dX5_adds_232 rfl ?_
    refine x_callV (n := 0) (rest := []) (As := []) G (ci := 5) (c_orders (Post := fun r7 h7 sz7 => r7 = none ∧ Md dA h7 b tx ln fa st de dm sd im se kp pl wr dp su wa fc po ro9 (nI f2) c9 ov9 ∧ xF b (b + 14) h1 h7) (f := f2) (g := g) (ro9 := ro9) (ov9 := ov9) (c9 := c9) l D (by omega) hor M (fun h7 sz7 q1 q2 => ⟨rfl, q1, q2⟩)) gX5_adds_X5_orders rfl ⟨rfl, by decide +kernel, by decide +kernel, by decide +kernel⟩ ⟨by decide, by decide⟩ rfl rfl (md_o M) dX5_adds_233 rfl rfl (Nat.le_of_ble_eq_true rfl) ⟨by decide, by decide⟩ ?_
    rintro _ h1 sz1 ⟨rfl, M, F2⟩
    try dsimp only [Option.toList, List.cons_append, List.nil_append]
    replace F := xF_tr F F2
    refine x_iload G dX5_adds_236 rfl ?_
    exact x_zret G dX5_adds_238 x_b_z (hpost9 _ _ M F)
  have J53 : ∀ (one : Bool) (ro1 ov1 ro9 ov9 c9 : Nat → Int64) (x3 : Int32) (h1 : xH) (sz1 : Nat), (one = true → ¬ ov1 0 = 0) → (one = true → 0 < f) → r_or g (if one then f - 1 else f) (if one then aS ro1 (6 * (f - 1)) else ro1) ov1 (aB one po1 q ro1 (ov1 0) ch 4).2 = some (ro9, ov9, c9) → (∀ (h1 : xH) (sz1 : Nat), Md dA h1 b tx ln fa st de dm sd im se kp pl wr dp su wa fc po ro9 (nI (if one then f - 1 else f)) c9 ov9 → xF b (b + 14) h h1 → Post (some (.int (x_b ((aB one po1 q ro1 (ov1 0) ch 4).1 = true)))) h1 sz1) → Md dA h1 b tx ln fa st de dm sd im se kp pl wr dp su wa fc po ro1 (nI f) ch ov1 → xF b (b + 14) h h1 → xV p l e (headSpec wsX5_adds { frames := 3, cells := 0, slots := 0, locals := 77 }).room s m args below meth c D dA 9 h sz 0 0 Post 0 0 53 [(0, .ref b), (1, .ref a), (2, .int (nI q)), (3, .int x3)] [.int (x_b (one = true))] h1 sz1 := by
    intro one ro1 ov1 ro9 ov9 c9 x3 h1 sz1 hone hpos hor hpost9 M F
    refine x_istore_n G dX5_adds_53 (by decide) ?_
    refine x_iconstV (v := nI 1) G dX5_adds_54 (by decide) ?_
    refine x_istore G dX5_adds_55 (by decide) ?_
    refine x_iconstV (v := nI 0) G dX5_adds_57 (by decide) ?_
    refine x_istore G dX5_adds_58 (by decide) ?_
    refine x_loop (σ := Unit) (fun k _ => [(0, .ref b), (1, .ref a), (2, .int (nI q)), (3, .int (x_b (one = true))), (4, .int (x_b ((aB one po1 q ro1 (ov1 0) ch k).1 = true))), (5, .int (nI k))]) 4 (fun k _ h1 sz1 => Md dA h1 b tx ln fa st de dm sd im se kp pl wr dp su wa fc po ro1 (nI f) ((aB one po1 q ro1 (ov1 0) ch k).2) ov1 ∧ xF b (b + 14) h h1) ?_ ?_ 0 () _ _ (Nat.zero_le _) ⟨M, F⟩
    · intro k _ h1 sz1 hj hI nxk
      try dsimp only at hI nxk ⊢
      obtain ⟨M, F⟩ := hI
      obtain ⟨v0, hv0⟩ : ∃ v0 : Int32, v0 = 0 := ⟨_, rfl⟩
      obtain ⟨v1, hv1⟩ : ∃ v1 : Int32, v1 = 1 := ⟨_, rfl⟩
      refine x_iload G dX5_adds_60 rfl ?_
      refine x_iconstV (v := nI 4) G dX5_adds_62 (by decide) ?_
      refine x_icmp_ge G 180 dX5_adds_63 (by decide) (fun c_63 => ?_) (fun c_63 => ?_)
      · exact absurd c_63 (nI_ge hj (by omega))
      · refine x_aload_n G dX5_adds_66 rfl ?_
        refine x_aload_n G dX5_adds_67 rfl ?_
        refine x_iload_n G dX5_adds_68 rfl ?_
        refine x_iload G dX5_adds_69 rfl ?_
        refine x_callV (n := 3) (rest := []) (As := [.ref a, .int (nI q), .int (nI k)]) G (ci := 5) (c_restOf (Post := fun r7 h7 sz7 => r7 = some (.long (aT po1 q (aB one po1 q ro1 (ov1 0) ch k).2 k)) ∧ h1 = h7 ∧ sz1 = sz7) (i := k) l D (by omega) (by omega) (md_Pn ha) (md_p ha M) M ⟨rfl, rfl, rfl⟩) gX5_adds_X5_restOf rfl ⟨rfl, by decide +kernel, by decide +kernel, by decide +kernel⟩ ⟨by decide, by decide⟩ rfl rfl (md_o M) dX5_adds_71 rfl rfl (Nat.le_of_ble_eq_true rfl) ⟨by decide, by decide⟩ ?_
        rintro _ _ _ ⟨rfl, rfl, rfl⟩
        try dsimp only [Option.toList, List.cons_append, List.nil_append]
        refine x_lstore G dX5_adds_74 (by decide) ?_
        have J114 : ∀ (v : Int32), v = x_b (((aB one po1 q ro1 (ov1 0) ch k).1 && aI one (aT po1 q (aB one po1 q ro1 (ov1 0) ch k).2 k) (ov1 0)) = true) → xV p l e (headSpec wsX5_adds { frames := 3, cells := 0, slots := 0, locals := 77 }).room s m args below meth c D dA 9 h sz 0 0 Post 0 0 114 [(0, .ref b), (1, .ref a), (2, .int (nI q)), (3, .int (x_b (one = true))), (4, .int (x_b ((aB one po1 q ro1 (ov1 0) ch k).1 = true))), (5, .int (nI k)), (6, .long (aT po1 q (aB one po1 q ro1 (ov1 0) ch k).2 k))] [.int v] h1 sz1 := by
          intro v hv
          rw [hv]
          refine x_istore G dX5_adds_114 (by decide) ?_
          refine x_iconstV (v := nI 0) G dX5_adds_116 (by decide) ?_
          refine x_istore G dX5_adds_117 (by decide) ?_
          by_cases z1 : ((aB one po1 q ro1 (ov1 0) ch k).1 && aI one (aT po1 q (aB one po1 q ro1 (ov1 0) ch k).2 k) (ov1 0)) = true
          · by_cases z2 : one = true
            · refine x_loop (σ := Unit) (fun j _ => [(0, .ref b), (1, .ref a), (2, .int (nI q)), (3, .int (x_b (one = true))), (4, .int (x_b (((aB one po1 q ro1 (ov1 0) ch k).1 && aI one (aT po1 q (aB one po1 q ro1 (ov1 0) ch k).2 k) (ov1 0)) = true))), (5, .int (nI k)), (6, .long (aT po1 q (aB one po1 q ro1 (ov1 0) ch k).2 k)), (8, .int (nI j))]) 6 (fun j _ h1 sz1 => Md dA h1 b tx ln fa st de dm sd im se kp pl wr dp su wa fc po ro1 (nI f) (ck_row (aB one po1 q ro1 (ov1 0) ch k).2 ro1 k 0 ((aT po1 q (aB one po1 q ro1 (ov1 0) ch k).2 k) / ov1 0) j) ov1 ∧ xF b (b + 14) h h1) ?_ ?_ 0 () _ _ (Nat.zero_le _) ⟨by rw [ck_row_0]; exact M, F⟩
              · intro j _ h1 sz1 hj hI nx
                try dsimp only at hI nx ⊢
                obtain ⟨M, F⟩ := hI
                refine x_iload G dX5_adds_119 rfl ?_
                refine x_bipushV (v := nI 6) G dX5_adds_121 (by decide) ?_
                refine x_icmp_ge G 174 dX5_adds_123 (by decide) (fun c_123 => ?_) (fun c_123 => ?_)
                · exact absurd c_123 (nI_ge hj (by omega))
                · refine x_iload G dX5_adds_126 rfl ?_
                  refine x_if_eq G 174 dX5_adds_128 (by decide) (fun c_128 => ?_) (fun c_128 => ?_)
                  · exact absurd c_128 (x_b_n.mpr z1)
                  · refine x_iload_n G dX5_adds_131 rfl ?_
                    refine x_if_eq G 174 dX5_adds_132 (by decide) (fun c_132 => ?_) (fun c_132 => ?_)
                    · exact absurd c_132 (x_b_n.mpr z2)
                    · refine x_aload_n G dX5_adds_135 rfl ?_
                      refine x_get G kX5 inX5 19 (by decide) (by decide +kernel) dX5_adds_136 (md_o M) rfl ?_
                      refine x_bipushV (v := nI 6) G dX5_adds_139 (by decide) ?_
                      refine x_iload G dX5_adds_141 rfl ?_
                      refine x_imul G dX5_adds_143 ?_
                      refine x_iload G dX5_adds_144 rfl ?_
                      refine x_iadd G dX5_adds_146 ?_
                      refine x_topE (y := nI (6 * k + j)) (by rw [pk_mul, nI_add]) ?_
                      refine x_dup2 G dX5_adds_147 rfl rfl ?_
                      refine x_laldN G dX5_adds_148 (md_ch M) (by omega) (by decide) ?_
                      refine x_lload G dX5_adds_149 rfl ?_
                      refine x_aload_n G dX5_adds_151 rfl ?_
                      refine x_get G kX5 inX5 20 (by decide) (by decide +kernel) dX5_adds_152 (md_o M) rfl ?_
                      refine x_iconstV (v := nI 0) G dX5_adds_155 (by decide) ?_
                      refine x_laldN G dX5_adds_156 (md_ov M) (by omega) (by decide) ?_
                      refine x_ldiv G dX5_adds_157 (hone z2) ?_
                      refine x_aload_n G dX5_adds_158 rfl ?_
                      refine x_get G kX5 inX5 17 (by decide) (by decide +kernel) dX5_adds_159 (md_o M) rfl ?_
                      refine x_iload G dX5_adds_162 rfl ?_
                      refine x_laldN G dX5_adds_164 (md_ro M) (by omega) (by decide) ?_
                      refine x_lmul G dX5_adds_165 ?_
                      refine x_lsub G dX5_adds_166 ?_
                      refine x_lastN G dX5_adds_167 (md_ch M) (by omega) (by decide) ?_
                      rw [show ro1 j = ro1 (6 * 0 + j) by rw [Nat.mul_zero, Nat.zero_add], ck_row_s]
                      have M := md_ch_s M (ck_row (aB one po1 q ro1 (ov1 0) ch k).2 ro1 k 0 ((aT po1 q (aB one po1 q ro1 (ov1 0) ch k).2 k) / ov1 0) (j + 1))
                      have F := xF_up (a := b + 12) (e := .inl (dA 1, 24, .inr (.inl (ck_row (aB one po1 q ro1 (ov1 0) ch k).2 ro1 k 0 ((aT po1 q (aB one po1 q ro1 (ov1 0) ch k).2 k) / ov1 0) (j + 1))))) F (by omega) (by omega)
                      refine x_iinc G dX5_adds_168 rfl (by decide) ?_
                      refine x_locE (lv2 := [(0, .ref b), (1, .ref a), (2, .int (nI q)), (3, .int (x_b (one = true))), (4, .int (x_b (((aB one po1 q ro1 (ov1 0) ch k).1 && aI one (aT po1 q (aB one po1 q ro1 (ov1 0) ch k).2 k) (ov1 0)) = true))), (5, .int (nI k)), (6, .long (aT po1 q (aB one po1 q ro1 (ov1 0) ch k).2 k)), (8, .int (nI (j + 1)))]) (by rw [nI_succ j]; rfl) ?_
                      refine x_goto G 119 dX5_adds_171 (by decide) ?_
                      exact nx () _ _ ⟨M, F⟩
              · intro _ h1 sz1 hI
                try dsimp only at hI ⊢
                obtain ⟨M, F⟩ := hI
                refine x_iload G dX5_adds_119 rfl ?_
                refine x_bipushV (v := nI 6) G dX5_adds_121 (by decide) ?_
                refine x_icmp_ge G 174 dX5_adds_123 (by decide) (fun c_123 => ?_) (fun c_123 => ?_)
                · refine x_iinc G dX5_adds_174 rfl (by decide) ?_
                  refine x_goto G 60 dX5_adds_177 (by decide) ?_
                  refine x_keep [0, 1, 2, 3, 4, 5] ?_
                  refine x_locE (lv2 := [(0, .ref b), (1, .ref a), (2, .int (nI q)), (3, .int (x_b (one = true))), (4, .int (x_b ((aB one po1 q ro1 (ov1 0) ch (k + 1)).1 = true))), (5, .int (nI (k + 1)))]) (by rw [nI_succ k]; rfl) ?_
                  exact nxk () _ _ ⟨by show Md _ _ _ _ _ _ _ _ _ _ _ _ _ _ _ _ _ _ _ _ _ _ (if _ then _ else _) _; rw [if_pos (by rw [z1, z2]; rfl)]; exact M, F⟩
                · exact absurd (nI_le (Nat.le_refl _) (by omega)) c_123
            · refine x_iload G dX5_adds_119 rfl ?_
              refine x_bipushV (v := nI 6) G dX5_adds_121 (by decide) ?_
              refine x_icmp_ge G 174 dX5_adds_123 (by decide) (fun q => absurd q (by decide)) (fun _ => ?_)
              refine x_iload G dX5_adds_126 rfl ?_
              refine x_if_eq G 174 dX5_adds_128 (by decide) (fun q => absurd q (x_b_n.mpr z1)) (fun _ => ?_)
              refine x_iload_n G dX5_adds_131 rfl ?_
              refine x_if_eq G 174 dX5_adds_132 (by decide) (fun _ => ?_) (fun q => absurd (x_b_f z2) q)
              refine x_iinc G dX5_adds_174 rfl (by decide) ?_
              refine x_goto G 60 dX5_adds_177 (by decide) ?_
              refine x_keep [0, 1, 2, 3, 4, 5] ?_
              refine x_locE (lv2 := [(0, .ref b), (1, .ref a), (2, .int (nI q)), (3, .int (x_b (one = true))), (4, .int (x_b ((aB one po1 q ro1 (ov1 0) ch (k + 1)).1 = true))), (5, .int (nI (k + 1)))]) (by rw [nI_succ k]; rfl) ?_
              exact nxk () _ _ ⟨by show Md _ _ _ _ _ _ _ _ _ _ _ _ _ _ _ _ _ _ _ _ _ _ (if _ then _ else _) _; rw [if_neg (by rw [Bool.and_eq_true]; exact fun z => z2 z.2)]; exact M, F⟩
          · refine x_iload G dX5_adds_119 rfl ?_
            refine x_bipushV (v := nI 6) G dX5_adds_121 (by decide) ?_
            refine x_icmp_ge G 174 dX5_adds_123 (by decide) (fun q => absurd q (by decide)) (fun _ => ?_)
            refine x_iload G dX5_adds_126 rfl ?_
            refine x_if_eq G 174 dX5_adds_128 (by decide) (fun _ => ?_) (fun q => absurd (x_b_f z1) q)
            refine x_iinc G dX5_adds_174 rfl (by decide) ?_
            refine x_goto G 60 dX5_adds_177 (by decide) ?_
            refine x_keep [0, 1, 2, 3, 4, 5] ?_
            refine x_locE (lv2 := [(0, .ref b), (1, .ref a), (2, .int (nI q)), (3, .int (x_b (one = true))), (4, .int (x_b ((aB one po1 q ro1 (ov1 0) ch (k + 1)).1 = true))), (5, .int (nI (k + 1)))]) (by rw [nI_succ k]; rfl) ?_
            exact nxk () _ _ ⟨by show Md _ _ _ _ _ _ _ _ _ _ _ _ _ _ _ _ _ _ _ _ _ _ (if _ then _ else _) _; rw [if_neg (by rw [Bool.and_eq_true]; exact fun z => z1 z.1)]; exact M, F⟩
        refine x_iload G dX5_adds_76 rfl ?_
        refine x_if_eq G 113 dX5_adds_78 (by decide) (fun c_78 => ?_) (fun c_78 => ?_)
        · have ez : v0 = x_b (((aB one po1 q ro1 (ov1 0) ch k).1 && aI one (aT po1 q (aB one po1 q ro1 (ov1 0) ch k).2 k) (ov1 0)) = true) := by
            rw [x_b_f (fun z => x_b_0.mp c_78 ((Bool.and_eq_true _ _).mp z).1)]; exact hv0
          refine x_iconstV (v := v0) G dX5_adds_113 (by rw [hv0]; decide) ?_
          exact J114 _ ez
        · have e1 := x_b_n.mp c_78
          refine x_iload_n G dX5_adds_81 rfl ?_
          refine x_if_eq G 102 dX5_adds_82 (by decide) (fun c_82 => ?_) (fun c_82 => ?_)
          · have e2 : one = false := by
              rcases Bool.eq_false_or_eq_true one with z | z
              · exact absurd z (x_b_0.mp c_82)
              · exact z
            refine x_lload G dX5_adds_102 rfl ?_
            refine x_lconstV (v := 0) G dX5_adds_104 (by decide) ?_
            refine x_lcmp G dX5_adds_105 ?_
            refine x_if_ne G 113 dX5_adds_106 (by decide) (fun c_106 => ?_) (fun c_106 => ?_)
            · have ez : v0 = x_b (((aB one po1 q ro1 (ov1 0) ch k).1 && aI one (aT po1 q (aB one po1 q ro1 (ov1 0) ch k).2 k) (ov1 0)) = true) := by
                rw [x_b_f (fun z => ?_)]
                · exact hv0
                · have z2 := ((Bool.and_eq_true _ _).mp z).2
                  unfold aI at z2
                  rw [if_neg (by rw [e2]; decide)] at z2
                  exact c_106 ((x_lgeq _ _).mpr (eq_of_beq z2))
              refine x_iconstV (v := v0) G dX5_adds_113 (by rw [hv0]; decide) ?_
              exact J114 _ ez
            · have ez : v1 = x_b (((aB one po1 q ro1 (ov1 0) ch k).1 && aI one (aT po1 q (aB one po1 q ro1 (ov1 0) ch k).2 k) (ov1 0)) = true) := by
                rw [x_b_t ?_]
                · exact hv1
                · rw [e1]
                  unfold aI
                  rw [if_neg (by rw [e2]; decide)]
                  exact beq_iff_eq.mpr ((x_lgeq _ _).mp c_106)
              refine x_iconstV (v := v1) G dX5_adds_109 (by rw [hv1]; decide) ?_
              refine x_goto G 114 dX5_adds_110 (by decide) ?_
              exact J114 _ ez
          · have e2 := x_b_n.mp c_82
            refine x_lload G dX5_adds_85 rfl ?_
            refine x_aload_n G dX5_adds_87 rfl ?_
            refine x_get G kX5 inX5 20 (by decide) (by decide +kernel) dX5_adds_88 (md_o M) rfl ?_
            refine x_iconstV (v := nI 0) G dX5_adds_91 (by decide) ?_
            refine x_laldN G dX5_adds_92 (md_ov M) (by omega) (by decide) ?_
            refine x_lrem G dX5_adds_93 (hone e2) ?_
            refine x_lconstV (v := 0) G dX5_adds_94 (by decide) ?_
            refine x_lcmp G dX5_adds_95 ?_
            refine x_if_ne G 113 dX5_adds_96 (by decide) (fun c_96 => ?_) (fun c_96 => ?_)
            · have ez : v0 = x_b (((aB one po1 q ro1 (ov1 0) ch k).1 && aI one (aT po1 q (aB one po1 q ro1 (ov1 0) ch k).2 k) (ov1 0)) = true) := by
                rw [x_b_f (fun z => ?_)]
                · exact hv0
                · have z2 := ((Bool.and_eq_true _ _).mp z).2
                  unfold aI at z2
                  rw [if_pos e2] at z2
                  exact c_96 ((x_lgeq _ _).mpr (eq_of_beq z2))
              refine x_iconstV (v := v0) G dX5_adds_113 (by rw [hv0]; decide) ?_
              exact J114 _ ez
            · have ez : v1 = x_b (((aB one po1 q ro1 (ov1 0) ch k).1 && aI one (aT po1 q (aB one po1 q ro1 (ov1 0) ch k).2 k) (ov1 0)) = true) := by
                rw [x_b_t ?_]
                · exact hv1
                · rw [e1]
                  unfold aI
                  rw [if_pos e2]
                  exact beq_iff_eq.mpr ((x_lgeq _ _).mp c_96)
              refine x_goto G 109 dX5_adds_99 (by decide) ?_
              refine x_iconstV (v := v1) G dX5_adds_109 (by rw [hv1]; decide) ?_
              refine x_goto G 114 dX5_adds_110 (by decide) ?_
              exact J114 _ ez
    · intro _ h1 sz1 hI
      try dsimp only at hI ⊢
      obtain ⟨M, F⟩ := hI
      refine x_iload G dX5_adds_60 rfl ?_
      refine x_iconstV (v := nI 4) G dX5_adds_62 (by decide) ?_
      refine x_icmp_ge G 180 dX5_adds_63 (by decide) (fun c_63 => ?_) (fun c_63 => ?_)
      · obtain ⟨is, his⟩ : ∃ is, is = (aB one po1 q ro1 (ov1 0) ch 4).1 := ⟨_, rfl⟩
        obtain ⟨c4, hc4⟩ : ∃ c4, c4 = (aB one po1 q ro1 (ov1 0) ch 4).2 := ⟨_, rfl⟩
        rw [← his] at hpost9 ⊢
        rw [← hc4] at M hor
        refine x_iload_n G dX5_adds_180 rfl ?_
        refine x_if_eq G 232 dX5_adds_181 (by decide) (fun c_181 => ?_) (fun c_181 => ?_)
        · have e2 : one = false := by
            rcases Bool.eq_false_or_eq_true one with z | z
            · exact absurd z (x_b_0.mp c_181)
            · exact z
          subst e2
          exact J232 f _ _ _ ro9 ov9 c9 is _ _ _ _ (by omega) hor hpost9 M F
        · have e2 := x_b_n.mp c_181
          subst e2
          have hf0 : 0 < f := hpos rfl
          refine x_aload_n G dX5_adds_184 rfl ?_
          refine x_dup G dX5_adds_185 rfl ?_
          refine x_get G kX5 inX5 18 (by decide) (by decide +kernel) dX5_adds_186 (md_o M) rfl ?_
          refine x_iconstV (v := nI 1) G dX5_adds_189 (by decide) ?_
          refine x_isub G dX5_adds_190 ?_
          refine x_topE (y := nI (f - 1)) (pk_sub (by omega)) ?_
          refine x_put G kX5 inX5 18 (by decide) (by decide +kernel) rfl dX5_adds_191 (md_o M) rfl rfl (Nat.le_of_ble_eq_true rfl) ?_
          have M := md_fr_s M (nI (f - 1))
          have F := xF_up (a := b) (e := .inr (5, List.set [.ref (b + 1), .int (ln), .int (fa), .ref (b + 2), .ref (b + 3), .int (dm), .long (sd), .ref (b + 4), .ref (b + 5), .ref (b + 6), .int (pl), .int (wr), .int (dp), .ref (b + 7), .ref (b + 8), .ref (b + 9), .ref (b + 10), .ref (b + 11), .int (nI f), .ref (b + 12), .ref (b + 13)] 18 (.int (nI (f - 1))))) F (by omega) (by omega)
          refine x_iconstV (v := nI 0) G dX5_adds_194 (by decide) ?_
          refine x_istore G dX5_adds_195 (by decide) ?_
          refine x_loop (σ := Unit) (fun k _ => [(0, .ref b), (1, .ref a), (2, .int (nI q)), (3, .int (x_b (true = true))), (4, .int (x_b (is = true))), (5, .int (nI k))]) (6 * (f - 1)) (fun k _ h1 sz1 => Md dA h1 b tx ln fa st de dm sd im se kp pl wr dp su wa fc po (aS ro1 k) (nI (f - 1)) c4 ov1 ∧ xF b (b + 14) h h1) ?_ ?_ 0 () _ _ (Nat.zero_le _) ⟨by rw [aS_0]; exact M, F⟩
          · intro k _ h1 sz1 hj hI nx
            try dsimp only at hI nx ⊢
            obtain ⟨M, F⟩ := hI
            refine x_iload G dX5_adds_197 rfl ?_
            refine x_bipushV (v := nI 6) G dX5_adds_199 (by decide) ?_
            refine x_aload_n G dX5_adds_201 rfl ?_
            refine x_get G kX5 inX5 18 (by decide) (by decide +kernel) dX5_adds_202 (md_o M) rfl ?_
            refine x_imul G dX5_adds_205 ?_
            refine x_topE (y := nI (6 * (f - 1))) (by rw [pk_mul]) ?_
            refine x_icmp_ge G 232 dX5_adds_206 (by decide) (fun c_206 => ?_) (fun c_206 => ?_)
            · exact absurd c_206 (nI_ge hj (by omega))
            · refine x_aload_n G dX5_adds_209 rfl ?_
              refine x_get G kX5 inX5 17 (by decide) (by decide +kernel) dX5_adds_210 (md_o M) rfl ?_
              refine x_iload G dX5_adds_213 rfl ?_
              refine x_aload_n G dX5_adds_215 rfl ?_
              refine x_get G kX5 inX5 17 (by decide) (by decide +kernel) dX5_adds_216 (md_o M) rfl ?_
              refine x_iload G dX5_adds_219 rfl ?_
              refine x_bipushV (v := nI 6) G dX5_adds_221 (by decide) ?_
              refine x_iadd G dX5_adds_223 ?_
              refine x_topE (y := nI (k + 6)) (by rw [nI_add]) ?_
              refine x_laldN G dX5_adds_224 (md_ro M) (by omega) (by decide) ?_
              refine x_lastN G dX5_adds_225 (md_ro M) (by omega) (by decide) ?_
              rw [aS_s]
              have M := md_ro_s M (aS ro1 (k + 1))
              have F := xF_up (a := b + 11) (e := .inl (dA 1, 36, .inr (.inl (aS ro1 (k + 1))))) F (by omega) (by omega)
              refine x_iinc G dX5_adds_226 rfl (by decide) ?_
              refine x_locE (lv2 := [(0, .ref b), (1, .ref a), (2, .int (nI q)), (3, .int (x_b (true = true))), (4, .int (x_b (is = true))), (5, .int (nI (k + 1)))]) (by rw [nI_succ k]; rfl) ?_
              refine x_goto G 197 dX5_adds_229 (by decide) ?_
              exact nx () _ _ ⟨M, F⟩
          · intro _ h1 sz1 hI
            try dsimp only at hI ⊢
            obtain ⟨M, F⟩ := hI
            refine x_iload G dX5_adds_197 rfl ?_
            refine x_bipushV (v := nI 6) G dX5_adds_199 (by decide) ?_
            refine x_aload_n G dX5_adds_201 rfl ?_
            refine x_get G kX5 inX5 18 (by decide) (by decide +kernel) dX5_adds_202 (md_o M) rfl ?_
            refine x_imul G dX5_adds_205 ?_
            refine x_topE (y := nI (6 * (f - 1))) (by rw [pk_mul]) ?_
            refine x_icmp_ge G 232 dX5_adds_206 (by decide) (fun c_206 => ?_) (fun c_206 => ?_)
            · exact J232 (f - 1) _ _ _ ro9 ov9 c9 is _ _ _ _ (by omega) hor hpost9 M F
            · exact absurd (nI_le (Nat.le_refl _) (by omega)) c_206
      · exact absurd (nI_le (Nat.le_refl _) (by omega)) c_63
  unfold r_ad at had
  cases haG : aG g f ro (aK po1 q ro ov f) with
  | none => rw [haG] at had; cases had
  | some w =>
  obtain ⟨one, ro1, ov1⟩ := w
  rw [haG] at had
  dsimp only at had
  cases hor : r_or g (if one then f - 1 else f) (if one then aS ro1 (6 * (f - 1)) else ro1) ov1 (aB one po1 q ro1 (ov1 0) ch 4).2 with
  | none => rw [hor] at had; cases had
  | some w =>
  obtain ⟨roA, ovA, cA⟩ := w
  rw [hor] at had
  cases had
  unfold aG at haG
  refine x_iconstV (v := nI 0) G dX5_adds_0 (by decide) ?_
  refine x_istore_n G dX5_adds_1 (by decide) ?_
  refine x_loop (σ := Unit) (fun i _ => [(0, .ref b), (1, .ref a), (2, .int (nI q)), (3, .int (nI i))]) f (fun i _ h1 sz1 => Md dA h1 b tx ln fa st de dm sd im se kp pl wr dp su wa fc po ro (nI f) ch (aK po1 q ro ov i) ∧ xF b (b + 14) h h1) ?_ ?_ 0 () h sz (Nat.zero_le _) ⟨by rw [aK_0]; exact M, xF_rf⟩
  · intro i _ h1 sz1 hj hI nx
    try dsimp only at hI nx ⊢
    obtain ⟨M, F⟩ := hI
    refine x_iload_n G dX5_adds_2 rfl ?_
    refine x_aload_n G dX5_adds_3 rfl ?_
    refine x_get G kX5 inX5 18 (by decide) (by decide +kernel) dX5_adds_4 (md_o M) rfl ?_
    refine x_icmp_ge G 29 dX5_adds_7 (by decide) (fun c_7 => ?_) (fun c_7 => ?_)
    · exact absurd c_7 (nI_ge hj (by omega))
    · refine x_aload_n G dX5_adds_10 rfl ?_
      refine x_get G kX5 inX5 20 (by decide) (by decide +kernel) dX5_adds_11 (md_o M) rfl ?_
      refine x_iload_n G dX5_adds_14 rfl ?_
      refine x_aload_n G dX5_adds_15 rfl ?_
      refine x_aload_n G dX5_adds_16 rfl ?_
      refine x_iload_n G dX5_adds_17 rfl ?_
      refine x_iload_n G dX5_adds_18 rfl ?_
      refine x_callV (n := 3) (rest := [.int (nI i), .ref (b + 13)]) (As := [.ref a, .int (nI q), .int (nI i)]) G (ci := 5) (c_sumOf (Post := fun r7 h7 sz7 => r7 = some (.long (r_dot 0 po1 q ro (6 * i) 6)) ∧ h1 = h7 ∧ sz1 = sz7) (i := i) l D (by omega) (by omega) (md_Pn ha) (md_p ha M) M ⟨rfl, rfl, rfl⟩) gX5_adds_X5_sumOf rfl ⟨rfl, by decide +kernel, by decide +kernel, by decide +kernel⟩ ⟨by decide, by decide⟩ rfl rfl (md_o M) dX5_adds_19 rfl rfl (Nat.le_of_ble_eq_true rfl) ⟨by decide, by decide⟩ ?_
      rintro _ _ _ ⟨rfl, rfl, rfl⟩
      try dsimp only [Option.toList, List.cons_append, List.nil_append]
      refine x_lastN G dX5_adds_22 (md_ov M) (by omega) (by decide) ?_
      rw [aK_s]
      have M := md_ov_s M (aK po1 q ro ov (i + 1))
      have F := xF_up (a := b + 13) (e := .inl (dA 1, 6, .inr (.inl (aK po1 q ro ov (i + 1))))) F (by omega) (by omega)
      refine x_iinc G dX5_adds_23 rfl (by decide) ?_
      refine x_locE (lv2 := [(0, .ref b), (1, .ref a), (2, .int (nI q)), (3, .int (nI (i + 1)))]) (by rw [nI_succ i]; rfl) ?_
      refine x_goto G 2 dX5_adds_26 (by decide) ?_
      exact nx () _ _ ⟨M, F⟩
  · intro _ h1 sz1 hI
    try dsimp only at hI ⊢
    obtain ⟨M, F⟩ := hI
    refine x_iload_n G dX5_adds_2 rfl ?_
    refine x_aload_n G dX5_adds_3 rfl ?_
    refine x_get G kX5 inX5 18 (by decide) (by decide +kernel) dX5_adds_4 (md_o M) rfl ?_
    refine x_icmp_ge G 29 dX5_adds_7 (by decide) (fun c_7 => ?_) (fun c_7 => ?_)
    · refine x_aload_n G dX5_adds_29 rfl ?_
      refine x_get G kX5 inX5 18 (by decide) (by decide +kernel) dX5_adds_30 (md_o M) rfl ?_
      refine x_if_le G 52 dX5_adds_33 (by decide) (fun c_33 => ?_) (fun c_33 => ?_)
      · have e0 : f = 0 := by
          rcases Nat.eq_zero_or_pos f with z | z
          · exact z
          · exact absurd c_33 (nI_nle z (by omega))
        rw [if_neg (by omega)] at haG
        cases haG
        refine x_iconstV (v := nI 0) G dX5_adds_52 (by decide) ?_
        exact J53 false _ _ _ _ _ _ _ _ (fun z => by cases z) (fun z => by cases z) hor hpost M F
      · have e0 : 0 < f := by
          rcases Nat.eq_zero_or_pos f with z | z
          · subst z
            exact absurd (by decide) c_33
          · exact z
        rw [if_pos e0] at haG
        refine x_aload_n G dX5_adds_36 rfl ?_
        refine x_iconstV (v := nI 0) G dX5_adds_37 (by decide) ?_
        refine x_aload_n G dX5_adds_38 rfl ?_
        refine x_get G kX5 inX5 18 (by decide) (by decide +kernel) dX5_adds_39 (md_o M) rfl ?_
        refine x_callV (n := 2) (rest := []) (As := [.int (nI 0), .int (nI f)]) G (ci := 5) (c_gathers (Post := fun r7 h7 sz7 => r7 = some (.int (x_b (one = true))) ∧ Md dA h7 b tx ln fa st de dm sd im se kp pl wr dp su wa fc po ro1 (nI f) ch ov1 ∧ xF b (b + 14) h1 h7) (f := 0) (n := f) (g := g) (res := one) (ro2 := ro1) (ov2 := ov1) l D (by omega) haG M (fun h7 sz7 q1 q2 => ⟨rfl, q1, q2⟩)) gX5_adds_X5_gathers rfl ⟨rfl, by decide +kernel, by decide +kernel, by decide +kernel⟩ ⟨by decide, by decide⟩ rfl rfl (md_o M) dX5_adds_42 rfl rfl (Nat.le_of_ble_eq_true rfl) ⟨by decide, by decide⟩ ?_
        rintro _ h1 sz1 ⟨rfl, M, F2⟩
        try dsimp only [Option.toList, List.cons_append, List.nil_append]
        replace F := xF_tr F F2
        refine x_if_eq G 52 dX5_adds_45 (by decide) (fun c_45 => ?_) (fun c_45 => ?_)
        · have e2 : one = false := by
            rcases Bool.eq_false_or_eq_true one with z | z
            · exact absurd z (x_b_0.mp c_45)
            · exact z
          subst e2
          refine x_iconstV (v := nI 0) G dX5_adds_52 (by decide) ?_
          exact J53 false _ _ _ _ _ _ _ _ (fun z => by cases z) (fun z => by cases z) hor hpost M F
        · have e2 := x_b_n.mp c_45
          subst e2
          refine x_iconstV (v := nI 1) G dX5_adds_48 (by decide) ?_
          refine x_goto G 53 dX5_adds_49 (by decide) ?_
          exact J53 true _ _ _ _ _ _ _ _ (fun _ => r_ga_ne haG) (fun _ => e0) hor hpost M F
    · exact absurd (nI_le (Nat.le_refl _) (by omega)) c_7
