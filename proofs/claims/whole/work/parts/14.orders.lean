theorem inX5_orders_5 : ∀ w ∈ wsX50, w ∈ wsX5_orders := by decide +kernel
theorem r_ga_ne : ∀ {g : Nat} {ro ov : Nat → Int64} {f n : Nat} {ro2 ov2 : Nat → Int64}, r_ga g ro ov f n = some (true, ro2, ov2) → ¬ ov2 f = 0
  | 0, _, _, _, _, _, _, q => by cases q
  | g + 1, ro, ov, f, n, ro2, ov2, q => by
    unfold r_ga at q
    cases hr : gl ov f n with
    | none => rw [hr] at q; cases q
    | some r =>
      rw [hr] at q
      dsimp only at q
      by_cases z : gm (sw_row ro f r 6) (gsw ov f r) f (n - 1) = true
      · rw [if_pos z] at q
        exact r_ga_ne q
      · rw [if_neg z] at q
        cases q
        rw [gtS_f, gsw_f]
        exact (gl_lt hr).2.2
/-- the numbers are those of a column, of the first n rows -/
def oK (ro ov : Nat → Int64) (j n : Nat) : Nat → Int64 := fun i => if i < n then ro (6 * i + j) else ov i
theorem oK_0 (ro ov : Nat → Int64) (j : Nat) : oK ro ov j 0 = ov := by
  funext i
  unfold oK
  rw [if_neg (by omega)]
theorem oK_s {ro ov : Nat → Int64} {j n : Nat} : vp_updL (oK ro ov j n) n (ro (6 * n + j)) = oK ro ov j (n + 1) := by
  funext i
  unfold vp_updL oK
  by_cases e : i = n
  · subst e
    rw [if_pos rfl, if_pos (show i < i + 1 by omega)]
  · rw [if_neg e]
    by_cases e2 : i < n
    · rw [if_pos e2, if_pos (show i < n + 1 by omega)]
    · rw [if_neg e2, if_neg (show ¬ i < n + 1 by omega)]
/-- rows ahead of row d are less it, so that their number is a rest -/
def oR (ro ov : Nat → Int64) (d : Nat) : Nat → (Nat → Int64) × (Nat → Int64)
  | 0 => (ro, ov)
  | i + 1 => (tk_row (oR ro ov d i).1 i d (r_floor ((oR ro ov d i).2 i) ((oR ro ov d i).2 d)) 6, vp_updL (oR ro ov d i).2 i ((oR ro ov d i).2 i - r_floor ((oR ro ov d i).2 i) ((oR ro ov d i).2 d) * (oR ro ov d i).2 d))
theorem oR_d {ro ov : Nat → Int64} {d : Nat} : ∀ {i : Nat}, i ≤ d → (oR ro ov d i).2 d = ov d
  | 0, _ => rfl
  | i + 1, q => by
    show vp_updL _ _ _ d = _
    rw [pk_uLn (by omega)]
    exact oR_d (by omega)
/-- the head is above 0 -/
def oN (ro ov : Nat → Int64) (d : Nat) : (Nat → Int64) × (Nat → Int64) := if ov d < 0 then (tk_row ro d d 2 6, vp_updL ov d (ov d - 2 * ov d)) else (ro, ov)
theorem oN_ne {ro ov : Nat → Int64} {d : Nat} (k : ¬ ov d = 0) : ¬ (oN ro ov d).2 d = 0 := by
  unfold oN
  by_cases z : ov d < 0
  · rw [if_pos z]
    show ¬ vp_updL _ _ _ d = 0
    rw [pk_uLs]
    intro q
    apply k
    have e : ov d = -(ov d - 2 * ov d) := by grind
    rw [e, q]
    rfl
  · rw [if_neg z]
    exact k
/-- the rows are put in order: k columns from j on, d rows are done -/
def oC (g f : Nat) : Nat → Nat → Nat → (Nat → Int64) → (Nat → Int64) → Option ((Nat → Int64) × (Nat → Int64))
  | 0, _, _, ro, ov => some (ro, ov)
  | k + 1, j, d, ro, ov => if d < f then match r_ga g ro (oK ro ov j f) d (f - d) with
      | none => none
      | some (false, ro1, ov1) => oC g f k (j + 1) d ro1 ov1
      | some (true, ro1, ov1) => oC g f k (j + 1) (d + 1) (oR (oN ro1 ov1 d).1 (oN ro1 ov1 d).2 d d).1 (oR (oN ro1 ov1 d).1 (oN ro1 ov1 d).2 d d).2
    else some (ro, ov)
/-- a row of the choice less a row so often, of its first j numbers -/
def ck_row (c ro : Nat → Int64) (i o : Nat) (t : Int64) (j : Nat) : Nat → Int64 := fun k => if 6 * i ≤ k ∧ k < 6 * i + j then c k - t * ro (6 * o + (k - 6 * i)) else c k
theorem ck_row_0 (c ro : Nat → Int64) (i o : Nat) (t : Int64) : ck_row c ro i o t 0 = c := by
  funext k
  unfold ck_row
  rw [if_neg (by omega)]
theorem ck_row_s {c ro : Nat → Int64} {i o : Nat} {t : Int64} {j : Nat} : vp_updL (ck_row c ro i o t j) (6 * i + j) (ck_row c ro i o t j (6 * i + j) - t * ro (6 * o + j)) = ck_row c ro i o t (j + 1) := by
  have e0 : ck_row c ro i o t j (6 * i + j) = c (6 * i + j) := by
    unfold ck_row
    rw [if_neg (by omega)]
  rw [e0]
  funext k
  unfold vp_updL
  by_cases e : k = 6 * i + j
  · subst e
    rw [if_pos rfl]
    unfold ck_row
    rw [if_pos (by omega), show 6 * o + (6 * i + j - 6 * i) = 6 * o + j by omega]
  · rw [if_neg e]
    unfold ck_row
    by_cases e2 : 6 * i ≤ k ∧ k < 6 * i + j
    · rw [if_pos e2, if_pos (by omega)]
    · rw [if_neg e2, if_neg (by omega)]
def oB (c ro : Nat → Int64) (i w : Nat) : Nat → (Nat → Int64)
  | 0 => c
  | q + 1 => ck_row (oB c ro i w q) ro q i (r_floor (oB c ro i w q (6 * q + w)) (ro (6 * i + w))) 6
def oF (c ro : Nat → Int64) : Nat → Option (Nat → Int64)
  | 0 => some c
  | i + 1 => match oF c ro i with
    | none => none
    | some c1 => if r_hd ro (6 * i) 0 6 < 6 then some (oB c1 ro i (r_hd ro (6 * i) 0 6) 4) else none
theorem oF_some {c ro : Nat → Int64} : ∀ {n i : Nat} {c2 : Nat → Int64}, i ≤ n → oF c ro n = some c2 → ∃ c1, oF c ro i = some c1
  | 0, i, c2, h, q => ⟨c2, by rw [show i = 0 by omega]; exact q⟩
  | n + 1, i, c2, h, q => by
    rcases Nat.lt_or_ge n i with z | z
    · exact ⟨c2, by rw [show i = n + 1 by omega]; exact q⟩
    · unfold oF at q
      cases hn : oF c ro n with
      | none => rw [hn] at q; cases q
      | some c1 => exact oF_some z hn
theorem r_hd_ne {r : Nat → Int64} {q : Nat} : ∀ {k j : Nat}, r_hd r q j k < j + k → ¬ r (q + r_hd r q j k) = 0
  | 0, j, h => by unfold r_hd at h; omega
  | k + 1, j, h => by
    unfold r_hd at h ⊢
    by_cases z : r (q + j) = 0
    · rw [if_pos z] at h ⊢
      exact r_hd_ne (by omega)
    · rw [if_neg z]
      exact z
/-- orders -/
def r_or (g f : Nat) (ro ov c : Nat → Int64) : Option ((Nat → Int64) × (Nat → Int64) × (Nat → Int64)) := match oC g f 6 0 0 ro ov with
  | none => none
  | some (ro1, ov1) => match oF c ro1 f with
    | none => none
    | some c1 => some (ro1, ov1, c1)
set_option maxRecDepth 100000 in
set_option maxHeartbeats 4000000 in
/-- orders -/
theorem c_orders (l : Launch) (D : va_G) {dA : Nat → ClassId} {b : Nat} {tx : Nat → Int32} {ln : Int32} {fa : Int32} {st : Nat → Int32} {de : Nat → Int32} {dm : Int32} {sd : Int64} {im : Nat → Int32} {se : Nat → Int64} {kp : Nat → Int32} {pl : Int32} {wr : Int32} {dp : Int32} {su : Nat → Int32} {wa : Nat → Int32} {fc : Nat → Int32} {po : Nat → Int32} {ro : Nat → Int64} {ch : Nat → Int64} {ov : Nat → Int64} {f g : Nat} {ro9 ov9 c9 : Nat → Int64} {h : xH} {sz : Nat} {Post : Option Value → xH → Nat → Prop} (hf : f ≤ 6) (hor : r_or g f ro ov ch = some (ro9, ov9, c9)) (M : Md dA h b tx ln fa st de dm sd im se kp pl wr dp su wa fc po ro (nI f) ch ov) (hpost : ∀ (h1 : xH) (sz1 : Nat), Md dA h1 b tx ln fa st de dm sd im se kp pl wr dp su wa fc po ro9 (nI f) c9 ov9 → xF b (b + 14) h h1 → Post none h1 sz1) : xMet l yX5_orders wsX5_orders 2 50 0 0 D dA [.ref b] h sz Post := by
  refine x_open (cc := cX5_orders) (maxL := 8) (ret := none) (by decide) rfl (Nat.le_of_ble_eq_true rfl) ?_
  intro p e s m args below meth c G _
  have inX5 : ∀ w ∈ wsX50, w ∈ wsX5_orders := inX5_orders_5
  have J : ∀ (d j : Nat) (ro1 ov1 c9 : Nat → Int64) (h1 : xH) (sz1 : Nat), oF ch ro1 f = some c9 → (∀ (h1 : xH) (sz1 : Nat), Md dA h1 b tx ln fa st de dm sd im se kp pl wr dp su wa fc po ro1 (nI f) c9 ov1 → xF b (b + 14) h h1 → Post none h1 sz1) → Md dA h1 b tx ln fa st de dm sd im se kp pl wr dp su wa fc po ro1 (nI f) ch ov1 → xF b (b + 14) h h1 → xV p l e (headSpec wsX5_orders { frames := 2, cells := 0, slots := 0, locals := 50 }).room s m args below meth c D dA 8 h sz 0 0 Post 0 0 128 [(0, .ref b), (1, .int (nI d)), (2, .int (nI j))] [] h1 sz1 := by
    intro d j ro1 ov1 c9 h1 sz1 hF hpost M F
    refine x_iconstV (v := nI 0) G dX5_orders_128 (by decide) ?_
    refine x_istore_n G dX5_orders_129 (by decide) ?_
    refine x_loop (σ := Unit) (fun i _ => [(0, .ref b), (1, .int (nI d)), (2, .int (nI i))]) f (fun i _ h1 sz1 => ∃ c1, oF ch ro1 i = some c1 ∧ Md dA h1 b tx ln fa st de dm sd im se kp pl wr dp su wa fc po ro1 (nI f) c1 ov1 ∧ xF b (b + 14) h h1) ?_ ?_ 0 () _ _ (Nat.zero_le _) ⟨ch, rfl, M, F⟩
    · intro i _ h1 sz1 hj hI nxi
      try dsimp only at hI nxi ⊢
      obtain ⟨c1, hc1, M, F⟩ := hI
      refine x_iload_n G dX5_orders_130 rfl ?_
      refine x_aload_n G dX5_orders_131 rfl ?_
      refine x_get G kX5 inX5 18 (by decide) (by decide +kernel) dX5_orders_132 (md_o M) rfl ?_
      refine x_icmp_ge G 240 dX5_orders_135 (by decide) (fun c_135 => ?_) (fun c_135 => ?_)
      · exact absurd c_135 (nI_ge hj (by omega))
      · refine x_aload_n G dX5_orders_138 rfl ?_
        refine x_iload_n G dX5_orders_139 rfl ?_
        refine x_callV (n := 1) (rest := []) (As := [.int (nI i)]) G (ci := 5) (c_headOf (Post := fun r7 h7 sz7 => r7 = some (.int (nI (r_hd ro1 (6 * i) 0 6))) ∧ h1 = h7 ∧ sz1 = sz7) l D (by omega) M ⟨rfl, rfl, rfl⟩) gX5_orders_X5_headOf rfl ⟨rfl, by decide +kernel, by decide +kernel, by decide +kernel⟩ ⟨by decide, by decide⟩ rfl rfl (md_o M) dX5_orders_140 rfl rfl (Nat.le_of_ble_eq_true rfl) ⟨by decide, by decide⟩ ?_
        rintro _ _ _ ⟨rfl, rfl, rfl⟩
        try dsimp only [Option.toList, List.cons_append, List.nil_append]
        refine x_istore_n G dX5_orders_143 (by decide) ?_
        refine x_iconstV (v := nI 0) G dX5_orders_144 (by decide) ?_
        refine x_istore G dX5_orders_145 (by decide) ?_
        obtain ⟨w, hw⟩ : ∃ w, w = r_hd ro1 (6 * i) 0 6 := ⟨_, rfl⟩
        obtain ⟨c9, hc9⟩ := oF_some (i := i + 1) (by omega) hF
        have hoF := hc9
        unfold oF at hc9
        rw [hc1] at hc9
        dsimp only at hc9
        rw [← hw] at hc9 ⊢
        have hw6 : w < 6 := by
          rcases Nat.lt_or_ge w 6 with z | z
          · exact z
          · rw [if_neg (by omega)] at hc9
            cases hc9
        rw [if_pos hw6] at hc9
        have hne : ¬ ro1 (6 * i + w) = 0 := by
          rw [hw]
          exact r_hd_ne (by rw [← hw]; omega)
        have e9 : oB c1 ro1 i w 4 = c9 := Option.some.inj hc9
        rw [← e9] at hoF
        refine x_loop (σ := Unit) (fun q _ => [(0, .ref b), (1, .int (nI d)), (2, .int (nI i)), (3, .int (nI w)), (4, .int (nI q))]) 4 (fun q _ h1 sz1 => Md dA h1 b tx ln fa st de dm sd im se kp pl wr dp su wa fc po ro1 (nI f) (oB c1 ro1 i w q) ov1 ∧ xF b (b + 14) h h1) ?_ ?_ 0 () _ _ (Nat.zero_le _) ⟨M, F⟩
        · intro q _ h1 sz1 hj hI nxq
          try dsimp only at hI nxq ⊢
          obtain ⟨M, F⟩ := hI
          refine x_iload G dX5_orders_147 rfl ?_
          refine x_iconstV (v := nI 4) G dX5_orders_149 (by decide) ?_
          refine x_icmp_ge G 234 dX5_orders_150 (by decide) (fun c_150 => ?_) (fun c_150 => ?_)
          · exact absurd c_150 (nI_ge hj (by omega))
          · refine x_aload_n G dX5_orders_153 rfl ?_
            refine x_get G kX5 inX5 19 (by decide) (by decide +kernel) dX5_orders_154 (md_o M) rfl ?_
            refine x_bipushV (v := nI 6) G dX5_orders_157 (by decide) ?_
            refine x_iload G dX5_orders_159 rfl ?_
            refine x_imul G dX5_orders_161 ?_
            refine x_iload_n G dX5_orders_162 rfl ?_
            refine x_iadd G dX5_orders_163 ?_
            refine x_topE (y := nI (6 * q + w)) (by rw [pk_mul, nI_add]) ?_
            refine x_laldN G dX5_orders_164 (md_ch M) (by omega) (by decide) ?_
            refine x_aload_n G dX5_orders_165 rfl ?_
            refine x_get G kX5 inX5 17 (by decide) (by decide +kernel) dX5_orders_166 (md_o M) rfl ?_
            refine x_bipushV (v := nI 6) G dX5_orders_169 (by decide) ?_
            refine x_iload_n G dX5_orders_171 rfl ?_
            refine x_imul G dX5_orders_172 ?_
            refine x_iload_n G dX5_orders_173 rfl ?_
            refine x_iadd G dX5_orders_174 ?_
            refine x_topE (y := nI (6 * i + w)) (by rw [pk_mul, nI_add]) ?_
            refine x_laldN G dX5_orders_175 (md_ro M) (by omega) (by decide) ?_
            refine x_callS (n := 2) (rest := []) (As := [.long (oB c1 ro1 i w q (6 * q + w)), .long (ro1 (6 * i + w))]) G (c_floor (Post := fun r7 h7 sz7 => r7 = some (.long (r_floor (oB c1 ro1 i w q (6 * q + w)) (ro1 (6 * i + w)))) ∧ h1 = h7 ∧ sz1 = sz7) l D (by exact hne) ⟨rfl, rfl, rfl⟩) gX5_orders_X5_floor rfl ⟨by decide +kernel, by decide +kernel, by decide +kernel⟩ ⟨by decide, by decide⟩ dX5_orders_176 rfl rfl (Nat.le_of_ble_eq_true rfl) ⟨by decide, by decide⟩ ?_
            rintro _ _ _ ⟨rfl, rfl, rfl⟩
            try dsimp only [Option.toList, List.cons_append, List.nil_append]
            refine x_lstore G dX5_orders_179 (by decide) ?_
            refine x_iconstV (v := nI 0) G dX5_orders_181 (by decide) ?_
            refine x_istore G dX5_orders_182 (by decide) ?_
            obtain ⟨t, ht⟩ : ∃ t, t = r_floor (oB c1 ro1 i w q (6 * q + w)) (ro1 (6 * i + w)) := ⟨_, rfl⟩
            obtain ⟨c2, hc2⟩ : ∃ c2, c2 = oB c1 ro1 i w q := ⟨_, rfl⟩
            rw [← ht]
            rw [show oB c1 ro1 i w (q + 1) = ck_row c2 ro1 q i t 6 by rw [hc2, ht]; rfl] at nxq
            rw [← hc2] at M
            refine x_loop (σ := Unit) (fun j _ => [(0, .ref b), (1, .int (nI d)), (2, .int (nI i)), (3, .int (nI w)), (4, .int (nI q)), (5, .long t), (7, .int (nI j))]) 6 (fun j _ h1 sz1 => Md dA h1 b tx ln fa st de dm sd im se kp pl wr dp su wa fc po ro1 (nI f) (ck_row c2 ro1 q i t j) ov1 ∧ xF b (b + 14) h h1) ?_ ?_ 0 () _ _ (Nat.zero_le _) ⟨by rw [ck_row_0]; exact M, F⟩
            · intro j _ h1 sz1 hj hI nx
              try dsimp only at hI nx ⊢
              obtain ⟨M, F⟩ := hI
              refine x_iload G dX5_orders_184 rfl ?_
              refine x_bipushV (v := nI 6) G dX5_orders_186 (by decide) ?_
              refine x_icmp_ge G 228 dX5_orders_188 (by decide) (fun c_188 => ?_) (fun c_188 => ?_)
              · exact absurd c_188 (nI_ge hj (by omega))
              · refine x_aload_n G dX5_orders_191 rfl ?_
                refine x_get G kX5 inX5 19 (by decide) (by decide +kernel) dX5_orders_192 (md_o M) rfl ?_
                refine x_bipushV (v := nI 6) G dX5_orders_195 (by decide) ?_
                refine x_iload G dX5_orders_197 rfl ?_
                refine x_imul G dX5_orders_199 ?_
                refine x_iload G dX5_orders_200 rfl ?_
                refine x_iadd G dX5_orders_202 ?_
                refine x_topE (y := nI (6 * q + j)) (by rw [pk_mul, nI_add]) ?_
                refine x_dup2 G dX5_orders_203 rfl rfl ?_
                refine x_laldN G dX5_orders_204 (md_ch M) (by omega) (by decide) ?_
                refine x_lload G dX5_orders_205 rfl ?_
                refine x_aload_n G dX5_orders_207 rfl ?_
                refine x_get G kX5 inX5 17 (by decide) (by decide +kernel) dX5_orders_208 (md_o M) rfl ?_
                refine x_bipushV (v := nI 6) G dX5_orders_211 (by decide) ?_
                refine x_iload_n G dX5_orders_213 rfl ?_
                refine x_imul G dX5_orders_214 ?_
                refine x_iload G dX5_orders_215 rfl ?_
                refine x_iadd G dX5_orders_217 ?_
                refine x_topE (y := nI (6 * i + j)) (by rw [pk_mul, nI_add]) ?_
                refine x_laldN G dX5_orders_218 (md_ro M) (by omega) (by decide) ?_
                refine x_lmul G dX5_orders_219 ?_
                refine x_lsub G dX5_orders_220 ?_
                refine x_lastN G dX5_orders_221 (md_ch M) (by omega) (by decide) ?_
                rw [ck_row_s]
                have M := md_ch_s M (ck_row c2 ro1 q i t (j + 1))
                have F := xF_up (a := b + 12) (e := .inl (dA 1, 24, .inr (.inl (ck_row c2 ro1 q i t (j + 1))))) F (by omega) (by omega)
                refine x_iinc G dX5_orders_222 rfl (by decide) ?_
                refine x_locE (lv2 := [(0, .ref b), (1, .int (nI d)), (2, .int (nI i)), (3, .int (nI w)), (4, .int (nI q)), (5, .long t), (7, .int (nI (j + 1)))]) (by rw [nI_succ j]; rfl) ?_
                refine x_goto G 184 dX5_orders_225 (by decide) ?_
                exact nx () _ _ ⟨M, F⟩
            · intro _ h1 sz1 hI
              try dsimp only at hI ⊢
              obtain ⟨M, F⟩ := hI
              refine x_iload G dX5_orders_184 rfl ?_
              refine x_bipushV (v := nI 6) G dX5_orders_186 (by decide) ?_
              refine x_icmp_ge G 228 dX5_orders_188 (by decide) (fun c_188 => ?_) (fun c_188 => ?_)
              · refine x_iinc G dX5_orders_228 rfl (by decide) ?_
                refine x_goto G 147 dX5_orders_231 (by decide) ?_
                refine x_keep [0, 1, 2, 3, 4] ?_
                refine x_locE (lv2 := [(0, .ref b), (1, .int (nI d)), (2, .int (nI i)), (3, .int (nI w)), (4, .int (nI (q + 1)))]) (by rw [nI_succ q]; rfl) ?_
                exact nxq () _ _ ⟨M, F⟩
              · exact absurd (nI_le (Nat.le_refl _) (by omega)) c_188
        · intro _ h1 sz1 hI
          try dsimp only at hI ⊢
          obtain ⟨M, F⟩ := hI
          refine x_iload G dX5_orders_147 rfl ?_
          refine x_iconstV (v := nI 4) G dX5_orders_149 (by decide) ?_
          refine x_icmp_ge G 234 dX5_orders_150 (by decide) (fun c_150 => ?_) (fun c_150 => ?_)
          · refine x_iinc G dX5_orders_234 rfl (by decide) ?_
            refine x_goto G 130 dX5_orders_237 (by decide) ?_
            refine x_keep [0, 1, 2] ?_
            refine x_locE (lv2 := [(0, .ref b), (1, .int (nI d)), (2, .int (nI (i + 1)))]) (by rw [nI_succ i]; rfl) ?_
            exact nxi () _ _ ⟨_, hoF, M, F⟩
          · exact absurd (nI_le (Nat.le_refl _) (by omega)) c_150
    · intro _ h1 sz1 hI
      try dsimp only at hI ⊢
      obtain ⟨c1, hc1, M, F⟩ := hI
      refine x_iload_n G dX5_orders_130 rfl ?_
      refine x_aload_n G dX5_orders_131 rfl ?_
      refine x_get G kX5 inX5 18 (by decide) (by decide +kernel) dX5_orders_132 (md_o M) rfl ?_
      refine x_icmp_ge G 240 dX5_orders_135 (by decide) (fun c_135 => ?_) (fun c_135 => ?_)
      · exact x_vret G dX5_orders_240 (hpost _ _ (by rw [hF] at hc1; cases hc1; exact M) F)
      · exact absurd (nI_le (Nat.le_refl _) (by omega)) c_135
  refine x_iconstV (v := nI 0) G dX5_orders_0 (by decide) ?_
  refine x_istore_n G dX5_orders_1 (by decide) ?_
  refine x_iconstV (v := nI 0) G dX5_orders_2 (by decide) ?_
  refine x_istore_n G dX5_orders_3 (by decide) ?_
  unfold r_or at hor
  cases hoC0 : oC g f 6 0 0 ro ov with
  | none => rw [hoC0] at hor; cases hor
  | some w =>
  obtain ⟨roA, ovA⟩ := w
  rw [hoC0] at hor
  dsimp only at hor
  cases hF : oF ch roA f with
  | none => rw [hF] at hor; cases hor
  | some cA =>
  rw [hF] at hor
  cases hor
  refine x_while (σ := Nat × Nat × Nat × (Nat → Int64) × (Nat → Int64)) (fun u => [(0, .ref b), (1, .int (nI u.2.2.1)), (2, .int (nI u.2.1))]) [] (fun u h1 sz1 => u.2.1 + u.1 = 6 ∧ u.2.2.1 ≤ f ∧ oC g f u.1 u.2.1 u.2.2.1 u.2.2.2.1 u.2.2.2.2 = some (ro9, ov9) ∧ Md dA h1 b tx ln fa st de dm sd im se kp pl wr dp su wa fc po u.2.2.2.1 (nI f) ch u.2.2.2.2 ∧ xF b (b + 14) h h1) (fun u => u.1) ?_ (6, 0, 0, ro, ov) h sz ⟨rfl, Nat.zero_le _, hoC0, M, xF_rf⟩
  intro u h1 sz1 hI nx0
  obtain ⟨k0, j, d, ro1, ov1⟩ := u
  obtain ⟨hjk, hdf0, hoC, M, F⟩ := hI
  dsimp only at hjk hdf0 hoC M nx0 ⊢
  refine x_iload_n G dX5_orders_4 rfl ?_
  refine x_bipushV (v := nI 6) G dX5_orders_5 (by decide) ?_
  refine x_icmp_ge G 128 dX5_orders_7 (by decide) (fun c_7 => ?_) (fun c_7 => ?_)
  · have e : j = 6 := by
      rcases Nat.lt_or_ge j 6 with z | z
      · exact absurd c_7 (nI_ge z (by decide))
      · omega
    have ek : k0 = 0 := by omega
    subst ek
    cases hoC
    exact J d j _ _ c9 _ _ hF hpost M F
  · have hj6 : j < 6 := by
      rcases Nat.lt_or_ge j 6 with z | z
      · exact z
      · exact absurd (nI_le z (by omega)) c_7
    obtain ⟨k, rfl⟩ : ∃ k, k0 = k + 1 := ⟨k0 - 1, by omega⟩
    refine x_iload_n G dX5_orders_10 rfl ?_
    refine x_aload_n G dX5_orders_11 rfl ?_
    refine x_get G kX5 inX5 18 (by decide) (by decide +kernel) dX5_orders_12 (md_o M) rfl ?_
    refine x_icmp_ge G 128 dX5_orders_15 (by decide) (fun c_15 => ?_) (fun c_15 => ?_)
    · have e : ¬ d < f := fun z => absurd c_15 (nI_ge z (by omega))
      unfold oC at hoC
      rw [if_neg e] at hoC
      cases hoC
      exact J d j _ _ c9 _ _ hF hpost M F
    · have hdf : d < f := by
        rcases Nat.lt_or_ge d f with z | z
        · exact z
        · exact absurd (nI_le z (by omega)) c_15
      unfold oC at hoC
      rw [if_pos hdf] at hoC
      cases hga : r_ga g ro1 (oK ro1 ov1 j f) d (f - d) with
      | none => rw [hga] at hoC; cases hoC
      | some w =>
        obtain ⟨res, ro2, ov2⟩ := w
        rw [hga] at hoC
        refine x_iconstV (v := nI 0) G dX5_orders_18 (by decide) ?_
        refine x_istore_n G dX5_orders_19 (by decide) ?_
        refine x_loop (σ := Unit) (fun i _ => [(0, .ref b), (1, .int (nI d)), (2, .int (nI j)), (3, .int (nI i))]) f (fun i _ h1 sz1 => Md dA h1 b tx ln fa st de dm sd im se kp pl wr dp su wa fc po ro1 (nI f) ch (oK ro1 ov1 j i) ∧ xF b (b + 14) h h1) ?_ ?_ 0 () _ _ (Nat.zero_le _) ⟨by rw [oK_0]; exact M, F⟩
        · intro i _ h1 sz1 hj hI nx
          try dsimp only at hI nx ⊢
          obtain ⟨M, F⟩ := hI
          refine x_iload_n G dX5_orders_20 rfl ?_
          refine x_aload_n G dX5_orders_21 rfl ?_
          refine x_get G kX5 inX5 18 (by decide) (by decide +kernel) dX5_orders_22 (md_o M) rfl ?_
          refine x_icmp_ge G 51 dX5_orders_25 (by decide) (fun c_25 => ?_) (fun c_25 => ?_)
          · exact absurd c_25 (nI_ge hj (by omega))
          · refine x_aload_n G dX5_orders_28 rfl ?_
            refine x_get G kX5 inX5 20 (by decide) (by decide +kernel) dX5_orders_29 (md_o M) rfl ?_
            refine x_iload_n G dX5_orders_32 rfl ?_
            refine x_aload_n G dX5_orders_33 rfl ?_
            refine x_get G kX5 inX5 17 (by decide) (by decide +kernel) dX5_orders_34 (md_o M) rfl ?_
            refine x_bipushV (v := nI 6) G dX5_orders_37 (by decide) ?_
            refine x_iload_n G dX5_orders_39 rfl ?_
            refine x_imul G dX5_orders_40 ?_
            refine x_iload_n G dX5_orders_41 rfl ?_
            refine x_iadd G dX5_orders_42 ?_
            refine x_topE (y := nI (6 * i + j)) (by rw [pk_mul, nI_add]) ?_
            refine x_laldN G dX5_orders_43 (md_ro M) (by omega) (by decide) ?_
            refine x_lastN G dX5_orders_44 (md_ov M) (by omega) (by decide) ?_
            rw [oK_s]
            have M := md_ov_s M (oK ro1 ov1 j (i + 1))
            have F := xF_up (a := b + 13) (e := .inl (dA 1, 6, .inr (.inl (oK ro1 ov1 j (i + 1))))) F (by omega) (by omega)
            refine x_iinc G dX5_orders_45 rfl (by decide) ?_
            refine x_locE (lv2 := [(0, .ref b), (1, .int (nI d)), (2, .int (nI j)), (3, .int (nI (i + 1)))]) (by rw [nI_succ i]; rfl) ?_
            refine x_goto G 20 dX5_orders_48 (by decide) ?_
            exact nx () _ _ ⟨M, F⟩
        · intro _ h1 sz1 hI
          try dsimp only at hI ⊢
          obtain ⟨M, F⟩ := hI
          refine x_iload_n G dX5_orders_20 rfl ?_
          refine x_aload_n G dX5_orders_21 rfl ?_
          refine x_get G kX5 inX5 18 (by decide) (by decide +kernel) dX5_orders_22 (md_o M) rfl ?_
          refine x_icmp_ge G 51 dX5_orders_25 (by decide) (fun c_25 => ?_) (fun c_25 => ?_)
          · refine x_aload_n G dX5_orders_51 rfl ?_
            refine x_iload_n G dX5_orders_52 rfl ?_
            refine x_aload_n G dX5_orders_53 rfl ?_
            refine x_get G kX5 inX5 18 (by decide) (by decide +kernel) dX5_orders_54 (md_o M) rfl ?_
            refine x_iload_n G dX5_orders_57 rfl ?_
            refine x_isub G dX5_orders_58 ?_
            refine x_topE (y := nI (f - d)) (pk_sub (by omega)) ?_
            refine x_callV (n := 2) (rest := []) (As := [.int (nI d), .int (nI (f - d))]) G (ci := 5) (c_gathers (Post := fun r7 h7 sz7 => r7 = some (.int (x_b (res = true))) ∧ Md dA h7 b tx ln fa st de dm sd im se kp pl wr dp su wa fc po ro2 (nI f) ch ov2 ∧ xF b (b + 14) h1 h7) (f := d) (n := f - d) (g := g) (res := res) (ro2 := ro2) (ov2 := ov2) l D (by omega) hga M (fun h7 sz7 q1 q2 => ⟨rfl, q1, q2⟩)) gX5_orders_X5_gathers rfl ⟨rfl, by decide +kernel, by decide +kernel, by decide +kernel⟩ ⟨by decide, by decide⟩ rfl rfl (md_o M) dX5_orders_59 rfl rfl (Nat.le_of_ble_eq_true rfl) ⟨by decide, by decide⟩ ?_
            rintro _ h1 sz1 ⟨rfl, M, F2⟩
            try dsimp only [Option.toList, List.cons_append, List.nil_append]
            replace F := xF_tr F F2
            refine x_if_eq G 122 dX5_orders_62 (by decide) (fun c_62 => ?_) (fun c_62 => ?_)
            · cases res with
              | true => exact absurd c_62 (by decide)
              | false =>
                refine x_iinc G dX5_orders_122 rfl (by decide) ?_
                refine x_goto G 4 dX5_orders_125 (by decide) ?_
                refine x_keep [0, 1, 2] ?_
                refine x_locE (lv2 := [(0, .ref b), (1, .int (nI d)), (2, .int (nI (j + 1)))]) (by rw [nI_succ j]; rfl) ?_
                exact nx0 (k, j + 1, d, ro2, ov2) _ _ ⟨by dsimp only; omega, by dsimp only; omega, hoC, M, F⟩ (by dsimp only; omega)
            · cases res with
              | false => exact absurd (by decide) c_62
              | true =>
                have hne := r_ga_ne hga
                dsimp only at hoC
                have hne2 := oN_ne (ro := ro2) hne
                have J2 : ∀ (ro3 ov3 : Nat → Int64) (h1 : xH) (sz1 : Nat), ¬ ov3 d = 0 → oC g f k (j + 1) (d + 1) (oR ro3 ov3 d d).1 (oR ro3 ov3 d d).2 = some (ro9, ov9) → Md dA h1 b tx ln fa st de dm sd im se kp pl wr dp su wa fc po ro3 (nI f) ch ov3 → xF b (b + 14) h h1 → xV p l e (headSpec wsX5_orders { frames := 2, cells := 0, slots := 0, locals := 50 }).room s m args below meth c D dA 8 h sz 0 0 Post 0 0 85 [(0, .ref b), (1, .int (nI d)), (2, .int (nI j)), (3, .int (nI f))] [] h1 sz1 := by
                  intro ro3 ov3 h1 sz1 hne3 hoC M F
                  refine x_iconstV (v := nI 0) G dX5_orders_85 (by decide) ?_
                  refine x_istore_n G dX5_orders_86 (by decide) ?_
                  refine x_loop (σ := Unit) (fun i _ => [(0, .ref b), (1, .int (nI d)), (2, .int (nI j)), (3, .int (nI i))]) d (fun i _ h1 sz1 => Md dA h1 b tx ln fa st de dm sd im se kp pl wr dp su wa fc po ((oR ro3 ov3 d i).1) (nI f) ch ((oR ro3 ov3 d i).2) ∧ xF b (b + 14) h h1) ?_ ?_ 0 () _ _ (Nat.zero_le _) ⟨M, F⟩
                  · intro i _ h1 sz1 hj hI nx
                    try dsimp only at hI nx ⊢
                    obtain ⟨M, F⟩ := hI
                    refine x_iload_n G dX5_orders_87 rfl ?_
                    refine x_iload_n G dX5_orders_88 rfl ?_
                    refine x_icmp_ge G 119 dX5_orders_89 (by decide) (fun c_89 => ?_) (fun c_89 => ?_)
                    · exact absurd c_89 (nI_ge hj (by omega))
                    · refine x_aload_n G dX5_orders_92 rfl ?_
                      refine x_iload_n G dX5_orders_93 rfl ?_
                      refine x_iload_n G dX5_orders_94 rfl ?_
                      refine x_aload_n G dX5_orders_95 rfl ?_
                      refine x_get G kX5 inX5 20 (by decide) (by decide +kernel) dX5_orders_96 (md_o M) rfl ?_
                      refine x_iload_n G dX5_orders_99 rfl ?_
                      refine x_laldN G dX5_orders_100 (md_ov M) (by omega) (by decide) ?_
                      refine x_aload_n G dX5_orders_101 rfl ?_
                      refine x_get G kX5 inX5 20 (by decide) (by decide +kernel) dX5_orders_102 (md_o M) rfl ?_
                      refine x_iload_n G dX5_orders_105 rfl ?_
                      refine x_laldN G dX5_orders_106 (md_ov M) (by omega) (by decide) ?_
                      refine x_callS (n := 2) (rest := [.int (nI d), .int (nI i), .ref b]) (As := [.long ((oR ro3 ov3 d i).2 i), .long ((oR ro3 ov3 d i).2 d)]) G (c_floor (Post := fun r7 h7 sz7 => r7 = some (.long (r_floor ((oR ro3 ov3 d i).2 i) ((oR ro3 ov3 d i).2 d))) ∧ h1 = h7 ∧ sz1 = sz7) l D (by rw [oR_d (by omega)]; exact hne3) ⟨rfl, rfl, rfl⟩) gX5_orders_X5_floor rfl ⟨by decide +kernel, by decide +kernel, by decide +kernel⟩ ⟨by decide, by decide⟩ dX5_orders_107 rfl rfl (Nat.le_of_ble_eq_true rfl) ⟨by decide, by decide⟩ ?_
                      rintro _ _ _ ⟨rfl, rfl, rfl⟩
                      try dsimp only [Option.toList, List.cons_append, List.nil_append]
                      refine x_callV (n := 3) (rest := []) (As := [.int (nI i), .int (nI d), .long (r_floor ((oR ro3 ov3 d i).2 i) ((oR ro3 ov3 d i).2 d))]) G (ci := 5) (c_takes (Post := fun r7 h7 sz7 => r7 = none ∧ Md dA h7 b tx ln fa st de dm sd im se kp pl wr dp su wa fc po ((oR ro3 ov3 d (i + 1)).1) (nI f) ch ((oR ro3 ov3 d (i + 1)).2) ∧ xF b (b + 14) h1 h7) (i := i) (o := d) (t := r_floor ((oR ro3 ov3 d i).2 i) ((oR ro3 ov3 d i).2 d)) l D (by omega) (by omega) M (fun h7 sz7 q1 q2 => ⟨rfl, q1, q2⟩)) gX5_orders_X5_takes rfl ⟨rfl, by decide +kernel, by decide +kernel, by decide +kernel⟩ ⟨by decide, by decide⟩ rfl rfl (md_o M) dX5_orders_110 rfl rfl (Nat.le_of_ble_eq_true rfl) ⟨by decide, by decide⟩ ?_
                      rintro _ h2 sz2 ⟨rfl, q1, q2⟩
                      try dsimp only [Option.toList, List.cons_append, List.nil_append]
                      have M := q1
                      have F := xF_tr F q2
                      refine x_iinc G dX5_orders_113 rfl (by decide) ?_
                      refine x_locE (lv2 := [(0, .ref b), (1, .int (nI d)), (2, .int (nI j)), (3, .int (nI (i + 1)))]) (by rw [nI_succ i]; rfl) ?_
                      refine x_goto G 87 dX5_orders_116 (by decide) ?_
                      exact nx () _ _ ⟨M, F⟩
                  · intro _ h1 sz1 hI
                    try dsimp only at hI ⊢
                    obtain ⟨M, F⟩ := hI
                    refine x_iload_n G dX5_orders_87 rfl ?_
                    refine x_iload_n G dX5_orders_88 rfl ?_
                    refine x_icmp_ge G 119 dX5_orders_89 (by decide) (fun c_89 => ?_) (fun c_89 => ?_)
                    · refine x_iinc G dX5_orders_119 rfl (by decide) ?_
                      refine x_iinc G dX5_orders_122 rfl (by decide) ?_
                      refine x_goto G 4 dX5_orders_125 (by decide) ?_
                      refine x_keep [0, 1, 2] ?_
                      refine x_locE (lv2 := [(0, .ref b), (1, .int (nI (d + 1))), (2, .int (nI (j + 1)))]) (by rw [nI_succ j, nI_succ d]; rfl) ?_
                      exact nx0 (k, j + 1, d + 1, (oR ro3 ov3 d d).1, (oR ro3 ov3 d d).2) _ _ ⟨by dsimp only; omega, by dsimp only; omega, hoC, M, F⟩ (by dsimp only; omega)
                    · exact absurd (nI_le (Nat.le_refl _) (by omega)) c_89
                refine x_aload_n G dX5_orders_65 rfl ?_
                refine x_get G kX5 inX5 20 (by decide) (by decide +kernel) dX5_orders_66 (md_o M) rfl ?_
                refine x_iload_n G dX5_orders_69 rfl ?_
                refine x_laldN G dX5_orders_70 (md_ov M) (by omega) (by decide) ?_
                refine x_lconstV (v := 0) G dX5_orders_71 (by decide) ?_
                refine x_lcmp G dX5_orders_72 ?_
                refine x_if_ge G 85 dX5_orders_73 (by decide) (fun c_73 => ?_) (fun c_73 => ?_)
                · have e : oN ro2 ov2 d = (ro2, ov2) := if_neg (Int64.not_lt.mpr ((x_lgge _ _).mp c_73))
                  rw [e] at hoC hne2
                  exact J2 _ _ _ _ hne2 hoC M F
                · have e : oN ro2 ov2 d = (tk_row ro2 d d 2 6, vp_updL ov2 d (ov2 d - 2 * ov2 d)) := if_pos (Int64.not_le.mp (fun q => c_73 ((x_lgge _ _).mpr q)))
                  rw [e] at hoC hne2
                  refine x_aload_n G dX5_orders_76 rfl ?_
                  refine x_iload_n G dX5_orders_77 rfl ?_
                  refine x_iload_n G dX5_orders_78 rfl ?_
                  refine x_ldc2_w G (2) (by decide +kernel) dX5_orders_79 ?_
                  refine x_callV (n := 3) (rest := []) (As := [.int (nI d), .int (nI d), .long 2]) G (ci := 5) (c_takes (Post := fun r7 h7 sz7 => r7 = none ∧ Md dA h7 b tx ln fa st de dm sd im se kp pl wr dp su wa fc po (tk_row ro2 d d 2 6) (nI f) ch (vp_updL ov2 d (ov2 d - 2 * ov2 d)) ∧ xF b (b + 14) h1 h7) (i := d) (o := d) (t := 2) l D (by omega) (by omega) M (fun h7 sz7 q1 q2 => ⟨rfl, q1, q2⟩)) gX5_orders_X5_takes rfl ⟨rfl, by decide +kernel, by decide +kernel, by decide +kernel⟩ ⟨by decide, by decide⟩ rfl rfl (md_o M) dX5_orders_82 rfl rfl (Nat.le_of_ble_eq_true rfl) ⟨by decide, by decide⟩ ?_
                  rintro _ h2 sz2 ⟨rfl, q1, q2⟩
                  try dsimp only [Option.toList, List.cons_append, List.nil_append]
                  have M := q1
                  have F := xF_tr F q2
                  exact J2 _ _ _ _ hne2 hoC M F
          · exact absurd (nI_le (Nat.le_refl _) (by omega)) c_25
