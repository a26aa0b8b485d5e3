theorem inX5_converted_5 : ∀ w ∈ wsX50, w ∈ wsX5_converted := by decide +kernel
/-- u, times x, n times -/
def cv_m (x u : Int64) : Nat → Int64
  | 0 => u
  | n + 1 => cv_m x u n * x
def cv_a (q : Int32) : Nat := q.toInt.toNat
def cv_b (q : Int32) : Nat := (-q.toInt).toNat
def cv_k (k : Nat) (q : Int32) : Bool := if k < 6 then decide (q = 0) else decide ((-3) ≤ q ∧ q ≤ nI 3)
/-- above and below, when k powers are taken; none where a power does not fit -/
def cv (st po : Nat → Int32) (u d : Int64) : Nat → Option (Int64 × Int64)
  | 0 => some (u, d)
  | k + 1 => match cv st po u d k with
    | none => none
    | some y => if cv_k k (po k) = true then some (cv_m (st (59 + k)).toInt64 (cv_m (st (55 + k)).toInt64 y.1 (cv_a (po k))) (cv_b (po k)), cv_m (st (55 + k)).toInt64 (cv_m (st (59 + k)).toInt64 y.2 (cv_a (po k))) (cv_b (po k))) else none
theorem cv_n {st po : Nat → Int32} {u d : Int64} : ∀ {n k : Nat}, k ≤ n → cv st po u d k = none → cv st po u d n = none
  | 0, k, h, z => by rw [show k = 0 by omega] at z; exact z
  | n + 1, k, h, z => by
    rcases Nat.lt_or_ge n k with y | y
    · rw [show n + 1 = k by omega]; exact z
    · have e := cv_n y z
      unfold cv
      rw [e]
theorem cv_s {st po : Nat → Int32} {u d : Int64} {k : Nat} {y : Int64 × Int64} (h : cv st po u d k = some y) (z : cv_k k (po k) = true) : cv st po u d (k + 1) = some (cv_m (st (59 + k)).toInt64 (cv_m (st (55 + k)).toInt64 y.1 (cv_a (po k))) (cv_b (po k)), cv_m (st (55 + k)).toInt64 (cv_m (st (59 + k)).toInt64 y.2 (cv_a (po k))) (cv_b (po k))) := by
  unfold cv
  rw [h]
  dsimp only
  rw [if_pos z]
theorem cv_f {st po : Nat → Int32} {u d : Int64} {k : Nat} {y : Int64 × Int64} (hk : k < 10) (h : cv st po u d k = some y) (z : ¬ cv_k k (po k) = true) : cv st po u d 10 = none := by
  refine cv_n (k := k + 1) (by omega) ?_
  unfold cv
  rw [h]
  dsimp only
  rw [if_neg z]
theorem cv_l {q : Int32} (h : (-3) ≤ q ∧ q ≤ nI 3) : cv_a q ≤ 3 ∧ cv_b q ≤ 3 ∧ (∀ j, j < cv_a q → ¬ q ≤ nI j) ∧ q ≤ nI (cv_a q) ∧ (∀ j, j < cv_b q → ¬ -q ≤ nI j) ∧ -q ≤ nI (cv_b q) := by
  have h1 := Int32.le_iff_toInt_le.mp h.1
  have h2 := Int32.le_iff_toInt_le.mp h.2
  have h3 : (-3 : Int32).toInt = -3 := by decide
  have h4 : (nI 3).toInt = 3 := by decide
  rw [h3] at h1
  rw [h4] at h2
  have e : q = Int32.ofInt q.toInt := (Int32.ofInt_toInt q).symm
  rcases (show q.toInt = -3 ∨ q.toInt = -2 ∨ q.toInt = -1 ∨ q.toInt = 0 ∨ q.toInt = 1 ∨ q.toInt = 2 ∨ q.toInt = 3 by omega) with z | z | z | z | z | z | z <;> (rw [z] at e; clear h h1 h2 h3 h4 z; subst e; decide)
theorem cv_k_in {k : Nat} {q : Int32} (h : cv_k k q = true) : (-3) ≤ q ∧ q ≤ nI 3 := by
  unfold cv_k at h
  by_cases z : k < 6
  · rw [if_pos z] at h
    have e := of_decide_eq_true h
    subst e
    decide
  · rw [if_neg z] at h
    exact of_decide_eq_true h
theorem cv_k6 {k : Nat} {q : Int32} (h : cv_k k q = true) (y : 0 < cv_a q ∨ 0 < cv_b q) : 6 ≤ k := by
  unfold cv_k at h
  by_cases z : k < 6
  · rw [if_pos z] at h
    have e := of_decide_eq_true h
    subst e
    exact absurd y (by decide)
  · omega
theorem cv_i {k : Nat} (x : Nat) (h : 6 ≤ k) : nI (x + 6) + (nI k - nI 6) = nI (x + k) := by
  rw [pk_sub h, show x + k = (x + 6) + (k - 6) by omega, nI_add]
set_option maxRecDepth 100000 in
set_option maxHeartbeats 4000000 in
/-- converted -/
theorem c_converted (l : Launch) (D : va_G) {dA : Nat → ClassId} {b : Nat} {v law : Int32} {tx : Nat → Int32} {fa : Int32} {st : Nat → Int32} {de : Nat → Int32} {dm : Int32} {sd : Int64} {im : Nat → Int32} {se : Nat → Int64} {kp : Nat → Int32} {pl : Int32} {wr : Int32} {dp : Int32} {su : Nat → Int32} {wa : Nat → Int32} {fc : Nat → Int32} {po : Nat → Int32} {t g p9 w9 W : Nat} {c9 : Int32} {po9 : Nat → Int32} {h : xH} {sz : Nat} {Post : Option Value → xH → Nat → Prop} (ht : t ≤ 60) (hm : rd_m tx t g false su wa fc po = some (c9, p9, w9, po9)) (eW : rd_l po9 (rd_w w9 c9) 10 = W) (hW : W ≤ 3) (hD : W = 0 → ∀ u, cv st po9 v.toInt64 1 10 = some u → ¬ u.2 = 0) (M : MS dA h b tx (nI t) fa st de dm sd im se kp pl wr dp su wa fc po) (hp0 : ¬ ((nI 0 ≤ v ∧ v ≤ 1000000) ∧ (nI 0 ≤ law ∧ law ≤ nI 3)) → Post (some (.long (-1000000002))) h sz) (hp1 : ((nI 0 ≤ v ∧ v ≤ 1000000) ∧ (nI 0 ≤ law ∧ law ≤ nI 3)) → ¬ W = 0 → ∀ (h1 : xH) (sz1 : Nat) (pl9 wr9 dp9 : Int32) (su9 wa9 fc9 : Nat → Int32), MS dA h1 b tx (nI 0) (rd_f W p9 t) st de dm sd im se kp pl9 wr9 dp9 su9 wa9 fc9 po9 → xF b (b + 14) h h1 → Post (some (.long ((-10) - nI W).toInt64)) h1 sz1) (hp2 : ((nI 0 ≤ v ∧ v ≤ 1000000) ∧ (nI 0 ≤ law ∧ law ≤ nI 3)) → W = 0 → cv st po9 v.toInt64 1 10 = none → ∀ (h1 : xH) (sz1 : Nat) (pl9 wr9 dp9 : Int32) (su9 wa9 fc9 : Nat → Int32), MS dA h1 b tx (nI 0) (rd_f W p9 t) st de dm sd im se kp pl9 wr9 dp9 su9 wa9 fc9 po9 → xF b (b + 14) h h1 → Post (some (.long (-1000000003))) h1 sz1) (hp3 : ((nI 0 ≤ v ∧ v ≤ 1000000) ∧ (nI 0 ≤ law ∧ law ≤ nI 3)) → W = 0 → ∀ u, cv st po9 v.toInt64 1 10 = some u → ∀ (h1 : xH) (sz1 : Nat) (pl9 wr9 dp9 : Int32) (su9 wa9 fc9 : Nat → Int32), MS dA h1 b tx (nI 0) (rd_f W p9 t) st de dm sd im se kp pl9 wr9 dp9 su9 wa9 fc9 po9 → xF b (b + 14) h h1 → Post (some (.long (r_mw u.1 u.2 law))) h1 sz1) (hpost : True) : xMet l yX5_converted wsX5_converted 5 127 0 0 D dA [.ref b, .int v, .int law] h sz Post := by
  refine x_open (cc := cX5_converted) (maxL := 12) (ret := (some .long)) (by decide) rfl (Nat.le_of_ble_eq_true rfl) ?_
  intro p e s m args below meth c G _
  have inX5 : ∀ w ∈ wsX50, w ∈ wsX5_converted := inX5_converted_5
  obtain ⟨ro, fr, ch, ov, M⟩ := M
  refine x_iload_n G dX5_converted_0 rfl ?_
  refine x_iconstV (v := nI 0) G dX5_converted_1 (by decide) ?_
  refine x_ldc G (1000000) (by decide +kernel) dX5_converted_2 ?_
  refine x_callS (n := 3) (rest := []) (As := [.int (v), .int (nI 0), .int (1000000)]) G (c_in (Post := fun r7 h7 sz7 => r7 = some (.int (x_b ((nI 0) ≤ (v) ∧ (v) ≤ (1000000)))) ∧ h = h7 ∧ sz = sz7) l D ⟨rfl, rfl, rfl⟩) gX5_converted_X5_in rfl ⟨by decide +kernel, by decide +kernel, by decide +kernel⟩ ⟨by decide, by decide⟩ dX5_converted_4 rfl rfl (Nat.le_of_ble_eq_true rfl) ⟨by decide, by decide⟩ ?_
  rintro _ _ _ ⟨rfl, rfl, rfl⟩
  try dsimp only [Option.toList, List.cons_append, List.nil_append]
  refine x_if_eq G 19 dX5_converted_7 (by decide) (fun c_7 => ?_) (fun c_7 => ?_)
  · have e1 := x_b_0.mp c_7
    refine x_ldc2_w G (-1000000002) (by decide +kernel) dX5_converted_19 ?_
    exact x_lret G dX5_converted_22 (hp0 (fun z => e1 z.1))
  · have e1 := x_b_n.mp c_7
    refine x_iload_n G dX5_converted_10 rfl ?_
    refine x_iconstV (v := nI 0) G dX5_converted_11 (by decide) ?_
    refine x_iconstV (v := nI 3) G dX5_converted_12 (by decide) ?_
    refine x_callS (n := 3) (rest := []) (As := [.int (law), .int (nI 0), .int (nI 3)]) G (c_in (Post := fun r7 h7 sz7 => r7 = some (.int (x_b ((nI 0) ≤ (law) ∧ (law) ≤ (nI 3)))) ∧ h = h7 ∧ sz = sz7) l D ⟨rfl, rfl, rfl⟩) gX5_converted_X5_in rfl ⟨by decide +kernel, by decide +kernel, by decide +kernel⟩ ⟨by decide, by decide⟩ dX5_converted_13 rfl rfl (Nat.le_of_ble_eq_true rfl) ⟨by decide, by decide⟩ ?_
    rintro _ _ _ ⟨rfl, rfl, rfl⟩
    try dsimp only [Option.toList, List.cons_append, List.nil_append]
    refine x_if_ne G 23 dX5_converted_16 (by decide) (fun c_16 => ?_) (fun c_16 => ?_)
    · have e2 := x_b_n.mp c_16
      replace e1 := And.intro e1 e2
      clear e2
      refine x_aload_n G dX5_converted_23 rfl ?_
      refine x_iconstV (v := nI 0) G dX5_converted_24 (by decide) ?_
      refine x_topE (y := x_b (false = true)) (by decide) ?_
      refine x_callV (n := 1) (rest := []) (As := [.int (x_b (false = true))]) G (ci := 5) (c_reads (Post := fun r7 h7 sz7 => r7 = some (.int (nI W)) ∧ xF b (b + 14) h h7 ∧ ∃ (pl9 wr9 dp9 : Int32) (su9 wa9 fc9 : Nat → Int32), Md dA h7 b tx (nI 0) (rd_f W p9 t) st de dm sd im se kp pl9 wr9 dp9 su9 wa9 fc9 po9 ro fr ch ov) (sy := false) l D ht hm M (fun h7 sz7 a1 a2 a3 a4 a5 a6 q1 q2 => by rw [eW] at q1 ⊢; exact ⟨rfl, q2, a1, a2, a3, a4, a5, a6, q1⟩)) gX5_converted_X5_reads rfl ⟨rfl, by decide +kernel, by decide +kernel, by decide +kernel⟩ ⟨by decide, by decide⟩ rfl rfl (md_o M) dX5_converted_25 rfl rfl (Nat.le_of_ble_eq_true rfl) ⟨by decide, by decide⟩ ?_
      rintro _ h1 sz1 ⟨rfl, F, pl9, wr9, dp9, su9, wa9, fc9, M⟩
      try dsimp only [Option.toList, List.cons_append, List.nil_append]
      refine x_istore_n G dX5_converted_28 (by decide) ?_
      refine x_iload_n G dX5_converted_29 rfl ?_
      refine x_if_eq G 39 dX5_converted_30 (by decide) (fun c_30 => ?_) (fun c_30 => ?_)
      · have e0 : W = 0 := by
          rcases Nat.eq_zero_or_pos W with z | z
          · exact z
          · exact absurd c_30 (nI_ne0 z (by omega))
        refine x_iload_n G dX5_converted_39 rfl ?_
        refine x_i2l G dX5_converted_40 ?_
        refine x_lstore G dX5_converted_41 (by decide) ?_
        refine x_lconstV (v := 1) G dX5_converted_43 (by decide) ?_
        refine x_lstore G dX5_converted_44 (by decide) ?_
        refine x_iconstV (v := nI 0) G dX5_converted_46 (by decide) ?_
        refine x_istore G dX5_converted_47 (by decide) ?_
        refine x_loop (σ := Int64 × Int64) (fun k u => [(0, .ref b), (1, .int v), (2, .int law), (3, .int (nI W)), (4, .long u.1), (6, .long u.2), (8, .int (nI k))]) 10 (fun k u h1 sz1 => cv st po9 v.toInt64 1 k = some u ∧ Md dA h1 b tx (nI 0) (rd_f W p9 t) st de dm sd im se kp pl9 wr9 dp9 su9 wa9 fc9 po9 ro fr ch ov ∧ xF b (b + 14) h h1) ?_ ?_ 0 (v.toInt64, 1) _ _ (Nat.zero_le _) ⟨rfl, M, F⟩
        · intro k u h1 sz1 hj hI nx
          try dsimp only at hI nx ⊢
          obtain ⟨hc, M, F⟩ := hI
          refine x_iload G dX5_converted_49 rfl ?_
          refine x_bipushV (v := nI 10) G dX5_converted_51 (by decide) ?_
          refine x_icmp_ge G 205 dX5_converted_53 (by decide) (fun c_53 => ?_) (fun c_53 => ?_)
          · exact absurd c_53 (nI_ge hj (by omega))
          · refine x_aload_n G dX5_converted_56 rfl ?_
            refine x_get G kX5 inX5 16 (by decide) (by decide +kernel) dX5_converted_57 (md_o M) rfl ?_
            refine x_iload G dX5_converted_60 rfl ?_
            refine x_ialdN G dX5_converted_62 (md_po M) (by omega) (by decide) ?_
            refine x_istore G dX5_converted_63 (by decide) ?_
            have nxk := nx
            have hk10 := hj
            have J95 : cv_k k (po9 k) = true → xV p l e (headSpec wsX5_converted { frames := 5, cells := 0, slots := 0, locals := 127 }).room s m args below meth c D dA 12 h sz 0 0 Post 0 0 95 [(0, .ref b), (1, .int v), (2, .int law), (3, .int (nI W)), (4, .long u.1), (6, .long u.2), (8, .int (nI k)), (9, .int (po9 k))] [] h1 sz1 := by
              intro hok
              have hl := cv_l (cv_k_in hok)
              refine x_iload G dX5_converted_95 rfl ?_
              refine x_bipushV (v := nI 6) G dX5_converted_97 (by decide) ?_
              refine x_isub G dX5_converted_99 ?_
              refine x_istore G dX5_converted_100 (by decide) ?_
              refine x_iconstV (v := nI 0) G dX5_converted_102 (by decide) ?_
              refine x_istore G dX5_converted_103 (by decide) ?_
              refine x_loop (σ := Unit) (fun j _ => [(0, .ref b), (1, .int v), (2, .int law), (3, .int (nI W)), (4, .long (cv_m (st (55 + k)).toInt64 u.1 j)), (6, .long (cv_m (st (59 + k)).toInt64 u.2 j)), (8, .int (nI k)), (9, .int (po9 k)), (10, .int (nI k - nI 6)), (11, .int (nI j))]) (cv_a (po9 k)) (fun j _ h1 sz1 => Md dA h1 b tx (nI 0) (rd_f W p9 t) st de dm sd im se kp pl9 wr9 dp9 su9 wa9 fc9 po9 ro fr ch ov ∧ xF b (b + 14) h h1) ?_ ?_ 0 () _ _ (Nat.zero_le _) ⟨M, F⟩
              · intro j _ h1 sz1 hj hI nx
                try dsimp only at hI nx ⊢
                obtain ⟨M, F⟩ := hI
                refine x_iload G dX5_converted_105 rfl ?_
                refine x_iload G dX5_converted_107 rfl ?_
                refine x_icmp_ge G 150 dX5_converted_109 (by decide) (fun c_109 => ?_) (fun c_109 => ?_)
                · exact absurd c_109 (hl.2.2.1 j hj)
                · refine x_lload G dX5_converted_112 rfl ?_
                  refine x_aload_n G dX5_converted_114 rfl ?_
                  refine x_get G kX5 inX5 3 (by decide) (by decide +kernel) dX5_converted_115 (md_o M) rfl ?_
                  refine x_bipushV (v := nI 61) G dX5_converted_118 (by decide) ?_
                  refine x_iload G dX5_converted_120 rfl ?_
                  refine x_iadd G dX5_converted_122 ?_
                  refine x_topE (y := nI (55 + k)) (cv_i 55 (cv_k6 hok (Or.inl (by omega)))) ?_
                  refine x_ialdN G dX5_converted_123 (md_st M) (by omega) (by decide) ?_
                  refine x_i2l G dX5_converted_124 ?_
                  refine x_lmul G dX5_converted_125 ?_
                  refine x_lstore G dX5_converted_126 (by decide) ?_
                  refine x_lload G dX5_converted_128 rfl ?_
                  refine x_aload_n G dX5_converted_130 rfl ?_
                  refine x_get G kX5 inX5 3 (by decide) (by decide +kernel) dX5_converted_131 (md_o M) rfl ?_
                  refine x_bipushV (v := nI 65) G dX5_converted_134 (by decide) ?_
                  refine x_iload G dX5_converted_136 rfl ?_
                  refine x_iadd G dX5_converted_138 ?_
                  refine x_topE (y := nI (59 + k)) (cv_i 59 (cv_k6 hok (Or.inl (by omega)))) ?_
                  refine x_ialdN G dX5_converted_139 (md_st M) (by omega) (by decide) ?_
                  refine x_i2l G dX5_converted_140 ?_
                  refine x_lmul G dX5_converted_141 ?_
                  refine x_lstore G dX5_converted_142 (by decide) ?_
                  refine x_iinc G dX5_converted_144 rfl (by decide) ?_
                  refine x_locE (lv2 := [(0, .ref b), (1, .int v), (2, .int law), (3, .int (nI W)), (4, .long (cv_m (st (55 + k)).toInt64 u.1 (j + 1))), (6, .long (cv_m (st (59 + k)).toInt64 u.2 (j + 1))), (8, .int (nI k)), (9, .int (po9 k)), (10, .int (nI k - nI 6)), (11, .int (nI (j + 1)))]) (by rw [nI_succ j]; rfl) ?_
                  refine x_goto G 105 dX5_converted_147 (by decide) ?_
                  exact nx () _ _ ⟨M, F⟩
              · intro _ h1 sz1 hI
                try dsimp only at hI ⊢
                obtain ⟨M, F⟩ := hI
                refine x_iload G dX5_converted_105 rfl ?_
                refine x_iload G dX5_converted_107 rfl ?_
                refine x_icmp_ge G 150 dX5_converted_109 (by decide) (fun c_109 => ?_) (fun c_109 => ?_)
                · refine x_iconstV (v := nI 0) G dX5_converted_150 (by decide) ?_
                  refine x_istore G dX5_converted_151 (by decide) ?_
                  refine x_loop (σ := Unit) (fun j _ => [(0, .ref b), (1, .int v), (2, .int law), (3, .int (nI W)), (4, .long (cv_m (st (59 + k)).toInt64 (cv_m (st (55 + k)).toInt64 u.1 (cv_a (po9 k))) j)), (6, .long (cv_m (st (55 + k)).toInt64 (cv_m (st (59 + k)).toInt64 u.2 (cv_a (po9 k))) j)), (8, .int (nI k)), (9, .int (po9 k)), (10, .int (nI k - nI 6)), (11, .int (nI j))]) (cv_b (po9 k)) (fun j _ h1 sz1 => Md dA h1 b tx (nI 0) (rd_f W p9 t) st de dm sd im se kp pl9 wr9 dp9 su9 wa9 fc9 po9 ro fr ch ov ∧ xF b (b + 14) h h1) ?_ ?_ 0 () _ _ (Nat.zero_le _) ⟨M, F⟩
                  · intro j _ h1 sz1 hj hI nx
                    try dsimp only at hI nx ⊢
                    obtain ⟨M, F⟩ := hI
                    refine x_iload G dX5_converted_153 rfl ?_
                    refine x_iload G dX5_converted_155 rfl ?_
                    refine x_ineg G dX5_converted_157 ?_
                    refine x_icmp_ge G 199 dX5_converted_158 (by decide) (fun c_158 => ?_) (fun c_158 => ?_)
                    · exact absurd c_158 (hl.2.2.2.2.1 j hj)
                    · refine x_lload G dX5_converted_161 rfl ?_
                      refine x_aload_n G dX5_converted_163 rfl ?_
                      refine x_get G kX5 inX5 3 (by decide) (by decide +kernel) dX5_converted_164 (md_o M) rfl ?_
                      refine x_bipushV (v := nI 65) G dX5_converted_167 (by decide) ?_
                      refine x_iload G dX5_converted_169 rfl ?_
                      refine x_iadd G dX5_converted_171 ?_
                      refine x_topE (y := nI (59 + k)) (cv_i 59 (cv_k6 hok (Or.inr (by omega)))) ?_
                      refine x_ialdN G dX5_converted_172 (md_st M) (by omega) (by decide) ?_
                      refine x_i2l G dX5_converted_173 ?_
                      refine x_lmul G dX5_converted_174 ?_
                      refine x_lstore G dX5_converted_175 (by decide) ?_
                      refine x_lload G dX5_converted_177 rfl ?_
                      refine x_aload_n G dX5_converted_179 rfl ?_
                      refine x_get G kX5 inX5 3 (by decide) (by decide +kernel) dX5_converted_180 (md_o M) rfl ?_
                      refine x_bipushV (v := nI 61) G dX5_converted_183 (by decide) ?_
                      refine x_iload G dX5_converted_185 rfl ?_
                      refine x_iadd G dX5_converted_187 ?_
                      refine x_topE (y := nI (55 + k)) (cv_i 55 (cv_k6 hok (Or.inr (by omega)))) ?_
                      refine x_ialdN G dX5_converted_188 (md_st M) (by omega) (by decide) ?_
                      refine x_i2l G dX5_converted_189 ?_
                      refine x_lmul G dX5_converted_190 ?_
                      refine x_lstore G dX5_converted_191 (by decide) ?_
                      refine x_iinc G dX5_converted_193 rfl (by decide) ?_
                      refine x_locE (lv2 := [(0, .ref b), (1, .int v), (2, .int law), (3, .int (nI W)), (4, .long (cv_m (st (59 + k)).toInt64 (cv_m (st (55 + k)).toInt64 u.1 (cv_a (po9 k))) (j + 1))), (6, .long (cv_m (st (55 + k)).toInt64 (cv_m (st (59 + k)).toInt64 u.2 (cv_a (po9 k))) (j + 1))), (8, .int (nI k)), (9, .int (po9 k)), (10, .int (nI k - nI 6)), (11, .int (nI (j + 1)))]) (by rw [nI_succ j]; rfl) ?_
                      refine x_goto G 153 dX5_converted_196 (by decide) ?_
                      exact nx () _ _ ⟨M, F⟩
                  · intro _ h1 sz1 hI
                    try dsimp only at hI ⊢
                    obtain ⟨M, F⟩ := hI
                    refine x_iload G dX5_converted_153 rfl ?_
                    refine x_iload G dX5_converted_155 rfl ?_
                    refine x_ineg G dX5_converted_157 ?_
                    refine x_icmp_ge G 199 dX5_converted_158 (by decide) (fun c_158 => ?_) (fun c_158 => ?_)
                    · refine x_iinc G dX5_converted_199 rfl (by decide) ?_
                      refine x_goto G 49 dX5_converted_202 (by decide) ?_
                      refine x_keep [0, 1, 2, 3, 4, 6, 8] ?_
                      refine x_locE (lv2 := [(0, .ref b), (1, .int v), (2, .int law), (3, .int (nI W)), (4, .long (cv_m (st (59 + k)).toInt64 (cv_m (st (55 + k)).toInt64 u.1 (cv_a (po9 k))) (cv_b (po9 k)))), (6, .long (cv_m (st (55 + k)).toInt64 (cv_m (st (59 + k)).toInt64 u.2 (cv_a (po9 k))) (cv_b (po9 k)))), (8, .int (nI (k + 1)))]) (by rw [nI_succ k]; rfl) ?_
                      exact nxk _ _ _ ⟨cv_s hc hok, M, F⟩
                    · exact absurd hl.2.2.2.2.2 c_158
                · exact absurd hl.2.2.2.1 c_109
            have J91 : ¬ cv_k k (po9 k) = true → xV p l e (headSpec wsX5_converted { frames := 5, cells := 0, slots := 0, locals := 127 }).room s m args below meth c D dA 12 h sz 0 0 Post 0 0 91 [(0, .ref b), (1, .int v), (2, .int law), (3, .int (nI W)), (4, .long u.1), (6, .long u.2), (8, .int (nI k)), (9, .int (po9 k))] [] h1 sz1 := by
              intro hok
              refine x_ldc2_w G (-1000000003) (by decide +kernel) dX5_converted_91 ?_
              exact x_lret G dX5_converted_94 (hp2 e1 e0 (cv_f hk10 hc hok) _ _ _ _ _ _ _ _ ⟨_, _, _, _, M⟩ F)
            refine x_iload G dX5_converted_65 rfl ?_
            refine x_bipushV (v := nI 6) G dX5_converted_67 (by decide) ?_
            refine x_icmp_ge G 80 dX5_converted_69 (by decide) (fun c_69 => ?_) (fun c_69 => ?_)
            · have e6 : ¬ k < 6 := fun z => absurd c_69 (nI_ge z (by decide))
              have ek : (cv_k k (po9 k) = true) = ((-3) ≤ po9 k ∧ po9 k ≤ nI 3) := by unfold cv_k; rw [if_neg e6, decide_eq_true_eq]
              refine x_iload G dX5_converted_80 rfl ?_
              refine x_bipushV (v := (-3)) G dX5_converted_82 (by decide) ?_
              refine x_iconstV (v := nI 3) G dX5_converted_84 (by decide) ?_
              refine x_callS (n := 3) (rest := []) (As := [.int (po9 k), .int (-3), .int (nI 3)]) G (c_in (Post := fun r7 h7 sz7 => r7 = some (.int (x_b ((-3) ≤ (po9 k) ∧ (po9 k) ≤ (nI 3)))) ∧ h1 = h7 ∧ sz1 = sz7) l D ⟨rfl, rfl, rfl⟩) gX5_converted_X5_in rfl ⟨by decide +kernel, by decide +kernel, by decide +kernel⟩ ⟨by decide, by decide⟩ dX5_converted_85 rfl rfl (Nat.le_of_ble_eq_true rfl) ⟨by decide, by decide⟩ ?_
              rintro _ _ _ ⟨rfl, rfl, rfl⟩
              try dsimp only [Option.toList, List.cons_append, List.nil_append]
              refine x_if_ne G 95 dX5_converted_88 (by decide) (fun c_88 => ?_) (fun c_88 => ?_)
              · exact J95 (by rw [ek]; exact x_b_n.mp c_88)
              · exact J91 (by rw [ek]; exact x_b_0.mp c_88)
            · have e6 : k < 6 := by
                rcases Nat.lt_or_ge k 6 with z | z
                · exact z
                · exact absurd (nI_le z (by omega)) c_69
              have ek : (cv_k k (po9 k) = true) = (po9 k = 0) := by unfold cv_k; rw [if_pos e6, decide_eq_true_eq]
              refine x_iload G dX5_converted_72 rfl ?_
              refine x_if_eq G 95 dX5_converted_74 (by decide) (fun c_74 => ?_) (fun c_74 => ?_)
              · exact J95 (by rw [ek]; exact c_74)
              · refine x_goto G 91 dX5_converted_77 (by decide) ?_
                exact J91 (by rw [ek]; exact c_74)
        · intro u h1 sz1 hI
          try dsimp only at hI ⊢
          obtain ⟨hc, M, F⟩ := hI
          refine x_iload G dX5_converted_49 rfl ?_
          refine x_bipushV (v := nI 10) G dX5_converted_51 (by decide) ?_
          refine x_icmp_ge G 205 dX5_converted_53 (by decide) (fun c_53 => ?_) (fun c_53 => ?_)
          · refine x_lload G dX5_converted_205 rfl ?_
            refine x_lload G dX5_converted_207 rfl ?_
            refine x_iload_n G dX5_converted_209 rfl ?_
            refine x_callS (n := 3) (rest := []) (As := [.long u.1, .long u.2, .int law]) G (c_madeWhole (Post := fun r7 h7 sz7 => r7 = some (.long (r_mw u.1 u.2 law)) ∧ h1 = h7 ∧ sz1 = sz7) l D (hD e0 u hc) ⟨rfl, rfl, rfl⟩) gX5_converted_X5_madeWhole rfl ⟨by decide +kernel, by decide +kernel, by decide +kernel⟩ ⟨by decide, by decide⟩ dX5_converted_210 rfl rfl (Nat.le_of_ble_eq_true rfl) ⟨by decide, by decide⟩ ?_
            rintro _ _ _ ⟨rfl, rfl, rfl⟩
            try dsimp only [Option.toList, List.cons_append, List.nil_append]
            exact x_lret G dX5_converted_213 (hp3 e1 e0 u hc _ _ _ _ _ _ _ _ ⟨_, _, _, _, M⟩ F)
          · exact absurd (nI_le (Nat.le_refl _) (by omega)) c_53
      · have e0 : ¬ W = 0 := fun z => c_30 (by rw [z]; rfl)
        refine x_bipushV (v := (-10)) G dX5_converted_33 (by decide) ?_
        refine x_iload_n G dX5_converted_35 rfl ?_
        refine x_isub G dX5_converted_36 ?_
        refine x_i2l G dX5_converted_37 ?_
        exact x_lret G dX5_converted_38 (hp1 e1 e0 _ _ _ _ _ _ _ _ ⟨_, _, _, _, M⟩ F)
    · have e2 := x_b_0.mp c_16
      refine x_ldc2_w G (-1000000002) (by decide +kernel) dX5_converted_19 ?_
      exact x_lret G dX5_converted_22 (hp0 (fun z => e2 z.2))
