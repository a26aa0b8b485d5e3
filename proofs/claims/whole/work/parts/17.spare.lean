/-- the reference, whatever its rows, choice and numbers are -/
def MS (dA : Nat → ClassId) (h : xH) (b : Nat) (tx : Nat → Int32) (ln : Int32) (fa : Int32) (st : Nat → Int32) (de : Nat → Int32) (dm : Int32) (sd : Int64) (im : Nat → Int32) (se : Nat → Int64) (kp : Nat → Int32) (pl : Int32) (wr : Int32) (dp : Int32) (su : Nat → Int32) (wa : Nat → Int32) (fc : Nat → Int32) (po : Nat → Int32) : Prop := ∃ (ro : Nat → Int64) (fr : Int32) (ch ov : Nat → Int64), Md dA h b tx ln fa st de dm sd im se kp pl wr dp su wa fc po ro fr ch ov
theorem r_dot_c {z : Int64} {p : Nat → Int32} {a : Nat} {r r2 : Nat → Int64} {q : Nat} : ∀ {j : Nat}, (∀ i, i < j → r (q + i) = r2 (q + i)) → r_dot z p a r q j = r_dot z p a r2 q j
  | 0, _ => rfl
  | j + 1, k => by
    unfold r_dot
    rw [r_dot_c (fun i hi => k i (by omega)), k j (by omega)]
theorem tI_c {p : Nat → Int32} {q : Nat} {ro ro2 : Nat → Int64} : ∀ {f : Nat}, (∀ k, k < 6 * f → ro k = ro2 k) → tI p q ro f = tI p q ro2 f
  | 0, _ => rfl
  | f + 1, k => by
    unfold tI
    rw [tI_c (fun i hi => k i (by omega)), r_dot_c (r2 := ro2) (fun i hi => k _ (by omega))]
theorem tB_c {x : Bool} {p : Nat → Int32} {q : Nat} {c c2 : Nat → Int64} : ∀ {f : Nat}, (∀ k, k < 6 * f → c k = c2 k) → tB x p q c f = tB x p q c2 f
  | 0, _ => rfl
  | f + 1, k => by
    unfold tB aT
    rw [tB_c (fun i hi => k i (by omega)), r_dot_c (r2 := c2) (fun i hi => k _ (by omega))]
theorem r_tr_c {f : Nat} {p : Nat → Int32} {q : Nat} {ro ro2 c c2 : Nat → Int64} (h1 : ∀ k, k < 6 * f → ro k = ro2 k) (h2 : ∀ k, k < 24 → c k = c2 k) : r_tr f p q ro c = r_tr f p q ro2 c2 := by
  unfold r_tr
  rw [tI_c h1, tB_c h2]
theorem r_su_c {ro ro2 : Nat → Int64} {j : Nat} (hj : j < 6) : ∀ {f : Nat}, (∀ k, k < 6 * f → ro k = ro2 k) → r_su ro j f = r_su ro2 j f
  | 0, _ => rfl
  | f + 1, k => by
    unfold r_su
    rw [r_su_c hj (fun i hi => k i (by omega)), k _ (by omega)]
/-- what all sets of the first n sayings come to -/
def Ans (st : Nat → Int32) (n : Nat) (F : Nat → Nat) (Rw Cw : Nat → Nat → Int64) : Prop := ∀ m, m < 2 ^ n → ∀ ro ov c : Nat → Int64, ∃ (g : Nat) (ro9 ov9 c9 : Nat → Int64), r_so g st m ro ov c n = some (F m, ro9, ov9, c9) ∧ (∀ k, k < 6 * F m → ro9 k = Rw m k) ∧ (∀ k, k < 24 → c9 k = Cw m k)
theorem Ans_f {st : Nat → Int32} {n : Nat} {F : Nat → Nat} {Rw Cw : Nat → Nat → Int64} (k : Ans st n F Rw Cw) {m : Nat} (h : m < 2 ^ n) : F m ≤ 6 := by
  obtain ⟨g, ro9, ov9, c9, h1, -, -⟩ := k m h (fun _ => 0) (fun _ => 0) (fun _ => 0)
  exact r_so_f h1
theorem two_le {n m : Nat} (h : n ≤ 6) (k : m < 2 ^ n) : m < 64 := Nat.lt_of_lt_of_le k (Nat.pow_le_pow_right (by decide) h)
theorem c_solvesA (l : Launch) (D : va_G) {dA : Nat → ClassId} {b : Nat} {tx : Nat → Int32} {ln : Int32} {fa : Int32} {st : Nat → Int32} {de : Nat → Int32} {dm : Int32} {sd : Int64} {im : Nat → Int32} {se : Nat → Int64} {kp : Nat → Int32} {pl : Int32} {wr : Int32} {dp : Int32} {su : Nat → Int32} {wa : Nat → Int32} {fc : Nat → Int32} {po : Nat → Int32} {n m9 : Nat} {F : Nat → Nat} {Rw Cw : Nat → Nat → Int64} {h : xH} {sz : Nat} {Post : Option Value → xH → Nat → Prop} (hn : st 0 = nI n) (hn6 : n ≤ 6) (hm : m9 < 2 ^ n) (hA : Ans st n F Rw Cw) (M : MS dA h b tx ln fa st de dm sd im se kp pl wr dp su wa fc po) (hpost : ∀ (h1 : xH) (sz1 : Nat) (ro9 ov9 c9 : Nat → Int64), (∀ k, k < 6 * F m9 → ro9 k = Rw m9 k) → (∀ k, k < 24 → c9 k = Cw m9 k) → Md dA h1 b tx ln fa st de dm sd im se kp pl wr dp su wa fc po ro9 (nI (F m9)) c9 ov9 → xF b (b + 14) h h1 → Post none h1 sz1) : xMet l yX5_solves wsX5_solves 4 105 0 0 D dA [.ref b, .int (nI m9)] h sz Post := by
  obtain ⟨ro, fr, ch, ov, M⟩ := M
  obtain ⟨g, ro9, ov9, c9, h1, h2, h3⟩ := hA m9 hm ro ov ch
  exact c_solves l D hn hn6 (two_le hn6 hm) h1 M (fun h1 sz1 q1 q2 => hpost h1 sz1 ro9 ov9 c9 h2 h3 q1 q2)
theorem sp_mask : ∀ (n : Fin 7) (k : Fin 6), k.val < n.val → nI (2 ^ n.val - 1) &&& ((nI 1 <<< (nI k.val &&& 31)) ^^^ (-1)) = nI (2 ^ n.val - 1 - 2 ^ k.val) := by decide +kernel
theorem pw_pos (n : Nat) : 0 < 2 ^ n := Nat.pow_pos (by decide)
/-- saying k is spare -/
def spA (st : Nat → Int32) (n : Nat) (F : Nat → Nat) (Rw Cw : Nat → Nat → Int64) (k : Nat) : Bool := r_tr (F (2 ^ n - 1 - 2 ^ k)) st (1 + 10 * k) (Rw (2 ^ n - 1 - 2 ^ k)) (Cw (2 ^ n - 1 - 2 ^ k))
theorem inX5_isSpare_5 : ∀ w ∈ wsX50, w ∈ wsX5_isSpare := by decide +kernel
set_option maxRecDepth 100000 in
set_option maxHeartbeats 4000000 in
/-- isSpare -/
theorem c_isSpare (l : Launch) (D : va_G) {dA : Nat → ClassId} {b k : Nat} {tx : Nat → Int32} {ln : Int32} {fa : Int32} {st : Nat → Int32} {de : Nat → Int32} {dm : Int32} {sd : Int64} {im : Nat → Int32} {se : Nat → Int64} {kp : Nat → Int32} {pl : Int32} {wr : Int32} {dp : Int32} {su : Nat → Int32} {wa : Nat → Int32} {fc : Nat → Int32} {po : Nat → Int32} {n : Nat} {F : Nat → Nat} {Rw Cw : Nat → Nat → Int64} {h : xH} {sz : Nat} {Post : Option Value → xH → Nat → Prop} (hn : st 0 = nI n) (hn6 : n ≤ 6) (hA : Ans st n F Rw Cw) (hk : k < n) (M : MS dA h b tx ln fa st de dm sd im se kp pl wr dp su wa fc po) (hpost : ∀ (h1 : xH) (sz1 : Nat), MS dA h1 b tx ln fa st de dm sd im se kp pl wr dp su wa fc po → xF b (b + 14) h h1 → Post (some (.int (x_b (spA st n F Rw Cw k = true)))) h1 sz1) : xMet l yX5_isSpare wsX5_isSpare 5 127 0 0 D dA [.ref b, .int (nI k)] h sz Post := by
  refine x_open (cc := cX5_isSpare) (maxL := 2) (ret := (some .boolean)) (by decide) rfl (Nat.le_of_ble_eq_true rfl) ?_
  intro p e s m args below meth c G _
  have inX5 : ∀ w ∈ wsX50, w ∈ wsX5_isSpare := inX5_isSpare_5
  obtain ⟨ro, fr, ch, ov, M⟩ := M
  have hp := pw_pos n
  have hp2 := pw_pos k
  refine x_aload_n G dX5_isSpare_0 rfl ?_
  refine x_aload_n G dX5_isSpare_1 rfl ?_
  refine x_callV (n := 0) (rest := [.ref b]) (As := []) G (ci := 5) (c_allOf (Post := fun r7 h7 sz7 => r7 = some (.int (nI (2 ^ n - 1))) ∧ h = h7 ∧ sz = sz7) l D hn hn6 M ⟨rfl, rfl, rfl⟩) gX5_isSpare_X5_allOf rfl ⟨rfl, by decide +kernel, by decide +kernel, by decide +kernel⟩ ⟨by decide, by decide⟩ rfl rfl (md_o M) dX5_isSpare_2 rfl rfl (Nat.le_of_ble_eq_true rfl) ⟨by decide, by decide⟩ ?_
  rintro _ _ _ ⟨rfl, rfl, rfl⟩
  try dsimp only [Option.toList, List.cons_append, List.nil_append]
  refine x_iconstV (v := nI 1) G dX5_isSpare_5 (by decide) ?_
  refine x_iload_n G dX5_isSpare_6 rfl ?_
  refine x_ishl G dX5_isSpare_7 ?_
  refine x_iconstV (v := (-1)) G dX5_isSpare_8 (by decide) ?_
  refine x_ixor G dX5_isSpare_9 ?_
  refine x_iand G dX5_isSpare_10 ?_
  refine x_topE (y := nI (2 ^ n - 1 - 2 ^ k)) (sp_mask ⟨n, by omega⟩ ⟨k, by omega⟩ hk) ?_
  refine x_callV (n := 1) (rest := []) (As := [.int (nI (2 ^ n - 1 - 2 ^ k))]) G (ci := 5) (c_solvesA (Post := fun r7 h7 sz7 => r7 = none ∧ xF b (b + 14) h h7 ∧ ∃ ro9 ov9 c9 : Nat → Int64, (∀ i9, i9 < 6 * F (2 ^ n - 1 - 2 ^ k) → ro9 i9 = Rw (2 ^ n - 1 - 2 ^ k) i9) ∧ (∀ i9, i9 < 24 → c9 i9 = Cw (2 ^ n - 1 - 2 ^ k) i9) ∧ Md dA h7 b tx ln fa st de dm sd im se kp pl wr dp su wa fc po ro9 (nI (F (2 ^ n - 1 - 2 ^ k))) c9 ov9) (n := n) (m9 := 2 ^ n - 1 - 2 ^ k) l D hn hn6 (by omega) hA ⟨_, _, _, _, M⟩ (fun h7 sz7 ro9 ov9 c9 a1 a2 q1 q2 => ⟨rfl, q2, ro9, ov9, c9, a1, a2, q1⟩)) gX5_isSpare_X5_solves rfl ⟨rfl, by decide +kernel, by decide +kernel, by decide +kernel⟩ ⟨by decide, by decide⟩ rfl rfl (md_o M) dX5_isSpare_11 rfl rfl (Nat.le_of_ble_eq_true rfl) ⟨by decide, by decide⟩ ?_
  rintro _ h1 sz1 ⟨rfl, F1, ro9, ov9, c9, a1, a2, M⟩
  try dsimp only [Option.toList, List.cons_append, List.nil_append]
  refine x_aload_n G dX5_isSpare_14 rfl ?_
  refine x_aload_n G dX5_isSpare_15 rfl ?_
  refine x_get G kX5 inX5 3 (by decide) (by decide +kernel) dX5_isSpare_16 (md_o M) rfl ?_
  refine x_iconstV (v := nI 1) G dX5_isSpare_19 (by decide) ?_
  refine x_bipushV (v := nI 10) G dX5_isSpare_20 (by decide) ?_
  refine x_iload_n G dX5_isSpare_22 rfl ?_
  refine x_imul G dX5_isSpare_23 ?_
  refine x_iadd G dX5_isSpare_24 ?_
  refine x_topE (y := nI (1 + 10 * k)) (by rw [pk_mul, nI_add]) ?_
  refine x_callV (n := 2) (rest := []) (As := [.ref (b + 2), .int (nI (1 + 10 * k))]) G (ci := 5) (c_isTrue (Post := fun r7 h7 sz7 => r7 = some (.int (x_b (r_tr (F (2 ^ n - 1 - 2 ^ k)) st (1 + 10 * k) (Rw (2 ^ n - 1 - 2 ^ k)) (Cw (2 ^ n - 1 - 2 ^ k)) = true))) ∧ h1 = h7 ∧ sz1 = sz7) (n := 69) (f := F (2 ^ n - 1 - 2 ^ k)) l D (Ans_f hA (by omega)) (Or.inl ⟨rfl, rfl, rfl⟩) (by omega) M (by rw [r_tr_c a1 a2]; exact ⟨rfl, rfl, rfl⟩)) gX5_isSpare_X5_isTrue rfl ⟨rfl, by decide +kernel, by decide +kernel, by decide +kernel⟩ ⟨by decide, by decide⟩ rfl rfl (md_o M) dX5_isSpare_25 rfl rfl (Nat.le_of_ble_eq_true rfl) ⟨by decide, by decide⟩ ?_
  rintro _ _ _ ⟨rfl, rfl, rfl⟩
  try dsimp only [Option.toList, List.cons_append, List.nil_append]
  exact x_zret G dX5_isSpare_28 x_b_z (hpost _ _ ⟨_, _, _, _, M⟩ F1)
theorem inX5_spareMany_5 : ∀ w ∈ wsX50, w ∈ wsX5_spareMany := by decide +kernel
def r_ct (q : Nat → Bool) : Nat → Nat
  | 0 => 0
  | k + 1 => r_ct q k + (if q k = true then 1 else 0)
set_option maxRecDepth 100000 in
set_option maxHeartbeats 4000000 in
/-- spareMany -/
theorem c_spareMany (l : Launch) (D : va_G) {dA : Nat → ClassId} {b : Nat} {tx : Nat → Int32} {ln : Int32} {fa : Int32} {st : Nat → Int32} {de : Nat → Int32} {dm : Int32} {sd : Int64} {im : Nat → Int32} {se : Nat → Int64} {kp : Nat → Int32} {pl : Int32} {wr : Int32} {dp : Int32} {su : Nat → Int32} {wa : Nat → Int32} {fc : Nat → Int32} {po : Nat → Int32} {n : Nat} {F : Nat → Nat} {Rw Cw : Nat → Nat → Int64} {h : xH} {sz : Nat} {Post : Option Value → xH → Nat → Prop} (hn : st 0 = nI n) (hn6 : n ≤ 6) (hA : Ans st n F Rw Cw) (M : MS dA h b tx ln fa st de dm sd im se kp pl wr dp su wa fc po) (hpost : ∀ (h1 : xH) (sz1 : Nat), MS dA h1 b tx ln fa st de dm sd im se kp pl wr dp su wa fc po → xF b (b + 14) h h1 → Post (some (.int (nI (r_ct (spA st n F Rw Cw) n)))) h1 sz1) : xMet l yX5_spareMany wsX5_spareMany 6 148 0 0 D dA [.ref b] h sz Post := by
  refine x_open (cc := cX5_spareMany) (maxL := 3) (ret := (some .int)) (by decide) rfl (Nat.le_of_ble_eq_true rfl) ?_
  intro p e s m args below meth c G _
  have inX5 : ∀ w ∈ wsX50, w ∈ wsX5_spareMany := inX5_spareMany_5
  refine x_iconstV (v := nI 0) G dX5_spareMany_0 (by decide) ?_
  refine x_istore_n G dX5_spareMany_1 (by decide) ?_
  refine x_iconstV (v := nI 0) G dX5_spareMany_2 (by decide) ?_
  refine x_istore_n G dX5_spareMany_3 (by decide) ?_
  refine x_loop (σ := Unit) (fun k _ => [(0, .ref b), (1, .int (nI (r_ct (spA st n F Rw Cw) k))), (2, .int (nI k))]) n (fun k _ h1 sz1 => MS dA h1 b tx ln fa st de dm sd im se kp pl wr dp su wa fc po ∧ xF b (b + 14) h h1) ?_ ?_ 0 () h sz (Nat.zero_le _) ⟨M, xF_rf⟩
  · intro k _ h1 sz1 hj hI nx
    try dsimp only at hI nx ⊢
    obtain ⟨⟨ro, fr, ch, ov, M⟩, F1⟩ := hI
    refine x_iload_n G dX5_spareMany_4 rfl ?_
    refine x_aload_n G dX5_spareMany_5 rfl ?_
    refine x_get G kX5 inX5 3 (by decide) (by decide +kernel) dX5_spareMany_6 (md_o M) rfl ?_
    refine x_iconstV (v := nI 0) G dX5_spareMany_9 (by decide) ?_
    refine x_ialdN G dX5_spareMany_10 (md_st M) (by omega) (by decide) ?_
    refine x_topE (y := nI n) hn ?_
    refine x_icmp_ge G 36 dX5_spareMany_11 (by decide) (fun c_11 => ?_) (fun c_11 => ?_)
    · exact absurd c_11 (nI_ge hj (by omega))
    · refine x_iload_n G dX5_spareMany_14 rfl ?_
      refine x_aload_n G dX5_spareMany_15 rfl ?_
      refine x_iload_n G dX5_spareMany_16 rfl ?_
      refine x_callV (n := 1) (rest := [.int (nI (r_ct (spA st n F Rw Cw) k))]) (As := [.int (nI k)]) G (ci := 5) (c_isSpare (Post := fun r7 h7 sz7 => r7 = some (.int (x_b (spA st n F Rw Cw k = true))) ∧ MS dA h7 b tx ln fa st de dm sd im se kp pl wr dp su wa fc po ∧ xF b (b + 14) h1 h7) l D hn hn6 hA (by omega) ⟨_, _, _, _, M⟩ (fun h7 sz7 q1 q2 => ⟨rfl, q1, q2⟩)) gX5_spareMany_X5_isSpare rfl ⟨rfl, by decide +kernel, by decide +kernel, by decide +kernel⟩ ⟨by decide, by decide⟩ rfl rfl (md_o M) dX5_spareMany_17 rfl rfl (Nat.le_of_ble_eq_true rfl) ⟨by decide, by decide⟩ ?_
      rintro _ h1 sz1 ⟨rfl, ⟨ro, fr, ch, ov, M⟩, F2⟩
      try dsimp only [Option.toList, List.cons_append, List.nil_append]
      replace F1 := xF_tr F1 F2
      refine x_if_eq G 27 dX5_spareMany_20 (by decide) (fun c_20 => ?_) (fun c_20 => ?_)
      · have ez : nI (r_ct (spA st n F Rw Cw) (k + 1)) = nI (r_ct (spA st n F Rw Cw) k) + nI 0 := by
          rw [nI_add]
          show nI (_ + (if _ then _ else _)) = _
          rw [if_neg (x_b_0.mp c_20)]
        refine x_iconstV (v := nI 0) G dX5_spareMany_27 (by decide) ?_
        refine x_iadd G dX5_spareMany_28 ?_
        refine x_istore_n G dX5_spareMany_29 (by decide) ?_
        refine x_iinc G dX5_spareMany_30 rfl (by decide) ?_
        refine x_goto G 4 dX5_spareMany_33 (by decide) ?_
        refine x_locE (lv2 := [(0, .ref b), (1, .int (nI (r_ct (spA st n F Rw Cw) (k + 1)))), (2, .int (nI (k + 1)))]) (by rw [ez, nI_succ k]; rfl) ?_
        exact nx () _ _ ⟨⟨_, _, _, _, M⟩, F1⟩
      · have ez : nI (r_ct (spA st n F Rw Cw) (k + 1)) = nI (r_ct (spA st n F Rw Cw) k) + nI 1 := by
          rw [nI_add]
          show nI (_ + (if _ then _ else _)) = _
          rw [if_pos (x_b_n.mp c_20)]
        refine x_iconstV (v := nI 1) G dX5_spareMany_23 (by decide) ?_
        refine x_goto G 28 dX5_spareMany_24 (by decide) ?_
        refine x_iadd G dX5_spareMany_28 ?_
        refine x_istore_n G dX5_spareMany_29 (by decide) ?_
        refine x_iinc G dX5_spareMany_30 rfl (by decide) ?_
        refine x_goto G 4 dX5_spareMany_33 (by decide) ?_
        refine x_locE (lv2 := [(0, .ref b), (1, .int (nI (r_ct (spA st n F Rw Cw) (k + 1)))), (2, .int (nI (k + 1)))]) (by rw [ez, nI_succ k]; rfl) ?_
        exact nx () _ _ ⟨⟨_, _, _, _, M⟩, F1⟩
  · intro _ h1 sz1 hI
    try dsimp only at hI ⊢
    obtain ⟨⟨ro, fr, ch, ov, M⟩, F1⟩ := hI
    refine x_iload_n G dX5_spareMany_4 rfl ?_
    refine x_aload_n G dX5_spareMany_5 rfl ?_
    refine x_get G kX5 inX5 3 (by decide) (by decide +kernel) dX5_spareMany_6 (md_o M) rfl ?_
    refine x_iconstV (v := nI 0) G dX5_spareMany_9 (by decide) ?_
    refine x_ialdN G dX5_spareMany_10 (md_st M) (by omega) (by decide) ?_
    refine x_topE (y := nI n) hn ?_
    refine x_icmp_ge G 36 dX5_spareMany_11 (by decide) (fun c_11 => ?_) (fun c_11 => ?_)
    · refine x_iload_n G dX5_spareMany_36 rfl ?_
      exact x_iret G dX5_spareMany_37 (hpost _ _ ⟨_, _, _, _, M⟩ F1)
    · exact absurd (nI_le (Nat.le_refl _) (by omega)) c_11
theorem inX5_toldMany_5 : ∀ w ∈ wsX50, w ∈ wsX5_toldMany := by decide +kernel
set_option maxRecDepth 100000 in
set_option maxHeartbeats 4000000 in
/-- toldMany -/
theorem c_toldMany (l : Launch) (D : va_G) {dA : Nat → ClassId} {b : Nat} {tx : Nat → Int32} {ln : Int32} {fa : Int32} {st : Nat → Int32} {de : Nat → Int32} {dm : Int32} {sd : Int64} {im : Nat → Int32} {se : Nat → Int64} {kp : Nat → Int32} {pl : Int32} {wr : Int32} {dp : Int32} {su : Nat → Int32} {wa : Nat → Int32} {fc : Nat → Int32} {po : Nat → Int32} {ro : Nat → Int64} {ch : Nat → Int64} {ov : Nat → Int64} {f : Nat} {h : xH} {sz : Nat} {Post : Option Value → xH → Nat → Prop} (hf : f ≤ 6) (M : Md dA h b tx ln fa st de dm sd im se kp pl wr dp su wa fc po ro (nI f) ch ov) (hpost : Post (some (.int (nI (r_ct (fun j => r_su ro j f) 6)))) h sz) : xMet l yX5_toldMany wsX5_toldMany 1 23 0 0 D dA [.ref b] h sz Post := by
  refine x_open (cc := cX5_toldMany) (maxL := 3) (ret := (some .int)) (by decide) rfl (Nat.le_of_ble_eq_true rfl) ?_
  intro p e s m args below meth c G _
  have inX5 : ∀ w ∈ wsX50, w ∈ wsX5_toldMany := inX5_toldMany_5
  refine x_iconstV (v := nI 0) G dX5_toldMany_0 (by decide) ?_
  refine x_istore_n G dX5_toldMany_1 (by decide) ?_
  refine x_iconstV (v := nI 0) G dX5_toldMany_2 (by decide) ?_
  refine x_istore_n G dX5_toldMany_3 (by decide) ?_
  refine x_loop (σ := Unit) (fun k _ => [(0, .ref b), (1, .int (nI (r_ct (fun j => r_su ro j f) k))), (2, .int (nI k))]) 6 (fun k _ h1 sz1 => h = h1 ∧ sz = sz1) ?_ ?_ 0 () h sz (Nat.zero_le _) ⟨rfl, rfl⟩
  · intro k _ h1 sz1 hj hI nx
    try dsimp only at hI nx ⊢
    obtain ⟨rfl, rfl⟩ := hI
    refine x_iload_n G dX5_toldMany_4 rfl ?_
    refine x_bipushV (v := nI 6) G dX5_toldMany_5 (by decide) ?_
    refine x_icmp_ge G 32 dX5_toldMany_7 (by decide) (fun c_7 => ?_) (fun c_7 => ?_)
    · exact absurd c_7 (nI_ge hj (by omega))
    · refine x_iload_n G dX5_toldMany_10 rfl ?_
      refine x_aload_n G dX5_toldMany_11 rfl ?_
      refine x_iload_n G dX5_toldMany_12 rfl ?_
      refine x_callV (n := 1) (rest := [.int (nI (r_ct (fun j => r_su ro j f) k))]) (As := [.int (nI k)]) G (ci := 5) (c_isSure (Post := fun r7 h7 sz7 => r7 = some (.int (x_b (r_su ro k f = true))) ∧ h = h7 ∧ sz = sz7) l D hf (by omega) M ⟨rfl, rfl, rfl⟩) gX5_toldMany_X5_isSure rfl ⟨rfl, by decide +kernel, by decide +kernel, by decide +kernel⟩ ⟨by decide, by decide⟩ rfl rfl (md_o M) dX5_toldMany_13 rfl rfl (Nat.le_of_ble_eq_true rfl) ⟨by decide, by decide⟩ ?_
      rintro _ _ _ ⟨rfl, rfl, rfl⟩
      try dsimp only [Option.toList, List.cons_append, List.nil_append]
      refine x_if_eq G 23 dX5_toldMany_16 (by decide) (fun c_16 => ?_) (fun c_16 => ?_)
      · have ez : nI (r_ct (fun j => r_su ro j f) (k + 1)) = nI (r_ct (fun j => r_su ro j f) k) + nI 0 := by
          rw [nI_add]
          show nI (_ + (if _ then _ else _)) = _
          rw [if_neg (x_b_0.mp c_16)]
        refine x_iconstV (v := nI 0) G dX5_toldMany_23 (by decide) ?_
        refine x_iadd G dX5_toldMany_24 ?_
        refine x_istore_n G dX5_toldMany_25 (by decide) ?_
        refine x_iinc G dX5_toldMany_26 rfl (by decide) ?_
        refine x_goto G 4 dX5_toldMany_29 (by decide) ?_
        refine x_locE (lv2 := [(0, .ref b), (1, .int (nI (r_ct (fun j => r_su ro j f) (k + 1)))), (2, .int (nI (k + 1)))]) (by rw [ez, nI_succ k]; rfl) ?_
        exact nx () _ _ ⟨rfl, rfl⟩
      · have ez : nI (r_ct (fun j => r_su ro j f) (k + 1)) = nI (r_ct (fun j => r_su ro j f) k) + nI 1 := by
          rw [nI_add]
          show nI (_ + (if _ then _ else _)) = _
          rw [if_pos (x_b_n.mp c_16)]
        refine x_iconstV (v := nI 1) G dX5_toldMany_19 (by decide) ?_
        refine x_goto G 24 dX5_toldMany_20 (by decide) ?_
        refine x_iadd G dX5_toldMany_24 ?_
        refine x_istore_n G dX5_toldMany_25 (by decide) ?_
        refine x_iinc G dX5_toldMany_26 rfl (by decide) ?_
        refine x_goto G 4 dX5_toldMany_29 (by decide) ?_
        refine x_locE (lv2 := [(0, .ref b), (1, .int (nI (r_ct (fun j => r_su ro j f) (k + 1)))), (2, .int (nI (k + 1)))]) (by rw [ez, nI_succ k]; rfl) ?_
        exact nx () _ _ ⟨rfl, rfl⟩
  · intro _ h1 sz1 hI
    try dsimp only at hI ⊢
    obtain ⟨rfl, rfl⟩ := hI
    refine x_iload_n G dX5_toldMany_4 rfl ?_
    refine x_bipushV (v := nI 6) G dX5_toldMany_5 (by decide) ?_
    refine x_icmp_ge G 32 dX5_toldMany_7 (by decide) (fun c_7 => ?_) (fun c_7 => ?_)
    · refine x_iload_n G dX5_toldMany_32 rfl ?_
      exact x_iret G dX5_toldMany_33 hpost
    · exact absurd (nI_le (Nat.le_refl _) (by omega)) c_7
theorem inX5_fewestOf_5 : ∀ w ∈ wsX50, w ∈ wsX5_fewestOf := by decide +kernel
/-- all that is said is true by the sayings of the set m -/
def tall (st : Nat → Int32) (F : Nat → Nat) (Rw Cw : Nat → Nat → Int64) (m : Nat) : Nat → Bool
  | 0 => true
  | k + 1 => tall st F Rw Cw m k && r_tr (F m) st (1 + 10 * k) (Rw m) (Cw m)
/-- the best of the k greatest sets -/
def fwA (st : Nat → Int32) (n : Nat) (F : Nat → Nat) (Rw Cw : Nat → Nat → Int64) : Nat → Nat
  | 0 => 2 ^ n - 1
  | k + 1 => if r_bits (2 ^ n - 1 - k) ≤ r_bits (fwA st n F Rw Cw k) ∧ tall st F Rw Cw (2 ^ n - 1 - k) n = true then 2 ^ n - 1 - k else fwA st n F Rw Cw k
theorem fwA_lt {st : Nat → Int32} {n : Nat} {F : Nat → Nat} {Rw Cw : Nat → Nat → Int64} : ∀ k, fwA st n F Rw Cw k < 2 ^ n
  | 0 => by have := pw_pos n; show 2 ^ n - 1 < 2 ^ n; omega
  | k + 1 => by
    have := pw_pos n
    unfold fwA
    by_cases z : r_bits (2 ^ n - 1 - k) ≤ r_bits (fwA st n F Rw Cw k) ∧ tall st F Rw Cw (2 ^ n - 1 - k) n = true
    · rw [if_pos z]; omega
    · rw [if_neg z]; exact fwA_lt k
theorem r_bits_lt (n : Nat) : r_bits n < 100 := by unfold r_bits; omega
theorem tall_f {st : Nat → Int32} {F : Nat → Nat} {Rw Cw : Nat → Nat → Int64} {m : Nat} : ∀ {n k : Nat}, k ≤ n → tall st F Rw Cw m k = false → tall st F Rw Cw m n = false
  | 0, k, h, q => by rw [show k = 0 by omega] at q; exact q
  | n + 1, k, h, q => by
    rcases Nat.lt_or_ge n k with z | z
    · rw [show k = n + 1 by omega] at q; exact q
    · unfold tall
      rw [tall_f z q]
      rfl
theorem fw_end : ∀ n : Fin 7, nI (2 ^ n.val - 1) - nI (2 ^ n.val) = -1 := by decide +kernel
set_option maxRecDepth 100000 in
set_option maxHeartbeats 4000000 in
/-- fewestOf -/
theorem c_fewestOf (l : Launch) (D : va_G) {dA : Nat → ClassId} {b : Nat} {tx : Nat → Int32} {ln : Int32} {fa : Int32} {st : Nat → Int32} {de : Nat → Int32} {dm : Int32} {sd : Int64} {im : Nat → Int32} {se : Nat → Int64} {kp : Nat → Int32} {pl : Int32} {wr : Int32} {dp : Int32} {su : Nat → Int32} {wa : Nat → Int32} {fc : Nat → Int32} {po : Nat → Int32} {n : Nat} {F : Nat → Nat} {Rw Cw : Nat → Nat → Int64} {h : xH} {sz : Nat} {Post : Option Value → xH → Nat → Prop} (hn : st 0 = nI n) (hn6 : n ≤ 6) (hA : Ans st n F Rw Cw) (M : MS dA h b tx ln fa st de dm sd im se kp pl wr dp su wa fc po) (hpost : ∀ (h1 : xH) (sz1 : Nat), MS dA h1 b tx ln fa st de dm sd im se kp pl wr dp su wa fc po → xF b (b + 14) h h1 → Post (some (.int (nI (fwA st n F Rw Cw (2 ^ n))))) h1 sz1) : xMet l yX5_fewestOf wsX5_fewestOf 5 127 0 0 D dA [.ref b] h sz Post := by
  refine x_open (cc := cX5_fewestOf) (maxL := 5) (ret := (some .int)) (by decide) rfl (Nat.le_of_ble_eq_true rfl) ?_
  intro p e s m args below meth c G _
  have inX5 : ∀ w ∈ wsX50, w ∈ wsX5_fewestOf := inX5_fewestOf_5
  obtain ⟨ro, fr, ch, ov, M⟩ := M
  have hp := pw_pos n
  refine x_aload_n G dX5_fewestOf_0 rfl ?_
  refine x_callV (n := 0) (rest := []) (As := []) G (ci := 5) (c_allOf (Post := fun r7 h7 sz7 => r7 = some (.int (nI (2 ^ n - 1))) ∧ h = h7 ∧ sz = sz7) l D hn hn6 M ⟨rfl, rfl, rfl⟩) gX5_fewestOf_X5_allOf rfl ⟨rfl, by decide +kernel, by decide +kernel, by decide +kernel⟩ ⟨by decide, by decide⟩ rfl rfl (md_o M) dX5_fewestOf_1 rfl rfl (Nat.le_of_ble_eq_true rfl) ⟨by decide, by decide⟩ ?_
  rintro _ _ _ ⟨rfl, rfl, rfl⟩
  try dsimp only [Option.toList, List.cons_append, List.nil_append]
  refine x_istore_n G dX5_fewestOf_4 (by decide) ?_
  refine x_aload_n G dX5_fewestOf_5 rfl ?_
  refine x_callV (n := 0) (rest := []) (As := []) G (ci := 5) (c_allOf (Post := fun r7 h7 sz7 => r7 = some (.int (nI (2 ^ n - 1))) ∧ h = h7 ∧ sz = sz7) l D hn hn6 M ⟨rfl, rfl, rfl⟩) gX5_fewestOf_X5_allOf rfl ⟨rfl, by decide +kernel, by decide +kernel, by decide +kernel⟩ ⟨by decide, by decide⟩ rfl rfl (md_o M) dX5_fewestOf_6 rfl rfl (Nat.le_of_ble_eq_true rfl) ⟨by decide, by decide⟩ ?_
  rintro _ _ _ ⟨rfl, rfl, rfl⟩
  try dsimp only [Option.toList, List.cons_append, List.nil_append]
  refine x_istore_n G dX5_fewestOf_9 (by decide) ?_
  refine x_locE (lv2 := [(0, .ref b), (1, .int (nI (fwA st n F Rw Cw 0))), (2, .int (nI (2 ^ n - 1) - nI 0))]) (by rw [pk_sub (Nat.zero_le _)]; rfl) ?_
  refine x_loop (σ := Unit) (fun k _ => [(0, .ref b), (1, .int (nI (fwA st n F Rw Cw k))), (2, .int (nI (2 ^ n - 1) - nI k))]) (2 ^ n) (fun k _ h1 sz1 => MS dA h1 b tx ln fa st de dm sd im se kp pl wr dp su wa fc po ∧ xF b (b + 14) h h1) ?_ ?_ 0 () _ _ (Nat.zero_le _) ⟨⟨_, _, _, _, M⟩, xF_rf⟩
  · intro k _ h1 sz1 hk hI nx
    obtain ⟨⟨ro, fr, ch, ov, M⟩, F1⟩ := hI
    have h64 := two_le hn6 hk
    have e3 : nI (2 ^ n - 1) - nI k = nI (2 ^ n - 1 - k) := pk_sub (by omega)
    have e4 : nI (2 ^ n - 1 - k) + Int32.ofInt (-1) = nI (2 ^ n - 1) - nI (k + 1) := by
      rw [← e3, nI_succ k]
      show nI (2 ^ n - 1) - nI k + (-1) = nI (2 ^ n - 1) - (nI k + 1)
      grind
    have h2n : 2 ^ n ≤ 64 := Nat.le_trans (Nat.pow_le_pow_right (by decide) hn6) (by decide)
    refine x_iload_n G dX5_fewestOf_10 rfl ?_
    refine x_if_lt G 96 dX5_fewestOf_11 (by decide) (fun c_11 => ?_) (fun c_11 => ?_)
    · exact absurd c_11 (by rw [e3]; exact nI_pos (by omega))
    · rw [e3]
      have J80 : ∀ (is : Bool) (x4 : Int32) (h1 : xH) (sz1 : Nat), is = decide (r_bits (2 ^ n - 1 - k) ≤ r_bits (fwA st n F Rw Cw k) ∧ tall st F Rw Cw (2 ^ n - 1 - k) n = true) → MS dA h1 b tx ln fa st de dm sd im se kp pl wr dp su wa fc po → xF b (b + 14) h h1 → xV p l e (headSpec wsX5_fewestOf { frames := 5, cells := 0, slots := 0, locals := 127 }).room s m args below meth c D dA 5 h sz 0 0 Post 0 0 80 [(0, .ref b), (1, .int (nI (fwA st n F Rw Cw k))), (2, .int (nI (2 ^ n - 1 - k))), (3, .int (x_b (is = true))), (4, .int x4)] [] h1 sz1 := by
        intro is x4 h1 sz1 his M F1
        obtain ⟨ro, fr, ch, ov, M⟩ := M
        refine x_iload_n G dX5_fewestOf_80 rfl ?_
        refine x_if_eq G 88 dX5_fewestOf_81 (by decide) (fun c_81 => ?_) (fun c_81 => ?_)
        · have ez : nI (fwA st n F Rw Cw (k + 1)) = nI (fwA st n F Rw Cw k) := by
            show nI (if _ then _ else _) = _
            rw [if_neg (fun z => x_b_0.mp c_81 (by rw [his]; exact decide_eq_true z))]
          refine x_iload_n G dX5_fewestOf_88 rfl ?_
          refine x_istore_n G dX5_fewestOf_89 (by decide) ?_
          refine x_iinc G dX5_fewestOf_90 rfl (by decide) ?_
          refine x_goto G 10 dX5_fewestOf_93 (by decide) ?_
          refine x_keep [0, 1, 2] ?_
          refine x_locE (lv2 := [(0, .ref b), (1, .int (nI (fwA st n F Rw Cw (k + 1)))), (2, .int (nI (2 ^ n - 1) - nI (k + 1)))]) (by rw [ez, ← e4]; rfl) ?_
          exact nx () _ _ ⟨⟨_, _, _, _, M⟩, F1⟩
        · have ez : nI (fwA st n F Rw Cw (k + 1)) = nI (2 ^ n - 1 - k) := by
            show nI (if _ then _ else _) = _
            rw [if_pos (of_decide_eq_true (his.symm.trans (x_b_n.mp c_81)))]
          refine x_iload_n G dX5_fewestOf_84 rfl ?_
          refine x_goto G 89 dX5_fewestOf_85 (by decide) ?_
          refine x_istore_n G dX5_fewestOf_89 (by decide) ?_
          refine x_iinc G dX5_fewestOf_90 rfl (by decide) ?_
          refine x_goto G 10 dX5_fewestOf_93 (by decide) ?_
          refine x_keep [0, 1, 2] ?_
          refine x_locE (lv2 := [(0, .ref b), (1, .int (nI (fwA st n F Rw Cw (k + 1)))), (2, .int (nI (2 ^ n - 1) - nI (k + 1)))]) (by rw [ez, ← e4]; rfl) ?_
          exact nx () _ _ ⟨⟨_, _, _, _, M⟩, F1⟩
      refine x_iload_n G dX5_fewestOf_14 rfl ?_
      refine x_callS (n := 1) (rest := []) (As := [.int (nI (2 ^ n - 1 - k))]) G (c_bits (Post := fun r7 h7 sz7 => r7 = some (.int (nI (r_bits ((2 ^ n - 1 - k))))) ∧ h1 = h7 ∧ sz1 = sz7) l D (two_le hn6 (by omega)) ⟨rfl, rfl, rfl⟩) gX5_fewestOf_X5_bits rfl ⟨by decide +kernel, by decide +kernel, by decide +kernel⟩ ⟨by decide, by decide⟩ dX5_fewestOf_15 rfl rfl (Nat.le_of_ble_eq_true rfl) ⟨by decide, by decide⟩ ?_
      rintro _ _ _ ⟨rfl, rfl, rfl⟩
      try dsimp only [Option.toList, List.cons_append, List.nil_append]
      refine x_iload_n G dX5_fewestOf_18 rfl ?_
      refine x_callS (n := 1) (rest := [.int (nI (r_bits (2 ^ n - 1 - k)))]) (As := [.int (nI (fwA st n F Rw Cw k))]) G (c_bits (Post := fun r7 h7 sz7 => r7 = some (.int (nI (r_bits (fwA st n F Rw Cw k)))) ∧ h1 = h7 ∧ sz1 = sz7) l D (two_le hn6 (by exact fwA_lt k)) ⟨rfl, rfl, rfl⟩) gX5_fewestOf_X5_bits rfl ⟨by decide +kernel, by decide +kernel, by decide +kernel⟩ ⟨by decide, by decide⟩ dX5_fewestOf_19 rfl rfl (Nat.le_of_ble_eq_true rfl) ⟨by decide, by decide⟩ ?_
      rintro _ _ _ ⟨rfl, rfl, rfl⟩
      try dsimp only [Option.toList, List.cons_append, List.nil_append]
      refine x_icmp_gt G 29 dX5_fewestOf_22 (by decide) (fun c_22 => ?_) (fun c_22 => ?_)
      · have hb : ¬ r_bits (2 ^ n - 1 - k) ≤ r_bits (fwA st n F Rw Cw k) := fun z => absurd c_22 (nI_nlt z (Nat.lt_of_lt_of_le (r_bits_lt _) (by decide)))
        refine x_iconstV (v := x_b (false = true)) G dX5_fewestOf_29 (by decide) ?_
        refine x_istore_n G dX5_fewestOf_30 (by decide) ?_
        refine x_iload_n G dX5_fewestOf_31 rfl ?_
        refine x_if_eq G 40 dX5_fewestOf_32 (by decide) (fun _ => ?_) (fun q => absurd rfl q)
        refine x_iconstV (v := nI 0) G dX5_fewestOf_40 (by decide) ?_
        refine x_istore G dX5_fewestOf_41 (by decide) ?_
        refine x_iload G dX5_fewestOf_43 rfl ?_
        refine x_aload_n G dX5_fewestOf_45 rfl ?_
        refine x_get G kX5 inX5 3 (by decide) (by decide +kernel) dX5_fewestOf_46 (md_o M) rfl ?_
        refine x_iconstV (v := nI 0) G dX5_fewestOf_49 (by decide) ?_
        refine x_ialdN G dX5_fewestOf_50 (md_st M) (by omega) (by decide) ?_
        refine x_topE (y := nI n) hn ?_
        refine x_icmp_ge G 80 dX5_fewestOf_51 (by decide) (fun c_51 => ?_) (fun c_51 => ?_)
        · exact J80 false _ _ _ (decide_eq_false (fun z => hb z.1)).symm ⟨_, _, _, _, M⟩ F1
        · refine x_iload_n G dX5_fewestOf_54 rfl ?_
          refine x_if_eq G 80 dX5_fewestOf_55 (by decide) (fun c_55 => ?_) (fun c_55 => ?_)
          · exact J80 false _ _ _ (decide_eq_false (fun z => hb z.1)).symm ⟨_, _, _, _, M⟩ F1
          · exact absurd rfl c_55
      · have hb : r_bits (2 ^ n - 1 - k) ≤ r_bits (fwA st n F Rw Cw k) := by
          rcases Nat.lt_or_ge (r_bits (fwA st n F Rw Cw k)) (r_bits (2 ^ n - 1 - k)) with z | z
          · exact absurd (nI_lt z (Nat.lt_of_lt_of_le (r_bits_lt _) (by decide))) c_22
          · exact z
        refine x_iconstV (v := x_b (true = true)) G dX5_fewestOf_25 (by decide) ?_
        refine x_goto G 30 dX5_fewestOf_26 (by decide) ?_
        refine x_istore_n G dX5_fewestOf_30 (by decide) ?_
        refine x_iload_n G dX5_fewestOf_31 rfl ?_
        refine x_if_eq G 40 dX5_fewestOf_32 (by decide) (fun q => absurd q (by decide)) (fun _ => ?_)
        refine x_aload_n G dX5_fewestOf_35 rfl ?_
        refine x_iload_n G dX5_fewestOf_36 rfl ?_
        refine x_callV (n := 1) (rest := []) (As := [.int (nI (2 ^ n - 1 - k))]) G (ci := 5) (c_solvesA (Post := fun r7 h7 sz7 => r7 = none ∧ xF b (b + 14) h1 h7 ∧ ∃ ro9 ov9 c9 : Nat → Int64, (∀ i9, i9 < 6 * F ((2 ^ n - 1 - k)) → ro9 i9 = Rw ((2 ^ n - 1 - k)) i9) ∧ (∀ i9, i9 < 24 → c9 i9 = Cw ((2 ^ n - 1 - k)) i9) ∧ Md dA h7 b tx ln fa st de dm sd im se kp pl wr dp su wa fc po ro9 (nI (F ((2 ^ n - 1 - k)))) c9 ov9) (n := n) (m9 := (2 ^ n - 1 - k)) l D hn hn6 (by omega) hA ⟨_, _, _, _, M⟩ (fun h7 sz7 ro9 ov9 c9 a1 a2 q1 q2 => ⟨rfl, q2, ro9, ov9, c9, a1, a2, q1⟩)) gX5_fewestOf_X5_solves rfl ⟨rfl, by decide +kernel, by decide +kernel, by decide +kernel⟩ ⟨by decide, by decide⟩ rfl rfl (md_o M) dX5_fewestOf_37 rfl rfl (Nat.le_of_ble_eq_true rfl) ⟨by decide, by decide⟩ ?_
        rintro _ h1 sz1 ⟨rfl, F2, ro9, ov9, c9, a1, a2, M⟩
        try dsimp only [Option.toList, List.cons_append, List.nil_append]
        replace F1 := xF_tr F1 F2
        refine x_iconstV (v := nI 0) G dX5_fewestOf_40 (by decide) ?_
        refine x_istore G dX5_fewestOf_41 (by decide) ?_
        refine x_loop (σ := Unit) (fun j _ => [(0, .ref b), (1, .int (nI (fwA st n F Rw Cw k))), (2, .int (nI (2 ^ n - 1 - k))), (3, .int (x_b (tall st F Rw Cw (2 ^ n - 1 - k) j = true))), (4, .int (nI j))]) n (fun j _ h1 sz1 => Md dA h1 b tx ln fa st de dm sd im se kp pl wr dp su wa fc po ro9 (nI (F (2 ^ n - 1 - k))) c9 ov9 ∧ xF b (b + 14) h h1) ?_ ?_ 0 () _ _ (Nat.zero_le _) ⟨M, F1⟩
        · intro j _ h1 sz1 hj hI nxj
          try dsimp only at hI nxj ⊢
          obtain ⟨M, F1⟩ := hI
          refine x_iload G dX5_fewestOf_43 rfl ?_
          refine x_aload_n G dX5_fewestOf_45 rfl ?_
          refine x_get G kX5 inX5 3 (by decide) (by decide +kernel) dX5_fewestOf_46 (md_o M) rfl ?_
          refine x_iconstV (v := nI 0) G dX5_fewestOf_49 (by decide) ?_
          refine x_ialdN G dX5_fewestOf_50 (md_st M) (by omega) (by decide) ?_
          refine x_topE (y := nI n) hn ?_
          refine x_icmp_ge G 80 dX5_fewestOf_51 (by decide) (fun c_51 => ?_) (fun c_51 => ?_)
          · exact absurd c_51 (nI_ge hj (by omega))
          · refine x_iload_n G dX5_fewestOf_54 rfl ?_
            refine x_if_eq G 80 dX5_fewestOf_55 (by decide) (fun c_55 => ?_) (fun c_55 => ?_)
            · have e0 : tall st F Rw Cw (2 ^ n - 1 - k) j = false := by
                rcases Bool.eq_false_or_eq_true (tall st F Rw Cw (2 ^ n - 1 - k) j) with z | z
                · exact absurd z (x_b_0.mp c_55)
                · exact z
              rw [e0]
              exact J80 false _ _ _ (by rw [tall_f (by omega) e0]; exact (decide_eq_false (fun z => by cases z.2)).symm) ⟨_, _, _, _, M⟩ F1
            · have e1 := x_b_n.mp c_55
              refine x_aload_n G dX5_fewestOf_58 rfl ?_
              refine x_aload_n G dX5_fewestOf_59 rfl ?_
              refine x_get G kX5 inX5 3 (by decide) (by decide +kernel) dX5_fewestOf_60 (md_o M) rfl ?_
              refine x_iconstV (v := nI 1) G dX5_fewestOf_63 (by decide) ?_
              refine x_bipushV (v := nI 10) G dX5_fewestOf_64 (by decide) ?_
              refine x_iload G dX5_fewestOf_66 rfl ?_
              refine x_imul G dX5_fewestOf_68 ?_
              refine x_iadd G dX5_fewestOf_69 ?_
              refine x_topE (y := nI (1 + 10 * j)) (by rw [pk_mul, nI_add]) ?_
              refine x_callV (n := 2) (rest := []) (As := [.ref (b + 2), .int (nI (1 + 10 * j))]) G (ci := 5) (c_isTrue (Post := fun r7 h7 sz7 => r7 = some (.int (x_b (r_tr (F ((2 ^ n - 1 - k))) st (1 + 10 * j) (Rw ((2 ^ n - 1 - k))) (Cw ((2 ^ n - 1 - k))) = true))) ∧ h1 = h7 ∧ sz1 = sz7) (n := 69) (f := F ((2 ^ n - 1 - k))) l D (Ans_f hA (by omega)) (Or.inl ⟨rfl, rfl, rfl⟩) (by omega) M (by rw [r_tr_c a1 a2]; exact ⟨rfl, rfl, rfl⟩)) gX5_fewestOf_X5_isTrue rfl ⟨rfl, by decide +kernel, by decide +kernel, by decide +kernel⟩ ⟨by decide, by decide⟩ rfl rfl (md_o M) dX5_fewestOf_70 rfl rfl (Nat.le_of_ble_eq_true rfl) ⟨by decide, by decide⟩ ?_
              rintro _ _ _ ⟨rfl, rfl, rfl⟩
              try dsimp only [Option.toList, List.cons_append, List.nil_append]
              refine x_istore_n G dX5_fewestOf_73 (by decide) ?_
              refine x_iinc G dX5_fewestOf_74 rfl (by decide) ?_
              refine x_locE (lv2 := [(0, .ref b), (1, .int (nI (fwA st n F Rw Cw k))), (2, .int (nI (2 ^ n - 1 - k))), (3, .int (x_b (tall st F Rw Cw (2 ^ n - 1 - k) (j + 1) = true))), (4, .int (nI (j + 1)))]) (by rw [show tall st F Rw Cw (2 ^ n - 1 - k) (j + 1) = r_tr (F (2 ^ n - 1 - k)) st (1 + 10 * j) (Rw (2 ^ n - 1 - k)) (Cw (2 ^ n - 1 - k)) by show (tall st F Rw Cw (2 ^ n - 1 - k) j && _) = _; rw [e1]; rfl, nI_succ j]; rfl) ?_
              refine x_goto G 43 dX5_fewestOf_77 (by decide) ?_
              exact nxj () _ _ ⟨M, F1⟩
        · intro _ h1 sz1 hI
          try dsimp only at hI ⊢
          obtain ⟨M, F1⟩ := hI
          refine x_iload G dX5_fewestOf_43 rfl ?_
          refine x_aload_n G dX5_fewestOf_45 rfl ?_
          refine x_get G kX5 inX5 3 (by decide) (by decide +kernel) dX5_fewestOf_46 (md_o M) rfl ?_
          refine x_iconstV (v := nI 0) G dX5_fewestOf_49 (by decide) ?_
          refine x_ialdN G dX5_fewestOf_50 (md_st M) (by omega) (by decide) ?_
          refine x_topE (y := nI n) hn ?_
          refine x_icmp_ge G 80 dX5_fewestOf_51 (by decide) (fun c_51 => ?_) (fun c_51 => ?_)
          · exact J80 (tall st F Rw Cw (2 ^ n - 1 - k) n) _ _ _ (by rw [Bool.eq_iff_iff, decide_eq_true_iff]; exact ⟨fun z => ⟨hb, z⟩, fun z => z.2⟩) ⟨_, _, _, _, M⟩ F1
          · exact absurd (nI_le (Nat.le_refl _) (by omega)) c_51
  · intro _ h1 sz1 hI
    obtain ⟨⟨ro, fr, ch, ov, M⟩, F1⟩ := hI
    refine x_iload_n G dX5_fewestOf_10 rfl ?_
    refine x_if_lt G 96 dX5_fewestOf_11 (by decide) (fun _ => ?_) (fun q => absurd (by rw [fw_end ⟨n, by omega⟩]; decide) q)
    refine x_iload_n G dX5_fewestOf_96 rfl ?_
    exact x_iret G dX5_fewestOf_97 (hpost _ _ ⟨_, _, _, _, M⟩ F1)
