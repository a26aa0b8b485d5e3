theorem r_ad_f {g f : Nat} {p : Nat → Int32} {q : Nat} {ro ov c : Nat → Int64} {is9 : Bool} {f9 : Nat} {ro9 ov9 c9 : Nat → Int64} (k : r_ad g f p q ro ov c = some (is9, f9, ro9, ov9, c9)) : f9 ≤ f := by
  unfold r_ad at k
  cases h1 : aG g f ro (aK p q ro ov f) with
  | none => rw [h1] at k; cases k
  | some w =>
    obtain ⟨one, ro1, ov1⟩ := w
    rw [h1] at k
    dsimp only at k
    cases h2 : r_or g (if one then f - 1 else f) (if one then aS ro1 (6 * (f - 1)) else ro1) ov1 (aB one p q ro1 (ov1 0) c 4).2 with
    | none => rw [h2] at k; cases k
    | some w =>
      obtain ⟨a1, a2, a3⟩ := w
      rw [h2] at k
      cases k
      cases one
      · exact Nat.le_refl _
      · exact Nat.sub_le _ _
/-- solves: the first k sayings of the set m -/
def r_so (g : Nat) (st : Nat → Int32) (m : Nat) (ro ov c : Nat → Int64) : Nat → Option (Nat × (Nat → Int64) × (Nat → Int64) × (Nat → Int64))
  | 0 => some (6, r_id ro 36, ov, r_ze c 24)
  | k + 1 => match r_so g st m ro ov c k with
    | none => none
    | some (f, ro1, ov1, c1) => if m.testBit k = true then match r_ad g f st (1 + 10 * k) ro1 ov1 c1 with
        | none => none
        | some (_, f2, ro2, ov2, c2) => some (f2, ro2, ov2, c2)
      else some (f, ro1, ov1, c1)
theorem r_so_f {g : Nat} {st : Nat → Int32} {m : Nat} {ro ov c : Nat → Int64} : ∀ {k f : Nat} {ro9 ov9 c9 : Nat → Int64}, r_so g st m ro ov c k = some (f, ro9, ov9, c9) → f ≤ 6
  | 0, _, _, _, _, q => by cases q; exact Nat.le_refl _
  | k + 1, f, ro9, ov9, c9, q => by
    unfold r_so at q
    cases h1 : r_so g st m ro ov c k with
    | none => rw [h1] at q; cases q
    | some w =>
      obtain ⟨f1, ro1, ov1, c1⟩ := w
      have i1 := r_so_f h1
      rw [h1] at q
      dsimp only at q
      by_cases z : m.testBit k = true
      · rw [if_pos z] at q
        cases h2 : r_ad g f1 st (1 + 10 * k) ro1 ov1 c1 with
        | none => rw [h2] at q; cases q
        | some w =>
          obtain ⟨is2, f2, ro2, ov2, c2⟩ := w
          rw [h2] at q
          cases q
          exact Nat.le_trans (r_ad_f h2) i1
      · rw [if_neg z] at q
        cases q
        exact i1
theorem r_so_some {g : Nat} {st : Nat → Int32} {m : Nat} {ro ov c : Nat → Int64} : ∀ {n k : Nat} {w : Nat × (Nat → Int64) × (Nat → Int64) × (Nat → Int64)}, k ≤ n → r_so g st m ro ov c n = some w → ∃ w1, r_so g st m ro ov c k = some w1
  | 0, k, w, h, q => ⟨w, by rw [show k = 0 by omega]; exact q⟩
  | n + 1, k, w, h, q => by
    rcases Nat.lt_or_ge n k with z | z
    · exact ⟨w, by rw [show k = n + 1 by omega]; exact q⟩
    · unfold r_so at q
      cases hn : r_so g st m ro ov c n with
      | none => rw [hn] at q; cases q
      | some w1 => exact r_so_some z hn
theorem has_bit : ∀ (m : Fin 64) (k : Fin 6), ((nI m.val >>> (nI k.val &&& 31)) &&& nI 1 = nI 1) ↔ m.val.testBit k.val = true := by decide +kernel
theorem all_of : ∀ n : Fin 7, (nI 1 <<< (nI n.val &&& 31)) - nI 1 = nI (2 ^ n.val - 1) := by decide +kernel
theorem inX5_solves_5 : ∀ w ∈ wsX50, w ∈ wsX5_solves := by decide +kernel
set_option maxRecDepth 100000 in
set_option maxHeartbeats 4000000 in
/-- solves -/
theorem c_solves (l : Launch) (D : va_G) {dA : Nat → ClassId} {b : Nat} {tx : Nat → Int32} {ln : Int32} {fa : Int32} {st : Nat → Int32} {de : Nat → Int32} {dm : Int32} {sd : Int64} {im : Nat → Int32} {se : Nat → Int64} {kp : Nat → Int32} {pl : Int32} {wr : Int32} {dp : Int32} {su : Nat → Int32} {wa : Nat → Int32} {fc : Nat → Int32} {po : Nat → Int32} {ro : Nat → Int64} {fr : Int32} {ch : Nat → Int64} {ov : Nat → Int64} {n m9 g f9 : Nat} {ro9 ov9 c9 : Nat → Int64} {h : xH} {sz : Nat} {Post : Option Value → xH → Nat → Prop} (hn : st 0 = nI n) (hn6 : n ≤ 6) (hm : m9 < 64) (hso : r_so g st m9 ro ov ch n = some (f9, ro9, ov9, c9)) (M : Md dA h b tx ln fa st de dm sd im se kp pl wr dp su wa fc po ro fr ch ov) (hpost : ∀ (h1 : xH) (sz1 : Nat), Md dA h1 b tx ln fa st de dm sd im se kp pl wr dp su wa fc po ro9 (nI f9) c9 ov9 → xF b (b + 14) h h1 → Post none h1 sz1) : xMet l yX5_solves wsX5_solves 4 105 0 0 D dA [.ref b, .int (nI m9)] h sz Post := by
  refine x_open (cc := cX5_solves) (maxL := 3) (ret := none) (by decide) rfl (Nat.le_of_ble_eq_true rfl) ?_
  intro p e s m args below meth c G _
  have inX5 : ∀ w ∈ wsX50, w ∈ wsX5_solves := inX5_solves_5
  refine x_aload_n G dX5_solves_0 rfl ?_
  refine x_callV (n := 0) (rest := []) (As := []) G (ci := 5) (c_startsFree (Post := fun r7 h7 sz7 => r7 = none ∧ Md dA h7 b tx ln fa st de dm sd im se kp pl wr dp su wa fc po (r_id ro 36) (nI 6) (r_ze ch 24) ov ∧ xF b (b + 14) h h7) l D M (fun h7 sz7 q1 q2 => ⟨rfl, q1, q2⟩)) gX5_solves_X5_startsFree rfl ⟨rfl, by decide +kernel, by decide +kernel, by decide +kernel⟩ ⟨by decide, by decide⟩ rfl rfl (md_o M) dX5_solves_1 rfl rfl (Nat.le_of_ble_eq_true rfl) ⟨by decide, by decide⟩ ?_
  rintro _ h1 sz1 ⟨rfl, M, F⟩
  try dsimp only [Option.toList, List.cons_append, List.nil_append]
  refine x_iconstV (v := nI 0) G dX5_solves_4 (by decide) ?_
  refine x_istore_n G dX5_solves_5 (by decide) ?_
  refine x_loop (σ := Nat × (Nat → Int64) × (Nat → Int64) × (Nat → Int64)) (fun k u => [(0, .ref b), (1, .int (nI m9)), (2, .int (nI k))]) n (fun k u h1 sz1 => r_so g st m9 ro ov ch k = some u ∧ Md dA h1 b tx ln fa st de dm sd im se kp pl wr dp su wa fc po u.2.1 (nI u.1) u.2.2.2 u.2.2.1 ∧ xF b (b + 14) h h1) ?_ ?_ 0 (6, r_id ro 36, ov, r_ze ch 24) _ _ (Nat.zero_le _) ⟨rfl, M, F⟩
  · intro k u h1 sz1 hj hI nx
    try dsimp only at hI nx ⊢
    obtain ⟨hr1, M, F⟩ := hI
    obtain ⟨f1, ro1, ov1, c1⟩ := u
    dsimp only at M
    have hf1 := r_so_f hr1
    obtain ⟨w2, hr2⟩ := r_so_some (k := k + 1) (by omega) hso
    have hr3 := hr2
    refine x_iload_n G dX5_solves_6 rfl ?_
    refine x_aload_n G dX5_solves_7 rfl ?_
    refine x_get G kX5 inX5 3 (by decide) (by decide +kernel) dX5_solves_8 (md_o M) rfl ?_
    refine x_iconstV (v := nI 0) G dX5_solves_11 (by decide) ?_
    refine x_ialdN G dX5_solves_12 (md_st M) (by omega) (by decide) ?_
    refine x_topE (y := nI n) hn ?_
    refine x_icmp_ge G 45 dX5_solves_13 (by decide) (fun c_13 => ?_) (fun c_13 => ?_)
    · exact absurd c_13 (nI_ge hj (by omega))
    · refine x_iload_n G dX5_solves_16 rfl ?_
      refine x_iload_n G dX5_solves_17 rfl ?_
      refine x_callS (n := 2) (rest := []) (As := [.int (nI m9), .int (nI k)]) G (c_has (Post := fun r7 h7 sz7 => r7 = some (.int (x_b ((nI m9 >>> (nI k &&& 31)) &&& nI 1 = nI 1))) ∧ h1 = h7 ∧ sz1 = sz7) l D ⟨rfl, rfl, rfl⟩) gX5_solves_X5_has rfl ⟨by decide +kernel, by decide +kernel, by decide +kernel⟩ ⟨by decide, by decide⟩ dX5_solves_18 rfl rfl (Nat.le_of_ble_eq_true rfl) ⟨by decide, by decide⟩ ?_
      rintro _ _ _ ⟨rfl, rfl, rfl⟩
      try dsimp only [Option.toList, List.cons_append, List.nil_append]
      refine x_if_eq G 39 dX5_solves_21 (by decide) (fun c_21 => ?_) (fun c_21 => ?_)
      · have z : ¬ m9.testBit k = true := fun z => x_b_0.mp c_21 ((has_bit ⟨m9, hm⟩ ⟨k, by omega⟩).mpr z)
        unfold r_so at hr2
        rw [hr1] at hr2
        dsimp only at hr2
        rw [if_neg z] at hr2
        cases hr2
        refine x_iinc G dX5_solves_39 rfl (by decide) ?_
        refine x_goto G 6 dX5_solves_42 (by decide) ?_
        refine x_locE (lv2 := [(0, .ref b), (1, .int (nI m9)), (2, .int (nI (k + 1)))]) (by rw [nI_succ k]; rfl) ?_
        exact nx (f1, ro1, ov1, c1) _ _ ⟨hr3, M, F⟩
      · have z := (has_bit ⟨m9, hm⟩ ⟨k, by omega⟩).mp (x_b_n.mp c_21)
        unfold r_so at hr2
        rw [hr1] at hr2
        dsimp only at hr2 z
        rw [if_pos z] at hr2
        cases h2 : r_ad g f1 st (1 + 10 * k) ro1 ov1 c1 with
        | none => rw [h2] at hr2; cases hr2
        | some w3 =>
        obtain ⟨is2, f2, ro2, ov2, c2⟩ := w3
        rw [h2] at hr2
        cases hr2
        refine x_aload_n G dX5_solves_24 rfl ?_
        refine x_aload_n G dX5_solves_25 rfl ?_
        refine x_get G kX5 inX5 3 (by decide) (by decide +kernel) dX5_solves_26 (md_o M) rfl ?_
        refine x_iconstV (v := nI 1) G dX5_solves_29 (by decide) ?_
        refine x_bipushV (v := nI 10) G dX5_solves_30 (by decide) ?_
        refine x_iload_n G dX5_solves_32 rfl ?_
        refine x_imul G dX5_solves_33 ?_
        refine x_iadd G dX5_solves_34 ?_
        refine x_topE (y := nI (1 + 10 * k)) (by rw [pk_mul, nI_add]) ?_
        refine x_callV (n := 2) (rest := []) (As := [.ref (b + 2), .int (nI (1 + 10 * k))]) G (ci := 5) (c_adds (Post := fun r7 h7 sz7 => r7 = some (.int (x_b (is2 = true))) ∧ Md dA h7 b tx ln fa st de dm sd im se kp pl wr dp su wa fc po ro2 (nI f2) c2 ov2 ∧ xF b (b + 14) h1 h7) (n := 69) (f := f1) (g := g) (f9 := f2) (is9 := is2) (ro9 := ro2) (ov9 := ov2) (c9 := c2) l D hf1 (Or.inl ⟨rfl, rfl, rfl⟩) (by omega) h2 M (fun h7 sz7 q1 q2 => ⟨rfl, q1, q2⟩)) gX5_solves_X5_adds rfl ⟨rfl, by decide +kernel, by decide +kernel, by decide +kernel⟩ ⟨by decide, by decide⟩ rfl rfl (md_o M) dX5_solves_35 rfl rfl (Nat.le_of_ble_eq_true rfl) ⟨by decide, by decide⟩ ?_
        rintro _ h1 sz1 ⟨rfl, M, F2⟩
        try dsimp only [Option.toList, List.cons_append, List.nil_append]
        replace F := xF_tr F F2
        refine x_pop G dX5_solves_38 rfl ?_
        refine x_iinc G dX5_solves_39 rfl (by decide) ?_
        refine x_goto G 6 dX5_solves_42 (by decide) ?_
        refine x_locE (lv2 := [(0, .ref b), (1, .int (nI m9)), (2, .int (nI (k + 1)))]) (by rw [nI_succ k]; rfl) ?_
        exact nx (f2, ro2, ov2, c2) _ _ ⟨hr3, M, F⟩
  · intro u h1 sz1 hI
    try dsimp only at hI ⊢
    obtain ⟨hr1, M, F⟩ := hI
    obtain ⟨f1, ro1, ov1, c1⟩ := u
    dsimp only at M
    refine x_iload_n G dX5_solves_6 rfl ?_
    refine x_aload_n G dX5_solves_7 rfl ?_
    refine x_get G kX5 inX5 3 (by decide) (by decide +kernel) dX5_solves_8 (md_o M) rfl ?_
    refine x_iconstV (v := nI 0) G dX5_solves_11 (by decide) ?_
    refine x_ialdN G dX5_solves_12 (md_st M) (by omega) (by decide) ?_
    refine x_topE (y := nI n) hn ?_
    refine x_icmp_ge G 45 dX5_solves_13 (by decide) (fun c_13 => ?_) (fun c_13 => ?_)
    · exact x_vret G dX5_solves_45 (hpost _ _ (by rw [hso] at hr1; cases hr1; exact M) F)
    · exact absurd (nI_le (Nat.le_refl _) (by omega)) c_13
theorem inX5_allOf_5 : ∀ w ∈ wsX50, w ∈ wsX5_allOf := by decide +kernel
set_option maxRecDepth 100000 in
set_option maxHeartbeats 4000000 in
/-- allOf -/
theorem c_allOf (l : Launch) (D : va_G) {dA : Nat → ClassId} {b : Nat} {tx : Nat → Int32} {ln : Int32} {fa : Int32} {st : Nat → Int32} {de : Nat → Int32} {dm : Int32} {sd : Int64} {im : Nat → Int32} {se : Nat → Int64} {kp : Nat → Int32} {pl : Int32} {wr : Int32} {dp : Int32} {su : Nat → Int32} {wa : Nat → Int32} {fc : Nat → Int32} {po : Nat → Int32} {ro : Nat → Int64} {fr : Int32} {ch : Nat → Int64} {ov : Nat → Int64} {n : Nat} {h : xH} {sz : Nat} {Post : Option Value → xH → Nat → Prop} (hn : st 0 = nI n) (hn6 : n ≤ 6) (M : Md dA h b tx ln fa st de dm sd im se kp pl wr dp su wa fc po ro fr ch ov) (hpost : Post (some (.int (nI (2 ^ n - 1)))) h sz) : xMet l yX5_allOf wsX5_allOf 0 0 0 0 D dA [.ref b] h sz Post := by
  refine x_open (cc := cX5_allOf) (maxL := 1) (ret := (some .int)) (by decide) rfl (Nat.le_of_ble_eq_true rfl) ?_
  intro p e s m args below meth c G _
  have inX5 : ∀ w ∈ wsX50, w ∈ wsX5_allOf := inX5_allOf_5
  refine x_iconstV (v := nI 1) G dX5_allOf_0 (by decide) ?_
  refine x_aload_n G dX5_allOf_1 rfl ?_
  refine x_get G kX5 inX5 3 (by decide) (by decide +kernel) dX5_allOf_2 (md_o M) rfl ?_
  refine x_iconstV (v := nI 0) G dX5_allOf_5 (by decide) ?_
  refine x_ialdN G dX5_allOf_6 (md_st M) (by omega) (by decide) ?_
  refine x_topE (y := nI n) hn ?_
  refine x_ishl G dX5_allOf_7 ?_
  refine x_iconstV (v := nI 1) G dX5_allOf_8 (by decide) ?_
  refine x_isub G dX5_allOf_9 ?_
  refine x_topE (y := nI (2 ^ n - 1)) (all_of ⟨n, by omega⟩) ?_
  exact x_iret G dX5_allOf_10 hpost
theorem inX5_isTrue_5 : ∀ w ∈ wsX50, w ∈ wsX5_isTrue := by decide +kernel
def tI (p : Nat → Int32) (q : Nat) (ro : Nat → Int64) : Nat → Bool
  | 0 => true
  | k + 1 => tI p q ro k && (r_dot 0 p q ro (6 * k) 6 == 0)
def tB (x : Bool) (p : Nat → Int32) (q : Nat) (c : Nat → Int64) : Nat → Bool
  | 0 => x
  | k + 1 => tB x p q c k && (aT p q c k == 0)
/-- isTrue -/
def r_tr (f : Nat) (p : Nat → Int32) (q : Nat) (ro c : Nat → Int64) : Bool := tB (tI p q ro f) p q c 4
set_option maxRecDepth 100000 in
set_option maxHeartbeats 4000000 in
/-- isTrue -/
theorem c_isTrue (l : Launch) (D : va_G) {dA : Nat → ClassId} {b a n q : Nat} {po1 : Nat → Int32} {tx : Nat → Int32} {ln : Int32} {fa : Int32} {st : Nat → Int32} {de : Nat → Int32} {dm : Int32} {sd : Int64} {im : Nat → Int32} {se : Nat → Int64} {kp : Nat → Int32} {pl : Int32} {wr : Int32} {dp : Int32} {su : Nat → Int32} {wa : Nat → Int32} {fc : Nat → Int32} {po : Nat → Int32} {ro : Nat → Int64} {ch : Nat → Int64} {ov : Nat → Int64} {f : Nat} {h : xH} {sz : Nat} {Post : Option Value → xH → Nat → Prop} (hf : f ≤ 6) (ha : md_P b a n st po po1) (hq : q + 10 ≤ n) (M : Md dA h b tx ln fa st de dm sd im se kp pl wr dp su wa fc po ro (nI f) ch ov) (hpost : Post (some (.int (x_b (r_tr f po1 q ro ch = true)))) h sz) : xMet l yX5_isTrue wsX5_isTrue 1 26 0 0 D dA [.ref b, .ref a, .int (nI q)] h sz Post := by
  refine x_open (cc := cX5_isTrue) (maxL := 5) (ret := (some .boolean)) (by decide) rfl (Nat.le_of_ble_eq_true rfl) ?_
  intro p e s m args below meth c G _
  have inX5 : ∀ w ∈ wsX50, w ∈ wsX5_isTrue := inX5_isTrue_5
  refine x_iconstV (v := nI 1) G dX5_isTrue_0 (by decide) ?_
  refine x_istore_n G dX5_isTrue_1 (by decide) ?_
  refine x_iconstV (v := nI 0) G dX5_isTrue_2 (by decide) ?_
  refine x_istore G dX5_isTrue_3 (by decide) ?_
  refine x_loop (σ := Unit) (fun k _ => [(0, .ref b), (1, .ref a), (2, .int (nI q)), (3, .int (x_b (tI po1 q ro k = true))), (4, .int (nI k))]) f (fun k _ h1 sz1 => h = h1 ∧ sz = sz1) ?_ ?_ 0 () h sz (Nat.zero_le _) ⟨rfl, rfl⟩
  · intro k _ h1 sz1 hj hI nx
    try dsimp only at hI nx ⊢
    obtain ⟨rfl, rfl⟩ := hI
    obtain ⟨v0, hv0⟩ : ∃ v0 : Int32, v0 = 0 := ⟨_, rfl⟩
    obtain ⟨v1, hv1⟩ : ∃ v1 : Int32, v1 = 1 := ⟨_, rfl⟩
    refine x_iload G dX5_isTrue_5 rfl ?_
    refine x_aload_n G dX5_isTrue_7 rfl ?_
    refine x_get G kX5 inX5 18 (by decide) (by decide +kernel) dX5_isTrue_8 (md_o M) rfl ?_
    refine x_icmp_ge G 43 dX5_isTrue_11 (by decide) (fun c_11 => ?_) (fun c_11 => ?_)
    · exact absurd c_11 (nI_ge hj (by omega))
    · refine x_iload_n G dX5_isTrue_14 rfl ?_
      refine x_if_eq G 35 dX5_isTrue_15 (by decide) (fun c_15 => ?_) (fun c_15 => ?_)
      · have ez : v0 = x_b ((tI po1 q ro k && (r_dot 0 po1 q ro (6 * k) 6 == 0)) = true) := by
          rw [x_b_f (fun z => x_b_0.mp c_15 ((Bool.and_eq_true _ _).mp z).1)]; exact hv0
        refine x_iconstV (v := v0) G dX5_isTrue_35 (by rw [hv0]; decide) ?_
        refine x_istore_n G dX5_isTrue_36 (by decide) ?_
        refine x_iinc G dX5_isTrue_37 rfl (by decide) ?_
        refine x_goto G 5 dX5_isTrue_40 (by decide) ?_
        refine x_locE (lv2 := [(0, .ref b), (1, .ref a), (2, .int (nI q)), (3, .int (x_b (tI po1 q ro (k + 1) = true))), (4, .int (nI (k + 1)))]) (by rw [ez, nI_succ k]; rfl) ?_
        exact nx () _ _ ⟨rfl, rfl⟩
      · have e1 := x_b_n.mp c_15
        refine x_aload_n G dX5_isTrue_18 rfl ?_
        refine x_aload_n G dX5_isTrue_19 rfl ?_
        refine x_iload_n G dX5_isTrue_20 rfl ?_
        refine x_iload G dX5_isTrue_21 rfl ?_
        refine x_callV (n := 3) (rest := []) (As := [.ref a, .int (nI q), .int (nI k)]) G (ci := 5) (c_sumOf (Post := fun r7 h7 sz7 => r7 = some (.long (r_dot 0 po1 q ro (6 * k) 6)) ∧ h = h7 ∧ sz = sz7) (i := k) l D (by omega) (by omega) (md_Pn ha) (md_p ha M) M ⟨rfl, rfl, rfl⟩) gX5_isTrue_X5_sumOf rfl ⟨rfl, by decide +kernel, by decide +kernel, by decide +kernel⟩ ⟨by decide, by decide⟩ rfl rfl (md_o M) dX5_isTrue_23 rfl rfl (Nat.le_of_ble_eq_true rfl) ⟨by decide, by decide⟩ ?_
        rintro _ _ _ ⟨rfl, rfl, rfl⟩
        try dsimp only [Option.toList, List.cons_append, List.nil_append]
        refine x_lconstV (v := 0) G dX5_isTrue_26 (by decide) ?_
        refine x_lcmp G dX5_isTrue_27 ?_
        refine x_if_ne G 35 dX5_isTrue_28 (by decide) (fun c_28 => ?_) (fun c_28 => ?_)
        · have ez : v0 = x_b ((tI po1 q ro k && (r_dot 0 po1 q ro (6 * k) 6 == 0)) = true) := by
            rw [x_b_f (fun z => c_28 ((x_lgeq _ _).mpr (eq_of_beq ((Bool.and_eq_true _ _).mp z).2)))]; exact hv0
          refine x_iconstV (v := v0) G dX5_isTrue_35 (by rw [hv0]; decide) ?_
          refine x_istore_n G dX5_isTrue_36 (by decide) ?_
          refine x_iinc G dX5_isTrue_37 rfl (by decide) ?_
          refine x_goto G 5 dX5_isTrue_40 (by decide) ?_
          refine x_locE (lv2 := [(0, .ref b), (1, .ref a), (2, .int (nI q)), (3, .int (x_b (tI po1 q ro (k + 1) = true))), (4, .int (nI (k + 1)))]) (by rw [ez, nI_succ k]; rfl) ?_
          exact nx () _ _ ⟨rfl, rfl⟩
        · have ez : v1 = x_b ((tI po1 q ro k && (r_dot 0 po1 q ro (6 * k) 6 == 0)) = true) := by
            rw [x_b_t (by rw [e1]; exact beq_iff_eq.mpr ((x_lgeq _ _).mp c_28))]; exact hv1
          refine x_iconstV (v := v1) G dX5_isTrue_31 (by rw [hv1]; decide) ?_
          refine x_goto G 36 dX5_isTrue_32 (by decide) ?_
          refine x_istore_n G dX5_isTrue_36 (by decide) ?_
          refine x_iinc G dX5_isTrue_37 rfl (by decide) ?_
          refine x_goto G 5 dX5_isTrue_40 (by decide) ?_
          refine x_locE (lv2 := [(0, .ref b), (1, .ref a), (2, .int (nI q)), (3, .int (x_b (tI po1 q ro (k + 1) = true))), (4, .int (nI (k + 1)))]) (by rw [ez, nI_succ k]; rfl) ?_
          exact nx () _ _ ⟨rfl, rfl⟩
  · intro _ h1 sz1 hI
    try dsimp only at hI ⊢
    obtain ⟨rfl, rfl⟩ := hI
    refine x_iload G dX5_isTrue_5 rfl ?_
    refine x_aload_n G dX5_isTrue_7 rfl ?_
    refine x_get G kX5 inX5 18 (by decide) (by decide +kernel) dX5_isTrue_8 (md_o M) rfl ?_
    refine x_icmp_ge G 43 dX5_isTrue_11 (by decide) (fun c_11 => ?_) (fun c_11 => ?_)
    · refine x_iconstV (v := nI 0) G dX5_isTrue_43 (by decide) ?_
      refine x_istore G dX5_isTrue_44 (by decide) ?_
      refine x_loop (σ := Unit) (fun k _ => [(0, .ref b), (1, .ref a), (2, .int (nI q)), (3, .int (x_b (tB (tI po1 q ro f) po1 q ch k = true))), (4, .int (nI k))]) 4 (fun k _ h1 sz1 => h = h1 ∧ sz = sz1) ?_ ?_ 0 () h sz (Nat.zero_le _) ⟨rfl, rfl⟩
      · intro k _ h1 sz1 hj hI nx
        try dsimp only at hI nx ⊢
        obtain ⟨rfl, rfl⟩ := hI
        obtain ⟨v0, hv0⟩ : ∃ v0 : Int32, v0 = 0 := ⟨_, rfl⟩
        obtain ⟨v1, hv1⟩ : ∃ v1 : Int32, v1 = 1 := ⟨_, rfl⟩
        refine x_iload G dX5_isTrue_46 rfl ?_
        refine x_iconstV (v := nI 4) G dX5_isTrue_48 (by decide) ?_
        refine x_icmp_ge G 81 dX5_isTrue_49 (by decide) (fun c_49 => ?_) (fun c_49 => ?_)
        · exact absurd c_49 (nI_ge hj (by omega))
        · refine x_iload_n G dX5_isTrue_52 rfl ?_
          refine x_if_eq G 73 dX5_isTrue_53 (by decide) (fun c_53 => ?_) (fun c_53 => ?_)
          · have ez : v0 = x_b ((tB (tI po1 q ro f) po1 q ch k && (aT po1 q ch k == 0)) = true) := by
              rw [x_b_f (fun z => x_b_0.mp c_53 ((Bool.and_eq_true _ _).mp z).1)]; exact hv0
            refine x_iconstV (v := v0) G dX5_isTrue_73 (by rw [hv0]; decide) ?_
            refine x_istore_n G dX5_isTrue_74 (by decide) ?_
            refine x_iinc G dX5_isTrue_75 rfl (by decide) ?_
            refine x_goto G 46 dX5_isTrue_78 (by decide) ?_
            refine x_locE (lv2 := [(0, .ref b), (1, .ref a), (2, .int (nI q)), (3, .int (x_b (tB (tI po1 q ro f) po1 q ch (k + 1) = true))), (4, .int (nI (k + 1)))]) (by rw [ez, nI_succ k]; rfl) ?_
            exact nx () _ _ ⟨rfl, rfl⟩
          · have e1 := x_b_n.mp c_53
            refine x_aload_n G dX5_isTrue_56 rfl ?_
            refine x_aload_n G dX5_isTrue_57 rfl ?_
            refine x_iload_n G dX5_isTrue_58 rfl ?_
            refine x_iload G dX5_isTrue_59 rfl ?_
            refine x_callV (n := 3) (rest := []) (As := [.ref a, .int (nI q), .int (nI k)]) G (ci := 5) (c_restOf (Post := fun r7 h7 sz7 => r7 = some (.long (aT po1 q ch k)) ∧ h = h7 ∧ sz = sz7) (i := k) l D (by omega) (by omega) (md_Pn ha) (md_p ha M) M ⟨rfl, rfl, rfl⟩) gX5_isTrue_X5_restOf rfl ⟨rfl, by decide +kernel, by decide +kernel, by decide +kernel⟩ ⟨by decide, by decide⟩ rfl rfl (md_o M) dX5_isTrue_61 rfl rfl (Nat.le_of_ble_eq_true rfl) ⟨by decide, by decide⟩ ?_
            rintro _ _ _ ⟨rfl, rfl, rfl⟩
            try dsimp only [Option.toList, List.cons_append, List.nil_append]
            refine x_lconstV (v := 0) G dX5_isTrue_64 (by decide) ?_
            refine x_lcmp G dX5_isTrue_65 ?_
            refine x_if_ne G 73 dX5_isTrue_66 (by decide) (fun c_66 => ?_) (fun c_66 => ?_)
            · have ez : v0 = x_b ((tB (tI po1 q ro f) po1 q ch k && (aT po1 q ch k == 0)) = true) := by
                rw [x_b_f (fun z => c_66 ((x_lgeq _ _).mpr (eq_of_beq ((Bool.and_eq_true _ _).mp z).2)))]; exact hv0
              refine x_iconstV (v := v0) G dX5_isTrue_73 (by rw [hv0]; decide) ?_
              refine x_istore_n G dX5_isTrue_74 (by decide) ?_
              refine x_iinc G dX5_isTrue_75 rfl (by decide) ?_
              refine x_goto G 46 dX5_isTrue_78 (by decide) ?_
              refine x_locE (lv2 := [(0, .ref b), (1, .ref a), (2, .int (nI q)), (3, .int (x_b (tB (tI po1 q ro f) po1 q ch (k + 1) = true))), (4, .int (nI (k + 1)))]) (by rw [ez, nI_succ k]; rfl) ?_
              exact nx () _ _ ⟨rfl, rfl⟩
            · have ez : v1 = x_b ((tB (tI po1 q ro f) po1 q ch k && (aT po1 q ch k == 0)) = true) := by
                rw [x_b_t (by rw [e1]; exact beq_iff_eq.mpr ((x_lgeq _ _).mp c_66))]; exact hv1
              refine x_iconstV (v := v1) G dX5_isTrue_69 (by rw [hv1]; decide) ?_
              refine x_goto G 74 dX5_isTrue_70 (by decide) ?_
              refine x_istore_n G dX5_isTrue_74 (by decide) ?_
              refine x_iinc G dX5_isTrue_75 rfl (by decide) ?_
              refine x_goto G 46 dX5_isTrue_78 (by decide) ?_
              refine x_locE (lv2 := [(0, .ref b), (1, .ref a), (2, .int (nI q)), (3, .int (x_b (tB (tI po1 q ro f) po1 q ch (k + 1) = true))), (4, .int (nI (k + 1)))]) (by rw [ez, nI_succ k]; rfl) ?_
              exact nx () _ _ ⟨rfl, rfl⟩
      · intro _ h1 sz1 hI
        try dsimp only at hI ⊢
        obtain ⟨rfl, rfl⟩ := hI
        refine x_iload G dX5_isTrue_46 rfl ?_
        refine x_iconstV (v := nI 4) G dX5_isTrue_48 (by decide) ?_
        refine x_icmp_ge G 81 dX5_isTrue_49 (by decide) (fun c_49 => ?_) (fun c_49 => ?_)
        · refine x_iload_n G dX5_isTrue_81 rfl ?_
          exact x_zret G dX5_isTrue_82 x_b_z hpost
        · exact absurd (nI_le (Nat.le_refl _) (by omega)) c_49
    · exact absurd (nI_le (Nat.le_refl _) (by omega)) c_11
theorem inX5_isSure_5 : ∀ w ∈ wsX50, w ∈ wsX5_isSure := by decide +kernel
def r_su (ro : Nat → Int64) (j : Nat) : Nat → Bool
  | 0 => true
  | k + 1 => r_su ro j k && (ro (6 * k + j) == 0)
set_option maxRecDepth 100000 in
set_option maxHeartbeats 4000000 in
/-- isSure -/
theorem c_isSure (l : Launch) (D : va_G) {dA : Nat → ClassId} {b j : Nat} {tx : Nat → Int32} {ln : Int32} {fa : Int32} {st : Nat → Int32} {de : Nat → Int32} {dm : Int32} {sd : Int64} {im : Nat → Int32} {se : Nat → Int64} {kp : Nat → Int32} {pl : Int32} {wr : Int32} {dp : Int32} {su : Nat → Int32} {wa : Nat → Int32} {fc : Nat → Int32} {po : Nat → Int32} {ro : Nat → Int64} {ch : Nat → Int64} {ov : Nat → Int64} {f : Nat} {h : xH} {sz : Nat} {Post : Option Value → xH → Nat → Prop} (hf : f ≤ 6) (hj6 : j < 6) (M : Md dA h b tx ln fa st de dm sd im se kp pl wr dp su wa fc po ro (nI f) ch ov) (hpost : Post (some (.int (x_b (r_su ro j f = true)))) h sz) : xMet l yX5_isSure wsX5_isSure 0 0 0 0 D dA [.ref b, .int (nI j)] h sz Post := by
  refine x_open (cc := cX5_isSure) (maxL := 4) (ret := (some .boolean)) (by decide) rfl (Nat.le_of_ble_eq_true rfl) ?_
  intro p e s m args below meth c G _
  have inX5 : ∀ w ∈ wsX50, w ∈ wsX5_isSure := inX5_isSure_5
  refine x_iconstV (v := nI 1) G dX5_isSure_0 (by decide) ?_
  refine x_istore_n G dX5_isSure_1 (by decide) ?_
  refine x_iconstV (v := nI 0) G dX5_isSure_2 (by decide) ?_
  refine x_istore_n G dX5_isSure_3 (by decide) ?_
  refine x_loop (σ := Unit) (fun k _ => [(0, .ref b), (1, .int (nI j)), (2, .int (x_b (r_su ro j k = true))), (3, .int (nI k))]) f (fun k _ h1 sz1 => h = h1 ∧ sz = sz1) ?_ ?_ 0 () h sz (Nat.zero_le _) ⟨rfl, rfl⟩
  · intro k _ h1 sz1 hj hI nx
    try dsimp only at hI nx ⊢
    obtain ⟨rfl, rfl⟩ := hI
    obtain ⟨v0, hv0⟩ : ∃ v0 : Int32, v0 = 0 := ⟨_, rfl⟩
    obtain ⟨v1, hv1⟩ : ∃ v1 : Int32, v1 = 1 := ⟨_, rfl⟩
    refine x_iload_n G dX5_isSure_4 rfl ?_
    refine x_aload_n G dX5_isSure_5 rfl ?_
    refine x_get G kX5 inX5 18 (by decide) (by decide +kernel) dX5_isSure_6 (md_o M) rfl ?_
    refine x_icmp_ge G 44 dX5_isSure_9 (by decide) (fun c_9 => ?_) (fun c_9 => ?_)
    · exact absurd c_9 (nI_ge hj (by omega))
    · refine x_iload_n G dX5_isSure_12 rfl ?_
      refine x_if_eq G 36 dX5_isSure_13 (by decide) (fun c_13 => ?_) (fun c_13 => ?_)
      · have ez : v0 = x_b ((r_su ro j k && (ro (6 * k + j) == 0)) = true) := by
          rw [x_b_f (fun z => x_b_0.mp c_13 ((Bool.and_eq_true _ _).mp z).1)]; exact hv0
        refine x_iconstV (v := v0) G dX5_isSure_36 (by rw [hv0]; decide) ?_
        refine x_istore_n G dX5_isSure_37 (by decide) ?_
        refine x_iinc G dX5_isSure_38 rfl (by decide) ?_
        refine x_goto G 4 dX5_isSure_41 (by decide) ?_
        refine x_locE (lv2 := [(0, .ref b), (1, .int (nI j)), (2, .int (x_b (r_su ro j (k + 1) = true))), (3, .int (nI (k + 1)))]) (by rw [ez, nI_succ k]; rfl) ?_
        exact nx () _ _ ⟨rfl, rfl⟩
      · have e1 := x_b_n.mp c_13
        refine x_aload_n G dX5_isSure_16 rfl ?_
        refine x_get G kX5 inX5 17 (by decide) (by decide +kernel) dX5_isSure_17 (md_o M) rfl ?_
        refine x_bipushV (v := nI 6) G dX5_isSure_20 (by decide) ?_
        refine x_iload_n G dX5_isSure_22 rfl ?_
        refine x_imul G dX5_isSure_23 ?_
        refine x_iload_n G dX5_isSure_24 rfl ?_
        refine x_iadd G dX5_isSure_25 ?_
        refine x_topE (y := nI (6 * k + j)) (by rw [pk_mul, nI_add]) ?_
        refine x_laldN G dX5_isSure_26 (md_ro M) (by omega) (by decide) ?_
        refine x_lconstV (v := 0) G dX5_isSure_27 (by decide) ?_
        refine x_lcmp G dX5_isSure_28 ?_
        refine x_if_ne G 36 dX5_isSure_29 (by decide) (fun c_29 => ?_) (fun c_29 => ?_)
        · have ez : v0 = x_b ((r_su ro j k && (ro (6 * k + j) == 0)) = true) := by
            rw [x_b_f (fun z => c_29 ((x_lgeq _ _).mpr (eq_of_beq ((Bool.and_eq_true _ _).mp z).2)))]; exact hv0
          refine x_iconstV (v := v0) G dX5_isSure_36 (by rw [hv0]; decide) ?_
          refine x_istore_n G dX5_isSure_37 (by decide) ?_
          refine x_iinc G dX5_isSure_38 rfl (by decide) ?_
          refine x_goto G 4 dX5_isSure_41 (by decide) ?_
          refine x_locE (lv2 := [(0, .ref b), (1, .int (nI j)), (2, .int (x_b (r_su ro j (k + 1) = true))), (3, .int (nI (k + 1)))]) (by rw [ez, nI_succ k]; rfl) ?_
          exact nx () _ _ ⟨rfl, rfl⟩
        · have ez : v1 = x_b ((r_su ro j k && (ro (6 * k + j) == 0)) = true) := by
            rw [x_b_t (by rw [e1]; exact beq_iff_eq.mpr ((x_lgeq _ _).mp c_29))]; exact hv1
          refine x_iconstV (v := v1) G dX5_isSure_32 (by rw [hv1]; decide) ?_
          refine x_goto G 37 dX5_isSure_33 (by decide) ?_
          refine x_istore_n G dX5_isSure_37 (by decide) ?_
          refine x_iinc G dX5_isSure_38 rfl (by decide) ?_
          refine x_goto G 4 dX5_isSure_41 (by decide) ?_
          refine x_locE (lv2 := [(0, .ref b), (1, .int (nI j)), (2, .int (x_b (r_su ro j (k + 1) = true))), (3, .int (nI (k + 1)))]) (by rw [ez, nI_succ k]; rfl) ?_
          exact nx () _ _ ⟨rfl, rfl⟩
  · intro _ h1 sz1 hI
    try dsimp only at hI ⊢
    obtain ⟨rfl, rfl⟩ := hI
    refine x_iload_n G dX5_isSure_4 rfl ?_
    refine x_aload_n G dX5_isSure_5 rfl ?_
    refine x_get G kX5 inX5 18 (by decide) (by decide +kernel) dX5_isSure_6 (md_o M) rfl ?_
    refine x_icmp_ge G 44 dX5_isSure_9 (by decide) (fun c_9 => ?_) (fun c_9 => ?_)
    · refine x_iload_n G dX5_isSure_44 rfl ?_
      exact x_zret G dX5_isSure_45 x_b_z hpost
    · exact absurd (nI_le (Nat.le_refl _) (by omega)) c_9
