/-- blanks are passed over: k letters at most -/
def skp (tx : Nat → Int32) : Nat → Nat → Nat
  | 0, p => p
  | k + 1, p => if tx p = nI 32 then skp tx k (p + 1) else p
def r_pl (tx : Nat → Int32) (n p : Nat) : Nat := skp tx (n - p) p
def r_hc (tx : Nat → Int32) (n p : Nat) : Int32 := if r_pl tx n p < n then tx (r_pl tx n p) else -1
theorem skp_b {tx : Nat → Int32} : ∀ {k p : Nat}, p ≤ skp tx k p ∧ skp tx k p ≤ p + k
  | 0, p => ⟨Nat.le_refl _, Nat.le_refl _⟩
  | k + 1, p => by
    unfold skp
    by_cases z : tx p = nI 32
    · rw [if_pos z]
      have := skp_b (tx := tx) (k := k) (p := p + 1)
      omega
    · rw [if_neg z]
      omega
theorem r_pl_b {tx : Nat → Int32} {n p : Nat} (h : p ≤ n) : p ≤ r_pl tx n p ∧ r_pl tx n p ≤ n := by
  have := skp_b (tx := tx) (k := n - p) (p := p)
  unfold r_pl
  omega
theorem r_hc_lt {tx : Nat → Int32} {n p : Nat} (h : ¬ r_hc tx n p = -1) : r_pl tx n p < n := by
  rcases Nat.lt_or_ge (r_pl tx n p) n with z | z
  · exact z
  · exact absurd (if_neg (by omega)) h
theorem inX5_here_5 : ∀ w ∈ wsX50, w ∈ wsX5_here := by decide +kernel
set_option maxRecDepth 100000 in
set_option maxHeartbeats 4000000 in
/-- here -/
theorem c_here (l : Launch) (D : va_G) {dA : Nat → ClassId} {b n p : Nat} {tx : Nat → Int32} {fa : Int32} {st : Nat → Int32} {de : Nat → Int32} {dm : Int32} {sd : Int64} {im : Nat → Int32} {se : Nat → Int64} {kp : Nat → Int32} {wr : Int32} {dp : Int32} {su : Nat → Int32} {wa : Nat → Int32} {fc : Nat → Int32} {po : Nat → Int32} {ro : Nat → Int64} {fr : Int32} {ch : Nat → Int64} {ov : Nat → Int64} {h : xH} {sz : Nat} {Post : Option Value → xH → Nat → Prop} (hn : n ≤ 60) (hp : p ≤ n) (M : Md dA h b tx (nI n) fa st de dm sd im se kp (nI p) wr dp su wa fc po ro fr ch ov) (hpost : ∀ (h1 : xH) (sz1 : Nat), Md dA h1 b tx (nI n) fa st de dm sd im se kp (nI (r_pl tx n p)) wr dp su wa fc po ro fr ch ov → xF b (b + 14) h h1 → Post (some (.int (r_hc tx n p))) h1 sz1) : xMet l yX5_here wsX5_here 0 0 0 0 D dA [.ref b] h sz Post := by
  refine x_open (cc := cX5_here) (maxL := 1) (ret := (some .int)) (by decide) rfl (Nat.le_of_ble_eq_true rfl) ?_
  intro pg e s m args below meth c G _
  have inX5 : ∀ w ∈ wsX50, w ∈ wsX5_here := inX5_here_5
  refine x_while (σ := Nat) (fun _ => [(0, .ref b)]) [] (fun u h1 sz1 => u ≤ n ∧ skp tx (n - u) u = r_pl tx n p ∧ Md dA h1 b tx (nI n) fa st de dm sd im se kp (nI u) wr dp su wa fc po ro fr ch ov ∧ xF b (b + 14) h h1) (fun u => n - u) ?_ p h sz ⟨hp, rfl, M, xF_rf⟩
  intro u h1 sz1 hI nx
  obtain ⟨hu60, hI, M, F⟩ := hI
  refine x_aload_n G dX5_here_0 rfl ?_
  refine x_get G kX5 inX5 10 (by decide) (by decide +kernel) dX5_here_1 (md_o M) rfl ?_
  refine x_aload_n G dX5_here_4 rfl ?_
  refine x_get G kX5 inX5 1 (by decide) (by decide +kernel) dX5_here_5 (md_o M) rfl ?_
  refine x_icmp_ge G 38 dX5_here_8 (by decide) (fun c_8 => ?_) (fun c_8 => ?_)
  · have hu : ¬ u < n := fun z => absurd c_8 (nI_ge z (by omega))
    have e0 : r_pl tx n p = u := by
      rw [← hI, show n - u = 0 by omega]
      rfl
    refine x_aload_n G dX5_here_38 rfl ?_
    refine x_get G kX5 inX5 10 (by decide) (by decide +kernel) dX5_here_39 (md_o M) rfl ?_
    refine x_aload_n G dX5_here_42 rfl ?_
    refine x_get G kX5 inX5 1 (by decide) (by decide +kernel) dX5_here_43 (md_o M) rfl ?_
    refine x_icmp_ge G 61 dX5_here_46 (by decide) (fun c_46 => ?_) (fun c_46 => ?_)
    · have e2 : r_hc tx n p = -1 := if_neg (by rw [e0]; exact fun z => absurd c_46 (nI_ge z (by omega)))
      rw [e2] at hpost
      refine x_iconstV (v := (-1)) G dX5_here_61 (by decide) ?_
      exact x_iret G dX5_here_62 (hpost _ _ (by rw [e0]; exact M) F)
    · have e3 : u < n := by
        rcases Nat.lt_or_ge u n with z | z
        · exact z
        · exact absurd (nI_le z (by omega)) c_46
      have e2 : r_hc tx n p = tx u := by
        unfold r_hc
        rw [e0, if_pos e3]
      rw [e2] at hpost
      refine x_aload_n G dX5_here_49 rfl ?_
      refine x_get G kX5 inX5 0 (by decide) (by decide +kernel) dX5_here_50 (md_o M) rfl ?_
      refine x_aload_n G dX5_here_53 rfl ?_
      refine x_get G kX5 inX5 10 (by decide) (by decide +kernel) dX5_here_54 (md_o M) rfl ?_
      refine x_ialdN G dX5_here_57 (md_tx M) (by omega) (by decide) ?_
      refine x_goto G 62 dX5_here_58 (by decide) ?_
      exact x_iret G dX5_here_62 (hpost _ _ (by rw [e0]; exact M) F)
  · have hu : u < n := by
      rcases Nat.lt_or_ge u n with z | z
      · exact z
      · exact absurd (nI_le z (by omega)) c_8
    refine x_aload_n G dX5_here_11 rfl ?_
    refine x_get G kX5 inX5 0 (by decide) (by decide +kernel) dX5_here_12 (md_o M) rfl ?_
    refine x_aload_n G dX5_here_15 rfl ?_
    refine x_get G kX5 inX5 10 (by decide) (by decide +kernel) dX5_here_16 (md_o M) rfl ?_
    refine x_ialdN G dX5_here_19 (md_tx M) (by omega) (by decide) ?_
    refine x_bipushV (v := nI 32) G dX5_here_20 (by decide) ?_
    refine x_icmp_ne G 38 dX5_here_22 (by decide) (fun c_22 => ?_) (fun c_22 => ?_)
    · have e0 : r_pl tx n p = u := by
        rw [← hI, show n - u = (n - u - 1) + 1 by omega]
        unfold skp
        rw [if_neg c_22]
      refine x_aload_n G dX5_here_38 rfl ?_
      refine x_get G kX5 inX5 10 (by decide) (by decide +kernel) dX5_here_39 (md_o M) rfl ?_
      refine x_aload_n G dX5_here_42 rfl ?_
      refine x_get G kX5 inX5 1 (by decide) (by decide +kernel) dX5_here_43 (md_o M) rfl ?_
      refine x_icmp_ge G 61 dX5_here_46 (by decide) (fun c_46 => ?_) (fun c_46 => ?_)
      · have e2 : r_hc tx n p = -1 := if_neg (by rw [e0]; exact fun z => absurd c_46 (nI_ge z (by omega)))
        rw [e2] at hpost
        refine x_iconstV (v := (-1)) G dX5_here_61 (by decide) ?_
        exact x_iret G dX5_here_62 (hpost _ _ (by rw [e0]; exact M) F)
      · have e3 : u < n := by
          rcases Nat.lt_or_ge u n with z | z
          · exact z
          · exact absurd (nI_le z (by omega)) c_46
        have e2 : r_hc tx n p = tx u := by
          unfold r_hc
          rw [e0, if_pos e3]
        rw [e2] at hpost
        refine x_aload_n G dX5_here_49 rfl ?_
        refine x_get G kX5 inX5 0 (by decide) (by decide +kernel) dX5_here_50 (md_o M) rfl ?_
        refine x_aload_n G dX5_here_53 rfl ?_
        refine x_get G kX5 inX5 10 (by decide) (by decide +kernel) dX5_here_54 (md_o M) rfl ?_
        refine x_ialdN G dX5_here_57 (md_tx M) (by omega) (by decide) ?_
        refine x_goto G 62 dX5_here_58 (by decide) ?_
        exact x_iret G dX5_here_62 (hpost _ _ (by rw [e0]; exact M) F)
    · have e1 : skp tx (n - (u + 1)) (u + 1) = r_pl tx n p := by
        rw [← hI, show n - u = (n - (u + 1)) + 1 by omega]
        show _ = (if tx u = nI 32 then _ else _)
        rw [if_pos c_22]
      refine x_aload_n G dX5_here_25 rfl ?_
      refine x_dup G dX5_here_26 rfl ?_
      refine x_get G kX5 inX5 10 (by decide) (by decide +kernel) dX5_here_27 (md_o M) rfl ?_
      refine x_iconstV (v := nI 1) G dX5_here_30 (by decide) ?_
      refine x_iadd G dX5_here_31 ?_
      refine x_topE (y := nI (u + 1)) (nI_1 u) ?_
      refine x_put G kX5 inX5 10 (by decide) (by decide +kernel) rfl dX5_here_32 (md_o M) rfl rfl (Nat.le_of_ble_eq_true rfl) ?_
      have M := md_pl_s M (nI (u + 1))
      have F := xF_up (a := b) (e := .inr (5, List.set [.ref (b + 1), .int (nI n), .int (fa), .ref (b + 2), .ref (b + 3), .int (dm), .long (sd), .ref (b + 4), .ref (b + 5), .ref (b + 6), .int (nI u), .int (wr), .int (dp), .ref (b + 7), .ref (b + 8), .ref (b + 9), .ref (b + 10), .ref (b + 11), .int (fr), .ref (b + 12), .ref (b + 13)] 10 (.int (nI (u + 1))))) F (by omega) (by omega)
      refine x_goto G 0 dX5_here_35 (by decide) ?_
      exact nx (u + 1) _ _ ⟨by omega, e1, M, F⟩ (by omega)
theorem inX5_fails_5 : ∀ w ∈ wsX50, w ∈ wsX5_fails := by decide +kernel
def r_fl (w q : Nat) : Nat := if w = 0 then q else w
set_option maxRecDepth 100000 in
set_option maxHeartbeats 4000000 in
/-- fails -/
theorem c_fails (l : Launch) (D : va_G) {dA : Nat → ClassId} {b w q : Nat} {tx : Nat → Int32} {ln : Int32} {fa : Int32} {st : Nat → Int32} {de : Nat → Int32} {dm : Int32} {sd : Int64} {im : Nat → Int32} {se : Nat → Int64} {kp : Nat → Int32} {pl : Int32} {dp : Int32} {su : Nat → Int32} {wa : Nat → Int32} {fc : Nat → Int32} {po : Nat → Int32} {ro : Nat → Int64} {fr : Int32} {ch : Nat → Int64} {ov : Nat → Int64} {h : xH} {sz : Nat} {Post : Option Value → xH → Nat → Prop} (hw : w ≤ 3) (M : Md dA h b tx ln fa st de dm sd im se kp pl (nI w) dp su wa fc po ro fr ch ov) (hpost : ∀ (h1 : xH) (sz1 : Nat), Md dA h1 b tx ln fa st de dm sd im se kp pl (nI (r_fl w q)) dp su wa fc po ro fr ch ov → xF b (b + 14) h h1 → Post none h1 sz1) : xMet l yX5_fails wsX5_fails 0 0 0 0 D dA [.ref b, .int (nI q)] h sz Post := by
  refine x_open (cc := cX5_fails) (maxL := 2) (ret := none) (by decide) rfl (Nat.le_of_ble_eq_true rfl) ?_
  intro p e s m args below meth c G _
  have inX5 : ∀ w ∈ wsX50, w ∈ wsX5_fails := inX5_fails_5
  have F := xF_rf (lo := b) (hi := b + 14) (h := h)
  refine x_aload_n G dX5_fails_0 rfl ?_
  refine x_aload_n G dX5_fails_1 rfl ?_
  refine x_get G kX5 inX5 11 (by decide) (by decide +kernel) dX5_fails_2 (md_o M) rfl ?_
  refine x_if_ne G 12 dX5_fails_5 (by decide) (fun c_5 => ?_) (fun c_5 => ?_)
  · have e0 : r_fl w q = w := if_neg (fun z => c_5 (by rw [z]; rfl))
    refine x_aload_n G dX5_fails_12 rfl ?_
    refine x_get G kX5 inX5 11 (by decide) (by decide +kernel) dX5_fails_13 (md_o M) rfl ?_
    refine x_put G kX5 inX5 11 (by decide) (by decide +kernel) rfl dX5_fails_16 (md_o M) rfl rfl (Nat.le_of_ble_eq_true rfl) ?_
    rw [← e0]
    have M := md_wr_s M (nI (r_fl w q))
    have F := xF_up (a := b) (e := .inr (5, List.set [.ref (b + 1), .int (ln), .int (fa), .ref (b + 2), .ref (b + 3), .int (dm), .long (sd), .ref (b + 4), .ref (b + 5), .ref (b + 6), .int (pl), .int (nI w), .int (dp), .ref (b + 7), .ref (b + 8), .ref (b + 9), .ref (b + 10), .ref (b + 11), .int (fr), .ref (b + 12), .ref (b + 13)] 11 (.int (nI (r_fl w q))))) F (by omega) (by omega)
    exact x_vret G dX5_fails_19 (hpost _ _ M F)
  · have e0 : r_fl w q = q := if_pos (by
      rcases Nat.eq_zero_or_pos w with z | z
      · exact z
      · exact absurd c_5 (nI_ne0 z (by omega)))
    refine x_iload_n G dX5_fails_8 rfl ?_
    refine x_goto G 16 dX5_fails_9 (by decide) ?_
    refine x_put G kX5 inX5 11 (by decide) (by decide +kernel) rfl dX5_fails_16 (md_o M) rfl rfl (Nat.le_of_ble_eq_true rfl) ?_
    rw [← e0]
    have M := md_wr_s M (nI (r_fl w q))
    have F := xF_up (a := b) (e := .inr (5, List.set [.ref (b + 1), .int (ln), .int (fa), .ref (b + 2), .ref (b + 3), .int (dm), .long (sd), .ref (b + 4), .ref (b + 5), .ref (b + 6), .int (pl), .int (nI w), .int (dp), .ref (b + 7), .ref (b + 8), .ref (b + 9), .ref (b + 10), .ref (b + 11), .int (fr), .ref (b + 12), .ref (b + 13)] 11 (.int (nI (r_fl w q))))) F (by omega) (by omega)
    exact x_vret G dX5_fails_19 (hpost _ _ M F)
theorem inX5_opens_5 : ∀ w ∈ wsX50, w ∈ wsX5_opens := by decide +kernel
def op_su (su : Nat → Int32) (v n : Nat) : Nat → Int32 := fun q => if 10 * v ≤ q ∧ q < 10 * v + n then nI 0 else su q
theorem op_su0 (su : Nat → Int32) (v : Nat) : op_su su v 0 = su := by
  funext q
  unfold op_su
  rw [if_neg (by omega)]
theorem op_sus {su : Nat → Int32} {v n : Nat} : upd (op_su su v n) (10 * v + n) (nI 0) = op_su su v (n + 1) := by
  funext q
  unfold upd op_su
  by_cases e : q = 10 * v + n
  · rw [if_pos e, if_pos (by omega)]
  · rw [if_neg e]
    by_cases e2 : 10 * v ≤ q ∧ q < 10 * v + n
    · rw [if_pos e2, if_pos (by omega)]
    · rw [if_neg e2, if_neg (by omega)]
set_option maxRecDepth 100000 in
set_option maxHeartbeats 4000000 in
/-- opens -/
theorem c_opens (l : Launch) (D : va_G) {dA : Nat → ClassId} {b v : Nat} {tx : Nat → Int32} {ln : Int32} {fa : Int32} {st : Nat → Int32} {de : Nat → Int32} {dm : Int32} {sd : Int64} {im : Nat → Int32} {se : Nat → Int64} {kp : Nat → Int32} {pl : Int32} {wr : Int32} {dp : Int32} {su : Nat → Int32} {wa : Nat → Int32} {fc : Nat → Int32} {po : Nat → Int32} {ro : Nat → Int64} {fr : Int32} {ch : Nat → Int64} {ov : Nat → Int64} {h : xH} {sz : Nat} {Post : Option Value → xH → Nat → Prop} (hv : v ≤ 6) (M : Md dA h b tx ln fa st de dm sd im se kp pl wr dp su wa fc po ro fr ch ov) (hpost : ∀ (h1 : xH) (sz1 : Nat), Md dA h1 b tx ln fa st de dm sd im se kp pl wr (nI v) (op_su su v 10) (upd wa v (nI 1)) fc po ro fr ch ov → xF b (b + 14) h h1 → Post none h1 sz1) : xMet l yX5_opens wsX5_opens 0 0 0 0 D dA [.ref b, .int (nI v)] h sz Post := by
  refine x_open (cc := cX5_opens) (maxL := 3) (ret := none) (by decide) rfl (Nat.le_of_ble_eq_true rfl) ?_
  intro p e s m args below meth c G _
  have inX5 : ∀ w ∈ wsX50, w ∈ wsX5_opens := inX5_opens_5
  have F := xF_rf (lo := b) (hi := b + 14) (h := h)
  refine x_aload_n G dX5_opens_0 rfl ?_
  refine x_iload_n G dX5_opens_1 rfl ?_
  refine x_put G kX5 inX5 12 (by decide) (by decide +kernel) rfl dX5_opens_2 (md_o M) rfl rfl (Nat.le_of_ble_eq_true rfl) ?_
  have M := md_dp_s M (nI v)
  have F := xF_up (a := b) (e := .inr (5, List.set [.ref (b + 1), .int (ln), .int (fa), .ref (b + 2), .ref (b + 3), .int (dm), .long (sd), .ref (b + 4), .ref (b + 5), .ref (b + 6), .int (pl), .int (wr), .int (dp), .ref (b + 7), .ref (b + 8), .ref (b + 9), .ref (b + 10), .ref (b + 11), .int (fr), .ref (b + 12), .ref (b + 13)] 12 (.int (nI v)))) F (by omega) (by omega)
  refine x_aload_n G dX5_opens_5 rfl ?_
  refine x_get G kX5 inX5 14 (by decide) (by decide +kernel) dX5_opens_6 (md_o M) rfl ?_
  refine x_iload_n G dX5_opens_9 rfl ?_
  refine x_iconstV (v := nI 1) G dX5_opens_10 (by decide) ?_
  refine x_iastN G dX5_opens_11 (md_wa M) (by omega) (by decide) ?_
  have M := md_wa_s M (upd wa v (nI 1))
  have F := xF_up (a := b + 8) (e := .inl (dA 0, 7, .inl (upd wa v (nI 1)))) F (by omega) (by omega)
  refine x_iconstV (v := nI 0) G dX5_opens_12 (by decide) ?_
  refine x_istore_n G dX5_opens_13 (by decide) ?_
  refine x_loop (σ := Unit) (fun k _ => [(0, .ref b), (1, .int (nI v)), (2, .int (nI k))]) 10 (fun k _ h1 sz1 => Md dA h1 b tx ln fa st de dm sd im se kp pl wr (nI v) (op_su su v k) (upd wa v (nI 1)) fc po ro fr ch ov ∧ xF b (b + 14) h h1) ?_ ?_ 0 () _ _ (Nat.zero_le _) ⟨by rw [op_su0]; exact M, F⟩
  · intro k _ h1 sz1 hj hI nx
    try dsimp only at hI nx ⊢
    obtain ⟨M, F⟩ := hI
    refine x_iload_n G dX5_opens_14 rfl ?_
    refine x_bipushV (v := nI 10) G dX5_opens_15 (by decide) ?_
    refine x_icmp_ge G 38 dX5_opens_17 (by decide) (fun c_17 => ?_) (fun c_17 => ?_)
    · exact absurd c_17 (nI_ge hj (by omega))
    · refine x_aload_n G dX5_opens_20 rfl ?_
      refine x_get G kX5 inX5 13 (by decide) (by decide +kernel) dX5_opens_21 (md_o M) rfl ?_
      refine x_bipushV (v := nI 10) G dX5_opens_24 (by decide) ?_
      refine x_iload_n G dX5_opens_26 rfl ?_
      refine x_imul G dX5_opens_27 ?_
      refine x_iload_n G dX5_opens_28 rfl ?_
      refine x_iadd G dX5_opens_29 ?_
      refine x_topE (y := nI (10 * v + k)) (by rw [pk_mul, nI_add]) ?_
      refine x_iconstV (v := nI 0) G dX5_opens_30 (by decide) ?_
      refine x_iastN G dX5_opens_31 (md_su M) (by omega) (by decide) ?_
      rw [op_sus]
      have M := md_su_s M (op_su su v (k + 1))
      have F := xF_up (a := b + 7) (e := .inl (dA 0, 70, .inl (op_su su v (k + 1)))) F (by omega) (by omega)
      refine x_iinc G dX5_opens_32 rfl (by decide) ?_
      refine x_locE (lv2 := [(0, .ref b), (1, .int (nI v)), (2, .int (nI (k + 1)))]) (by rw [nI_succ k]; rfl) ?_
      refine x_goto G 14 dX5_opens_35 (by decide) ?_
      exact nx () _ _ ⟨M, F⟩
  · intro _ h1 sz1 hI
    try dsimp only at hI ⊢
    obtain ⟨M, F⟩ := hI
    refine x_iload_n G dX5_opens_14 rfl ?_
    refine x_bipushV (v := nI 10) G dX5_opens_15 (by decide) ?_
    refine x_icmp_ge G 38 dX5_opens_17 (by decide) (fun c_17 => ?_) (fun c_17 => ?_)
    · exact x_vret G dX5_opens_38 (hpost _ _ M F)
    · exact absurd (nI_le (Nat.le_refl _) (by omega)) c_17
theorem inX5_counts_5 : ∀ w ∈ wsX50, w ∈ wsX5_counts := by decide +kernel
def ct_su (su : Nat → Int32) (w : Int32) (fc : Nat → Int32) (d n : Nat) : Nat → Int32 := fun q => if 10 * d ≤ q ∧ q < 10 * d + n then su q + w * fc (q - 10 * d) else su q
theorem ct_su0 (su : Nat → Int32) (w : Int32) (fc : Nat → Int32) (d : Nat) : ct_su su w fc d 0 = su := by
  funext q
  unfold ct_su
  rw [if_neg (by omega)]
theorem ct_sus {su : Nat → Int32} {w : Int32} {fc : Nat → Int32} {d n : Nat} : upd (ct_su su w fc d n) (10 * d + n) (ct_su su w fc d n (10 * d + n) + w * fc n) = ct_su su w fc d (n + 1) := by
  have e0 : ct_su su w fc d n (10 * d + n) = su (10 * d + n) := by
    unfold ct_su
    rw [if_neg (by omega)]
  rw [e0]
  funext q
  unfold upd ct_su
  by_cases e : q = 10 * d + n
  · subst e
    rw [if_pos rfl, if_pos (by omega), show 10 * d + n - 10 * d = n by omega]
  · rw [if_neg e]
    by_cases e2 : 10 * d ≤ q ∧ q < 10 * d + n
    · rw [if_pos e2, if_pos (by omega)]
    · rw [if_neg e2, if_neg (by omega)]
set_option maxRecDepth 100000 in
set_option maxHeartbeats 4000000 in
/-- counts -/
theorem c_counts (l : Launch) (D : va_G) {dA : Nat → ClassId} {b d : Nat} {tx : Nat → Int32} {ln : Int32} {fa : Int32} {st : Nat → Int32} {de : Nat → Int32} {dm : Int32} {sd : Int64} {im : Nat → Int32} {se : Nat → Int64} {kp : Nat → Int32} {pl : Int32} {wr : Int32} {su : Nat → Int32} {wa : Nat → Int32} {fc : Nat → Int32} {po : Nat → Int32} {ro : Nat → Int64} {fr : Int32} {ch : Nat → Int64} {ov : Nat → Int64} {h : xH} {sz : Nat} {Post : Option Value → xH → Nat → Prop} (hd : d ≤ 6) (M : Md dA h b tx ln fa st de dm sd im se kp pl wr (nI d) su wa fc po ro fr ch ov) (hpost : ∀ (h1 : xH) (sz1 : Nat), Md dA h1 b tx ln fa st de dm sd im se kp pl wr (nI d) (ct_su su (wa d) fc d 10) wa fc po ro fr ch ov → xF b (b + 14) h h1 → Post none h1 sz1) : xMet l yX5_counts wsX5_counts 0 0 0 0 D dA [.ref b] h sz Post := by
  refine x_open (cc := cX5_counts) (maxL := 2) (ret := none) (by decide) rfl (Nat.le_of_ble_eq_true rfl) ?_
  intro p e s m args below meth c G _
  have inX5 : ∀ w ∈ wsX50, w ∈ wsX5_counts := inX5_counts_5
  refine x_iconstV (v := nI 0) G dX5_counts_0 (by decide) ?_
  refine x_istore_n G dX5_counts_1 (by decide) ?_
  refine x_loop (σ := Unit) (fun k _ => [(0, .ref b), (1, .int (nI k))]) 10 (fun k _ h1 sz1 => Md dA h1 b tx ln fa st de dm sd im se kp pl wr (nI d) (ct_su su (wa d) fc d k) wa fc po ro fr ch ov ∧ xF b (b + 14) h h1) ?_ ?_ 0 () h sz (Nat.zero_le _) ⟨by rw [ct_su0]; exact M, xF_rf⟩
  · intro k _ h1 sz1 hj hI nx
    try dsimp only at hI nx ⊢
    obtain ⟨M, F⟩ := hI
    refine x_iload_n G dX5_counts_2 rfl ?_
    refine x_bipushV (v := nI 10) G dX5_counts_3 (by decide) ?_
    refine x_icmp_ge G 47 dX5_counts_5 (by decide) (fun c_5 => ?_) (fun c_5 => ?_)
    · exact absurd c_5 (nI_ge hj (by omega))
    · refine x_aload_n G dX5_counts_8 rfl ?_
      refine x_get G kX5 inX5 13 (by decide) (by decide +kernel) dX5_counts_9 (md_o M) rfl ?_
      refine x_bipushV (v := nI 10) G dX5_counts_12 (by decide) ?_
      refine x_aload_n G dX5_counts_14 rfl ?_
      refine x_get G kX5 inX5 12 (by decide) (by decide +kernel) dX5_counts_15 (md_o M) rfl ?_
      refine x_imul G dX5_counts_18 ?_
      refine x_iload_n G dX5_counts_19 rfl ?_
      refine x_iadd G dX5_counts_20 ?_
      refine x_topE (y := nI (10 * d + k)) (by rw [pk_mul, nI_add]) ?_
      refine x_dup2 G dX5_counts_21 rfl rfl ?_
      refine x_ialdN G dX5_counts_22 (md_su M) (by omega) (by decide) ?_
      refine x_aload_n G dX5_counts_23 rfl ?_
      refine x_get G kX5 inX5 14 (by decide) (by decide +kernel) dX5_counts_24 (md_o M) rfl ?_
      refine x_aload_n G dX5_counts_27 rfl ?_
      refine x_get G kX5 inX5 12 (by decide) (by decide +kernel) dX5_counts_28 (md_o M) rfl ?_
      refine x_ialdN G dX5_counts_31 (md_wa M) (by omega) (by decide) ?_
      refine x_aload_n G dX5_counts_32 rfl ?_
      refine x_get G kX5 inX5 15 (by decide) (by decide +kernel) dX5_counts_33 (md_o M) rfl ?_
      refine x_iload_n G dX5_counts_36 rfl ?_
      refine x_ialdN G dX5_counts_37 (md_fc M) (by omega) (by decide) ?_
      refine x_imul G dX5_counts_38 ?_
      refine x_iadd G dX5_counts_39 ?_
      refine x_iastN G dX5_counts_40 (md_su M) (by omega) (by decide) ?_
      rw [ct_sus]
      have M := md_su_s M (ct_su su (wa d) fc d (k + 1))
      have F := xF_up (a := b + 7) (e := .inl (dA 0, 70, .inl (ct_su su (wa d) fc d (k + 1)))) F (by omega) (by omega)
      refine x_iinc G dX5_counts_41 rfl (by decide) ?_
      refine x_locE (lv2 := [(0, .ref b), (1, .int (nI (k + 1)))]) (by rw [nI_succ k]; rfl) ?_
      refine x_goto G 2 dX5_counts_44 (by decide) ?_
      exact nx () _ _ ⟨M, F⟩
  · intro _ h1 sz1 hI
    try dsimp only at hI ⊢
    obtain ⟨M, F⟩ := hI
    refine x_iload_n G dX5_counts_2 rfl ?_
    refine x_bipushV (v := nI 10) G dX5_counts_3 (by decide) ?_
    refine x_icmp_ge G 47 dX5_counts_5 (by decide) (fun c_5 => ?_) (fun c_5 => ?_)
    · exact x_vret G dX5_counts_47 (hpost _ _ M F)
    · exact absurd (nI_le (Nat.le_refl _) (by omega)) c_5
theorem inX5_readsPower_5 : ∀ w ∈ wsX50, w ∈ wsX5_readsPower := by decide +kernel
def pw_m (mi : Bool) (c : Int32) : Int32 := if mi = true then nI 48 - c else c - nI 48
def pw_f (fc : Nat → Int32) (t : Int32) (n : Nat) : Nat → Int32 := fun k => if k < n then fc k * t else fc k
theorem pw_f0 (fc : Nat → Int32) (t : Int32) : pw_f fc t 0 = fc := by
  funext k
  unfold pw_f
  rw [if_neg (by omega)]
theorem pw_fs {fc : Nat → Int32} {t : Int32} {n : Nat} : upd (pw_f fc t n) n (pw_f fc t n n * t) = pw_f fc t (n + 1) := by
  have e0 : pw_f fc t n n = fc n := by
    unfold pw_f
    rw [if_neg (by omega)]
  rw [e0]
  funext k
  unfold upd pw_f
  by_cases e : k = n
  · subst e
    rw [if_pos rfl, if_pos (by omega)]
  · rw [if_neg e]
    by_cases e2 : k < n
    · rw [if_pos e2, if_pos (by omega)]
    · rw [if_neg e2, if_neg (by omega)]
/-- behind '^': whether there is a minus, and the place of the figure -/
def pw_mi (tx : Nat → Int32) (n p : Nat) : Bool := decide (r_hc tx n (r_pl tx n p + 1) = nI 45)
def pw_2 (tx : Nat → Int32) (n p : Nat) : Nat := r_pl tx n (r_pl tx n p + 1) + (if pw_mi tx n p = true then 1 else 0)
/-- readsPower: the place, what is wrong, the factor -/
def r_pw (tx : Nat → Int32) (n p w : Nat) (fc : Nat → Int32) : Nat × Nat × (Nat → Int32) :=
  if ¬ r_hc tx n p = nI 94 then (r_pl tx n p, w, fc)
  else if nI 48 ≤ r_hc tx n (pw_2 tx n p) ∧ r_hc tx n (pw_2 tx n p) ≤ nI 57 then (r_pl tx n (pw_2 tx n p) + 1, w, pw_f fc (pw_m (pw_mi tx n p) (r_hc tx n (pw_2 tx n p))) 10)
  else (r_pl tx n (pw_2 tx n p), r_fl w 1, fc)
set_option maxRecDepth 100000 in
set_option maxHeartbeats 4000000 in
/-- readsPower -/
theorem c_readsPower (l : Launch) (D : va_G) {dA : Nat → ClassId} {b n p w : Nat} {tx : Nat → Int32} {fa : Int32} {st : Nat → Int32} {de : Nat → Int32} {dm : Int32} {sd : Int64} {im : Nat → Int32} {se : Nat → Int64} {kp : Nat → Int32} {dp : Int32} {su : Nat → Int32} {wa : Nat → Int32} {fc : Nat → Int32} {po : Nat → Int32} {ro : Nat → Int64} {fr : Int32} {ch : Nat → Int64} {ov : Nat → Int64} {h : xH} {sz : Nat} {Post : Option Value → xH → Nat → Prop} (hn : n ≤ 60) (hp : p ≤ n) (hw : w ≤ 3) (M : Md dA h b tx (nI n) fa st de dm sd im se kp (nI p) (nI w) dp su wa fc po ro fr ch ov) (hpost : ∀ (h1 : xH) (sz1 : Nat), Md dA h1 b tx (nI n) fa st de dm sd im se kp (nI (r_pw tx n p w fc).1) (nI (r_pw tx n p w fc).2.1) dp su wa ((r_pw tx n p w fc).2.2) po ro fr ch ov → xF b (b + 14) h h1 → Post none h1 sz1) : xMet l yX5_readsPower wsX5_readsPower 1 22 0 0 D dA [.ref b] h sz Post := by
  refine x_open (cc := cX5_readsPower) (maxL := 4) (ret := none) (by decide) rfl (Nat.le_of_ble_eq_true rfl) ?_
  intro pg e s m args below meth c G _
  have inX5 : ∀ w ∈ wsX50, w ∈ wsX5_readsPower := inX5_readsPower_5
  have F := xF_rf (lo := b) (hi := b + 14) (h := h)
  have J53 : ∀ (mi : Bool) (p2 : Nat) (h1 : xH) (sz1 : Nat), p2 ≤ n → (¬ (nI 48 ≤ r_hc tx n p2 ∧ r_hc tx n p2 ≤ nI 57) → ∀ (h1 : xH) (sz1 : Nat), Md dA h1 b tx (nI n) fa st de dm sd im se kp (nI (r_pl tx n p2)) (nI (r_fl w 1)) dp su wa fc po ro fr ch ov → xF b (b + 14) h h1 → Post none h1 sz1) → ((nI 48 ≤ r_hc tx n p2 ∧ r_hc tx n p2 ≤ nI 57) → ∀ (h1 : xH) (sz1 : Nat), Md dA h1 b tx (nI n) fa st de dm sd im se kp (nI (r_pl tx n p2 + 1)) (nI w) dp su wa (pw_f fc (pw_m mi (r_hc tx n p2)) 10) po ro fr ch ov → xF b (b + 14) h h1 → Post none h1 sz1) → Md dA h1 b tx (nI n) fa st de dm sd im se kp (nI p2) (nI w) dp su wa fc po ro fr ch ov → xF b (b + 14) h h1 → xV pg l e (headSpec wsX5_readsPower { frames := 1, cells := 0, slots := 0, locals := 22 }).room s m args below meth c D dA 4 h sz 0 0 Post 0 0 53 [(0, .ref b), (1, .int (x_b (mi = true)))] [] h1 sz1 := by
    intro mi p2 h1 sz1 hp2 hq1 hq2 M F
    refine x_aload_n G dX5_readsPower_53 rfl ?_
    refine x_callV (n := 0) (rest := []) (As := []) G (ci := 5) (c_here (Post := fun r7 h7 sz7 => r7 = some (.int (r_hc tx n (p2))) ∧ Md dA h7 b tx (nI n) fa st de dm sd im se kp (nI (r_pl tx n (p2))) (nI w) dp su wa fc po ro fr ch ov ∧ xF b (b + 14) h h7) (n := n) (p := p2) l D hn (by omega) M (fun h7 sz7 q1 q2 => ⟨rfl, q1, xF_tr F q2⟩)) gX5_readsPower_X5_here rfl ⟨rfl, by decide +kernel, by decide +kernel, by decide +kernel⟩ ⟨by decide, by decide⟩ rfl rfl (md_o M) dX5_readsPower_54 rfl rfl (Nat.le_of_ble_eq_true rfl) ⟨by decide, by decide⟩ ?_
    rintro _ h1 sz1 ⟨rfl, M, F⟩
    try dsimp only [Option.toList, List.cons_append, List.nil_append]
    refine x_istore_n G dX5_readsPower_57 (by decide) ?_
    obtain ⟨cc9, hcc⟩ : ∃ cc9, cc9 = r_hc tx n p2 := ⟨_, rfl⟩
    rw [← hcc] at hq1 hq2 ⊢
    refine x_iload_n G dX5_readsPower_58 rfl ?_
    refine x_bipushV (v := nI 48) G dX5_readsPower_59 (by decide) ?_
    refine x_bipushV (v := nI 57) G dX5_readsPower_61 (by decide) ?_
    refine x_callS (n := 3) (rest := []) (As := [.int (cc9), .int (nI 48), .int (nI 57)]) G (c_in (Post := fun r7 h7 sz7 => r7 = some (.int (x_b ((nI 48) ≤ (cc9) ∧ (cc9) ≤ (nI 57)))) ∧ h1 = h7 ∧ sz1 = sz7) l D ⟨rfl, rfl, rfl⟩) gX5_readsPower_X5_in rfl ⟨by decide +kernel, by decide +kernel, by decide +kernel⟩ ⟨by decide, by decide⟩ dX5_readsPower_63 rfl rfl (Nat.le_of_ble_eq_true rfl) ⟨by decide, by decide⟩ ?_
    rintro _ _ _ ⟨rfl, rfl, rfl⟩
    try dsimp only [Option.toList, List.cons_append, List.nil_append]
    refine x_if_ne G 75 dX5_readsPower_66 (by decide) (fun c_66 => ?_) (fun c_66 => ?_)
    · have e5 := x_b_n.mp c_66
      replace hq2 := hq2 e5
      refine x_aload_n G dX5_readsPower_75 rfl ?_
      refine x_dup G dX5_readsPower_76 rfl ?_
      refine x_get G kX5 inX5 10 (by decide) (by decide +kernel) dX5_readsPower_77 (md_o M) rfl ?_
      refine x_iconstV (v := nI 1) G dX5_readsPower_80 (by decide) ?_
      refine x_iadd G dX5_readsPower_81 ?_
      refine x_topE (y := nI (r_pl tx n p2 + 1)) (nI_1 _) ?_
      refine x_put G kX5 inX5 10 (by decide) (by decide +kernel) rfl dX5_readsPower_82 (md_o M) rfl rfl (Nat.le_of_ble_eq_true rfl) ?_
      have M := md_pl_s M (nI (r_pl tx n p2 + 1))
      have F := xF_up (a := b) (e := .inr (5, List.set [.ref (b + 1), .int (nI n), .int (fa), .ref (b + 2), .ref (b + 3), .int (dm), .long (sd), .ref (b + 4), .ref (b + 5), .ref (b + 6), .int (nI (r_pl tx n p2)), .int (nI w), .int (dp), .ref (b + 7), .ref (b + 8), .ref (b + 9), .ref (b + 10), .ref (b + 11), .int (fr), .ref (b + 12), .ref (b + 13)] 10 (.int (nI (r_pl tx n p2 + 1))))) F (by omega) (by omega)
      refine x_iconstV (v := nI 0) G dX5_readsPower_85 (by decide) ?_
      refine x_istore_n G dX5_readsPower_86 (by decide) ?_
      refine x_loop (σ := Unit) (fun k _ => [(0, .ref b), (1, .int (x_b (mi = true))), (2, .int cc9), (3, .int (nI k))]) 10 (fun k _ h1 sz1 => Md dA h1 b tx (nI n) fa st de dm sd im se kp (nI (r_pl tx n p2 + 1)) (nI w) dp su wa (pw_f fc (pw_m mi cc9) k) po ro fr ch ov ∧ xF b (b + 14) h h1) ?_ ?_ 0 () _ _ (Nat.zero_le _) ⟨by rw [pw_f0]; exact M, F⟩
      · intro k _ h1 sz1 hj hI nx
        try dsimp only at hI nx ⊢
        obtain ⟨M, F⟩ := hI
        refine x_iload_n G dX5_readsPower_87 rfl ?_
        refine x_bipushV (v := nI 10) G dX5_readsPower_88 (by decide) ?_
        refine x_icmp_ge G 123 dX5_readsPower_90 (by decide) (fun c_90 => ?_) (fun c_90 => ?_)
        · exact absurd c_90 (nI_ge hj (by omega))
        · refine x_aload_n G dX5_readsPower_93 rfl ?_
          refine x_get G kX5 inX5 15 (by decide) (by decide +kernel) dX5_readsPower_94 (md_o M) rfl ?_
          refine x_iload_n G dX5_readsPower_97 rfl ?_
          refine x_dup2 G dX5_readsPower_98 rfl rfl ?_
          refine x_ialdN G dX5_readsPower_99 (md_fc M) (by omega) (by decide) ?_
          refine x_iload_n G dX5_readsPower_100 rfl ?_
          refine x_if_eq G 111 dX5_readsPower_101 (by decide) (fun c_101 => ?_) (fun c_101 => ?_)
          · have et : pw_m mi cc9 = cc9 - nI 48 := if_neg (x_b_0.mp c_101)
            refine x_iload_n G dX5_readsPower_111 rfl ?_
            refine x_bipushV (v := nI 48) G dX5_readsPower_112 (by decide) ?_
            refine x_isub G dX5_readsPower_114 ?_
            rw [← et]
            refine x_imul G dX5_readsPower_115 ?_
            refine x_iastN G dX5_readsPower_116 (md_fc M) (by omega) (by decide) ?_
            rw [pw_fs]
            have M := md_fc_s M (pw_f fc (pw_m mi cc9) (k + 1))
            have F := xF_up (a := b + 9) (e := .inl (dA 0, 10, .inl (pw_f fc (pw_m mi cc9) (k + 1)))) F (by omega) (by omega)
            refine x_iinc G dX5_readsPower_117 rfl (by decide) ?_
            refine x_locE (lv2 := [(0, .ref b), (1, .int (x_b (mi = true))), (2, .int cc9), (3, .int (nI (k + 1)))]) (by rw [nI_succ k]; rfl) ?_
            refine x_goto G 87 dX5_readsPower_120 (by decide) ?_
            exact nx () _ _ ⟨M, F⟩
          · have et : pw_m mi cc9 = nI 48 - cc9 := if_pos (x_b_n.mp c_101)
            refine x_bipushV (v := nI 48) G dX5_readsPower_104 (by decide) ?_
            refine x_iload_n G dX5_readsPower_106 rfl ?_
            refine x_isub G dX5_readsPower_107 ?_
            refine x_goto G 115 dX5_readsPower_108 (by decide) ?_
            rw [← et]
            refine x_imul G dX5_readsPower_115 ?_
            refine x_iastN G dX5_readsPower_116 (md_fc M) (by omega) (by decide) ?_
            rw [pw_fs]
            have M := md_fc_s M (pw_f fc (pw_m mi cc9) (k + 1))
            have F := xF_up (a := b + 9) (e := .inl (dA 0, 10, .inl (pw_f fc (pw_m mi cc9) (k + 1)))) F (by omega) (by omega)
            refine x_iinc G dX5_readsPower_117 rfl (by decide) ?_
            refine x_locE (lv2 := [(0, .ref b), (1, .int (x_b (mi = true))), (2, .int cc9), (3, .int (nI (k + 1)))]) (by rw [nI_succ k]; rfl) ?_
            refine x_goto G 87 dX5_readsPower_120 (by decide) ?_
            exact nx () _ _ ⟨M, F⟩
      · intro _ h1 sz1 hI
        try dsimp only at hI ⊢
        obtain ⟨M, F⟩ := hI
        refine x_iload_n G dX5_readsPower_87 rfl ?_
        refine x_bipushV (v := nI 10) G dX5_readsPower_88 (by decide) ?_
        refine x_icmp_ge G 123 dX5_readsPower_90 (by decide) (fun c_90 => ?_) (fun c_90 => ?_)
        · exact x_vret G dX5_readsPower_123 (hq2 _ _ M F)
        · exact absurd (nI_le (Nat.le_refl _) (by omega)) c_90
    · have e5 := x_b_0.mp c_66
      refine x_aload_n G dX5_readsPower_69 rfl ?_
      refine x_iconstV (v := nI 1) G dX5_readsPower_70 (by decide) ?_
      refine x_callV (n := 1) (rest := []) (As := [.int (nI 1)]) G (ci := 5) (c_fails (Post := fun r7 h7 sz7 => r7 = none ∧ Md dA h7 b tx (nI n) fa st de dm sd im se kp (nI (r_pl tx n p2)) (nI (r_fl w 1)) dp su wa fc po ro fr ch ov ∧ xF b (b + 14) h h7) (w := w) (q := 1) l D hw M (fun h7 sz7 q1 q2 => ⟨rfl, q1, xF_tr F q2⟩)) gX5_readsPower_X5_fails rfl ⟨rfl, by decide +kernel, by decide +kernel, by decide +kernel⟩ ⟨by decide, by decide⟩ rfl rfl (md_o M) dX5_readsPower_71 rfl rfl (Nat.le_of_ble_eq_true rfl) ⟨by decide, by decide⟩ ?_
      rintro _ h1 sz1 ⟨rfl, M, F⟩
      try dsimp only [Option.toList, List.cons_append, List.nil_append]
      exact x_vret G dX5_readsPower_74 (hq1 e5 _ _ M F)
  refine x_aload_n G dX5_readsPower_0 rfl ?_
  refine x_callV (n := 0) (rest := []) (As := []) G (ci := 5) (c_here (Post := fun r7 h7 sz7 => r7 = some (.int (r_hc tx n (p))) ∧ Md dA h7 b tx (nI n) fa st de dm sd im se kp (nI (r_pl tx n (p))) (nI w) dp su wa fc po ro fr ch ov ∧ xF b (b + 14) h h7) (n := n) (p := p) l D hn (by omega) M (fun h7 sz7 q1 q2 => ⟨rfl, q1, xF_tr F q2⟩)) gX5_readsPower_X5_here rfl ⟨rfl, by decide +kernel, by decide +kernel, by decide +kernel⟩ ⟨by decide, by decide⟩ rfl rfl (md_o M) dX5_readsPower_1 rfl rfl (Nat.le_of_ble_eq_true rfl) ⟨by decide, by decide⟩ ?_
  rintro _ h1 sz1 ⟨rfl, M, F⟩
  try dsimp only [Option.toList, List.cons_append, List.nil_append]
  refine x_bipushV (v := nI 94) G dX5_readsPower_4 (by decide) ?_
  refine x_icmp_eq G 10 dX5_readsPower_6 (by decide) (fun c_6 => ?_) (fun c_6 => ?_)
  · have e94 := c_6
    have hl : r_pl tx n p < n := r_hc_lt (by rw [e94]; decide)
    refine x_aload_n G dX5_readsPower_10 rfl ?_
    refine x_dup G dX5_readsPower_11 rfl ?_
    refine x_get G kX5 inX5 10 (by decide) (by decide +kernel) dX5_readsPower_12 (md_o M) rfl ?_
    refine x_iconstV (v := nI 1) G dX5_readsPower_15 (by decide) ?_
    refine x_iadd G dX5_readsPower_16 ?_
    refine x_topE (y := nI (r_pl tx n p + 1)) (nI_1 _) ?_
    refine x_put G kX5 inX5 10 (by decide) (by decide +kernel) rfl dX5_readsPower_17 (md_o M) rfl rfl (Nat.le_of_ble_eq_true rfl) ?_
    have M := md_pl_s M (nI (r_pl tx n p + 1))
    have F := xF_up (a := b) (e := .inr (5, List.set [.ref (b + 1), .int (nI n), .int (fa), .ref (b + 2), .ref (b + 3), .int (dm), .long (sd), .ref (b + 4), .ref (b + 5), .ref (b + 6), .int (nI (r_pl tx n p)), .int (nI w), .int (dp), .ref (b + 7), .ref (b + 8), .ref (b + 9), .ref (b + 10), .ref (b + 11), .int (fr), .ref (b + 12), .ref (b + 13)] 10 (.int (nI (r_pl tx n p + 1))))) F (by omega) (by omega)
    have hb3 := r_pl_b (tx := tx) (n := n) (p := r_pl tx n p + 1) (by omega)
    refine x_aload_n G dX5_readsPower_20 rfl ?_
    refine x_callV (n := 0) (rest := []) (As := []) G (ci := 5) (c_here (Post := fun r7 h7 sz7 => r7 = some (.int (r_hc tx n (r_pl tx n p + 1))) ∧ Md dA h7 b tx (nI n) fa st de dm sd im se kp (nI (r_pl tx n (r_pl tx n p + 1))) (nI w) dp su wa fc po ro fr ch ov ∧ xF b (b + 14) h h7) (n := n) (p := r_pl tx n p + 1) l D hn (by omega) M (fun h7 sz7 q1 q2 => ⟨rfl, q1, xF_tr F q2⟩)) gX5_readsPower_X5_here rfl ⟨rfl, by decide +kernel, by decide +kernel, by decide +kernel⟩ ⟨by decide, by decide⟩ rfl rfl (md_o M) dX5_readsPower_21 rfl rfl (Nat.le_of_ble_eq_true rfl) ⟨by decide, by decide⟩ ?_
    rintro _ h1 sz1 ⟨rfl, M, F⟩
    try dsimp only [Option.toList, List.cons_append, List.nil_append]
    refine x_bipushV (v := nI 45) G dX5_readsPower_24 (by decide) ?_
    refine x_icmp_ne G 33 dX5_readsPower_26 (by decide) (fun c_26 => ?_) (fun c_26 => ?_)
    · have emi : pw_mi tx n p = false := decide_eq_false c_26
      have e2 : pw_2 tx n p = r_pl tx n (r_pl tx n p + 1) := by
        unfold pw_2
        rw [emi]
        rfl
      refine x_iconstV (v := x_b (false = true)) G dX5_readsPower_33 (by decide) ?_
      refine x_istore_n G dX5_readsPower_34 (by decide) ?_
      refine x_aload_n G dX5_readsPower_35 rfl ?_
      refine x_dup G dX5_readsPower_36 rfl ?_
      refine x_get G kX5 inX5 10 (by decide) (by decide +kernel) dX5_readsPower_37 (md_o M) rfl ?_
      refine x_iload_n G dX5_readsPower_40 rfl ?_
      refine x_if_eq G 48 dX5_readsPower_41 (by decide) (fun c_41 => ?_) (fun c_41 => ?_)
      · 
        refine x_iconstV (v := nI 0) G dX5_readsPower_48 (by decide) ?_
        refine x_iadd G dX5_readsPower_49 ?_
        refine x_topE (y := nI (r_pl tx n (r_pl tx n p + 1))) (by rw [nI_add]; rfl) ?_
        refine x_put G kX5 inX5 10 (by decide) (by decide +kernel) rfl dX5_readsPower_50 (md_o M) rfl rfl (Nat.le_of_ble_eq_true rfl) ?_
        have M := md_pl_s M (nI (r_pl tx n (r_pl tx n p + 1)))
        have F := xF_up (a := b) (e := .inr (5, List.set [.ref (b + 1), .int (nI n), .int (fa), .ref (b + 2), .ref (b + 3), .int (dm), .long (sd), .ref (b + 4), .ref (b + 5), .ref (b + 6), .int (nI (r_pl tx n (r_pl tx n p + 1))), .int (nI w), .int (dp), .ref (b + 7), .ref (b + 8), .ref (b + 9), .ref (b + 10), .ref (b + 11), .int (fr), .ref (b + 12), .ref (b + 13)] 10 (.int (nI (r_pl tx n (r_pl tx n p + 1)))))) F (by omega) (by omega)
        exact J53 false (pw_2 tx n p) _ _ (by omega) (fun z h1 sz1 q1 q2 => hpost h1 sz1 (by unfold r_pw; rw [if_neg (fun y => y e94), if_neg z]; exact q1) q2) (fun z h1 sz1 q1 q2 => hpost h1 sz1 (by unfold r_pw; rw [if_neg (fun y => y e94), if_pos z, emi]; exact q1) q2) (by rw [e2]; exact M) F
      · exact absurd rfl c_41
    · have emi : pw_mi tx n p = true := decide_eq_true c_26
      have e2 : pw_2 tx n p = r_pl tx n (r_pl tx n p + 1) + 1 := by
        unfold pw_2
        rw [emi]
        rfl
      have hl2 : r_pl tx n (r_pl tx n p + 1) < n := r_hc_lt (by rw [c_26]; decide)
      have hb2 := r_pl_b (tx := tx) (n := n) (p := r_pl tx n p + 1) (by omega)
      refine x_iconstV (v := x_b (true = true)) G dX5_readsPower_29 (by decide) ?_
      refine x_goto G 34 dX5_readsPower_30 (by decide) ?_
      refine x_istore_n G dX5_readsPower_34 (by decide) ?_
      refine x_aload_n G dX5_readsPower_35 rfl ?_
      refine x_dup G dX5_readsPower_36 rfl ?_
      refine x_get G kX5 inX5 10 (by decide) (by decide +kernel) dX5_readsPower_37 (md_o M) rfl ?_
      refine x_iload_n G dX5_readsPower_40 rfl ?_
      refine x_if_eq G 48 dX5_readsPower_41 (by decide) (fun c_41 => ?_) (fun c_41 => ?_)
      · exact absurd c_41 (by decide)
      · refine x_iconstV (v := nI 1) G dX5_readsPower_44 (by decide) ?_
        refine x_goto G 49 dX5_readsPower_45 (by decide) ?_
        refine x_iadd G dX5_readsPower_49 ?_
        refine x_topE (y := nI (r_pl tx n (r_pl tx n p + 1) + 1)) (by rw [nI_add]) ?_
        refine x_put G kX5 inX5 10 (by decide) (by decide +kernel) rfl dX5_readsPower_50 (md_o M) rfl rfl (Nat.le_of_ble_eq_true rfl) ?_
        have M := md_pl_s M (nI (r_pl tx n (r_pl tx n p + 1) + 1))
        have F := xF_up (a := b) (e := .inr (5, List.set [.ref (b + 1), .int (nI n), .int (fa), .ref (b + 2), .ref (b + 3), .int (dm), .long (sd), .ref (b + 4), .ref (b + 5), .ref (b + 6), .int (nI (r_pl tx n (r_pl tx n p + 1))), .int (nI w), .int (dp), .ref (b + 7), .ref (b + 8), .ref (b + 9), .ref (b + 10), .ref (b + 11), .int (fr), .ref (b + 12), .ref (b + 13)] 10 (.int (nI (r_pl tx n (r_pl tx n p + 1) + 1))))) F (by omega) (by omega)
        exact J53 true (pw_2 tx n p) _ _ (by omega) (fun z h1 sz1 q1 q2 => hpost h1 sz1 (by unfold r_pw; rw [if_neg (fun y => y e94), if_neg z]; exact q1) q2) (fun z h1 sz1 q1 q2 => hpost h1 sz1 (by unfold r_pw; rw [if_neg (fun y => y e94), if_pos z, emi]; exact q1) q2) (by rw [e2]; exact M) F
  · have e94 := c_6
    have er : r_pw tx n p w fc = (r_pl tx n p, w, fc) := if_pos e94
    rw [er] at hpost
    exact x_vret G dX5_readsPower_9 (hpost _ _ M F)
