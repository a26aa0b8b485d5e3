theorem inX5_reads_5 : ∀ w ∈ wsX50, w ∈ wsX5_reads := by decide +kernel
theorem r_sl_b {tx : Nat → Int32} {n : Nat} : ∀ {g p w d : Nat} {su wa fc : Nat → Int32} {p9 w9 d9 : Nat} {su9 wa9 fc9 : Nat → Int32}, p ≤ n → w ≤ 3 → d ≤ 6 → r_sl tx n g p w d su wa fc = some (p9, w9, d9, su9, wa9, fc9) → p9 ≤ n ∧ w9 ≤ 3 ∧ d9 ≤ 6
  | 0, _, _, _, _, _, _, _, _, _, _, _, _, _, _, _, q => by cases q
  | g + 1, p, w, d, su, wa, fc, p9, w9, d9, su9, wa9, fc9, hp, hw, hd, q => by
    have hb1 := r_lt_b (tx := tx) (n := n) (p := p) (w := w) (d := d) (su := su) (wa := wa) (fc := fc) hp hw hd
    rw [show r_sl tx n (g + 1) p w d su wa fc = (if ¬ w = 0 then _ else _) from rfl] at q
    by_cases z : w = 0
    · rw [if_neg (fun y => y z)] at q
      generalize r_lt tx n p w d su wa fc = y at q hb1
      obtain ⟨yb, p1, w1, d1, su1, wa1, fc1⟩ := y
      dsimp only at hb1
      cases yb with
      | false => exact r_sl_b hb1.1 hb1.2.1 hb1.2.2 q
      | true =>
        dsimp only at q
        have hb2 := r_cs_b (tx := tx) (n := n) (wa := wa1) (d := d1) (p := p1) (w := w1) (su := su1) (fc := fc1) hb1.1 hb1.2.1
        generalize r_cs tx n wa1 d1 p1 w1 su1 fc1 = y at q hb2
        obtain ⟨p2, w2, d2, su2, fc2⟩ := y
        dsimp only at q hb2
        have hb3 := r_pl_b (tx := tx) hb2.1
        by_cases v : ¬ w2 = 0 ∨ (¬ r_hc tx n p2 = nI 42 ∧ ¬ r_hc tx n p2 = nI 47)
        · rw [if_pos v] at q
          cases q
          exact ⟨hb3.2, hb2.2.1, by omega⟩
        · rw [if_neg v] at q
          have hl : r_pl tx n p2 < n := r_hc_lt (fun x => v (Or.inr ⟨by rw [x]; decide, by rw [x]; decide⟩))
          exact r_sl_b (by omega) hb2.2.1 (by omega) q
    · rw [if_pos z] at q
      cases q
      exact ⟨hp, hw, hd⟩
/-- readsSide: what ends it, the place, what is wrong, the depth, sums, ways, the factor -/
def r_sY (tx : Nat → Int32) (n g p : Nat) (su wa fc : Nat → Int32) : Option (Int32 × Nat × Nat × Nat × (Nat → Int32) × (Nat → Int32) × (Nat → Int32)) := match r_sl tx n g p 0 0 (op_su su 0 10) (upd wa 0 (nI 1)) fc with
  | none => none
  | some (p9, w9, d9, su9, wa9, fc9) => some (r_hc tx n p9, r_pl tx n p9, r_sw w9 d9, d9, su9, wa9, fc9)
def rd_s (po su : Nat → Int32) (n : Nat) : Nat → Int32 := fun k => if k < n then po k - su k else po k
theorem rd_s0 (po su : Nat → Int32) : rd_s po su 0 = po := by
  funext k
  unfold rd_s
  rw [if_neg (by omega)]
theorem rd_ss {po su : Nat → Int32} {n : Nat} : upd (rd_s po su n) n (rd_s po su n n - su n) = rd_s po su (n + 1) := by
  have e0 : rd_s po su n n = po n := by
    unfold rd_s
    rw [if_neg (by omega)]
  rw [e0]
  funext k
  unfold upd rd_s
  by_cases e : k = n
  · subst e
    rw [if_pos rfl, if_pos (by omega)]
  · rw [if_neg e]
    by_cases e2 : k < n
    · rw [if_pos e2, if_pos (by omega)]
    · rw [if_neg e2, if_neg (by omega)]
/-- both sides are read: what ended it, the place, what is wrong, the powers -/
def rd_m (tx : Nat → Int32) (n g : Nat) (sy : Bool) (su wa fc po : Nat → Int32) : Option (Int32 × Nat × Nat × (Nat → Int32)) := match r_sY tx n g 0 su wa fc with
  | none => none
  | some (c1, p1, w1, _, su1, wa1, fc1) => if w1 = 0 ∧ sy = true then (if c1 = nI 61 then match r_sY tx n g (p1 + 1) su1 wa1 fc1 with
        | none => none
        | some (c2, p2, w2, _, su2, _, _) => some (c2, p2, w2, rd_s (va_cpy su1 po 0 0 10) su2 10)
      else some (c1, p1, r_fl w1 1, va_cpy su1 po 0 0 10))
    else some (c1, p1, w1, va_cpy su1 po 0 0 10)
def rd_w (w : Nat) (c : Int32) : Nat := if w = 0 ∧ ¬ c = -1 then r_fl w 1 else w
def rd_l (po : Nat → Int32) (w : Nat) : Nat → Nat
  | 0 => w
  | k + 1 => if rd_l po w k = 0 then (if (-9) ≤ po k ∧ po k ≤ nI 9 then 0 else 3) else rd_l po w k
def rd_f (w p n : Nat) : Int32 := if w = 0 then -1 else if w = 3 then nI n else nI p
theorem rd_lb {po : Nat → Int32} {w : Nat} (h : w ≤ 3) : ∀ k, rd_l po w k ≤ 3
  | 0 => h
  | k + 1 => by
    unfold rd_l
    by_cases z : rd_l po w k = 0
    · rw [if_pos z]
      by_cases y : (-9) ≤ po k ∧ po k ≤ nI 9
      · rw [if_pos y]; decide
      · rw [if_neg y]; decide
    · rw [if_neg z]
      exact rd_lb h k
theorem rd_ls {po : Nat → Int32} {w : Nat} : ∀ {n k : Nat}, k ≤ n → ¬ rd_l po w k = 0 → rd_l po w n = rd_l po w k
  | 0, k, h, _ => by rw [show k = 0 by omega]
  | n + 1, k, h, z => by
    rcases Nat.lt_or_ge n k with y | y
    · rw [show k = n + 1 by omega]
    · have e := rd_ls y z
      show (if rd_l po w n = 0 then _ else _) = _
      rw [if_neg (by rw [e]; exact z)]
      exact e
theorem r_sw_b {w d : Nat} (h : w ≤ 3) : r_sw w d ≤ 3 := by
  unfold r_sw
  by_cases z : w = 0 ∧ 0 < d
  · rw [if_pos z]; exact r_fl_b h (by decide)
  · rw [if_neg z]; exact h
set_option maxRecDepth 100000 in
set_option maxHeartbeats 4000000 in
/-- reads -/
theorem c_reads (l : Launch) (D : va_G) {dA : Nat → ClassId} {b n g p9 w9 : Nat} {c9 : Int32} {sy : Bool} {po9 : Nat → Int32} {tx : Nat → Int32} {fa : Int32} {st : Nat → Int32} {de : Nat → Int32} {dm : Int32} {sd : Int64} {im : Nat → Int32} {se : Nat → Int64} {kp : Nat → Int32} {pl : Int32} {wr : Int32} {dp : Int32} {su : Nat → Int32} {wa : Nat → Int32} {fc : Nat → Int32} {po : Nat → Int32} {ro : Nat → Int64} {fr : Int32} {ch : Nat → Int64} {ov : Nat → Int64} {h : xH} {sz : Nat} {Post : Option Value → xH → Nat → Prop} (hn : n ≤ 60) (hm : rd_m tx n g sy su wa fc po = some (c9, p9, w9, po9)) (M : Md dA h b tx (nI n) fa st de dm sd im se kp pl wr dp su wa fc po ro fr ch ov) (hpost : ∀ (h1 : xH) (sz1 : Nat) (pl9 wr9 dp9 : Int32) (su9 wa9 fc9 : Nat → Int32), Md dA h1 b tx (nI 0) (rd_f (rd_l po9 (rd_w w9 c9) 10) p9 n) st de dm sd im se kp pl9 wr9 dp9 su9 wa9 fc9 po9 ro fr ch ov → xF b (b + 14) h h1 → Post (some (.int (nI (rd_l po9 (rd_w w9 c9) 10)))) h1 sz1) : xMet l yX5_reads wsX5_reads 4 86 0 0 D dA [.ref b, .int (x_b (sy = true))] h sz Post := by
  refine x_open (cc := cX5_reads) (maxL := 4) (ret := (some .int)) (by decide) rfl (Nat.le_of_ble_eq_true rfl) ?_
  intro pg e s m args below meth c G _
  have inX5 : ∀ w ∈ wsX50, w ∈ wsX5_reads := inX5_reads_5
  have F := xF_rf (lo := b) (hi := b + 14) (h := h)
  have J162 : ∀ (w4 p4 : Nat) (po9 : Nat → Int32) (x1 x2 x3 : Int32) (h1 : xH) (sz1 : Nat) (dp9 : Int32) (su9 wa9 fc9 : Nat → Int32), w4 ≤ 3 → p4 ≤ 60 → (∀ (h1 : xH) (sz1 : Nat) (pl9 wr9 dp9 : Int32) (su9 wa9 fc9 : Nat → Int32), Md dA h1 b tx (nI 0) (rd_f w4 p4 n) st de dm sd im se kp pl9 wr9 dp9 su9 wa9 fc9 po9 ro fr ch ov → xF b (b + 14) h h1 → Post (some (.int (nI w4))) h1 sz1) → Md dA h1 b tx (nI n) fa st de dm sd im se kp (nI p4) (nI w4) dp9 su9 wa9 fc9 po9 ro fr ch ov → xF b (b + 14) h h1 → xV pg l e (headSpec wsX5_reads { frames := 4, cells := 0, slots := 0, locals := 86 }).room s m args below meth c D dA 4 h sz 0 0 Post 0 0 162 [(0, .ref b), (1, .int x1), (2, .int x2), (3, .int x3)] [] h1 sz1 := by
    intro w4 p4 po9 x1 x2 x3 h1 sz1 dp9 su9 wa9 fc9 hw4 hp4 hq M F
    have J193 : ∀ (v : Int32), v = rd_f w4 p4 n → xV pg l e (headSpec wsX5_reads { frames := 4, cells := 0, slots := 0, locals := 86 }).room s m args below meth c D dA 4 h sz 0 0 Post 0 0 193 [(0, .ref b), (1, .int x1), (2, .int x2), (3, .int x3)] [.int v, .ref b] h1 sz1 := by
      intro v hv
      rw [hv]
      refine x_put G kX5 inX5 2 (by decide) (by decide +kernel) rfl dX5_reads_193 (md_o M) rfl rfl (Nat.le_of_ble_eq_true rfl) ?_
      have M := md_fa_s M (rd_f w4 p4 n)
      have F := xF_up (a := b) (e := .inr (5, List.set [.ref (b + 1), .int (nI n), .int (fa), .ref (b + 2), .ref (b + 3), .int (dm), .long (sd), .ref (b + 4), .ref (b + 5), .ref (b + 6), .int (nI p4), .int (nI w4), .int (dp9), .ref (b + 7), .ref (b + 8), .ref (b + 9), .ref (b + 10), .ref (b + 11), .int (fr), .ref (b + 12), .ref (b + 13)] 2 (.int (rd_f w4 p4 n)))) F (by omega) (by omega)
      refine x_aload_n G dX5_reads_196 rfl ?_
      refine x_iconstV (v := nI 0) G dX5_reads_197 (by decide) ?_
      refine x_put G kX5 inX5 1 (by decide) (by decide +kernel) rfl dX5_reads_198 (md_o M) rfl rfl (Nat.le_of_ble_eq_true rfl) ?_
      have M := md_ln_s M (nI 0)
      have F := xF_up (a := b) (e := .inr (5, List.set [.ref (b + 1), .int (nI n), .int (rd_f w4 p4 n), .ref (b + 2), .ref (b + 3), .int (dm), .long (sd), .ref (b + 4), .ref (b + 5), .ref (b + 6), .int (nI p4), .int (nI w4), .int (dp9), .ref (b + 7), .ref (b + 8), .ref (b + 9), .ref (b + 10), .ref (b + 11), .int (fr), .ref (b + 12), .ref (b + 13)] 1 (.int (nI 0)))) F (by omega) (by omega)
      refine x_aload_n G dX5_reads_201 rfl ?_
      refine x_get G kX5 inX5 11 (by decide) (by decide +kernel) dX5_reads_202 (md_o M) rfl ?_
      exact x_iret G dX5_reads_205 (hq _ _ _ _ _ _ _ _ M F)
    refine x_aload_n G dX5_reads_162 rfl ?_
    refine x_aload_n G dX5_reads_163 rfl ?_
    refine x_get G kX5 inX5 11 (by decide) (by decide +kernel) dX5_reads_164 (md_o M) rfl ?_
    refine x_if_ne G 174 dX5_reads_167 (by decide) (fun c_167 => ?_) (fun c_167 => ?_)
    · have e0 : ¬ w4 = 0 := fun z => c_167 (by rw [z]; rfl)
      refine x_aload_n G dX5_reads_174 rfl ?_
      refine x_get G kX5 inX5 11 (by decide) (by decide +kernel) dX5_reads_175 (md_o M) rfl ?_
      refine x_iconstV (v := nI 3) G dX5_reads_178 (by decide) ?_
      refine x_icmp_ne G 189 dX5_reads_179 (by decide) (fun c_179 => ?_) (fun c_179 => ?_)
      · have e1 : ¬ w4 = 3 := fun z => c_179 (by rw [z])
        refine x_aload_n G dX5_reads_189 rfl ?_
        refine x_get G kX5 inX5 10 (by decide) (by decide +kernel) dX5_reads_190 (md_o M) rfl ?_
        exact J193 _ (by unfold rd_f; rw [if_neg e0, if_neg e1])
      · have e1 : w4 = 3 := (nI_eq (by omega) (by decide)).mp c_179
        refine x_aload_n G dX5_reads_182 rfl ?_
        refine x_get G kX5 inX5 1 (by decide) (by decide +kernel) dX5_reads_183 (md_o M) rfl ?_
        refine x_goto G 193 dX5_reads_186 (by decide) ?_
        exact J193 _ (by unfold rd_f; rw [if_neg e0, if_pos e1])
    · have e0 : w4 = 0 := by
        rcases Nat.eq_zero_or_pos w4 with z | z
        · exact z
        · exact absurd c_167 (nI_ne0 z (by omega))
      refine x_iconstV (v := (-1)) G dX5_reads_170 (by decide) ?_
      refine x_goto G 193 dX5_reads_171 (by decide) ?_
      exact J193 _ (if_pos e0).symm
  have J116 : ∀ (w3 p4 : Nat) (po9 : Nat → Int32) (x1 x2 : Int32) (h1 : xH) (sz1 : Nat) (dp9 : Int32) (su9 wa9 fc9 : Nat → Int32), w3 ≤ 3 → p4 ≤ 60 → (∀ (h1 : xH) (sz1 : Nat) (pl9 wr9 dp9 : Int32) (su9 wa9 fc9 : Nat → Int32), Md dA h1 b tx (nI 0) (rd_f (rd_l po9 w3 10) p4 n) st de dm sd im se kp pl9 wr9 dp9 su9 wa9 fc9 po9 ro fr ch ov → xF b (b + 14) h h1 → Post (some (.int (nI (rd_l po9 w3 10)))) h1 sz1) → Md dA h1 b tx (nI n) fa st de dm sd im se kp (nI p4) (nI w3) dp9 su9 wa9 fc9 po9 ro fr ch ov → xF b (b + 14) h h1 → xV pg l e (headSpec wsX5_reads { frames := 4, cells := 0, slots := 0, locals := 86 }).room s m args below meth c D dA 4 h sz 0 0 Post 0 0 116 [(0, .ref b), (1, .int x1), (2, .int x2)] [] h1 sz1 := by
    intro w3 p4 po9 x1 x2 h1 sz1 dp9 su9 wa9 fc9 hw3 hp4 hq M F
    refine x_iconstV (v := nI 0) G dX5_reads_116 (by decide) ?_
    refine x_istore_n G dX5_reads_117 (by decide) ?_
    refine x_while (σ := Nat) (fun k => [(0, .ref b), (1, .int x1), (2, .int x2), (3, .int (nI k))]) [] (fun k h1 sz1 => k ≤ 10 ∧ Md dA h1 b tx (nI n) fa st de dm sd im se kp (nI p4) (nI (rd_l po9 w3 k)) dp9 su9 wa9 fc9 po9 ro fr ch ov ∧ xF b (b + 14) h h1) (fun k => 10 - k) ?_ 0 _ _ ⟨by decide, M, F⟩
    intro k h1 sz1 hI nx
    obtain ⟨hk, M, F⟩ := hI
    have hb := rd_lb (po := po9) hw3 k
    refine x_iload_n G dX5_reads_118 rfl ?_
    refine x_bipushV (v := nI 10) G dX5_reads_119 (by decide) ?_
    refine x_icmp_ge G 162 dX5_reads_121 (by decide) (fun c_121 => ?_) (fun c_121 => ?_)
    · have e : k = 10 := by
        rcases Nat.lt_or_ge k 10 with z | z
        · exact absurd c_121 (nI_ge z (by decide))
        · omega
      subst e
      exact J162 _ p4 po9 _ _ _ _ _ _ _ _ _ hb hp4 hq M F
    · have hk10 : k < 10 := by
        rcases Nat.lt_or_ge k 10 with z | z
        · exact z
        · exact absurd (nI_le z (by omega)) c_121
      refine x_aload_n G dX5_reads_124 rfl ?_
      refine x_get G kX5 inX5 11 (by decide) (by decide +kernel) dX5_reads_125 (md_o M) rfl ?_
      refine x_if_ne G 162 dX5_reads_128 (by decide) (fun c_128 => ?_) (fun c_128 => ?_)
      · have e0 : ¬ rd_l po9 w3 k = 0 := fun z => c_128 (by rw [z]; rfl)
        rw [rd_ls hk e0] at hq
        exact J162 _ p4 po9 _ _ _ _ _ _ _ _ _ hb hp4 hq M F
      · have e0 : rd_l po9 w3 k = 0 := by
          rcases Nat.eq_zero_or_pos (rd_l po9 w3 k) with z | z
          · exact z
          · exact absurd c_128 (nI_ne0 z (by omega))
        refine x_aload_n G dX5_reads_131 rfl ?_
        refine x_aload_n G dX5_reads_132 rfl ?_
        refine x_get G kX5 inX5 16 (by decide) (by decide +kernel) dX5_reads_133 (md_o M) rfl ?_
        refine x_iload_n G dX5_reads_136 rfl ?_
        refine x_ialdN G dX5_reads_137 (md_po M) (by omega) (by decide) ?_
        refine x_bipushV (v := (-9)) G dX5_reads_138 (by decide) ?_
        refine x_bipushV (v := nI 9) G dX5_reads_140 (by decide) ?_
        refine x_callS (n := 3) (rest := [.ref b]) (As := [.int (po9 k), .int (-9), .int (nI 9)]) G (c_in (Post := fun r7 h7 sz7 => r7 = some (.int (x_b ((-9) ≤ (po9 k) ∧ (po9 k) ≤ (nI 9)))) ∧ h1 = h7 ∧ sz1 = sz7) l D ⟨rfl, rfl, rfl⟩) gX5_reads_X5_in rfl ⟨by decide +kernel, by decide +kernel, by decide +kernel⟩ ⟨by decide, by decide⟩ dX5_reads_142 rfl rfl (Nat.le_of_ble_eq_true rfl) ⟨by decide, by decide⟩ ?_
        rintro _ _ _ ⟨rfl, rfl, rfl⟩
        try dsimp only [Option.toList, List.cons_append, List.nil_append]
        refine x_if_eq G 152 dX5_reads_145 (by decide) (fun c_145 => ?_) (fun c_145 => ?_)
        · have e2 : rd_l po9 w3 (k + 1) = 3 := by
            show (if rd_l po9 w3 k = 0 then _ else _) = _
            rw [if_pos e0, if_neg (x_b_0.mp c_145)]
          refine x_iconstV (v := nI 3) G dX5_reads_152 (by decide) ?_
          rw [show nI 3 = nI (rd_l po9 w3 (k + 1)) by rw [e2]]
          refine x_put G kX5 inX5 11 (by decide) (by decide +kernel) rfl dX5_reads_153 (md_o M) rfl rfl (Nat.le_of_ble_eq_true rfl) ?_
          have M := md_wr_s M (nI (rd_l po9 w3 (k + 1)))
          have F := xF_up (a := b) (e := .inr (5, List.set [.ref (b + 1), .int (nI n), .int (fa), .ref (b + 2), .ref (b + 3), .int (dm), .long (sd), .ref (b + 4), .ref (b + 5), .ref (b + 6), .int (nI p4), .int (nI (rd_l po9 w3 k)), .int (dp9), .ref (b + 7), .ref (b + 8), .ref (b + 9), .ref (b + 10), .ref (b + 11), .int (fr), .ref (b + 12), .ref (b + 13)] 11 (.int (nI (rd_l po9 w3 (k + 1)))))) F (by omega) (by omega)
          refine x_iinc G dX5_reads_156 rfl (by decide) ?_
          refine x_goto G 118 dX5_reads_159 (by decide) ?_
          refine x_locE (lv2 := [(0, .ref b), (1, .int x1), (2, .int x2), (3, .int (nI (k + 1)))]) (by rw [nI_succ k]; rfl) ?_
          exact nx (k + 1) _ _ ⟨by omega, M, F⟩ (by omega)
        · have e2 : rd_l po9 w3 (k + 1) = 0 := by
            show (if rd_l po9 w3 k = 0 then _ else _) = _
            rw [if_pos e0, if_pos (x_b_n.mp c_145)]
          refine x_iconstV (v := nI 0) G dX5_reads_148 (by decide) ?_
          refine x_goto G 153 dX5_reads_149 (by decide) ?_
          rw [show nI 0 = nI (rd_l po9 w3 (k + 1)) by rw [e2]]
          refine x_put G kX5 inX5 11 (by decide) (by decide +kernel) rfl dX5_reads_153 (md_o M) rfl rfl (Nat.le_of_ble_eq_true rfl) ?_
          have M := md_wr_s M (nI (rd_l po9 w3 (k + 1)))
          have F := xF_up (a := b) (e := .inr (5, List.set [.ref (b + 1), .int (nI n), .int (fa), .ref (b + 2), .ref (b + 3), .int (dm), .long (sd), .ref (b + 4), .ref (b + 5), .ref (b + 6), .int (nI p4), .int (nI (rd_l po9 w3 k)), .int (dp9), .ref (b + 7), .ref (b + 8), .ref (b + 9), .ref (b + 10), .ref (b + 11), .int (fr), .ref (b + 12), .ref (b + 13)] 11 (.int (nI (rd_l po9 w3 (k + 1)))))) F (by omega) (by omega)
          refine x_iinc G dX5_reads_156 rfl (by decide) ?_
          refine x_goto G 118 dX5_reads_159 (by decide) ?_
          refine x_locE (lv2 := [(0, .ref b), (1, .int x1), (2, .int x2), (3, .int (nI (k + 1)))]) (by rw [nI_succ k]; rfl) ?_
          exact nx (k + 1) _ _ ⟨by omega, M, F⟩ (by omega)
  have J99 : ∀ (w2 p4 : Nat) (po9 : Nat → Int32) (x1 c2 : Int32) (h1 : xH) (sz1 : Nat) (dp9 : Int32) (su9 wa9 fc9 : Nat → Int32), w2 ≤ 3 → p4 ≤ 60 → (∀ (h1 : xH) (sz1 : Nat) (pl9 wr9 dp9 : Int32) (su9 wa9 fc9 : Nat → Int32), Md dA h1 b tx (nI 0) (rd_f (rd_l po9 (rd_w w2 c2) 10) p4 n) st de dm sd im se kp pl9 wr9 dp9 su9 wa9 fc9 po9 ro fr ch ov → xF b (b + 14) h h1 → Post (some (.int (nI (rd_l po9 (rd_w w2 c2) 10)))) h1 sz1) → Md dA h1 b tx (nI n) fa st de dm sd im se kp (nI p4) (nI w2) dp9 su9 wa9 fc9 po9 ro fr ch ov → xF b (b + 14) h h1 → xV pg l e (headSpec wsX5_reads { frames := 4, cells := 0, slots := 0, locals := 86 }).room s m args below meth c D dA 4 h sz 0 0 Post 0 0 99 [(0, .ref b), (1, .int x1), (2, .int c2)] [] h1 sz1 := by
    intro w2 p4 po9 x1 c2 h1 sz1 dp9 su9 wa9 fc9 hw2 hp4 hq M F
    refine x_aload_n G dX5_reads_99 rfl ?_
    refine x_get G kX5 inX5 11 (by decide) (by decide +kernel) dX5_reads_100 (md_o M) rfl ?_
    refine x_if_ne G 116 dX5_reads_103 (by decide) (fun c_103 => ?_) (fun c_103 => ?_)
    · have e : rd_w w2 c2 = w2 := if_neg (fun z => c_103 (by rw [z.1]; rfl))
      rw [e] at hq
      exact J116 _ p4 po9 _ _ _ _ _ _ _ _ hw2 hp4 hq M F
    · have e0 : w2 = 0 := by
        rcases Nat.eq_zero_or_pos w2 with z | z
        · exact z
        · exact absurd c_103 (nI_ne0 z (by omega))
      refine x_iload_n G dX5_reads_106 rfl ?_
      refine x_iconstV (v := (-1)) G dX5_reads_107 (by decide) ?_
      refine x_icmp_eq G 116 dX5_reads_108 (by decide) (fun c_108 => ?_) (fun c_108 => ?_)
      · have e : rd_w w2 c2 = w2 := if_neg (fun z => z.2 c_108)
        rw [e] at hq
        exact J116 _ p4 po9 _ _ _ _ _ _ _ _ hw2 hp4 hq M F
      · have e : rd_w w2 c2 = r_fl w2 1 := if_pos ⟨e0, c_108⟩
        rw [e] at hq
        refine x_aload_n G dX5_reads_111 rfl ?_
        refine x_iconstV (v := nI 1) G dX5_reads_112 (by decide) ?_
        refine x_callV (n := 1) (rest := []) (As := [.int (nI 1)]) G (ci := 5) (c_fails (Post := fun r7 h7 sz7 => r7 = none ∧ Md dA h7 b tx (nI n) fa st de dm sd im se kp (nI p4) (nI (r_fl w2 1)) dp9 su9 wa9 fc9 po9 ro fr ch ov ∧ xF b (b + 14) h h7) (w := w2) (q := 1) l D hw2 M (fun h7 sz7 q1 q2 => ⟨rfl, q1, xF_tr F q2⟩)) gX5_reads_X5_fails rfl ⟨rfl, by decide +kernel, by decide +kernel, by decide +kernel⟩ ⟨by decide, by decide⟩ rfl rfl (md_o M) dX5_reads_113 rfl rfl (Nat.le_of_ble_eq_true rfl) ⟨by decide, by decide⟩ ?_
        rintro _ h1 sz1 ⟨rfl, M, F⟩
        try dsimp only [Option.toList, List.cons_append, List.nil_append]
        exact J116 _ p4 po9 _ _ _ _ _ _ _ _ (r_fl_b hw2 (by decide)) hp4 hq M F
  unfold rd_m r_sY at hm
  cases hs1 : r_sl tx n g 0 0 0 (op_su su 0 10) (upd wa 0 (nI 1)) fc with
  | none => rw [hs1] at hm; cases hm
  | some y =>
  obtain ⟨q1, v1, d1, su1, wa1, fc1⟩ := y
  rw [hs1] at hm
  dsimp only at hm
  have hb1 := r_sl_b (Nat.zero_le _) (by decide) (by decide) hs1
  have hb1p := r_pl_b (tx := tx) hb1.1
  refine x_aload_n G dX5_reads_0 rfl ?_
  refine x_iconstV (v := nI 0) G dX5_reads_1 (by decide) ?_
  refine x_put G kX5 inX5 10 (by decide) (by decide +kernel) rfl dX5_reads_2 (md_o M) rfl rfl (Nat.le_of_ble_eq_true rfl) ?_
  have M := md_pl_s M (nI 0)
  have F := xF_up (a := b) (e := .inr (5, List.set [.ref (b + 1), .int (nI n), .int (fa), .ref (b + 2), .ref (b + 3), .int (dm), .long (sd), .ref (b + 4), .ref (b + 5), .ref (b + 6), .int (pl), .int (wr), .int (dp), .ref (b + 7), .ref (b + 8), .ref (b + 9), .ref (b + 10), .ref (b + 11), .int (fr), .ref (b + 12), .ref (b + 13)] 10 (.int (nI 0)))) F (by omega) (by omega)
  refine x_aload_n G dX5_reads_5 rfl ?_
  refine x_iconstV (v := nI 0) G dX5_reads_6 (by decide) ?_
  refine x_put G kX5 inX5 11 (by decide) (by decide +kernel) rfl dX5_reads_7 (md_o M) rfl rfl (Nat.le_of_ble_eq_true rfl) ?_
  have M := md_wr_s M (nI 0)
  have F := xF_up (a := b) (e := .inr (5, List.set [.ref (b + 1), .int (nI n), .int (fa), .ref (b + 2), .ref (b + 3), .int (dm), .long (sd), .ref (b + 4), .ref (b + 5), .ref (b + 6), .int (nI 0), .int (wr), .int (dp), .ref (b + 7), .ref (b + 8), .ref (b + 9), .ref (b + 10), .ref (b + 11), .int (fr), .ref (b + 12), .ref (b + 13)] 11 (.int (nI 0)))) F (by omega) (by omega)
  refine x_aload_n G dX5_reads_10 rfl ?_
  refine x_callV (n := 0) (rest := []) (As := []) G (ci := 5) (c_readsSide (Post := fun r7 h7 sz7 => r7 = some (.int (r_hc tx n q1)) ∧ Md dA h7 b tx (nI n) fa st de dm sd im se kp (nI (r_pl tx n q1)) (nI (r_sw v1 d1)) (nI d1) su1 wa1 fc1 po ro fr ch ov ∧ xF b (b + 14) h h7) l D hn (by omega) (by decide) hs1 M (fun h7 sz7 q1 q2 => ⟨rfl, q1, xF_tr F q2⟩)) gX5_reads_X5_readsSide rfl ⟨rfl, by decide +kernel, by decide +kernel, by decide +kernel⟩ ⟨by decide, by decide⟩ rfl rfl (md_o M) dX5_reads_11 rfl rfl (Nat.le_of_ble_eq_true rfl) ⟨by decide, by decide⟩ ?_
  rintro _ h1 sz1 ⟨rfl, M, F⟩
  try dsimp only [Option.toList, List.cons_append, List.nil_append]
  refine x_istore_n G dX5_reads_14 (by decide) ?_
  refine x_aload_n G dX5_reads_15 rfl ?_
  refine x_get G kX5 inX5 13 (by decide) (by decide +kernel) dX5_reads_16 (md_o M) rfl ?_
  refine x_iconstV (v := nI 0) G dX5_reads_19 (by decide) ?_
  refine x_aload_n G dX5_reads_20 rfl ?_
  refine x_get G kX5 inX5 16 (by decide) (by decide +kernel) dX5_reads_21 (md_o M) rfl ?_
  refine x_iconstV (v := nI 0) G dX5_reads_24 (by decide) ?_
  refine x_bipushV (v := nI 10) G dX5_reads_25 (by decide) ?_
  refine x_callS (n := 5) (rest := []) (As := [.ref (b + 7), .int (nI (0)), .ref (b + 10), .int (nI (0)), .int (nI (10))]) G (c_bring (Post := fun r7 h7 sz7 => r7 = none ∧ h7 = x_up _ (b + 10) (.inl (dA 0, 10, .inl (va_cpy (su1) (po) (0) (0) (10))))) l D (md_su M) (md_po M) (Or.inl (by omega)) (by omega) (by omega) (by decide) (by decide) (fun sz7 => ⟨rfl, rfl⟩)) gX5_reads_X5_bring rfl ⟨by decide +kernel, by decide +kernel, by decide +kernel⟩ ⟨by decide, by decide⟩ dX5_reads_27 rfl rfl (Nat.le_of_ble_eq_true rfl) ⟨by decide, by decide⟩ ?_
  rintro _ _ sz1 ⟨rfl, rfl⟩
  try dsimp only [Option.toList, List.cons_append, List.nil_append]
  have M := md_po_s M (va_cpy (su1) (po) (0) (0) (10))
  have F := xF_up (a := b + 10) (e := .inl (dA 0, 10, .inl (va_cpy (su1) (po) (0) (0) (10)))) F (by omega) (by omega)
  refine x_aload_n G dX5_reads_30 rfl ?_
  refine x_get G kX5 inX5 11 (by decide) (by decide +kernel) dX5_reads_31 (md_o M) rfl ?_
  refine x_if_ne G 99 dX5_reads_34 (by decide) (fun c_34 => ?_) (fun c_34 => ?_)
  · have ew : ¬ r_sw v1 d1 = 0 := fun z => c_34 (by rw [z]; rfl)
    rw [if_neg (fun z => ew z.1)] at hm
    cases hm
    exact J99 _ _ _ _ _ _ _ _ _ _ _ (r_sw_b hb1.2.1) (by omega) hpost M F
  · have ew : r_sw v1 d1 = 0 := by
      rcases Nat.eq_zero_or_pos (r_sw v1 d1) with z | z
      · exact z
      · exact absurd c_34 (nI_ne0 z (by have := r_sw_b (d := d1) hb1.2.1; omega))
    refine x_iload_n G dX5_reads_37 rfl ?_
    refine x_if_eq G 99 dX5_reads_38 (by decide) (fun c_38 => ?_) (fun c_38 => ?_)
    · rw [if_neg (fun z => x_b_0.mp c_38 z.2)] at hm
      cases hm
      exact J99 _ _ _ _ _ _ _ _ _ _ _ (r_sw_b hb1.2.1) (by omega) hpost M F
    · rw [if_pos ⟨ew, x_b_n.mp c_38⟩] at hm
      refine x_iload_n G dX5_reads_41 rfl ?_
      refine x_bipushV (v := nI 61) G dX5_reads_42 (by decide) ?_
      refine x_icmp_ne G 94 dX5_reads_44 (by decide) (fun c_44 => ?_) (fun c_44 => ?_)
      · rw [if_neg c_44] at hm
        cases hm
        refine x_aload_n G dX5_reads_94 rfl ?_
        refine x_iconstV (v := nI 1) G dX5_reads_95 (by decide) ?_
        refine x_callV (n := 1) (rest := []) (As := [.int (nI 1)]) G (ci := 5) (c_fails (Post := fun r7 h7 sz7 => r7 = none ∧ Md dA h7 b tx (nI n) fa st de dm sd im se kp (nI (r_pl tx n q1)) (nI (r_fl (r_sw v1 d1) 1)) (nI d1) su1 wa1 fc1 (va_cpy su1 po 0 0 10) ro fr ch ov ∧ xF b (b + 14) h h7) (w := r_sw v1 d1) (q := 1) l D (r_sw_b hb1.2.1) M (fun h7 sz7 q1 q2 => ⟨rfl, q1, xF_tr F q2⟩)) gX5_reads_X5_fails rfl ⟨rfl, by decide +kernel, by decide +kernel, by decide +kernel⟩ ⟨by decide, by decide⟩ rfl rfl (md_o M) dX5_reads_96 rfl rfl (Nat.le_of_ble_eq_true rfl) ⟨by decide, by decide⟩ ?_
        rintro _ h1 sz1 ⟨rfl, M, F⟩
        try dsimp only [Option.toList, List.cons_append, List.nil_append]
        exact J99 _ _ _ _ _ _ _ _ _ _ _ (r_fl_b (r_sw_b hb1.2.1) (by decide)) (by omega) hpost M F
      · rw [if_pos c_44] at hm
        have hl : r_pl tx n q1 < n := r_hc_lt (by rw [c_44]; decide)
        cases hs2 : r_sl tx n g (r_pl tx n q1 + 1) 0 0 (op_su su1 0 10) (upd wa1 0 (nI 1)) fc1 with
        | none => rw [hs2] at hm; cases hm
        | some y =>
        obtain ⟨q2, v2, d2, su2, wa2, fc2⟩ := y
        rw [hs2] at hm
        cases hm
        have hb2 := r_sl_b (by omega) (by decide) (by decide) hs2
        rw [ew] at M
        refine x_aload_n G dX5_reads_47 rfl ?_
        refine x_dup G dX5_reads_48 rfl ?_
        refine x_get G kX5 inX5 10 (by decide) (by decide +kernel) dX5_reads_49 (md_o M) rfl ?_
        refine x_iconstV (v := nI 1) G dX5_reads_52 (by decide) ?_
        refine x_iadd G dX5_reads_53 ?_
        refine x_topE (y := nI (r_pl tx n q1 + 1)) (nI_1 _) ?_
        refine x_put G kX5 inX5 10 (by decide) (by decide +kernel) rfl dX5_reads_54 (md_o M) rfl rfl (Nat.le_of_ble_eq_true rfl) ?_
        have M := md_pl_s M (nI (r_pl tx n q1 + 1))
        have F := xF_up (a := b) (e := .inr (5, List.set [.ref (b + 1), .int (nI n), .int (fa), .ref (b + 2), .ref (b + 3), .int (dm), .long (sd), .ref (b + 4), .ref (b + 5), .ref (b + 6), .int (nI (r_pl tx n q1)), .int (nI 0), .int (nI d1), .ref (b + 7), .ref (b + 8), .ref (b + 9), .ref (b + 10), .ref (b + 11), .int (fr), .ref (b + 12), .ref (b + 13)] 10 (.int (nI (r_pl tx n q1 + 1))))) F (by omega) (by omega)
        refine x_aload_n G dX5_reads_57 rfl ?_
        refine x_callV (n := 0) (rest := []) (As := []) G (ci := 5) (c_readsSide (Post := fun r7 h7 sz7 => r7 = some (.int (r_hc tx n q2)) ∧ Md dA h7 b tx (nI n) fa st de dm sd im se kp (nI (r_pl tx n q2)) (nI (r_sw v2 d2)) (nI d2) su2 wa2 fc2 (va_cpy su1 po 0 0 10) ro fr ch ov ∧ xF b (b + 14) h h7) l D hn (by omega) (by decide) hs2 M (fun h7 sz7 q1 q2 => ⟨rfl, q1, xF_tr F q2⟩)) gX5_reads_X5_readsSide rfl ⟨rfl, by decide +kernel, by decide +kernel, by decide +kernel⟩ ⟨by decide, by decide⟩ rfl rfl (md_o M) dX5_reads_58 rfl rfl (Nat.le_of_ble_eq_true rfl) ⟨by decide, by decide⟩ ?_
        rintro _ h1 sz1 ⟨rfl, M, F⟩
        try dsimp only [Option.toList, List.cons_append, List.nil_append]
        refine x_istore_n G dX5_reads_61 (by decide) ?_
        refine x_iconstV (v := nI 0) G dX5_reads_62 (by decide) ?_
        refine x_istore_n G dX5_reads_63 (by decide) ?_
        refine x_loop (σ := Unit) (fun k _ => [(0, .ref b), (1, .int (x_b (sy = true))), (2, .int (r_hc tx n q2)), (3, .int (nI k))]) 10 (fun k _ h1 sz1 => Md dA h1 b tx (nI n) fa st de dm sd im se kp (nI (r_pl tx n q2)) (nI (r_sw v2 d2)) (nI d2) su2 wa2 fc2 (rd_s (va_cpy su1 po 0 0 10) su2 k) ro fr ch ov ∧ xF b (b + 14) h h1) ?_ ?_ 0 () _ _ (Nat.zero_le _) ⟨by rw [rd_s0]; exact M, F⟩
        · intro k _ h1 sz1 hj hI nx
          try dsimp only at hI nx ⊢
          obtain ⟨M, F⟩ := hI
          refine x_iload_n G dX5_reads_64 rfl ?_
          refine x_bipushV (v := nI 10) G dX5_reads_65 (by decide) ?_
          refine x_icmp_ge G 91 dX5_reads_67 (by decide) (fun c_67 => ?_) (fun c_67 => ?_)
          · exact absurd c_67 (nI_ge hj (by omega))
          · refine x_aload_n G dX5_reads_70 rfl ?_
            refine x_get G kX5 inX5 16 (by decide) (by decide +kernel) dX5_reads_71 (md_o M) rfl ?_
            refine x_iload_n G dX5_reads_74 rfl ?_
            refine x_dup2 G dX5_reads_75 rfl rfl ?_
            refine x_ialdN G dX5_reads_76 (md_po M) (by omega) (by decide) ?_
            refine x_aload_n G dX5_reads_77 rfl ?_
            refine x_get G kX5 inX5 13 (by decide) (by decide +kernel) dX5_reads_78 (md_o M) rfl ?_
            refine x_iload_n G dX5_reads_81 rfl ?_
            refine x_ialdN G dX5_reads_82 (md_su M) (by omega) (by decide) ?_
            refine x_isub G dX5_reads_83 ?_
            refine x_iastN G dX5_reads_84 (md_po M) (by omega) (by decide) ?_
            rw [rd_ss]
            have M := md_po_s M (rd_s (va_cpy su1 po 0 0 10) su2 (k + 1))
            have F := xF_up (a := b + 10) (e := .inl (dA 0, 10, .inl (rd_s (va_cpy su1 po 0 0 10) su2 (k + 1)))) F (by omega) (by omega)
            refine x_iinc G dX5_reads_85 rfl (by decide) ?_
            refine x_locE (lv2 := [(0, .ref b), (1, .int (x_b (sy = true))), (2, .int (r_hc tx n q2)), (3, .int (nI (k + 1)))]) (by rw [nI_succ k]; rfl) ?_
            refine x_goto G 64 dX5_reads_88 (by decide) ?_
            exact nx () _ _ ⟨M, F⟩
        · intro _ h1 sz1 hI
          try dsimp only at hI ⊢
          obtain ⟨M, F⟩ := hI
          refine x_iload_n G dX5_reads_64 rfl ?_
          refine x_bipushV (v := nI 10) G dX5_reads_65 (by decide) ?_
          refine x_icmp_ge G 91 dX5_reads_67 (by decide) (fun c_67 => ?_) (fun c_67 => ?_)
          · refine x_goto G 99 dX5_reads_91 (by decide) ?_
            refine x_keep [0, 1, 2] ?_
            exact J99 _ _ _ _ _ _ _ _ _ _ _ (r_sw_b hb2.2.1) (by have := r_pl_b (tx := tx) hb2.1; omega) hpost M F
          · exact absurd (nI_le (Nat.le_refl _) (by omega)) c_67
