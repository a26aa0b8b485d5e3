/-! ## The class: Past, 202 cells u .. u + 201 (object, array, twenty States) -/
abbrev sT : Type := (Nat → Nat → Int32) × (Nat → Int32) × (Nat → Int32) × Int32 × Int32 × Int32
def StT (dA : Nat → ClassId) (h : xH) (q : Nat) (t : sT) : Prop := St dA h q t.1 t.2.1 t.2.2.1 t.2.2.2.1 t.2.2.2.2.1 t.2.2.2.2.2
/-- a State's deeds over another's -/
def sT_cp (f t : sT) : sT := (cp_s f.1 t.1 6, va_cpy f.2.1 t.2.1 0 0 4, va_cpy f.2.2.1 t.2.2.1 0 0 4, f.2.2.2.1, t.2.2.2.2.1, t.2.2.2.2.2)
def Pa (dA : Nat → ClassId) (h : xH) (u : Nat) (ss : Nat → sT) (nx ct : Int32) : Prop := h u = some (.inr (0, [.ref (u + 1), .int nx, .int ct])) ∧ h (u + 1) = some (.inl (dA 3, 20, .inr (.inr (.inr (.inr (fun i => if i < 20 then some (u + 2 + 10 * i) else none)))))) ∧ ∀ i, i < 20 → StT dA h (u + 2 + 10 * i) (ss i)
theorem pa_s {dA : Nat → ClassId} {h h1 : xH} {u m : Nat} {ss : Nat → sT} {nx ct : Int32} {t : sT} (P : Pa dA h u ss nx ct) (hm : m < 20) (S : StT dA h1 (u + 2 + 10 * m) t) (F : xF (u + 2 + 10 * m) (u + 2 + 10 * m + 10) h h1) : Pa dA h1 u (fun i => if i = m then t else ss i) nx ct := by
  refine ⟨by rw [F u (by omega)]; exact P.1, by rw [F (u + 1) (by omega)]; exact P.2.1, fun i hi => ?_⟩
  dsimp only
  by_cases e : i = m
  · subst e
    rw [if_pos rfl]
    exact S
  · rw [if_neg e]
    exact st_fo (P.2.2 i hi) F (by omega)
theorem pa_o {dA : Nat → ClassId} {h : xH} {u : Nat} {ss : Nat → sT} {nx ct : Int32} (P : Pa dA h u ss nx ct) (nx1 ct1 : Int32) : Pa dA (x_up h u (.inr (0, [.ref (u + 1), .int nx1, .int ct1]))) u ss nx1 ct1 := by
  refine ⟨x_up_eq, by rw [x_up_ne (by omega)]; exact P.2.1, fun i hi => ?_⟩
  exact st_fo (lo := u) (hi := u + 1) (P.2.2 i hi) (xF_up xF_rf (by omega) (by omega)) (by omega)
theorem pa_fo {dA : Nat → ClassId} {h h1 : xH} {u lo hi : Nat} {ss : Nat → sT} {nx ct : Int32} (P : Pa dA h u ss nx ct) (F : xF lo hi h h1) (k : u + 202 ≤ lo ∨ hi ≤ u) : Pa dA h1 u ss nx ct := by
  refine ⟨by rw [F u (by omega)]; exact P.1, by rw [F (u + 1) (by omega)]; exact P.2.1, fun i hi => ?_⟩
  exact st_fo (P.2.2 i hi) F (by omega)
theorem pa_m : ∀ a, a < 21 → nI a - nI a / nI 20 * nI 20 = nI (a % 20) := by decide
theorem inX0_forget_0 : ∀ w ∈ wsX00, w ∈ wsX0_forget := by decide +kernel
set_option maxRecDepth 100000 in
set_option maxHeartbeats 4000000 in
/-- forget -/
theorem c_X0_forget (l : Launch) (D : va_G) {dA : Nat → ClassId} {u : Nat} {ss : Nat → sT} {nx ct : Int32} {h : xH} {sz : Nat} {Post : Option Value → xH → Nat → Prop} (P : Pa dA h u ss nx ct) (hpost : ∀ (h1 : xH) (sz1 : Nat), Pa dA h1 u ss nx 0 → xF u (u + 202) h h1 → Post none h1 sz1) : xMet l yX0_forget wsX0_forget 0 0 0 0 D dA [.ref u] h sz Post := by
  refine x_open (cc := cX0_forget) (maxL := 1) (ret := none) (by decide) rfl (Nat.le_of_ble_eq_true rfl) ?_
  intro p e s m args below meth c G _
  have inX0 : ∀ w ∈ wsX00, w ∈ wsX0_forget := inX0_forget_0
  refine x_aload_n G dX0_forget_0 rfl ?_
  refine x_iconstV (v := nI 0) G dX0_forget_1 (by decide) ?_
  refine x_put G kX0 inX0 2 (by decide) (by decide +kernel) rfl dX0_forget_2 P.1 rfl rfl (Nat.le_of_ble_eq_true rfl) ?_
  have P := pa_o P nx 0
  have F : xF u (u + 202) h _ := xF_up (a := u) (e := .inr (0, [.ref (u + 1), .int nx, .int 0])) xF_rf (by omega) (by omega)
  exact x_vret G dX0_forget_5 (hpost _ _ P F)
theorem inX0_note_0 : ∀ w ∈ wsX00, w ∈ wsX0_note := by decide +kernel
set_option maxRecDepth 100000 in
set_option maxHeartbeats 4000000 in
/-- note -/
theorem c_X0_note (l : Launch) (D : va_G) {dA : Nat → ClassId} {u q m c0 : Nat} {ss : Nat → sT} {t : sT} {h : xH} {sz : Nat} {Post : Option Value → xH → Nat → Prop} (hm : m < 20) (hc : c0 ≤ 20) (hq : q + 10 ≤ u ∨ u + 202 ≤ q) (P : Pa dA h u ss (nI m) (nI c0)) (T : StT dA h q t) (hpost : ∀ (h1 : xH) (sz1 : Nat), Pa dA h1 u (fun i => if i = m then sT_cp t (ss m) else ss i) (nI ((m + 1) % 20)) (nI (if c0 < 20 then c0 + 1 else c0)) → xF u (u + 202) h h1 → Post none h1 sz1) : xMet l yX0_note wsX0_note 2 70 0 0 D dA [.ref u, .ref q] h sz Post := by
  refine x_open (cc := cX0_note) (maxL := 2) (ret := none) (by decide) rfl (Nat.le_of_ble_eq_true rfl) ?_
  intro p e s mg args below meth c G _
  have inX0 : ∀ w ∈ wsX00, w ∈ wsX0_note := inX0_note_0
  refine x_aload_n G dX0_note_0 rfl ?_
  refine x_get G kX0 inX0 0 (by decide) (by decide +kernel) dX0_note_1 P.1 rfl ?_
  refine x_aload_n G dX0_note_4 rfl ?_
  refine x_get G kX0 inX0 1 (by decide) (by decide +kernel) dX0_note_5 P.1 rfl ?_
  refine x_aald (t := 3) G rfl rfl dX0_note_8 P.2.1 (vp_in_nI hm (by decide)) (show (if (nI m).toNatClampNeg < 20 then some (u + 2 + 10 * (nI m).toNatClampNeg) else none) = some (u + 2 + 10 * m) by rw [nI_clamp (by omega), if_pos hm]) ?_
  refine x_aload_n G dX0_note_9 rfl ?_
  refine x_callV (n := 1) (rest := []) (As := [.ref q]) G (ci := 3) (c_X3_copyDeeds (Post := fun r7 h7 sz7 => r7 = none ∧ StT dA h7 (u + 2 + 10 * m) (sT_cp t (ss m)) ∧ xF (u + 2 + 10 * m) (u + 2 + 10 * m + 10) h h7) l D (by omega) (P.2.2 m hm) T (fun h7 sz7 q1 q2 => ⟨rfl, q1, q2⟩)) gX0_note_X3_copyDeeds rfl ⟨rfl, by decide +kernel, by decide +kernel, by decide +kernel⟩ ⟨by decide, by decide⟩ rfl rfl (st_o (P.2.2 m hm)) dX0_note_10 rfl rfl (Nat.le_of_ble_eq_true rfl) ⟨by decide, by decide⟩ ?_
  rintro _ h1 sz1 ⟨rfl, S, F⟩
  try dsimp only [Option.toList, List.cons_append, List.nil_append]
  have P := pa_s P hm S F
  replace F := xF_wd (lo1 := u) (hi1 := u + 202) F (by omega) (by omega)
  refine x_aload_n G dX0_note_13 rfl ?_
  refine x_aload_n G dX0_note_14 rfl ?_
  refine x_get G kX0 inX0 1 (by decide) (by decide +kernel) dX0_note_15 P.1 rfl ?_
  refine x_iconstV (v := nI 1) G dX0_note_18 (by decide) ?_
  refine x_iadd G dX0_note_19 ?_
  refine x_topE (y := nI (m + 1)) (nI_1 m) ?_
  refine x_bipushV (v := nI 20) G dX0_note_20 (by decide) ?_
  refine x_irem G dX0_note_22 (by decide) ?_
  refine x_topE (y := nI ((m + 1) % 20)) (pa_m (m + 1) (by omega)) ?_
  refine x_put G kX0 inX0 1 (by decide) (by decide +kernel) rfl dX0_note_23 P.1 rfl rfl (Nat.le_of_ble_eq_true rfl) ?_
  have P := pa_o P (nI ((m + 1) % 20)) (nI c0)
  have F := xF_up (a := u) (e := .inr (0, [.ref (u + 1), .int (nI ((m + 1) % 20)), .int (nI c0)])) F (by omega) (by omega)
  refine x_aload_n G dX0_note_26 rfl ?_
  refine x_get G kX0 inX0 2 (by decide) (by decide +kernel) dX0_note_27 P.1 rfl ?_
  refine x_bipushV (v := nI 20) G dX0_note_30 (by decide) ?_
  refine x_icmp_ge G 45 dX0_note_32 (by decide) (fun c_32 => ?_) (fun c_32 => ?_)
  · have e : ¬ c0 < 20 := fun z => absurd c_32 (nI_ge z (by decide))
    rw [if_neg e] at hpost
    exact x_vret G dX0_note_45 (hpost _ _ P F)
  · have e : c0 < 20 := by
      rcases Nat.lt_or_ge c0 20 with z | z
      · exact z
      · exact absurd (nI_le z (by omega)) c_32
    rw [if_pos e] at hpost
    refine x_aload_n G dX0_note_35 rfl ?_
    refine x_dup G dX0_note_36 rfl ?_
    refine x_get G kX0 inX0 2 (by decide) (by decide +kernel) dX0_note_37 P.1 rfl ?_
    refine x_iconstV (v := nI 1) G dX0_note_40 (by decide) ?_
    refine x_iadd G dX0_note_41 ?_
    refine x_topE (y := nI (c0 + 1)) (nI_1 c0) ?_
    refine x_put G kX0 inX0 2 (by decide) (by decide +kernel) rfl dX0_note_42 P.1 rfl rfl (Nat.le_of_ble_eq_true rfl) ?_
    have P := pa_o P (nI ((m + 1) % 20)) (nI (c0 + 1))
    have F := xF_up (a := u) (e := .inr (0, [.ref (u + 1), .int (nI ((m + 1) % 20)), .int (nI (c0 + 1))])) F (by omega) (by omega)
    exact x_vret G dX0_note_45 (hpost _ _ P F)
