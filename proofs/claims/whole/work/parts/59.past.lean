/-! ## The constructors of a Past and of the class -/
def sT_0 : sT := ((fun _ _ => 0), fl_I (fun _ => 0) (nI 1) 4, fl_I (fun _ => 0) (nI 1) 4, 0, 0, 0)
def ah_r (b N j : Nat) : Nat → Option Nat := fun i => if i < j then some (b + 10 * i) else none
theorem ah_0 {b N : Nat} : ah_r b N 0 = fun _ => none := by
  funext i
  exact if_neg (by omega)
theorem ah_s {b N j : Nat} : va_up (ah_r b N j) j (some (b + 10 * j)) = ah_r b N (j + 1) := by
  funext i
  unfold va_up ah_r
  by_cases e : i = j
  · rw [if_pos e, if_pos (by omega), e]
  · rw [if_neg e]
    by_cases e2 : i < j
    · rw [if_pos e2, if_pos (by omega)]
    · rw [if_neg e2, if_neg (by omega)]
theorem df_3 : ∀ j, j < 6 → defaultValue (tyX3 j) = vp_V [.null, .null, .null, .int 0, .int 0, .int 0] j := by
  intro j hj
  rcases (show j = 0 ∨ j = 1 ∨ j = 2 ∨ j = 3 ∨ j = 4 ∨ j = 5 by omega) with rfl | rfl | rfl | rfl | rfl | rfl <;> rfl
theorem df_1 : ∀ j, j < 9 → defaultValue (tyX1 j) = vp_V [.null, .null, .null, .int 0, .int 0, .int 0, .int 0, .int 0, .int 0] j := by
  intro j hj
  rcases (show j = 0 ∨ j = 1 ∨ j = 2 ∨ j = 3 ∨ j = 4 ∨ j = 5 ∨ j = 6 ∨ j = 7 ∨ j = 8 by omega) with rfl | rfl | rfl | rfl | rfl | rfl | rfl | rfl | rfl <;> rfl
theorem df_2 : ∀ j, j < 7 → defaultValue (tyX2 j) = vp_V [.null, .null, .null, .null, .null, .long 0, .int 0] j := by
  intro j hj
  rcases (show j = 0 ∨ j = 1 ∨ j = 2 ∨ j = 3 ∨ j = 4 ∨ j = 5 ∨ j = 6 by omega) with rfl | rfl | rfl | rfl | rfl | rfl | rfl <;> rfl
theorem df_0 : ∀ j, j < 3 → defaultValue (tyX0 j) = vp_V [.null, .int 0, .int 0] j := by
  intro j hj
  rcases (show j = 0 ∨ j = 1 ∨ j = 2 by omega) with rfl | rfl | rfl <;> rfl
theorem inX0_init_0 : ∀ w ∈ wsX00, w ∈ wsX0_init := by decide +kernel
theorem inX0_init_3 : ∀ w ∈ wsX30, w ∈ wsX0_init := by decide +kernel
set_option maxRecDepth 100000 in
set_option maxHeartbeats 4000000 in
/-- the constructor of a Past -/
theorem c_X0_init (l : Launch) (D : va_G) {dA : Nat → ClassId} {u : Nat} {h : xH} {Post : Option Value → xH → Nat → Prop} (hb : h u = some (.inr (0, [.null, .int 0, .int 0]))) (hpost : ∀ h1 : xH, Pa dA h1 u (fun _ => sT_0) (nI 0) (nI 0) → xF u (u + 202) h h1 → Post none h1 (u + 202)) : xMet l yX0_init wsX0_init 2 64 201 1620 D dA [.ref u] h (u + 1) Post := by
  refine x_open (cc := cX0_init) (maxL := 2) (ret := none) (by decide) rfl (Nat.le_of_ble_eq_true rfl) ?_
  intro p e s m args below meth c G hin
  have inX0 : ∀ w ∈ wsX00, w ∈ wsX0_init := inX0_init_0
  have inX3 : ∀ w ∈ wsX30, w ∈ wsX0_init := inX0_init_3
  have F := xF_rf (lo := u) (hi := u + 202) (h := h)
  have hts0 : Cond.code objectInit ⟨#[0xb1]⟩ 1 none ∈ wsX0_init := List.mem_cons_of_mem _ (List.mem_append_left _ (List.mem_append_left _ (List.mem_of_getElem? (i := 2) rfl)))
  refine x_aload_n G dX0_init_0 rfl ?_
  refine x_objI G (by decide +kernel) (by decide +kernel) hts0 dX0_init_1 (by decide) (by decide) ?_
  refine x_aload_n G dX0_init_4 rfl ?_
  refine x_bipushV (v := nI 20) G dX0_init_5 (by decide) ?_
  refine x_newq (N := 20) (sz1 := u + 2) G rfl (by decide +kernel) dX0_init_7 (by decide) (by decide) (by decide) (by decide) (by decide) ?_
  obtain ⟨g0, eg0⟩ : ∃ g : xH, g = x_up h (u + 1) (.inl (dA 3, 20, .inr (.inr (.inr (.inr (fun _ => none)))))) := ⟨_, rfl⟩
  refine x_as rfl rfl eg0.symm ?_
  replace hb : g0 u = some (.inr (0, [.null, .int 0, .int 0])) := by rw [eg0, x_up_ne (by omega)]; exact hb
  replace F := xF_up (a := u + 1) (e := (.inl (dA 3, 20, .inr (.inr (.inr (.inr (fun _ => none))))))) F (by omega) (by omega)
  rw [← eg0] at F
  have ka : g0 (u + 1) = some (.inl (dA 3, 20, .inr (.inr (.inr (.inr (fun _ => none)))))) := by rw [eg0]; exact x_up_eq
  refine x_putF G kX0 inX0 0 (by decide) (by decide +kernel) rfl (hin rfl) rfl dX0_init_10 hb rfl rfl (Nat.le_of_ble_eq_true rfl) ?_
  obtain ⟨g1, eg1⟩ : ∃ g : xH, g = x_up g0 u (.inr (0, List.set [.null, .int 0, .int 0] 0 (.ref (u + 1)))) := ⟨_, rfl⟩
  refine x_as rfl rfl eg1.symm ?_
  replace hb : g1 u = some (.inr (0, [.ref (u + 1), .int 0, .int 0])) := by rw [eg1]; exact x_up_eq
  replace ka : g1 (u + 1) = some (.inl (dA 3, 20, .inr (.inr (.inr (.inr (fun _ => none)))))) := by rw [eg1, x_up_ne (by omega)]; exact ka
  replace F := xF_up (a := u) (e := .inr (0, List.set [.null, .int 0, .int 0] 0 (.ref (u + 1)))) F (by omega) (by omega)
  rw [← eg1] at F
  refine x_iconstV (v := nI 0) G dX0_init_13 (by decide) ?_
  refine x_istore_n G dX0_init_14 (by decide) ?_
  rw [← ah_0 (b := u + 2) (N := 20)] at ka
  refine x_loopA (fun j => 1 + 10 * j) (fun j => 20 + 80 * j) (fun j => [(0, .ref u), (1, .int (nI j))]) 20 (fun j h1 sz1 => h1 u = some (.inr (0, [.ref (u + 1), .int 0, .int 0])) ∧ h1 (u + 1) = some (.inl (dA 3, 20, .inr (.inr (.inr (.inr (ah_r (u + 2) 20 j)))))) ∧ (∀ i, i < j → StT dA h1 (u + 2 + 10 * i) sT_0) ∧ u + 2 + 10 * j = sz1 ∧ xF u (u + 202) h h1) ?_ ?_ 0 _ _ (Nat.zero_le _) ⟨hb, ka, fun i hi => absurd hi (Nat.not_lt_zero _), rfl, F⟩
  · intro j h1 sz1 hj hI nx
    obtain ⟨hb, ka, ks, rfl, F⟩ := hI
    refine x_iload_n G dX0_init_15 rfl ?_
    refine x_bipushV (v := nI 20) G dX0_init_16 (by decide) ?_
    refine x_icmp_ge G 40 dX0_init_18 (by decide) (fun c_18 => absurd c_18 (nI_ge hj (by decide))) (fun c_18 => ?_)
    refine x_aload_n G dX0_init_21 rfl ?_
    refine x_get G kX0 inX0 0 (by decide) (by decide +kernel) dX0_init_22 hb rfl ?_
    refine x_iload_n G dX0_init_25 rfl ?_
    refine x_newO (fs := [.null, .null, .null, .int 0, .int 0, .int 0]) (sz1 := u + 2 + 10 * j + 1) G kX3 inX3 rfl (by decide +kernel) (by decide +kernel) (by decide +kernel) dX0_init_26 df_3 (by show 1 + 10 * j + 1 ≤ 201; omega) (by show 20 + 80 * j + 6 ≤ 1620; omega) ?_
    refine x_dup G dX0_init_29 rfl ?_
    refine x_callI (n := 0) (rest := [.ref (u + 2 + 10 * j), .int (nI j), .ref (u + 1)]) (As := []) G (c_X3_init (Post := fun r7 h7 sz7 => r7 = none ∧ StT dA h7 (u + 2 + 10 * j) sT_0 ∧ xF (u + 2 + 10 * j) (u + 2 + 10 * j + 10) _ h7 ∧ u + 2 + 10 * j + 10 = sz7) l D x_up_eq (fun h7 q1 q2 => ⟨rfl, q1, q2, rfl⟩)) gX0_init_X3_init rfl (by decide +kernel) (by decide +kernel) (by decide +kernel) rfl ⟨by decide +kernel, by decide +kernel, by decide +kernel⟩ ⟨by decide, by decide⟩ dX0_init_30 rfl rfl (Nat.le_of_ble_eq_true rfl) ⟨by show 1 + 10 * j + 1 + 9 ≤ 201; omega, by show 20 + 80 * j + 6 + 74 ≤ 1620; omega⟩ ?_
    rintro _ h2 _ ⟨rfl, S, F2, rfl⟩
    try dsimp only [Option.toList, List.cons_append, List.nil_append]
    have F3 : xF (u + 2 + 10 * j) (u + 2 + 10 * j + 10) h1 h2 := xF_tr (xF_up (a := u + 2 + 10 * j) (e := .inr (3, [.null, .null, .null, .int 0, .int 0, .int 0])) xF_rf (by omega) (by omega)) F2
    replace hb := (F3 u (by omega)).trans hb
    replace ka := (F3 (u + 1) (by omega)).trans ka
    refine x_aasq (k := j) G dX0_init_33 ka (st_o S) (by omega) (by decide) ?_
    rw [ah_s]
    refine x_iinc G dX0_init_34 rfl (by decide) ?_
    refine x_locE (lv2 := [(0, .ref u), (1, .int (nI (j + 1)))]) (by rw [nI_succ j]; rfl) ?_
    refine x_goto G 15 dX0_init_37 (by decide) ?_
    refine x_clE (show 1 + 10 * j + 1 + 9 = 1 + 10 * (j + 1) by omega) (show 20 + 80 * j + 6 + 74 = 20 + 80 * (j + 1) by omega) ?_
    have F4 : xF (u + 1) (u + 2) h2 (x_up h2 (u + 1) (.inl (dA 3, 20, .inr (.inr (.inr (.inr (ah_r (u + 2) 20 (j + 1)))))))) := xF_up xF_rf (by omega) (by omega)
    refine nx _ _ ⟨(x_up_ne (by omega)).trans hb, x_up_eq, fun i hi => ?_, by omega, xF_tr (xF_tr F (xF_wd F3 (by omega) (by omega))) (xF_wd F4 (by omega) (by omega))⟩
    rcases Nat.lt_or_ge i j with z | z
    · exact st_fo (st_fo (ks i z) F3 (by omega)) F4 (by omega)
    · rw [show i = j by omega]
      exact st_fo S F4 (by omega)
  · intro h1 sz1 hI
    obtain ⟨hb, ka, ks, rfl, F⟩ := hI
    refine x_iload_n G dX0_init_15 rfl ?_
    refine x_bipushV (v := nI 20) G dX0_init_16 (by decide) ?_
    refine x_icmp_ge G 40 dX0_init_18 (by decide) (fun c_18 => ?_) (fun c_18 => absurd (nI_le (Nat.le_refl _) (by decide)) c_18)
    exact x_vret G dX0_init_40 (hpost _ ⟨hb, ka, ks⟩ F)
