/-! ## The constructors of the class -/
theorem x_clE {p : Program} {l : Launch} {e : Env} {R : Room} {s : State} {m : MethodId} {args : Array Value} {below : List Frame} {meth : Method} {c : Code} {D : va_G} {dA : Nat → ClassId} {nL : Nat} {h0 : xH} {sz0 mc ms : Nat} {Post : Option Value → xH → Nat → Prop} {c1 c2 s1 s2 pc : Nat} {lv : List (Nat × Value)} {st : List Value} {h : xH} {sz : Nat} (q1 : c1 = c2) (q2 : s1 = s2) (kk : xV p l e R s m args below meth c D dA nL h0 sz0 mc ms Post c2 s2 pc lv st h sz) : xV p l e R s m args below meth c D dA nL h0 sz0 mc ms Post c1 s1 pc lv st h sz := by
  subst q1
  subst q2
  exact kk
theorem x_loopA {p : Program} {l : Launch} {e : Env} {R : Room} {s : State} {m : MethodId} {args : Array Value} {below : List Frame} {meth : Method} {c : Code} {D : va_G} {dA : Nat → ClassId} {nL : Nat} {h0 : xH} {sz0 mc ms : Nat} {Post : Option Value → xH → Nat → Prop} {pc : Nat} (cl sl : Nat → Nat) (lv : Nat → List (Nat × Value)) (N : Nat) (I : Nat → xH → Nat → Prop)
    (hs : ∀ (j : Nat) (h : xH) (sz : Nat), j < N → I j h sz → (∀ (h1 : xH) (sz1 : Nat), I (j + 1) h1 sz1 → xV p l e R s m args below meth c D dA nL h0 sz0 mc ms Post (cl (j + 1)) (sl (j + 1)) pc (lv (j + 1)) [] h1 sz1) → xV p l e R s m args below meth c D dA nL h0 sz0 mc ms Post (cl j) (sl j) pc (lv j) [] h sz)
    (hx : ∀ (h : xH) (sz : Nat), I N h sz → xV p l e R s m args below meth c D dA nL h0 sz0 mc ms Post (cl N) (sl N) pc (lv N) [] h sz) : ∀ (j : Nat) (h : xH) (sz : Nat), j ≤ N → I j h sz → xV p l e R s m args below meth c D dA nL h0 sz0 mc ms Post (cl j) (sl j) pc (lv j) [] h sz := by
  have key : ∀ (n j : Nat) (h : xH) (sz : Nat), j + n = N → I j h sz → xV p l e R s m args below meth c D dA nL h0 sz0 mc ms Post (cl j) (sl j) pc (lv j) [] h sz := by
    intro n
    induction n with
    | zero =>
      intro j h sz hj hI
      have e : j = N := by omega
      subst e
      exact hx h sz hI
    | succ n ih =>
      intro j h sz hj hI
      exact hs j h sz (by omega) hI (fun h1 sz1 k => ih (j + 1) h1 sz1 (by omega) k)
  intro j h sz hj hI
  exact key (N - j) j h sz (by omega) hI
theorem mz_I (c : ClassId) (K : Nat) : Jvm.Free.Multi.innerC c K (defaultValue .int) = vp_cell c (K, .inl (fun _ => 0)) := by
  rw [vp_cell_i]
  exact arrV_new _ _ _
theorem mz_L (c : ClassId) (K : Nat) : Jvm.Free.Multi.innerC c K (defaultValue .long) = vp_cell c (K, .inr (.inl (fun _ => 0))) := by
  rw [vp_cell_l]
  exact arrV_new _ _ _
theorem inX3_init_3 : ∀ w ∈ wsX30, w ∈ wsX3_init := by decide +kernel
set_option maxRecDepth 100000 in
set_option maxHeartbeats 4000000 in
/-- the constructor of a State -/
theorem c_X3_init (l : Launch) (D : va_G) {dA : Nat → ClassId} {q : Nat} {h : xH} {Post : Option Value → xH → Nat → Prop} (hb : h q = some (.inr (3, [.null, .null, .null, .int 0, .int 0, .int 0]))) (hpost : ∀ h1 : xH, StT dA h1 q ((fun _ _ => 0), fl_I (fun _ => 0) (nI 1) 4, fl_I (fun _ => 0) (nI 1) 4, 0, 0, 0) → xF q (q + 10) h h1 → Post none h1 (q + 10)) : xMet l yX3_init wsX3_init 1 40 9 74 D dA [.ref q] h (q + 1) Post := by
  refine x_open (cc := cX3_init) (maxL := 1) (ret := none) (by decide) rfl (Nat.le_of_ble_eq_true rfl) ?_
  intro p e s m args below meth c G hin
  have inX3 : ∀ w ∈ wsX30, w ∈ wsX3_init := inX3_init_3
  have F := xF_rf (lo := q) (hi := q + 10) (h := h)
  have hts0 : Cond.code objectInit ⟨#[0xb1]⟩ 1 none ∈ wsX3_init := List.mem_cons_of_mem _ (List.mem_append_left _ (List.mem_of_getElem? (i := 2) rfl))
  refine x_aload_n G dX3_init_0 rfl ?_
  refine x_objI G (by decide +kernel) (by decide +kernel) hts0 dX3_init_1 (by decide) (by decide) ?_
  refine x_aload_n G dX3_init_4 rfl ?_
  refine x_bipushV (v := nI 6) G dX3_init_5 (by decide) ?_
  refine x_bipushV (v := nI 10) G dX3_init_7 (by decide) ?_
  refine x_mnaI (N := 6) (K := 10) (sz1 := q + 8) G rfl (by decide +kernel) (by decide +kernel) dX3_init_9 (by decide) (by decide) (by decide) (by decide) (by decide) (by decide) (by decide) (by decide) (by decide) (fun c => mz_I c 10) ?_
  obtain ⟨g0, eg0⟩ : ∃ g : xH, g = x_many (x_up h (q + 1) (.inl (dA 4, 6, .inr (.inr (.inr (.inr (fun i9 => if i9 < 6 then some (q + 1 + 1 + i9) else none))))))) (q + 1 + 1) 6 (.inl (dA 0, 10, .inl (fun _ => 0))) := ⟨_, rfl⟩
  refine x_as rfl rfl eg0.symm ?_
  replace hb : g0 q = some (.inr (3, [.null, .null, .null, .int 0, .int 0, .int 0])) := by rw [eg0, xm_out (by omega), x_up_ne (by omega)]; exact hb
  replace F := xF_many (a := q + 1 + 1) (N := 6) (e := (.inl (dA 0, 10, .inl (fun _ => 0)))) (xF_up (a := q + 1) (e := (.inl (dA 4, 6, .inr (.inr (.inr (.inr (fun i9 => if i9 < 6 then some (q + 1 + 1 + i9) else none))))))) F (by omega) (by omega)) (by omega) (by omega)
  rw [← eg0] at F
  have ky : g0 (q + 1) = some (.inl (dA 4, 6, .inr (.inr (.inr (.inr (fun i => if i < 6 then some (q + 2 + i) else none)))))) := by rw [eg0, xm_out (by omega)]; exact x_up_eq
  have kr : ∀ k, k < 6 → g0 (q + 2 + k) = some (.inl (dA 0, 10, .inl (fun _ => 0))) := fun k hk => by rw [eg0, xm_in (by omega) (by omega)]
  refine x_putF G kX3 inX3 0 (by decide) (by decide +kernel) rfl (hin rfl) rfl dX3_init_13 hb rfl rfl (Nat.le_of_ble_eq_true rfl) ?_
  obtain ⟨g1, eg1⟩ : ∃ g : xH, g = x_up g0 q (.inr (3, List.set [.null, .null, .null, .int 0, .int 0, .int 0] 0 (.ref (q + 1)))) := ⟨_, rfl⟩
  refine x_as rfl rfl eg1.symm ?_
  replace hb : g1 q = some (.inr (3, [.ref (q + 1), .null, .null, .int 0, .int 0, .int 0])) := by rw [eg1]; exact x_up_eq
  replace ky : g1 (q + 1) = some (.inl (dA 4, 6, .inr (.inr (.inr (.inr (fun i => if i < 6 then some (q + 2 + i) else none)))))) := by rw [eg1, x_up_ne (by omega)]; exact ky
  replace kr : ∀ k, k < 6 → g1 (q + 2 + k) = some (.inl (dA 0, 10, .inl (fun _ => 0))) := fun k hk => by rw [eg1, x_up_ne (by omega)]; exact kr k hk
  replace F := xF_up (a := q) (e := .inr (3, List.set [.null, .null, .null, .int 0, .int 0, .int 0] 0 (.ref (q + 1)))) F (by omega) (by omega)
  rw [← eg1] at F
  refine x_aload_n G dX3_init_16 rfl ?_
  refine x_iconstV (v := nI 4) G dX3_init_17 (by decide) ?_
  refine x_newI (N := 4) (sz1 := q + 9) G rfl (by decide +kernel) dX3_init_18 (by decide) (by decide) (by decide) (by decide) (by decide) ?_
  obtain ⟨g2, eg2⟩ : ∃ g : xH, g = x_up g1 (q + 8) (.inl (dA 0, 4, .inl (fun _ => 0))) := ⟨_, rfl⟩
  refine x_as rfl rfl eg2.symm ?_
  replace hb : g2 q = some (.inr (3, [.ref (q + 1), .null, .null, .int 0, .int 0, .int 0])) := by rw [eg2, x_up_ne (by omega)]; exact hb
  replace ky : g2 (q + 1) = some (.inl (dA 4, 6, .inr (.inr (.inr (.inr (fun i => if i < 6 then some (q + 2 + i) else none)))))) := by rw [eg2, x_up_ne (by omega)]; exact ky
  replace kr : ∀ k, k < 6 → g2 (q + 2 + k) = some (.inl (dA 0, 10, .inl (fun _ => 0))) := fun k hk => by rw [eg2, x_up_ne (by omega)]; exact kr k hk
  replace F := xF_up (a := q + 8) (e := (.inl (dA 0, 4, .inl (fun _ => 0)))) F (by omega) (by omega)
  rw [← eg2] at F
  have ka : g2 (q + 8) = some (.inl (dA 0, 4, .inl (fun _ => 0))) := by rw [eg2]; exact x_up_eq
  refine x_putF G kX3 inX3 1 (by decide) (by decide +kernel) rfl (hin rfl) rfl dX3_init_20 hb rfl rfl (Nat.le_of_ble_eq_true rfl) ?_
  obtain ⟨g3, eg3⟩ : ∃ g : xH, g = x_up g2 q (.inr (3, List.set [.ref (q + 1), .null, .null, .int 0, .int 0, .int 0] 1 (.ref (q + 8)))) := ⟨_, rfl⟩
  refine x_as rfl rfl eg3.symm ?_
  replace hb : g3 q = some (.inr (3, [.ref (q + 1), .ref (q + 8), .null, .int 0, .int 0, .int 0])) := by rw [eg3]; exact x_up_eq
  replace ky : g3 (q + 1) = some (.inl (dA 4, 6, .inr (.inr (.inr (.inr (fun i => if i < 6 then some (q + 2 + i) else none)))))) := by rw [eg3, x_up_ne (by omega)]; exact ky
  replace kr : ∀ k, k < 6 → g3 (q + 2 + k) = some (.inl (dA 0, 10, .inl (fun _ => 0))) := fun k hk => by rw [eg3, x_up_ne (by omega)]; exact kr k hk
  replace ka : g3 (q + 8) = some (.inl (dA 0, 4, .inl (fun _ => 0))) := by rw [eg3, x_up_ne (by omega)]; exact ka
  replace F := xF_up (a := q) (e := .inr (3, List.set [.ref (q + 1), .null, .null, .int 0, .int 0, .int 0] 1 (.ref (q + 8)))) F (by omega) (by omega)
  rw [← eg3] at F
  refine x_aload_n G dX3_init_23 rfl ?_
  refine x_iconstV (v := nI 4) G dX3_init_24 (by decide) ?_
  refine x_newI (N := 4) (sz1 := q + 10) G rfl (by decide +kernel) dX3_init_25 (by decide) (by decide) (by decide) (by decide) (by decide) ?_
  obtain ⟨g4, eg4⟩ : ∃ g : xH, g = x_up g3 (q + 9) (.inl (dA 0, 4, .inl (fun _ => 0))) := ⟨_, rfl⟩
  refine x_as rfl rfl eg4.symm ?_
  replace hb : g4 q = some (.inr (3, [.ref (q + 1), .ref (q + 8), .null, .int 0, .int 0, .int 0])) := by rw [eg4, x_up_ne (by omega)]; exact hb
  replace ky : g4 (q + 1) = some (.inl (dA 4, 6, .inr (.inr (.inr (.inr (fun i => if i < 6 then some (q + 2 + i) else none)))))) := by rw [eg4, x_up_ne (by omega)]; exact ky
  replace kr : ∀ k, k < 6 → g4 (q + 2 + k) = some (.inl (dA 0, 10, .inl (fun _ => 0))) := fun k hk => by rw [eg4, x_up_ne (by omega)]; exact kr k hk
  replace ka : g4 (q + 8) = some (.inl (dA 0, 4, .inl (fun _ => 0))) := by rw [eg4, x_up_ne (by omega)]; exact ka
  replace F := xF_up (a := q + 9) (e := (.inl (dA 0, 4, .inl (fun _ => 0)))) F (by omega) (by omega)
  rw [← eg4] at F
  have kb : g4 (q + 9) = some (.inl (dA 0, 4, .inl (fun _ => 0))) := by rw [eg4]; exact x_up_eq
  refine x_putF G kX3 inX3 2 (by decide) (by decide +kernel) rfl (hin rfl) rfl dX3_init_27 hb rfl rfl (Nat.le_of_ble_eq_true rfl) ?_
  obtain ⟨g5, eg5⟩ : ∃ g : xH, g = x_up g4 q (.inr (3, List.set [.ref (q + 1), .ref (q + 8), .null, .int 0, .int 0, .int 0] 2 (.ref (q + 9)))) := ⟨_, rfl⟩
  refine x_as rfl rfl eg5.symm ?_
  replace hb : g5 q = some (.inr (3, [.ref (q + 1), .ref (q + 8), .ref (q + 9), .int 0, .int 0, .int 0])) := by rw [eg5]; exact x_up_eq
  replace ky : g5 (q + 1) = some (.inl (dA 4, 6, .inr (.inr (.inr (.inr (fun i => if i < 6 then some (q + 2 + i) else none)))))) := by rw [eg5, x_up_ne (by omega)]; exact ky
  replace kr : ∀ k, k < 6 → g5 (q + 2 + k) = some (.inl (dA 0, 10, .inl (fun _ => 0))) := fun k hk => by rw [eg5, x_up_ne (by omega)]; exact kr k hk
  replace ka : g5 (q + 8) = some (.inl (dA 0, 4, .inl (fun _ => 0))) := by rw [eg5, x_up_ne (by omega)]; exact ka
  replace kb : g5 (q + 9) = some (.inl (dA 0, 4, .inl (fun _ => 0))) := by rw [eg5, x_up_ne (by omega)]; exact kb
  replace F := xF_up (a := q) (e := .inr (3, List.set [.ref (q + 1), .ref (q + 8), .null, .int 0, .int 0, .int 0] 2 (.ref (q + 9)))) F (by omega) (by omega)
  rw [← eg5] at F
  have S : St dA g5 q (fun _ _ => 0) (fun _ => 0) (fun _ => 0) 0 0 0 := ⟨hb, ky, kr, ka, kb⟩
  refine x_aload_n G dX3_init_30 rfl ?_
  refine x_get G kX3 inX3 1 (by decide) (by decide +kernel) dX3_init_31 (st_o S) rfl ?_
  refine x_iconstV (v := nI 1) G dX3_init_34 (by decide) ?_
  refine x_callS (n := 2) (rest := []) (As := [.ref (q + 8), .int (nI 1)]) G (c_fillI (Post := fun r7 h7 sz7 => r7 = none ∧ h7 = x_up _ (q + 8) (.inl (dA 0, 4, .inl (fl_I (fun _ => 0) (nI 1) 4))) ∧ q + 10 = sz7) l D (by decide) (st_a S) ⟨rfl, rfl, rfl⟩) gX3_init_J7_fill_53178 rfl ⟨by decide +kernel, by decide +kernel, by decide +kernel⟩ ⟨by decide, by decide⟩ dX3_init_35 rfl rfl (Nat.le_of_ble_eq_true rfl) ⟨by decide, by decide⟩ ?_
  rintro _ _ _ ⟨rfl, rfl, rfl⟩
  try dsimp only [Option.toList, List.cons_append, List.nil_append]
  replace S := st_as S (fl_I (fun _ => 0) (nI 1) 4)
  replace F := xF_up (a := q + 8) (e := .inl (dA 0, 4, .inl (fl_I (fun _ => 0) (nI 1) 4))) F (by omega) (by omega)
  refine x_aload_n G dX3_init_38 rfl ?_
  refine x_get G kX3 inX3 2 (by decide) (by decide +kernel) dX3_init_39 (st_o S) rfl ?_
  refine x_iconstV (v := nI 1) G dX3_init_42 (by decide) ?_
  refine x_callS (n := 2) (rest := []) (As := [.ref (q + 9), .int (nI 1)]) G (c_fillI (Post := fun r7 h7 sz7 => r7 = none ∧ h7 = x_up _ (q + 9) (.inl (dA 0, 4, .inl (fl_I (fun _ => 0) (nI 1) 4))) ∧ q + 10 = sz7) l D (by decide) (st_b S) ⟨rfl, rfl, rfl⟩) gX3_init_J7_fill_53178 rfl ⟨by decide +kernel, by decide +kernel, by decide +kernel⟩ ⟨by decide, by decide⟩ dX3_init_43 rfl rfl (Nat.le_of_ble_eq_true rfl) ⟨by decide, by decide⟩ ?_
  rintro _ _ _ ⟨rfl, rfl, rfl⟩
  try dsimp only [Option.toList, List.cons_append, List.nil_append]
  replace S := st_bs S (fl_I (fun _ => 0) (nI 1) 4)
  replace F := xF_up (a := q + 9) (e := .inl (dA 0, 4, .inl (fl_I (fun _ => 0) (nI 1) 4))) F (by omega) (by omega)
  exact x_vret G dX3_init_46 (hpost _ S F)
theorem inX1_init_1 : ∀ w ∈ wsX10, w ∈ wsX1_init := by decide +kernel
set_option maxRecDepth 100000 in
set_option maxHeartbeats 4000000 in
/-- the constructor of a Reader -/
theorem c_X1_init (l : Launch) (D : va_G) {dA : Nat → ClassId} {q : Nat} {h : xH} {Post : Option Value → xH → Nat → Prop} (hb : h q = some (.inr (1, [.null, .null, .null, .int 0, .int 0, .int 0, .int 0, .int 0, .int 0]))) (hpost : ∀ h1 : xH, RdT dA h1 q ((fun _ _ => 0), (fun _ => 0), (fun _ => 0), 0, 0, 0, 0, 0) (-1) → xF q (q + 11) h h1 → Post none h1 (q + 11)) : xMet l yX1_init wsX1_init 1 40 10 94 D dA [.ref q] h (q + 1) Post := by
  refine x_open (cc := cX1_init) (maxL := 1) (ret := none) (by decide) rfl (Nat.le_of_ble_eq_true rfl) ?_
  intro p e s m args below meth c G hin
  have inX1 : ∀ w ∈ wsX10, w ∈ wsX1_init := inX1_init_1
  have F := xF_rf (lo := q) (hi := q + 11) (h := h)
  have hts0 : Cond.code objectInit ⟨#[0xb1]⟩ 1 none ∈ wsX1_init := List.mem_cons_of_mem _ (List.mem_append_left _ (List.mem_of_getElem? (i := 2) rfl))
  refine x_aload_n G dX1_init_0 rfl ?_
  refine x_objI G (by decide +kernel) (by decide +kernel) hts0 dX1_init_1 (by decide) (by decide) ?_
  refine x_aload_n G dX1_init_4 rfl ?_
  refine x_bipushV (v := nI 7) G dX1_init_5 (by decide) ?_
  refine x_bipushV (v := nI 10) G dX1_init_7 (by decide) ?_
  refine x_mnaL (N := 7) (K := 10) (sz1 := q + 9) G rfl (by decide +kernel) (by decide +kernel) dX1_init_9 (by decide) (by decide) (by decide) (by decide) (by decide) (by decide) (by decide) (by decide) (by decide) (fun c => mz_L c 10) ?_
  obtain ⟨g0, eg0⟩ : ∃ g : xH, g = x_many (x_up h (q + 1) (.inl (dA 5, 7, .inr (.inr (.inr (.inr (fun i9 => if i9 < 7 then some (q + 1 + 1 + i9) else none))))))) (q + 1 + 1) 7 (.inl (dA 1, 10, .inr (.inl (fun _ => 0)))) := ⟨_, rfl⟩
  refine x_as rfl rfl eg0.symm ?_
  replace hb : g0 q = some (.inr (1, [.null, .null, .null, .int 0, .int 0, .int 0, .int 0, .int 0, .int 0])) := by rw [eg0, xm_out (by omega), x_up_ne (by omega)]; exact hb
  replace F := xF_many (a := q + 1 + 1) (N := 7) (e := (.inl (dA 1, 10, .inr (.inl (fun _ => 0))))) (xF_up (a := q + 1) (e := (.inl (dA 5, 7, .inr (.inr (.inr (.inr (fun i9 => if i9 < 7 then some (q + 1 + 1 + i9) else none))))))) F (by omega) (by omega)) (by omega) (by omega)
  rw [← eg0] at F
  have ky : g0 (q + 1) = some (.inl (dA 5, 7, .inr (.inr (.inr (.inr (fun i => if i < 7 then some (q + 2 + i) else none)))))) := by rw [eg0, xm_out (by omega)]; exact x_up_eq
  have kr : ∀ k, k < 7 → g0 (q + 2 + k) = some (.inl (dA 1, 10, .inr (.inl (fun _ => 0)))) := fun k hk => by rw [eg0, xm_in (by omega) (by omega)]
  refine x_putF G kX1 inX1 0 (by decide) (by decide +kernel) rfl (hin rfl) rfl dX1_init_13 hb rfl rfl (Nat.le_of_ble_eq_true rfl) ?_
  obtain ⟨g1, eg1⟩ : ∃ g : xH, g = x_up g0 q (.inr (1, List.set [.null, .null, .null, .int 0, .int 0, .int 0, .int 0, .int 0, .int 0] 0 (.ref (q + 1)))) := ⟨_, rfl⟩
  refine x_as rfl rfl eg1.symm ?_
  replace hb : g1 q = some (.inr (1, [.ref (q + 1), .null, .null, .int 0, .int 0, .int 0, .int 0, .int 0, .int 0])) := by rw [eg1]; exact x_up_eq
  replace ky : g1 (q + 1) = some (.inl (dA 5, 7, .inr (.inr (.inr (.inr (fun i => if i < 7 then some (q + 2 + i) else none)))))) := by rw [eg1, x_up_ne (by omega)]; exact ky
  replace kr : ∀ k, k < 7 → g1 (q + 2 + k) = some (.inl (dA 1, 10, .inr (.inl (fun _ => 0)))) := fun k hk => by rw [eg1, x_up_ne (by omega)]; exact kr k hk
  replace F := xF_up (a := q) (e := .inr (1, List.set [.null, .null, .null, .int 0, .int 0, .int 0, .int 0, .int 0, .int 0] 0 (.ref (q + 1)))) F (by omega) (by omega)
  rw [← eg1] at F
  refine x_aload_n G dX1_init_16 rfl ?_
  refine x_bipushV (v := nI 7) G dX1_init_17 (by decide) ?_
  refine x_newI (N := 7) (sz1 := q + 10) G rfl (by decide +kernel) dX1_init_19 (by decide) (by decide) (by decide) (by decide) (by decide) ?_
  obtain ⟨g2, eg2⟩ : ∃ g : xH, g = x_up g1 (q + 9) (.inl (dA 0, 7, .inl (fun _ => 0))) := ⟨_, rfl⟩
  refine x_as rfl rfl eg2.symm ?_
  replace hb : g2 q = some (.inr (1, [.ref (q + 1), .null, .null, .int 0, .int 0, .int 0, .int 0, .int 0, .int 0])) := by rw [eg2, x_up_ne (by omega)]; exact hb
  replace ky : g2 (q + 1) = some (.inl (dA 5, 7, .inr (.inr (.inr (.inr (fun i => if i < 7 then some (q + 2 + i) else none)))))) := by rw [eg2, x_up_ne (by omega)]; exact ky
  replace kr : ∀ k, k < 7 → g2 (q + 2 + k) = some (.inl (dA 1, 10, .inr (.inl (fun _ => 0)))) := fun k hk => by rw [eg2, x_up_ne (by omega)]; exact kr k hk
  replace F := xF_up (a := q + 9) (e := (.inl (dA 0, 7, .inl (fun _ => 0)))) F (by omega) (by omega)
  rw [← eg2] at F
  have ks : g2 (q + 9) = some (.inl (dA 0, 7, .inl (fun _ => 0))) := by rw [eg2]; exact x_up_eq
  refine x_putF G kX1 inX1 1 (by decide) (by decide +kernel) rfl (hin rfl) rfl dX1_init_21 hb rfl rfl (Nat.le_of_ble_eq_true rfl) ?_
  obtain ⟨g3, eg3⟩ : ∃ g : xH, g = x_up g2 q (.inr (1, List.set [.ref (q + 1), .null, .null, .int 0, .int 0, .int 0, .int 0, .int 0, .int 0] 1 (.ref (q + 9)))) := ⟨_, rfl⟩
  refine x_as rfl rfl eg3.symm ?_
  replace hb : g3 q = some (.inr (1, [.ref (q + 1), .ref (q + 9), .null, .int 0, .int 0, .int 0, .int 0, .int 0, .int 0])) := by rw [eg3]; exact x_up_eq
  replace ky : g3 (q + 1) = some (.inl (dA 5, 7, .inr (.inr (.inr (.inr (fun i => if i < 7 then some (q + 2 + i) else none)))))) := by rw [eg3, x_up_ne (by omega)]; exact ky
  replace kr : ∀ k, k < 7 → g3 (q + 2 + k) = some (.inl (dA 1, 10, .inr (.inl (fun _ => 0)))) := fun k hk => by rw [eg3, x_up_ne (by omega)]; exact kr k hk
  replace ks : g3 (q + 9) = some (.inl (dA 0, 7, .inl (fun _ => 0))) := by rw [eg3, x_up_ne (by omega)]; exact ks
  replace F := xF_up (a := q) (e := .inr (1, List.set [.ref (q + 1), .null, .null, .int 0, .int 0, .int 0, .int 0, .int 0, .int 0] 1 (.ref (q + 9)))) F (by omega) (by omega)
  rw [← eg3] at F
  refine x_aload_n G dX1_init_24 rfl ?_
  refine x_bipushV (v := nI 10) G dX1_init_25 (by decide) ?_
  refine x_newL (N := 10) (sz1 := q + 11) G rfl (by decide +kernel) dX1_init_27 (by decide) (by decide) (by decide) (by decide) (by decide) ?_
  obtain ⟨g4, eg4⟩ : ∃ g : xH, g = x_up g3 (q + 10) (.inl (dA 1, 10, .inr (.inl (fun _ => 0)))) := ⟨_, rfl⟩
  refine x_as rfl rfl eg4.symm ?_
  replace hb : g4 q = some (.inr (1, [.ref (q + 1), .ref (q + 9), .null, .int 0, .int 0, .int 0, .int 0, .int 0, .int 0])) := by rw [eg4, x_up_ne (by omega)]; exact hb
  replace ky : g4 (q + 1) = some (.inl (dA 5, 7, .inr (.inr (.inr (.inr (fun i => if i < 7 then some (q + 2 + i) else none)))))) := by rw [eg4, x_up_ne (by omega)]; exact ky
  replace kr : ∀ k, k < 7 → g4 (q + 2 + k) = some (.inl (dA 1, 10, .inr (.inl (fun _ => 0)))) := fun k hk => by rw [eg4, x_up_ne (by omega)]; exact kr k hk
  replace ks : g4 (q + 9) = some (.inl (dA 0, 7, .inl (fun _ => 0))) := by rw [eg4, x_up_ne (by omega)]; exact ks
  replace F := xF_up (a := q + 10) (e := (.inl (dA 1, 10, .inr (.inl (fun _ => 0))))) F (by omega) (by omega)
  rw [← eg4] at F
  have kf : g4 (q + 10) = some (.inl (dA 1, 10, .inr (.inl (fun _ => 0)))) := by rw [eg4]; exact x_up_eq
  refine x_putF G kX1 inX1 2 (by decide) (by decide +kernel) rfl (hin rfl) rfl dX1_init_29 hb rfl rfl (Nat.le_of_ble_eq_true rfl) ?_
  obtain ⟨g5, eg5⟩ : ∃ g : xH, g = x_up g4 q (.inr (1, List.set [.ref (q + 1), .ref (q + 9), .null, .int 0, .int 0, .int 0, .int 0, .int 0, .int 0] 2 (.ref (q + 10)))) := ⟨_, rfl⟩
  refine x_as rfl rfl eg5.symm ?_
  replace hb : g5 q = some (.inr (1, [.ref (q + 1), .ref (q + 9), .ref (q + 10), .int 0, .int 0, .int 0, .int 0, .int 0, .int 0])) := by rw [eg5]; exact x_up_eq
  replace ky : g5 (q + 1) = some (.inl (dA 5, 7, .inr (.inr (.inr (.inr (fun i => if i < 7 then some (q + 2 + i) else none)))))) := by rw [eg5, x_up_ne (by omega)]; exact ky
  replace kr : ∀ k, k < 7 → g5 (q + 2 + k) = some (.inl (dA 1, 10, .inr (.inl (fun _ => 0)))) := fun k hk => by rw [eg5, x_up_ne (by omega)]; exact kr k hk
  replace ks : g5 (q + 9) = some (.inl (dA 0, 7, .inl (fun _ => 0))) := by rw [eg5, x_up_ne (by omega)]; exact ks
  replace kf : g5 (q + 10) = some (.inl (dA 1, 10, .inr (.inl (fun _ => 0)))) := by rw [eg5, x_up_ne (by omega)]; exact kf
  replace F := xF_up (a := q) (e := .inr (1, List.set [.ref (q + 1), .ref (q + 9), .null, .int 0, .int 0, .int 0, .int 0, .int 0, .int 0] 2 (.ref (q + 10)))) F (by omega) (by omega)
  rw [← eg5] at F
  refine x_aload_n G dX1_init_32 rfl ?_
  refine x_iconstV (v := (-1)) G dX1_init_33 (by decide) ?_
  refine x_put G kX1 inX1 8 (by decide) (by decide +kernel) rfl dX1_init_34 hb rfl rfl (Nat.le_of_ble_eq_true rfl) ?_
  obtain ⟨g6, eg6⟩ : ∃ g : xH, g = x_up g5 q (.inr (1, List.set [.ref (q + 1), .ref (q + 9), .ref (q + 10), .int 0, .int 0, .int 0, .int 0, .int 0, .int 0] 8 (.int (-1)))) := ⟨_, rfl⟩
  refine x_as rfl rfl eg6.symm ?_
  replace hb : g6 q = some (.inr (1, [.ref (q + 1), .ref (q + 9), .ref (q + 10), .int 0, .int 0, .int 0, .int 0, .int 0, .int (-1)])) := by rw [eg6]; exact x_up_eq
  replace ky : g6 (q + 1) = some (.inl (dA 5, 7, .inr (.inr (.inr (.inr (fun i => if i < 7 then some (q + 2 + i) else none)))))) := by rw [eg6, x_up_ne (by omega)]; exact ky
  replace kr : ∀ k, k < 7 → g6 (q + 2 + k) = some (.inl (dA 1, 10, .inr (.inl (fun _ => 0)))) := fun k hk => by rw [eg6, x_up_ne (by omega)]; exact kr k hk
  replace ks : g6 (q + 9) = some (.inl (dA 0, 7, .inl (fun _ => 0))) := by rw [eg6, x_up_ne (by omega)]; exact ks
  replace kf : g6 (q + 10) = some (.inl (dA 1, 10, .inr (.inl (fun _ => 0)))) := by rw [eg6, x_up_ne (by omega)]; exact kf
  replace F := xF_up (a := q) (e := .inr (1, List.set [.ref (q + 1), .ref (q + 9), .ref (q + 10), .int 0, .int 0, .int 0, .int 0, .int 0, .int 0] 8 (.int (-1)))) F (by omega) (by omega)
  rw [← eg6] at F
  exact x_vret G dX1_init_37 (hpost _ ⟨hb, ky, kr, ks, kf⟩ F)
theorem inX2_init_2 : ∀ w ∈ wsX20, w ∈ wsX2_init := by decide +kernel
theorem sl_born {dA : Nat → ClassId} {h : xH} {w : Nat} (h1 : h w = some (.inr (2, [.ref (w + 1), .ref (w + 8), .ref (w + 13), .ref (w + 14), .ref (w + 15), .long 0, .int 0]))) (h2 : h (w + 1) = some (.inl (dA 5, 6, .inr (.inr (.inr (.inr (fun i => if i < 6 then some (w + 2 + i) else none))))))) (h3 : ∀ k, k < 6 → h (w + 2 + k) = some (.inl (dA 1, 6, .inr (.inl (fun _ => 0))))) (h4 : h (w + 8) = some (.inl (dA 5, 4, .inr (.inr (.inr (.inr (fun i => if i < 4 then some (w + 9 + i) else none))))))) (h5 : ∀ k, k < 4 → h (w + 9 + k) = some (.inl (dA 1, 6, .inr (.inl (fun _ => 0))))) (h6 : h (w + 13) = some (.inl (dA 1, 6, .inr (.inl (fun _ => 0))))) (h7 : h (w + 14) = some (.inl (dA 1, 4, .inr (.inl (fun _ => 0))))) (h8 : h (w + 15) = some (.inl (dA 1, 6, .inr (.inl (fun _ => 0))))) : SlT dA h w ((fun _ _ => 0), (fun _ _ => 0), (fun _ => 0), (fun _ => 0), 0, 0) := by
  refine ⟨fun i => if i < 6 then w + 2 + i else w + 15, h1, ?_, fun i hi => ?_, fun i hi => ?_, fun i j hi hj e => ?_, h4, h5, h6, h7⟩
  · rw [h2]
    congr 8
    funext i
    dsimp only
    by_cases z : i < 6
    · rw [if_pos z, if_pos z, if_pos z]
    · rw [if_neg z, if_neg z]
  · dsimp only
    by_cases z : i < 6
    · rw [if_pos z]
      exact h3 i z
    · rw [if_neg z]
      exact h8
  · dsimp only
    by_cases z : i < 6
    · rw [if_pos z]
      omega
    · rw [if_neg z]
      omega
  · dsimp only at e
    by_cases z : i < 6
    · rw [if_pos z] at e
      by_cases y : j < 6
      · rw [if_pos y] at e
        omega
      · rw [if_neg y] at e
        omega
    · rw [if_neg z] at e
      by_cases y : j < 6
      · rw [if_pos y] at e
        omega
      · omega
set_option maxRecDepth 100000 in
set_option maxHeartbeats 4000000 in
/-- the constructor of a Solutions -/
theorem c_X2_init (l : Launch) (D : va_G) {dA : Nat → ClassId} {w : Nat} {h : xH} {Post : Option Value → xH → Nat → Prop} (hb : h w = some (.inr (2, [.null, .null, .null, .null, .null, .long 0, .int 0]))) (hpost : ∀ h1 : xH, SlT dA h1 w (sc ((fun _ _ => 0), (fun _ _ => 0), (fun _ => 0), (fun _ => 0), 0, 0)) → xF w (w + 16) h h1 → Post none h1 (w + 16)) : xMet l yX2_init wsX2_init 2 64 15 86 D dA [.ref w] h (w + 1) Post := by
  refine x_open (cc := cX2_init) (maxL := 1) (ret := none) (by decide) rfl (Nat.le_of_ble_eq_true rfl) ?_
  intro p e s m args below meth c G hin
  have inX2 : ∀ w ∈ wsX20, w ∈ wsX2_init := inX2_init_2
  have F := xF_rf (lo := w) (hi := w + 16) (h := h)
  have hts0 : Cond.code objectInit ⟨#[0xb1]⟩ 1 none ∈ wsX2_init := List.mem_cons_of_mem _ (List.mem_append_left _ (List.mem_of_getElem? (i := 2) rfl))
  refine x_aload_n G dX2_init_0 rfl ?_
  refine x_objI G (by decide +kernel) (by decide +kernel) hts0 dX2_init_1 (by decide) (by decide) ?_
  refine x_aload_n G dX2_init_4 rfl ?_
  refine x_bipushV (v := nI 6) G dX2_init_5 (by decide) ?_
  refine x_bipushV (v := nI 6) G dX2_init_7 (by decide) ?_
  refine x_mnaL (N := 6) (K := 6) (sz1 := w + 8) G rfl (by decide +kernel) (by decide +kernel) dX2_init_9 (by decide) (by decide) (by decide) (by decide) (by decide) (by decide) (by decide) (by decide) (by decide) (fun c => mz_L c 6) ?_
  obtain ⟨g0, eg0⟩ : ∃ g : xH, g = x_many (x_up h (w + 1) (.inl (dA 5, 6, .inr (.inr (.inr (.inr (fun i9 => if i9 < 6 then some (w + 1 + 1 + i9) else none))))))) (w + 1 + 1) 6 (.inl (dA 1, 6, .inr (.inl (fun _ => 0)))) := ⟨_, rfl⟩
  refine x_as rfl rfl eg0.symm ?_
  replace hb : g0 w = some (.inr (2, [.null, .null, .null, .null, .null, .long 0, .int 0])) := by rw [eg0, xm_out (by omega), x_up_ne (by omega)]; exact hb
  replace F := xF_many (a := w + 1 + 1) (N := 6) (e := (.inl (dA 1, 6, .inr (.inl (fun _ => 0))))) (xF_up (a := w + 1) (e := (.inl (dA 5, 6, .inr (.inr (.inr (.inr (fun i9 => if i9 < 6 then some (w + 1 + 1 + i9) else none))))))) F (by omega) (by omega)) (by omega) (by omega)
  rw [← eg0] at F
  have ky : g0 (w + 1) = some (.inl (dA 5, 6, .inr (.inr (.inr (.inr (fun i => if i < 6 then some (w + 2 + i) else none)))))) := by rw [eg0, xm_out (by omega)]; exact x_up_eq
  have kr : ∀ k, k < 6 → g0 (w + 2 + k) = some (.inl (dA 1, 6, .inr (.inl (fun _ => 0)))) := fun k hk => by rw [eg0, xm_in (by omega) (by omega)]
  refine x_putF G kX2 inX2 0 (by decide) (by decide +kernel) rfl (hin rfl) rfl dX2_init_13 hb rfl rfl (Nat.le_of_ble_eq_true rfl) ?_
  obtain ⟨g1, eg1⟩ : ∃ g : xH, g = x_up g0 w (.inr (2, List.set [.null, .null, .null, .null, .null, .long 0, .int 0] 0 (.ref (w + 1)))) := ⟨_, rfl⟩
  refine x_as rfl rfl eg1.symm ?_
  replace hb : g1 w = some (.inr (2, [.ref (w + 1), .null, .null, .null, .null, .long 0, .int 0])) := by rw [eg1]; exact x_up_eq
  replace ky : g1 (w + 1) = some (.inl (dA 5, 6, .inr (.inr (.inr (.inr (fun i => if i < 6 then some (w + 2 + i) else none)))))) := by rw [eg1, x_up_ne (by omega)]; exact ky
  replace kr : ∀ k, k < 6 → g1 (w + 2 + k) = some (.inl (dA 1, 6, .inr (.inl (fun _ => 0)))) := fun k hk => by rw [eg1, x_up_ne (by omega)]; exact kr k hk
  replace F := xF_up (a := w) (e := .inr (2, List.set [.null, .null, .null, .null, .null, .long 0, .int 0] 0 (.ref (w + 1)))) F (by omega) (by omega)
  rw [← eg1] at F
  refine x_aload_n G dX2_init_16 rfl ?_
  refine x_iconstV (v := nI 4) G dX2_init_17 (by decide) ?_
  refine x_bipushV (v := nI 6) G dX2_init_18 (by decide) ?_
  refine x_mnaL (N := 4) (K := 6) (sz1 := w + 13) G rfl (by decide +kernel) (by decide +kernel) dX2_init_20 (by decide) (by decide) (by decide) (by decide) (by decide) (by decide) (by decide) (by decide) (by decide) (fun c => mz_L c 6) ?_
  obtain ⟨g2, eg2⟩ : ∃ g : xH, g = x_many (x_up g1 (w + 8) (.inl (dA 5, 4, .inr (.inr (.inr (.inr (fun i9 => if i9 < 4 then some (w + 8 + 1 + i9) else none))))))) (w + 8 + 1) 4 (.inl (dA 1, 6, .inr (.inl (fun _ => 0)))) := ⟨_, rfl⟩
  refine x_as rfl rfl eg2.symm ?_
  replace hb : g2 w = some (.inr (2, [.ref (w + 1), .null, .null, .null, .null, .long 0, .int 0])) := by rw [eg2, xm_out (by omega), x_up_ne (by omega)]; exact hb
  replace ky : g2 (w + 1) = some (.inl (dA 5, 6, .inr (.inr (.inr (.inr (fun i => if i < 6 then some (w + 2 + i) else none)))))) := by rw [eg2, xm_out (by omega), x_up_ne (by omega)]; exact ky
  replace kr : ∀ k, k < 6 → g2 (w + 2 + k) = some (.inl (dA 1, 6, .inr (.inl (fun _ => 0)))) := fun k hk => by rw [eg2, xm_out (by omega), x_up_ne (by omega)]; exact kr k hk
  replace F := xF_many (a := w + 8 + 1) (N := 4) (e := (.inl (dA 1, 6, .inr (.inl (fun _ => 0))))) (xF_up (a := w + 8) (e := (.inl (dA 5, 4, .inr (.inr (.inr (.inr (fun i9 => if i9 < 4 then some (w + 8 + 1 + i9) else none))))))) F (by omega) (by omega)) (by omega) (by omega)
  rw [← eg2] at F
  have kl : g2 (w + 8) = some (.inl (dA 5, 4, .inr (.inr (.inr (.inr (fun i => if i < 4 then some (w + 9 + i) else none)))))) := by rw [eg2, xm_out (by omega)]; exact x_up_eq
  have kw : ∀ k, k < 4 → g2 (w + 9 + k) = some (.inl (dA 1, 6, .inr (.inl (fun _ => 0)))) := fun k hk => by rw [eg2, xm_in (by omega) (by omega)]
  refine x_putF G kX2 inX2 1 (by decide) (by decide +kernel) rfl (hin rfl) rfl dX2_init_24 hb rfl rfl (Nat.le_of_ble_eq_true rfl) ?_
  obtain ⟨g3, eg3⟩ : ∃ g : xH, g = x_up g2 w (.inr (2, List.set [.ref (w + 1), .null, .null, .null, .null, .long 0, .int 0] 1 (.ref (w + 8)))) := ⟨_, rfl⟩
  refine x_as rfl rfl eg3.symm ?_
  replace hb : g3 w = some (.inr (2, [.ref (w + 1), .ref (w + 8), .null, .null, .null, .long 0, .int 0])) := by rw [eg3]; exact x_up_eq
  replace ky : g3 (w + 1) = some (.inl (dA 5, 6, .inr (.inr (.inr (.inr (fun i => if i < 6 then some (w + 2 + i) else none)))))) := by rw [eg3, x_up_ne (by omega)]; exact ky
  replace kr : ∀ k, k < 6 → g3 (w + 2 + k) = some (.inl (dA 1, 6, .inr (.inl (fun _ => 0)))) := fun k hk => by rw [eg3, x_up_ne (by omega)]; exact kr k hk
  replace kl : g3 (w + 8) = some (.inl (dA 5, 4, .inr (.inr (.inr (.inr (fun i => if i < 4 then some (w + 9 + i) else none)))))) := by rw [eg3, x_up_ne (by omega)]; exact kl
  replace kw : ∀ k, k < 4 → g3 (w + 9 + k) = some (.inl (dA 1, 6, .inr (.inl (fun _ => 0)))) := fun k hk => by rw [eg3, x_up_ne (by omega)]; exact kw k hk
  replace F := xF_up (a := w) (e := .inr (2, List.set [.ref (w + 1), .null, .null, .null, .null, .long 0, .int 0] 1 (.ref (w + 8)))) F (by omega) (by omega)
  rw [← eg3] at F
  refine x_aload_n G dX2_init_27 rfl ?_
  refine x_bipushV (v := nI 6) G dX2_init_28 (by decide) ?_
  refine x_newL (N := 6) (sz1 := w + 14) G rfl (by decide +kernel) dX2_init_30 (by decide) (by decide) (by decide) (by decide) (by decide) ?_
  obtain ⟨g4, eg4⟩ : ∃ g : xH, g = x_up g3 (w + 13) (.inl (dA 1, 6, .inr (.inl (fun _ => 0)))) := ⟨_, rfl⟩
  refine x_as rfl rfl eg4.symm ?_
  replace hb : g4 w = some (.inr (2, [.ref (w + 1), .ref (w + 8), .null, .null, .null, .long 0, .int 0])) := by rw [eg4, x_up_ne (by omega)]; exact hb
  replace ky : g4 (w + 1) = some (.inl (dA 5, 6, .inr (.inr (.inr (.inr (fun i => if i < 6 then some (w + 2 + i) else none)))))) := by rw [eg4, x_up_ne (by omega)]; exact ky
  replace kr : ∀ k, k < 6 → g4 (w + 2 + k) = some (.inl (dA 1, 6, .inr (.inl (fun _ => 0)))) := fun k hk => by rw [eg4, x_up_ne (by omega)]; exact kr k hk
  replace kl : g4 (w + 8) = some (.inl (dA 5, 4, .inr (.inr (.inr (.inr (fun i => if i < 4 then some (w + 9 + i) else none)))))) := by rw [eg4, x_up_ne (by omega)]; exact kl
  replace kw : ∀ k, k < 4 → g4 (w + 9 + k) = some (.inl (dA 1, 6, .inr (.inl (fun _ => 0)))) := fun k hk => by rw [eg4, x_up_ne (by omega)]; exact kw k hk
  replace F := xF_up (a := w + 13) (e := (.inl (dA 1, 6, .inr (.inl (fun _ => 0))))) F (by omega) (by omega)
  rw [← eg4] at F
  have kg : g4 (w + 13) = some (.inl (dA 1, 6, .inr (.inl (fun _ => 0)))) := by rw [eg4]; exact x_up_eq
  refine x_putF G kX2 inX2 2 (by decide) (by decide +kernel) rfl (hin rfl) rfl dX2_init_32 hb rfl rfl (Nat.le_of_ble_eq_true rfl) ?_
  obtain ⟨g5, eg5⟩ : ∃ g : xH, g = x_up g4 w (.inr (2, List.set [.ref (w + 1), .ref (w + 8), .null, .null, .null, .long 0, .int 0] 2 (.ref (w + 13)))) := ⟨_, rfl⟩
  refine x_as rfl rfl eg5.symm ?_
  replace hb : g5 w = some (.inr (2, [.ref (w + 1), .ref (w + 8), .ref (w + 13), .null, .null, .long 0, .int 0])) := by rw [eg5]; exact x_up_eq
  replace ky : g5 (w + 1) = some (.inl (dA 5, 6, .inr (.inr (.inr (.inr (fun i => if i < 6 then some (w + 2 + i) else none)))))) := by rw [eg5, x_up_ne (by omega)]; exact ky
  replace kr : ∀ k, k < 6 → g5 (w + 2 + k) = some (.inl (dA 1, 6, .inr (.inl (fun _ => 0)))) := fun k hk => by rw [eg5, x_up_ne (by omega)]; exact kr k hk
  replace kl : g5 (w + 8) = some (.inl (dA 5, 4, .inr (.inr (.inr (.inr (fun i => if i < 4 then some (w + 9 + i) else none)))))) := by rw [eg5, x_up_ne (by omega)]; exact kl
  replace kw : ∀ k, k < 4 → g5 (w + 9 + k) = some (.inl (dA 1, 6, .inr (.inl (fun _ => 0)))) := fun k hk => by rw [eg5, x_up_ne (by omega)]; exact kw k hk
  replace kg : g5 (w + 13) = some (.inl (dA 1, 6, .inr (.inl (fun _ => 0)))) := by rw [eg5, x_up_ne (by omega)]; exact kg
  replace F := xF_up (a := w) (e := .inr (2, List.set [.ref (w + 1), .ref (w + 8), .null, .null, .null, .long 0, .int 0] 2 (.ref (w + 13)))) F (by omega) (by omega)
  rw [← eg5] at F
  refine x_aload_n G dX2_init_35 rfl ?_
  refine x_iconstV (v := nI 4) G dX2_init_36 (by decide) ?_
  refine x_newL (N := 4) (sz1 := w + 15) G rfl (by decide +kernel) dX2_init_37 (by decide) (by decide) (by decide) (by decide) (by decide) ?_
  obtain ⟨g6, eg6⟩ : ∃ g : xH, g = x_up g5 (w + 14) (.inl (dA 1, 4, .inr (.inl (fun _ => 0)))) := ⟨_, rfl⟩
  refine x_as rfl rfl eg6.symm ?_
  replace hb : g6 w = some (.inr (2, [.ref (w + 1), .ref (w + 8), .ref (w + 13), .null, .null, .long 0, .int 0])) := by rw [eg6, x_up_ne (by omega)]; exact hb
  replace ky : g6 (w + 1) = some (.inl (dA 5, 6, .inr (.inr (.inr (.inr (fun i => if i < 6 then some (w + 2 + i) else none)))))) := by rw [eg6, x_up_ne (by omega)]; exact ky
  replace kr : ∀ k, k < 6 → g6 (w + 2 + k) = some (.inl (dA 1, 6, .inr (.inl (fun _ => 0)))) := fun k hk => by rw [eg6, x_up_ne (by omega)]; exact kr k hk
  replace kl : g6 (w + 8) = some (.inl (dA 5, 4, .inr (.inr (.inr (.inr (fun i => if i < 4 then some (w + 9 + i) else none)))))) := by rw [eg6, x_up_ne (by omega)]; exact kl
  replace kw : ∀ k, k < 4 → g6 (w + 9 + k) = some (.inl (dA 1, 6, .inr (.inl (fun _ => 0)))) := fun k hk => by rw [eg6, x_up_ne (by omega)]; exact kw k hk
  replace kg : g6 (w + 13) = some (.inl (dA 1, 6, .inr (.inl (fun _ => 0)))) := by rw [eg6, x_up_ne (by omega)]; exact kg
  replace F := xF_up (a := w + 14) (e := (.inl (dA 1, 4, .inr (.inl (fun _ => 0))))) F (by omega) (by omega)
  rw [← eg6] at F
  have kk : g6 (w + 14) = some (.inl (dA 1, 4, .inr (.inl (fun _ => 0)))) := by rw [eg6]; exact x_up_eq
  refine x_putF G kX2 inX2 3 (by decide) (by decide +kernel) rfl (hin rfl) rfl dX2_init_39 hb rfl rfl (Nat.le_of_ble_eq_true rfl) ?_
  obtain ⟨g7, eg7⟩ : ∃ g : xH, g = x_up g6 w (.inr (2, List.set [.ref (w + 1), .ref (w + 8), .ref (w + 13), .null, .null, .long 0, .int 0] 3 (.ref (w + 14)))) := ⟨_, rfl⟩
  refine x_as rfl rfl eg7.symm ?_
  replace hb : g7 w = some (.inr (2, [.ref (w + 1), .ref (w + 8), .ref (w + 13), .ref (w + 14), .null, .long 0, .int 0])) := by rw [eg7]; exact x_up_eq
  replace ky : g7 (w + 1) = some (.inl (dA 5, 6, .inr (.inr (.inr (.inr (fun i => if i < 6 then some (w + 2 + i) else none)))))) := by rw [eg7, x_up_ne (by omega)]; exact ky
  replace kr : ∀ k, k < 6 → g7 (w + 2 + k) = some (.inl (dA 1, 6, .inr (.inl (fun _ => 0)))) := fun k hk => by rw [eg7, x_up_ne (by omega)]; exact kr k hk
  replace kl : g7 (w + 8) = some (.inl (dA 5, 4, .inr (.inr (.inr (.inr (fun i => if i < 4 then some (w + 9 + i) else none)))))) := by rw [eg7, x_up_ne (by omega)]; exact kl
  replace kw : ∀ k, k < 4 → g7 (w + 9 + k) = some (.inl (dA 1, 6, .inr (.inl (fun _ => 0)))) := fun k hk => by rw [eg7, x_up_ne (by omega)]; exact kw k hk
  replace kg : g7 (w + 13) = some (.inl (dA 1, 6, .inr (.inl (fun _ => 0)))) := by rw [eg7, x_up_ne (by omega)]; exact kg
  replace kk : g7 (w + 14) = some (.inl (dA 1, 4, .inr (.inl (fun _ => 0)))) := by rw [eg7, x_up_ne (by omega)]; exact kk
  replace F := xF_up (a := w) (e := .inr (2, List.set [.ref (w + 1), .ref (w + 8), .ref (w + 13), .null, .null, .long 0, .int 0] 3 (.ref (w + 14)))) F (by omega) (by omega)
  rw [← eg7] at F
  refine x_aload_n G dX2_init_42 rfl ?_
  refine x_bipushV (v := nI 6) G dX2_init_43 (by decide) ?_
  refine x_newL (N := 6) (sz1 := w + 16) G rfl (by decide +kernel) dX2_init_45 (by decide) (by decide) (by decide) (by decide) (by decide) ?_
  obtain ⟨g8, eg8⟩ : ∃ g : xH, g = x_up g7 (w + 15) (.inl (dA 1, 6, .inr (.inl (fun _ => 0)))) := ⟨_, rfl⟩
  refine x_as rfl rfl eg8.symm ?_
  replace hb : g8 w = some (.inr (2, [.ref (w + 1), .ref (w + 8), .ref (w + 13), .ref (w + 14), .null, .long 0, .int 0])) := by rw [eg8, x_up_ne (by omega)]; exact hb
  replace ky : g8 (w + 1) = some (.inl (dA 5, 6, .inr (.inr (.inr (.inr (fun i => if i < 6 then some (w + 2 + i) else none)))))) := by rw [eg8, x_up_ne (by omega)]; exact ky
  replace kr : ∀ k, k < 6 → g8 (w + 2 + k) = some (.inl (dA 1, 6, .inr (.inl (fun _ => 0)))) := fun k hk => by rw [eg8, x_up_ne (by omega)]; exact kr k hk
  replace kl : g8 (w + 8) = some (.inl (dA 5, 4, .inr (.inr (.inr (.inr (fun i => if i < 4 then some (w + 9 + i) else none)))))) := by rw [eg8, x_up_ne (by omega)]; exact kl
  replace kw : ∀ k, k < 4 → g8 (w + 9 + k) = some (.inl (dA 1, 6, .inr (.inl (fun _ => 0)))) := fun k hk => by rw [eg8, x_up_ne (by omega)]; exact kw k hk
  replace kg : g8 (w + 13) = some (.inl (dA 1, 6, .inr (.inl (fun _ => 0)))) := by rw [eg8, x_up_ne (by omega)]; exact kg
  replace kk : g8 (w + 14) = some (.inl (dA 1, 4, .inr (.inl (fun _ => 0)))) := by rw [eg8, x_up_ne (by omega)]; exact kk
  replace F := xF_up (a := w + 15) (e := (.inl (dA 1, 6, .inr (.inl (fun _ => 0))))) F (by omega) (by omega)
  rw [← eg8] at F
  have ks : g8 (w + 15) = some (.inl (dA 1, 6, .inr (.inl (fun _ => 0)))) := by rw [eg8]; exact x_up_eq
  refine x_put G kX2 inX2 4 (by decide) (by decide +kernel) rfl dX2_init_47 hb rfl rfl (Nat.le_of_ble_eq_true rfl) ?_
  obtain ⟨g9, eg9⟩ : ∃ g : xH, g = x_up g8 w (.inr (2, List.set [.ref (w + 1), .ref (w + 8), .ref (w + 13), .ref (w + 14), .null, .long 0, .int 0] 4 (.ref (w + 15)))) := ⟨_, rfl⟩
  refine x_as rfl rfl eg9.symm ?_
  replace hb : g9 w = some (.inr (2, [.ref (w + 1), .ref (w + 8), .ref (w + 13), .ref (w + 14), .ref (w + 15), .long 0, .int 0])) := by rw [eg9]; exact x_up_eq
  replace ky : g9 (w + 1) = some (.inl (dA 5, 6, .inr (.inr (.inr (.inr (fun i => if i < 6 then some (w + 2 + i) else none)))))) := by rw [eg9, x_up_ne (by omega)]; exact ky
  replace kr : ∀ k, k < 6 → g9 (w + 2 + k) = some (.inl (dA 1, 6, .inr (.inl (fun _ => 0)))) := fun k hk => by rw [eg9, x_up_ne (by omega)]; exact kr k hk
  replace kl : g9 (w + 8) = some (.inl (dA 5, 4, .inr (.inr (.inr (.inr (fun i => if i < 4 then some (w + 9 + i) else none)))))) := by rw [eg9, x_up_ne (by omega)]; exact kl
  replace kw : ∀ k, k < 4 → g9 (w + 9 + k) = some (.inl (dA 1, 6, .inr (.inl (fun _ => 0)))) := fun k hk => by rw [eg9, x_up_ne (by omega)]; exact kw k hk
  replace kg : g9 (w + 13) = some (.inl (dA 1, 6, .inr (.inl (fun _ => 0)))) := by rw [eg9, x_up_ne (by omega)]; exact kg
  replace kk : g9 (w + 14) = some (.inl (dA 1, 4, .inr (.inl (fun _ => 0)))) := by rw [eg9, x_up_ne (by omega)]; exact kk
  replace ks : g9 (w + 15) = some (.inl (dA 1, 6, .inr (.inl (fun _ => 0)))) := by rw [eg9, x_up_ne (by omega)]; exact ks
  replace F := xF_up (a := w) (e := .inr (2, List.set [.ref (w + 1), .ref (w + 8), .ref (w + 13), .ref (w + 14), .null, .long 0, .int 0] 4 (.ref (w + 15)))) F (by omega) (by omega)
  rw [← eg9] at F
  have S : SlT dA g9 w (((fun _ _ => 0), (fun _ _ => 0), (fun _ => 0), (fun _ => 0), 0, 0) : slT) := sl_born hb ky kr kl kw kg kk ks
  refine x_aload_n G dX2_init_50 rfl ?_
  refine x_callV (n := 0) (rest := []) (As := []) G (ci := 2) (c_u_clear (Post := fun r7 h7 sz7 => r7 = none ∧ SlT dA h7 w (sc ((fun _ _ => 0), (fun _ _ => 0), (fun _ => 0), (fun _ => 0), 0, 0)) ∧ xF w (w + 16) _ h7 ∧ w + 16 = sz7) l D S (fun h7 q1 q2 => ⟨rfl, q1, q2, rfl⟩)) gX2_init_X2_clear rfl ⟨rfl, by decide +kernel, by decide +kernel, by decide +kernel⟩ ⟨by decide, by decide⟩ rfl rfl hb dX2_init_51 rfl rfl (Nat.le_of_ble_eq_true rfl) ⟨by decide, by decide⟩ ?_
  rintro _ h2 _ ⟨rfl, S2, F2, rfl⟩
  try dsimp only [Option.toList, List.cons_append, List.nil_append]
  exact x_vret G dX2_init_54 (hpost _ S2 (xF_tr F F2))
