/-! ## The constructor of the class -/
/-- the word by which the class makes its Reader -/
def xW1 : Cond := .methodLinkNest RX4 19 yX1_init "UnitVectors"
def xMet2 (l : Launch) (y : MethodName) (ws : List Cond) (fr lo mc ms : Nat) (D : va_G) (dA : Nat → ClassId) (w : Cond) (As : List Value) (h : xH) (sz : Nat) (Post : Option Value → xH → Nat → Prop) : Prop := Met l y ws { frames := fr, cells := mc, slots := ms, locals := lo } (va_Pc As (fun U => xPre D dA (fun _ => True) h sz U ∧ va_Nw w U)) (xQ D dA h sz Post) mc ms (xA h sz)
theorem x_open2 {l : Launch} {y : MethodName} {ws ws' : List Cond} {fr lo mc ms : Nat} {D : va_G} {dA : Nat → ClassId} {w : Cond} {As : List Value} {h : xH} {sz : Nat} {Post : Option Value → xH → Nat → Prop} {cc : ByteArray} {maxL : Nat} {ret : Option FieldType} (hy : plainName y.cls = true) (hw : ws = Cond.code y cc maxL ret :: ws') (hn : (lg_sl As).length ≤ maxL)
    (body : ∀ (p : Program) (e : Env) (s : State) (m : MethodId) (args : Array Value) (below : List Frame) (meth : Method) (c : Code), xG p s m args meth c cc maxL ws y.cls ret D dA sz → (y.name = "<init>" → meth.name = "<init>") → va_Nw w s → xV p l e (headSpec ws { frames := fr, cells := mc, slots := ms, locals := lo }).room s m args below meth c D dA maxL h sz mc ms Post 0 0 0 (lv_args 0 As) [] h sz) : xMet2 l y ws fr lo mc ms D dA w As h sz Post := by
  refine Met.ofW (cc := cc) (maxL := maxL) (ret := ret) hy hw ?_
  intro p e s m args below meth c s₁ B hml hv
  obtain ⟨rfl, ⟨hsz, hR, hK, hN⟩, hN2⟩ := hv
  have hown : s.vm.findClass y.cls = some m.cls := findClass_of_methodNamed B.named
  have hl := lv_entry As (n := maxL) hn
  rw [lg_entry_eq]
  exact body p e s m _ below meth c ⟨B.exec, B.bytes, hml, hown, atoms_spec (ws := ws) B.pre, hK, B.notSynchronized, hsz, hN, B.returns⟩ (fun hi => (name_of_methodNamed B.named B.method).1.trans hi) hN2 s.heap [] _ (xR_weak hR fun a k => Or.inl k) hsz va_S.rf hl
theorem inX4_init_4 : ∀ w ∈ wsX40, w ∈ wsX4_init := by decide +kernel
theorem inX4_init_1 : ∀ w ∈ wsX10, w ∈ wsX4_init := by decide +kernel
theorem inX4_init_3 : ∀ w ∈ wsX30, w ∈ wsX4_init := by decide +kernel
theorem inX4_init_0 : ∀ w ∈ wsX00, w ∈ wsX4_init := by decide +kernel
theorem inX4_init_2 : ∀ w ∈ wsX20, w ∈ wsX4_init := by decide +kernel
set_option maxRecDepth 100000 in
set_option maxHeartbeats 4000000 in
/-- the constructor of the class -/
theorem c_X4_init (l : Launch) (D : va_G) {dA : Nat → ClassId} {b : Nat} {h : xH} {Post : Option Value → xH → Nat → Prop} (hb : h b = some (.inr (4, [.null, .int 0, .int 0, .null, .null, .null, .null, .null, .null, .null]))) (hpost : ∀ h1 : xH, Uv dA h1 b (fun _ => 0) 0 (-1) ((fun _ _ => 0), (fun _ => 0), (fun _ => 0), 0, 0, 0, 0, 0) (-1) (fun _ => 0) sT_0 (fun _ => sT_0) (fun _ => sT_0) 0 0 (sc ((fun _ _ => 0), (fun _ _ => 0), (fun _ => 0), (fun _ => 0), 0, 0)) (sc ((fun _ _ => 0), (fun _ _ => 0), (fun _ => 0), (fun _ => 0), 0, 0)) → xF b (b + 279) h h1 → Post none h1 (b + 279)) : xMet2 l yX4_init wsX4_init 3 86 278 2224 D dA xW1 [.ref b] h (b + 1) Post := by
  refine x_open2 (cc := cX4_init) (maxL := 2) (ret := none) (by decide) rfl (Nat.le_of_ble_eq_true rfl) ?_
  intro p e s m args below meth c G hin hN2
  have inX4 : ∀ w ∈ wsX40, w ∈ wsX4_init := inX4_init_4
  have inX1 : ∀ w ∈ wsX10, w ∈ wsX4_init := inX4_init_1
  have inX3 : ∀ w ∈ wsX30, w ∈ wsX4_init := inX4_init_3
  have inX0 : ∀ w ∈ wsX00, w ∈ wsX4_init := inX4_init_0
  have inX2 : ∀ w ∈ wsX20, w ∈ wsX4_init := inX4_init_2
  have F := xF_rf (lo := b) (hi := b + 279) (h := h)
  have hts0 : Cond.code objectInit ⟨#[0xb1]⟩ 1 none ∈ wsX4_init := (ggX4_init_X3_init _ (List.mem_cons_of_mem _ (List.mem_append_left _ (List.mem_of_getElem? (i := 2) rfl)))).1
  refine x_aload_n G dX4_init_0 rfl ?_
  refine x_objI G (by decide +kernel) (by decide +kernel) hts0 dX4_init_1 (by decide) (by decide) ?_
  refine x_aload_n G dX4_init_4 rfl ?_
  refine x_bipushV (v := nI 60) G dX4_init_5 (by decide) ?_
  refine x_newI (N := 60) (sz1 := b + 2) G rfl (by decide +kernel) dX4_init_7 (by decide) (by decide) (by decide) (by decide) (by decide) ?_
  obtain ⟨g0, eg0⟩ : ∃ g : xH, g = x_up h (b + 1) (.inl (dA 0, 60, .inl (fun _ => 0))) := ⟨_, rfl⟩
  refine x_as rfl rfl eg0.symm ?_
  have Fg0 : xF (b + 1) (b + 2) h g0 := by rw [eg0]; exact xF_up xF_rf (by omega) (by omega)
  replace hb := (Fg0 b (by omega)).trans hb
  replace F := xF_tr F (xF_wd Fg0 (by omega) (by omega))
  have kt : g0 (b + 1) = some (.inl (dA 0, 60, .inl (fun _ => 0))) := by rw [eg0]; exact x_up_eq
  refine x_putF G kX4 inX4 0 (by decide) (by decide +kernel) rfl (hin rfl) rfl dX4_init_9 hb rfl rfl (Nat.le_of_ble_eq_true rfl) ?_
  obtain ⟨g1, eg1⟩ : ∃ g : xH, g = x_up g0 b (.inr (4, List.set [.null, .int 0, .int 0, .null, .null, .null, .null, .null, .null, .null] 0 (.ref (b + 1)))) := ⟨_, rfl⟩
  refine x_as rfl rfl eg1.symm ?_
  have Fg1 : xF (b) (b + 1) g0 g1 := by rw [eg1]; exact xF_up xF_rf (by omega) (by omega)
  replace hb : g1 b = some (.inr (4, [.ref (b + 1), .int 0, .int 0, .null, .null, .null, .null, .null, .null, .null])) := by rw [eg1]; exact x_up_eq
  replace kt := (Fg1 (b + 1) (by omega)).trans kt
  replace F := xF_tr F (xF_wd Fg1 (by omega) (by omega))
  refine x_aload_n G dX4_init_12 rfl ?_
  refine x_iconstV (v := (-1)) G dX4_init_13 (by decide) ?_
  refine x_put G kX4 inX4 2 (by decide) (by decide +kernel) rfl dX4_init_14 hb rfl rfl (Nat.le_of_ble_eq_true rfl) ?_
  obtain ⟨g2, eg2⟩ : ∃ g : xH, g = x_up g1 b (.inr (4, List.set [.ref (b + 1), .int 0, .int 0, .null, .null, .null, .null, .null, .null, .null] 2 (.int (-1)))) := ⟨_, rfl⟩
  refine x_as rfl rfl eg2.symm ?_
  have Fg2 : xF (b) (b + 1) g1 g2 := by rw [eg2]; exact xF_up xF_rf (by omega) (by omega)
  replace hb : g2 b = some (.inr (4, [.ref (b + 1), .int 0, .int (-1), .null, .null, .null, .null, .null, .null, .null])) := by rw [eg2]; exact x_up_eq
  replace kt := (Fg2 (b + 1) (by omega)).trans kt
  replace F := xF_tr F (xF_wd Fg2 (by omega) (by omega))
  refine x_aload_n G dX4_init_17 rfl ?_
  refine x_newO (fs := [.null, .null, .null, .int 0, .int 0, .int 0, .int 0, .int 0, .int 0]) (sz1 := b + 3) G kX1 inX1 rfl (by decide +kernel) (by decide +kernel) (by decide +kernel) dX4_init_18 df_1 (by decide) (by decide) ?_
  obtain ⟨g3, eg3⟩ : ∃ g : xH, g = x_up g2 (b + 2) (.inr (1, [.null, .null, .null, .int 0, .int 0, .int 0, .int 0, .int 0, .int 0])) := ⟨_, rfl⟩
  refine x_as rfl rfl eg3.symm ?_
  have Fg3 : xF (b + 2) (b + 3) g2 g3 := by rw [eg3]; exact xF_up xF_rf (by omega) (by omega)
  replace hb := (Fg3 b (by omega)).trans hb
  replace kt := (Fg3 (b + 1) (by omega)).trans kt
  replace F := xF_tr F (xF_wd Fg3 (by omega) (by omega))
  have kn : g3 (b + 2) = some (.inr (1, [.null, .null, .null, .int 0, .int 0, .int 0, .int 0, .int 0, .int 0])) := by rw [eg3]; exact x_up_eq
  refine x_dup G dX4_init_21 rfl ?_
  refine x_callIN (host := "UnitVectors") (n := 0) (rest := [.ref (b + 2), .ref b]) (As := []) G (c_X1_init (Post := fun r7 h7 sz7 => r7 = none ∧ RdT dA h7 (b + 2) ((fun _ _ => 0), (fun _ => 0), (fun _ => 0), 0, 0, 0, 0, 0) (-1) ∧ xF (b + 2) (b + 2 + 11) g3 h7 ∧ b + 2 + 11 = sz7) l D kn (fun h7 q1 q2 => ⟨rfl, q1, q2, rfl⟩)) gX4_init_X1_init_n19 rfl (by decide +kernel) hN2 (by decide +kernel) rfl ⟨by decide +kernel, by decide +kernel, by decide +kernel⟩ ⟨by decide, by decide⟩ dX4_init_22 rfl rfl (Nat.le_of_ble_eq_true rfl) ⟨by decide, by decide⟩ ?_
  rintro _ n4 _ ⟨rfl, ZR, Fn4, rfl⟩
  try dsimp only [Option.toList, List.cons_append, List.nil_append]
  replace hb := (Fn4 b (by omega)).trans hb
  replace kt := (Fn4 (b + 1) (by omega)).trans kt
  replace F := xF_tr F (xF_wd Fn4 (by omega) (by omega))
  refine x_putF G kX4 inX4 3 (by decide) (by decide +kernel) rfl (hin rfl) rfl dX4_init_25 hb rfl rfl (Nat.le_of_ble_eq_true rfl) ?_
  obtain ⟨g5, eg5⟩ : ∃ g : xH, g = x_up n4 b (.inr (4, List.set [.ref (b + 1), .int 0, .int (-1), .null, .null, .null, .null, .null, .null, .null] 3 (.ref (b + 2)))) := ⟨_, rfl⟩
  refine x_as rfl rfl eg5.symm ?_
  have Fg5 : xF (b) (b + 1) n4 g5 := by rw [eg5]; exact xF_up xF_rf (by omega) (by omega)
  replace hb : g5 b = some (.inr (4, [.ref (b + 1), .int 0, .int (-1), .ref (b + 2), .null, .null, .null, .null, .null, .null])) := by rw [eg5]; exact x_up_eq
  replace kt := (Fg5 (b + 1) (by omega)).trans kt
  replace ZR := rdt_fo ZR Fg5 (by omega)
  replace F := xF_tr F (xF_wd Fg5 (by omega) (by omega))
  refine x_aload_n G dX4_init_28 rfl ?_
  refine x_bipushV (v := nI 10) G dX4_init_29 (by decide) ?_
  refine x_newI (N := 10) (sz1 := b + 14) G rfl (by decide +kernel) dX4_init_31 (by decide) (by decide) (by decide) (by decide) (by decide) ?_
  obtain ⟨g6, eg6⟩ : ∃ g : xH, g = x_up g5 (b + 13) (.inl (dA 0, 10, .inl (fun _ => 0))) := ⟨_, rfl⟩
  refine x_as rfl rfl eg6.symm ?_
  have Fg6 : xF (b + 13) (b + 14) g5 g6 := by rw [eg6]; exact xF_up xF_rf (by omega) (by omega)
  replace hb := (Fg6 b (by omega)).trans hb
  replace kt := (Fg6 (b + 1) (by omega)).trans kt
  replace ZR := rdt_fo ZR Fg6 (by omega)
  replace F := xF_tr F (xF_wd Fg6 (by omega) (by omega))
  have kd : g6 (b + 13) = some (.inl (dA 0, 10, .inl (fun _ => 0))) := by rw [eg6]; exact x_up_eq
  refine x_putF G kX4 inX4 4 (by decide) (by decide +kernel) rfl (hin rfl) rfl dX4_init_33 hb rfl rfl (Nat.le_of_ble_eq_true rfl) ?_
  obtain ⟨g7, eg7⟩ : ∃ g : xH, g = x_up g6 b (.inr (4, List.set [.ref (b + 1), .int 0, .int (-1), .ref (b + 2), .null, .null, .null, .null, .null, .null] 4 (.ref (b + 13)))) := ⟨_, rfl⟩
  refine x_as rfl rfl eg7.symm ?_
  have Fg7 : xF (b) (b + 1) g6 g7 := by rw [eg7]; exact xF_up xF_rf (by omega) (by omega)
  replace hb : g7 b = some (.inr (4, [.ref (b + 1), .int 0, .int (-1), .ref (b + 2), .ref (b + 13), .null, .null, .null, .null, .null])) := by rw [eg7]; exact x_up_eq
  replace kt := (Fg7 (b + 1) (by omega)).trans kt
  replace ZR := rdt_fo ZR Fg7 (by omega)
  replace kd := (Fg7 (b + 13) (by omega)).trans kd
  replace F := xF_tr F (xF_wd Fg7 (by omega) (by omega))
  refine x_aload_n G dX4_init_36 rfl ?_
  refine x_newO (fs := [.null, .null, .null, .int 0, .int 0, .int 0]) (sz1 := b + 15) G kX3 inX3 rfl (by decide +kernel) (by decide +kernel) (by decide +kernel) dX4_init_37 df_3 (by decide) (by decide) ?_
  obtain ⟨g8, eg8⟩ : ∃ g : xH, g = x_up g7 (b + 14) (.inr (3, [.null, .null, .null, .int 0, .int 0, .int 0])) := ⟨_, rfl⟩
  refine x_as rfl rfl eg8.symm ?_
  have Fg8 : xF (b + 14) (b + 15) g7 g8 := by rw [eg8]; exact xF_up xF_rf (by omega) (by omega)
  replace hb := (Fg8 b (by omega)).trans hb
  replace kt := (Fg8 (b + 1) (by omega)).trans kt
  replace ZR := rdt_fo ZR Fg8 (by omega)
  replace kd := (Fg8 (b + 13) (by omega)).trans kd
  replace F := xF_tr F (xF_wd Fg8 (by omega) (by omega))
  have kn : g8 (b + 14) = some (.inr (3, [.null, .null, .null, .int 0, .int 0, .int 0])) := by rw [eg8]; exact x_up_eq
  refine x_dup G dX4_init_40 rfl ?_
  refine x_callI (n := 0) (rest := [.ref (b + 14), .ref b]) (As := []) G (c_X3_init (Post := fun r7 h7 sz7 => r7 = none ∧ StT dA h7 (b + 14) sT_0 ∧ xF (b + 14) (b + 14 + 10) g8 h7 ∧ b + 14 + 10 = sz7) l D kn (fun h7 q1 q2 => ⟨rfl, q1, q2, rfl⟩)) gX4_init_X3_init rfl (by decide +kernel) (by decide +kernel) (by decide +kernel) rfl ⟨by decide +kernel, by decide +kernel, by decide +kernel⟩ ⟨by decide, by decide⟩ dX4_init_41 rfl rfl (Nat.le_of_ble_eq_true rfl) ⟨by decide, by decide⟩ ?_
  rintro _ n9 _ ⟨rfl, ZN, Fn9, rfl⟩
  try dsimp only [Option.toList, List.cons_append, List.nil_append]
  replace hb := (Fn9 b (by omega)).trans hb
  replace kt := (Fn9 (b + 1) (by omega)).trans kt
  replace ZR := rdt_fo ZR Fn9 (by omega)
  replace kd := (Fn9 (b + 13) (by omega)).trans kd
  replace F := xF_tr F (xF_wd Fn9 (by omega) (by omega))
  refine x_putF G kX4 inX4 5 (by decide) (by decide +kernel) rfl (hin rfl) rfl dX4_init_44 hb rfl rfl (Nat.le_of_ble_eq_true rfl) ?_
  obtain ⟨g10, eg10⟩ : ∃ g : xH, g = x_up n9 b (.inr (4, List.set [.ref (b + 1), .int 0, .int (-1), .ref (b + 2), .ref (b + 13), .null, .null, .null, .null, .null] 5 (.ref (b + 14)))) := ⟨_, rfl⟩
  refine x_as rfl rfl eg10.symm ?_
  have Fg10 : xF (b) (b + 1) n9 g10 := by rw [eg10]; exact xF_up xF_rf (by omega) (by omega)
  replace hb : g10 b = some (.inr (4, [.ref (b + 1), .int 0, .int (-1), .ref (b + 2), .ref (b + 13), .ref (b + 14), .null, .null, .null, .null])) := by rw [eg10]; exact x_up_eq
  replace kt := (Fg10 (b + 1) (by omega)).trans kt
  replace ZR := rdt_fo ZR Fg10 (by omega)
  replace kd := (Fg10 (b + 13) (by omega)).trans kd
  replace ZN := st_fo ZN Fg10 (by omega)
  replace F := xF_tr F (xF_wd Fg10 (by omega) (by omega))
  refine x_aload_n G dX4_init_47 rfl ?_
  refine x_iconstV (v := nI 2) G dX4_init_48 (by decide) ?_
  refine x_newq (N := 2) (sz1 := b + 25) G rfl (by decide +kernel) dX4_init_49 (by decide) (by decide) (by decide) (by decide) (by decide) ?_
  obtain ⟨g11, eg11⟩ : ∃ g : xH, g = x_up g10 (b + 24) (.inl (dA 3, 2, .inr (.inr (.inr (.inr (fun _ => none)))))) := ⟨_, rfl⟩
  refine x_as rfl rfl eg11.symm ?_
  have Fg11 : xF (b + 24) (b + 25) g10 g11 := by rw [eg11]; exact xF_up xF_rf (by omega) (by omega)
  replace hb := (Fg11 b (by omega)).trans hb
  replace kt := (Fg11 (b + 1) (by omega)).trans kt
  replace ZR := rdt_fo ZR Fg11 (by omega)
  replace kd := (Fg11 (b + 13) (by omega)).trans kd
  replace ZN := st_fo ZN Fg11 (by omega)
  replace F := xF_tr F (xF_wd Fg11 (by omega) (by omega))
  have kg : g11 (b + 24) = some (.inl (dA 3, 2, .inr (.inr (.inr (.inr (fun _ => none)))))) := by rw [eg11]; exact x_up_eq
  refine x_putF G kX4 inX4 6 (by decide) (by decide +kernel) rfl (hin rfl) rfl dX4_init_52 hb rfl rfl (Nat.le_of_ble_eq_true rfl) ?_
  obtain ⟨g12, eg12⟩ : ∃ g : xH, g = x_up g11 b (.inr (4, List.set [.ref (b + 1), .int 0, .int (-1), .ref (b + 2), .ref (b + 13), .ref (b + 14), .null, .null, .null, .null] 6 (.ref (b + 24)))) := ⟨_, rfl⟩
  refine x_as rfl rfl eg12.symm ?_
  have Fg12 : xF (b) (b + 1) g11 g12 := by rw [eg12]; exact xF_up xF_rf (by omega) (by omega)
  replace hb : g12 b = some (.inr (4, [.ref (b + 1), .int 0, .int (-1), .ref (b + 2), .ref (b + 13), .ref (b + 14), .ref (b + 24), .null, .null, .null])) := by rw [eg12]; exact x_up_eq
  replace kt := (Fg12 (b + 1) (by omega)).trans kt
  replace ZR := rdt_fo ZR Fg12 (by omega)
  replace kd := (Fg12 (b + 13) (by omega)).trans kd
  replace ZN := st_fo ZN Fg12 (by omega)
  replace kg := (Fg12 (b + 24) (by omega)).trans kg
  replace F := xF_tr F (xF_wd Fg12 (by omega) (by omega))
  refine x_aload_n G dX4_init_55 rfl ?_
  refine x_newO (fs := [.null, .int 0, .int 0]) (sz1 := b + 26) G kX0 inX0 rfl (by decide +kernel) (by decide +kernel) (by decide +kernel) dX4_init_56 df_0 (by decide) (by decide) ?_
  obtain ⟨g13, eg13⟩ : ∃ g : xH, g = x_up g12 (b + 25) (.inr (0, [.null, .int 0, .int 0])) := ⟨_, rfl⟩
  refine x_as rfl rfl eg13.symm ?_
  have Fg13 : xF (b + 25) (b + 26) g12 g13 := by rw [eg13]; exact xF_up xF_rf (by omega) (by omega)
  replace hb := (Fg13 b (by omega)).trans hb
  replace kt := (Fg13 (b + 1) (by omega)).trans kt
  replace ZR := rdt_fo ZR Fg13 (by omega)
  replace kd := (Fg13 (b + 13) (by omega)).trans kd
  replace ZN := st_fo ZN Fg13 (by omega)
  replace kg := (Fg13 (b + 24) (by omega)).trans kg
  replace F := xF_tr F (xF_wd Fg13 (by omega) (by omega))
  have kn : g13 (b + 25) = some (.inr (0, [.null, .int 0, .int 0])) := by rw [eg13]; exact x_up_eq
  refine x_dup G dX4_init_59 rfl ?_
  refine x_callI (n := 0) (rest := [.ref (b + 25), .ref b]) (As := []) G (c_X0_init (Post := fun r7 h7 sz7 => r7 = none ∧ Pa dA h7 (b + 25) (fun _ => sT_0) (nI 0) (nI 0) ∧ xF (b + 25) (b + 25 + 202) g13 h7 ∧ b + 25 + 202 = sz7) l D kn (fun h7 q1 q2 => ⟨rfl, q1, q2, rfl⟩)) gX4_init_X0_init rfl (by decide +kernel) (by decide +kernel) (by decide +kernel) rfl ⟨by decide +kernel, by decide +kernel, by decide +kernel⟩ ⟨by decide, by decide⟩ dX4_init_60 rfl rfl (Nat.le_of_ble_eq_true rfl) ⟨by decide, by decide⟩ ?_
  rintro _ n14 _ ⟨rfl, ZP, Fn14, rfl⟩
  try dsimp only [Option.toList, List.cons_append, List.nil_append]
  replace hb := (Fn14 b (by omega)).trans hb
  replace kt := (Fn14 (b + 1) (by omega)).trans kt
  replace ZR := rdt_fo ZR Fn14 (by omega)
  replace kd := (Fn14 (b + 13) (by omega)).trans kd
  replace ZN := st_fo ZN Fn14 (by omega)
  replace kg := (Fn14 (b + 24) (by omega)).trans kg
  replace F := xF_tr F (xF_wd Fn14 (by omega) (by omega))
  refine x_putF G kX4 inX4 7 (by decide) (by decide +kernel) rfl (hin rfl) rfl dX4_init_63 hb rfl rfl (Nat.le_of_ble_eq_true rfl) ?_
  obtain ⟨g15, eg15⟩ : ∃ g : xH, g = x_up n14 b (.inr (4, List.set [.ref (b + 1), .int 0, .int (-1), .ref (b + 2), .ref (b + 13), .ref (b + 14), .ref (b + 24), .null, .null, .null] 7 (.ref (b + 25)))) := ⟨_, rfl⟩
  refine x_as rfl rfl eg15.symm ?_
  have Fg15 : xF (b) (b + 1) n14 g15 := by rw [eg15]; exact xF_up xF_rf (by omega) (by omega)
  replace hb : g15 b = some (.inr (4, [.ref (b + 1), .int 0, .int (-1), .ref (b + 2), .ref (b + 13), .ref (b + 14), .ref (b + 24), .ref (b + 25), .null, .null])) := by rw [eg15]; exact x_up_eq
  replace kt := (Fg15 (b + 1) (by omega)).trans kt
  replace ZR := rdt_fo ZR Fg15 (by omega)
  replace kd := (Fg15 (b + 13) (by omega)).trans kd
  replace ZN := st_fo ZN Fg15 (by omega)
  replace kg := (Fg15 (b + 24) (by omega)).trans kg
  replace ZP := pa_fo ZP Fg15 (by omega)
  replace F := xF_tr F (xF_wd Fg15 (by omega) (by omega))
  refine x_aload_n G dX4_init_66 rfl ?_
  refine x_newO (fs := [.null, .null, .null, .null, .null, .long 0, .int 0]) (sz1 := b + 228) G kX2 inX2 rfl (by decide +kernel) (by decide +kernel) (by decide +kernel) dX4_init_67 df_2 (by decide) (by decide) ?_
  obtain ⟨g16, eg16⟩ : ∃ g : xH, g = x_up g15 (b + 227) (.inr (2, [.null, .null, .null, .null, .null, .long 0, .int 0])) := ⟨_, rfl⟩
  refine x_as rfl rfl eg16.symm ?_
  have Fg16 : xF (b + 227) (b + 228) g15 g16 := by rw [eg16]; exact xF_up xF_rf (by omega) (by omega)
  replace hb := (Fg16 b (by omega)).trans hb
  replace kt := (Fg16 (b + 1) (by omega)).trans kt
  replace ZR := rdt_fo ZR Fg16 (by omega)
  replace kd := (Fg16 (b + 13) (by omega)).trans kd
  replace ZN := st_fo ZN Fg16 (by omega)
  replace kg := (Fg16 (b + 24) (by omega)).trans kg
  replace ZP := pa_fo ZP Fg16 (by omega)
  replace F := xF_tr F (xF_wd Fg16 (by omega) (by omega))
  have kn : g16 (b + 227) = some (.inr (2, [.null, .null, .null, .null, .null, .long 0, .int 0])) := by rw [eg16]; exact x_up_eq
  refine x_dup G dX4_init_70 rfl ?_
  refine x_callI (n := 0) (rest := [.ref (b + 227), .ref b]) (As := []) G (c_X2_init (Post := fun r7 h7 sz7 => r7 = none ∧ SlT dA h7 (b + 227) (sc ((fun _ _ => 0), (fun _ _ => 0), (fun _ => 0), (fun _ => 0), 0, 0)) ∧ xF (b + 227) (b + 227 + 16) g16 h7 ∧ b + 227 + 16 = sz7) l D kn (fun h7 q1 q2 => ⟨rfl, q1, q2, rfl⟩)) gX4_init_X2_init rfl (by decide +kernel) (by decide +kernel) (by decide +kernel) rfl ⟨by decide +kernel, by decide +kernel, by decide +kernel⟩ ⟨by decide, by decide⟩ dX4_init_71 rfl rfl (Nat.le_of_ble_eq_true rfl) ⟨by decide, by decide⟩ ?_
  rintro _ n17 _ ⟨rfl, ZS, Fn17, rfl⟩
  try dsimp only [Option.toList, List.cons_append, List.nil_append]
  replace hb := (Fn17 b (by omega)).trans hb
  replace kt := (Fn17 (b + 1) (by omega)).trans kt
  replace ZR := rdt_fo ZR Fn17 (by omega)
  replace kd := (Fn17 (b + 13) (by omega)).trans kd
  replace ZN := st_fo ZN Fn17 (by omega)
  replace kg := (Fn17 (b + 24) (by omega)).trans kg
  replace ZP := pa_fo ZP Fn17 (by omega)
  replace F := xF_tr F (xF_wd Fn17 (by omega) (by omega))
  refine x_putF G kX4 inX4 8 (by decide) (by decide +kernel) rfl (hin rfl) rfl dX4_init_74 hb rfl rfl (Nat.le_of_ble_eq_true rfl) ?_
  obtain ⟨g18, eg18⟩ : ∃ g : xH, g = x_up n17 b (.inr (4, List.set [.ref (b + 1), .int 0, .int (-1), .ref (b + 2), .ref (b + 13), .ref (b + 14), .ref (b + 24), .ref (b + 25), .null, .null] 8 (.ref (b + 227)))) := ⟨_, rfl⟩
  refine x_as rfl rfl eg18.symm ?_
  have Fg18 : xF (b) (b + 1) n17 g18 := by rw [eg18]; exact xF_up xF_rf (by omega) (by omega)
  replace hb : g18 b = some (.inr (4, [.ref (b + 1), .int 0, .int (-1), .ref (b + 2), .ref (b + 13), .ref (b + 14), .ref (b + 24), .ref (b + 25), .ref (b + 227), .null])) := by rw [eg18]; exact x_up_eq
  replace kt := (Fg18 (b + 1) (by omega)).trans kt
  replace ZR := rdt_fo ZR Fg18 (by omega)
  replace kd := (Fg18 (b + 13) (by omega)).trans kd
  replace ZN := st_fo ZN Fg18 (by omega)
  replace kg := (Fg18 (b + 24) (by omega)).trans kg
  replace ZP := pa_fo ZP Fg18 (by omega)
  replace ZS := slt_fo ZS Fg18 (by omega)
  replace F := xF_tr F (xF_wd Fg18 (by omega) (by omega))
  refine x_aload_n G dX4_init_77 rfl ?_
  refine x_newO (fs := [.null, .null, .null, .null, .null, .long 0, .int 0]) (sz1 := b + 244) G kX2 inX2 rfl (by decide +kernel) (by decide +kernel) (by decide +kernel) dX4_init_78 df_2 (by decide) (by decide) ?_
  obtain ⟨g19, eg19⟩ : ∃ g : xH, g = x_up g18 (b + 243) (.inr (2, [.null, .null, .null, .null, .null, .long 0, .int 0])) := ⟨_, rfl⟩
  refine x_as rfl rfl eg19.symm ?_
  have Fg19 : xF (b + 243) (b + 244) g18 g19 := by rw [eg19]; exact xF_up xF_rf (by omega) (by omega)
  replace hb := (Fg19 b (by omega)).trans hb
  replace kt := (Fg19 (b + 1) (by omega)).trans kt
  replace ZR := rdt_fo ZR Fg19 (by omega)
  replace kd := (Fg19 (b + 13) (by omega)).trans kd
  replace ZN := st_fo ZN Fg19 (by omega)
  replace kg := (Fg19 (b + 24) (by omega)).trans kg
  replace ZP := pa_fo ZP Fg19 (by omega)
  replace ZS := slt_fo ZS Fg19 (by omega)
  replace F := xF_tr F (xF_wd Fg19 (by omega) (by omega))
  have kn : g19 (b + 243) = some (.inr (2, [.null, .null, .null, .null, .null, .long 0, .int 0])) := by rw [eg19]; exact x_up_eq
  refine x_dup G dX4_init_81 rfl ?_
  refine x_callI (n := 0) (rest := [.ref (b + 243), .ref b]) (As := []) G (c_X2_init (Post := fun r7 h7 sz7 => r7 = none ∧ SlT dA h7 (b + 243) (sc ((fun _ _ => 0), (fun _ _ => 0), (fun _ => 0), (fun _ => 0), 0, 0)) ∧ xF (b + 243) (b + 243 + 16) g19 h7 ∧ b + 243 + 16 = sz7) l D kn (fun h7 q1 q2 => ⟨rfl, q1, q2, rfl⟩)) gX4_init_X2_init rfl (by decide +kernel) (by decide +kernel) (by decide +kernel) rfl ⟨by decide +kernel, by decide +kernel, by decide +kernel⟩ ⟨by decide, by decide⟩ dX4_init_82 rfl rfl (Nat.le_of_ble_eq_true rfl) ⟨by decide, by decide⟩ ?_
  rintro _ n20 _ ⟨rfl, ZQ, Fn20, rfl⟩
  try dsimp only [Option.toList, List.cons_append, List.nil_append]
  replace hb := (Fn20 b (by omega)).trans hb
  replace kt := (Fn20 (b + 1) (by omega)).trans kt
  replace ZR := rdt_fo ZR Fn20 (by omega)
  replace kd := (Fn20 (b + 13) (by omega)).trans kd
  replace ZN := st_fo ZN Fn20 (by omega)
  replace kg := (Fn20 (b + 24) (by omega)).trans kg
  replace ZP := pa_fo ZP Fn20 (by omega)
  replace ZS := slt_fo ZS Fn20 (by omega)
  replace F := xF_tr F (xF_wd Fn20 (by omega) (by omega))
  refine x_putF G kX4 inX4 9 (by decide) (by decide +kernel) rfl (hin rfl) rfl dX4_init_85 hb rfl rfl (Nat.le_of_ble_eq_true rfl) ?_
  obtain ⟨g21, eg21⟩ : ∃ g : xH, g = x_up n20 b (.inr (4, List.set [.ref (b + 1), .int 0, .int (-1), .ref (b + 2), .ref (b + 13), .ref (b + 14), .ref (b + 24), .ref (b + 25), .ref (b + 227), .null] 9 (.ref (b + 243)))) := ⟨_, rfl⟩
  refine x_as rfl rfl eg21.symm ?_
  have Fg21 : xF (b) (b + 1) n20 g21 := by rw [eg21]; exact xF_up xF_rf (by omega) (by omega)
  replace hb : g21 b = some (.inr (4, [.ref (b + 1), .int 0, .int (-1), .ref (b + 2), .ref (b + 13), .ref (b + 14), .ref (b + 24), .ref (b + 25), .ref (b + 227), .ref (b + 243)])) := by rw [eg21]; exact x_up_eq
  replace kt := (Fg21 (b + 1) (by omega)).trans kt
  replace ZR := rdt_fo ZR Fg21 (by omega)
  replace kd := (Fg21 (b + 13) (by omega)).trans kd
  replace ZN := st_fo ZN Fg21 (by omega)
  replace kg := (Fg21 (b + 24) (by omega)).trans kg
  replace ZP := pa_fo ZP Fg21 (by omega)
  replace ZS := slt_fo ZS Fg21 (by omega)
  replace ZQ := slt_fo ZQ Fg21 (by omega)
  replace F := xF_tr F (xF_wd Fg21 (by omega) (by omega))
  refine x_iconstV (v := nI 0) G dX4_init_88 (by decide) ?_
  refine x_istore_n G dX4_init_89 (by decide) ?_
  rw [← ah_0 (b := b + 259) (N := 2)] at kg
  refine x_clE (c2 := 258) (s2 := 2064) rfl rfl ?_
  refine x_loopA (fun j => 258 + 10 * j) (fun j => 2064 + 80 * j) (fun j => [(0, .ref b), (1, .int (nI j))]) 2 (fun j h1 sz1 => h1 b = some (.inr (4, [.ref (b + 1), .int 0, .int (-1), .ref (b + 2), .ref (b + 13), .ref (b + 14), .ref (b + 24), .ref (b + 25), .ref (b + 227), .ref (b + 243)])) ∧ h1 (b + 1) = some (.inl (dA 0, 60, .inl (fun _ => 0))) ∧ (RdT dA h1 (b + 2) ((fun _ _ => 0), (fun _ => 0), (fun _ => 0), 0, 0, 0, 0, 0) (-1) ∧ h1 (b + 13) = some (.inl (dA 0, 10, .inl (fun _ => 0))) ∧ StT dA h1 (b + 14) sT_0 ∧ Pa dA h1 (b + 25) (fun _ => sT_0) (nI 0) (nI 0) ∧ SlT dA h1 (b + 227) (sc ((fun _ _ => 0), (fun _ _ => 0), (fun _ => 0), (fun _ => 0), 0, 0)) ∧ SlT dA h1 (b + 243) (sc ((fun _ _ => 0), (fun _ _ => 0), (fun _ => 0), (fun _ => 0), 0, 0))) ∧ h1 (b + 24) = some (.inl (dA 3, 2, .inr (.inr (.inr (.inr (ah_r (b + 259) 2 j)))))) ∧ (∀ i, i < j → StT dA h1 (b + 259 + 10 * i) sT_0) ∧ b + 259 + 10 * j = sz1 ∧ xF b (b + 279) h h1) ?_ ?_ 0 _ _ (Nat.zero_le _) ⟨hb, kt, ⟨ZR, kd, ZN, ZP, ZS, ZQ⟩, kg, fun i hi => absurd hi (Nat.not_lt_zero _), rfl, F⟩
  · intro j h1 sz1 hj hI nx
    obtain ⟨hb, kt, ⟨ZR, kd, ZN, ZP, ZS, ZQ⟩, kg, ks, rfl, F⟩ := hI
    refine x_iload_n G dX4_init_90 rfl ?_
    refine x_iconstV (v := nI 2) G dX4_init_91 (by decide) ?_
    refine x_icmp_ge G 114 dX4_init_92 (by decide) (fun c_9 => absurd c_9 (nI_ge hj (by decide))) (fun c_9 => ?_)
    refine x_aload_n G dX4_init_95 rfl ?_
    refine x_get G kX4 inX4 6 (by decide) (by decide +kernel) dX4_init_96 hb rfl ?_
    refine x_iload_n G dX4_init_99 rfl ?_
    refine x_newO (fs := [.null, .null, .null, .int 0, .int 0, .int 0]) (sz1 := b + 259 + 10 * j + 1) G kX3 inX3 rfl (by decide +kernel) (by decide +kernel) (by decide +kernel) dX4_init_100 df_3 (by show 258 + 10 * j + 1 ≤ 278; omega) (by show 2064 + 80 * j + 6 ≤ 2224; omega) ?_
    refine x_dup G dX4_init_103 rfl ?_
    refine x_callI (n := 0) (rest := [.ref (b + 259 + 10 * j), .int (nI j), .ref (b + 24)]) (As := []) G (c_X3_init (Post := fun r7 h7 sz7 => r7 = none ∧ StT dA h7 (b + 259 + 10 * j) sT_0 ∧ xF (b + 259 + 10 * j) (b + 259 + 10 * j + 10) _ h7 ∧ b + 259 + 10 * j + 10 = sz7) l D x_up_eq (fun h7 q1 q2 => ⟨rfl, q1, q2, rfl⟩)) gX4_init_X3_init rfl (by decide +kernel) (by decide +kernel) (by decide +kernel) rfl ⟨by decide +kernel, by decide +kernel, by decide +kernel⟩ ⟨by decide, by decide⟩ dX4_init_104 rfl rfl (Nat.le_of_ble_eq_true rfl) ⟨by show 258 + 10 * j + 1 + 9 ≤ 278; omega, by show 2064 + 80 * j + 6 + 74 ≤ 2224; omega⟩ ?_
    rintro _ h2 _ ⟨rfl, S, F2, rfl⟩
    try dsimp only [Option.toList, List.cons_append, List.nil_append]
    have F3 : xF (b + 259 + 10 * j) (b + 259 + 10 * j + 10) h1 h2 := xF_tr (xF_up (a := b + 259 + 10 * j) (e := .inr (3, [.null, .null, .null, .int 0, .int 0, .int 0])) xF_rf (by omega) (by omega)) F2
    replace hb := (F3 b (by omega)).trans hb
    replace kg := (F3 (b + 24) (by omega)).trans kg
    refine x_aasq (k := j) G dX4_init_107 kg (st_o S) (by omega) (by decide) ?_
    rw [ah_s]
    refine x_iinc G dX4_init_108 rfl (by decide) ?_
    refine x_locE (lv2 := [(0, .ref b), (1, .int (nI (j + 1)))]) (by rw [nI_succ j]; rfl) ?_
    refine x_goto G 90 dX4_init_111 (by decide) ?_
    refine x_clE (show 258 + 10 * j + 1 + 9 = 258 + 10 * (j + 1) by omega) (show 2064 + 80 * j + 6 + 74 = 2064 + 80 * (j + 1) by omega) ?_
    have F4 : xF (b + 24) (b + 25) h2 (x_up h2 (b + 24) (.inl (dA 3, 2, .inr (.inr (.inr (.inr (ah_r (b + 259) 2 (j + 1)))))))) := xF_up xF_rf (by omega) (by omega)
    have F5 : xF (b + 24) (b + 279) h1 (x_up h2 (b + 24) (.inl (dA 3, 2, .inr (.inr (.inr (.inr (ah_r (b + 259) 2 (j + 1)))))))) := fun q hq => by
      rcases hq with hq | hq
      · rw [F4 q (by omega), F3 q (by omega)]
      · rw [F4 q (by omega), F3 q (by omega)]
    have gen : ∀ q, (q < b + 24 ∨ (b + 25 ≤ q ∧ q < b + 259)) → x_up h2 (b + 24) (.inl (dA 3, 2, .inr (.inr (.inr (.inr (ah_r (b + 259) 2 (j + 1))))))) q = h1 q := fun q hq => by
      rw [F4 q (by omega), F3 q (by omega)]
    refine nx _ _ ⟨(x_up_ne (by omega)).trans hb, (gen (b + 1) (by omega)).trans kt, ⟨rdt_fo (rdt_fo ZR F3 (by omega)) F4 (by omega), (gen (b + 13) (by omega)).trans kd, st_fo (st_fo ZN F3 (by omega)) F4 (by omega), pa_fo (pa_fo ZP F3 (by omega)) F4 (by omega), slt_fo (slt_fo ZS F3 (by omega)) F4 (by omega), slt_fo (slt_fo ZQ F3 (by omega)) F4 (by omega)⟩, x_up_eq, fun i hi => ?_, by omega, xF_tr F (xF_wd F5 (by omega) (by omega))⟩
    rcases Nat.lt_or_ge i j with z | z
    · exact st_fo (st_fo (ks i z) F3 (by omega)) F4 (by omega)
    · rw [show i = j by omega]
      exact st_fo S F4 (by omega)
  · intro h1 sz1 hI
    obtain ⟨hb, kt, ⟨ZR, kd, ZN, ZP, ZS, ZQ⟩, kg, ks, rfl, F⟩ := hI
    refine x_iload_n G dX4_init_90 rfl ?_
    refine x_iconstV (v := nI 2) G dX4_init_91 (by decide) ?_
    refine x_icmp_ge G 114 dX4_init_92 (by decide) (fun c_9 => ?_) (fun c_9 => absurd (nI_le (Nat.le_refl _) (by decide)) c_9)
    exact x_vret G dX4_init_114 (hpost _ ⟨hb, kt, ZR, kd, ZN, kg, ZP, ZS, ZQ, ks⟩ F)
