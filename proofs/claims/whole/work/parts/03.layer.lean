/-! ## The layer of the walks: a heap is a map from addresses to entries; a point of a walk is (pc, locals, stack, heap) -/
abbrev xH : Type := Nat → Option va_E
def x_up (h : xH) (a : Nat) (e : va_E) : xH := fun q => if q = a then some e else h q
theorem x_up_eq {h : xH} {a : Nat} {e : va_E} : x_up h a e a = some e := if_pos rfl
theorem x_up_ne {h : xH} {a b : Nat} {e : va_E} (n : b ≠ a) : x_up h a e b = h b := if_neg n
theorem x_up_up {h : xH} {a : Nat} {e e2 : va_E} : x_up (x_up h a e) a e2 = x_up h a e2 := by
  funext q
  unfold x_up
  by_cases k : q = a
  · rw [if_pos k, if_pos k]
  · rw [if_neg k, if_neg k, if_neg k]
theorem x_up_self {h : xH} {a : Nat} {e : va_E} (k : h a = some e) : x_up h a e = h := by
  funext q
  unfold x_up
  by_cases j : q = a
  · rw [if_pos j, j, k]
  · rw [if_neg j]
theorem x_up_sw {h : xH} {a b : Nat} {e e2 : va_E} (n : a ≠ b) : x_up (x_up h a e) b e2 = x_up (x_up h b e2) a e := by
  funext q
  unfold x_up
  by_cases k : q = b
  · rw [if_pos k, if_neg (fun j => n (j.symm.trans k)), if_pos k]
  · rw [if_neg k, if_neg k]
theorem x_up_dom {h : xH} {a : Nat} {e e0 : va_E} (k : h a = some e0) (q : Nat) : (x_up h a e q).isSome = (h q).isSome := by
  unfold x_up
  by_cases j : q = a
  · rw [if_pos j, j, k]; rfl
  · rw [if_neg j]
def x_f (h : xH) (a : Nat) : va_E := (h a).getD (.inr (0, []))
theorem x_f_of {h : xH} {a : Nat} {e : va_E} (k : h a = some e) : x_f h a = e := by unfold x_f; rw [k]; rfl
/-- the heap holds the map; the map's addresses lie in A -/
def xR (D : va_G) (A : Nat → Prop) (h : xH) (H : Heap) : Prop := ∃ L : List Nat, (∀ a, a ∈ L ↔ (h a).isSome = true) ∧ va_D A (va_pl L (x_f h)) ∧ va_P D vwCl (va_pl L (x_f h)) H
theorem xR_get {D : va_G} {A : Nat → Prop} {h : xH} {H : Heap} {a : Nat} {e : va_E} (r : xR D A h H) (k : h a = some e) : ∃ (L : List Nat) (i : Nat), (∀ a, a ∈ L ↔ (h a).isSome = true) ∧ va_D A (va_pl L (x_f h)) ∧ va_P D vwCl (va_pl L (x_f h)) H ∧ a ∈ L ∧ (va_pl L (x_f h))[i]? = some (a, e) := by
  obtain ⟨L, h1, h2, h3⟩ := r
  have hm : a ∈ L := (h1 a).mpr (by rw [k]; rfl)
  obtain ⟨i, hi⟩ := va_pl_get (X := []) (f := x_f h) hm
  rw [x_f_of k] at hi
  exact ⟨L, i, h1, h2, h3, hm, hi⟩
theorem xR_at {D : va_G} {A : Nat → Prop} {h : xH} {H : Heap} {a : Nat} {e : va_E} (r : xR D A h H) (k : h a = some e) : va_at D vwCl (a, e) H := by
  obtain ⟨L, i, -, -, h3, -, hi⟩ := xR_get r k
  exact h3 i _ hi
theorem x_fup {h : xH} {a : Nat} {e : va_E} : va_up (x_f h) a e = x_f (x_up h a e) := by
  funext q
  unfold va_up x_f x_up
  by_cases j : q = a
  · rw [if_pos j, if_pos j]; rfl
  · rw [if_neg j, if_neg j]
theorem xR_set {D : va_G} {A : Nat → Prop} {h : xH} {H1 : Heap} {a i : Nat} {e e1 : va_E} {L : List Nat} (k : h a = some e) (h1 : ∀ a, a ∈ L ↔ (h a).isSome = true) (h2 : va_D A (va_pl L (x_f h))) (hm : a ∈ L) (hi : (va_pl L (x_f h))[i]? = some (a, e)) (hP : va_P D vwCl ((va_pl L (x_f h)).set i (a, e1)) H1) (hD : va_D A ((va_pl L (x_f h)).set i (a, e1))) : xR D A (x_up h a e1) H1 := by
  have e0 : (va_pl L (x_f h)).set i (a, e1) = va_pl L (va_up (x_f h) a e1) := va_pl_set (X := []) (A := A) h2 hm (by rw [x_f_of k]; exact hi)
  rw [e0, x_fup] at hP hD
  exact ⟨L, fun q => by rw [x_up_dom k q]; exact h1 q, hD, hP⟩
/-- of what is there at the start (and of all that comes) -/
def xA (h : xH) (sz : Nat) : Nat → Prop := fun q => (h q).isSome = true ∨ sz ≤ q
theorem xR_weak {D : va_G} {A B : Nat → Prop} {h : xH} {H : Heap} (r : xR D A h H) (k : ∀ a, (h a).isSome = true → B a) : xR D B h H := by
  obtain ⟨L, h1, h2, h3⟩ := r
  refine ⟨L, h1, ⟨h2.1, fun i q hq => ?_⟩, h3⟩
  obtain ⟨a, ha, rfl⟩ := List.mem_map.mp (List.mem_of_getElem? hq)
  exact k a ((h1 a).mp ha)
theorem xR_in {D : va_G} {A : Nat → Prop} {h : xH} {H : Heap} (r : xR D A h H) {a : Nat} (k : (h a).isSome = true) : A a := by
  obtain ⟨L, h1, h2, h3⟩ := r
  obtain ⟨i, hi⟩ := va_pl_get (X := []) (f := x_f h) ((h1 a).mpr k)
  exact h2.2 i _ hi
theorem xR_kept {D : va_G} {A : Nat → Prop} {h : xH} {H H1 : Heap} (r : xR D A h H) (k : ∀ a, (h a).isSome = true → H1[a]? = H[a]?) : xR D A h H1 := by
  obtain ⟨L, h1, h2, h3⟩ := r
  refine ⟨L, h1, h2, h3.kept fun i q hq => ?_⟩
  obtain ⟨a, ha, rfl⟩ := List.mem_map.mp (List.mem_of_getElem? hq)
  exact k a ((h1 a).mp ha)
/-- the classes of arrays: 0 ints, 1 longs, 2 booleans, 3 States, 4 rows of ints, 5 rows of longs -/
abbrev xT (dA : Nat → ClassId) : List (ClassId × FieldType) := [(dA 0, .int), (dA 1, .long), (dA 2, .boolean), (dA 3, .object "UnitVectors$State"), (dA 4, .array .int), (dA 5, .array .long)]
/-- the words on nest mates -/
def xNw : List Cond := [.fieldLinkNest "UnitVectors" 80 "UnitVectors$Past" "count" "I" "UnitVectors", .fieldLinkNest "UnitVectors" 63 "UnitVectors$Solutions" "count" "I" "UnitVectors", .fieldLinkNest "UnitVectors" 60 "UnitVectors$State" "count" "I" "UnitVectors", .fieldLinkNest "UnitVectors" 190 "UnitVectors$Reader" "totals" "[[J" "UnitVectors", .fieldLinkNest "UnitVectors" 187 "UnitVectors$Reader" "place" "I" "UnitVectors", .fieldLinkNest "UnitVectors" 176 "UnitVectors$State" "isKept" "Z" "UnitVectors", .fieldLinkNest "UnitVectors" 170 "UnitVectors$State" "drawSeed" "I" "UnitVectors", .fieldLinkNest "UnitVectors" 139 "UnitVectors$Solutions" "lowest" "[[J" "UnitVectors", .fieldLinkNest "UnitVectors" 133 "UnitVectors$Solutions" "rows" "[[J" "UnitVectors", .fieldLinkNest "UnitVectors" 125 "UnitVectors$State" "sayings" "[[I" "UnitVectors", .fieldLinkNest "UnitVectors" 108 "UnitVectors$State" "below" "[I" "UnitVectors", .fieldLinkNest "UnitVectors" 105 "UnitVectors$State" "above" "[I" "UnitVectors", .arrayOver (.array .long), .arrayOver (.array .int), .arrayOver (.object "UnitVectors$State")]
def xN (U : State) : Prop := ∀ w ∈ xNw, va_Nw w U
theorem xO_spec {t : FieldType} {U : State} (h : va_Nw (.arrayOver (.array t)) U) : ∃ comp c k, U.vm.findClass (FieldType.array t).toString = some comp ∧ (U.vm.classes.findIdx? fun x => match x.kind with | .array component _ => component == comp | _ => false) = some c ∧ U.vm.classes[c]? = some k ∧ k.kind = .array comp (.array t) ∧ U.vm.findClass ("[" ++ (FieldType.array t).toString) = some c := by
  unfold va_Nw at h
  simp only [Cond.before, Cond.holds, Cond.value, beq_iff_eq] at h
  cases hc : U.vm.findClass (FieldType.array t).toString with
  | none => simp [hc] at h
  | some comp =>
    simp only [hc, Option.bind_some, Option.bind_eq_some_iff, Option.map_eq_some_iff] at h
    obtain ⟨c, hi, k, hk, hb⟩ := h
    obtain ⟨hlt, hp, -⟩ := Array.findIdx?_eq_some_iff_getElem.mp hi
    have hkk : U.vm.classes[c] = k := (Array.getElem?_eq_some_iff.mp hk).2
    rw [hkk] at hp
    cases hkind : k.kind with
    | array component ty =>
      rw [hkind] at hb hp
      simp at hb hp
      obtain ⟨rfl, hn⟩ := hb
      subst hp
      exact ⟨component, c, k, rfl, hi, hk, hkind, hn⟩
    | _ => simp [hkind] at hp
theorem xO_moved {t : FieldType} {u U : State} (hvm : u.vm.Alike U.vm) (h : va_Nw (.arrayOver (.array t)) u) : va_Nw (.arrayOver (.array t)) U := by
  obtain ⟨comp, c, k, h1, h2, h3, h4, h5⟩ := xO_spec h
  obtain ⟨k', hk', he⟩ := hvm.2.2 _ _ h3
  have hi : (U.vm.classes.findIdx? fun (x : Class) => match x.kind with | .array component _ => component == comp | _ => false) = some c := by
    have e1 := va_idx_bare U.vm comp
    have e2 := va_idx_bare u.vm comp
    have eb : U.vm.bare = u.vm.bare := by first | exact hvm.bare_eq | exact hvm.bare_eq.symm
    rw [eb] at e1
    exact e1.symm.trans (e2.trans h2)
  have hkind : k'.kind = .array comp (.array t) := by rw [he]; exact h4
  have f1 : U.vm.findClass (FieldType.array t).toString = some comp := by rw [hvm.findClass]; exact h1
  have f2 : U.vm.findClass ("[" ++ (FieldType.array t).toString) = some c := by rw [hvm.findClass]; exact h5
  unfold va_Nw Cond.before Cond.holds
  simp only [Cond.value]
  rw [f1, Option.bind_some]
  refine (congrArg (fun o : Option Nat => (o.bind (fun c => (U.vm.classes[c]?).map fun (k : Class) => match k.kind with | .array _ ty => decide (ty = FieldType.array t) && decide (U.vm.findClass ("[" ++ (FieldType.array t).toString) = some c) | _ => false) == some true)) hi).trans ?_
  simp [hk', hkind, f2]
theorem xN_warm {s U : State} (hW : s.WarmedH U.vm) (h : xN s) : xN U := by
  intro w hw
  have h1 := h w hw
  simp only [xNw, List.mem_cons, List.not_mem_nil, or_false] at hw
  rcases hw with rfl | rfl | rfl | rfl | rfl | rfl | rfl | rfl | rfl | rfl | rfl | rfl | rfl | rfl | rfl <;> first | exact va_Nw.warmF hW h1 | exact xO_moved hW.alike h1 | exact va_AO.moved hW.alike h1
theorem xN_same {s U : State} (hv : s.vm = U.vm) (h : xN s) : xN U := by
  intro w hw
  have h1 := h w hw
  simp only [xNw, List.mem_cons, List.not_mem_nil, or_false] at hw
  rcases hw with rfl | rfl | rfl | rfl | rfl | rfl | rfl | rfl | rfl | rfl | rfl | rfl | rfl | rfl | rfl <;> first | exact va_Nw.same rfl hv h1 | exact xO_moved (hv ▸ Vm.Alike.refl _) h1 | exact va_AO.moved (hv ▸ Vm.Alike.refl _) h1
/-- what holds of a state where the map is h and the next address sz -/
def xPre (D : va_G) (dA : Nat → ClassId) (A : Nat → Prop) (h : xH) (sz : Nat) (U : State) : Prop := U.heap.size = sz ∧ xR D A h U.heap ∧ va_K D vwCl (xT dA) U ∧ xN U
def xQ (D : va_G) (dA : Nat → ClassId) (h : xH) (sz : Nat) (Post : Option Value → xH → Nat → Prop) : Array Value → State → Outcome → State → Prop := fun _ st o t => (∃ (r : Option Value) (h1 : xH) (sz1 : Nat), o = .returned r ∧ Post r h1 sz1 ∧ xPre D dA (xA h sz) h1 sz1 t) ∧ va_F (xA h sz) st t
/-- a contract of one run of a method: from the map h with the arguments As to a map and an answer with Post -/
def xMet (l : Launch) (y : MethodName) (ws : List Cond) (fr lo mc ms : Nat) (D : va_G) (dA : Nat → ClassId) (As : List Value) (h : xH) (sz : Nat) (Post : Option Value → xH → Nat → Prop) : Prop := Met l y ws { frames := fr, cells := mc, slots := ms, locals := lo } (va_Pc As (xPre D dA (fun _ => True) h sz)) (xQ D dA h sz Post) mc ms (xA h sz)
/-- what a walk stands on -/
def xG (p : Program) (s : State) (m : MethodId) (args : Array Value) (meth : Method) (c : Code) (cc : ByteArray) (nL : Nat) (Ts : List Cond) (own : String) (ret : Option FieldType) (D : va_G) (dA : Nat → ClassId) (sz0 : Nat) : Prop :=
  p.tables.exec = Jvm.exec ∧ c.code = cc ∧ c.maxLocals = nL ∧ s.vm.findClass own = some m.cls ∧ (∀ w ∈ Ts, w.before args s = true) ∧ va_K D vwCl (xT dA) s ∧ meth.locks = false ∧ s.heap.size = sz0 ∧ xN s ∧ meth.sig.returnType = ret
/-- a point of a walk -/
def xV (p : Program) (l : Launch) (e : Env) (R : Room) (s : State) (m : MethodId) (args : Array Value) (below : List Frame) (meth : Method) (c : Code) (D : va_G) (dA : Nat → ClassId) (nL : Nat) (h0 : xH) (sz0 mc ms : Nat) (Post : Option Value → xH → Nat → Prop) (cells slots : Nat) (pc : Nat) (lv : List (Nat × Value)) (st : List Value) (h : xH) (sz : Nat) : Prop :=
  ∀ (H : Heap) (locs : List Loc) (ls : Array Slot), xR D (xA h0 sz0) h H → H.size = sz → va_S (xA h0 sz0) s.heap H locs → lv_has ls nL lv → W p l e R s m args below meth c H locs cells slots (MQ below (xQ D dA h0 sz0 Post) args s mc ms (xA h0 sz0)) (F0 m pc ls st)
theorem x_open {l : Launch} {y : MethodName} {ws ws' : List Cond} {fr lo mc ms : Nat} {D : va_G} {dA : Nat → ClassId} {As : List Value} {h : xH} {sz : Nat} {Post : Option Value → xH → Nat → Prop} {cc : ByteArray} {maxL : Nat} {ret : Option FieldType} (hy : plainName y.cls = true) (hw : ws = Cond.code y cc maxL ret :: ws') (hn : (lg_sl As).length ≤ maxL)
    (body : ∀ (p : Program) (e : Env) (s : State) (m : MethodId) (args : Array Value) (below : List Frame) (meth : Method) (c : Code), xG p s m args meth c cc maxL ws y.cls ret D dA sz → (y.name = "<init>" → meth.name = "<init>") → xV p l e (headSpec ws { frames := fr, cells := mc, slots := ms, locals := lo }).room s m args below meth c D dA maxL h sz mc ms Post 0 0 0 (lv_args 0 As) [] h sz) : xMet l y ws fr lo mc ms D dA As h sz Post := by
  refine Met.ofW (cc := cc) (maxL := maxL) (ret := ret) hy hw ?_
  intro p e s m args below meth c s₁ B hml hv
  obtain ⟨rfl, hsz, hR, hK, hN⟩ := hv
  have hown : s.vm.findClass y.cls = some m.cls := findClass_of_methodNamed B.named
  have hl := lv_entry As (n := maxL) hn
  rw [lg_entry_eq]
  exact body p e s m _ below meth c ⟨B.exec, B.bytes, hml, hown, atoms_spec (ws := ws) B.pre, hK, B.notSynchronized, hsz, hN, B.returns⟩ (fun hi => (name_of_methodNamed B.named B.method).1.trans hi) s.heap [] _ (xR_weak hR fun a k => Or.inl k) hsz va_S.rf hl
