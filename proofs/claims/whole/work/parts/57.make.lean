/-! ## What the class makes: objects, arrays of arrays, arrays of States; calls of constructors -/
def x_many (h : xH) (a N : Nat) (e : va_E) : xH := fun q => if a ≤ q ∧ q < a + N then some e else h q
theorem xm_in {h : xH} {a N q : Nat} {e : va_E} (h1 : a ≤ q) (h2 : q < a + N) : x_many h a N e q = some e := if_pos ⟨h1, h2⟩
theorem xm_out {h : xH} {a N q : Nat} {e : va_E} (h1 : q < a ∨ a + N ≤ q) : x_many h a N e q = h q := if_neg (by omega)
theorem xm_0 {h : xH} {a : Nat} {e : va_E} : x_many h a 0 e = h := by
  funext q
  exact if_neg (by omega)
theorem xm_s {h : xH} {a N : Nat} {e : va_E} : x_many h a (N + 1) e = x_up (x_many h a N e) (a + N) e := by
  funext q
  unfold x_many x_up
  by_cases z : q = a + N
  · rw [if_pos z, if_pos (by omega)]
  · rw [if_neg z]
    dsimp only
    by_cases y : a ≤ q ∧ q < a + N
    · rw [if_pos (show a ≤ q ∧ q < a + (N + 1) by omega), if_pos y]
    · rw [if_neg (show ¬ (a ≤ q ∧ q < a + (N + 1)) by omega), if_neg y]
theorem xF_many {lo hi a N : Nat} {e : va_E} {h h1 : xH} (k : xF lo hi h h1) (h2 : lo ≤ a) (h3 : a + N ≤ hi) : xF lo hi h (x_many h1 a N e) := fun q j => (xm_out (by omega)).trans (k q j)
theorem xR_many {D : va_G} {A : Nat → Prop} {h : xH} {H1 : Heap} {sz : Nat} {c : ClassId} {x : vp_A} (r : xR D A h (H1.extract 0 sz)) (hA : ∀ q, sz ≤ q → A q) : ∀ N : Nat, sz + N ≤ H1.size → (∀ j, j < N → H1[sz + j]? = some (vp_cell c x)) → xR D A (x_many h sz N (.inl (c, x))) (H1.extract 0 (sz + N))
  | 0 => fun _ _ => by
    rw [xm_0]
    exact r
  | N + 1 => fun h1 h2 => by
    have ih := xR_many r hA N (by omega) (fun j hj => h2 j (by omega))
    rw [xm_s]
    refine xR_new ih (by rw [Array.size_extract]; omega) (hA _ (by omega)) ?_ (fun q hq => ?_)
    · show (H1.extract 0 (sz + (N + 1)))[sz + N]? = some (vp_cell c x)
      rw [Array.getElem?_extract, if_pos (by omega), Nat.zero_add]
      exact h2 N (by omega)
    · rw [Array.getElem?_extract, Array.getElem?_extract, if_pos (by omega), if_pos (by omega)]
section XO
variable {p : Program} {l : Launch} {e : Env} {R : Room} {s : State} {m : MethodId} {args : Array Value} {below : List Frame} {meth : Method} {c : Code} {D : va_G} {dA : Nat → ClassId} {nL : Nat} {h0 : xH} {sz0 mc ms : Nat} {Post : Option Value → xH → Nat → Prop} {cells slots pc : Nat} {lv : List (Nat × Value)} {st : List Value} {h : xH} {sz : Nat} {cc : ByteArray} {Ts : List Cond} {own : String} {ret : Option FieldType}
variable {y : MethodName} {ws ws' : List Cond} {bytes : ByteArray} {maxL i n fr lo mc1 ms1 : Nat} {As rest : List Value} {Post1 : Option Value → xH → Nat → Prop}
theorem x_newO (G : xG p s m args meth c cc nL Ts own ret D dA sz0) {ci N sz1 : Nat} {C : String} {T : u_T} {ty : Nat → FieldType} {fs : List Value} (K : xC ci C T N ty) (hin : ∀ w ∈ u_ws C T N, w ∈ Ts) (hs1 : sz + 1 = sz1) (hcl : Cond.classLink own i C ∈ Ts) (hinst : Cond.instantiable C N ∈ Ts) (hini : Cond.initialized C ∈ Ts) (hd : decode cc pc = .ok (.new i, 3)) (hfs : ∀ j, j < N → defaultValue (ty j) = vp_V fs j) (hc : cells + 1 ≤ R.cells) (hs : slots + N ≤ R.slots) (kk : xV p l e R s m args below meth c D dA nL h0 sz0 mc ms Post (cells + 1) (slots + N) (pc + 3) lv (.ref sz :: st) (x_up h sz (.inr (ci, fs))) sz1) : xV p l e R s m args below meth c D dA nL h0 sz0 mc ms Post cells slots pc lv st h sz := fun H locs ls hR hz hS hv => by
  obtain ⟨hx, hb', hml, hown, hts, hK, hlocks, hsz, hNn, hr⟩ := G
  have hKn := hK.1 ci _ K.1
  refine W.newcK hx hb' hown (hts _ hcl) (hts _ hinst) (hts _ hini) rfl hd hc hs hKn.2.1 hz fun H1 kC hkC e1 z1 o1 => ?_
  have hg := hS.1
  exact kk H1 locs ls (xR_new hR hz (Or.inr (by omega)) ⟨_, K.1, (u_born ty hts hin hKn hkC e1 K.2.1).to hfs⟩ o1) (z1.trans hs1) ⟨by omega, fun x g1 g2 => (o1 x (by omega)).trans (hS.2.1 x g1 g2), hS.2.2⟩ hv
theorem x_callI (G : xG p s m args meth c cc nL Ts own ret D dA sz0) {b : Nat} (hM : xMet l y ws fr lo mc1 ms1 D dA (.ref b :: As) h sz Post1) (hg : GoodIn Ts ws) (hw : ws = Cond.code y bytes maxL none :: ws') (hini : Cond.initialized y.cls ∈ Ts) (hl : Cond.methodLink own i y ∈ Ts) (hin : Cond.instanceMethod y ∈ Ts) (hy1 : y.name = "<init>")
    (hy : y.cls ≠ "java/lang/invoke/MethodHandle" ∧ y.cls ≠ "java/lang/invoke/VarHandle" ∧ (parseMethodDescriptor y.desc).map (fun d => d.parameters.length) = some n) (hRm : fr + 1 ≤ R.frames ∧ 8 + (maxL + 11) + lo ≤ R.locals)
    (hd : decode cc pc = .ok (.invokespecial i, 3)) (hn : As.length = n) (hst : st = As.reverse ++ .ref b :: rest) (hcat : (rest.map fun v => v.category).sum ≤ 8) (hcl : cells + mc1 ≤ R.cells ∧ slots + ms1 ≤ R.slots)
    (kk : ∀ (r : Option Value) (h1 : xH) (sz1 : Nat), Post1 r h1 sz1 → xV p l e R s m args below meth c D dA nL h0 sz0 mc ms Post (cells + mc1) (slots + ms1) (pc + 3) lv (r.toList ++ rest) h1 sz1) :
    xV p l e R s m args below meth c D dA nL h0 sz0 mc ms Post cells slots pc lv st h sz := fun H locs ls hR hz hS hv =>
  x_ran G hR hz hS hv (va_runI (As := As) (rest := rest) ⟨G.1, G.2.1, G.2.2.1, G.2.2.2.1, G.2.2.2.2.1⟩ hM (cwI n G.2.2.2.2.1 hg hw rfl rfl (G.2.2.2.2.1 _ hini) (G.2.2.2.2.1 _ hl) (G.2.2.2.2.1 _ hin) hy1 hy hRm) ⟨x_blind, fun U hU hW => ⟨rfl, by rw [hU]; exact hz, by rw [hU]; exact xR_weak hR (fun _ _ => trivial), va_K.moved hW.alike G.2.2.2.2.2.1, xN_warm hW G.2.2.2.2.2.2.2.2.1⟩⟩ rfl hn hv.1 hst (lv_room hcat) hd hcl) kk
theorem x_callIN (G : xG p s m args meth c cc nL Ts own ret D dA sz0) {b : Nat} {host : String} (hM : xMet l y ws fr lo mc1 ms1 D dA (.ref b :: As) h sz Post1) (hg : GoodIn Ts ws) (hw : ws = Cond.code y bytes maxL none :: ws') (hini : Cond.initialized y.cls ∈ Ts) (hl : va_Nw (.methodLinkNest own i y host) s) (hin : Cond.instanceMethod y ∈ Ts) (hy1 : y.name = "<init>")
    (hy : y.cls ≠ "java/lang/invoke/MethodHandle" ∧ y.cls ≠ "java/lang/invoke/VarHandle" ∧ (parseMethodDescriptor y.desc).map (fun d => d.parameters.length) = some n) (hRm : fr + 1 ≤ R.frames ∧ 8 + (maxL + 11) + lo ≤ R.locals)
    (hd : decode cc pc = .ok (.invokespecial i, 3)) (hn : As.length = n) (hst : st = As.reverse ++ .ref b :: rest) (hcat : (rest.map fun v => v.category).sum ≤ 8) (hcl : cells + mc1 ≤ R.cells ∧ slots + ms1 ≤ R.slots)
    (kk : ∀ (r : Option Value) (h1 : xH) (sz1 : Nat), Post1 r h1 sz1 → xV p l e R s m args below meth c D dA nL h0 sz0 mc ms Post (cells + mc1) (slots + ms1) (pc + 3) lv (r.toList ++ rest) h1 sz1) :
    xV p l e R s m args below meth c D dA nL h0 sz0 mc ms Post cells slots pc lv st h sz := fun H locs ls hR hz hS hv =>
  x_ran G hR hz hS hv (va_runIN (As := As) (rest := rest) ⟨G.1, G.2.1, G.2.2.1, G.2.2.2.1, G.2.2.2.2.1⟩ hM ⟨va_cnB n G.2.2.2.2.1 hg hw rfl rfl hl (G.2.2.2.2.1 _ hini) hy hRm, hy1, G.2.2.2.2.1 _ hin⟩ ⟨x_blind, fun U hU hW => ⟨rfl, by rw [hU]; exact hz, by rw [hU]; exact xR_weak hR (fun _ _ => trivial), va_K.moved hW.alike G.2.2.2.2.2.1, xN_warm hW G.2.2.2.2.2.2.2.2.1⟩⟩ rfl hn hv.1 hst (lv_room hcat) hd hcl) kk
theorem x_newq (G : xG p s m args meth c cc nL Ts own ret D dA sz0) {k : Int32} {N sz1 : Nat} (hs1 : sz + 1 = sz1) (hcl : Cond.classLink own i "UnitVectors$State" ∈ Ts) (hd : decode cc pc = .ok (.anewarray i, 3)) (hn : ¬ k < 0) (hN : k.toNatClampNeg = N) (hb : N * 4 ≤ 536870912) (hc : cells + 1 ≤ R.cells) (hs : slots + N ≤ R.slots) (kk : xV p l e R s m args below meth c D dA nL h0 sz0 mc ms Post (cells + 1) (slots + N) (pc + 3) lv (.ref sz :: st) (x_up h sz (.inl (dA 3, N, .inr (.inr (.inr (.inr (fun _ => none))))))) sz1) : xV p l e R s m args below meth c D dA nL h0 sz0 mc ms Post cells slots pc lv (.int k :: st) h sz := fun H locs ls hR hz hS hv => by
  obtain ⟨hx, hb', hml, hown, hts, hK, hlocks, hsz, hNn, hr⟩ := G
  subst hN
  subst hz
  refine W.anew hx hb' hown (hts _ hcl) (va_AO.use (hNn _ (by simp [xNw]))) rfl hd rfl hn hb hc hs fun cA kA comp f1 f2 f3 f4 => ?_
  obtain ⟨k3, c3, g1, g2, g3, g4⟩ := (hK.2 3 _ rfl).2
  have e3 : cA = dA 3 := Option.some.inj (f1.symm.trans g4)
  subst e3
  generalize hH1 : H.push ({ cls := dA 3, slots := Array.replicate k.toNatClampNeg .null, vm := .none } : Cell) = H1
  have z1 : H1.size = H.size + 1 := by rw [← hH1, Array.size_push]
  have e1 : H1[H.size]? = some (arrV (dA 3) k.toNatClampNeg (fun _ => .null)) := by rw [← hH1, Array.getElem?_push_size, ← arrV_new]
  have o1 : ∀ q : Nat, q < H.size → H1[q]? = H[q]? := fun q hq => by rw [← hH1, Array.getElem?_push, if_neg (Nat.ne_of_lt hq)]
  have hg := hS.1
  exact kk H1 locs ls (xR_new hR rfl (Or.inr (by omega)) (by show H1[H.size]? = some (vp_cell _ _); rw [e1, vp_cell_q]; rfl) o1) (z1.trans hs1) ⟨by omega, fun x g1 g2 => (o1 x (by omega)).trans (hS.2.1 x g1 g2), hS.2.2⟩ hv
theorem x_aasq (G : xG p s m args meth c cc nL Ts own ret D dA sz0) {a N k v : Nat} {f : Nat → Option Nat} {vs : List Value} (hd : decode cc pc = .ok (.aastore, 1)) (ha : h a = some (.inl (dA 3, N, .inr (.inr (.inr (.inr f)))))) (hy : h v = some (.inr (3, vs))) (hk : k < N) (hn : N < 2 ^ 31) (kk : xV p l e R s m args below meth c D dA nL h0 sz0 mc ms Post cells slots (pc + 1) lv st (x_up h a (.inl (dA 3, N, .inr (.inr (.inr (.inr (va_up f k (some v)))))))) sz) : xV p l e R s m args below meth c D dA nL h0 sz0 mc ms Post cells slots pc lv (.ref v :: .int (nI k) :: .ref a :: st) h sz := fun H locs ls hR hz hS hv => by
  have hi : vp_in (nI k) N := vp_in_nI hk hn
  have ek : (nI k).toNatClampNeg = k := nI_clamp (Nat.lt_trans hk hn)
  have h0i : ¬ nI k < 0 := fun q => hi (Or.inl q)
  have hP1 : va_at D vwCl (a, .inl (dA 3, N, .inr (.inr (.inr (.inr f))))) H := xR_at hR ha
  have hK := G.2.2.2.2.2.1
  obtain ⟨r', hr', cellV, g1, g2, g3, -⟩ := xR_at hR hy
  have hcls := (hK.1 3 _ kX3.1).2
  obtain ⟨kA, comp, k1, k2, k3, -⟩ := (hK.2 3 _ rfl).2
  have hcomp : comp = D.1 3 := Option.some.inj (k3.symm.trans hcls.1)
  subst hcomp
  obtain ⟨kC, hkC, -⟩ := hcls.2
  refine W.aast (cell := vp_cell (dA 3) (N, .inr (.inr (.inr (.inr f))))) G.1 G.2.1 hP1 (fun q z => by cases z) (fun z => by cases z) k1 k2 rfl hkC ⟨h0i, by show _ < (arrV _ _ _).slots.size; rw [arrV_size, ek]; exact hk⟩ g1 (fun q z => by rw [g3] at z; cases z) (by rw [g2]; exact hkC) (by rw [g2]; exact asg_self s.vm _) rfl rfl hd fun H1 e z oq => ?_
  refine kk H1 _ ls (xR_put hR ha ?_ oq) (z.trans hz) (hS.put z oq (xR_some hR ha)) hv
  show H1[a]? = some (vp_cell _ _)
  rw [e, ek]
  rw [vp_cell_q, vp_cell_q, arrV_store]
  congr 2
  funext q
  by_cases hq : q = k
  · subst hq
    simp [updV, va_up, va_rf]
  · simp [updV, va_up, hq]
theorem x_mnaI (G : xG p s m args meth c cc nL Ts own ret D dA sz0) {j k : Int32} {N K sz1 : Nat} (hs1 : sz + 1 + N = sz1) (hcl : Cond.classLink own i ("[" ++ (FieldType.array .int).toString) ∈ Ts) (harr : Cond.arrayClass .int ∈ Ts) (hd : decode cc pc = .ok (.multianewarray i 2, 4)) (hj : ¬ j < 0) (hk : ¬ k < 0) (hN : j.toNatClampNeg = N) (hK9 : k.toNatClampNeg = K) (hb1 : N * 4 ≤ 536870912) (hb2 : K * componentBytes .int ≤ 536870912) (hb3 : K ≤ 536870912) (hc : cells + (1 + N) ≤ R.cells) (hs : slots + (N + N * K) ≤ R.slots) (hz9 : ∀ c : ClassId, Jvm.Free.Multi.innerC c K (defaultValue .int) = vp_cell c (K, .inl (fun _ => 0))) (kk : xV p l e R s m args below meth c D dA nL h0 sz0 mc ms Post (cells + 1 + N) (slots + N + N * K) (pc + 4) lv (.ref sz :: st) (x_many (x_up h sz (.inl (dA 4, N, .inr (.inr (.inr (.inr (fun q => if q < N then some (sz + 1 + q) else none))))))) (sz + 1) N (.inl (dA 0, K, .inl (fun _ => 0)))) sz1) : xV p l e R s m args below meth c D dA nL h0 sz0 mc ms Post cells slots pc lv (.int k :: .int j :: st) h sz := fun H locs ls hR hz hS hv => by
  obtain ⟨hx, hb', hml, hown, hts, hK, hlocks, hsz, hNn, hr⟩ := G
  subst hN
  subst hK9
  subst hz
  intro T hT Xs
  have hover : va_AOA .int s := hNn _ (by simp [xNw])
  obtain ⟨vm₁, cA, comp, -, fA, fC, hO, -, X', step⟩ := Xs.multianewarray2F hx hown (hts _ hcl) (va_AOA.use hover) (hts _ harr) (g := F0 m pc ls (.int k :: .int j :: st)) rfl (by rw [hb']; exact hd) rfl hj hk hb1 hb2 hb3 rfl rfl hc hs
  have e5 : cA = dA 4 := Option.some.inj (fA.symm.trans (hK.2 4 _ rfl).2)
  have e1 : comp = dA 0 := Option.some.inj (fC.symm.trans (hK.2 0 _ rfl).2)
  subst e5
  subst e1
  generalize hF : Jvm.Free.Multi.fill (T.setVm vm₁) (dA 4) (dA 0) j.toNatClampNeg k.toNatClampNeg (defaultValue .int) j.toNatClampNeg = F at X' step
  have hTh : (T.setVm vm₁).heap = H := hT
  obtain ⟨f1, f2, -, -⟩ := Jvm.Free.Multi.fill_facts (T.setVm vm₁) (dA 4) (dA 0) j.toNatClampNeg k.toNatClampNeg (defaultValue .int) j.toNatClampNeg
  rw [hF, hTh] at f1 f2
  have hold : ∀ x : Nat, x < H.size → F.heap[x]? = H[x]? := fun x hx => by
    have := Jvm.Free.Multi.fill_old (T.setVm vm₁) (dA 4) (dA 0) j.toNatClampNeg k.toNatClampNeg (defaultValue .int) (a := x) (by rw [hTh]; exact hx) j.toNatClampNeg
    rw [hF, hTh] at this
    exact this
  have hrow : ∀ q : Nat, q < j.toNatClampNeg → F.heap[H.size + 1 + q]? = some (vp_cell (dA 0) (k.toNatClampNeg, .inl (fun _ => 0))) := fun q hq => by
    have := Jvm.Free.Multi.fill_inner (T.setVm vm₁) (dA 4) (dA 0) j.toNatClampNeg k.toNatClampNeg (defaultValue .int) j.toNatClampNeg q hq
    rw [hF, hTh, hz9] at this
    exact this
  have hout : Jvm.Free.Multi.outerC (dA 4) j.toNatClampNeg H.size j.toNatClampNeg = vp_cell (dA 4) (j.toNatClampNeg, .inr (.inr (.inr (.inr (fun q => if q < j.toNatClampNeg then some (H.size + 1 + q) else none))))) := by
    rw [vp_cell_q]
    exact vr_outer (dA 4) j.toNatClampNeg H.size j.toNatClampNeg
  rw [hout] at f2
  have hg := hS.1
  have hA : ∀ q, H.size ≤ q → xA h0 sz0 q := fun q hq => Or.inr (by omega)
  have hlt : ∀ a, (h a).isSome = true → a < H.size := fun a ha => by
    obtain ⟨L, g1, g2, g3⟩ := hR
    obtain ⟨q9, hq9⟩ := va_pl_get (X := []) (f := x_f h) ((g1 a).mpr ha)
    exact (g3 q9 _ hq9).lt
  have r0 : xR D (xA h0 sz0) h (F.heap.extract 0 H.size) := xR_kept hR fun a ha => by
    rw [Array.getElem?_extract, if_pos (by have := hlt a ha; omega), Nat.zero_add]
    exact hold a (hlt a ha)
  have r1 : xR D (xA h0 sz0) (x_up h H.size (.inl (dA 4, j.toNatClampNeg, .inr (.inr (.inr (.inr (fun q => if q < j.toNatClampNeg then some (H.size + 1 + q) else none))))))) (F.heap.extract 0 (H.size + 1)) := by
    refine xR_new r0 (by rw [Array.size_extract]; omega) (hA _ (Nat.le_refl _)) ?_ (fun q hq => ?_)
    · show (F.heap.extract 0 (H.size + 1))[H.size]? = some (vp_cell _ _)
      rw [Array.getElem?_extract, if_pos (by omega), Nat.zero_add]
      exact f2
    · rw [Array.getElem?_extract, Array.getElem?_extract, if_pos (by omega), if_pos (by omega)]
  have r2 := xR_many r1 (fun q hq => hA q (by omega)) j.toNatClampNeg (by omega) hrow
  have r3 := xR_kept (H1 := F.heap) r2 (fun a ha => by
    have hl : a < H.size + 1 + j.toNatClampNeg := by
      rcases Nat.lt_or_ge a (H.size + 1 + j.toNatClampNeg) with z | z
      · exact z
      · rw [xm_out (by omega), x_up_ne (by omega)] at ha
        have := hlt a ha
        omega
    rw [Array.getElem?_extract, if_pos (by omega), Nat.zero_add])
  obtain ⟨t, a1, b1⟩ := kk F.heap locs ls r3 (by omega) ⟨by omega, fun x h1 h2 => (hold x (by omega)).trans (hS.2.1 x h1 h2), hS.2.2⟩ hv F rfl X'
  refine ⟨t, step t ?_, b1⟩
  have e : T.heap.size = H.size := by rw [hT]
  rw [e]
  exact a1
theorem x_mnaL (G : xG p s m args meth c cc nL Ts own ret D dA sz0) {j k : Int32} {N K sz1 : Nat} (hs1 : sz + 1 + N = sz1) (hcl : Cond.classLink own i ("[" ++ (FieldType.array .long).toString) ∈ Ts) (harr : Cond.arrayClass .long ∈ Ts) (hd : decode cc pc = .ok (.multianewarray i 2, 4)) (hj : ¬ j < 0) (hk : ¬ k < 0) (hN : j.toNatClampNeg = N) (hK9 : k.toNatClampNeg = K) (hb1 : N * 4 ≤ 536870912) (hb2 : K * componentBytes .long ≤ 536870912) (hb3 : K ≤ 536870912) (hc : cells + (1 + N) ≤ R.cells) (hs : slots + (N + N * K) ≤ R.slots) (hz9 : ∀ c : ClassId, Jvm.Free.Multi.innerC c K (defaultValue .long) = vp_cell c (K, .inr (.inl (fun _ => 0)))) (kk : xV p l e R s m args below meth c D dA nL h0 sz0 mc ms Post (cells + 1 + N) (slots + N + N * K) (pc + 4) lv (.ref sz :: st) (x_many (x_up h sz (.inl (dA 5, N, .inr (.inr (.inr (.inr (fun q => if q < N then some (sz + 1 + q) else none))))))) (sz + 1) N (.inl (dA 1, K, .inr (.inl (fun _ => 0))))) sz1) : xV p l e R s m args below meth c D dA nL h0 sz0 mc ms Post cells slots pc lv (.int k :: .int j :: st) h sz := fun H locs ls hR hz hS hv => by
  obtain ⟨hx, hb', hml, hown, hts, hK, hlocks, hsz, hNn, hr⟩ := G
  subst hN
  subst hK9
  subst hz
  intro T hT Xs
  have hover : va_AOA .long s := hNn _ (by simp [xNw])
  obtain ⟨vm₁, cA, comp, -, fA, fC, hO, -, X', step⟩ := Xs.multianewarray2F hx hown (hts _ hcl) (va_AOA.use hover) (hts _ harr) (g := F0 m pc ls (.int k :: .int j :: st)) rfl (by rw [hb']; exact hd) rfl hj hk hb1 hb2 hb3 rfl rfl hc hs
  have e5 : cA = dA 5 := Option.some.inj (fA.symm.trans (hK.2 5 _ rfl).2)
  have e1 : comp = dA 1 := Option.some.inj (fC.symm.trans (hK.2 1 _ rfl).2)
  subst e5
  subst e1
  generalize hF : Jvm.Free.Multi.fill (T.setVm vm₁) (dA 5) (dA 1) j.toNatClampNeg k.toNatClampNeg (defaultValue .long) j.toNatClampNeg = F at X' step
  have hTh : (T.setVm vm₁).heap = H := hT
  obtain ⟨f1, f2, -, -⟩ := Jvm.Free.Multi.fill_facts (T.setVm vm₁) (dA 5) (dA 1) j.toNatClampNeg k.toNatClampNeg (defaultValue .long) j.toNatClampNeg
  rw [hF, hTh] at f1 f2
  have hold : ∀ x : Nat, x < H.size → F.heap[x]? = H[x]? := fun x hx => by
    have := Jvm.Free.Multi.fill_old (T.setVm vm₁) (dA 5) (dA 1) j.toNatClampNeg k.toNatClampNeg (defaultValue .long) (a := x) (by rw [hTh]; exact hx) j.toNatClampNeg
    rw [hF, hTh] at this
    exact this
  have hrow : ∀ q : Nat, q < j.toNatClampNeg → F.heap[H.size + 1 + q]? = some (vp_cell (dA 1) (k.toNatClampNeg, .inr (.inl (fun _ => 0)))) := fun q hq => by
    have := Jvm.Free.Multi.fill_inner (T.setVm vm₁) (dA 5) (dA 1) j.toNatClampNeg k.toNatClampNeg (defaultValue .long) j.toNatClampNeg q hq
    rw [hF, hTh, hz9] at this
    exact this
  have hout : Jvm.Free.Multi.outerC (dA 5) j.toNatClampNeg H.size j.toNatClampNeg = vp_cell (dA 5) (j.toNatClampNeg, .inr (.inr (.inr (.inr (fun q => if q < j.toNatClampNeg then some (H.size + 1 + q) else none))))) := by
    rw [vp_cell_q]
    exact vr_outer (dA 5) j.toNatClampNeg H.size j.toNatClampNeg
  rw [hout] at f2
  have hg := hS.1
  have hA : ∀ q, H.size ≤ q → xA h0 sz0 q := fun q hq => Or.inr (by omega)
  have hlt : ∀ a, (h a).isSome = true → a < H.size := fun a ha => by
    obtain ⟨L, g1, g2, g3⟩ := hR
    obtain ⟨q9, hq9⟩ := va_pl_get (X := []) (f := x_f h) ((g1 a).mpr ha)
    exact (g3 q9 _ hq9).lt
  have r0 : xR D (xA h0 sz0) h (F.heap.extract 0 H.size) := xR_kept hR fun a ha => by
    rw [Array.getElem?_extract, if_pos (by have := hlt a ha; omega), Nat.zero_add]
    exact hold a (hlt a ha)
  have r1 : xR D (xA h0 sz0) (x_up h H.size (.inl (dA 5, j.toNatClampNeg, .inr (.inr (.inr (.inr (fun q => if q < j.toNatClampNeg then some (H.size + 1 + q) else none))))))) (F.heap.extract 0 (H.size + 1)) := by
    refine xR_new r0 (by rw [Array.size_extract]; omega) (hA _ (Nat.le_refl _)) ?_ (fun q hq => ?_)
    · show (F.heap.extract 0 (H.size + 1))[H.size]? = some (vp_cell _ _)
      rw [Array.getElem?_extract, if_pos (by omega), Nat.zero_add]
      exact f2
    · rw [Array.getElem?_extract, Array.getElem?_extract, if_pos (by omega), if_pos (by omega)]
  have r2 := xR_many r1 (fun q hq => hA q (by omega)) j.toNatClampNeg (by omega) hrow
  have r3 := xR_kept (H1 := F.heap) r2 (fun a ha => by
    have hl : a < H.size + 1 + j.toNatClampNeg := by
      rcases Nat.lt_or_ge a (H.size + 1 + j.toNatClampNeg) with z | z
      · exact z
      · rw [xm_out (by omega), x_up_ne (by omega)] at ha
        have := hlt a ha
        omega
    rw [Array.getElem?_extract, if_pos (by omega), Nat.zero_add])
  obtain ⟨t, a1, b1⟩ := kk F.heap locs ls r3 (by omega) ⟨by omega, fun x h1 h2 => (hold x (by omega)).trans (hS.2.1 x h1 h2), hS.2.2⟩ hv F rfl X'
  refine ⟨t, step t ?_, b1⟩
  have e : T.heap.size = H.size := by rw [hT]
  rw [e]
  exact a1
end XO
