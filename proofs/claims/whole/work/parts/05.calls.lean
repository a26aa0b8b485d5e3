/-! ## Calls, a row a kind -/
theorem x_blind {D : va_G} {dA : Nat → ClassId} {A : Nat → Prop} {h : xH} {sz : Nat} {As : List Value} : FrameBlind (va_Pc As (xPre D dA A h sz)) := fun a U g mk q => by
  obtain ⟨q0, q1, qR, qK, qN⟩ := q
  exact ⟨q0, q1, qR, va_K.moved (u := U) (U := U.calling g mk a) (Vm.Alike.refl U.vm) qK, xN_same (s := U) (U := U.calling g mk a) rfl qN⟩
section XC
variable {p : Program} {l : Launch} {e : Env} {R : Room} {s : State} {m : MethodId} {args : Array Value} {below : List Frame} {meth : Method} {c : Code} {D : va_G} {dA : Nat → ClassId} {nL : Nat} {h0 : xH} {sz0 mc ms : Nat} {Post : Option Value → xH → Nat → Prop} {cells slots pc : Nat} {lv : List (Nat × Value)} {st : List Value} {h : xH} {sz : Nat} {cc : ByteArray} {Ts : List Cond} {own : String} {ret : Option FieldType}
variable {y : MethodName} {ws ws' : List Cond} {bytes : ByteArray} {maxL i n fr lo mc1 ms1 : Nat} {ret1 : Option FieldType} {As rest : List Value} {Post1 : Option Value → xH → Nat → Prop}
/-- behind a call -/
theorem x_ran {H : Heap} {locs : List Loc} {ls : Array Slot} {a : Array Value} (G : xG p s m args meth c cc nL Ts own ret D dA sz0) (hR : xR D (xA h0 sz0) h H) (hz : H.size = sz) (hS : va_S (xA h0 sz0) s.heap H locs) (hv : lv_has ls nL lv)
    (run : va_Run p l e R s m args below meth c H locs cells slots mc1 ms1 (F0 m pc ls st) rest (xQ D dA h sz Post1 a) (xA h sz))
    (kk : ∀ (r : Option Value) (h1 : xH) (sz1 : Nat), Post1 r h1 sz1 → xV p l e R s m args below meth c D dA nL h0 sz0 mc ms Post (cells + mc1) (slots + ms1) (pc + 3) lv (r.toList ++ rest) h1 sz1) :
    W p l e R s m args below meth c H locs cells slots (MQ below (xQ D dA h0 sz0 Post) args s mc ms (xA h0 sz0)) (F0 m pc ls st) := by
  have hsz : s.heap.size = sz0 := G.2.2.2.2.2.2.2.1
  have hA : ∀ q, xA h sz q → xA h0 sz0 q := fun q hq => by
    rcases hq with hq | hq
    · exact xR_in hR hq
    · exact Or.inr (by have := hS.1; omega)
  intro T hT X
  obtain ⟨v, st₀, t, T', L, g0, X', hL, e1, e2, ⟨⟨r, h1, sz1, hr, hp, q1, q2, q3, q4⟩, hz2, hk2⟩, stp⟩ := run T hT X
  cases hr
  rw [g0] at hz2 hk2
  obtain ⟨t2, a1, b1⟩ := kk v h1 sz1 hp T'.heap (locs ++ L) ls (xR_weak (by rw [e1]; exact q2) fun a ha => hA a (xR_in q2 ha)) (by rw [e1]; exact q1)
    ⟨Nat.le_trans hS.1 (by rw [e1]; exact hz2), fun q g1 g2 => by rw [e1, hk2 q (Nat.lt_of_lt_of_le g1 hS.1) (fun z => g2 (hA q z))]; exact hS.2.1 q g1 g2, fun q hq => by
      rcases List.mem_append.mp hq with g | g
      · exact hS.2.2 q g
      · exact hA _ (hL q g)⟩ hv T' rfl X'
  exact ⟨t2, stp t2 a1, b1⟩
theorem x_callV (G : xG p s m args meth c cc nL Ts own ret D dA sz0) {C : String} {ci b : Nat} {q : vw_C} {fs : List Value} (hM : xMet l y ws fr lo mc1 ms1 D dA (.ref b :: As) h sz Post1) (hg : GoodIn Ts (wsV own i C y ws)) (hw : ws = Cond.code y bytes maxL ret1 :: ws')
    (hy : y.cls = C ∧ y.cls ≠ "java/lang/invoke/MethodHandle" ∧ y.cls ≠ "java/lang/invoke/VarHandle" ∧ (parseMethodDescriptor y.desc).map (fun d => d.parameters.length) = some n) (hRm : fr + 1 ≤ R.frames ∧ 8 + (maxL + 11) + lo ≤ R.locals)
    (hc : vwCl[ci]? = some q) (hq : q.1 = C) (hb : h b = some (.inr (ci, fs))) (hd : decode cc pc = .ok (.invokevirtual i, 3)) (hn : As.length = n) (hst : st = As.reverse ++ .ref b :: rest) (hcat : (rest.map fun v => v.category).sum ≤ 8) (hcl : cells + mc1 ≤ R.cells ∧ slots + ms1 ≤ R.slots)
    (kk : ∀ (r : Option Value) (h1 : xH) (sz1 : Nat), Post1 r h1 sz1 → xV p l e R s m args below meth c D dA nL h0 sz0 mc ms Post (cells + mc1) (slots + ms1) (pc + 3) lv (r.toList ++ rest) h1 sz1) :
    xV p l e R s m args below meth c D dA nL h0 sz0 mc ms Post cells slots pc lv st h sz := fun H locs ls hR hz hS hv => by
  obtain ⟨L, j, -, -, hP, -, hj⟩ := xR_get hR hb
  refine x_ran G hR hz hS hv (va_runV (As := As) (rest := rest) (b := b) ⟨G.1, G.2.1, G.2.2.1, G.2.2.2.1, G.2.2.2.2.1⟩ hM (cwV n G.2.2.2.2.1 hg hw rfl rfl hy hRm) ⟨x_blind, ?_, fun U hU hW => ⟨rfl, by rw [hU]; exact hz, by rw [hU]; exact xR_weak hR (fun _ _ => trivial), va_K.moved hW.alike G.2.2.2.2.2.1, xN_warm hW G.2.2.2.2.2.2.2.2.1⟩⟩ rfl hn hv.1 hst (lv_room hcat) hd hcl) kk
  obtain ⟨cell, k1, k2, k3⟩ := va_recv G.2.2.2.2.2.1 hP hc hj
  exact ⟨cell, k1, k2, by rw [← hq]; exact k3⟩
theorem x_callS (G : xG p s m args meth c cc nL Ts own ret D dA sz0) (hM : xMet l y ws fr lo mc1 ms1 D dA As h sz Post1) (hg : GoodIn Ts (va_wsS own i y ws)) (hw : ws = Cond.code y bytes maxL ret1 :: ws')
    (hy : y.cls ≠ "java/lang/invoke/MethodHandle" ∧ y.cls ≠ "java/lang/invoke/VarHandle" ∧ (parseMethodDescriptor y.desc).map (fun d => d.parameters.length) = some n) (hRm : fr + 1 ≤ R.frames ∧ 8 + (maxL + 11) + lo ≤ R.locals)
    (hd : decode cc pc = .ok (.invokestatic i, 3)) (hn : As.length = n) (hst : st = As.reverse ++ rest) (hcat : (rest.map fun v => v.category).sum ≤ 8) (hcl : cells + mc1 ≤ R.cells ∧ slots + ms1 ≤ R.slots)
    (kk : ∀ (r : Option Value) (h1 : xH) (sz1 : Nat), Post1 r h1 sz1 → xV p l e R s m args below meth c D dA nL h0 sz0 mc ms Post (cells + mc1) (slots + ms1) (pc + 3) lv (r.toList ++ rest) h1 sz1) :
    xV p l e R s m args below meth c D dA nL h0 sz0 mc ms Post cells slots pc lv st h sz := fun H locs ls hR hz hS hv =>
  x_ran G hR hz hS hv (va_runS (As := As) (rest := rest) ⟨G.1, G.2.1, G.2.2.1, G.2.2.2.1, G.2.2.2.2.1⟩ hM (va_cwS n G.2.2.2.2.1 hg hw rfl rfl hy hRm) ⟨x_blind, fun U hU hW => ⟨rfl, by rw [hU]; exact hz, by rw [hU]; exact xR_weak hR (fun _ _ => trivial), va_K.moved hW.alike G.2.2.2.2.2.1, xN_warm hW G.2.2.2.2.2.2.2.2.1⟩⟩ rfl hn hv.1 hst (lv_room hcat) hd hcl) kk
theorem x_absl (G : xG p s m args meth c cc nL Ts own ret D dA sz0) {x : Int64} (hl : Cond.methodLink own i Lib.MathLoose.abs_long.x ∈ Ts) (hst : Cond.static Lib.MathLoose.abs_long.x ∈ Ts) (hini : Cond.initialized "java/lang/Math" ∈ Ts) (hco : Cond.code Lib.MathLoose.abs_long.x Lib.MathLoose.abs_long.code 2 (some .long) ∈ Ts) (hfr : 1 ≤ R.frames) (hlo : (st.map fun v => v.category).sum + 13 ≤ R.locals) (hcl : cells ≤ R.cells) (hsl : slots ≤ R.slots) (hd : decode cc pc = .ok (.invokestatic i, 3))
    (kk : xV p l e R s m args below meth c D dA nL h0 sz0 mc ms Post cells slots (pc + 3) lv (.long (if 0 < x then x else -x) :: st) h sz) : xV p l e R s m args below meth c D dA nL h0 sz0 mc ms Post cells slots pc lv (.long x :: st) h sz := fun H locs ls hR hz hS hv =>
  va_mabs_long G.1 G.2.1 (G.2.2.1.trans hv.1.symm) G.2.2.2.1 (G.2.2.2.2.1 _ hl) (G.2.2.2.2.1 _ hst) (G.2.2.2.2.1 _ hini) (G.2.2.2.2.1 _ hco) hfr hlo hcl hsl hd (kk H locs ls hR hz hS hv)
end XC
