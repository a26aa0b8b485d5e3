/-! ## The law: rows for its script, its end, the class's constructor -/
section XLaw
variable {p : Program} {l : Launch} {e : Env} {R : Room} {s : State} {m : MethodId} {args : Array Value} {below : List Frame} {meth : Method} {c : Code} {D : va_G} {dA : Nat → ClassId} {nL : Nat} {h0 : xH} {sz0 mc ms : Nat} {Post : Option Value → xH → Nat → Prop} {cells slots pc : Nat} {lv : List (Nat × Value)} {st : List Value} {h : xH} {sz : Nat} {cc : ByteArray} {Ts : List Cond} {own : String} {ret : Option FieldType}
variable {y : MethodName} {ws ws' : List Cond} {bytes : ByteArray} {maxL i n fr lo mc1 ms1 : Nat} {ret1 : Option FieldType} {As rest : List Value} {Post1 : Option Value → xH → Nat → Prop}
theorem x_wide {k q : Nat} (h1 : cells ≤ k) (h2 : slots ≤ q) (kk : xV p l e R s m args below meth c D dA nL h0 sz0 mc ms Post k q pc lv st h sz) : xV p l e R s m args below meth c D dA nL h0 sz0 mc ms Post cells slots pc lv st h sz := fun H locs ls hR hz hS hv => W.widen h1 h2 (kk H locs ls hR hz hS hv)
theorem x_out (G : xG p s m args meth c cc nL Ts own ret D dA sz0) {b : Nat} (hbl : b < s.heap.size) (hn : h0 b = none) : ¬ xA h0 sz0 b := fun q => by
  have hsz : s.heap.size = sz0 := G.2.2.2.2.2.2.2.1
  rcases q with q | q
  · rw [hn] at q
    cases q
  · omega
theorem x_slen (G : xG p s m args meth c cc nL Ts own ret D dA sz0) {b L : Nat} {xs : Nat → Int32} (hX : va_X b L xs s s.heap) (hbl : b < s.heap.size) (hn : h0 b = none) (hd : decode cc pc = .ok (.arraylength, 1)) (kk : xV p l e R s m args below meth c D dA nL h0 sz0 mc ms Post cells slots (pc + 1) lv (.int (nI L) :: st) h sz) : xV p l e R s m args below meth c D dA nL h0 sz0 mc ms Post cells slots pc lv (.ref b :: st) h sz := fun H locs ls hR hz hS hv => va_slen G.1 G.2.1 hX hbl (x_out G hbl hn) hS hd (kk H locs ls hR hz hS hv)
theorem x_sld (G : xG p s m args meth c cc nL Ts own ret D dA sz0) {b L k : Nat} {xs : Nat → Int32} (hX : va_X b L xs s s.heap) (hbl : b < s.heap.size) (hn : h0 b = none) (hk : k < L) (hL : L ≤ 2048) (hd : decode cc pc = .ok (.iaload, 1)) (kk : xV p l e R s m args below meth c D dA nL h0 sz0 mc ms Post cells slots (pc + 1) lv (.int (xs k) :: st) h sz) : xV p l e R s m args below meth c D dA nL h0 sz0 mc ms Post cells slots pc lv (.int (nI k) :: .ref b :: st) h sz := fun H locs ls hR hz hS hv => by
  have e1 : (nI k).toNatClampNeg = k := by
    show (nI k).toInt.toNat = k
    rw [nI_toInt (by omega)]
    omega
  refine va_sld G.1 G.2.1 hX hbl (x_out G hbl hn) hS ?_ hd ?_
  · intro q
    rcases q with q | q
    · exact nI_nn (by omega) q
    · rw [e1] at q
      omega
  · rw [e1]
    exact kk H locs ls hR hz hS hv
theorem x_blind2 {A : Nat → Prop} : FrameBlind (va_Pc As (fun U => xPre D dA A h sz U ∧ va_Nw xW1 U)) := fun a U g mk q => by
  obtain ⟨q0, ⟨q1, qR, qK, qN⟩, qW⟩ := q
  exact ⟨q0, ⟨q1, qR, va_K.moved (u := U) (U := U.calling g mk a) (Vm.Alike.refl U.vm) qK, xN_same (s := U) (U := U.calling g mk a) rfl qN⟩, va_Nw.same (u := U) (U := U.calling g mk a) rfl rfl qW⟩
theorem x_callI2 (G : xG p s m args meth c cc nL Ts own ret D dA sz0) {b : Nat} (hM : xMet2 l y ws fr lo mc1 ms1 D dA xW1 (.ref b :: As) h sz Post1) (hW1 : va_Nw xW1 s) (hg : GoodIn Ts ws) (hw : ws = Cond.code y bytes maxL none :: ws') (hini : Cond.initialized y.cls ∈ Ts) (hl : Cond.methodLink own i y ∈ Ts) (hin : Cond.instanceMethod y ∈ Ts) (hy1 : y.name = "<init>")
    (hy : y.cls ≠ "java/lang/invoke/MethodHandle" ∧ y.cls ≠ "java/lang/invoke/VarHandle" ∧ (parseMethodDescriptor y.desc).map (fun d => d.parameters.length) = some n) (hRm : fr + 1 ≤ R.frames ∧ 8 + (maxL + 11) + lo ≤ R.locals)
    (hd : decode cc pc = .ok (.invokespecial i, 3)) (hn : As.length = n) (hst : st = As.reverse ++ .ref b :: rest) (hcat : (rest.map fun v => v.category).sum ≤ 8) (hcl : cells + mc1 ≤ R.cells ∧ slots + ms1 ≤ R.slots)
    (kk : ∀ (r : Option Value) (h1 : xH) (sz1 : Nat), Post1 r h1 sz1 → xV p l e R s m args below meth c D dA nL h0 sz0 mc ms Post (cells + mc1) (slots + ms1) (pc + 3) lv (r.toList ++ rest) h1 sz1) :
    xV p l e R s m args below meth c D dA nL h0 sz0 mc ms Post cells slots pc lv st h sz := fun H locs ls hR hz hS hv =>
  x_ran G hR hz hS hv (va_runI (As := As) (rest := rest) ⟨G.1, G.2.1, G.2.2.1, G.2.2.2.1, G.2.2.2.2.1⟩ hM (cwI n G.2.2.2.2.1 hg hw rfl rfl (G.2.2.2.2.1 _ hini) (G.2.2.2.2.1 _ hl) (G.2.2.2.2.1 _ hin) hy1 hy hRm) ⟨x_blind2, fun U hU hW => ⟨rfl, ⟨by rw [hU]; exact hz, by rw [hU]; exact xR_weak hR (fun _ _ => trivial), va_K.moved hW.alike G.2.2.2.2.2.1, xN_warm hW G.2.2.2.2.2.2.2.2.1⟩, va_Nw.warmM hW hW1⟩⟩ rfl hn hv.1 hst (lv_room hcat) hd hcl) kk
end XLaw
theorem df_4 : ∀ j, j < 10 → defaultValue (tyX4 j) = vp_V [.null, .int 0, .int 0, .null, .null, .null, .null, .null, .null, .null] j := by
  intro j hj
  have : j = 0 ∨ j = 1 ∨ j = 2 ∨ j = 3 ∨ j = 4 ∨ j = 5 ∨ j = 6 ∨ j = 7 ∨ j = 8 ∨ j = 9 := by omega
  rcases this with e | e | e | e | e | e | e | e | e | e <;> subst e <;> rfl
theorem df_5 : ∀ j, j < 21 → defaultValue (tyX5 j) = vp_V [.null, .int 0, .int 0, .null, .null, .int 0, .long 0, .null, .null, .null, .int 0, .int 0, .int 0, .null, .null, .null, .null, .null, .int 0, .null, .null] j := by
  intro j hj
  have : j = 0 ∨ j = 1 ∨ j = 2 ∨ j = 3 ∨ j = 4 ∨ j = 5 ∨ j = 6 ∨ j = 7 ∨ j = 8 ∨ j = 9 ∨ j = 10 ∨ j = 11 ∨ j = 12 ∨ j = 13 ∨ j = 14 ∨ j = 15 ∨ j = 16 ∨ j = 17 ∨ j = 18 ∨ j = 19 ∨ j = 20 := by omega
  rcases this with e | e | e | e | e | e | e | e | e | e | e | e | e | e | e | e | e | e | e | e | e <;> subst e <;> rfl
/-- two new objects are alike -/
theorem ReH_new {dA : Nat → ClassId} {h : xH} {b : Nat} {x : rT} {pl : Int32} {rd : Nat → Int32} {ot : slT} {u : slT} {pl2 wr dp : Int32} {su wa fc po : Nat → Int32} (U : Uv dA h b (fun _ => 0) 0 (-1) x pl rd sT_0 (fun _ => sT_0) (fun _ => sT_0) 0 0 (sc u) ot) (M : MS dA h (b + 279) (fun _ => 0) 0 (-1) (in_s 69) (fun _ => 0) 0 0 (fun _ => 0) (fun _ => 0) (fun _ => 0) pl2 wr dp su wa fc po) : ReH dA h b := by
  refine ⟨fun _ => 0, 0, -1, fun _ _ => 0, fl_I (fun _ => 0) (nI 1) 4, fl_I (fun _ => 0) (nI 1) 4, 0, 0, fun _ => sT_0, fun _ => sT_0, 0, 0, sc u, in_s 69, fun _ => 0, fun _ => 0, fun _ => 0, fun _ => 0, ⟨x, pl, rd, 0, ot, U⟩, ⟨pl2, wr, dp, su, wa, fc, po, M⟩, by omega, fun i hi => by omega, ⟨rfl, by omega, fun k e hk => by omega, fun j hj => ?_, fun k hk => by omega, fun b _ => ⟨fun _ => 0, fun p hp => by cases hp⟩, fun j hj => ?_⟩, sc_N, ⟨by omega, by omega, fun k k1 k2 => by omega⟩, by decide, fun i _ => Or.inl ⟨rfl, rfl⟩⟩
  · have e1 : in_s 69 (61 + j) = nI 1 := if_pos (by omega)
    have e2 : in_s 69 (65 + j) = nI 1 := if_pos (by omega)
    have e3 : fl_I (fun _ => 0) (nI 1) 4 j = nI 1 := by
      unfold fl_I
      rw [if_pos hj]
    rw [e1, e2, e3]
    exact ⟨rfl, rfl⟩
  · have e1 : in_s 69 (61 + j) = nI 1 := if_pos (by omega)
    have e2 : in_s 69 (65 + j) = nI 1 := if_pos (by omega)
    rw [e1, e2]
    decide
