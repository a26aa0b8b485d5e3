/-! ## What is made: arrays, and the constructor of the reference -/
theorem xR_new {D : va_G} {A : Nat → Prop} {h : xH} {H H1 : Heap} {sz : Nat} {e : va_E} (r : xR D A h H) (hz : H.size = sz) (hA : A sz) (he : va_at D vwCl (sz, e) H1) (o : ∀ q, q < sz → H1[q]? = H[q]?) : xR D A (x_up h sz e) H1 := by
  obtain ⟨L, h1, h2, h3⟩ := r
  have hf : sz ∉ L := va_pl_fresh (X := []) h3 (by omega)
  have e0 : va_pl (L ++ [sz]) (x_f (x_up h sz e)) = va_pl L (x_f h) ++ [(sz, e)] := by
    rw [← x_fup]
    exact (va_pl_push hf).symm
  refine ⟨L ++ [sz], fun a => ?_, ?_, ?_⟩
  · unfold x_up
    rw [List.mem_append, List.mem_singleton]
    by_cases k : a = sz
    · rw [if_pos k]
      exact ⟨fun _ => rfl, fun _ => Or.inr k⟩
    · rw [if_neg k, ← h1 a]
      exact ⟨fun q => q.resolve_right k, Or.inl⟩
  · rw [e0]
    exact h2.push h3 hz.symm hA
  · rw [e0]
    refine (h3.kept fun k q hk => o q.1 (by rw [← hz]; exact (h3 k q hk).lt)).app fun k q hk => ?_
    have hz : k < 1 := (List.getElem?_eq_some_iff.mp hk).1
    rw [show k = 0 by omega] at hk
    cases hk
    exact he
section XM
variable {p : Program} {l : Launch} {e : Env} {R : Room} {s : State} {m : MethodId} {args : Array Value} {below : List Frame} {meth : Method} {c : Code} {D : va_G} {dA : Nat → ClassId} {nL : Nat} {h0 : xH} {sz0 mc ms : Nat} {Post : Option Value → xH → Nat → Prop} {cells slots pc : Nat} {lv : List (Nat × Value)} {st : List Value} {h : xH} {sz : Nat} {cc : ByteArray} {Ts : List Cond} {own : String} {ret : Option FieldType}
theorem x_newI (G : xG p s m args meth c cc nL Ts own ret D dA sz0) {n : Int32} {N sz1 : Nat} (hs1 : sz + 1 = sz1) (harr : Cond.arrayClass .int ∈ Ts) (hd : decode cc pc = .ok (.newarray .int, 2)) (hn : ¬ n < 0) (hN : n.toNatClampNeg = N) (hb : N * componentBytes .int ≤ 536870912) (hc : cells + 1 ≤ R.cells) (hs : slots + N ≤ R.slots) (kk : xV p l e R s m args below meth c D dA nL h0 sz0 mc ms Post (cells + 1) (slots + N) (pc + 2) lv (.ref sz :: st) (x_up h sz (.inl (dA 0, N, .inl (fun _ => 0)))) sz1) : xV p l e R s m args below meth c D dA nL h0 sz0 mc ms Post cells slots pc lv (.int n :: st) h sz := fun H locs ls hR hz hS hv => by
  obtain ⟨hx, hb', hml, hown, hts, hK, hlocks, hsz, hNn, hr⟩ := G
  refine va_newaK hx hb' (atype := .int) (hts _ harr) rfl hd rfl hn hN hb hc hs hz fun H1 cA e1 z1 o1 hAr hNm => ?_
  have hc0 : cA = dA 0 := Option.some.inj (hNm.symm.trans (hK.2 0 _ rfl).2)
  subst hc0
  have hg := hS.1
  exact kk H1 locs ls (xR_new hR hz (Or.inr (by omega)) e1 o1) (z1.trans hs1) ⟨by omega, fun x g1 g2 => (o1 x (by omega)).trans (hS.2.1 x g1 g2), hS.2.2⟩ hv
theorem x_newL (G : xG p s m args meth c cc nL Ts own ret D dA sz0) {n : Int32} {N sz1 : Nat} (hs1 : sz + 1 = sz1) (harr : Cond.arrayClass .long ∈ Ts) (hd : decode cc pc = .ok (.newarray .long, 2)) (hn : ¬ n < 0) (hN : n.toNatClampNeg = N) (hb : N * componentBytes .long ≤ 536870912) (hc : cells + 1 ≤ R.cells) (hs : slots + N ≤ R.slots) (kk : xV p l e R s m args below meth c D dA nL h0 sz0 mc ms Post (cells + 1) (slots + N) (pc + 2) lv (.ref sz :: st) (x_up h sz (.inl (dA 1, N, .inr (.inl (fun _ => 0))))) sz1) : xV p l e R s m args below meth c D dA nL h0 sz0 mc ms Post cells slots pc lv (.int n :: st) h sz := fun H locs ls hR hz hS hv => by
  obtain ⟨hx, hb', hml, hown, hts, hK, hlocks, hsz, hNn, hr⟩ := G
  refine va_newaK hx hb' (atype := .long) (hts _ harr) rfl hd rfl hn hN hb hc hs hz fun H1 cA e1 z1 o1 hAr hNm => ?_
  have hc0 : cA = dA 1 := Option.some.inj (hNm.symm.trans (hK.2 1 _ rfl).2)
  subst hc0
  have hg := hS.1
  exact kk H1 locs ls (xR_new hR hz (Or.inr (by omega)) e1 o1) (z1.trans hs1) ⟨by omega, fun x g1 g2 => (o1 x (by omega)).trans (hS.2.1 x g1 g2), hS.2.2⟩ hv
theorem x_newZ (G : xG p s m args meth c cc nL Ts own ret D dA sz0) {n : Int32} {N sz1 : Nat} (hs1 : sz + 1 = sz1) (harr : Cond.arrayClass .boolean ∈ Ts) (hd : decode cc pc = .ok (.newarray .boolean, 2)) (hn : ¬ n < 0) (hN : n.toNatClampNeg = N) (hb : N * componentBytes .boolean ≤ 536870912) (hc : cells + 1 ≤ R.cells) (hs : slots + N ≤ R.slots) (kk : xV p l e R s m args below meth c D dA nL h0 sz0 mc ms Post (cells + 1) (slots + N) (pc + 2) lv (.ref sz :: st) (x_up h sz (.inl (dA 2, N, .inl (fun _ => 0)))) sz1) : xV p l e R s m args below meth c D dA nL h0 sz0 mc ms Post cells slots pc lv (.int n :: st) h sz := fun H locs ls hR hz hS hv => by
  obtain ⟨hx, hb', hml, hown, hts, hK, hlocks, hsz, hNn, hr⟩ := G
  refine va_newaK hx hb' (atype := .boolean) (hts _ harr) rfl hd rfl hn hN hb hc hs hz fun H1 cA e1 z1 o1 hAr hNm => ?_
  have hc0 : cA = dA 2 := Option.some.inj (hNm.symm.trans (hK.2 2 _ rfl).2)
  subst hc0
  have hg := hS.1
  exact kk H1 locs ls (xR_new hR hz (Or.inr (by omega)) e1 o1) (z1.trans hs1) ⟨by omega, fun x g1 g2 => (o1 x (by omega)).trans (hS.2.1 x g1 g2), hS.2.2⟩ hv
theorem x_objI (G : xG p s m args meth c cc nL Ts own ret D dA sz0) {i a : Nat} (hl : Cond.methodLink own i objectInit ∈ Ts) (hi : Cond.instanceMethod objectInit ∈ Ts) (hco : Cond.code objectInit ⟨#[0xb1]⟩ 1 none ∈ Ts) (hd : decode cc pc = .ok (.invokespecial i, 3)) (hfr : 1 ≤ R.frames) (hlo : (st.map fun v => v.category).sum + 12 ≤ R.locals) (kk : xV p l e R s m args below meth c D dA nL h0 sz0 mc ms Post cells slots (pc + 3) lv st h sz) : xV p l e R s m args below meth c D dA nL h0 sz0 mc ms Post cells slots pc lv (.ref a :: st) h sz := fun H locs ls hR hz hS hv => by
  obtain ⟨hx, hb', hml, hown, hts, hK, hlocks, hsz, hNn, hr⟩ := G
  refine W.objInit hx hb' hown (hts _ hl) (hts _ hi) (hts _ hco) rfl (by rw [hml]; exact hv.1) rfl hd hfr (by show 2 * 0 + _ + 12 ≤ _; omega) ?_
  exact kk H locs ls hR hz hS hv
end XM
theorem inX5_init_5 : ∀ w ∈ wsX50, w ∈ wsX5_init := by decide +kernel
def in_s (j : Nat) : Nat → Int32 := fun k => if 61 ≤ k ∧ k < j then nI 1 else 0
theorem in_s0 : in_s 61 = fun _ => 0 := by
  funext k
  unfold in_s
  rw [if_neg (by omega)]
theorem in_ss {j : Nat} (h : 61 ≤ j) : upd (in_s j) j (nI 1) = in_s (j + 1) := by
  funext k
  unfold upd in_s
  by_cases e : k = j
  · rw [if_pos e, if_pos (by omega)]
  · rw [if_neg e]
    by_cases e2 : 61 ≤ k ∧ k < j
    · rw [if_pos e2, if_pos (by omega)]
    · rw [if_neg e2, if_neg (by omega)]
set_option maxRecDepth 100000 in
set_option maxHeartbeats 4000000 in
/-- the constructor of the reference -/
theorem c_X5_init (l : Launch) (D : va_G) {dA : Nat → ClassId} {b : Nat} {h : xH} {Post : Option Value → xH → Nat → Prop} (hb : h b = some (.inr (5, [.null, .int 0, .int 0, .null, .null, .int 0, .long 0, .null, .null, .null, .int 0, .int 0, .int 0, .null, .null, .null, .null, .null, .int 0, .null, .null]))) (hpost : ∀ (h1 : xH), Md dA h1 b (fun _ => 0) 0 (-1) (in_s 69) (fun _ => 0) 0 0 (fun _ => 0) (fun _ => 0) (fun _ => 0) 0 0 0 (fun _ => 0) (fun _ => 0) (fun _ => 0) (fun _ => 0) (fun _ => 0) 0 (fun _ => 0) (fun _ => 0) → xF b (b + 14) h h1 → Post none h1 (b + 14)) : xMet l yX5_init wsX5_init 1 40 13 1814 D dA [.ref b] h (b + 1) Post := by
  refine x_open (cc := cX5_init) (maxL := 2) (ret := none) (by decide) rfl (Nat.le_of_ble_eq_true rfl) ?_
  intro p e s m args below meth c G hin
  have inX5 : ∀ w ∈ wsX50, w ∈ wsX5_init := inX5_init_5
  have F := xF_rf (lo := b) (hi := b + 14) (h := h)
  have hts0 : ∀ _ : True, Cond.code objectInit ⟨#[0xb1]⟩ 1 none ∈ wsX5_init := fun _ => List.mem_cons_of_mem _ (List.mem_append_left _ (List.mem_of_getElem? (i := 2) rfl))
  refine x_aload_n G dX5_init_0 rfl ?_
  refine x_objI G (by decide +kernel) (by decide +kernel) (hts0 trivial) dX5_init_1 (by decide) (by decide) ?_
  refine x_aload_n G dX5_init_4 rfl ?_
  refine x_bipushV (v := nI 60) G dX5_init_5 (by decide) ?_
  refine x_newI (N := 60) (sz1 := b + 2) G rfl (by decide +kernel) dX5_init_7 (by decide) (by decide) (by decide) (by decide) (by decide) ?_
  obtain ⟨g0, eg0⟩ : ∃ g : xH, g = x_up h (b + 1) (.inl (dA 0, 60, .inl (fun _ => 0))) := ⟨_, rfl⟩
  refine x_as rfl rfl eg0.symm ?_
  replace hb : g0 b = some (.inr (5, [.null, .int 0, .int 0, .null, .null, .int 0, .long 0, .null, .null, .null, .int 0, .int 0, .int 0, .null, .null, .null, .null, .null, .int 0, .null, .null])) := by rw [eg0, x_up_ne (by omega)]; exact hb
  have F := xF_up (a := b + 1) (e := (.inl (dA 0, 60, .inl (fun _ => 0)))) F (by omega) (by omega)
  rw [← eg0] at F
  have ktx : g0 (b + 1) = some (.inl (dA 0, 60, .inl (fun _ => 0))) := by rw [eg0]; exact x_up_eq
  refine x_putF G kX5 inX5 0 (by decide) (by decide +kernel) rfl (hin rfl) rfl dX5_init_9 hb rfl rfl (Nat.le_of_ble_eq_true rfl) ?_
  obtain ⟨q0, eq0⟩ : ∃ g : xH, g = x_up g0 b (.inr (5, List.set [.null, .int 0, .int 0, .null, .null, .int 0, .long 0, .null, .null, .null, .int 0, .int 0, .int 0, .null, .null, .null, .null, .null, .int 0, .null, .null] 0 (.ref (b + 1)))) := ⟨_, rfl⟩
  refine x_as rfl rfl eq0.symm ?_
  replace hb : q0 b = some (.inr (5, [.ref (b + 1), .int 0, .int 0, .null, .null, .int 0, .long 0, .null, .null, .null, .int 0, .int 0, .int 0, .null, .null, .null, .null, .null, .int 0, .null, .null])) := by rw [eq0]; exact x_up_eq
  have F := xF_up (a := b) (e := .inr (5, List.set [.null, .int 0, .int 0, .null, .null, .int 0, .long 0, .null, .null, .null, .int 0, .int 0, .int 0, .null, .null, .null, .null, .null, .int 0, .null, .null] 0 (.ref (b + 1)))) F (by omega) (by omega)
  rw [← eq0] at F
  replace ktx : q0 (b + 1) = some (.inl (dA 0, 60, .inl (fun _ => 0))) := by rw [eq0, x_up_ne (by omega)]; exact ktx
  refine x_aload_n G dX5_init_12 rfl ?_
  refine x_iconstV (v := (-1)) G dX5_init_13 (by decide) ?_
  refine x_put G kX5 inX5 2 (by decide) (by decide +kernel) rfl dX5_init_14 hb rfl rfl (Nat.le_of_ble_eq_true rfl) ?_
  obtain ⟨q00, eq00⟩ : ∃ g : xH, g = x_up q0 b (.inr (5, List.set [.ref (b + 1), .int 0, .int 0, .null, .null, .int 0, .long 0, .null, .null, .null, .int 0, .int 0, .int 0, .null, .null, .null, .null, .null, .int 0, .null, .null] 2 (.int (-1)))) := ⟨_, rfl⟩
  refine x_as rfl rfl eq00.symm ?_
  replace hb : q00 b = some (.inr (5, [.ref (b + 1), .int 0, .int (-1), .null, .null, .int 0, .long 0, .null, .null, .null, .int 0, .int 0, .int 0, .null, .null, .null, .null, .null, .int 0, .null, .null])) := by rw [eq00]; exact x_up_eq
  have F := xF_up (a := b) (e := .inr (5, List.set [.ref (b + 1), .int 0, .int 0, .null, .null, .int 0, .long 0, .null, .null, .null, .int 0, .int 0, .int 0, .null, .null, .null, .null, .null, .int 0, .null, .null] 2 (.int (-1)))) F (by omega) (by omega)
  rw [← eq00] at F
  replace ktx : q00 (b + 1) = some (.inl (dA 0, 60, .inl (fun _ => 0))) := by rw [eq00, x_up_ne (by omega)]; exact ktx
  refine x_aload_n G dX5_init_17 rfl ?_
  refine x_bipushV (v := nI 69) G dX5_init_18 (by decide) ?_
  refine x_newI (N := 69) (sz1 := b + 3) G rfl (by decide +kernel) dX5_init_20 (by decide) (by decide) (by decide) (by decide) (by decide) ?_
  obtain ⟨g1, eg1⟩ : ∃ g : xH, g = x_up q00 (b + 2) (.inl (dA 0, 69, .inl (fun _ => 0))) := ⟨_, rfl⟩
  refine x_as rfl rfl eg1.symm ?_
  replace hb : g1 b = some (.inr (5, [.ref (b + 1), .int 0, .int (-1), .null, .null, .int 0, .long 0, .null, .null, .null, .int 0, .int 0, .int 0, .null, .null, .null, .null, .null, .int 0, .null, .null])) := by rw [eg1, x_up_ne (by omega)]; exact hb
  have F := xF_up (a := b + 2) (e := (.inl (dA 0, 69, .inl (fun _ => 0)))) F (by omega) (by omega)
  rw [← eg1] at F
  replace ktx : g1 (b + 1) = some (.inl (dA 0, 60, .inl (fun _ => 0))) := by rw [eg1, x_up_ne (by omega)]; exact ktx
  have kst : g1 (b + 2) = some (.inl (dA 0, 69, .inl (fun _ => 0))) := by rw [eg1]; exact x_up_eq
  refine x_putF G kX5 inX5 3 (by decide) (by decide +kernel) rfl (hin rfl) rfl dX5_init_22 hb rfl rfl (Nat.le_of_ble_eq_true rfl) ?_
  obtain ⟨q1, eq1⟩ : ∃ g : xH, g = x_up g1 b (.inr (5, List.set [.ref (b + 1), .int 0, .int (-1), .null, .null, .int 0, .long 0, .null, .null, .null, .int 0, .int 0, .int 0, .null, .null, .null, .null, .null, .int 0, .null, .null] 3 (.ref (b + 2)))) := ⟨_, rfl⟩
  refine x_as rfl rfl eq1.symm ?_
  replace hb : q1 b = some (.inr (5, [.ref (b + 1), .int 0, .int (-1), .ref (b + 2), .null, .int 0, .long 0, .null, .null, .null, .int 0, .int 0, .int 0, .null, .null, .null, .null, .null, .int 0, .null, .null])) := by rw [eq1]; exact x_up_eq
  have F := xF_up (a := b) (e := .inr (5, List.set [.ref (b + 1), .int 0, .int (-1), .null, .null, .int 0, .long 0, .null, .null, .null, .int 0, .int 0, .int 0, .null, .null, .null, .null, .null, .int 0, .null, .null] 3 (.ref (b + 2)))) F (by omega) (by omega)
  rw [← eq1] at F
  replace ktx : q1 (b + 1) = some (.inl (dA 0, 60, .inl (fun _ => 0))) := by rw [eq1, x_up_ne (by omega)]; exact ktx
  replace kst : q1 (b + 2) = some (.inl (dA 0, 69, .inl (fun _ => 0))) := by rw [eq1, x_up_ne (by omega)]; exact kst
  refine x_aload_n G dX5_init_25 rfl ?_
  refine x_sipushV (v := nI 1380) G dX5_init_26 (by decide) ?_
  refine x_newI (N := 1380) (sz1 := b + 4) G rfl (by decide +kernel) dX5_init_29 (by decide) (by decide) (by decide) (by decide) (by decide) ?_
  obtain ⟨g2, eg2⟩ : ∃ g : xH, g = x_up q1 (b + 3) (.inl (dA 0, 1380, .inl (fun _ => 0))) := ⟨_, rfl⟩
  refine x_as rfl rfl eg2.symm ?_
  replace hb : g2 b = some (.inr (5, [.ref (b + 1), .int 0, .int (-1), .ref (b + 2), .null, .int 0, .long 0, .null, .null, .null, .int 0, .int 0, .int 0, .null, .null, .null, .null, .null, .int 0, .null, .null])) := by rw [eg2, x_up_ne (by omega)]; exact hb
  have F := xF_up (a := b + 3) (e := (.inl (dA 0, 1380, .inl (fun _ => 0)))) F (by omega) (by omega)
  rw [← eg2] at F
  replace ktx : g2 (b + 1) = some (.inl (dA 0, 60, .inl (fun _ => 0))) := by rw [eg2, x_up_ne (by omega)]; exact ktx
  replace kst : g2 (b + 2) = some (.inl (dA 0, 69, .inl (fun _ => 0))) := by rw [eg2, x_up_ne (by omega)]; exact kst
  have kde : g2 (b + 3) = some (.inl (dA 0, 1380, .inl (fun _ => 0))) := by rw [eg2]; exact x_up_eq
  refine x_putF G kX5 inX5 4 (by decide) (by decide +kernel) rfl (hin rfl) rfl dX5_init_31 hb rfl rfl (Nat.le_of_ble_eq_true rfl) ?_
  obtain ⟨q2, eq2⟩ : ∃ g : xH, g = x_up g2 b (.inr (5, List.set [.ref (b + 1), .int 0, .int (-1), .ref (b + 2), .null, .int 0, .long 0, .null, .null, .null, .int 0, .int 0, .int 0, .null, .null, .null, .null, .null, .int 0, .null, .null] 4 (.ref (b + 3)))) := ⟨_, rfl⟩
  refine x_as rfl rfl eq2.symm ?_
  replace hb : q2 b = some (.inr (5, [.ref (b + 1), .int 0, .int (-1), .ref (b + 2), .ref (b + 3), .int 0, .long 0, .null, .null, .null, .int 0, .int 0, .int 0, .null, .null, .null, .null, .null, .int 0, .null, .null])) := by rw [eq2]; exact x_up_eq
  have F := xF_up (a := b) (e := .inr (5, List.set [.ref (b + 1), .int 0, .int (-1), .ref (b + 2), .null, .int 0, .long 0, .null, .null, .null, .int 0, .int 0, .int 0, .null, .null, .null, .null, .null, .int 0, .null, .null] 4 (.ref (b + 3)))) F (by omega) (by omega)
  rw [← eq2] at F
  replace ktx : q2 (b + 1) = some (.inl (dA 0, 60, .inl (fun _ => 0))) := by rw [eq2, x_up_ne (by omega)]; exact ktx
  replace kst : q2 (b + 2) = some (.inl (dA 0, 69, .inl (fun _ => 0))) := by rw [eq2, x_up_ne (by omega)]; exact kst
  replace kde : q2 (b + 3) = some (.inl (dA 0, 1380, .inl (fun _ => 0))) := by rw [eq2, x_up_ne (by omega)]; exact kde
  refine x_aload_n G dX5_init_34 rfl ?_
  refine x_sipushV (v := nI 138) G dX5_init_35 (by decide) ?_
  refine x_newI (N := 138) (sz1 := b + 5) G rfl (by decide +kernel) dX5_init_38 (by decide) (by decide) (by decide) (by decide) (by decide) ?_
  obtain ⟨g3, eg3⟩ : ∃ g : xH, g = x_up q2 (b + 4) (.inl (dA 0, 138, .inl (fun _ => 0))) := ⟨_, rfl⟩
  refine x_as rfl rfl eg3.symm ?_
  replace hb : g3 b = some (.inr (5, [.ref (b + 1), .int 0, .int (-1), .ref (b + 2), .ref (b + 3), .int 0, .long 0, .null, .null, .null, .int 0, .int 0, .int 0, .null, .null, .null, .null, .null, .int 0, .null, .null])) := by rw [eg3, x_up_ne (by omega)]; exact hb
  have F := xF_up (a := b + 4) (e := (.inl (dA 0, 138, .inl (fun _ => 0)))) F (by omega) (by omega)
  rw [← eg3] at F
  replace ktx : g3 (b + 1) = some (.inl (dA 0, 60, .inl (fun _ => 0))) := by rw [eg3, x_up_ne (by omega)]; exact ktx
  replace kst : g3 (b + 2) = some (.inl (dA 0, 69, .inl (fun _ => 0))) := by rw [eg3, x_up_ne (by omega)]; exact kst
  replace kde : g3 (b + 3) = some (.inl (dA 0, 1380, .inl (fun _ => 0))) := by rw [eg3, x_up_ne (by omega)]; exact kde
  have kim : g3 (b + 4) = some (.inl (dA 0, 138, .inl (fun _ => 0))) := by rw [eg3]; exact x_up_eq
  refine x_putF G kX5 inX5 7 (by decide) (by decide +kernel) rfl (hin rfl) rfl dX5_init_40 hb rfl rfl (Nat.le_of_ble_eq_true rfl) ?_
  obtain ⟨q3, eq3⟩ : ∃ g : xH, g = x_up g3 b (.inr (5, List.set [.ref (b + 1), .int 0, .int (-1), .ref (b + 2), .ref (b + 3), .int 0, .long 0, .null, .null, .null, .int 0, .int 0, .int 0, .null, .null, .null, .null, .null, .int 0, .null, .null] 7 (.ref (b + 4)))) := ⟨_, rfl⟩
  refine x_as rfl rfl eq3.symm ?_
  replace hb : q3 b = some (.inr (5, [.ref (b + 1), .int 0, .int (-1), .ref (b + 2), .ref (b + 3), .int 0, .long 0, .ref (b + 4), .null, .null, .int 0, .int 0, .int 0, .null, .null, .null, .null, .null, .int 0, .null, .null])) := by rw [eq3]; exact x_up_eq
  have F := xF_up (a := b) (e := .inr (5, List.set [.ref (b + 1), .int 0, .int (-1), .ref (b + 2), .ref (b + 3), .int 0, .long 0, .null, .null, .null, .int 0, .int 0, .int 0, .null, .null, .null, .null, .null, .int 0, .null, .null] 7 (.ref (b + 4)))) F (by omega) (by omega)
  rw [← eq3] at F
  replace ktx : q3 (b + 1) = some (.inl (dA 0, 60, .inl (fun _ => 0))) := by rw [eq3, x_up_ne (by omega)]; exact ktx
  replace kst : q3 (b + 2) = some (.inl (dA 0, 69, .inl (fun _ => 0))) := by rw [eq3, x_up_ne (by omega)]; exact kst
  replace kde : q3 (b + 3) = some (.inl (dA 0, 1380, .inl (fun _ => 0))) := by rw [eq3, x_up_ne (by omega)]; exact kde
  replace kim : q3 (b + 4) = some (.inl (dA 0, 138, .inl (fun _ => 0))) := by rw [eq3, x_up_ne (by omega)]; exact kim
  refine x_aload_n G dX5_init_43 rfl ?_
  refine x_iconstV (v := nI 2) G dX5_init_44 (by decide) ?_
  refine x_newL (N := 2) (sz1 := b + 6) G rfl (by decide +kernel) dX5_init_45 (by decide) (by decide) (by decide) (by decide) (by decide) ?_
  obtain ⟨g4, eg4⟩ : ∃ g : xH, g = x_up q3 (b + 5) (.inl (dA 1, 2, .inr (.inl (fun _ => 0)))) := ⟨_, rfl⟩
  refine x_as rfl rfl eg4.symm ?_
  replace hb : g4 b = some (.inr (5, [.ref (b + 1), .int 0, .int (-1), .ref (b + 2), .ref (b + 3), .int 0, .long 0, .ref (b + 4), .null, .null, .int 0, .int 0, .int 0, .null, .null, .null, .null, .null, .int 0, .null, .null])) := by rw [eg4, x_up_ne (by omega)]; exact hb
  have F := xF_up (a := b + 5) (e := (.inl (dA 1, 2, .inr (.inl (fun _ => 0))))) F (by omega) (by omega)
  rw [← eg4] at F
  replace ktx : g4 (b + 1) = some (.inl (dA 0, 60, .inl (fun _ => 0))) := by rw [eg4, x_up_ne (by omega)]; exact ktx
  replace kst : g4 (b + 2) = some (.inl (dA 0, 69, .inl (fun _ => 0))) := by rw [eg4, x_up_ne (by omega)]; exact kst
  replace kde : g4 (b + 3) = some (.inl (dA 0, 1380, .inl (fun _ => 0))) := by rw [eg4, x_up_ne (by omega)]; exact kde
  replace kim : g4 (b + 4) = some (.inl (dA 0, 138, .inl (fun _ => 0))) := by rw [eg4, x_up_ne (by omega)]; exact kim
  have kse : g4 (b + 5) = some (.inl (dA 1, 2, .inr (.inl (fun _ => 0)))) := by rw [eg4]; exact x_up_eq
  refine x_putF G kX5 inX5 8 (by decide) (by decide +kernel) rfl (hin rfl) rfl dX5_init_47 hb rfl rfl (Nat.le_of_ble_eq_true rfl) ?_
  obtain ⟨q4, eq4⟩ : ∃ g : xH, g = x_up g4 b (.inr (5, List.set [.ref (b + 1), .int 0, .int (-1), .ref (b + 2), .ref (b + 3), .int 0, .long 0, .ref (b + 4), .null, .null, .int 0, .int 0, .int 0, .null, .null, .null, .null, .null, .int 0, .null, .null] 8 (.ref (b + 5)))) := ⟨_, rfl⟩
  refine x_as rfl rfl eq4.symm ?_
  replace hb : q4 b = some (.inr (5, [.ref (b + 1), .int 0, .int (-1), .ref (b + 2), .ref (b + 3), .int 0, .long 0, .ref (b + 4), .ref (b + 5), .null, .int 0, .int 0, .int 0, .null, .null, .null, .null, .null, .int 0, .null, .null])) := by rw [eq4]; exact x_up_eq
  have F := xF_up (a := b) (e := .inr (5, List.set [.ref (b + 1), .int 0, .int (-1), .ref (b + 2), .ref (b + 3), .int 0, .long 0, .ref (b + 4), .null, .null, .int 0, .int 0, .int 0, .null, .null, .null, .null, .null, .int 0, .null, .null] 8 (.ref (b + 5)))) F (by omega) (by omega)
  rw [← eq4] at F
  replace ktx : q4 (b + 1) = some (.inl (dA 0, 60, .inl (fun _ => 0))) := by rw [eq4, x_up_ne (by omega)]; exact ktx
  replace kst : q4 (b + 2) = some (.inl (dA 0, 69, .inl (fun _ => 0))) := by rw [eq4, x_up_ne (by omega)]; exact kst
  replace kde : q4 (b + 3) = some (.inl (dA 0, 1380, .inl (fun _ => 0))) := by rw [eq4, x_up_ne (by omega)]; exact kde
  replace kim : q4 (b + 4) = some (.inl (dA 0, 138, .inl (fun _ => 0))) := by rw [eq4, x_up_ne (by omega)]; exact kim
  replace kse : q4 (b + 5) = some (.inl (dA 1, 2, .inr (.inl (fun _ => 0)))) := by rw [eq4, x_up_ne (by omega)]; exact kse
  refine x_aload_n G dX5_init_50 rfl ?_
  refine x_iconstV (v := nI 2) G dX5_init_51 (by decide) ?_
  refine x_newZ (N := 2) (sz1 := b + 7) G rfl (by decide +kernel) dX5_init_52 (by decide) (by decide) (by decide) (by decide) (by decide) ?_
  obtain ⟨g5, eg5⟩ : ∃ g : xH, g = x_up q4 (b + 6) (.inl (dA 2, 2, .inl (fun _ => 0))) := ⟨_, rfl⟩
  refine x_as rfl rfl eg5.symm ?_
  replace hb : g5 b = some (.inr (5, [.ref (b + 1), .int 0, .int (-1), .ref (b + 2), .ref (b + 3), .int 0, .long 0, .ref (b + 4), .ref (b + 5), .null, .int 0, .int 0, .int 0, .null, .null, .null, .null, .null, .int 0, .null, .null])) := by rw [eg5, x_up_ne (by omega)]; exact hb
  have F := xF_up (a := b + 6) (e := (.inl (dA 2, 2, .inl (fun _ => 0)))) F (by omega) (by omega)
  rw [← eg5] at F
  replace ktx : g5 (b + 1) = some (.inl (dA 0, 60, .inl (fun _ => 0))) := by rw [eg5, x_up_ne (by omega)]; exact ktx
  replace kst : g5 (b + 2) = some (.inl (dA 0, 69, .inl (fun _ => 0))) := by rw [eg5, x_up_ne (by omega)]; exact kst
  replace kde : g5 (b + 3) = some (.inl (dA 0, 1380, .inl (fun _ => 0))) := by rw [eg5, x_up_ne (by omega)]; exact kde
  replace kim : g5 (b + 4) = some (.inl (dA 0, 138, .inl (fun _ => 0))) := by rw [eg5, x_up_ne (by omega)]; exact kim
  replace kse : g5 (b + 5) = some (.inl (dA 1, 2, .inr (.inl (fun _ => 0)))) := by rw [eg5, x_up_ne (by omega)]; exact kse
  have kkp : g5 (b + 6) = some (.inl (dA 2, 2, .inl (fun _ => 0))) := by rw [eg5]; exact x_up_eq
  refine x_putF G kX5 inX5 9 (by decide) (by decide +kernel) rfl (hin rfl) rfl dX5_init_54 hb rfl rfl (Nat.le_of_ble_eq_true rfl) ?_
  obtain ⟨q5, eq5⟩ : ∃ g : xH, g = x_up g5 b (.inr (5, List.set [.ref (b + 1), .int 0, .int (-1), .ref (b + 2), .ref (b + 3), .int 0, .long 0, .ref (b + 4), .ref (b + 5), .null, .int 0, .int 0, .int 0, .null, .null, .null, .null, .null, .int 0, .null, .null] 9 (.ref (b + 6)))) := ⟨_, rfl⟩
  refine x_as rfl rfl eq5.symm ?_
  replace hb : q5 b = some (.inr (5, [.ref (b + 1), .int 0, .int (-1), .ref (b + 2), .ref (b + 3), .int 0, .long 0, .ref (b + 4), .ref (b + 5), .ref (b + 6), .int 0, .int 0, .int 0, .null, .null, .null, .null, .null, .int 0, .null, .null])) := by rw [eq5]; exact x_up_eq
  have F := xF_up (a := b) (e := .inr (5, List.set [.ref (b + 1), .int 0, .int (-1), .ref (b + 2), .ref (b + 3), .int 0, .long 0, .ref (b + 4), .ref (b + 5), .null, .int 0, .int 0, .int 0, .null, .null, .null, .null, .null, .int 0, .null, .null] 9 (.ref (b + 6)))) F (by omega) (by omega)
  rw [← eq5] at F
  replace ktx : q5 (b + 1) = some (.inl (dA 0, 60, .inl (fun _ => 0))) := by rw [eq5, x_up_ne (by omega)]; exact ktx
  replace kst : q5 (b + 2) = some (.inl (dA 0, 69, .inl (fun _ => 0))) := by rw [eq5, x_up_ne (by omega)]; exact kst
  replace kde : q5 (b + 3) = some (.inl (dA 0, 1380, .inl (fun _ => 0))) := by rw [eq5, x_up_ne (by omega)]; exact kde
  replace kim : q5 (b + 4) = some (.inl (dA 0, 138, .inl (fun _ => 0))) := by rw [eq5, x_up_ne (by omega)]; exact kim
  replace kse : q5 (b + 5) = some (.inl (dA 1, 2, .inr (.inl (fun _ => 0)))) := by rw [eq5, x_up_ne (by omega)]; exact kse
  replace kkp : q5 (b + 6) = some (.inl (dA 2, 2, .inl (fun _ => 0))) := by rw [eq5, x_up_ne (by omega)]; exact kkp
  refine x_aload_n G dX5_init_57 rfl ?_
  refine x_bipushV (v := nI 70) G dX5_init_58 (by decide) ?_
  refine x_newI (N := 70) (sz1 := b + 8) G rfl (by decide +kernel) dX5_init_60 (by decide) (by decide) (by decide) (by decide) (by decide) ?_
  obtain ⟨g6, eg6⟩ : ∃ g : xH, g = x_up q5 (b + 7) (.inl (dA 0, 70, .inl (fun _ => 0))) := ⟨_, rfl⟩
  refine x_as rfl rfl eg6.symm ?_
  replace hb : g6 b = some (.inr (5, [.ref (b + 1), .int 0, .int (-1), .ref (b + 2), .ref (b + 3), .int 0, .long 0, .ref (b + 4), .ref (b + 5), .ref (b + 6), .int 0, .int 0, .int 0, .null, .null, .null, .null, .null, .int 0, .null, .null])) := by rw [eg6, x_up_ne (by omega)]; exact hb
  have F := xF_up (a := b + 7) (e := (.inl (dA 0, 70, .inl (fun _ => 0)))) F (by omega) (by omega)
  rw [← eg6] at F
  replace ktx : g6 (b + 1) = some (.inl (dA 0, 60, .inl (fun _ => 0))) := by rw [eg6, x_up_ne (by omega)]; exact ktx
  replace kst : g6 (b + 2) = some (.inl (dA 0, 69, .inl (fun _ => 0))) := by rw [eg6, x_up_ne (by omega)]; exact kst
  replace kde : g6 (b + 3) = some (.inl (dA 0, 1380, .inl (fun _ => 0))) := by rw [eg6, x_up_ne (by omega)]; exact kde
  replace kim : g6 (b + 4) = some (.inl (dA 0, 138, .inl (fun _ => 0))) := by rw [eg6, x_up_ne (by omega)]; exact kim
  replace kse : g6 (b + 5) = some (.inl (dA 1, 2, .inr (.inl (fun _ => 0)))) := by rw [eg6, x_up_ne (by omega)]; exact kse
  replace kkp : g6 (b + 6) = some (.inl (dA 2, 2, .inl (fun _ => 0))) := by rw [eg6, x_up_ne (by omega)]; exact kkp
  have ksu : g6 (b + 7) = some (.inl (dA 0, 70, .inl (fun _ => 0))) := by rw [eg6]; exact x_up_eq
  refine x_putF G kX5 inX5 13 (by decide) (by decide +kernel) rfl (hin rfl) rfl dX5_init_62 hb rfl rfl (Nat.le_of_ble_eq_true rfl) ?_
  obtain ⟨q6, eq6⟩ : ∃ g : xH, g = x_up g6 b (.inr (5, List.set [.ref (b + 1), .int 0, .int (-1), .ref (b + 2), .ref (b + 3), .int 0, .long 0, .ref (b + 4), .ref (b + 5), .ref (b + 6), .int 0, .int 0, .int 0, .null, .null, .null, .null, .null, .int 0, .null, .null] 13 (.ref (b + 7)))) := ⟨_, rfl⟩
  refine x_as rfl rfl eq6.symm ?_
  replace hb : q6 b = some (.inr (5, [.ref (b + 1), .int 0, .int (-1), .ref (b + 2), .ref (b + 3), .int 0, .long 0, .ref (b + 4), .ref (b + 5), .ref (b + 6), .int 0, .int 0, .int 0, .ref (b + 7), .null, .null, .null, .null, .int 0, .null, .null])) := by rw [eq6]; exact x_up_eq
  have F := xF_up (a := b) (e := .inr (5, List.set [.ref (b + 1), .int 0, .int (-1), .ref (b + 2), .ref (b + 3), .int 0, .long 0, .ref (b + 4), .ref (b + 5), .ref (b + 6), .int 0, .int 0, .int 0, .null, .null, .null, .null, .null, .int 0, .null, .null] 13 (.ref (b + 7)))) F (by omega) (by omega)
  rw [← eq6] at F
  replace ktx : q6 (b + 1) = some (.inl (dA 0, 60, .inl (fun _ => 0))) := by rw [eq6, x_up_ne (by omega)]; exact ktx
  replace kst : q6 (b + 2) = some (.inl (dA 0, 69, .inl (fun _ => 0))) := by rw [eq6, x_up_ne (by omega)]; exact kst
  replace kde : q6 (b + 3) = some (.inl (dA 0, 1380, .inl (fun _ => 0))) := by rw [eq6, x_up_ne (by omega)]; exact kde
  replace kim : q6 (b + 4) = some (.inl (dA 0, 138, .inl (fun _ => 0))) := by rw [eq6, x_up_ne (by omega)]; exact kim
  replace kse : q6 (b + 5) = some (.inl (dA 1, 2, .inr (.inl (fun _ => 0)))) := by rw [eq6, x_up_ne (by omega)]; exact kse
  replace kkp : q6 (b + 6) = some (.inl (dA 2, 2, .inl (fun _ => 0))) := by rw [eq6, x_up_ne (by omega)]; exact kkp
  replace ksu : q6 (b + 7) = some (.inl (dA 0, 70, .inl (fun _ => 0))) := by rw [eq6, x_up_ne (by omega)]; exact ksu
  refine x_aload_n G dX5_init_65 rfl ?_
  refine x_bipushV (v := nI 7) G dX5_init_66 (by decide) ?_
  refine x_newI (N := 7) (sz1 := b + 9) G rfl (by decide +kernel) dX5_init_68 (by decide) (by decide) (by decide) (by decide) (by decide) ?_
  obtain ⟨g7, eg7⟩ : ∃ g : xH, g = x_up q6 (b + 8) (.inl (dA 0, 7, .inl (fun _ => 0))) := ⟨_, rfl⟩
  refine x_as rfl rfl eg7.symm ?_
  replace hb : g7 b = some (.inr (5, [.ref (b + 1), .int 0, .int (-1), .ref (b + 2), .ref (b + 3), .int 0, .long 0, .ref (b + 4), .ref (b + 5), .ref (b + 6), .int 0, .int 0, .int 0, .ref (b + 7), .null, .null, .null, .null, .int 0, .null, .null])) := by rw [eg7, x_up_ne (by omega)]; exact hb
  have F := xF_up (a := b + 8) (e := (.inl (dA 0, 7, .inl (fun _ => 0)))) F (by omega) (by omega)
  rw [← eg7] at F
  replace ktx : g7 (b + 1) = some (.inl (dA 0, 60, .inl (fun _ => 0))) := by rw [eg7, x_up_ne (by omega)]; exact ktx
  replace kst : g7 (b + 2) = some (.inl (dA 0, 69, .inl (fun _ => 0))) := by rw [eg7, x_up_ne (by omega)]; exact kst
  replace kde : g7 (b + 3) = some (.inl (dA 0, 1380, .inl (fun _ => 0))) := by rw [eg7, x_up_ne (by omega)]; exact kde
  replace kim : g7 (b + 4) = some (.inl (dA 0, 138, .inl (fun _ => 0))) := by rw [eg7, x_up_ne (by omega)]; exact kim
  replace kse : g7 (b + 5) = some (.inl (dA 1, 2, .inr (.inl (fun _ => 0)))) := by rw [eg7, x_up_ne (by omega)]; exact kse
  replace kkp : g7 (b + 6) = some (.inl (dA 2, 2, .inl (fun _ => 0))) := by rw [eg7, x_up_ne (by omega)]; exact kkp
  replace ksu : g7 (b + 7) = some (.inl (dA 0, 70, .inl (fun _ => 0))) := by rw [eg7, x_up_ne (by omega)]; exact ksu
  have kwa : g7 (b + 8) = some (.inl (dA 0, 7, .inl (fun _ => 0))) := by rw [eg7]; exact x_up_eq
  refine x_putF G kX5 inX5 14 (by decide) (by decide +kernel) rfl (hin rfl) rfl dX5_init_70 hb rfl rfl (Nat.le_of_ble_eq_true rfl) ?_
  obtain ⟨q7, eq7⟩ : ∃ g : xH, g = x_up g7 b (.inr (5, List.set [.ref (b + 1), .int 0, .int (-1), .ref (b + 2), .ref (b + 3), .int 0, .long 0, .ref (b + 4), .ref (b + 5), .ref (b + 6), .int 0, .int 0, .int 0, .ref (b + 7), .null, .null, .null, .null, .int 0, .null, .null] 14 (.ref (b + 8)))) := ⟨_, rfl⟩
  refine x_as rfl rfl eq7.symm ?_
  replace hb : q7 b = some (.inr (5, [.ref (b + 1), .int 0, .int (-1), .ref (b + 2), .ref (b + 3), .int 0, .long 0, .ref (b + 4), .ref (b + 5), .ref (b + 6), .int 0, .int 0, .int 0, .ref (b + 7), .ref (b + 8), .null, .null, .null, .int 0, .null, .null])) := by rw [eq7]; exact x_up_eq
  have F := xF_up (a := b) (e := .inr (5, List.set [.ref (b + 1), .int 0, .int (-1), .ref (b + 2), .ref (b + 3), .int 0, .long 0, .ref (b + 4), .ref (b + 5), .ref (b + 6), .int 0, .int 0, .int 0, .ref (b + 7), .null, .null, .null, .null, .int 0, .null, .null] 14 (.ref (b + 8)))) F (by omega) (by omega)
  rw [← eq7] at F
  replace ktx : q7 (b + 1) = some (.inl (dA 0, 60, .inl (fun _ => 0))) := by rw [eq7, x_up_ne (by omega)]; exact ktx
  replace kst : q7 (b + 2) = some (.inl (dA 0, 69, .inl (fun _ => 0))) := by rw [eq7, x_up_ne (by omega)]; exact kst
  replace kde : q7 (b + 3) = some (.inl (dA 0, 1380, .inl (fun _ => 0))) := by rw [eq7, x_up_ne (by omega)]; exact kde
  replace kim : q7 (b + 4) = some (.inl (dA 0, 138, .inl (fun _ => 0))) := by rw [eq7, x_up_ne (by omega)]; exact kim
  replace kse : q7 (b + 5) = some (.inl (dA 1, 2, .inr (.inl (fun _ => 0)))) := by rw [eq7, x_up_ne (by omega)]; exact kse
  replace kkp : q7 (b + 6) = some (.inl (dA 2, 2, .inl (fun _ => 0))) := by rw [eq7, x_up_ne (by omega)]; exact kkp
  replace ksu : q7 (b + 7) = some (.inl (dA 0, 70, .inl (fun _ => 0))) := by rw [eq7, x_up_ne (by omega)]; exact ksu
  replace kwa : q7 (b + 8) = some (.inl (dA 0, 7, .inl (fun _ => 0))) := by rw [eq7, x_up_ne (by omega)]; exact kwa
  refine x_aload_n G dX5_init_73 rfl ?_
  refine x_bipushV (v := nI 10) G dX5_init_74 (by decide) ?_
  refine x_newI (N := 10) (sz1 := b + 10) G rfl (by decide +kernel) dX5_init_76 (by decide) (by decide) (by decide) (by decide) (by decide) ?_
  obtain ⟨g8, eg8⟩ : ∃ g : xH, g = x_up q7 (b + 9) (.inl (dA 0, 10, .inl (fun _ => 0))) := ⟨_, rfl⟩
  refine x_as rfl rfl eg8.symm ?_
  replace hb : g8 b = some (.inr (5, [.ref (b + 1), .int 0, .int (-1), .ref (b + 2), .ref (b + 3), .int 0, .long 0, .ref (b + 4), .ref (b + 5), .ref (b + 6), .int 0, .int 0, .int 0, .ref (b + 7), .ref (b + 8), .null, .null, .null, .int 0, .null, .null])) := by rw [eg8, x_up_ne (by omega)]; exact hb
  have F := xF_up (a := b + 9) (e := (.inl (dA 0, 10, .inl (fun _ => 0)))) F (by omega) (by omega)
  rw [← eg8] at F
  replace ktx : g8 (b + 1) = some (.inl (dA 0, 60, .inl (fun _ => 0))) := by rw [eg8, x_up_ne (by omega)]; exact ktx
  replace kst : g8 (b + 2) = some (.inl (dA 0, 69, .inl (fun _ => 0))) := by rw [eg8, x_up_ne (by omega)]; exact kst
  replace kde : g8 (b + 3) = some (.inl (dA 0, 1380, .inl (fun _ => 0))) := by rw [eg8, x_up_ne (by omega)]; exact kde
  replace kim : g8 (b + 4) = some (.inl (dA 0, 138, .inl (fun _ => 0))) := by rw [eg8, x_up_ne (by omega)]; exact kim
  replace kse : g8 (b + 5) = some (.inl (dA 1, 2, .inr (.inl (fun _ => 0)))) := by rw [eg8, x_up_ne (by omega)]; exact kse
  replace kkp : g8 (b + 6) = some (.inl (dA 2, 2, .inl (fun _ => 0))) := by rw [eg8, x_up_ne (by omega)]; exact kkp
  replace ksu : g8 (b + 7) = some (.inl (dA 0, 70, .inl (fun _ => 0))) := by rw [eg8, x_up_ne (by omega)]; exact ksu
  replace kwa : g8 (b + 8) = some (.inl (dA 0, 7, .inl (fun _ => 0))) := by rw [eg8, x_up_ne (by omega)]; exact kwa
  have kfc : g8 (b + 9) = some (.inl (dA 0, 10, .inl (fun _ => 0))) := by rw [eg8]; exact x_up_eq
  refine x_putF G kX5 inX5 15 (by decide) (by decide +kernel) rfl (hin rfl) rfl dX5_init_78 hb rfl rfl (Nat.le_of_ble_eq_true rfl) ?_
  obtain ⟨q8, eq8⟩ : ∃ g : xH, g = x_up g8 b (.inr (5, List.set [.ref (b + 1), .int 0, .int (-1), .ref (b + 2), .ref (b + 3), .int 0, .long 0, .ref (b + 4), .ref (b + 5), .ref (b + 6), .int 0, .int 0, .int 0, .ref (b + 7), .ref (b + 8), .null, .null, .null, .int 0, .null, .null] 15 (.ref (b + 9)))) := ⟨_, rfl⟩
  refine x_as rfl rfl eq8.symm ?_
  replace hb : q8 b = some (.inr (5, [.ref (b + 1), .int 0, .int (-1), .ref (b + 2), .ref (b + 3), .int 0, .long 0, .ref (b + 4), .ref (b + 5), .ref (b + 6), .int 0, .int 0, .int 0, .ref (b + 7), .ref (b + 8), .ref (b + 9), .null, .null, .int 0, .null, .null])) := by rw [eq8]; exact x_up_eq
  have F := xF_up (a := b) (e := .inr (5, List.set [.ref (b + 1), .int 0, .int (-1), .ref (b + 2), .ref (b + 3), .int 0, .long 0, .ref (b + 4), .ref (b + 5), .ref (b + 6), .int 0, .int 0, .int 0, .ref (b + 7), .ref (b + 8), .null, .null, .null, .int 0, .null, .null] 15 (.ref (b + 9)))) F (by omega) (by omega)
  rw [← eq8] at F
  replace ktx : q8 (b + 1) = some (.inl (dA 0, 60, .inl (fun _ => 0))) := by rw [eq8, x_up_ne (by omega)]; exact ktx
  replace kst : q8 (b + 2) = some (.inl (dA 0, 69, .inl (fun _ => 0))) := by rw [eq8, x_up_ne (by omega)]; exact kst
  replace kde : q8 (b + 3) = some (.inl (dA 0, 1380, .inl (fun _ => 0))) := by rw [eq8, x_up_ne (by omega)]; exact kde
  replace kim : q8 (b + 4) = some (.inl (dA 0, 138, .inl (fun _ => 0))) := by rw [eq8, x_up_ne (by omega)]; exact kim
  replace kse : q8 (b + 5) = some (.inl (dA 1, 2, .inr (.inl (fun _ => 0)))) := by rw [eq8, x_up_ne (by omega)]; exact kse
  replace kkp : q8 (b + 6) = some (.inl (dA 2, 2, .inl (fun _ => 0))) := by rw [eq8, x_up_ne (by omega)]; exact kkp
  replace ksu : q8 (b + 7) = some (.inl (dA 0, 70, .inl (fun _ => 0))) := by rw [eq8, x_up_ne (by omega)]; exact ksu
  replace kwa : q8 (b + 8) = some (.inl (dA 0, 7, .inl (fun _ => 0))) := by rw [eq8, x_up_ne (by omega)]; exact kwa
  replace kfc : q8 (b + 9) = some (.inl (dA 0, 10, .inl (fun _ => 0))) := by rw [eq8, x_up_ne (by omega)]; exact kfc
  refine x_aload_n G dX5_init_81 rfl ?_
  refine x_bipushV (v := nI 10) G dX5_init_82 (by decide) ?_
  refine x_newI (N := 10) (sz1 := b + 11) G rfl (by decide +kernel) dX5_init_84 (by decide) (by decide) (by decide) (by decide) (by decide) ?_
  obtain ⟨g9, eg9⟩ : ∃ g : xH, g = x_up q8 (b + 10) (.inl (dA 0, 10, .inl (fun _ => 0))) := ⟨_, rfl⟩
  refine x_as rfl rfl eg9.symm ?_
  replace hb : g9 b = some (.inr (5, [.ref (b + 1), .int 0, .int (-1), .ref (b + 2), .ref (b + 3), .int 0, .long 0, .ref (b + 4), .ref (b + 5), .ref (b + 6), .int 0, .int 0, .int 0, .ref (b + 7), .ref (b + 8), .ref (b + 9), .null, .null, .int 0, .null, .null])) := by rw [eg9, x_up_ne (by omega)]; exact hb
  have F := xF_up (a := b + 10) (e := (.inl (dA 0, 10, .inl (fun _ => 0)))) F (by omega) (by omega)
  rw [← eg9] at F
  replace ktx : g9 (b + 1) = some (.inl (dA 0, 60, .inl (fun _ => 0))) := by rw [eg9, x_up_ne (by omega)]; exact ktx
  replace kst : g9 (b + 2) = some (.inl (dA 0, 69, .inl (fun _ => 0))) := by rw [eg9, x_up_ne (by omega)]; exact kst
  replace kde : g9 (b + 3) = some (.inl (dA 0, 1380, .inl (fun _ => 0))) := by rw [eg9, x_up_ne (by omega)]; exact kde
  replace kim : g9 (b + 4) = some (.inl (dA 0, 138, .inl (fun _ => 0))) := by rw [eg9, x_up_ne (by omega)]; exact kim
  replace kse : g9 (b + 5) = some (.inl (dA 1, 2, .inr (.inl (fun _ => 0)))) := by rw [eg9, x_up_ne (by omega)]; exact kse
  replace kkp : g9 (b + 6) = some (.inl (dA 2, 2, .inl (fun _ => 0))) := by rw [eg9, x_up_ne (by omega)]; exact kkp
  replace ksu : g9 (b + 7) = some (.inl (dA 0, 70, .inl (fun _ => 0))) := by rw [eg9, x_up_ne (by omega)]; exact ksu
  replace kwa : g9 (b + 8) = some (.inl (dA 0, 7, .inl (fun _ => 0))) := by rw [eg9, x_up_ne (by omega)]; exact kwa
  replace kfc : g9 (b + 9) = some (.inl (dA 0, 10, .inl (fun _ => 0))) := by rw [eg9, x_up_ne (by omega)]; exact kfc
  have kpo : g9 (b + 10) = some (.inl (dA 0, 10, .inl (fun _ => 0))) := by rw [eg9]; exact x_up_eq
  refine x_putF G kX5 inX5 16 (by decide) (by decide +kernel) rfl (hin rfl) rfl dX5_init_86 hb rfl rfl (Nat.le_of_ble_eq_true rfl) ?_
  obtain ⟨q9, eq9⟩ : ∃ g : xH, g = x_up g9 b (.inr (5, List.set [.ref (b + 1), .int 0, .int (-1), .ref (b + 2), .ref (b + 3), .int 0, .long 0, .ref (b + 4), .ref (b + 5), .ref (b + 6), .int 0, .int 0, .int 0, .ref (b + 7), .ref (b + 8), .ref (b + 9), .null, .null, .int 0, .null, .null] 16 (.ref (b + 10)))) := ⟨_, rfl⟩
  refine x_as rfl rfl eq9.symm ?_
  replace hb : q9 b = some (.inr (5, [.ref (b + 1), .int 0, .int (-1), .ref (b + 2), .ref (b + 3), .int 0, .long 0, .ref (b + 4), .ref (b + 5), .ref (b + 6), .int 0, .int 0, .int 0, .ref (b + 7), .ref (b + 8), .ref (b + 9), .ref (b + 10), .null, .int 0, .null, .null])) := by rw [eq9]; exact x_up_eq
  have F := xF_up (a := b) (e := .inr (5, List.set [.ref (b + 1), .int 0, .int (-1), .ref (b + 2), .ref (b + 3), .int 0, .long 0, .ref (b + 4), .ref (b + 5), .ref (b + 6), .int 0, .int 0, .int 0, .ref (b + 7), .ref (b + 8), .ref (b + 9), .null, .null, .int 0, .null, .null] 16 (.ref (b + 10)))) F (by omega) (by omega)
  rw [← eq9] at F
  replace ktx : q9 (b + 1) = some (.inl (dA 0, 60, .inl (fun _ => 0))) := by rw [eq9, x_up_ne (by omega)]; exact ktx
  replace kst : q9 (b + 2) = some (.inl (dA 0, 69, .inl (fun _ => 0))) := by rw [eq9, x_up_ne (by omega)]; exact kst
  replace kde : q9 (b + 3) = some (.inl (dA 0, 1380, .inl (fun _ => 0))) := by rw [eq9, x_up_ne (by omega)]; exact kde
  replace kim : q9 (b + 4) = some (.inl (dA 0, 138, .inl (fun _ => 0))) := by rw [eq9, x_up_ne (by omega)]; exact kim
  replace kse : q9 (b + 5) = some (.inl (dA 1, 2, .inr (.inl (fun _ => 0)))) := by rw [eq9, x_up_ne (by omega)]; exact kse
  replace kkp : q9 (b + 6) = some (.inl (dA 2, 2, .inl (fun _ => 0))) := by rw [eq9, x_up_ne (by omega)]; exact kkp
  replace ksu : q9 (b + 7) = some (.inl (dA 0, 70, .inl (fun _ => 0))) := by rw [eq9, x_up_ne (by omega)]; exact ksu
  replace kwa : q9 (b + 8) = some (.inl (dA 0, 7, .inl (fun _ => 0))) := by rw [eq9, x_up_ne (by omega)]; exact kwa
  replace kfc : q9 (b + 9) = some (.inl (dA 0, 10, .inl (fun _ => 0))) := by rw [eq9, x_up_ne (by omega)]; exact kfc
  replace kpo : q9 (b + 10) = some (.inl (dA 0, 10, .inl (fun _ => 0))) := by rw [eq9, x_up_ne (by omega)]; exact kpo
  refine x_aload_n G dX5_init_89 rfl ?_
  refine x_bipushV (v := nI 36) G dX5_init_90 (by decide) ?_
  refine x_newL (N := 36) (sz1 := b + 12) G rfl (by decide +kernel) dX5_init_92 (by decide) (by decide) (by decide) (by decide) (by decide) ?_
  obtain ⟨g10, eg10⟩ : ∃ g : xH, g = x_up q9 (b + 11) (.inl (dA 1, 36, .inr (.inl (fun _ => 0)))) := ⟨_, rfl⟩
  refine x_as rfl rfl eg10.symm ?_
  replace hb : g10 b = some (.inr (5, [.ref (b + 1), .int 0, .int (-1), .ref (b + 2), .ref (b + 3), .int 0, .long 0, .ref (b + 4), .ref (b + 5), .ref (b + 6), .int 0, .int 0, .int 0, .ref (b + 7), .ref (b + 8), .ref (b + 9), .ref (b + 10), .null, .int 0, .null, .null])) := by rw [eg10, x_up_ne (by omega)]; exact hb
  have F := xF_up (a := b + 11) (e := (.inl (dA 1, 36, .inr (.inl (fun _ => 0))))) F (by omega) (by omega)
  rw [← eg10] at F
  replace ktx : g10 (b + 1) = some (.inl (dA 0, 60, .inl (fun _ => 0))) := by rw [eg10, x_up_ne (by omega)]; exact ktx
  replace kst : g10 (b + 2) = some (.inl (dA 0, 69, .inl (fun _ => 0))) := by rw [eg10, x_up_ne (by omega)]; exact kst
  replace kde : g10 (b + 3) = some (.inl (dA 0, 1380, .inl (fun _ => 0))) := by rw [eg10, x_up_ne (by omega)]; exact kde
  replace kim : g10 (b + 4) = some (.inl (dA 0, 138, .inl (fun _ => 0))) := by rw [eg10, x_up_ne (by omega)]; exact kim
  replace kse : g10 (b + 5) = some (.inl (dA 1, 2, .inr (.inl (fun _ => 0)))) := by rw [eg10, x_up_ne (by omega)]; exact kse
  replace kkp : g10 (b + 6) = some (.inl (dA 2, 2, .inl (fun _ => 0))) := by rw [eg10, x_up_ne (by omega)]; exact kkp
  replace ksu : g10 (b + 7) = some (.inl (dA 0, 70, .inl (fun _ => 0))) := by rw [eg10, x_up_ne (by omega)]; exact ksu
  replace kwa : g10 (b + 8) = some (.inl (dA 0, 7, .inl (fun _ => 0))) := by rw [eg10, x_up_ne (by omega)]; exact kwa
  replace kfc : g10 (b + 9) = some (.inl (dA 0, 10, .inl (fun _ => 0))) := by rw [eg10, x_up_ne (by omega)]; exact kfc
  replace kpo : g10 (b + 10) = some (.inl (dA 0, 10, .inl (fun _ => 0))) := by rw [eg10, x_up_ne (by omega)]; exact kpo
  have kro : g10 (b + 11) = some (.inl (dA 1, 36, .inr (.inl (fun _ => 0)))) := by rw [eg10]; exact x_up_eq
  refine x_putF G kX5 inX5 17 (by decide) (by decide +kernel) rfl (hin rfl) rfl dX5_init_94 hb rfl rfl (Nat.le_of_ble_eq_true rfl) ?_
  obtain ⟨q10, eq10⟩ : ∃ g : xH, g = x_up g10 b (.inr (5, List.set [.ref (b + 1), .int 0, .int (-1), .ref (b + 2), .ref (b + 3), .int 0, .long 0, .ref (b + 4), .ref (b + 5), .ref (b + 6), .int 0, .int 0, .int 0, .ref (b + 7), .ref (b + 8), .ref (b + 9), .ref (b + 10), .null, .int 0, .null, .null] 17 (.ref (b + 11)))) := ⟨_, rfl⟩
  refine x_as rfl rfl eq10.symm ?_
  replace hb : q10 b = some (.inr (5, [.ref (b + 1), .int 0, .int (-1), .ref (b + 2), .ref (b + 3), .int 0, .long 0, .ref (b + 4), .ref (b + 5), .ref (b + 6), .int 0, .int 0, .int 0, .ref (b + 7), .ref (b + 8), .ref (b + 9), .ref (b + 10), .ref (b + 11), .int 0, .null, .null])) := by rw [eq10]; exact x_up_eq
  have F := xF_up (a := b) (e := .inr (5, List.set [.ref (b + 1), .int 0, .int (-1), .ref (b + 2), .ref (b + 3), .int 0, .long 0, .ref (b + 4), .ref (b + 5), .ref (b + 6), .int 0, .int 0, .int 0, .ref (b + 7), .ref (b + 8), .ref (b + 9), .ref (b + 10), .null, .int 0, .null, .null] 17 (.ref (b + 11)))) F (by omega) (by omega)
  rw [← eq10] at F
  replace ktx : q10 (b + 1) = some (.inl (dA 0, 60, .inl (fun _ => 0))) := by rw [eq10, x_up_ne (by omega)]; exact ktx
  replace kst : q10 (b + 2) = some (.inl (dA 0, 69, .inl (fun _ => 0))) := by rw [eq10, x_up_ne (by omega)]; exact kst
  replace kde : q10 (b + 3) = some (.inl (dA 0, 1380, .inl (fun _ => 0))) := by rw [eq10, x_up_ne (by omega)]; exact kde
  replace kim : q10 (b + 4) = some (.inl (dA 0, 138, .inl (fun _ => 0))) := by rw [eq10, x_up_ne (by omega)]; exact kim
  replace kse : q10 (b + 5) = some (.inl (dA 1, 2, .inr (.inl (fun _ => 0)))) := by rw [eq10, x_up_ne (by omega)]; exact kse
  replace kkp : q10 (b + 6) = some (.inl (dA 2, 2, .inl (fun _ => 0))) := by rw [eq10, x_up_ne (by omega)]; exact kkp
  replace ksu : q10 (b + 7) = some (.inl (dA 0, 70, .inl (fun _ => 0))) := by rw [eq10, x_up_ne (by omega)]; exact ksu
  replace kwa : q10 (b + 8) = some (.inl (dA 0, 7, .inl (fun _ => 0))) := by rw [eq10, x_up_ne (by omega)]; exact kwa
  replace kfc : q10 (b + 9) = some (.inl (dA 0, 10, .inl (fun _ => 0))) := by rw [eq10, x_up_ne (by omega)]; exact kfc
  replace kpo : q10 (b + 10) = some (.inl (dA 0, 10, .inl (fun _ => 0))) := by rw [eq10, x_up_ne (by omega)]; exact kpo
  replace kro : q10 (b + 11) = some (.inl (dA 1, 36, .inr (.inl (fun _ => 0)))) := by rw [eq10, x_up_ne (by omega)]; exact kro
  refine x_aload_n G dX5_init_97 rfl ?_
  refine x_bipushV (v := nI 24) G dX5_init_98 (by decide) ?_
  refine x_newL (N := 24) (sz1 := b + 13) G rfl (by decide +kernel) dX5_init_100 (by decide) (by decide) (by decide) (by decide) (by decide) ?_
  obtain ⟨g11, eg11⟩ : ∃ g : xH, g = x_up q10 (b + 12) (.inl (dA 1, 24, .inr (.inl (fun _ => 0)))) := ⟨_, rfl⟩
  refine x_as rfl rfl eg11.symm ?_
  replace hb : g11 b = some (.inr (5, [.ref (b + 1), .int 0, .int (-1), .ref (b + 2), .ref (b + 3), .int 0, .long 0, .ref (b + 4), .ref (b + 5), .ref (b + 6), .int 0, .int 0, .int 0, .ref (b + 7), .ref (b + 8), .ref (b + 9), .ref (b + 10), .ref (b + 11), .int 0, .null, .null])) := by rw [eg11, x_up_ne (by omega)]; exact hb
  have F := xF_up (a := b + 12) (e := (.inl (dA 1, 24, .inr (.inl (fun _ => 0))))) F (by omega) (by omega)
  rw [← eg11] at F
  replace ktx : g11 (b + 1) = some (.inl (dA 0, 60, .inl (fun _ => 0))) := by rw [eg11, x_up_ne (by omega)]; exact ktx
  replace kst : g11 (b + 2) = some (.inl (dA 0, 69, .inl (fun _ => 0))) := by rw [eg11, x_up_ne (by omega)]; exact kst
  replace kde : g11 (b + 3) = some (.inl (dA 0, 1380, .inl (fun _ => 0))) := by rw [eg11, x_up_ne (by omega)]; exact kde
  replace kim : g11 (b + 4) = some (.inl (dA 0, 138, .inl (fun _ => 0))) := by rw [eg11, x_up_ne (by omega)]; exact kim
  replace kse : g11 (b + 5) = some (.inl (dA 1, 2, .inr (.inl (fun _ => 0)))) := by rw [eg11, x_up_ne (by omega)]; exact kse
  replace kkp : g11 (b + 6) = some (.inl (dA 2, 2, .inl (fun _ => 0))) := by rw [eg11, x_up_ne (by omega)]; exact kkp
  replace ksu : g11 (b + 7) = some (.inl (dA 0, 70, .inl (fun _ => 0))) := by rw [eg11, x_up_ne (by omega)]; exact ksu
  replace kwa : g11 (b + 8) = some (.inl (dA 0, 7, .inl (fun _ => 0))) := by rw [eg11, x_up_ne (by omega)]; exact kwa
  replace kfc : g11 (b + 9) = some (.inl (dA 0, 10, .inl (fun _ => 0))) := by rw [eg11, x_up_ne (by omega)]; exact kfc
  replace kpo : g11 (b + 10) = some (.inl (dA 0, 10, .inl (fun _ => 0))) := by rw [eg11, x_up_ne (by omega)]; exact kpo
  replace kro : g11 (b + 11) = some (.inl (dA 1, 36, .inr (.inl (fun _ => 0)))) := by rw [eg11, x_up_ne (by omega)]; exact kro
  have kch : g11 (b + 12) = some (.inl (dA 1, 24, .inr (.inl (fun _ => 0)))) := by rw [eg11]; exact x_up_eq
  refine x_putF G kX5 inX5 19 (by decide) (by decide +kernel) rfl (hin rfl) rfl dX5_init_102 hb rfl rfl (Nat.le_of_ble_eq_true rfl) ?_
  obtain ⟨q11, eq11⟩ : ∃ g : xH, g = x_up g11 b (.inr (5, List.set [.ref (b + 1), .int 0, .int (-1), .ref (b + 2), .ref (b + 3), .int 0, .long 0, .ref (b + 4), .ref (b + 5), .ref (b + 6), .int 0, .int 0, .int 0, .ref (b + 7), .ref (b + 8), .ref (b + 9), .ref (b + 10), .ref (b + 11), .int 0, .null, .null] 19 (.ref (b + 12)))) := ⟨_, rfl⟩
  refine x_as rfl rfl eq11.symm ?_
  replace hb : q11 b = some (.inr (5, [.ref (b + 1), .int 0, .int (-1), .ref (b + 2), .ref (b + 3), .int 0, .long 0, .ref (b + 4), .ref (b + 5), .ref (b + 6), .int 0, .int 0, .int 0, .ref (b + 7), .ref (b + 8), .ref (b + 9), .ref (b + 10), .ref (b + 11), .int 0, .ref (b + 12), .null])) := by rw [eq11]; exact x_up_eq
  have F := xF_up (a := b) (e := .inr (5, List.set [.ref (b + 1), .int 0, .int (-1), .ref (b + 2), .ref (b + 3), .int 0, .long 0, .ref (b + 4), .ref (b + 5), .ref (b + 6), .int 0, .int 0, .int 0, .ref (b + 7), .ref (b + 8), .ref (b + 9), .ref (b + 10), .ref (b + 11), .int 0, .null, .null] 19 (.ref (b + 12)))) F (by omega) (by omega)
  rw [← eq11] at F
  replace ktx : q11 (b + 1) = some (.inl (dA 0, 60, .inl (fun _ => 0))) := by rw [eq11, x_up_ne (by omega)]; exact ktx
  replace kst : q11 (b + 2) = some (.inl (dA 0, 69, .inl (fun _ => 0))) := by rw [eq11, x_up_ne (by omega)]; exact kst
  replace kde : q11 (b + 3) = some (.inl (dA 0, 1380, .inl (fun _ => 0))) := by rw [eq11, x_up_ne (by omega)]; exact kde
  replace kim : q11 (b + 4) = some (.inl (dA 0, 138, .inl (fun _ => 0))) := by rw [eq11, x_up_ne (by omega)]; exact kim
  replace kse : q11 (b + 5) = some (.inl (dA 1, 2, .inr (.inl (fun _ => 0)))) := by rw [eq11, x_up_ne (by omega)]; exact kse
  replace kkp : q11 (b + 6) = some (.inl (dA 2, 2, .inl (fun _ => 0))) := by rw [eq11, x_up_ne (by omega)]; exact kkp
  replace ksu : q11 (b + 7) = some (.inl (dA 0, 70, .inl (fun _ => 0))) := by rw [eq11, x_up_ne (by omega)]; exact ksu
  replace kwa : q11 (b + 8) = some (.inl (dA 0, 7, .inl (fun _ => 0))) := by rw [eq11, x_up_ne (by omega)]; exact kwa
  replace kfc : q11 (b + 9) = some (.inl (dA 0, 10, .inl (fun _ => 0))) := by rw [eq11, x_up_ne (by omega)]; exact kfc
  replace kpo : q11 (b + 10) = some (.inl (dA 0, 10, .inl (fun _ => 0))) := by rw [eq11, x_up_ne (by omega)]; exact kpo
  replace kro : q11 (b + 11) = some (.inl (dA 1, 36, .inr (.inl (fun _ => 0)))) := by rw [eq11, x_up_ne (by omega)]; exact kro
  replace kch : q11 (b + 12) = some (.inl (dA 1, 24, .inr (.inl (fun _ => 0)))) := by rw [eq11, x_up_ne (by omega)]; exact kch
  refine x_aload_n G dX5_init_105 rfl ?_
  refine x_bipushV (v := nI 6) G dX5_init_106 (by decide) ?_
  refine x_newL (N := 6) (sz1 := b + 14) G rfl (by decide +kernel) dX5_init_108 (by decide) (by decide) (by decide) (by decide) (by decide) ?_
  obtain ⟨g12, eg12⟩ : ∃ g : xH, g = x_up q11 (b + 13) (.inl (dA 1, 6, .inr (.inl (fun _ => 0)))) := ⟨_, rfl⟩
  refine x_as rfl rfl eg12.symm ?_
  replace hb : g12 b = some (.inr (5, [.ref (b + 1), .int 0, .int (-1), .ref (b + 2), .ref (b + 3), .int 0, .long 0, .ref (b + 4), .ref (b + 5), .ref (b + 6), .int 0, .int 0, .int 0, .ref (b + 7), .ref (b + 8), .ref (b + 9), .ref (b + 10), .ref (b + 11), .int 0, .ref (b + 12), .null])) := by rw [eg12, x_up_ne (by omega)]; exact hb
  have F := xF_up (a := b + 13) (e := (.inl (dA 1, 6, .inr (.inl (fun _ => 0))))) F (by omega) (by omega)
  rw [← eg12] at F
  replace ktx : g12 (b + 1) = some (.inl (dA 0, 60, .inl (fun _ => 0))) := by rw [eg12, x_up_ne (by omega)]; exact ktx
  replace kst : g12 (b + 2) = some (.inl (dA 0, 69, .inl (fun _ => 0))) := by rw [eg12, x_up_ne (by omega)]; exact kst
  replace kde : g12 (b + 3) = some (.inl (dA 0, 1380, .inl (fun _ => 0))) := by rw [eg12, x_up_ne (by omega)]; exact kde
  replace kim : g12 (b + 4) = some (.inl (dA 0, 138, .inl (fun _ => 0))) := by rw [eg12, x_up_ne (by omega)]; exact kim
  replace kse : g12 (b + 5) = some (.inl (dA 1, 2, .inr (.inl (fun _ => 0)))) := by rw [eg12, x_up_ne (by omega)]; exact kse
  replace kkp : g12 (b + 6) = some (.inl (dA 2, 2, .inl (fun _ => 0))) := by rw [eg12, x_up_ne (by omega)]; exact kkp
  replace ksu : g12 (b + 7) = some (.inl (dA 0, 70, .inl (fun _ => 0))) := by rw [eg12, x_up_ne (by omega)]; exact ksu
  replace kwa : g12 (b + 8) = some (.inl (dA 0, 7, .inl (fun _ => 0))) := by rw [eg12, x_up_ne (by omega)]; exact kwa
  replace kfc : g12 (b + 9) = some (.inl (dA 0, 10, .inl (fun _ => 0))) := by rw [eg12, x_up_ne (by omega)]; exact kfc
  replace kpo : g12 (b + 10) = some (.inl (dA 0, 10, .inl (fun _ => 0))) := by rw [eg12, x_up_ne (by omega)]; exact kpo
  replace kro : g12 (b + 11) = some (.inl (dA 1, 36, .inr (.inl (fun _ => 0)))) := by rw [eg12, x_up_ne (by omega)]; exact kro
  replace kch : g12 (b + 12) = some (.inl (dA 1, 24, .inr (.inl (fun _ => 0)))) := by rw [eg12, x_up_ne (by omega)]; exact kch
  have kov : g12 (b + 13) = some (.inl (dA 1, 6, .inr (.inl (fun _ => 0)))) := by rw [eg12]; exact x_up_eq
  refine x_putF G kX5 inX5 20 (by decide) (by decide +kernel) rfl (hin rfl) rfl dX5_init_110 hb rfl rfl (Nat.le_of_ble_eq_true rfl) ?_
  obtain ⟨q12, eq12⟩ : ∃ g : xH, g = x_up g12 b (.inr (5, List.set [.ref (b + 1), .int 0, .int (-1), .ref (b + 2), .ref (b + 3), .int 0, .long 0, .ref (b + 4), .ref (b + 5), .ref (b + 6), .int 0, .int 0, .int 0, .ref (b + 7), .ref (b + 8), .ref (b + 9), .ref (b + 10), .ref (b + 11), .int 0, .ref (b + 12), .null] 20 (.ref (b + 13)))) := ⟨_, rfl⟩
  refine x_as rfl rfl eq12.symm ?_
  replace hb : q12 b = some (.inr (5, [.ref (b + 1), .int 0, .int (-1), .ref (b + 2), .ref (b + 3), .int 0, .long 0, .ref (b + 4), .ref (b + 5), .ref (b + 6), .int 0, .int 0, .int 0, .ref (b + 7), .ref (b + 8), .ref (b + 9), .ref (b + 10), .ref (b + 11), .int 0, .ref (b + 12), .ref (b + 13)])) := by rw [eq12]; exact x_up_eq
  have F := xF_up (a := b) (e := .inr (5, List.set [.ref (b + 1), .int 0, .int (-1), .ref (b + 2), .ref (b + 3), .int 0, .long 0, .ref (b + 4), .ref (b + 5), .ref (b + 6), .int 0, .int 0, .int 0, .ref (b + 7), .ref (b + 8), .ref (b + 9), .ref (b + 10), .ref (b + 11), .int 0, .ref (b + 12), .null] 20 (.ref (b + 13)))) F (by omega) (by omega)
  rw [← eq12] at F
  replace ktx : q12 (b + 1) = some (.inl (dA 0, 60, .inl (fun _ => 0))) := by rw [eq12, x_up_ne (by omega)]; exact ktx
  replace kst : q12 (b + 2) = some (.inl (dA 0, 69, .inl (fun _ => 0))) := by rw [eq12, x_up_ne (by omega)]; exact kst
  replace kde : q12 (b + 3) = some (.inl (dA 0, 1380, .inl (fun _ => 0))) := by rw [eq12, x_up_ne (by omega)]; exact kde
  replace kim : q12 (b + 4) = some (.inl (dA 0, 138, .inl (fun _ => 0))) := by rw [eq12, x_up_ne (by omega)]; exact kim
  replace kse : q12 (b + 5) = some (.inl (dA 1, 2, .inr (.inl (fun _ => 0)))) := by rw [eq12, x_up_ne (by omega)]; exact kse
  replace kkp : q12 (b + 6) = some (.inl (dA 2, 2, .inl (fun _ => 0))) := by rw [eq12, x_up_ne (by omega)]; exact kkp
  replace ksu : q12 (b + 7) = some (.inl (dA 0, 70, .inl (fun _ => 0))) := by rw [eq12, x_up_ne (by omega)]; exact ksu
  replace kwa : q12 (b + 8) = some (.inl (dA 0, 7, .inl (fun _ => 0))) := by rw [eq12, x_up_ne (by omega)]; exact kwa
  replace kfc : q12 (b + 9) = some (.inl (dA 0, 10, .inl (fun _ => 0))) := by rw [eq12, x_up_ne (by omega)]; exact kfc
  replace kpo : q12 (b + 10) = some (.inl (dA 0, 10, .inl (fun _ => 0))) := by rw [eq12, x_up_ne (by omega)]; exact kpo
  replace kro : q12 (b + 11) = some (.inl (dA 1, 36, .inr (.inl (fun _ => 0)))) := by rw [eq12, x_up_ne (by omega)]; exact kro
  replace kch : q12 (b + 12) = some (.inl (dA 1, 24, .inr (.inl (fun _ => 0)))) := by rw [eq12, x_up_ne (by omega)]; exact kch
  replace kov : q12 (b + 13) = some (.inl (dA 1, 6, .inr (.inl (fun _ => 0)))) := by rw [eq12, x_up_ne (by omega)]; exact kov
  rw [← in_s0] at kst
  have M : Md dA q12 b (fun _ => 0) 0 (-1) (in_s 61) (fun _ => 0) 0 0 (fun _ => 0) (fun _ => 0) (fun _ => 0) 0 0 0 (fun _ => 0) (fun _ => 0) (fun _ => 0) (fun _ => 0) (fun _ => 0) 0 (fun _ => 0) (fun _ => 0) := ⟨hb, ktx, kst, kde, kim, kse, kkp, ksu, kwa, kfc, kpo, kro, kch, kov⟩
  refine x_bipushV (v := nI 61) G dX5_init_113 (by decide) ?_
  refine x_istore_n G dX5_init_115 (by decide) ?_
  refine x_loop (σ := Unit) (fun j _ => [(0, .ref b), (1, .int (nI j))]) 69 (fun j _ h1 sz1 => 61 ≤ j ∧ sz1 = b + 14 ∧ Md dA h1 b (fun _ => 0) 0 (-1) (in_s j) (fun _ => 0) 0 0 (fun _ => 0) (fun _ => 0) (fun _ => 0) 0 0 0 (fun _ => 0) (fun _ => 0) (fun _ => 0) (fun _ => 0) (fun _ => 0) 0 (fun _ => 0) (fun _ => 0) ∧ xF b (b + 14) h h1) ?_ ?_ 61 () _ _ (by decide) ⟨by decide, rfl, M, F⟩
  · intro j _ h1 sz1 hj hI nx
    try dsimp only at hI nx ⊢
    obtain ⟨h61, hs, M, F⟩ := hI
    refine x_iload_n G dX5_init_116 rfl ?_
    refine x_bipushV (v := nI 69) G dX5_init_117 (by decide) ?_
    refine x_icmp_ge G 135 dX5_init_119 (by decide) (fun c_119 => ?_) (fun c_119 => ?_)
    · exact absurd c_119 (nI_ge hj (by omega))
    · refine x_aload_n G dX5_init_122 rfl ?_
      refine x_get G kX5 inX5 3 (by decide) (by decide +kernel) dX5_init_123 (md_o M) rfl ?_
      refine x_iload_n G dX5_init_126 rfl ?_
      refine x_iconstV (v := nI 1) G dX5_init_127 (by decide) ?_
      refine x_iastN G dX5_init_128 (md_st M) (by omega) (by decide) ?_
      rw [in_ss h61]
      have M := md_st_s M (in_s (j + 1))
      have F := xF_up (a := b + 2) (e := .inl (dA 0, 69, .inl (in_s (j + 1)))) F (by omega) (by omega)
      refine x_iinc G dX5_init_129 rfl (by decide) ?_
      refine x_locE (lv2 := [(0, .ref b), (1, .int (nI (j + 1)))]) (by rw [nI_succ j]; rfl) ?_
      refine x_goto G 116 dX5_init_132 (by decide) ?_
      exact nx () _ _ ⟨by omega, hs, M, F⟩
  · intro _ h1 sz1 hI
    try dsimp only at hI ⊢
    obtain ⟨h61, hs, M, F⟩ := hI
    refine x_iload_n G dX5_init_116 rfl ?_
    refine x_bipushV (v := nI 69) G dX5_init_117 (by decide) ?_
    refine x_icmp_ge G 135 dX5_init_119 (by decide) (fun c_119 => ?_) (fun c_119 => ?_)
    · exact x_vret G dX5_init_135 (by rw [hs]; exact hpost _ M F)
    · exact absurd (nI_le (Nat.le_refl _) (by omega)) c_119
