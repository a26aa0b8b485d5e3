/-! ## The claim out of the walk of the law's body -/
def R_law : String := "UnitVectorsLaw"
def lw_P (b : Addr) (xs : List Int32) (args : Array Value) (s : State) : Prop := args = #[.ref b] ∧ s.IntsAt b xs ∧ xs.length ≤ 2048 ∧ (Jvm.Cond.and given_1 narrow_1).before args s = true
def lw_Q (_ : Array Value) (s : State) (o : Outcome) (t : State) : Prop := o = .returned (some (.int 1)) ∧ Framed s o t [] 600000 7302250
def lw_Z (below : List Frame) (a : Array Value) (s : State) : State → Prop := fun t => ∃ o, t.status = .running ∧ Ended t below o ∧ lw_Q a s o t
/-- what holds at the law's entry: the machine, the code, the tables' words (any of lw_tbl by 'hts w (by decide +kernel)'), the script of L ints xs at the cell b, what the Statement gives of the start (any of its parts by flat_of_before) -/
def lw_At (p : Program) (s : State) (m : MethodId) (meth : Method) (c : Code) (b L : Nat) (xs : Nat → Int32) : Prop :=
  p.tables.exec = Jvm.exec ∧ c.code = code ∧ meth.sig.returnType = ret ∧ c.maxLocals = 4 ∧ s.vm.findClass R_law = some m.cls ∧ (∀ w ∈ lw_tbl, w.before #[Value.ref b] s = true) ∧ va_X b L xs s s.heap ∧ b < s.heap.size ∧ meth.locks = false ∧ (Jvm.Cond.and given_1 narrow_1).before #[Value.ref b] s = true
theorem lw_of {p : Program} {l : Launch} {e : Env} {s : State} {m : MethodId} {below : List Frame} {meth : Method} {c : Code} {b : Nat} {D : va_G} {dA : Nat → ClassId} {H : Heap} {g : JFrame} (h : W p l e room_1 s m #[Value.ref b] below meth c H [] 0 0 (MQ below (xQ D dA (fun _ => none) s.heap.size (fun r _ _ => r = some (.int 1))) #[Value.ref b] s 600000 7302250 (xA (fun _ => none) s.heap.size)) g) : W p l e room_1 s m #[Value.ref b] below meth c H [] 0 0 (lw_Z below #[Value.ref b] s) g := by
  intro T hT X
  obtain ⟨t, a1, o, b1, b2, ⟨⟨r, h1, sz1, eo, er, -⟩, -⟩, Lc, ⟨d1, d2, d3⟩, hf⟩ := h T hT X
  obtain ⟨c1, c2, c3, c4, c5, c6⟩ := d3
  refine ⟨t, a1, o, b1, b2, by rw [eo, er], d1, d2, c1, c2, c3, c4, c5, fun a cl hc => ?_⟩
  obtain ⟨c', k1, k2, k3, k4⟩ := c6 a cl hc
  refine ⟨c', k1, k2, k3, fun i _ => k4 i (fun hm => ?_)⟩
  have hlt : a < s.heap.size := (Array.getElem?_eq_some_iff.mp hc).1
  rcases hf _ hm with q | q
  · exact Bool.noConfusion (show false = true from q)
  · exact absurd hlt (Nat.not_lt.mpr q)
theorem xNw_in : ∀ w ∈ xNw, w ∈ lw_tbl := by decide +kernel
theorem xN_of {s : State} {A : Array Value} (hts : ∀ w ∈ lw_tbl, w.before A s = true) : xN s := by
  intro w hw
  have h1 := hts w (xNw_in w hw)
  simp only [xNw, List.mem_cons, List.not_mem_nil, or_false] at hw
  rcases hw with rfl | rfl | rfl | rfl | rfl | rfl | rfl | rfl | rfl | rfl | rfl | rfl | rfl | rfl | rfl <;> first | exact va_Nw.of rfl h1 | exact h1
theorem xR_none {D : va_G} {A : Nat → Prop} {H : Heap} : xR D A (fun _ => none) H := ⟨[], fun a => ⟨fun h => absurd h List.not_mem_nil, fun h => Bool.noConfusion (show false = true from h)⟩, ⟨fun i j p q h => absurd (List.getElem?_eq_some_iff.mp h).1 (Nat.not_lt_zero _), fun k q h => absurd (List.getElem?_eq_some_iff.mp h).1 (Nat.not_lt_zero _)⟩, fun k q h => absurd (List.getElem?_eq_some_iff.mp h).1 (Nat.not_lt_zero _)⟩
def lw_l {α : Type} (a0 a1 a2 a3 a4 a5 : α) : Nat → α := fun k => match k with
  | 0 => a0
  | 1 => a1
  | 2 => a2
  | 3 => a3
  | 4 => a4
  | _ => a5
/-- the classes at the start -/
theorem va_K_of {s : State} {A : Array Value} (hts : ∀ w ∈ lw_tbl, w.before A s = true) : ∃ (D : va_G) (dA : Nat → ClassId), va_K D vwCl (xT dA) s := by
  obtain ⟨c0, i0, k0⟩ := u_known (C := RX0) (T := TX0) (N := 3) (n := 3) hts wl_X0 (hts _ (by decide +kernel))
  obtain ⟨c1, i1, k1⟩ := u_known (C := RX1) (T := TX1) (N := 9) (n := 9) hts wl_X1 (hts _ (by decide +kernel))
  obtain ⟨c2, i2, k2⟩ := u_known (C := RX2) (T := TX2) (N := 7) (n := 7) hts wl_X2 (hts _ (by decide +kernel))
  obtain ⟨c3, i3, k3⟩ := u_known (C := RX3) (T := TX3) (N := 6) (n := 6) hts wl_X3 (hts _ (by decide +kernel))
  obtain ⟨c4, i4, k4⟩ := u_known (C := RX4) (T := TX4) (N := 10) (n := 10) hts wl_X4 (hts _ (by decide +kernel))
  obtain ⟨c5, i5, k5⟩ := u_known (C := RX5) (T := TX5) (N := 21) (n := 21) hts wl_X5 (hts _ (by decide +kernel))
  obtain ⟨a0, q0, m0, f0, g0, w0⟩ := Cond.arrayClass_spec (type := .int) (hts (.arrayClass .int) (by decide +kernel))
  obtain ⟨a1, q1, m1, f1, g1, w1⟩ := Cond.arrayClass_spec (type := .long) (hts (.arrayClass .long) (by decide +kernel))
  obtain ⟨a2, q2, m2, f2, g2, w2⟩ := Cond.arrayClass_spec (type := .boolean) (hts (.arrayClass .boolean) (by decide +kernel))
  obtain ⟨m3, a3, q3, n3, -, g3, w3, f3⟩ := Cond.arrayOver_spec (hts (.arrayOver (.object "UnitVectors$State")) (by decide +kernel))
  obtain ⟨m4, a4, q4, -, -, g4, w4, f4⟩ := xO_spec (t := .int) (xN_of hts _ (by decide +kernel))
  obtain ⟨m5, a5, q5, -, -, g5, w5, f5⟩ := xO_spec (t := .long) (xN_of hts _ (by decide +kernel))
  refine ⟨(lw_l c0 c1 c2 c3 c4 c5, lw_l i0 i1 i2 i3 i4 i5), lw_l a0 a1 a2 a3 a4 a5, fun k q hq => ?_, fun k q hq => ?_⟩
  · have hk : k < 6 := (List.getElem?_eq_some_iff.mp hq).1
    rcases (show k = 0 ∨ k = 1 ∨ k = 2 ∨ k = 3 ∨ k = 4 ∨ k = 5 by omega) with rfl | rfl | rfl | rfl | rfl | rfl
    · obtain rfl := Option.some.inj hq
      exact k0
    · obtain rfl := Option.some.inj hq
      exact k1
    · obtain rfl := Option.some.inj hq
      exact k2
    · obtain rfl := Option.some.inj hq
      exact k3
    · obtain rfl := Option.some.inj hq
      exact k4
    · obtain rfl := Option.some.inj hq
      exact k5
  · have hk : k < 6 := (List.getElem?_eq_some_iff.mp hq).1
    rcases (show k = 0 ∨ k = 1 ∨ k = 2 ∨ k = 3 ∨ k = 4 ∨ k = 5 by omega) with rfl | rfl | rfl | rfl | rfl | rfl
    · obtain rfl := Option.some.inj hq
      exact ⟨fun n z => ⟨(fun k h => by cases h), q0, g0, m0, w0⟩, f0⟩
    · obtain rfl := Option.some.inj hq
      exact ⟨fun n z => ⟨(fun k h => by cases h), q1, g1, m1, w1⟩, f1⟩
    · obtain rfl := Option.some.inj hq
      exact ⟨fun n z => ⟨(fun k h => by cases h), q2, g2, m2, w2⟩, f2⟩
    · obtain rfl := Option.some.inj hq
      exact ⟨fun n z => ⟨(fun k h => by cases h), q3, g3, m3, w3⟩, q3, m3, g3, w3, n3, f3⟩
    · obtain rfl := Option.some.inj hq
      exact ⟨fun n z => ⟨(fun k h => by cases h), q4, g4, m4, w4⟩, f4⟩
    · obtain rfl := Option.some.inj hq
      exact ⟨fun n z => ⟨(fun k h => by cases h), q5, g5, m5, w5⟩, f5⟩
theorem whole_start {p : Program} {e : Env} {s : State} {m : MethodId} {below : List Frame} {meth : Method} {c : Code} (l : Launch) (hflags : l.flags = flags0) {b L : Nat} {xs : Nat → Int32} (hL : L ≤ 2048) (C0 : lw_At p s m meth c b L xs) : W p l e room_1 s m #[Value.ref b] below meth c s.heap [] 0 0 (lw_Z below #[Value.ref b] s) (entryFrame m ([Value.ref b] : List Value).toArray 4) := by
  obtain ⟨hx, hb, hr, hml, hown, hts, hX, hbl, hlk, -⟩ := C0
  obtain ⟨D, dA, hK⟩ := va_K_of hts
  have hN := xN_of hts
  have hW1 : va_Nw xW1 s := va_Nw.of rfl (hts xW1 (by decide +kernel))
  have G : xG p s m #[Value.ref b] meth c cL_law 4 wsL_law RL (some .boolean) D dA s.heap.size := ⟨hx, hb, hml, hown, fun w hw => hts w (wsL_law_in w hw), hK, hlk, rfl, hN, hr⟩
  have hl := lv_entry [Value.ref b] (n := 4) (Nat.le_of_ble_eq_true rfl)
  rw [lg_entry_eq]
  exact lw_of (law_body (l := l) (e := e) (below := below) G hX hbl hL hW1 s.heap [] _ xR_none rfl va_S.rf hl)
