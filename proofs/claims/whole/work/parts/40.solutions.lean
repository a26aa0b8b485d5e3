/-! ## The class: Solutions, sixteen cells w .. w + 15 (object, rows, six of them, lowest, four of them, gains, lacks, step); the seven rows (slot 6 is the step) may change places -/
theorem asg_self (vm : Vm) (c : ClassId) : vm.assignable c c = true := by
  unfold Vm.assignable
  rw [show (256 : Nat) = 255 + 1 from rfl, Vm.assignableAux, beq_self_eq_true, Bool.true_or]
section XA
variable {p : Program} {l : Launch} {e : Env} {R : Room} {s : State} {m : MethodId} {args : Array Value} {below : List Frame} {meth : Method} {c : Code} {D : va_G} {dA : Nat → ClassId} {nL : Nat} {h0 : xH} {sz0 mc ms : Nat} {Post : Option Value → xH → Nat → Prop} {cells slots pc : Nat} {lv : List (Nat × Value)} {st : List Value} {h : xH} {sz : Nat} {cc : ByteArray} {Ts : List Cond} {own : String} {ret : Option FieldType}
theorem x_aast (G : xG p s m args meth c cc nL Ts own ret D dA sz0) {a n n1 y k : Nat} {f : Nat → Option Nat} {g : Nat → Int64} (hd : decode cc pc = .ok (.aastore, 1)) (ha : h a = some (.inl (dA 5, n, .inr (.inr (.inr (.inr f)))))) (hy : h y = some (.inl (dA 1, n1, .inr (.inl g)))) (hk : k < n) (hn : n < 2 ^ 31) (kk : xV p l e R s m args below meth c D dA nL h0 sz0 mc ms Post cells slots (pc + 1) lv st (x_up h a (.inl (dA 5, n, .inr (.inr (.inr (.inr (va_up f k (some y)))))))) sz) : xV p l e R s m args below meth c D dA nL h0 sz0 mc ms Post cells slots pc lv (.ref y :: .int (nI k) :: .ref a :: st) h sz := fun H locs ls hR hz hS hv => by
  have hi : vp_in (nI k) n := vp_in_nI hk hn
  have ek : (nI k).toNatClampNeg = k := nI_clamp (Nat.lt_trans hk hn)
  have h0i : ¬ nI k < 0 := fun q => hi (Or.inl q)
  have hP1 : va_at D vwCl (a, .inl (dA 5, n, .inr (.inr (.inr (.inr f))))) H := xR_at hR ha
  have hP2 : va_at D vwCl (y, .inl (dA 1, n1, .inr (.inl g))) H := xR_at hR hy
  have hK := G.2.2.2.2.2.1
  obtain ⟨comp, c5, k5, f1, -, f3, f4, f5⟩ := xO_spec (t := .long) (G.2.2.2.2.2.2.2.2.1 _ (by simp [xNw]))
  have e5 : c5 = dA 5 := Option.some.inj (f5.symm.trans (hK.2 5 _ rfl).2)
  have e1 : comp = dA 1 := Option.some.inj (f1.symm.trans (hK.2 1 _ rfl).2)
  subst e5
  subst e1
  obtain ⟨k1, hk1, -⟩ := ((hK.2 1 _ rfl).1 n1 (fun j => .long (g j))).2
  refine W.aast (cell := vp_cell (dA 5) (n, .inr (.inr (.inr (.inr f))))) (cv := vp_cell (dA 1) (n1, .inr (.inl g))) G.1 G.2.1 hP1 (fun q z => by cases z) (fun z => by cases z) f3 f4 rfl hk1 ⟨h0i, by show _ < (arrV _ _ _).slots.size; rw [arrV_size, ek]; exact hk⟩ hP2 (fun q z => by cases z) hk1 (asg_self s.vm (dA 1)) rfl rfl hd fun H1 e z oq => ?_
  refine kk H1 _ ls (xR_put hR ha ?_ oq) (z.trans hz) (hS.put z oq (xR_some hR ha)) hv
  show H1[a]? = some (vp_cell _ _)
  rw [e, ek]
  rw [vp_cell_q, vp_cell_q, arrV_store]
  congr 2
  funext q
  by_cases hq : q = k
  · subst hq
    simp [updV, va_up, va_rf]
  · simp [updV, va_up, hq]
end XA
def SlA (dA : Nat → ClassId) (h : xH) (w : Nat) (ad : Nat → Nat) (f lo : Nat → Nat → Int64) (ga la : Nat → Int64) (sg : Int64) (n : Nat) : Prop :=
  h w = some (.inr (2, [.ref (w + 1), .ref (w + 8), .ref (w + 13), .ref (w + 14), .ref (ad 6), .long sg, .int (nI n)])) ∧
  h (w + 1) = some (.inl (dA 5, 6, .inr (.inr (.inr (.inr (fun i => if i < 6 then some (ad i) else none)))))) ∧
  (∀ i, i < 7 → h (ad i) = some (.inl (dA 1, 6, .inr (.inl (f i))))) ∧
  (∀ i, i < 7 → (w + 2 ≤ ad i ∧ ad i < w + 8) ∨ ad i = w + 15) ∧
  (∀ i j, i < 7 → j < 7 → ad i = ad j → i = j) ∧
  h (w + 8) = some (.inl (dA 5, 4, .inr (.inr (.inr (.inr (fun i => if i < 4 then some (w + 9 + i) else none)))))) ∧
  (∀ b, b < 4 → h (w + 9 + b) = some (.inl (dA 1, 6, .inr (.inl (lo b))))) ∧
  h (w + 13) = some (.inl (dA 1, 6, .inr (.inl ga))) ∧
  h (w + 14) = some (.inl (dA 1, 4, .inr (.inl la)))
/-- a row of a list of rows is another -/
def sl_u (f : Nat → Nat → Int64) (k : Nat) (r : Nat → Int64) : Nat → Nat → Int64 := fun i => if i = k then r else f i
section SL
variable {dA : Nat → ClassId} {h : xH} {w : Nat} {ad : Nat → Nat} {f lo : Nat → Nat → Int64} {ga la : Nat → Int64} {sg : Int64} {n : Nat}
theorem sl_o (S : SlA dA h w ad f lo ga la sg n) : h w = some (.inr (2, [.ref (w + 1), .ref (w + 8), .ref (w + 13), .ref (w + 14), .ref (ad 6), .long sg, .int (nI n)])) := S.1
theorem sl_y (S : SlA dA h w ad f lo ga la sg n) : h (w + 1) = some (.inl (dA 5, 6, .inr (.inr (.inr (.inr (fun i => if i < 6 then some (ad i) else none)))))) := S.2.1
theorem sl_f (S : SlA dA h w ad f lo ga la sg n) {i : Nat} (hi : i < 7) : h (ad i) = some (.inl (dA 1, 6, .inr (.inl (f i)))) := S.2.2.1 i hi
theorem sl_rg (S : SlA dA h w ad f lo ga la sg n) {i : Nat} (hi : i < 7) : (w + 2 ≤ ad i ∧ ad i < w + 8) ∨ ad i = w + 15 := S.2.2.2.1 i hi
theorem sl_ij (S : SlA dA h w ad f lo ga la sg n) {i j : Nat} (hi : i < 7) (hj : j < 7) (ne : i ≠ j) : ad i ≠ ad j := fun e => ne (S.2.2.2.2.1 i j hi hj e)
theorem sl_l (S : SlA dA h w ad f lo ga la sg n) : h (w + 8) = some (.inl (dA 5, 4, .inr (.inr (.inr (.inr (fun i => if i < 4 then some (w + 9 + i) else none)))))) := S.2.2.2.2.2.1
theorem sl_b (S : SlA dA h w ad f lo ga la sg n) {b : Nat} (hb : b < 4) : h (w + 9 + b) = some (.inl (dA 1, 6, .inr (.inl (lo b)))) := S.2.2.2.2.2.2.1 b hb
theorem sl_g (S : SlA dA h w ad f lo ga la sg n) : h (w + 13) = some (.inl (dA 1, 6, .inr (.inl ga))) := S.2.2.2.2.2.2.2.1
theorem sl_k (S : SlA dA h w ad f lo ga la sg n) : h (w + 14) = some (.inl (dA 1, 4, .inr (.inl la))) := S.2.2.2.2.2.2.2.2
theorem sl_fo (S : SlA dA h w ad f lo ga la sg n) {h1 : xH} {l1 l2 : Nat} (F : xF l1 l2 h h1) (k : w + 16 ≤ l1 ∨ l2 ≤ w) : SlA dA h1 w ad f lo ga la sg n := by
  refine ⟨by rw [F w (by omega)]; exact sl_o S, by rw [F (w + 1) (by omega)]; exact sl_y S, fun i hi => ?_, S.2.2.2.1, S.2.2.2.2.1, by rw [F (w + 8) (by omega)]; exact sl_l S, fun b hb => by rw [F (w + 9 + b) (by omega)]; exact sl_b S hb, by rw [F (w + 13) (by omega)]; exact sl_g S, by rw [F (w + 14) (by omega)]; exact sl_k S⟩
  have := sl_rg S hi
  rw [F (ad i) (by omega)]
  exact sl_f S hi
theorem sl_os (S : SlA dA h w ad f lo ga la sg n) (sg1 : Int64) (n1 : Nat) : SlA dA (x_up h w (.inr (2, [.ref (w + 1), .ref (w + 8), .ref (w + 13), .ref (w + 14), .ref (ad 6), .long sg1, .int (nI n1)]))) w ad f lo ga la sg1 n1 := by
  refine ⟨x_up_eq, by rw [x_up_ne (by omega)]; exact sl_y S, fun i hi => ?_, S.2.2.2.1, S.2.2.2.2.1, by rw [x_up_ne (by omega)]; exact sl_l S, fun b hb => by rw [x_up_ne (by omega)]; exact sl_b S hb, by rw [x_up_ne (by omega)]; exact sl_g S, by rw [x_up_ne (by omega)]; exact sl_k S⟩
  have := sl_rg S hi
  rw [x_up_ne (by omega)]
  exact sl_f S hi
theorem sl_fs (S : SlA dA h w ad f lo ga la sg n) {k : Nat} (hk : k < 7) (r : Nat → Int64) : SlA dA (x_up h (ad k) (.inl (dA 1, 6, .inr (.inl r)))) w ad (sl_u f k r) lo ga la sg n := by
  have := sl_rg S hk
  refine ⟨by rw [x_up_ne (by omega)]; exact sl_o S, by rw [x_up_ne (by omega)]; exact sl_y S, fun i hi => ?_, S.2.2.2.1, S.2.2.2.2.1, by rw [x_up_ne (by omega)]; exact sl_l S, fun b hb => by rw [x_up_ne (by omega)]; exact sl_b S hb, by rw [x_up_ne (by omega)]; exact sl_g S, by rw [x_up_ne (by omega)]; exact sl_k S⟩
  unfold sl_u
  by_cases e : i = k
  · subst e
    rw [if_pos rfl]
    exact x_up_eq
  · rw [if_neg e, x_up_ne (sl_ij S hi hk e)]
    exact sl_f S hi
theorem sl_bs (S : SlA dA h w ad f lo ga la sg n) {k : Nat} (hk : k < 4) (r : Nat → Int64) : SlA dA (x_up h (w + 9 + k) (.inl (dA 1, 6, .inr (.inl r)))) w ad f (sl_u lo k r) ga la sg n := by
  refine ⟨by rw [x_up_ne (by omega)]; exact sl_o S, by rw [x_up_ne (by omega)]; exact sl_y S, fun i hi => ?_, S.2.2.2.1, S.2.2.2.2.1, by rw [x_up_ne (by omega)]; exact sl_l S, fun b hb => ?_, by rw [x_up_ne (by omega)]; exact sl_g S, by rw [x_up_ne (by omega)]; exact sl_k S⟩
  · have := sl_rg S hi
    rw [x_up_ne (by omega)]
    exact sl_f S hi
  · unfold sl_u
    by_cases e : b = k
    · subst e
      rw [if_pos rfl]
      exact x_up_eq
    · rw [if_neg e, x_up_ne (by omega)]
      exact sl_b S hb
theorem sl_gs (S : SlA dA h w ad f lo ga la sg n) (r : Nat → Int64) : SlA dA (x_up h (w + 13) (.inl (dA 1, 6, .inr (.inl r)))) w ad f lo r la sg n := by
  refine ⟨by rw [x_up_ne (by omega)]; exact sl_o S, by rw [x_up_ne (by omega)]; exact sl_y S, fun i hi => ?_, S.2.2.2.1, S.2.2.2.2.1, by rw [x_up_ne (by omega)]; exact sl_l S, fun b hb => by rw [x_up_ne (by omega)]; exact sl_b S hb, x_up_eq, by rw [x_up_ne (by omega)]; exact sl_k S⟩
  have := sl_rg S hi
  rw [x_up_ne (by omega)]
  exact sl_f S hi
theorem sl_ks (S : SlA dA h w ad f lo ga la sg n) (r : Nat → Int64) : SlA dA (x_up h (w + 14) (.inl (dA 1, 4, .inr (.inl r)))) w ad f lo ga r sg n := by
  refine ⟨by rw [x_up_ne (by omega)]; exact sl_o S, by rw [x_up_ne (by omega)]; exact sl_y S, fun i hi => ?_, S.2.2.2.1, S.2.2.2.2.1, by rw [x_up_ne (by omega)]; exact sl_l S, fun b hb => by rw [x_up_ne (by omega)]; exact sl_b S hb, by rw [x_up_ne (by omega)]; exact sl_g S, x_up_eq⟩
  have := sl_rg S hi
  rw [x_up_ne (by omega)]
  exact sl_f S hi
end SL
