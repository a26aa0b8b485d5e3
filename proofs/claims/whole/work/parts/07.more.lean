/-! ## More rows: constants by their values, places by natural numbers -/
section XM
variable {p : Program} {l : Launch} {e : Env} {R : Room} {s : State} {m : MethodId} {args : Array Value} {below : List Frame} {meth : Method} {c : Code} {D : va_G} {dA : Nat → ClassId} {nL : Nat} {h0 : xH} {sz0 mc ms : Nat} {Post : Option Value → xH → Nat → Prop} {cells slots pc : Nat} {lv : List (Nat × Value)} {st : List Value} {h : xH} {sz : Nat} {cc : ByteArray} {Ts : List Cond} {own : String} {ret : Option FieldType}
theorem x_iconstV {v : Int32} {n : Int} (G : xG p s m args meth c cc nL Ts own ret D dA sz0) (hd : decode cc pc = .ok (.iconst n, 1)) (hv : Int32.ofInt n = v) (kk : xV p l e R s m args below meth c D dA nL h0 sz0 mc ms Post cells slots (pc + 1) lv (.int v :: st) h sz) : xV p l e R s m args below meth c D dA nL h0 sz0 mc ms Post cells slots pc lv st h sz := x_iconst G hd (by rw [hv]; exact kk)
theorem x_bipushV {v : Int32} {n : Int} (G : xG p s m args meth c cc nL Ts own ret D dA sz0) (hd : decode cc pc = .ok (.bipush n, 2)) (hv : (Int8.ofInt n).toInt32 = v) (kk : xV p l e R s m args below meth c D dA nL h0 sz0 mc ms Post cells slots (pc + 2) lv (.int v :: st) h sz) : xV p l e R s m args below meth c D dA nL h0 sz0 mc ms Post cells slots pc lv st h sz := x_bipush G hd (by rw [hv]; exact kk)
theorem x_sipushV {v : Int32} {n : Int} (G : xG p s m args meth c cc nL Ts own ret D dA sz0) (hd : decode cc pc = .ok (.sipush n, 3)) (hv : (Int16.ofInt n).toInt32 = v) (kk : xV p l e R s m args below meth c D dA nL h0 sz0 mc ms Post cells slots (pc + 3) lv (.int v :: st) h sz) : xV p l e R s m args below meth c D dA nL h0 sz0 mc ms Post cells slots pc lv st h sz := x_sipush G hd (by rw [hv]; exact kk)
theorem x_lconstV {v : Int64} {n : Fin 2} (G : xG p s m args meth c cc nL Ts own ret D dA sz0) (hd : decode cc pc = .ok (.lconst n, 1)) (hv : Int64.ofNat (n : Nat) = v) (kk : xV p l e R s m args below meth c D dA nL h0 sz0 mc ms Post cells slots (pc + 1) lv (.long v :: st) h sz) : xV p l e R s m args below meth c D dA nL h0 sz0 mc ms Post cells slots pc lv st h sz := x_lconst G hd (by rw [hv]; exact kk)
theorem x_topE {x y : Int32} (q : x = y) (kk : xV p l e R s m args below meth c D dA nL h0 sz0 mc ms Post cells slots pc lv (.int y :: st) h sz) : xV p l e R s m args below meth c D dA nL h0 sz0 mc ms Post cells slots pc lv (.int x :: st) h sz := by rw [q]; exact kk
theorem x_topEl {x y : Int64} (q : x = y) (kk : xV p l e R s m args below meth c D dA nL h0 sz0 mc ms Post cells slots pc lv (.long y :: st) h sz) : xV p l e R s m args below meth c D dA nL h0 sz0 mc ms Post cells slots pc lv (.long x :: st) h sz := by rw [q]; exact kk
theorem x_locE {lv2 : List (Nat × Value)} (q : lv = lv2) (kk : xV p l e R s m args below meth c D dA nL h0 sz0 mc ms Post cells slots pc lv2 st h sz) : xV p l e R s m args below meth c D dA nL h0 sz0 mc ms Post cells slots pc lv st h sz := by rw [q]; exact kk
theorem x_ialdN {a n k : Nat} {f : Nat → Int32} (G : xG p s m args meth c cc nL Ts own ret D dA sz0) (hd : decode cc pc = .ok (.iaload, 1)) (ha : h a = some (.inl (dA 0, n, .inl f))) (hk : k < n) (hn : n < 2 ^ 31) (kk : xV p l e R s m args below meth c D dA nL h0 sz0 mc ms Post cells slots (pc + 1) lv (.int (f k) :: st) h sz) : xV p l e R s m args below meth c D dA nL h0 sz0 mc ms Post cells slots pc lv (.int (nI k) :: .ref a :: st) h sz := x_iald G hd ha (vp_in_nI hk hn) (by rw [nI_clamp (Nat.lt_trans hk hn)]; exact kk)
theorem x_laldN {a n k : Nat} {f : Nat → Int64} (G : xG p s m args meth c cc nL Ts own ret D dA sz0) (hd : decode cc pc = .ok (.laload, 1)) (ha : h a = some (.inl (dA 1, n, .inr (.inl f)))) (hk : k < n) (hn : n < 2 ^ 31) (kk : xV p l e R s m args below meth c D dA nL h0 sz0 mc ms Post cells slots (pc + 1) lv (.long (f k) :: st) h sz) : xV p l e R s m args below meth c D dA nL h0 sz0 mc ms Post cells slots pc lv (.int (nI k) :: .ref a :: st) h sz := x_lald G hd ha (vp_in_nI hk hn) (by rw [nI_clamp (Nat.lt_trans hk hn)]; exact kk)
theorem x_zaldN {a n k : Nat} {f : Nat → Int32} (G : xG p s m args meth c cc nL Ts own ret D dA sz0) (hd : decode cc pc = .ok (.baload, 1)) (ha : h a = some (.inl (dA 2, n, .inl f))) (hk : k < n) (hn : n < 2 ^ 31) (kk : xV p l e R s m args below meth c D dA nL h0 sz0 mc ms Post cells slots (pc + 1) lv (.int (f k) :: st) h sz) : xV p l e R s m args below meth c D dA nL h0 sz0 mc ms Post cells slots pc lv (.int (nI k) :: .ref a :: st) h sz := x_zald G hd ha (vp_in_nI hk hn) (by rw [nI_clamp (Nat.lt_trans hk hn)]; exact kk)
theorem x_iastN {a n k : Nat} {f : Nat → Int32} {x : Int32} (G : xG p s m args meth c cc nL Ts own ret D dA sz0) (hd : decode cc pc = .ok (.iastore, 1)) (ha : h a = some (.inl (dA 0, n, .inl f))) (hk : k < n) (hn : n < 2 ^ 31) (kk : xV p l e R s m args below meth c D dA nL h0 sz0 mc ms Post cells slots (pc + 1) lv st (x_up h a (.inl (dA 0, n, .inl (upd f k x)))) sz) : xV p l e R s m args below meth c D dA nL h0 sz0 mc ms Post cells slots pc lv (.int x :: .int (nI k) :: .ref a :: st) h sz := x_iast G hd ha (vp_in_nI hk hn) (by rw [nI_clamp (Nat.lt_trans hk hn)]; exact kk)
theorem x_lastN {a n k : Nat} {f : Nat → Int64} {x : Int64} (G : xG p s m args meth c cc nL Ts own ret D dA sz0) (hd : decode cc pc = .ok (.lastore, 1)) (ha : h a = some (.inl (dA 1, n, .inr (.inl f)))) (hk : k < n) (hn : n < 2 ^ 31) (kk : xV p l e R s m args below meth c D dA nL h0 sz0 mc ms Post cells slots (pc + 1) lv st (x_up h a (.inl (dA 1, n, .inr (.inl (vp_updL f k x))))) sz) : xV p l e R s m args below meth c D dA nL h0 sz0 mc ms Post cells slots pc lv (.long x :: .int (nI k) :: .ref a :: st) h sz := x_last G hd ha (vp_in_nI hk hn) (by rw [nI_clamp (Nat.lt_trans hk hn)]; exact kk)
theorem x_zastN {a n k : Nat} {f : Nat → Int32} {x : Int32} (G : xG p s m args meth c cc nL Ts own ret D dA sz0) (hd : decode cc pc = .ok (.bastore, 1)) (ha : h a = some (.inl (dA 2, n, .inl f))) (hk : k < n) (hn : n < 2 ^ 31) (kk : xV p l e R s m args below meth c D dA nL h0 sz0 mc ms Post cells slots (pc + 1) lv st (x_up h a (.inl (dA 2, n, .inl (upd f k (vp_nar .boolean x))))) sz) : xV p l e R s m args below meth c D dA nL h0 sz0 mc ms Post cells slots pc lv (.int x :: .int (nI k) :: .ref a :: st) h sz := x_zast G hd ha (vp_in_nI hk hn) (by rw [nI_clamp (Nat.lt_trans hk hn)]; exact kk)
end XM
section XL
variable {p : Program} {l : Launch} {e : Env} {R : Room} {s : State} {m : MethodId} {args : Array Value} {below : List Frame} {meth : Method} {c : Code} {D : va_G} {dA : Nat → ClassId} {nL : Nat} {h0 : xH} {sz0 mc ms : Nat} {Post : Option Value → xH → Nat → Prop} {cells slots pc : Nat}
theorem x_loop {σ : Type} (lv : Nat → σ → List (Nat × Value)) (N : Nat) (I : Nat → σ → xH → Nat → Prop)
    (hs : ∀ (j : Nat) (u : σ) (h : xH) (sz : Nat), j < N → I j u h sz → (∀ (u1 : σ) (h1 : xH) (sz1 : Nat), I (j + 1) u1 h1 sz1 → xV p l e R s m args below meth c D dA nL h0 sz0 mc ms Post cells slots pc (lv (j + 1) u1) [] h1 sz1) → xV p l e R s m args below meth c D dA nL h0 sz0 mc ms Post cells slots pc (lv j u) [] h sz)
    (hx : ∀ (u : σ) (h : xH) (sz : Nat), I N u h sz → xV p l e R s m args below meth c D dA nL h0 sz0 mc ms Post cells slots pc (lv N u) [] h sz) : ∀ (j : Nat) (u : σ) (h : xH) (sz : Nat), j ≤ N → I j u h sz → xV p l e R s m args below meth c D dA nL h0 sz0 mc ms Post cells slots pc (lv j u) [] h sz := by
  have key : ∀ (n j : Nat) (u : σ) (h : xH) (sz : Nat), j + n = N → I j u h sz → xV p l e R s m args below meth c D dA nL h0 sz0 mc ms Post cells slots pc (lv j u) [] h sz := by
    intro n
    induction n with
    | zero =>
      intro j u h sz hj hI
      have e : j = N := by omega
      subst e
      exact hx u h sz hI
    | succ n ih =>
      intro j u h sz hj hI
      exact hs j u h sz (by omega) hI (fun u1 h1 sz1 k => ih (j + 1) u1 h1 sz1 (by omega) k)
  intro j u h sz hj hI
  exact key (N - j) j u h sz (by omega) hI
theorem x_while {σ : Type} (lv : σ → List (Nat × Value)) (st : List Value) (I : σ → xH → Nat → Prop) (μ : σ → Nat)
    (hs : ∀ (u : σ) (h : xH) (sz : Nat), I u h sz → (∀ (u1 : σ) (h1 : xH) (sz1 : Nat), I u1 h1 sz1 → μ u1 < μ u → xV p l e R s m args below meth c D dA nL h0 sz0 mc ms Post cells slots pc (lv u1) st h1 sz1) → xV p l e R s m args below meth c D dA nL h0 sz0 mc ms Post cells slots pc (lv u) st h sz) : ∀ (u : σ) (h : xH) (sz : Nat), I u h sz → xV p l e R s m args below meth c D dA nL h0 sz0 mc ms Post cells slots pc (lv u) st h sz := by
  have key : ∀ (n : Nat) (u : σ) (h : xH) (sz : Nat), μ u < n → I u h sz → xV p l e R s m args below meth c D dA nL h0 sz0 mc ms Post cells slots pc (lv u) st h sz := by
    intro n
    induction n with
    | zero =>
      intro u h sz hj hI
      exact absurd hj (Nat.not_lt_zero _)
    | succ n ih =>
      intro u h sz hj hI
      exact hs u h sz hI (fun u1 h1 sz1 k g => ih u1 h1 sz1 (by omega) k)
  intro u h sz hI
  exact key (μ u + 1) u h sz (Nat.lt_succ_self _) hI
end XL
/-- outside of lo .. hi nothing is another -/
def xF (lo hi : Nat) (h h1 : xH) : Prop := ∀ q : Nat, (q < lo ∨ hi ≤ q) → h1 q = h q
theorem xF_rf {lo hi : Nat} {h : xH} : xF lo hi h h := fun _ _ => rfl
theorem xF_tr {lo hi : Nat} {h h1 h2 : xH} (a : xF lo hi h h1) (b : xF lo hi h1 h2) : xF lo hi h h2 := fun q k => (b q k).trans (a q k)
theorem xF_up {lo hi a : Nat} {e : va_E} {h h1 : xH} (k : xF lo hi h h1) (h2 : lo ≤ a) (h3 : a < hi) : xF lo hi h (x_up h1 a e) := fun q j => (x_up_ne (by omega)).trans (k q j)
theorem xF_wd {lo hi lo1 hi1 : Nat} {h h1 : xH} (k : xF lo hi h h1) (h2 : lo1 ≤ lo) (h3 : hi ≤ hi1) : xF lo1 hi1 h h1 := fun q j => k q (by omega)
theorem kX0 : xC 0 RX0 TX0 3 tyX0 := ⟨rfl, tyX0_ok, nmX0⟩
theorem kX1 : xC 1 RX1 TX1 9 tyX1 := ⟨rfl, tyX1_ok, nmX1⟩
theorem kX2 : xC 2 RX2 TX2 7 tyX2 := ⟨rfl, tyX2_ok, nmX2⟩
theorem kX3 : xC 3 RX3 TX3 6 tyX3 := ⟨rfl, tyX3_ok, nmX3⟩
theorem kX4 : xC 4 RX4 TX4 10 tyX4 := ⟨rfl, tyX4_ok, nmX4⟩
theorem kX5 : xC 5 RX5 TX5 21 tyX5 := ⟨rfl, tyX5_ok, nmX5⟩
