/-! ## One instruction, a row -/
def x_lk : List (Nat × Value) → Nat → Option Value
  | [], _ => none
  | q :: r, i => if q.1 = i then some q.2 else x_lk r i
theorem x_lk_mem : ∀ {lv : List (Nat × Value)} {i : Nat} {v : Value}, x_lk lv i = some v → (i, v) ∈ lv
  | [], _, _, h => by cases h
  | q :: r, i, v, h => by
    unfold x_lk at h
    by_cases k : q.1 = i
    · rw [if_pos k] at h
      have e : q.2 = v := Option.some.inj h
      rw [← k, ← e]
      exact List.mem_cons_self
    · rw [if_neg k] at h
      exact List.mem_cons_of_mem _ (x_lk_mem h)
def x_ins : List (Nat × Value) → Nat → Value → List (Nat × Value)
  | [], i, v => [(i, v)]
  | q :: r, i, v => if i < q.1 then (i, v) :: q :: r else q :: x_ins r i v
theorem x_ins_mem : ∀ {lv : List (Nat × Value)} {i : Nat} {v : Value} {q : Nat × Value}, q ∈ x_ins lv i v → q ∈ (i, v) :: lv
  | [], _, _, _, h => h
  | p :: r, i, v, q, h => by
    unfold x_ins at h
    by_cases k : i < p.1
    · rw [if_pos k] at h
      exact h
    · rw [if_neg k] at h
      rcases List.mem_cons.mp h with h | h
      · rw [h]
        exact List.mem_cons_of_mem _ List.mem_cons_self
      · rcases List.mem_cons.mp (x_ins_mem h) with h | h
        · rw [h]
          exact List.mem_cons_self
        · exact List.mem_cons_of_mem _ (List.mem_cons_of_mem _ h)
def x_s1 (lv : List (Nat × Value)) (i : Nat) (v : Value) : List (Nat × Value) := x_ins (lv.filter (fun q => !(q.1 == i) && !(q.1 + 1 == i && q.2.category == 2))) i v
def x_s2 (lv : List (Nat × Value)) (i : Nat) (v : Value) : List (Nat × Value) := x_ins (lv.filter (fun q => !(q.1 == i) && (!(q.1 == i + 1) && !(q.1 + 1 == i && q.2.category == 2)))) i v
theorem x_hasI {ls : Array Slot} {nL : Nat} {lv : List (Nat × Value)} {i : Nat} {v : Value} (h : lv_has ls nL ((i, v) :: lv)) : lv_has ls nL (x_ins lv i v) := ⟨h.1, h.2.1, fun q hq => h.2.2 q (x_ins_mem hq)⟩
theorem x_hasL {ls : Array Slot} {nL : Nat} {lv : List (Nat × Value)} {i : Nat} {v : Value} (h : lv_has ls nL lv) (k : x_lk lv i = some v) : ls[i]? = some (.val v) := h.2.2 (i, v) (x_lk_mem k)
section XR
variable {p : Program} {l : Launch} {e : Env} {R : Room} {s : State} {m : MethodId} {args : Array Value} {below : List Frame} {meth : Method} {c : Code} {D : va_G} {dA : Nat → ClassId} {nL : Nat} {h0 : xH} {sz0 mc ms : Nat} {Post : Option Value → xH → Nat → Prop} {cells slots pc : Nat} {lv : List (Nat × Value)} {st : List Value} {h : xH} {sz : Nat} {cc : ByteArray} {Ts : List Cond} {own : String} {ret : Option FieldType}
theorem x_iload_n (G : xG p s m args meth c cc nL Ts own ret D dA sz0) {k : Fin 4} {x : Int32} (hd : decode cc pc = .ok (.iload_n k, 1)) (hl : x_lk lv k = some (.int x)) (kk : xV p l e R s m args below meth c D dA nL h0 sz0 mc ms Post cells slots (pc + 1) lv (.int x :: st) h sz) : xV p l e R s m args below meth c D dA nL h0 sz0 mc ms Post cells slots pc lv st h sz := fun H locs ls hR hz hS hv => lv_iload_n G.1 G.2.1 hd rfl (x_hasL hv hl) (kk H locs ls hR hz hS hv)
theorem x_iload (G : xG p s m args meth c cc nL Ts own ret D dA sz0) {k : Nat} {x : Int32} (hd : decode cc pc = .ok (.iload k, 2)) (hl : x_lk lv k = some (.int x)) (kk : xV p l e R s m args below meth c D dA nL h0 sz0 mc ms Post cells slots (pc + 2) lv (.int x :: st) h sz) : xV p l e R s m args below meth c D dA nL h0 sz0 mc ms Post cells slots pc lv st h sz := fun H locs ls hR hz hS hv => lv_iload G.1 G.2.1 hd (x_hasL hv hl) (kk H locs ls hR hz hS hv)
theorem x_lload_n (G : xG p s m args meth c cc nL Ts own ret D dA sz0) {k : Fin 4} {x : Int64} (hd : decode cc pc = .ok (.lload_n k, 1)) (hl : x_lk lv k = some (.long x)) (kk : xV p l e R s m args below meth c D dA nL h0 sz0 mc ms Post cells slots (pc + 1) lv (.long x :: st) h sz) : xV p l e R s m args below meth c D dA nL h0 sz0 mc ms Post cells slots pc lv st h sz := fun H locs ls hR hz hS hv => lv_lload_n G.1 G.2.1 hd rfl (x_hasL hv hl) (kk H locs ls hR hz hS hv)
theorem x_lload (G : xG p s m args meth c cc nL Ts own ret D dA sz0) {k : Nat} {x : Int64} (hd : decode cc pc = .ok (.lload k, 2)) (hl : x_lk lv k = some (.long x)) (kk : xV p l e R s m args below meth c D dA nL h0 sz0 mc ms Post cells slots (pc + 2) lv (.long x :: st) h sz) : xV p l e R s m args below meth c D dA nL h0 sz0 mc ms Post cells slots pc lv st h sz := fun H locs ls hR hz hS hv => lv_lload G.1 G.2.1 hd (x_hasL hv hl) (kk H locs ls hR hz hS hv)
theorem x_aload_n (G : xG p s m args meth c cc nL Ts own ret D dA sz0) {k : Fin 4} {x : Nat} (hd : decode cc pc = .ok (.aload_n k, 1)) (hl : x_lk lv k = some (.ref x)) (kk : xV p l e R s m args below meth c D dA nL h0 sz0 mc ms Post cells slots (pc + 1) lv (.ref x :: st) h sz) : xV p l e R s m args below meth c D dA nL h0 sz0 mc ms Post cells slots pc lv st h sz := fun H locs ls hR hz hS hv => lv_aload_n G.1 G.2.1 hd rfl (x_hasL hv hl) (kk H locs ls hR hz hS hv)
theorem x_aload (G : xG p s m args meth c cc nL Ts own ret D dA sz0) {k : Nat} {x : Nat} (hd : decode cc pc = .ok (.aload k, 2)) (hl : x_lk lv k = some (.ref x)) (kk : xV p l e R s m args below meth c D dA nL h0 sz0 mc ms Post cells slots (pc + 2) lv (.ref x :: st) h sz) : xV p l e R s m args below meth c D dA nL h0 sz0 mc ms Post cells slots pc lv st h sz := fun H locs ls hR hz hS hv => lv_aload G.1 G.2.1 hd (x_hasL hv hl) (kk H locs ls hR hz hS hv)
theorem x_istore_n (G : xG p s m args meth c cc nL Ts own ret D dA sz0) {k : Fin 4} {x : Int32} (hd : decode cc pc = .ok (.istore_n k, 1)) (hn : (k : Nat) < nL) (kk : xV p l e R s m args below meth c D dA nL h0 sz0 mc ms Post cells slots (pc + 1) (x_s1 lv k (.int x)) st h sz) : xV p l e R s m args below meth c D dA nL h0 sz0 mc ms Post cells slots pc lv (.int x :: st) h sz := fun H locs ls hR hz hS hv => lv_istore_n G.1 G.2.1 hd rfl hv hn rfl (fun ls1 hv1 => kk H locs ls1 hR hz hS (x_hasI hv1))
theorem x_istore (G : xG p s m args meth c cc nL Ts own ret D dA sz0) {k : Nat} {x : Int32} (hd : decode cc pc = .ok (.istore k, 2)) (hn : k < nL) (kk : xV p l e R s m args below meth c D dA nL h0 sz0 mc ms Post cells slots (pc + 2) (x_s1 lv k (.int x)) st h sz) : xV p l e R s m args below meth c D dA nL h0 sz0 mc ms Post cells slots pc lv (.int x :: st) h sz := fun H locs ls hR hz hS hv => lv_istore G.1 G.2.1 hd hv hn rfl (fun ls1 hv1 => kk H locs ls1 hR hz hS (x_hasI hv1))
theorem x_lstore_n (G : xG p s m args meth c cc nL Ts own ret D dA sz0) {k : Fin 4} {x : Int64} (hd : decode cc pc = .ok (.lstore_n k, 1)) (hn : (k : Nat) + 1 < nL) (kk : xV p l e R s m args below meth c D dA nL h0 sz0 mc ms Post cells slots (pc + 1) (x_s2 lv k (.long x)) st h sz) : xV p l e R s m args below meth c D dA nL h0 sz0 mc ms Post cells slots pc lv (.long x :: st) h sz := fun H locs ls hR hz hS hv => lv_lstore_n G.1 G.2.1 hd rfl hv hn rfl (fun ls1 hv1 => kk H locs ls1 hR hz hS (x_hasI hv1))
theorem x_lstore (G : xG p s m args meth c cc nL Ts own ret D dA sz0) {k : Nat} {x : Int64} (hd : decode cc pc = .ok (.lstore k, 2)) (hn : k + 1 < nL) (kk : xV p l e R s m args below meth c D dA nL h0 sz0 mc ms Post cells slots (pc + 2) (x_s2 lv k (.long x)) st h sz) : xV p l e R s m args below meth c D dA nL h0 sz0 mc ms Post cells slots pc lv (.long x :: st) h sz := fun H locs ls hR hz hS hv => lv_lstore G.1 G.2.1 hd hv hn rfl (fun ls1 hv1 => kk H locs ls1 hR hz hS (x_hasI hv1))
theorem x_astore_n (G : xG p s m args meth c cc nL Ts own ret D dA sz0) {k : Fin 4} {x : Nat} (hd : decode cc pc = .ok (.astore_n k, 1)) (hn : (k : Nat) < nL) (kk : xV p l e R s m args below meth c D dA nL h0 sz0 mc ms Post cells slots (pc + 1) (x_s1 lv k (.ref x)) st h sz) : xV p l e R s m args below meth c D dA nL h0 sz0 mc ms Post cells slots pc lv (.ref x :: st) h sz := fun H locs ls hR hz hS hv => lv_astore_n G.1 G.2.1 hd rfl hv hn rfl (fun ls1 hv1 => kk H locs ls1 hR hz hS (x_hasI hv1))
theorem x_astore (G : xG p s m args meth c cc nL Ts own ret D dA sz0) {k : Nat} {x : Nat} (hd : decode cc pc = .ok (.astore k, 2)) (hn : k < nL) (kk : xV p l e R s m args below meth c D dA nL h0 sz0 mc ms Post cells slots (pc + 2) (x_s1 lv k (.ref x)) st h sz) : xV p l e R s m args below meth c D dA nL h0 sz0 mc ms Post cells slots pc lv (.ref x :: st) h sz := fun H locs ls hR hz hS hv => lv_astore G.1 G.2.1 hd hv hn rfl (fun ls1 hv1 => kk H locs ls1 hR hz hS (x_hasI hv1))
theorem x_iinc (G : xG p s m args meth c cc nL Ts own ret D dA sz0) {k : Nat} {n : Int} {x : Int32} (hd : decode cc pc = .ok (.iinc k n, 3)) (hl : x_lk lv k = some (.int x)) (hn : k < nL) (kk : xV p l e R s m args below meth c D dA nL h0 sz0 mc ms Post cells slots (pc + 3) (x_s1 lv k (.int (x + Int32.ofInt n))) st h sz) : xV p l e R s m args below meth c D dA nL h0 sz0 mc ms Post cells slots pc lv st h sz := fun H locs ls hR hz hS hv => by
  obtain ⟨j, hj⟩ := List.getElem?_of_mem (x_lk_mem hl)
  exact lv_iinc G.1 G.2.1 hd hv hj rfl hn rfl (fun ls1 hv1 => kk H locs ls1 hR hz hS (x_hasI hv1))
theorem x_iconst (G : xG p s m args meth c cc nL Ts own ret D dA sz0) {n : Int} (hd : decode cc pc = .ok (.iconst n, 1)) (kk : xV p l e R s m args below meth c D dA nL h0 sz0 mc ms Post cells slots (pc + 1) lv (.int (Int32.ofInt n) :: st) h sz) : xV p l e R s m args below meth c D dA nL h0 sz0 mc ms Post cells slots pc lv st h sz := fun H locs ls hR hz hS hv => lv_iconst G.1 G.2.1 hd rfl (kk H locs ls hR hz hS hv)
theorem x_bipush (G : xG p s m args meth c cc nL Ts own ret D dA sz0) {n : Int} (hd : decode cc pc = .ok (.bipush n, 2)) (kk : xV p l e R s m args below meth c D dA nL h0 sz0 mc ms Post cells slots (pc + 2) lv (.int ((Int8.ofInt n).toInt32) :: st) h sz) : xV p l e R s m args below meth c D dA nL h0 sz0 mc ms Post cells slots pc lv st h sz := fun H locs ls hR hz hS hv => lv_bipush G.1 G.2.1 hd rfl (kk H locs ls hR hz hS hv)
theorem x_sipush (G : xG p s m args meth c cc nL Ts own ret D dA sz0) {n : Int} (hd : decode cc pc = .ok (.sipush n, 3)) (kk : xV p l e R s m args below meth c D dA nL h0 sz0 mc ms Post cells slots (pc + 3) lv (.int ((Int16.ofInt n).toInt32) :: st) h sz) : xV p l e R s m args below meth c D dA nL h0 sz0 mc ms Post cells slots pc lv st h sz := fun H locs ls hR hz hS hv => lv_sipush G.1 G.2.1 hd rfl (kk H locs ls hR hz hS hv)
theorem x_lconst (G : xG p s m args meth c cc nL Ts own ret D dA sz0) {n : Fin 2} (hd : decode cc pc = .ok (.lconst n, 1)) (kk : xV p l e R s m args below meth c D dA nL h0 sz0 mc ms Post cells slots (pc + 1) lv (.long (Int64.ofNat (n : Nat)) :: st) h sz) : xV p l e R s m args below meth c D dA nL h0 sz0 mc ms Post cells slots pc lv st h sz := fun H locs ls hR hz hS hv => lv_lconst G.1 G.2.1 hd rfl (kk H locs ls hR hz hS hv)
theorem x_ldc (G : xG p s m args meth c cc nL Ts own ret D dA sz0) {i : Nat} (v : Int32) (hc : Cond.constant own i v ∈ Ts) (hd : decode cc pc = .ok (.ldc i, 2)) (kk : xV p l e R s m args below meth c D dA nL h0 sz0 mc ms Post cells slots (pc + 2) lv (.int v :: st) h sz) : xV p l e R s m args below meth c D dA nL h0 sz0 mc ms Post cells slots pc lv st h sz := fun H locs ls hR hz hS hv => lv_ldc G.1 G.2.1 G.2.2.2.1 (G.2.2.2.2.1 _ hc) hd (kk H locs ls hR hz hS hv)
theorem x_ldc_w (G : xG p s m args meth c cc nL Ts own ret D dA sz0) {i : Nat} (v : Int32) (hc : Cond.constant own i v ∈ Ts) (hd : decode cc pc = .ok (.ldc_w i, 3)) (kk : xV p l e R s m args below meth c D dA nL h0 sz0 mc ms Post cells slots (pc + 3) lv (.int v :: st) h sz) : xV p l e R s m args below meth c D dA nL h0 sz0 mc ms Post cells slots pc lv st h sz := fun H locs ls hR hz hS hv => lv_ldcw G.1 G.2.1 G.2.2.2.1 (G.2.2.2.2.1 _ hc) hd (kk H locs ls hR hz hS hv)
theorem x_ldc2_w (G : xG p s m args meth c cc nL Ts own ret D dA sz0) {i : Nat} (v : Int64) (hc : Cond.constantLong own i v ∈ Ts) (hd : decode cc pc = .ok (.ldc2_w i, 3)) (kk : xV p l e R s m args below meth c D dA nL h0 sz0 mc ms Post cells slots (pc + 3) lv (.long v :: st) h sz) : xV p l e R s m args below meth c D dA nL h0 sz0 mc ms Post cells slots pc lv st h sz := fun H locs ls hR hz hS hv => lv_ldc2 G.1 G.2.1 G.2.2.2.1 (G.2.2.2.2.1 _ hc) hd (kk H locs ls hR hz hS hv)
theorem x_iadd (G : xG p s m args meth c cc nL Ts own ret D dA sz0) {x y : Int32} (hd : decode cc pc = .ok (.iadd, 1)) (kk : xV p l e R s m args below meth c D dA nL h0 sz0 mc ms Post cells slots (pc + 1) lv (.int (x + y) :: st) h sz) : xV p l e R s m args below meth c D dA nL h0 sz0 mc ms Post cells slots pc lv (.int y :: .int x :: st) h sz := fun H locs ls hR hz hS hv => lv_iadd G.1 G.2.1 hd (kk H locs ls hR hz hS hv)
theorem x_isub (G : xG p s m args meth c cc nL Ts own ret D dA sz0) {x y : Int32} (hd : decode cc pc = .ok (.isub, 1)) (kk : xV p l e R s m args below meth c D dA nL h0 sz0 mc ms Post cells slots (pc + 1) lv (.int (x - y) :: st) h sz) : xV p l e R s m args below meth c D dA nL h0 sz0 mc ms Post cells slots pc lv (.int y :: .int x :: st) h sz := fun H locs ls hR hz hS hv => lv_isub G.1 G.2.1 hd (kk H locs ls hR hz hS hv)
theorem x_imul (G : xG p s m args meth c cc nL Ts own ret D dA sz0) {x y : Int32} (hd : decode cc pc = .ok (.imul, 1)) (kk : xV p l e R s m args below meth c D dA nL h0 sz0 mc ms Post cells slots (pc + 1) lv (.int (x * y) :: st) h sz) : xV p l e R s m args below meth c D dA nL h0 sz0 mc ms Post cells slots pc lv (.int y :: .int x :: st) h sz := fun H locs ls hR hz hS hv => lv_imul G.1 G.2.1 hd (kk H locs ls hR hz hS hv)
theorem x_iand (G : xG p s m args meth c cc nL Ts own ret D dA sz0) {x y : Int32} (hd : decode cc pc = .ok (.iand, 1)) (kk : xV p l e R s m args below meth c D dA nL h0 sz0 mc ms Post cells slots (pc + 1) lv (.int (x &&& y) :: st) h sz) : xV p l e R s m args below meth c D dA nL h0 sz0 mc ms Post cells slots pc lv (.int y :: .int x :: st) h sz := fun H locs ls hR hz hS hv => lv_iand G.1 G.2.1 hd (kk H locs ls hR hz hS hv)
theorem x_ior (G : xG p s m args meth c cc nL Ts own ret D dA sz0) {x y : Int32} (hd : decode cc pc = .ok (.ior, 1)) (kk : xV p l e R s m args below meth c D dA nL h0 sz0 mc ms Post cells slots (pc + 1) lv (.int (x ||| y) :: st) h sz) : xV p l e R s m args below meth c D dA nL h0 sz0 mc ms Post cells slots pc lv (.int y :: .int x :: st) h sz := fun H locs ls hR hz hS hv => lv_ior G.1 G.2.1 hd (kk H locs ls hR hz hS hv)
theorem x_ixor (G : xG p s m args meth c cc nL Ts own ret D dA sz0) {x y : Int32} (hd : decode cc pc = .ok (.ixor, 1)) (kk : xV p l e R s m args below meth c D dA nL h0 sz0 mc ms Post cells slots (pc + 1) lv (.int (x ^^^ y) :: st) h sz) : xV p l e R s m args below meth c D dA nL h0 sz0 mc ms Post cells slots pc lv (.int y :: .int x :: st) h sz := fun H locs ls hR hz hS hv => lv_ixor G.1 G.2.1 hd (kk H locs ls hR hz hS hv)
theorem x_ishl (G : xG p s m args meth c cc nL Ts own ret D dA sz0) {x y : Int32} (hd : decode cc pc = .ok (.ishl, 1)) (kk : xV p l e R s m args below meth c D dA nL h0 sz0 mc ms Post cells slots (pc + 1) lv (.int (x <<< (y &&& 31)) :: st) h sz) : xV p l e R s m args below meth c D dA nL h0 sz0 mc ms Post cells slots pc lv (.int y :: .int x :: st) h sz := fun H locs ls hR hz hS hv => lv_ishl G.1 G.2.1 hd (kk H locs ls hR hz hS hv)
theorem x_ishr (G : xG p s m args meth c cc nL Ts own ret D dA sz0) {x y : Int32} (hd : decode cc pc = .ok (.ishr, 1)) (kk : xV p l e R s m args below meth c D dA nL h0 sz0 mc ms Post cells slots (pc + 1) lv (.int (x >>> (y &&& 31)) :: st) h sz) : xV p l e R s m args below meth c D dA nL h0 sz0 mc ms Post cells slots pc lv (.int y :: .int x :: st) h sz := fun H locs ls hR hz hS hv => lv_ishr G.1 G.2.1 hd (kk H locs ls hR hz hS hv)
theorem x_iushr (G : xG p s m args meth c cc nL Ts own ret D dA sz0) {x y : Int32} (hd : decode cc pc = .ok (.iushr, 1)) (kk : xV p l e R s m args below meth c D dA nL h0 sz0 mc ms Post cells slots (pc + 1) lv (.int ((x.toUInt32 >>> (y.toUInt32 &&& Int32.toUInt32 31)).toInt32) :: st) h sz) : xV p l e R s m args below meth c D dA nL h0 sz0 mc ms Post cells slots pc lv (.int y :: .int x :: st) h sz := fun H locs ls hR hz hS hv => lv_iushr G.1 G.2.1 hd rfl (kk H locs ls hR hz hS hv)
theorem x_idiv (G : xG p s m args meth c cc nL Ts own ret D dA sz0) {x y : Int32} (hd : decode cc pc = .ok (.idiv, 1)) (hne : ¬ y = 0) (kk : xV p l e R s m args below meth c D dA nL h0 sz0 mc ms Post cells slots (pc + 1) lv (.int (x / y) :: st) h sz) : xV p l e R s m args below meth c D dA nL h0 sz0 mc ms Post cells slots pc lv (.int y :: .int x :: st) h sz := fun H locs ls hR hz hS hv => lv_idiv G.1 G.2.1 hd hne (kk H locs ls hR hz hS hv)
theorem x_irem (G : xG p s m args meth c cc nL Ts own ret D dA sz0) {x y : Int32} (hd : decode cc pc = .ok (.irem, 1)) (hne : ¬ y = 0) (kk : xV p l e R s m args below meth c D dA nL h0 sz0 mc ms Post cells slots (pc + 1) lv (.int (x - x / y * y) :: st) h sz) : xV p l e R s m args below meth c D dA nL h0 sz0 mc ms Post cells slots pc lv (.int y :: .int x :: st) h sz := fun H locs ls hR hz hS hv => lv_irem G.1 G.2.1 hd hne (kk H locs ls hR hz hS hv)
theorem x_ineg (G : xG p s m args meth c cc nL Ts own ret D dA sz0) {x : Int32} (hd : decode cc pc = .ok (.ineg, 1)) (kk : xV p l e R s m args below meth c D dA nL h0 sz0 mc ms Post cells slots (pc + 1) lv (.int (-x) :: st) h sz) : xV p l e R s m args below meth c D dA nL h0 sz0 mc ms Post cells slots pc lv (.int x :: st) h sz := fun H locs ls hR hz hS hv => lv_ineg G.1 G.2.1 hd (kk H locs ls hR hz hS hv)
theorem x_ladd (G : xG p s m args meth c cc nL Ts own ret D dA sz0) {x y : Int64} (hd : decode cc pc = .ok (.ladd, 1)) (kk : xV p l e R s m args below meth c D dA nL h0 sz0 mc ms Post cells slots (pc + 1) lv (.long (x + y) :: st) h sz) : xV p l e R s m args below meth c D dA nL h0 sz0 mc ms Post cells slots pc lv (.long y :: .long x :: st) h sz := fun H locs ls hR hz hS hv => lv_ladd G.1 G.2.1 hd (kk H locs ls hR hz hS hv)
theorem x_lsub (G : xG p s m args meth c cc nL Ts own ret D dA sz0) {x y : Int64} (hd : decode cc pc = .ok (.lsub, 1)) (kk : xV p l e R s m args below meth c D dA nL h0 sz0 mc ms Post cells slots (pc + 1) lv (.long (x - y) :: st) h sz) : xV p l e R s m args below meth c D dA nL h0 sz0 mc ms Post cells slots pc lv (.long y :: .long x :: st) h sz := fun H locs ls hR hz hS hv => lv_lsub G.1 G.2.1 hd (kk H locs ls hR hz hS hv)
theorem x_lmul (G : xG p s m args meth c cc nL Ts own ret D dA sz0) {x y : Int64} (hd : decode cc pc = .ok (.lmul, 1)) (kk : xV p l e R s m args below meth c D dA nL h0 sz0 mc ms Post cells slots (pc + 1) lv (.long (x * y) :: st) h sz) : xV p l e R s m args below meth c D dA nL h0 sz0 mc ms Post cells slots pc lv (.long y :: .long x :: st) h sz := fun H locs ls hR hz hS hv => lv_lmul G.1 G.2.1 hd (kk H locs ls hR hz hS hv)
theorem x_land (G : xG p s m args meth c cc nL Ts own ret D dA sz0) {x y : Int64} (hd : decode cc pc = .ok (.land, 1)) (kk : xV p l e R s m args below meth c D dA nL h0 sz0 mc ms Post cells slots (pc + 1) lv (.long (x &&& y) :: st) h sz) : xV p l e R s m args below meth c D dA nL h0 sz0 mc ms Post cells slots pc lv (.long y :: .long x :: st) h sz := fun H locs ls hR hz hS hv => lv_land G.1 G.2.1 hd (kk H locs ls hR hz hS hv)
theorem x_lxor (G : xG p s m args meth c cc nL Ts own ret D dA sz0) {x y : Int64} (hd : decode cc pc = .ok (.lxor, 1)) (kk : xV p l e R s m args below meth c D dA nL h0 sz0 mc ms Post cells slots (pc + 1) lv (.long (x ^^^ y) :: st) h sz) : xV p l e R s m args below meth c D dA nL h0 sz0 mc ms Post cells slots pc lv (.long y :: .long x :: st) h sz := fun H locs ls hR hz hS hv => lv_lxor G.1 G.2.1 hd (kk H locs ls hR hz hS hv)
theorem x_ldiv (G : xG p s m args meth c cc nL Ts own ret D dA sz0) {x y : Int64} (hd : decode cc pc = .ok (.ldiv, 1)) (hne : ¬ y = 0) (kk : xV p l e R s m args below meth c D dA nL h0 sz0 mc ms Post cells slots (pc + 1) lv (.long (x / y) :: st) h sz) : xV p l e R s m args below meth c D dA nL h0 sz0 mc ms Post cells slots pc lv (.long y :: .long x :: st) h sz := fun H locs ls hR hz hS hv => lv_ldiv G.1 G.2.1 hd hne (kk H locs ls hR hz hS hv)
theorem x_lrem (G : xG p s m args meth c cc nL Ts own ret D dA sz0) {x y : Int64} (hd : decode cc pc = .ok (.lrem, 1)) (hne : ¬ y = 0) (kk : xV p l e R s m args below meth c D dA nL h0 sz0 mc ms Post cells slots (pc + 1) lv (.long (x - x / y * y) :: st) h sz) : xV p l e R s m args below meth c D dA nL h0 sz0 mc ms Post cells slots pc lv (.long y :: .long x :: st) h sz := fun H locs ls hR hz hS hv => lv_lrem G.1 G.2.1 hd hne (kk H locs ls hR hz hS hv)
theorem x_lneg (G : xG p s m args meth c cc nL Ts own ret D dA sz0) {x : Int64} (hd : decode cc pc = .ok (.lneg, 1)) (kk : xV p l e R s m args below meth c D dA nL h0 sz0 mc ms Post cells slots (pc + 1) lv (.long (-x) :: st) h sz) : xV p l e R s m args below meth c D dA nL h0 sz0 mc ms Post cells slots pc lv (.long x :: st) h sz := fun H locs ls hR hz hS hv => lv_lneg G.1 G.2.1 hd (kk H locs ls hR hz hS hv)
theorem x_lcmp (G : xG p s m args meth c cc nL Ts own ret D dA sz0) {x y : Int64} (hd : decode cc pc = .ok (.lcmp, 1)) (kk : xV p l e R s m args below meth c D dA nL h0 sz0 mc ms Post cells slots (pc + 1) lv (.int (lg_cmp x y) :: st) h sz) : xV p l e R s m args below meth c D dA nL h0 sz0 mc ms Post cells slots pc lv (.long y :: .long x :: st) h sz := fun H locs ls hR hz hS hv => W.lcmp G.1 G.2.1 hd (kk H locs ls hR hz hS hv)
theorem x_i2l (G : xG p s m args meth c cc nL Ts own ret D dA sz0) {x : Int32} (hd : decode cc pc = .ok (.i2l, 1)) (kk : xV p l e R s m args below meth c D dA nL h0 sz0 mc ms Post cells slots (pc + 1) lv (.long x.toInt64 :: st) h sz) : xV p l e R s m args below meth c D dA nL h0 sz0 mc ms Post cells slots pc lv (.int x :: st) h sz := fun H locs ls hR hz hS hv => lv_i2l G.1 G.2.1 hd rfl (kk H locs ls hR hz hS hv)
theorem x_l2i (G : xG p s m args meth c cc nL Ts own ret D dA sz0) {x : Int64} (hd : decode cc pc = .ok (.l2i, 1)) (kk : xV p l e R s m args below meth c D dA nL h0 sz0 mc ms Post cells slots (pc + 1) lv (.int x.toInt32 :: st) h sz) : xV p l e R s m args below meth c D dA nL h0 sz0 mc ms Post cells slots pc lv (.long x :: st) h sz := fun H locs ls hR hz hS hv => lv_l2i G.1 G.2.1 hd rfl (kk H locs ls hR hz hS hv)
theorem x_dup (G : xG p s m args meth c cc nL Ts own ret D dA sz0) {v : Value} (hd : decode cc pc = .ok (.dup, 1)) (hc : v.category = 1) (kk : xV p l e R s m args below meth c D dA nL h0 sz0 mc ms Post cells slots (pc + 1) lv (v :: v :: st) h sz) : xV p l e R s m args below meth c D dA nL h0 sz0 mc ms Post cells slots pc lv (v :: st) h sz := fun H locs ls hR hz hS hv => lv_dup G.1 G.2.1 hd hc (kk H locs ls hR hz hS hv)
theorem x_pop (G : xG p s m args meth c cc nL Ts own ret D dA sz0) {v : Value} (hd : decode cc pc = .ok (.pop, 1)) (hc : v.category = 1) (kk : xV p l e R s m args below meth c D dA nL h0 sz0 mc ms Post cells slots (pc + 1) lv st h sz) : xV p l e R s m args below meth c D dA nL h0 sz0 mc ms Post cells slots pc lv (v :: st) h sz := fun H locs ls hR hz hS hv => lv_pop G.1 G.2.1 hd hc (kk H locs ls hR hz hS hv)
theorem x_dup2 (G : xG p s m args meth c cc nL Ts own ret D dA sz0) {v w : Value} (hd : decode cc pc = .ok (.dup2, 1)) (hc : v.category = 1) (hc2 : w.category = 1) (kk : xV p l e R s m args below meth c D dA nL h0 sz0 mc ms Post cells slots (pc + 1) lv (v :: w :: v :: w :: st) h sz) : xV p l e R s m args below meth c D dA nL h0 sz0 mc ms Post cells slots pc lv (v :: w :: st) h sz := fun H locs ls hR hz hS hv => lv_dup2_11 G.1 G.2.1 hd hc hc2 (kk H locs ls hR hz hS hv)
theorem x_if_eq (G : xG p s m args meth c cc nL Ts own ret D dA sz0) {x : Int32} {off : Int} (tgt : Nat) (hd : decode cc pc = .ok (.ifCond .eq off, 3)) (ht : (pc : Int) + off = (tgt : Int)) (kt : x = 0 → xV p l e R s m args below meth c D dA nL h0 sz0 mc ms Post cells slots tgt lv st h sz) (kf : ¬ x = 0 → xV p l e R s m args below meth c D dA nL h0 sz0 mc ms Post cells slots (pc + 3) lv st h sz) : xV p l e R s m args below meth c D dA nL h0 sz0 mc ms Post cells slots pc lv (.int x :: st) h sz := fun H locs ls hR hz hS hv => lv_if_eq G.1 G.2.1 hd ht (fun q => kt q H locs ls hR hz hS hv) (fun q => kf q H locs ls hR hz hS hv)
theorem x_if_ne (G : xG p s m args meth c cc nL Ts own ret D dA sz0) {x : Int32} {off : Int} (tgt : Nat) (hd : decode cc pc = .ok (.ifCond .ne off, 3)) (ht : (pc : Int) + off = (tgt : Int)) (kt : ¬ x = 0 → xV p l e R s m args below meth c D dA nL h0 sz0 mc ms Post cells slots tgt lv st h sz) (kf : x = 0 → xV p l e R s m args below meth c D dA nL h0 sz0 mc ms Post cells slots (pc + 3) lv st h sz) : xV p l e R s m args below meth c D dA nL h0 sz0 mc ms Post cells slots pc lv (.int x :: st) h sz := fun H locs ls hR hz hS hv => lv_if_ne G.1 G.2.1 hd ht (fun q => kt q H locs ls hR hz hS hv) (fun q => kf q H locs ls hR hz hS hv)
theorem x_if_lt (G : xG p s m args meth c cc nL Ts own ret D dA sz0) {x : Int32} {off : Int} (tgt : Nat) (hd : decode cc pc = .ok (.ifCond .lt off, 3)) (ht : (pc : Int) + off = (tgt : Int)) (kt : x < 0 → xV p l e R s m args below meth c D dA nL h0 sz0 mc ms Post cells slots tgt lv st h sz) (kf : ¬ x < 0 → xV p l e R s m args below meth c D dA nL h0 sz0 mc ms Post cells slots (pc + 3) lv st h sz) : xV p l e R s m args below meth c D dA nL h0 sz0 mc ms Post cells slots pc lv (.int x :: st) h sz := fun H locs ls hR hz hS hv => lv_if_lt G.1 G.2.1 hd ht (fun q => kt q H locs ls hR hz hS hv) (fun q => kf q H locs ls hR hz hS hv)
theorem x_if_ge (G : xG p s m args meth c cc nL Ts own ret D dA sz0) {x : Int32} {off : Int} (tgt : Nat) (hd : decode cc pc = .ok (.ifCond .ge off, 3)) (ht : (pc : Int) + off = (tgt : Int)) (kt : 0 ≤ x → xV p l e R s m args below meth c D dA nL h0 sz0 mc ms Post cells slots tgt lv st h sz) (kf : ¬ 0 ≤ x → xV p l e R s m args below meth c D dA nL h0 sz0 mc ms Post cells slots (pc + 3) lv st h sz) : xV p l e R s m args below meth c D dA nL h0 sz0 mc ms Post cells slots pc lv (.int x :: st) h sz := fun H locs ls hR hz hS hv => lv_if_ge G.1 G.2.1 hd ht (fun q => kt q H locs ls hR hz hS hv) (fun q => kf q H locs ls hR hz hS hv)
theorem x_if_gt (G : xG p s m args meth c cc nL Ts own ret D dA sz0) {x : Int32} {off : Int} (tgt : Nat) (hd : decode cc pc = .ok (.ifCond .gt off, 3)) (ht : (pc : Int) + off = (tgt : Int)) (kt : 0 < x → xV p l e R s m args below meth c D dA nL h0 sz0 mc ms Post cells slots tgt lv st h sz) (kf : ¬ 0 < x → xV p l e R s m args below meth c D dA nL h0 sz0 mc ms Post cells slots (pc + 3) lv st h sz) : xV p l e R s m args below meth c D dA nL h0 sz0 mc ms Post cells slots pc lv (.int x :: st) h sz := fun H locs ls hR hz hS hv => lv_if_gt G.1 G.2.1 hd ht (fun q => kt q H locs ls hR hz hS hv) (fun q => kf q H locs ls hR hz hS hv)
theorem x_if_le (G : xG p s m args meth c cc nL Ts own ret D dA sz0) {x : Int32} {off : Int} (tgt : Nat) (hd : decode cc pc = .ok (.ifCond .le off, 3)) (ht : (pc : Int) + off = (tgt : Int)) (kt : x ≤ 0 → xV p l e R s m args below meth c D dA nL h0 sz0 mc ms Post cells slots tgt lv st h sz) (kf : ¬ x ≤ 0 → xV p l e R s m args below meth c D dA nL h0 sz0 mc ms Post cells slots (pc + 3) lv st h sz) : xV p l e R s m args below meth c D dA nL h0 sz0 mc ms Post cells slots pc lv (.int x :: st) h sz := fun H locs ls hR hz hS hv => lv_if_le G.1 G.2.1 hd ht (fun q => kt q H locs ls hR hz hS hv) (fun q => kf q H locs ls hR hz hS hv)
theorem x_icmp_eq (G : xG p s m args meth c cc nL Ts own ret D dA sz0) {x y : Int32} {off : Int} (tgt : Nat) (hd : decode cc pc = .ok (.if_icmp .eq off, 3)) (ht : (pc : Int) + off = (tgt : Int)) (kt : x = y → xV p l e R s m args below meth c D dA nL h0 sz0 mc ms Post cells slots tgt lv st h sz) (kf : ¬ x = y → xV p l e R s m args below meth c D dA nL h0 sz0 mc ms Post cells slots (pc + 3) lv st h sz) : xV p l e R s m args below meth c D dA nL h0 sz0 mc ms Post cells slots pc lv (.int y :: .int x :: st) h sz := fun H locs ls hR hz hS hv => lv_icmp_eq G.1 G.2.1 hd ht (fun q => kt q H locs ls hR hz hS hv) (fun q => kf q H locs ls hR hz hS hv)
theorem x_icmp_ne (G : xG p s m args meth c cc nL Ts own ret D dA sz0) {x y : Int32} {off : Int} (tgt : Nat) (hd : decode cc pc = .ok (.if_icmp .ne off, 3)) (ht : (pc : Int) + off = (tgt : Int)) (kt : ¬ x = y → xV p l e R s m args below meth c D dA nL h0 sz0 mc ms Post cells slots tgt lv st h sz) (kf : x = y → xV p l e R s m args below meth c D dA nL h0 sz0 mc ms Post cells slots (pc + 3) lv st h sz) : xV p l e R s m args below meth c D dA nL h0 sz0 mc ms Post cells slots pc lv (.int y :: .int x :: st) h sz := fun H locs ls hR hz hS hv => lv_icmp_ne G.1 G.2.1 hd ht (fun q => kt q H locs ls hR hz hS hv) (fun q => kf q H locs ls hR hz hS hv)
theorem x_icmp_lt (G : xG p s m args meth c cc nL Ts own ret D dA sz0) {x y : Int32} {off : Int} (tgt : Nat) (hd : decode cc pc = .ok (.if_icmp .lt off, 3)) (ht : (pc : Int) + off = (tgt : Int)) (kt : x < y → xV p l e R s m args below meth c D dA nL h0 sz0 mc ms Post cells slots tgt lv st h sz) (kf : ¬ x < y → xV p l e R s m args below meth c D dA nL h0 sz0 mc ms Post cells slots (pc + 3) lv st h sz) : xV p l e R s m args below meth c D dA nL h0 sz0 mc ms Post cells slots pc lv (.int y :: .int x :: st) h sz := fun H locs ls hR hz hS hv => lv_icmp_lt G.1 G.2.1 hd ht (fun q => kt q H locs ls hR hz hS hv) (fun q => kf q H locs ls hR hz hS hv)
theorem x_icmp_ge (G : xG p s m args meth c cc nL Ts own ret D dA sz0) {x y : Int32} {off : Int} (tgt : Nat) (hd : decode cc pc = .ok (.if_icmp .ge off, 3)) (ht : (pc : Int) + off = (tgt : Int)) (kt : y ≤ x → xV p l e R s m args below meth c D dA nL h0 sz0 mc ms Post cells slots tgt lv st h sz) (kf : ¬ y ≤ x → xV p l e R s m args below meth c D dA nL h0 sz0 mc ms Post cells slots (pc + 3) lv st h sz) : xV p l e R s m args below meth c D dA nL h0 sz0 mc ms Post cells slots pc lv (.int y :: .int x :: st) h sz := fun H locs ls hR hz hS hv => lv_icmp_ge G.1 G.2.1 hd ht (fun q => kt q H locs ls hR hz hS hv) (fun q => kf q H locs ls hR hz hS hv)
theorem x_icmp_gt (G : xG p s m args meth c cc nL Ts own ret D dA sz0) {x y : Int32} {off : Int} (tgt : Nat) (hd : decode cc pc = .ok (.if_icmp .gt off, 3)) (ht : (pc : Int) + off = (tgt : Int)) (kt : y < x → xV p l e R s m args below meth c D dA nL h0 sz0 mc ms Post cells slots tgt lv st h sz) (kf : ¬ y < x → xV p l e R s m args below meth c D dA nL h0 sz0 mc ms Post cells slots (pc + 3) lv st h sz) : xV p l e R s m args below meth c D dA nL h0 sz0 mc ms Post cells slots pc lv (.int y :: .int x :: st) h sz := fun H locs ls hR hz hS hv => lv_icmp_gt G.1 G.2.1 hd ht (fun q => kt q H locs ls hR hz hS hv) (fun q => kf q H locs ls hR hz hS hv)
theorem x_icmp_le (G : xG p s m args meth c cc nL Ts own ret D dA sz0) {x y : Int32} {off : Int} (tgt : Nat) (hd : decode cc pc = .ok (.if_icmp .le off, 3)) (ht : (pc : Int) + off = (tgt : Int)) (kt : x ≤ y → xV p l e R s m args below meth c D dA nL h0 sz0 mc ms Post cells slots tgt lv st h sz) (kf : ¬ x ≤ y → xV p l e R s m args below meth c D dA nL h0 sz0 mc ms Post cells slots (pc + 3) lv st h sz) : xV p l e R s m args below meth c D dA nL h0 sz0 mc ms Post cells slots pc lv (.int y :: .int x :: st) h sz := fun H locs ls hR hz hS hv => lv_icmp_le G.1 G.2.1 hd ht (fun q => kt q H locs ls hR hz hS hv) (fun q => kf q H locs ls hR hz hS hv)
theorem x_goto (G : xG p s m args meth c cc nL Ts own ret D dA sz0) {off : Int} (tgt : Nat) (hd : decode cc pc = .ok (.goto off, 3)) (ht : (pc : Int) + off = (tgt : Int)) (kk : xV p l e R s m args below meth c D dA nL h0 sz0 mc ms Post cells slots tgt lv st h sz) : xV p l e R s m args below meth c D dA nL h0 sz0 mc ms Post cells slots pc lv st h sz := fun H locs ls hR hz hS hv => lv_goto G.1 G.2.1 hd ht (kk H locs ls hR hz hS hv)
theorem x_tableOut (G : xG p s m args meth c cc nL Ts own ret D dA sz0) {dflt lo hi : Int} {offs : Array Int} {len : Nat} {x : Int32} (tgt : Nat) (hd : decode cc pc = .ok (.tableswitch dflt lo hi offs, len)) (hx : x.toInt < lo ∨ hi < x.toInt) (ht : (pc : Int) + dflt = (tgt : Int)) (kk : xV p l e R s m args below meth c D dA nL h0 sz0 mc ms Post cells slots tgt lv st h sz) : xV p l e R s m args below meth c D dA nL h0 sz0 mc ms Post cells slots pc lv (.int x :: st) h sz := fun H locs ls hR hz hS hv => lv_tableOut G.1 G.2.1 hd hx ht (kk H locs ls hR hz hS hv)
theorem x_tableIn (G : xG p s m args meth c cc nL Ts own ret D dA sz0) {dflt lo hi off : Int} {offs : Array Int} {len : Nat} {x : Int32} (tgt : Nat) (hd : decode cc pc = .ok (.tableswitch dflt lo hi offs, len)) (h1 : ¬ x.toInt < lo) (h2 : ¬ hi < x.toInt) (ho : offs[(x.toInt - lo).toNat]? = some off) (ht : (pc : Int) + off = (tgt : Int)) (kk : xV p l e R s m args below meth c D dA nL h0 sz0 mc ms Post cells slots tgt lv st h sz) : xV p l e R s m args below meth c D dA nL h0 sz0 mc ms Post cells slots pc lv (.int x :: st) h sz := fun H locs ls hR hz hS hv => lv_tableIn G.1 G.2.1 hd h1 h2 ho ht (kk H locs ls hR hz hS hv)
theorem x_keep (ks : List Nat) (kk : xV p l e R s m args below meth c D dA nL h0 sz0 mc ms Post cells slots pc (lv.filter (fun q => ks.contains q.1)) st h sz) : xV p l e R s m args below meth c D dA nL h0 sz0 mc ms Post cells slots pc lv st h sz := fun H locs ls hR hz hS hv => kk H locs ls hR hz hS ⟨hv.1, hv.2.1, fun q hq => hv.2.2 q (List.mem_filter.mp hq).1⟩
theorem x_top {x : Int32} (kk : ∀ y : Int32, y = x → xV p l e R s m args below meth c D dA nL h0 sz0 mc ms Post cells slots pc lv (.int y :: st) h sz) : xV p l e R s m args below meth c D dA nL h0 sz0 mc ms Post cells slots pc lv (.int x :: st) h sz := kk x rfl
theorem x_topl {x : Int64} (kk : ∀ y : Int64, y = x → xV p l e R s m args below meth c D dA nL h0 sz0 mc ms Post cells slots pc lv (.long y :: st) h sz) : xV p l e R s m args below meth c D dA nL h0 sz0 mc ms Post cells slots pc lv (.long x :: st) h sz := kk x rfl
theorem x_as {lv2 : List (Nat × Value)} {st2 : List Value} {h2 : xH} (el : lv = lv2) (es : st = st2) (eh : h = h2) (kk : xV p l e R s m args below meth c D dA nL h0 sz0 mc ms Post cells slots pc lv2 st2 h2 sz) : xV p l e R s m args below meth c D dA nL h0 sz0 mc ms Post cells slots pc lv st h sz := by subst el; subst es; subst eh; exact kk
theorem xR_put {A : Nat → Prop} {H H1 : Heap} {a : Nat} {e0 e1 : va_E} (r : xR D A h H) (k : h a = some e0) (he : va_at D vwCl (a, e1) H1) (oq : ∀ q : Nat, q ≠ a → H1[q]? = H[q]?) : xR D A (x_up h a e1) H1 := by
  obtain ⟨L, j, h1, h2, hP, hm, hj⟩ := xR_get r k
  exact xR_set k h1 h2 hm hj (hP.set h2 hj he oq) (h2.set hj)
theorem xR_some {A : Nat → Prop} {H : Heap} {a : Nat} {e0 : va_E} (r : xR D A h H) (k : h a = some e0) : A a := xR_in r (by rw [k]; rfl)
/-- a class by its number, with what the rows on fields ask of it -/
def xC (ci : Nat) (C : String) (T : u_T) (N : Nat) (ty : Nat → FieldType) : Prop := vwCl[ci]? = some (C, T, N) ∧ (∀ k, k < N → parseFieldDescriptor (T k).2.2.1 = some (ty k)) ∧ (∀ a, a < N → ∀ b, b < N → a ≠ b → (T a).2.1 ≠ (T b).2.1)
theorem x_get (G : xG p s m args meth c cc nL Ts own ret D dA sz0) {i ci a N : Nat} {C : String} {T : u_T} {ty : Nat → FieldType} {fs : List Value} {v : Value} (K : xC ci C T N ty) (hin : ∀ w ∈ u_ws C T N, w ∈ Ts) (k : Nat) (hk : k < N) (hl : Cond.fieldLink own i (T k).1 (T k).2.1 (T k).2.2.1 ∈ Ts) (hd : decode cc pc = .ok (.getfield i, 3)) (ha : h a = some (.inr (ci, fs))) (hw : fs[k]? = some v) (kk : xV p l e R s m args below meth c D dA nL h0 sz0 mc ms Post cells slots (pc + 3) lv (v :: st) h sz) : xV p l e R s m args below meth c D dA nL h0 sz0 mc ms Post cells slots pc lv (.ref a :: st) h sz := fun H locs ls hR hz hS hv => by
  obtain ⟨L, j, -, -, hP, -, hj⟩ := xR_get hR ha
  exact va_get G.1 G.2.1 G.2.2.2.2.1 hin G.2.2.2.1 G.2.2.2.2.2.1 hP j hj K.1 k hk (G.2.2.2.2.1 _ hl) (fun _ h9 => h9) hw hd (kk H locs ls hR hz hS hv)
theorem x_getN (G : xG p s m args meth c cc nL Ts own ret D dA sz0) {i ci a N : Nat} {C : String} {T : u_T} {ty : Nat → FieldType} {fs : List Value} {v : Value} (K : xC ci C T N ty) (hin : ∀ w ∈ u_ws C T N, w ∈ Ts) (k : Nat) (hk : k < N) {host : String} (hl : Cond.fieldLinkNest own i (T k).1 (T k).2.1 (T k).2.2.1 host ∈ xNw) (hd : decode cc pc = .ok (.getfield i, 3)) (ha : h a = some (.inr (ci, fs))) (hw : fs[k]? = some v) (kk : xV p l e R s m args below meth c D dA nL h0 sz0 mc ms Post cells slots (pc + 3) lv (v :: st) h sz) : xV p l e R s m args below meth c D dA nL h0 sz0 mc ms Post cells slots pc lv (.ref a :: st) h sz := fun H locs ls hR hz hS hv => by
  obtain ⟨L, j, -, -, hP, -, hj⟩ := xR_get hR ha
  exact va_getN G.1 G.2.1 G.2.2.2.2.1 hin G.2.2.2.1 G.2.2.2.2.2.1 hP j hj K.1 k hk (va_Nw.use rfl (G.2.2.2.2.2.2.2.2.1 _ hl)) (fun _ h9 => h9) hw hd (kk H locs ls hR hz hS hv)
theorem x_put (G : xG p s m args meth c cc nL Ts own ret D dA sz0) {i ci a N : Nat} {C : String} {T : u_T} {ty : Nat → FieldType} {fs : List Value} {v : Value} (K : xC ci C T N ty) (hin : ∀ w ∈ u_ws C T N, w ∈ Ts) (k : Nat) (hk : k < N) (hl : Cond.fieldLink own i (T k).1 (T k).2.1 (T k).2.2.1 ∈ Ts) (hf : (T k).2.2.2 = false) (hd : decode cc pc = .ok (.putfield i, 3)) (ha : h a = some (.inr (ci, fs))) (hn : narrow (ty k) v = v) (hfit : fits (ty k) v = true) (hk2 : k < fs.length) (kk : xV p l e R s m args below meth c D dA nL h0 sz0 mc ms Post cells slots (pc + 3) lv st (x_up h a (.inr (ci, fs.set k v))) sz) : xV p l e R s m args below meth c D dA nL h0 sz0 mc ms Post cells slots pc lv (v :: .ref a :: st) h sz := fun H locs ls hR hz hS hv => by
  obtain ⟨hx, hb, hml, hown, hts, hK, hlocks, hsz, hN, hr⟩ := G
  obtain ⟨L, j, h1, h2, hP, hm, hj⟩ := xR_get hR ha
  have hap := va_apart (own := own) hts hin ty K.2.1 K.2.2 hK K.1
  obtain ⟨r, g1, cell, q1, q2, q3, q4⟩ := hP j _ hj
  have hr : r = (C, T, N) := Option.some.inj (g1.symm.trans K.1)
  subst hr
  obtain ⟨hSl, hfc, kC, hkC, hkind⟩ := hK.1 ci _ K.1
  obtain ⟨cf, kf, fi, f, hi, hsl⟩ := hSl k hk
  have hlay := hts _ (hin _ (u_in_lay hk))
  unfold u_lay at hlay
  rw [if_neg (by rw [hf]; decide)] at hlay
  have hst := (u_facts hfc hkC (u_lays hts hin hk) hi).1
  have h6 := u_store hfc hkC hkind hlay hi (K.2.1 k hk) hn hfit
  refine W.putK hx hb (f := f) ⟨hown, hts _ hl, ⟨_, _, _, hi⟩, hst⟩ (by rw [q2]; exact h6) q1 q3 (by rw [hsl]; exact k2_hasslot (q4 k hk)) rfl rfl hd fun H1 e1 e2 e3 => ?_
  rw [hsl] at e1 ⊢
  exact kk H1 _ ls (xR_put hR ha ⟨_, K.1, t_OB.to (V := updV (vp_V fs) k v) ⟨_, e1, q2, q3, t_set q4 hap hk v⟩ (fun j _ => vp_updV_set hk2 v j)⟩ e3) (e2.trans hz) (hS.put e2 e3 (xR_some hR ha)) hv
theorem x_putN (G : xG p s m args meth c cc nL Ts own ret D dA sz0) {i ci a N : Nat} {C : String} {T : u_T} {ty : Nat → FieldType} {fs : List Value} {v : Value} (K : xC ci C T N ty) (hin : ∀ w ∈ u_ws C T N, w ∈ Ts) (k : Nat) (hk : k < N) {host : String} (hl : Cond.fieldLinkNest own i (T k).1 (T k).2.1 (T k).2.2.1 host ∈ xNw) (hf : (T k).2.2.2 = false) (hd : decode cc pc = .ok (.putfield i, 3)) (ha : h a = some (.inr (ci, fs))) (hn : narrow (ty k) v = v) (hfit : fits (ty k) v = true) (hk2 : k < fs.length) (kk : xV p l e R s m args below meth c D dA nL h0 sz0 mc ms Post cells slots (pc + 3) lv st (x_up h a (.inr (ci, fs.set k v))) sz) : xV p l e R s m args below meth c D dA nL h0 sz0 mc ms Post cells slots pc lv (v :: .ref a :: st) h sz := fun H locs ls hR hz hS hv => by
  obtain ⟨hx, hb, hml, hown, hts, hK, hlocks, hsz, hN, hr⟩ := G
  obtain ⟨L, j, h1, h2, hP, hm, hj⟩ := xR_get hR ha
  have hap := va_apart (own := own) hts hin ty K.2.1 K.2.2 hK K.1
  obtain ⟨r, g1, cell, q1, q2, q3, q4⟩ := hP j _ hj
  have hr : r = (C, T, N) := Option.some.inj (g1.symm.trans K.1)
  subst hr
  obtain ⟨hSl, hfc, kC, hkC, hkind⟩ := hK.1 ci _ K.1
  obtain ⟨cf, kf, fi, f, hi, hsl⟩ := hSl k hk
  have hlay := hts _ (hin _ (u_in_lay hk))
  unfold u_lay at hlay
  rw [if_neg (by rw [hf]; decide)] at hlay
  have hst := (u_facts hfc hkC (u_lays hts hin hk) hi).1
  have h6 := u_store hfc hkC hkind hlay hi (K.2.1 k hk) hn hfit
  refine va_WputK hx hb (f := f) hown (va_Nw.use rfl (hN _ hl)) hi hst (by rw [q2]; exact h6) q1 q3 (by rw [hsl]; exact k2_hasslot (q4 k hk)) rfl rfl hd fun H1 e1 e2 e3 => ?_
  rw [hsl] at e1 ⊢
  exact kk H1 _ ls (xR_put hR ha ⟨_, K.1, t_OB.to (V := updV (vp_V fs) k v) ⟨_, e1, q2, q3, t_set q4 hap hk v⟩ (fun j _ => vp_updV_set hk2 v j)⟩ e3) (e2.trans hz) (hS.put e2 e3 (xR_some hR ha)) hv
theorem x_putF (G : xG p s m args meth c cc nL Ts own ret D dA sz0) {i ci a N : Nat} {C : String} {T : u_T} {ty : Nat → FieldType} {fs : List Value} {v : Value} (K : xC ci C T N ty) (hin : ∀ w ∈ u_ws C T N, w ∈ Ts) (k : Nat) (hk : k < N) (hl : Cond.fieldLink own i (T k).1 (T k).2.1 (T k).2.2.1 ∈ Ts) (hf : (T k).2.2.2 = true) (hin2 : meth.name = "<init>") (hdecl : (T k).1 = own) (hd : decode cc pc = .ok (.putfield i, 3)) (ha : h a = some (.inr (ci, fs))) (hn : narrow (ty k) v = v) (hfit : fits (ty k) v = true) (hk2 : k < fs.length) (kk : xV p l e R s m args below meth c D dA nL h0 sz0 mc ms Post cells slots (pc + 3) lv st (x_up h a (.inr (ci, fs.set k v))) sz) : xV p l e R s m args below meth c D dA nL h0 sz0 mc ms Post cells slots pc lv (v :: .ref a :: st) h sz := fun H locs ls hR hz hS hv => by
  obtain ⟨hx, hb, hml, hown, hts, hK, hlocks, hsz, hN, hr⟩ := G
  obtain ⟨L, j, h1, h2, hP, hm, hj⟩ := xR_get hR ha
  have hap := va_apart (own := own) hts hin ty K.2.1 K.2.2 hK K.1
  obtain ⟨r, g1, cell, q1, q2, q3, q4⟩ := hP j _ hj
  have hr : r = (C, T, N) := Option.some.inj (g1.symm.trans K.1)
  subst hr
  obtain ⟨hSl, hfc, kC, hkC, hkind⟩ := hK.1 ci _ K.1
  obtain ⟨cf, kf, fi, f, hi, hsl⟩ := hSl k hk
  have hlay := hts _ (hin _ (u_in_lay hk))
  unfold u_lay at hlay
  rw [if_pos hf] at hlay
  have hst := (u_facts hfc hkC (u_lays hts hin hk) hi).1
  have hcf : m.cls = cf := by
    obtain ⟨_, _, c', _, _, _, -, -, hf', -, -, -, hown2, -⟩ := Cond.laysFinal_spec hlay
    have e1 : c' = cf := by have := hi.symm.trans hf'; simp at this; exact this.1.symm
    rw [hdecl] at hown2
    rw [← e1]; exact Option.some.inj (hown.symm.trans hown2)
  have h6 := u_fits hfc hkC hkind (Or.inr hlay) hi (K.2.1 k hk) hn hfit
  refine W.putFinK hx hb hown (hts _ hl) hi hst hcf hin2 (by rw [q2]; exact h6) q1 q3 (by rw [hsl]; exact k2_hasslot (q4 k hk)) rfl rfl hd fun H1 e1 e2 e3 => ?_
  rw [hsl] at e1 ⊢
  exact kk H1 _ ls (xR_put hR ha ⟨_, K.1, t_OB.to (V := updV (vp_V fs) k v) ⟨_, e1, q2, q3, t_set q4 hap hk v⟩ (fun j _ => vp_updV_set hk2 v j)⟩ e3) (e2.trans hz) (hS.put e2 e3 (xR_some hR ha)) hv
theorem x_iald (G : xG p s m args meth c cc nL Ts own ret D dA sz0) {a n : Nat} {f : Nat → Int32} {i : Int32} (hd : decode cc pc = .ok (.iaload, 1)) (ha : h a = some (.inl (dA 0, n, .inl f))) (hi : vp_in i n) (kk : xV p l e R s m args below meth c D dA nL h0 sz0 mc ms Post cells slots (pc + 1) lv (.int (f i.toNatClampNeg) :: st) h sz) : xV p l e R s m args below meth c D dA nL h0 sz0 mc ms Post cells slots pc lv (.int i :: .ref a :: st) h sz := fun H locs ls hR hz hS hv => by
  obtain ⟨L, j, -, -, hP, -, hj⟩ := xR_get hR ha
  exact va_iald G.1 G.2.1 G.2.2.2.2.2.1 hP j 0 hj rfl hi hd (kk H locs ls hR hz hS hv)
theorem x_lald (G : xG p s m args meth c cc nL Ts own ret D dA sz0) {a n : Nat} {f : Nat → Int64} {i : Int32} (hd : decode cc pc = .ok (.laload, 1)) (ha : h a = some (.inl (dA 1, n, .inr (.inl f)))) (hi : vp_in i n) (kk : xV p l e R s m args below meth c D dA nL h0 sz0 mc ms Post cells slots (pc + 1) lv (.long (f i.toNatClampNeg) :: st) h sz) : xV p l e R s m args below meth c D dA nL h0 sz0 mc ms Post cells slots pc lv (.int i :: .ref a :: st) h sz := fun H locs ls hR hz hS hv => by
  obtain ⟨L, j, -, -, hP, -, hj⟩ := xR_get hR ha
  exact va_lald G.1 G.2.1 G.2.2.2.2.2.1 hP j 1 hj rfl hi hd (kk H locs ls hR hz hS hv)
theorem x_zald (G : xG p s m args meth c cc nL Ts own ret D dA sz0) {a n : Nat} {f : Nat → Int32} {i : Int32} (hd : decode cc pc = .ok (.baload, 1)) (ha : h a = some (.inl (dA 2, n, .inl f))) (hi : vp_in i n) (kk : xV p l e R s m args below meth c D dA nL h0 sz0 mc ms Post cells slots (pc + 1) lv (.int (f i.toNatClampNeg) :: st) h sz) : xV p l e R s m args below meth c D dA nL h0 sz0 mc ms Post cells slots pc lv (.int i :: .ref a :: st) h sz := fun H locs ls hR hz hS hv => by
  obtain ⟨L, j, -, -, hP, -, hj⟩ := xR_get hR ha
  exact va_zald G.1 G.2.1 G.2.2.2.2.2.1 hP j 2 hj rfl hi hd (kk H locs ls hR hz hS hv)
theorem x_iast (G : xG p s m args meth c cc nL Ts own ret D dA sz0) {a n : Nat} {f : Nat → Int32} {i : Int32} {x : Int32} (hd : decode cc pc = .ok (.iastore, 1)) (ha : h a = some (.inl (dA 0, n, .inl f))) (hi : vp_in i n) (kk : xV p l e R s m args below meth c D dA nL h0 sz0 mc ms Post cells slots (pc + 1) lv st (x_up h a (.inl (dA 0, n, .inl (upd f i.toNatClampNeg x)))) sz) : xV p l e R s m args below meth c D dA nL h0 sz0 mc ms Post cells slots pc lv (.int x :: .int i :: .ref a :: st) h sz := fun H locs ls hR hz hS hv => by
  have hP1 : va_at D vwCl (a, .inl (dA 0, n, .inl f)) H := xR_at hR ha
  refine W.iast G.1 G.2.1 hP1 ((G.2.2.2.2.2.1.2 0 _ rfl).1 n (fun j => .int (f j))) (fun q => by cases q) (by show ¬ (i < 0 ∨ (arrV _ _ _).slots.size ≤ _); rw [arrV_size]; exact hi) rfl rfl hd fun H1 e z oq => ?_
  refine kk H1 _ ls (xR_put hR ha ?_ oq) (z.trans hz) (hS.put z oq (xR_some hR ha)) hv
  show H1[a]? = some (vp_cell _ _)
  rw [e]
  rw [vp_cell_i, vp_cell_i, arrV_store]
  congr 2
  funext q
  by_cases hq : q = i.toNatClampNeg
  · subst hq
    simp [updV, upd]
    
  · simp [updV, upd, hq]
theorem x_last (G : xG p s m args meth c cc nL Ts own ret D dA sz0) {a n : Nat} {f : Nat → Int64} {i : Int32} {x : Int64} (hd : decode cc pc = .ok (.lastore, 1)) (ha : h a = some (.inl (dA 1, n, .inr (.inl f)))) (hi : vp_in i n) (kk : xV p l e R s m args below meth c D dA nL h0 sz0 mc ms Post cells slots (pc + 1) lv st (x_up h a (.inl (dA 1, n, .inr (.inl (vp_updL f i.toNatClampNeg x))))) sz) : xV p l e R s m args below meth c D dA nL h0 sz0 mc ms Post cells slots pc lv (.long x :: .int i :: .ref a :: st) h sz := fun H locs ls hR hz hS hv => by
  have hP1 : va_at D vwCl (a, .inl (dA 1, n, .inr (.inl f))) H := xR_at hR ha
  refine W.last G.1 G.2.1 hP1 ((G.2.2.2.2.2.1.2 1 _ rfl).1 n (fun j => .long (f j))) (fun q => by cases q) (by show ¬ (i < 0 ∨ (arrV _ _ _).slots.size ≤ _); rw [arrV_size]; exact hi) rfl rfl hd fun H1 e z oq => ?_
  refine kk H1 _ ls (xR_put hR ha ?_ oq) (z.trans hz) (hS.put z oq (xR_some hR ha)) hv
  show H1[a]? = some (vp_cell _ _)
  rw [e]
  rw [vp_cell_l, vp_cell_l, arrV_store]
  congr 2
  funext q
  by_cases hq : q = i.toNatClampNeg
  · subst hq
    simp [updV, vp_updL]
    
  · simp [updV, vp_updL, hq]
theorem x_zast (G : xG p s m args meth c cc nL Ts own ret D dA sz0) {a n : Nat} {f : Nat → Int32} {i : Int32} {x : Int32} (hd : decode cc pc = .ok (.bastore, 1)) (ha : h a = some (.inl (dA 2, n, .inl f))) (hi : vp_in i n) (kk : xV p l e R s m args below meth c D dA nL h0 sz0 mc ms Post cells slots (pc + 1) lv st (x_up h a (.inl (dA 2, n, .inl (upd f i.toNatClampNeg (vp_nar .boolean x))))) sz) : xV p l e R s m args below meth c D dA nL h0 sz0 mc ms Post cells slots pc lv (.int x :: .int i :: .ref a :: st) h sz := fun H locs ls hR hz hS hv => by
  have hP1 : va_at D vwCl (a, .inl (dA 2, n, .inl f)) H := xR_at hR ha
  refine W.zast G.1 G.2.1 hP1 ((G.2.2.2.2.2.1.2 2 _ rfl).1 n (fun j => .int (f j))) (fun q => by cases q) (by show ¬ (i < 0 ∨ (arrV _ _ _).slots.size ≤ _); rw [arrV_size]; exact hi) rfl rfl hd fun H1 e z oq => ?_
  refine kk H1 _ ls (xR_put hR ha ?_ oq) (z.trans hz) (hS.put z oq (xR_some hR ha)) hv
  show H1[a]? = some (vp_cell _ _)
  rw [e]
  rw [vp_cell_i, vp_cell_i, arrV_store]
  congr 2
  funext q
  by_cases hq : q = i.toNatClampNeg
  · subst hq
    simp [updV, upd]
    try rfl
  · simp [updV, upd, hq]
theorem x_aald (G : xG p s m args meth c cc nL Ts own ret D dA sz0) {a n t y : Nat} {f : Nat → Option Nat} {i : Int32} {ty : FieldType} (ht : (xT dA)[t]? = some (dA t, ty)) (hr : ty.isReference = true) (hd : decode cc pc = .ok (.aaload, 1)) (ha : h a = some (.inl (dA t, n, .inr (.inr (.inr (.inr f)))))) (hi : vp_in i n) (hf : f i.toNatClampNeg = some y) (kk : xV p l e R s m args below meth c D dA nL h0 sz0 mc ms Post cells slots (pc + 1) lv (.ref y :: st) h sz) : xV p l e R s m args below meth c D dA nL h0 sz0 mc ms Post cells slots pc lv (.int i :: .ref a :: st) h sz := fun H locs ls hR hz hS hv => by
  have hlt : i.toNatClampNeg < n := Nat.not_le.mp fun q => hi (Or.inr q)
  exact W.aald (v := .ref y) (ty := ty) G.1 G.2.1 (xR_at hR ha) ((G.2.2.2.2.2.1.2 t _ ht).1 n (fun j => va_rf (f j))) hr (fun q => by cases q) (by show ¬ (i < 0 ∨ (arrV _ _ _).slots.size ≤ _); rw [arrV_size]; exact hi) (by show (arrV _ _ _).slots[_]? = _; rw [arrV_read _ _ hlt, hf]; rfl) rfl rfl hd (kk H locs ls hR hz hS hv)
theorem x_alen (G : xG p s m args meth c cc nL Ts own ret D dA sz0) {a t : Nat} {x : vp_A} {ty : FieldType} (ht : (xT dA)[t]? = some (dA t, ty)) (hd : decode cc pc = .ok (.arraylength, 1)) (ha : h a = some (.inl (dA t, x))) (kk : xV p l e R s m args below meth c D dA nL h0 sz0 mc ms Post cells slots (pc + 1) lv (.int (Int32.ofNat x.1) :: st) h sz) : xV p l e R s m args below meth c D dA nL h0 sz0 mc ms Post cells slots pc lv (.ref a :: st) h sz := fun H locs ls hR hz hS hv => by
  obtain ⟨L, j, -, -, hP, -, hj⟩ := xR_get hR ha
  exact va_alen G.1 G.2.1 G.2.2.2.2.2.1 hP j t hj ht rfl hd (kk H locs ls hR hz hS hv)
theorem x_copyi (G : xG p s m args meth c cc nL Ts own ret D dA sz0) {i a0 a n0 n1 : Nat} {f g : Nat → Int32} {sp dp n : Int32} (hl : Cond.methodLink own i arraycopyName ∈ Ts) (hnat : Cond.native arraycopyName ∈ Ts) (hstat : Cond.static arraycopyName ∈ Ts) (hini : Cond.initialized "java/lang/System" ∈ Ts) (hd : decode cc pc = .ok (.invokestatic i, 3)) (ha0 : h a0 = some (.inl (dA 0, n0, .inl f))) (ha : h a = some (.inl (dA 0, n1, .inl g))) (h1 : ¬ sp < 0) (h2 : ¬ dp < 0) (h3 : ¬ n < 0) (h4 : sp.toNatClampNeg + n.toNatClampNeg ≤ n0) (h5 : dp.toNatClampNeg + n.toNatClampNeg ≤ n1) (hfr : 1 ≤ R.frames) (hlo : (st.map fun v => v.category).sum + (nativeFrameWords "java/lang/System" "arraycopy" 5 + 11) ≤ R.locals) (kk : ∀ sz1 : Nat, xV p l e R s m args below meth c D dA nL h0 sz0 mc ms Post cells slots (pc + 3) lv st (x_up h a (.inl (dA 0, n1, .inl (va_cpy f g sp.toNatClampNeg dp.toNatClampNeg n.toNatClampNeg)))) sz1) : xV p l e R s m args below meth c D dA nL h0 sz0 mc ms Post cells slots pc lv (.int n :: .int dp :: .ref a :: .int sp :: .ref a0 :: st) h sz := fun H locs ls hR hz hS hv => by
  obtain ⟨hx, hb, hml, hown, hts, hK, hlocks, hsz, hN, hr⟩ := G
  obtain ⟨L, g1, g2, hP⟩ := id hR
  have hm : a ∈ L := (g1 a).mpr (by rw [ha]; rfl)
  have hm0 : a0 ∈ L := (g1 a0).mpr (by rw [ha0]; rfl)
  obtain ⟨j, hj⟩ := va_pl_get (X := []) (f := x_f h) hm
  obtain ⟨j0, hj0⟩ := va_pl_get (X := []) (f := x_f h) hm0
  rw [x_f_of ha] at hj
  rw [x_f_of ha0] at hj0
  exact va_copyi (ty := .int) hx hb (hml.trans hv.1.symm) hown (hts _ hl) (hts _ hnat) (hts _ hstat) (hts _ hini) hK hP g2 hS j0 j 0 0 hj0 hj rfl rfl rfl h1 h2 h3 h4 h5 (fun _ _ => rfl) hfr hlo hd (fun H1 locs1 q1 q2 q3 => kk H1.size H1 locs1 ls (xR_set ha g1 g2 hm hj q1 q2) rfl q3 hv)
theorem x_copyl (G : xG p s m args meth c cc nL Ts own ret D dA sz0) {i a0 a n0 n1 : Nat} {f g : Nat → Int64} {sp dp n : Int32} (hl : Cond.methodLink own i arraycopyName ∈ Ts) (hnat : Cond.native arraycopyName ∈ Ts) (hstat : Cond.static arraycopyName ∈ Ts) (hini : Cond.initialized "java/lang/System" ∈ Ts) (hd : decode cc pc = .ok (.invokestatic i, 3)) (ha0 : h a0 = some (.inl (dA 1, n0, .inr (.inl f)))) (ha : h a = some (.inl (dA 1, n1, .inr (.inl g)))) (h1 : ¬ sp < 0) (h2 : ¬ dp < 0) (h3 : ¬ n < 0) (h4 : sp.toNatClampNeg + n.toNatClampNeg ≤ n0) (h5 : dp.toNatClampNeg + n.toNatClampNeg ≤ n1) (hfr : 1 ≤ R.frames) (hlo : (st.map fun v => v.category).sum + (nativeFrameWords "java/lang/System" "arraycopy" 5 + 11) ≤ R.locals) (kk : ∀ sz1 : Nat, xV p l e R s m args below meth c D dA nL h0 sz0 mc ms Post cells slots (pc + 3) lv st (x_up h a (.inl (dA 1, n1, .inr (.inl (va_cpy f g sp.toNatClampNeg dp.toNatClampNeg n.toNatClampNeg))))) sz1) : xV p l e R s m args below meth c D dA nL h0 sz0 mc ms Post cells slots pc lv (.int n :: .int dp :: .ref a :: .int sp :: .ref a0 :: st) h sz := fun H locs ls hR hz hS hv => by
  obtain ⟨hx, hb, hml, hown, hts, hK, hlocks, hsz, hN, hr⟩ := G
  obtain ⟨L, g1, g2, hP⟩ := id hR
  have hm : a ∈ L := (g1 a).mpr (by rw [ha]; rfl)
  have hm0 : a0 ∈ L := (g1 a0).mpr (by rw [ha0]; rfl)
  obtain ⟨j, hj⟩ := va_pl_get (X := []) (f := x_f h) hm
  obtain ⟨j0, hj0⟩ := va_pl_get (X := []) (f := x_f h) hm0
  rw [x_f_of ha] at hj
  rw [x_f_of ha0] at hj0
  exact va_copyl (ty := .long) hx hb (hml.trans hv.1.symm) hown (hts _ hl) (hts _ hnat) (hts _ hstat) (hts _ hini) hK hP g2 hS j0 j 1 1 hj0 hj rfl rfl rfl h1 h2 h3 h4 h5 (fun _ _ => rfl) hfr hlo hd (fun H1 locs1 q1 q2 q3 => kk H1.size H1 locs1 ls (xR_set ha g1 g2 hm hj q1 q2) rfl q3 hv)
theorem x_iret {v : Int32} (G : xG p s m args meth c cc nL Ts own (some .int) D dA sz0) (hd : decode cc pc = .ok (.ireturn, 1)) (hq : Post (some (.int v)) h sz) : xV p l e R s m args below meth c D dA nL h0 sz0 mc ms Post mc ms pc lv [.int v] h sz := fun H locs ls hR hz hS hv => W.iret (v := v) G.1 G.2.1 G.2.2.2.2.2.2.2.2.2 (fun t ht hW => ⟨⟨_, h, sz, rfl, hq, by rw [ht]; exact hz, by rw [ht]; exact hR, va_K.moved hW.alike G.2.2.2.2.2.1, xN_warm hW G.2.2.2.2.2.2.2.2.1⟩, hS.F ht⟩) hS.2.2 hd G.2.2.2.2.2.2.1
theorem x_lret {v : Int64} (G : xG p s m args meth c cc nL Ts own (some .long) D dA sz0) (hd : decode cc pc = .ok (.lreturn, 1)) (hq : Post (some (.long v)) h sz) : xV p l e R s m args below meth c D dA nL h0 sz0 mc ms Post mc ms pc lv [.long v] h sz := fun H locs ls hR hz hS hv => W.lret (v := v) G.1 G.2.1 G.2.2.2.2.2.2.2.2.2 (fun t ht hW => ⟨⟨_, h, sz, rfl, hq, by rw [ht]; exact hz, by rw [ht]; exact hR, va_K.moved hW.alike G.2.2.2.2.2.1, xN_warm hW G.2.2.2.2.2.2.2.2.1⟩, hS.F ht⟩) hS.2.2 hd G.2.2.2.2.2.2.1
theorem x_vret (G : xG p s m args meth c cc nL Ts own (none) D dA sz0) (hd : decode cc pc = .ok (.return_, 1)) (hq : Post none h sz) : xV p l e R s m args below meth c D dA nL h0 sz0 mc ms Post mc ms pc lv [] h sz := fun H locs ls hR hz hS hv => W.vret G.1 G.2.1 G.2.2.2.2.2.2.2.2.2 (fun t ht hW => ⟨⟨_, h, sz, rfl, hq, by rw [ht]; exact hz, by rw [ht]; exact hR, va_K.moved hW.alike G.2.2.2.2.2.1, xN_warm hW G.2.2.2.2.2.2.2.2.1⟩, hS.F ht⟩) hS.2.2 hd G.2.2.2.2.2.2.1
theorem x_zret {v : Int32} (G : xG p s m args meth c cc nL Ts own (some .boolean) D dA sz0) (hd : decode cc pc = .ok (.ireturn, 1)) (hn : narrow .boolean (.int v) = .int v) (hq : Post (some (.int v)) h sz) : xV p l e R s m args below meth c D dA nL h0 sz0 mc ms Post mc ms pc lv [.int v] h sz := fun H locs ls hR hz hS hv => W.zret (v := v) G.1 G.2.1 G.2.2.2.2.2.2.2.2.2 hn (fun t ht hW => ⟨⟨_, h, sz, rfl, hq, by rw [ht]; exact hz, by rw [ht]; exact hR, va_K.moved hW.alike G.2.2.2.2.2.1, xN_warm hW G.2.2.2.2.2.2.2.2.1⟩, hS.F ht⟩) hS.2.2 hd G.2.2.2.2.2.2.1
end XR
theorem x_lgeq (x y : Int64) : lg_cmp x y = 0 ↔ x = y := by
  unfold lg_cmp
  by_cases h1 : x > y
  · rw [if_pos h1]
    have h2 : y.toInt < x.toInt := Int64.lt_iff_toInt_lt.mp h1
    constructor
    · intro q
      first | exact absurd q (by decide) | exact h1 | exact Int64.le_iff_toInt_le.mpr (by omega)
    · intro q
      first | decide | (exfalso; subst q; omega) | (exfalso; have := Int64.lt_iff_toInt_lt.mp q; omega) | (exfalso; have := Int64.le_iff_toInt_le.mp q; omega)
  · rw [if_neg h1]
    have h2 : ¬ y.toInt < x.toInt := fun q => h1 (Int64.lt_iff_toInt_lt.mpr q)
    by_cases h3 : x = y
    · rw [if_pos h3]
      subst h3
      constructor
      · intro q
        first | rfl | exact absurd q (by decide) | exact Int64.le_iff_toInt_le.mpr (by omega)
      · intro q
        first | decide | (exfalso; have := Int64.lt_iff_toInt_lt.mp q; omega)
    · rw [if_neg h3]
      have h4 : x.toInt ≠ y.toInt := fun q => h3 (Int64.toInt_inj.mp q)
      constructor
      · intro q
        first | exact absurd q (by decide) | exact Int64.lt_iff_toInt_lt.mpr (by omega) | exact Int64.le_iff_toInt_le.mpr (by omega)
      · intro q
        first | decide | exact absurd q h3 | (exfalso; have := Int64.lt_iff_toInt_lt.mp q; omega) | (exfalso; have := Int64.le_iff_toInt_le.mp q; omega)
theorem x_lglt (x y : Int64) : lg_cmp x y < 0 ↔ x < y := by
  unfold lg_cmp
  by_cases h1 : x > y
  · rw [if_pos h1]
    have h2 : y.toInt < x.toInt := Int64.lt_iff_toInt_lt.mp h1
    constructor
    · intro q
      first | exact absurd q (by decide) | exact h1 | exact Int64.le_iff_toInt_le.mpr (by omega)
    · intro q
      first | decide | (exfalso; subst q; omega) | (exfalso; have := Int64.lt_iff_toInt_lt.mp q; omega) | (exfalso; have := Int64.le_iff_toInt_le.mp q; omega)
  · rw [if_neg h1]
    have h2 : ¬ y.toInt < x.toInt := fun q => h1 (Int64.lt_iff_toInt_lt.mpr q)
    by_cases h3 : x = y
    · rw [if_pos h3]
      subst h3
      constructor
      · intro q
        first | rfl | exact absurd q (by decide) | exact Int64.le_iff_toInt_le.mpr (by omega)
      · intro q
        first | decide | (exfalso; have := Int64.lt_iff_toInt_lt.mp q; omega)
    · rw [if_neg h3]
      have h4 : x.toInt ≠ y.toInt := fun q => h3 (Int64.toInt_inj.mp q)
      constructor
      · intro q
        first | exact absurd q (by decide) | exact Int64.lt_iff_toInt_lt.mpr (by omega) | exact Int64.le_iff_toInt_le.mpr (by omega)
      · intro q
        first | decide | exact absurd q h3 | (exfalso; have := Int64.lt_iff_toInt_lt.mp q; omega) | (exfalso; have := Int64.le_iff_toInt_le.mp q; omega)
theorem x_lgle (x y : Int64) : lg_cmp x y ≤ 0 ↔ x ≤ y := by
  unfold lg_cmp
  by_cases h1 : x > y
  · rw [if_pos h1]
    have h2 : y.toInt < x.toInt := Int64.lt_iff_toInt_lt.mp h1
    constructor
    · intro q
      first | exact absurd q (by decide) | exact h1 | exact Int64.le_iff_toInt_le.mpr (by omega)
    · intro q
      first | decide | (exfalso; subst q; omega) | (exfalso; have := Int64.lt_iff_toInt_lt.mp q; omega) | (exfalso; have := Int64.le_iff_toInt_le.mp q; omega)
  · rw [if_neg h1]
    have h2 : ¬ y.toInt < x.toInt := fun q => h1 (Int64.lt_iff_toInt_lt.mpr q)
    by_cases h3 : x = y
    · rw [if_pos h3]
      subst h3
      constructor
      · intro q
        first | rfl | exact absurd q (by decide) | exact Int64.le_iff_toInt_le.mpr (by omega)
      · intro q
        first | decide | (exfalso; have := Int64.lt_iff_toInt_lt.mp q; omega)
    · rw [if_neg h3]
      have h4 : x.toInt ≠ y.toInt := fun q => h3 (Int64.toInt_inj.mp q)
      constructor
      · intro q
        first | exact absurd q (by decide) | exact Int64.lt_iff_toInt_lt.mpr (by omega) | exact Int64.le_iff_toInt_le.mpr (by omega)
      · intro q
        first | decide | exact absurd q h3 | (exfalso; have := Int64.lt_iff_toInt_lt.mp q; omega) | (exfalso; have := Int64.le_iff_toInt_le.mp q; omega)
theorem x_lgge (x y : Int64) : 0 ≤ lg_cmp x y ↔ y ≤ x := by
  unfold lg_cmp
  by_cases h1 : x > y
  · rw [if_pos h1]
    have h2 : y.toInt < x.toInt := Int64.lt_iff_toInt_lt.mp h1
    constructor
    · intro q
      first | exact absurd q (by decide) | exact h1 | exact Int64.le_iff_toInt_le.mpr (by omega)
    · intro q
      first | decide | (exfalso; subst q; omega) | (exfalso; have := Int64.lt_iff_toInt_lt.mp q; omega) | (exfalso; have := Int64.le_iff_toInt_le.mp q; omega)
  · rw [if_neg h1]
    have h2 : ¬ y.toInt < x.toInt := fun q => h1 (Int64.lt_iff_toInt_lt.mpr q)
    by_cases h3 : x = y
    · rw [if_pos h3]
      subst h3
      constructor
      · intro q
        first | rfl | exact absurd q (by decide) | exact Int64.le_iff_toInt_le.mpr (by omega)
      · intro q
        first | decide | (exfalso; have := Int64.lt_iff_toInt_lt.mp q; omega)
    · rw [if_neg h3]
      have h4 : x.toInt ≠ y.toInt := fun q => h3 (Int64.toInt_inj.mp q)
      constructor
      · intro q
        first | exact absurd q (by decide) | exact Int64.lt_iff_toInt_lt.mpr (by omega) | exact Int64.le_iff_toInt_le.mpr (by omega)
      · intro q
        first | decide | exact absurd q h3 | (exfalso; have := Int64.lt_iff_toInt_lt.mp q; omega) | (exfalso; have := Int64.le_iff_toInt_le.mp q; omega)
theorem x_lggt (x y : Int64) : 0 < lg_cmp x y ↔ y < x := by
  unfold lg_cmp
  by_cases h1 : x > y
  · rw [if_pos h1]
    have h2 : y.toInt < x.toInt := Int64.lt_iff_toInt_lt.mp h1
    constructor
    · intro q
      first | exact absurd q (by decide) | exact h1 | exact Int64.le_iff_toInt_le.mpr (by omega)
    · intro q
      first | decide | (exfalso; subst q; omega) | (exfalso; have := Int64.lt_iff_toInt_lt.mp q; omega) | (exfalso; have := Int64.le_iff_toInt_le.mp q; omega)
  · rw [if_neg h1]
    have h2 : ¬ y.toInt < x.toInt := fun q => h1 (Int64.lt_iff_toInt_lt.mpr q)
    by_cases h3 : x = y
    · rw [if_pos h3]
      subst h3
      constructor
      · intro q
        first | rfl | exact absurd q (by decide) | exact Int64.le_iff_toInt_le.mpr (by omega)
      · intro q
        first | decide | (exfalso; have := Int64.lt_iff_toInt_lt.mp q; omega)
    · rw [if_neg h3]
      have h4 : x.toInt ≠ y.toInt := fun q => h3 (Int64.toInt_inj.mp q)
      constructor
      · intro q
        first | exact absurd q (by decide) | exact Int64.lt_iff_toInt_lt.mpr (by omega) | exact Int64.le_iff_toInt_le.mpr (by omega)
      · intro q
        first | decide | exact absurd q h3 | (exfalso; have := Int64.lt_iff_toInt_lt.mp q; omega) | (exfalso; have := Int64.le_iff_toInt_le.mp q; omega)
