/-! ## The class's solutions: cleared, asked -/
theorem sc_N {u : slT} : CS (sc u) [] := by
  refine ⟨6, uI, fun i => i, fun _ _ => 0, Can_nil, rfl, fun i hi c hc => ?_, fun b hb c hc => ?_⟩
  · show (if i < 6 then vp_updL (fl_L (u.1 i) 0 6) i 1 else u.1 i) c = zI (if c = i then 1 else 0)
    rw [if_pos hi]
    unfold vp_updL
    by_cases z : c = i
    · rw [if_pos z, if_pos z]
      rfl
    · rw [if_neg z, if_neg z]
      unfold fl_L
      rw [if_pos hc]
      rfl
  · show (if b < 4 then fl_L (u.2.1 b) 0 6 else u.2.1 b) c = zI 0
    rw [if_pos hb]
    unfold fl_L
    rw [if_pos hc]
    rfl
theorem sw_N {u : slT} {L : List (Nat → Int)} {po : Nat → Int32} (C : CS u L) : CS (sw_u2 po u) L := C
theorem cl_w {L : List (Nat → Int)} {N : Nat} {H : Nat → Nat → Int} {h : Nat → Nat} {X : Nat → Nat → Int} {u : slT} {po : Nat → Int32} (C : Can L N H h X) (E : CE u N H X) (hL : Sm L) (hp : ∀ e, e < 10 → (po e).toInt.natAbs ≤ 9) : (∀ i, i < N → wg_g po u.1 u.2.2.1 N i = zI (gn (H i) (fun j => (po j).toInt)) ∧ rg (gn (H i) (fun j => (po j).toInt))) ∧ ∀ b, b < 4 → wg_l po u.2.1 u.2.2.2.1 4 b = zI (-(gn (X b) (fun j => (po j).toInt) + (po (6 + b)).toInt)) ∧ rg (-(gn (X b) (fun j => (po j).toInt) + (po (6 + b)).toInt)) := by
  obtain ⟨-, b3, b4⟩ := can_rg (p := fun j => (po j).toInt) C hL hp
  obtain ⟨e1, e2, e3⟩ := E
  refine ⟨fun i hi => ⟨by rw [wg_gN hi (e2 i hi), gn_dt], ?_⟩, fun b hb => ⟨by rw [wg_lN hb (e3 b hb), gn_dt, Int.add_comm], ?_⟩⟩
  · have := (b3 i hi).2
    unfold rg
    omega
  · have := (b4 b hb).2
    unfold rg
    omega
/-- imply -/
theorem im_uN {u : slT} {L : List (Nat → Int)} {po : Nat → Int32} (C : CS u L) (hL : Sm L) (hp : ∀ e, e < 10 → (po e).toInt.natAbs ≤ 9) : im_u po u = true ↔ Imp L (fun j => (po j).toInt) := by
  obtain ⟨N, H, h, X, C, E⟩ := C
  obtain ⟨w1, w2⟩ := cl_w C E hL hp
  unfold im_u
  rw [E.1, im_N w1 w2, Imp_can C]
  constructor
  · rintro ⟨a, b⟩
    exact ⟨a, fun c hc => by have := b c hc; omega⟩
  · rintro ⟨a, b⟩
    exact ⟨a, fun c hc => by have := b c hc; omega⟩
theorem gcN_u {g : Nat → Int} : ∀ {n : Nat}, ∃ t : Nat → Int, sm (fun b => t b * g b) n = (gcN g n : Int)
  | 0 => ⟨fun _ => 0, rfl⟩
  | n + 1 => by
    obtain ⟨t, ht⟩ := gcN_u (g := g) (n := n)
    obtain ⟨x, y, h⟩ := bez (gcN g n) (g n).natAbs
    obtain ⟨s, s1, -⟩ := sg_abs (g n)
    refine ⟨fun b => if b = n then y * s else x * t b, ?_⟩
    show sm (fun b => (if b = n then y * s else x * t b) * g b) n + (if n = n then y * s else x * t n) * g n = ((Nat.gcd (gcN g n) (g n).natAbs : Nat) : Int)
    rw [if_pos rfl, sm_cg (G := fun b => x * (t b * g b)) (fun b hb => by rw [if_neg (by omega), Int.mul_assoc]), sm_mul, ht, ← h, ← s1]
    grind
/-- agrees -/
theorem ag_uN {u : slT} {L : List (Nat → Int)} {po : Nat → Int32} (C : CS u L) (hL : Sm L) (hp : ∀ e, e < 10 → (po e).toInt.natAbs ≤ 9) : ag_u po u = true ↔ Cons ((fun j => (po j).toInt) :: L) := by
  obtain ⟨N, H, h, X, C, E⟩ := C
  obtain ⟨w1, w2⟩ := cl_w C E hL hp
  obtain ⟨c1, c2, c3, c4, -⟩ := C
  unfold ag_u
  rw [E.1, ag_N w1 w2]
  generalize ep : (fun j => (po j).toInt) = p at *
  have pe : ∀ j, (po j).toInt = p j := fun j => by rw [← ep]
  simp only [pe]
  constructor
  · intro hd b hb
    obtain ⟨t, ht⟩ := @gcN_u (fun i => gn (H i) p) N
    obtain ⟨s, hs⟩ := hd b hb
    refine ⟨fun c => X b c - -s * ls t H N c, Sl_cons.mpr ⟨?_, Sl_ad (c3 b hb) ((c2 _).mp ⟨t, fun c _ => rfl⟩)⟩⟩
    have e : gn (fun c => ls t H N c) p = (gcN (fun i => gn (H i) p) N : Int) := by
      rw [← ht]
      unfold gn
      rw [ls_gain]
    rw [gn_lin, e, Int.neg_mul, Int.mul_comm s, ← hs]
    omega
  · intro u b hb
    obtain ⟨x, hx⟩ := u b hb
    obtain ⟨x1, x2⟩ := Sl_cons.mp hx
    obtain ⟨t, ht⟩ := (c2 _).mpr (Sl_sub x2 (c3 b hb))
    have e : gn (fun c => x c - 1 * X b c) p = sm (fun b => t b * gn (H b) p) N := by
      rw [gn_cg (y := fun c => ls t H N c) ht]
      unfold gn
      rw [ls_gain]
    rw [gn_lin] at e
    rw [show -(gn (X b) p + p (6 + b)) = gn x p - 1 * gn (X b) p by omega, e]
    have dv : ∀ n, n ≤ N → (gcN (fun i => gn (H i) p) N : Int) ∣ sm (fun b => t b * gn (H b) p) n := by
      intro n
      induction n with
      | zero => exact fun _ => Int.dvd_zero _
      | succ n ih =>
        intro hn
        refine Int.dvd_add (ih (by omega)) (Int.dvd_mul_of_dvd_right ?_)
        exact Int.ofNat_dvd_left.mpr (gcN_dvd (g := fun i => gn (H i) p) n (by omega))
    exact dv N (Nat.le_refl _)
/-- rows 0 in a column -/
theorem fx_rows {L : List (Nat → Int)} {N : Nat} {H : Nat → Nat → Int} {h : Nat → Nat} {X : Nat → Nat → Int} (C : Can L N H h X) (hL : Sm L) : N ≤ 6 ∧ (∀ i c, i < N → c < 6 → (H i c).natAbs < 2 ^ 32) ∧ ∀ b c, b < 4 → c < 6 → (X b c).natAbs < 2 ^ 32 := by
  obtain ⟨b1, b3, b4⟩ := can_rg (p := fun _ => 0) C hL (fun _ _ => by decide)
  exact ⟨b1, fun i c hi hc => (b3 i hi).1 c hc, fun b c hb hc => (b4 b hb).1 c hc⟩
/-! ## Lists of sayings by sets -/
def PL (q : Nat → Nat → Int) (m : Nat → Bool) : Nat → List (Nat → Int)
  | 0 => []
  | k + 1 => if m k = true then q k :: PL q m k else PL q m k
theorem SL_PL {st : Nat → Int32} {m : Nat} : ∀ {n : Nat}, SL st m n = PL (sy st) m.testBit n
  | 0 => rfl
  | n + 1 => by
    unfold SL PL
    rw [SL_PL]
theorem PL_mem {q : Nat → Nat → Int} {m : Nat → Bool} {p : Nat → Int} : ∀ {n : Nat}, p ∈ PL q m n ↔ ∃ k, k < n ∧ m k = true ∧ p = q k
  | 0 => by
    constructor
    · intro h
      cases h
    · rintro ⟨k, k1, -⟩
      omega
  | n + 1 => by
    have ih := @PL_mem q m p n
    unfold PL
    by_cases z : m n = true
    · rw [if_pos z, List.mem_cons, ih]
      constructor
      · rintro (e | ⟨k, k1, k2⟩)
        · exact ⟨n, by omega, z, e⟩
        · exact ⟨k, by omega, k2⟩
      · rintro ⟨k, k1, k2, k3⟩
        by_cases y : k = n
        · rw [y] at k3
          exact Or.inl k3
        · exact Or.inr ⟨k, by omega, k2, k3⟩
    · rw [if_neg z, ih]
      constructor
      · rintro ⟨k, k1, k2⟩
        exact ⟨k, by omega, k2⟩
      · rintro ⟨k, k1, k2, k3⟩
        refine ⟨k, ?_, k2, k3⟩
        by_cases y : k = n
        · rw [y] at k2
          exact absurd k2 z
        · omega
/-- the same sayings in the ten places that count -/
def SQ (q r : Nat → Nat → Int) (n : Nat) : Prop := ∀ k, k < n → ∀ e, e < 10 → q k e = r k e
theorem gn_p {v p r : Nat → Int} (h : ∀ e, e < 10 → p e = r e) : gn v p = gn v r := sm_cg (fun e he => by rw [h e (by omega)])
theorem PL_Kr {q r : Nat → Nat → Int} {m u : Nat → Bool} {n : Nat} {v : Nat → Int} (h : SQ q r n) (hm : ∀ k, k < n → m k = u k) (k : Kr (PL q m n) v) : Kr (PL r u n) v := fun p hp => by
  obtain ⟨i, i1, i2, rfl⟩ := PL_mem.mp hp
  rw [← gn_p (h i i1)]
  exact k _ (PL_mem.mpr ⟨i, i1, by rw [hm i i1]; exact i2, rfl⟩)
theorem PL_Sl {q r : Nat → Nat → Int} {m u : Nat → Bool} {n b : Nat} {x : Nat → Int} (hb : b < 4) (h : SQ q r n) (hm : ∀ k, k < n → m k = u k) (k : Sl (PL q m n) b x) : Sl (PL r u n) b x := fun p hp => by
  obtain ⟨i, i1, i2, rfl⟩ := PL_mem.mp hp
  rw [← gn_p (h i i1), ← h i i1 (6 + b) (by omega)]
  exact k _ (PL_mem.mpr ⟨i, i1, by rw [hm i i1]; exact i2, rfl⟩)
theorem SQ_s {q r : Nat → Nat → Int} {n : Nat} (h : SQ q r n) : SQ r q n := fun k hk e he => (h k hk e he).symm
theorem PL_Imp {q r : Nat → Nat → Int} {m u : Nat → Bool} {n : Nat} {p s : Nat → Int} (h : SQ q r n) (hm : ∀ k, k < n → m k = u k) (hp : ∀ e, e < 10 → p e = s e) : Imp (PL q m n) p → Imp (PL r u n) s := by
  rintro ⟨a, b⟩
  refine ⟨fun v hv => ?_, fun c hc x hx => ?_⟩
  · rw [← gn_p hp]
    exact a v (PL_Kr (SQ_s h) (fun k hk => (hm k hk).symm) hv)
  · rw [← gn_p hp, ← hp (6 + c) (by omega)]
    exact b c hc x (PL_Sl hc (SQ_s h) (fun k hk => (hm k hk).symm) hx)
theorem PL_Cons {q r : Nat → Nat → Int} {m u : Nat → Bool} {n : Nat} (h : SQ q r n) (hm : ∀ k, k < n → m k = u k) (c : Cons (PL q m n)) : Cons (PL r u n) := fun b hb => by
  obtain ⟨x, hx⟩ := c b hb
  exact ⟨x, PL_Sl hb h hm hx⟩
theorem PL_Cons1 {q r : Nat → Nat → Int} {m u : Nat → Bool} {n : Nat} {p s : Nat → Int} (h : SQ q r n) (hm : ∀ k, k < n → m k = u k) (hp : ∀ e, e < 10 → p e = s e) (c : Cons (p :: PL q m n)) : Cons (s :: PL r u n) := fun b hb => by
  obtain ⟨x, hx⟩ := c b hb
  obtain ⟨x1, x2⟩ := Sl_cons.mp hx
  exact ⟨x, Sl_cons.mpr ⟨by rw [← gn_p hp, ← hp (6 + b) (by omega)]; exact x1, PL_Sl hb h hm x2⟩⟩
/-- sayings of the class -/
def qC (sc : Nat → Nat → Int32) : Nat → Nat → Int := fun k j => (sc k j).toInt
def SyC (sc : Nat → Nat → Int32) (n : Nat) : Prop := ∀ k, k < n → ∀ e, e < 10 → (sc k e).toInt.natAbs ≤ 9
theorem SyC_sm {sc : Nat → Nat → Int32} {n k : Nat} {m : Nat → Bool} (h : SyC sc n) (hk : k ≤ n) : Sm (PL (qC sc) m k) := fun p hp e he => by
  obtain ⟨i, i1, -, rfl⟩ := PL_mem.mp hp
  exact h i (by omega) e he
theorem PL_up {q : Nat → Nat → Int} {m : Nat → Bool} {k n : Nat} (hk : k ≤ n) (c : Cons (PL q m n)) : Cons (PL q m k) := Cons_sub (fun p hp => by
  obtain ⟨i, i1, i2⟩ := PL_mem.mp hp
  exact PL_mem.mpr ⟨i, by omega, i2⟩) c
theorem PL_su {q : Nat → Nat → Int} {m u : Nat → Bool} {n : Nat} (h : ∀ k, k < n → m k = true → u k = true) (c : Cons (PL q u n)) : Cons (PL q m n) := Cons_sub (fun p hp => by
  obtain ⟨i, i1, i2, i3⟩ := PL_mem.mp hp
  exact PL_mem.mpr ⟨i, i1, h i i1 i2, i3⟩) c
theorem sa_N {sc : Nat → Nat → Int32} {u : slT} {n : Nat} (hs : SyC sc n) (hc : Cons (PL (qC sc) (fun _ => true) n)) : ∀ {k : Nat}, k ≤ n → CS (sa sc u k) (PL (qC sc) (fun _ => true) k)
  | 0, _ => sc_N
  | k + 1, hk => by
    have ih := sa_N (u := u) hs hc (k := k) (by omega)
    have c1 := PL_up (k := k + 1) hk hc
    show CS (su (sc k) (sa sc u k)) (qC sc k :: PL (qC sc) (fun _ => true) k)
    exact cu_N ih (SyC_sm hs (by omega)) (hs k (by omega)) c1
theorem so_N {sc : Nat → Nat → Int32} {u : slT} {n k : Nat} (hs : SyC sc n) (hc : Cons (PL (qC sc) (fun _ => true) n)) : ∀ {i : Nat}, i ≤ n → CS (so_k sc u k i) (PL (qC sc) (fun e => decide (e ≠ k)) i)
  | 0, _ => sc_N
  | i + 1, hi => by
    have ih := so_N (u := u) (k := k) hs hc (i := i) (by omega)
    unfold so_k PL
    by_cases z : i = k
    · rw [if_pos z, if_neg (by simp [z])]
      exact ih
    · rw [if_neg z, if_pos (by simp [z])]
      refine cu_N ih (SyC_sm hs (by omega)) (hs i (by omega)) ?_
      have c1 := PL_su (m := fun e => decide (e ≠ k)) (fun _ _ _ => rfl) (PL_up (k := i + 1) hi hc)
      unfold PL at c1
      rw [if_pos (by simp [z])] at c1
      exact c1
