/-! ## All solutions of sayings, in their one form -/
def gn (v p : Nat → Int) : Int := sm (fun e => v e * p e) 6
theorem gn_lin {x y p : Nat → Int} {a : Int} : gn (fun c => x c - a * y c) p = gn x p - a * gn y p := by
  unfold gn
  rw [← sm_mul, show sm (fun e => x e * p e) 6 - sm (fun i => a * (y i * p i)) 6 = sm (fun e => x e * p e) 6 + sm (fun i => (-1) * (a * (y i * p i))) 6 from by rw [sm_mul (F := fun i => a * (y i * p i))]; omega, ← sm_add]
  exact sm_cg (fun e _ => by grind)
theorem gn_cg {x y p : Nat → Int} (h : ∀ c, c < 6 → x c = y c) : gn x p = gn y p := sm_cg (fun e he => by rw [h e he])
theorem gn_dt {x p : Nat → Int} : dtZ p x 6 = gn x p := by
  unfold gn
  simp only [dtZ, sm]
  grind
def Kr (L : List (Nat → Int)) (v : Nat → Int) : Prop := ∀ p, p ∈ L → gn v p = 0
def Sl (L : List (Nat → Int)) (b : Nat) (x : Nat → Int) : Prop := ∀ p, p ∈ L → gn x p + p (6 + b) = 0
/-- sayings of small powers -/
def Sm (L : List (Nat → Int)) : Prop := ∀ p, p ∈ L → ∀ e, e < 10 → (p e).natAbs ≤ 9
/-- there is a solution -/
def Cons (L : List (Nat → Int)) : Prop := ∀ b, b < 4 → ∃ x, Sl L b x
/-- the one form of all solutions -/
def Can (L : List (Nat → Int)) (N : Nat) (H : Nat → Nat → Int) (hH : Nat → Nat) (X : Nat → Nat → Int) : Prop := Hnf N H hH ∧ (∀ v, Sp N H v ↔ Kr L v) ∧ (∀ b, b < 4 → Sl L b (X b)) ∧ (∀ b l, b < 4 → l < N → 0 ≤ X b (hH l) ∧ X b (hH l) < H l (hH l)) ∧ ∃ (A : Nat → Nat → Int) (k : Nat) (nh : Nat → Nat), Cn A k N H hH nh ∧ ∀ r, r < k → A r ∈ L
theorem Sl_sub {L : List (Nat → Int)} {b : Nat} {x y : Nat → Int} (hx : Sl L b x) (hy : Sl L b y) : Kr L (fun c => x c - 1 * y c) := fun p hp => by
  have a := hx p hp
  have b := hy p hp
  rw [gn_lin]
  omega
theorem Sl_ad {L : List (Nat → Int)} {b : Nat} {x y : Nat → Int} {a : Int} (hx : Sl L b x) (hy : Kr L y) : Sl L b (fun c => x c - a * y c) := fun p hp => by
  have h1 := hx p hp
  have h2 := hy p hp
  rw [gn_lin, h2, Int.mul_zero]
  omega
theorem can_uniq {L M : List (Nat → Int)} {N N1 : Nat} {H H1 : Nat → Nat → Int} {hH h1 : Nat → Nat} {X X1 : Nat → Nat → Int} (hK : ∀ v, Kr L v ↔ Kr M v) (hS : ∀ b x, b < 4 → Sl L b x → Sl M b x) (C : Can L N H hH X) (D : Can M N1 H1 h1 X1) : N = N1 ∧ (∀ i, i < N → hH i = h1 i ∧ ∀ c, c < 6 → H i c = H1 i c) ∧ ∀ b c, b < 4 → c < 6 → X b c = X1 b c := by
  obtain ⟨c1, c2, c3, c4, -⟩ := C
  obtain ⟨d1, d2, d3, d4, -⟩ := D
  have u := Hnf_uniq c1 d1 (fun i hi => (d2 _).mpr ((hK _).mp ((c2 _).mp (Sp_row hi)))) (fun i hi => (c2 _).mpr ((hK _).mpr ((d2 _).mp (Sp_row hi))))
  obtain ⟨rfl, u⟩ := u
  refine ⟨rfl, u, fun b c hb hc => ?_⟩
  have k : Sp N H1 (fun c => X b c - 1 * X1 b c) := (d2 _).mpr (Sl_sub (hS b _ hb (c3 b hb)) (d3 b hb))
  rcases Hnf_lead d1 k with z | ⟨l, l1, l2, a, a1, a2⟩
  · have := z c hc
    try dsimp only at this
    omega
  · exfalso
    have p1 := c4 b l hb l1
    have p2 := d4 b l hb l1
    have e := u l l1
    have l6 := (d1.1 l l1).1
    rw [e.1, e.2 _ l6] at p1
    try dsimp only at a2
    have : (a * H1 l (h1 l)).natAbs < (H1 l (h1 l)).natAbs := by omega
    rw [Int.natAbs_mul] at this
    have := Nat.le_mul_of_pos_left (H1 l (h1 l)).natAbs (show 0 < a.natAbs by omega)
    omega
theorem mi_cgc {A B : Nat → Nat → Int} : ∀ {k : Nat} {c : Nat → Nat}, (∀ r m, r < k → m < k → A r (c m) = B r (c m)) → mi A k c = mi B k c
  | 0, _, _ => rfl
  | k + 1, c, h => by
    rw [mi_s, mi_s]
    refine sm_cg (fun m hm => ?_)
    rw [h k m (by omega) hm, mi_cgc (c := sk m c) (fun r i hr hi => by
      unfold sk
      split
      · exact h r i (by omega) (by omega)
      · exact h r (i + 1) (by omega) (by omega))]
/-- the sayings, one more, and one base as a column -/
def axc (A : Nat → Nat → Int) (k : Nat) (p : Nat → Int) (b : Nat) : Nat → Nat → Int := fun r e => (if r < k then A r else p) (if e = 6 then 6 + b else e)
theorem axc_cn {A : Nat → Nat → Int} {k N b : Nat} {H : Nat → Nat → Int} {hH nh : Nat → Nat} {p : Nat → Int} (C : Cn A k N H hH nh) : Cn (axc A k p b) k N H hH nh := by
  obtain ⟨c1, c2, c3, c4, c5, c6⟩ := C
  refine ⟨c1, c2, fun i r hi hr => ?_, c4, c5, ?_⟩
  · rw [← c3 i r hi hr]
    exact sm_cg (fun e he => by
      unfold axc
      rw [if_pos hr, if_neg (by omega)])
  · rw [mi_cgc (A := axc A k p b) (B := A) (c := nh) (fun r m hr hm => by
      have := (c5 m hm).1
      unfold axc
      rw [if_pos hr, if_neg (by omega)])]
    exact c6
theorem axc_k {A : Nat → Nat → Int} {k b : Nat} {p x : Nat → Int} : sm (fun e => x e * axc A k p b k e) 6 = gn x p := sm_cg (fun e he => by
  unfold axc
  rw [if_neg (by omega), if_neg (by omega)])
theorem axc_r {A : Nat → Nat → Int} {k b r : Nat} {p x : Nat → Int} (hr : r < k) : sm (fun e => x e * axc A k p b r e) 6 = gn x (A r) := sm_cg (fun e he => by
  unfold axc
  rw [if_pos hr, if_neg (by omega)])
/-- how great all is, with a saying p more -/
theorem can_bd {L : List (Nat → Int)} {N : Nat} {H : Nat → Nat → Int} {hH : Nat → Nat} {X : Nat → Nat → Int} {p : Nat → Int} (C : Can L N H hH X) (hL : Sm L) (hp : ∀ e, e < 10 → (p e).natAbs ≤ 9) : N ≤ 6 ∧ hpr H hH N ≤ Om (6 - N) ∧ (∀ i, i < N → (∀ c, c < 6 → (H i c).natAbs ≤ Om (6 - N)) ∧ (gn (H i) p).natAbs ≤ Om (7 - N)) ∧ ∀ b, b < 4 → (∀ c, c < 6 → (X b c).natAbs ≤ Om (6 - N)) ∧ (gn (X b) p + p (6 + b)).natAbs ≤ Om (7 - N) := by
  obtain ⟨c1, c2, c3, c4, A, k, nh, c5, c6⟩ := C
  have ek : N + k = 6 := c5.1
  have e1 : 6 - N = k := by omega
  have e2 : 7 - N = k + 1 := by omega
  rw [e1, e2]
  have hA : ∀ b, b < 4 → ∀ r c, r < k + 1 → c < 7 → (axc A k p b r c).natAbs ≤ 9 := fun b hb r c hr hc => by
    unfold axc
    have h10 : (if c = 6 then 6 + b else c) < 10 := by split <;> omega
    by_cases z : r < k
    · rw [if_pos z]
      exact hL _ (c6 r z) _ h10
    · rw [if_neg z]
      exact hp _ h10
  refine ⟨by omega, cn_W (axc_cn (p := p) (b := 0) c5) (fun r c hr hc => hA 0 (by omega) r c (by omega) (by omega)), fun i hi => ?_, fun b hb => ?_⟩
  · have := cn_row (axc_cn (p := p) (b := 0) c5) (hA 0 (by omega)) hi
    rw [axc_k] at this
    exact this
  · have s7 : ∀ r, sm (fun e => (if e < 6 then X b e else 1) * axc A k p b r e) 7 = sm (fun e => X b e * axc A k p b r e) 6 + axc A k p b r 6 := fun r => by
      show sm (fun e => (if e < 6 then X b e else 1) * axc A k p b r e) 6 + (if (6 : Nat) < 6 then X b 6 else 1) * axc A k p b r 6 = _
      rw [if_neg (by omega), Int.one_mul]
      rw [sm_cg (F := fun e => (if e < 6 then X b e else 1) * axc A k p b r e) (G := fun e => X b e * axc A k p b r e) (fun e he => by rw [if_pos he])]
    have := cn_vec (x := fun e => if e < 6 then X b e else 1) (axc_cn (p := p) (b := b) c5) (hA b hb) (fun r hr => by
      rw [s7, axc_r hr, show axc A k p b r 6 = A r (6 + b) from by
        unfold axc
        rw [if_pos hr, if_pos rfl]]
      exact c3 b hb _ (c6 r hr)) (if_neg (by omega)) (fun l hl => by
      try dsimp only
      rw [if_pos (c1.1 l hl).1]
      exact c4 b l hb hl)
    refine ⟨fun c hc => ?_, ?_⟩
    · have := this.1 c hc
      try dsimp only at this
      rw [if_pos hc] at this
      exact this
    · have := this.2
      rw [s7, axc_k, show axc A k p b k 6 = p (6 + b) from by
        unfold axc
        rw [if_neg (by omega), if_pos rfl]] at this
      exact this
/-- a saying that gains something: the new rows -/
theorem can_rows {L : List (Nat → Int)} {f : Nat} {H S : Nat → Nat → Int} {hH h : Nat → Nat} {X : Nat → Nat → Int} {p : Nat → Int} (C : Can L (f + 1) H hH X) (hg : ∃ b, b < f + 1 ∧ gn (H b) p ≠ 0) (hS : Hnf f S h) (hk : ∀ v, Sp f S v ↔ Sp (f + 1) H v ∧ gn v p = 0) : (∀ v, Sp f S v ↔ Kr (p :: L) v) ∧ ∃ (A : Nat → Nat → Int) (k : Nat) (nh : Nat → Nat), Cn A k f S h nh ∧ ∀ r, r < k → A r ∈ p :: L := by
  obtain ⟨c1, c2, c3, c4, A, k, nh, c5, c6⟩ := C
  constructor
  · intro v
    rw [hk, c2]
    constructor
    · intro q r hr
      rcases List.mem_cons.mp hr with e | e
      · rw [e]
        exact q.2
      · exact q.1 r e
    · intro q
      exact ⟨fun r hr => q r (List.mem_cons_of_mem _ hr), q p List.mem_cons_self⟩
  · obtain ⟨b, b1, b2⟩ := hg
    obtain ⟨nh1, hn⟩ := cn_step (S := S) (h := h) (axc_cn (p := p) (b := 0) c5) ⟨b, b1, by rw [axc_k]; exact b2⟩ hS (fun i hi => by
      rw [axc_k]
      exact (hk _).mp (Sp_row hi)) (fun v hv hz => by
      rw [axc_k] at hz
      exact (hk v).mpr ⟨hv, hz⟩)
    refine ⟨fun r => if r < k then A r else p, k + 1, nh1, ?_, fun r hr => ?_⟩
    · obtain ⟨d1, d2, d3, d4, d5, d6⟩ := hn
      refine ⟨d1, d2, fun i r hi hr => ?_, d4, d5, ?_⟩
      · rw [← d3 i r hi hr]
        exact sm_cg (fun e he => by
          unfold axc
          rw [if_neg (show ¬ e = 6 by omega)])
      · rw [mi_cgc (A := fun r => if r < k then A r else p) (B := axc A k p 0) (c := nh1) (fun r m hr hm => by
          have := (d5 m hm).1
          unfold axc
          rw [if_neg (show ¬ nh1 m = 6 by omega)])]
        exact d6
    · dsimp only
      by_cases z : r < k
      · rw [if_pos z]
        exact List.mem_cons_of_mem _ (c6 r z)
      · rw [if_neg z]
        exact List.mem_cons_self
