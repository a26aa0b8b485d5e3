/-! ## Minors of sayings -/
def sgn (m : Nat) : Int := if m % 2 = 0 then 1 else -1
theorem sgn_s {m : Nat} : sgn (m + 1) = -sgn m := by
  unfold sgn
  by_cases h : m % 2 = 0
  · rw [if_pos h, if_neg (by omega)]
  · rw [if_neg h, if_pos (by omega)]
    rfl
theorem sgn_abs {m : Nat} : (sgn m).natAbs = 1 := by
  unfold sgn
  split <;> rfl
/-- a sum of n numbers -/
def sm (F : Nat → Int) : Nat → Int
  | 0 => 0
  | n + 1 => sm F n + F n
theorem sm_cg {F G : Nat → Int} : ∀ {n : Nat}, (∀ i, i < n → F i = G i) → sm F n = sm G n
  | 0, _ => rfl
  | n + 1, h => by
    show sm F n + F n = sm G n + G n
    rw [sm_cg (fun i hi => h i (by omega)), h n (by omega)]
theorem sm_0 {F : Nat → Int} : ∀ {n : Nat}, (∀ i, i < n → F i = 0) → sm F n = 0
  | 0, _ => rfl
  | n + 1, h => by
    show sm F n + F n = 0
    rw [sm_0 (fun i hi => h i (by omega)), h n (by omega)]
    rfl
theorem sm_mul {F : Nat → Int} {a : Int} : ∀ {n : Nat}, sm (fun i => a * F i) n = a * sm F n
  | 0 => (Int.mul_zero a).symm
  | n + 1 => by
    show sm (fun i => a * F i) n + a * F n = a * (sm F n + F n)
    rw [sm_mul, Int.mul_add]
theorem sm_add {F G : Nat → Int} : ∀ {n : Nat}, sm (fun i => F i + G i) n = sm F n + sm G n
  | 0 => rfl
  | n + 1 => by
    show sm (fun i => F i + G i) n + (F n + G n) = sm F n + F n + (sm G n + G n)
    rw [sm_add]
    omega
theorem sm_swap {F : Nat → Nat → Int} {k : Nat} : ∀ {n : Nat}, sm (fun e => sm (fun i => F e i) n) k = sm (fun i => sm (fun e => F e i) k) n
  | 0 => sm_0 (fun _ _ => rfl)
  | n + 1 => by
    show sm (fun e => sm (fun i => F e i) n + F e n) k = sm (fun i => sm (fun e => F e i) k) n + sm (fun e => F e n) k
    rw [sm_add (F := fun e => sm (fun i => F e i) n) (G := fun e => F e n), sm_swap]
theorem sm_le {F : Nat → Int} {M : Nat} : ∀ {n : Nat}, (∀ i, i < n → (F i).natAbs ≤ M) → (sm F n).natAbs ≤ n * M
  | 0, _ => Nat.zero_le _
  | n + 1, h => by
    have a := sm_le (n := n) (fun i hi => h i (by omega))
    have b := h n (by omega)
    show (sm F n + F n).natAbs ≤ (n + 1) * M
    rw [Nat.add_mul, Nat.one_mul]
    omega
theorem sm_out {F : Nat → Int} {a : Nat} : ∀ {n : Nat}, a < n → sm F n = F a + sm (fun e => if e = a then 0 else F e) n
  | 0, h => by omega
  | n + 1, h => by
    show sm F n + F n = F a + (sm (fun e => if e = a then 0 else F e) n + (if n = a then 0 else F n))
    by_cases e : n = a
    · subst e
      rw [if_pos rfl, sm_cg (F := fun e => if e = n then 0 else F e) (G := F) (n := n) (fun i hi => if_neg (by omega))]
      omega
    · rw [if_neg e, sm_out (n := n) (a := a) (by omega)]
      omega
theorem sm_sw {F G : Nat → Int} {m : Nat} : ∀ {n : Nat}, m + 1 < n → (∀ i, i < n → i ≠ m → i ≠ m + 1 → F i = -G i) → F m = -G (m + 1) → F (m + 1) = -G m → sm F n = -sm G n
  | 0, h, _, _, _ => by omega
  | n + 1, h, hF, h1, h2 => by
    show sm F n + F n = -(sm G n + G n)
    by_cases e : n = m + 1
    · subst e
      show sm F m + F m + F (m + 1) = -(sm G m + G m + G (m + 1))
      have : sm F m = sm (fun i => (-1) * G i) m := sm_cg (fun i hi => by rw [hF i (by omega) (by omega) (by omega)]; omega)
      rw [sm_mul] at this
      omega
    · have := sm_sw (n := n) (by omega) (fun i hi => hF i (by omega)) h1 h2
      have := hF n (by omega) (by omega) e
      omega
/-- columns but the m-th; one in the place m; two in each other's place; one ahead -/
def sk (m : Nat) (c : Nat → Nat) : Nat → Nat := fun i => if i < m then c i else c (i + 1)
def rp (m x : Nat) (c : Nat → Nat) : Nat → Nat := fun i => if i = m then x else c i
def cw2 (m : Nat) (c : Nat → Nat) : Nat → Nat := fun i => if i = m then c (m + 1) else if i = m + 1 then c m else c i
def co (x : Nat) (c : Nat → Nat) : Nat → Nat := fun i => if i = 0 then x else c (i - 1)
/-- the minor of the first k rows at the first k columns of c -/
def mi (A : Nat → Nat → Int) : Nat → (Nat → Nat) → Int
  | 0, _ => 1
  | k + 1, c => sm (fun m => sgn m * (A k (c m) * mi A k (sk m c))) (k + 1)
theorem mi_s {A : Nat → Nat → Int} {k : Nat} {c : Nat → Nat} : mi A (k + 1) c = sm (fun m => sgn m * (A k (c m) * mi A k (sk m c))) (k + 1) := rfl
theorem mi_cg {A B : Nat → Nat → Int} : ∀ {k : Nat} {c d : Nat → Nat}, (∀ r, r < k → A r = B r) → (∀ i, i < k → c i = d i) → mi A k c = mi B k d
  | 0, _, _, _, _ => rfl
  | k + 1, c, d, hA, hc => by
    rw [mi_s, mi_s]
    refine sm_cg (fun m hm => ?_)
    rw [hc m hm, hA k (by omega), mi_cg (c := sk m c) (d := sk m d) (fun r hr => hA r (by omega)) (fun i hi => by
      unfold sk
      split
      · exact hc i (by omega)
      · exact hc (i + 1) (by omega))]
/-- what is nothing in all rows is nothing in the minors -/
theorem mi_ker {A : Nat → Nat → Int} {x : Nat → Int} {n : Nat} : ∀ {k : Nat} {c : Nat → Nat} {m : Nat}, (∀ r, r < k → sm (fun e => x e * A r e) n = 0) → m < k → sm (fun e => x e * mi A k (rp m e c)) n = 0
  | 0, _, _, _, hm => by omega
  | k + 1, c, m, hx, hm => by
    have e1 : ∀ e, x e * mi A (k + 1) (rp m e c) = sm (fun i => x e * (sgn i * (A k (rp m e c i) * mi A k (sk i (rp m e c))))) (k + 1) := fun e => by
      rw [mi_s, sm_mul]
    rw [sm_cg (fun e _ => e1 e), sm_swap (F := fun e i => x e * (sgn i * (A k (rp m e c i) * mi A k (sk i (rp m e c)))))]
    refine sm_0 (fun i hi => ?_)
    by_cases ei : i = m
    · subst ei
      have e2 : ∀ e, x e * (sgn i * (A k (rp i e c i) * mi A k (sk i (rp i e c)))) = sgn i * mi A k (sk i c) * (x e * A k e) := fun e => by
        rw [show rp i e c i = e from if_pos rfl, show sk i (rp i e c) = sk i c from by
          funext u
          grind [sk, rp, cw2, co]]
        grind
      rw [sm_cg (fun e _ => e2 e), sm_mul, hx k (by omega), Int.mul_zero]
    · have e2 : ∀ e, x e * (sgn i * (A k (rp m e c i) * mi A k (sk i (rp m e c)))) = sgn i * A k (c i) * (x e * mi A k (rp (if i < m then m - 1 else m) e (sk i c))) := fun e => by
        rw [show rp m e c i = c i from if_neg ei, show sk i (rp m e c) = rp (if i < m then m - 1 else m) e (sk i c) from by
          funext u
          grind [sk, rp, cw2, co]]
        grind
      rw [sm_cg (fun e _ => e2 e), sm_mul, mi_ker (k := k) (c := sk i c) (fun r hr => hx r (by omega)) (by split <;> omega), Int.mul_zero]
theorem mi_sw {A : Nat → Nat → Int} : ∀ {k : Nat} {c : Nat → Nat} {m : Nat}, m + 1 < k → mi A k (cw2 m c) = -mi A k c
  | 0, _, _, h => by omega
  | k + 1, c, m, h => by
    rw [mi_s, mi_s]
    refine sm_sw h (fun i hi n1 n2 => ?_) ?_ ?_
    · rw [show cw2 m c i = c i from by unfold cw2; rw [if_neg n1, if_neg n2]]
      by_cases y : i < m
      · rw [show sk i (cw2 m c) = cw2 (m - 1) (sk i c) from by
          funext u
          grind [sk, rp, cw2, co], mi_sw (by omega)]
        grind
      · rw [show sk i (cw2 m c) = cw2 m (sk i c) from by
          funext u
          grind [sk, rp, cw2, co], mi_sw (by omega)]
        grind
    · rw [show cw2 m c m = c (m + 1) from if_pos rfl, show sk m (cw2 m c) = sk (m + 1) c from by
        funext u
        grind [sk, rp, cw2, co], sgn_s]
      grind
    · rw [show cw2 m c (m + 1) = c m from by unfold cw2; rw [if_neg (by omega), if_pos rfl], show sk (m + 1) (cw2 m c) = sk m c from by
        funext u
        grind [sk, rp, cw2, co], sgn_s]
      grind
/-- a column twice: nothing -/
theorem mi_two {A : Nat → Nat → Int} {k : Nat} : ∀ (n : Nat) {c : Nat → Nat} {a b : Nat}, a + n + 1 = b → b < k → c a = c b → mi A k c = 0
  | 0, c, a, b, h, hb, e => by
    have := @mi_sw A k c a (by omega)
    rw [show cw2 a c = c from by
      funext u
      grind [sk, rp, cw2, co]] at this
    omega
  | n + 1, c, a, b, h, hb, e => by
    have := @mi_sw A k c a (by omega)
    rw [mi_two n (c := cw2 a c) (a := a + 1) (b := b) (by omega) hb (by
      unfold cw2
      rw [if_neg (by omega), if_pos rfl, if_neg (by omega), if_neg (by omega), e])] at this
    omega
theorem mi_rep {A : Nat → Nat → Int} {k : Nat} {c : Nat → Nat} {a b : Nat} (ha : a < k) (hb : b < k) (hab : a ≠ b) (e : c a = c b) : mi A k c = 0 := by
  rcases Nat.lt_or_ge a b with z | z
  · exact mi_two (b - a - 1) (by omega) hb e
  · exact mi_two (a - b - 1) (a := b) (b := a) (by omega) ha e.symm
/-- one row more: what x makes there, times the minor -/
theorem mi_co {A : Nat → Nat → Int} {x : Nat → Int} {n k : Nat} {c : Nat → Nat} (hx : ∀ r, r < k → sm (fun e => x e * A r e) n = 0) : sm (fun e => x e * mi A (k + 1) (co e c)) n = sm (fun e => x e * A k e) n * mi A k c := by
  have e1 : ∀ e, x e * mi A (k + 1) (co e c) = sm (fun i => x e * (sgn i * (A k (co e c i) * mi A k (sk i (co e c))))) (k + 1) := fun e => by
    rw [mi_s, sm_mul]
  rw [sm_cg (fun e _ => e1 e), sm_swap (F := fun e i => x e * (sgn i * (A k (co e c i) * mi A k (sk i (co e c)))))]
  rw [sm_out (a := 0) (by omega), sm_0 (n := k + 1) (fun i hi => ?_), Int.add_zero]
  · have e2 : ∀ e, x e * (sgn 0 * (A k (co e c 0) * mi A k (sk 0 (co e c)))) = mi A k c * (x e * A k e) := fun e => by
      rw [show sgn 0 = 1 from rfl, show co e c 0 = e from rfl, show sk 0 (co e c) = c from by
        funext u
        grind [sk, rp, cw2, co]]
      grind
    rw [sm_cg (fun e _ => e2 e), sm_mul, Int.mul_comm]
  · by_cases z : i = 0
    · rw [if_pos z]
    · rw [if_neg z]
      have e2 : ∀ e, x e * (sgn i * (A k (co e c i) * mi A k (sk i (co e c)))) = sgn i * A k (c (i - 1)) * (x e * mi A k (rp 0 e (sk i (co 0 c)))) := fun e => by
        rw [show co e c i = c (i - 1) from if_neg z, show sk i (co e c) = rp 0 e (sk i (co 0 c)) from by
          funext u
          grind [sk, rp, cw2, co]]
        grind
      rw [sm_cg (fun e _ => e2 e), sm_mul, mi_ker (k := k) (c := sk i (co 0 c)) hx (by omega), Int.mul_zero]
