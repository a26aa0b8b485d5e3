/-! ## What is done to rows leaves the lattice, and leaves them apart -/
def Same (f : Nat) (R S : Nat → Nat → Int) : Prop := (∀ i, i < f → Sp f S (R i)) ∧ ∀ i, i < f → Sp f R (S i)
theorem Same_rf {f : Nat} {R : Nat → Nat → Int} : Same f R R := ⟨fun _ hi => Sp_row hi, fun _ hi => Sp_row hi⟩
theorem Same_tr {f : Nat} {R S T : Nat → Nat → Int} (a : Same f R S) (b : Same f S T) : Same f R T := ⟨fun i hi => Sp_sub b.1 (a.1 i hi), fun i hi => Sp_sub a.2 (b.2 i hi)⟩
/-- rows, each with so many of row p -/
def rad (R : Nat → Nat → Int) (p : Nat) (a : Nat → Int) : Nat → Nat → Int := fun i c => R i c + a i * R p c
def rng (R : Nat → Nat → Int) (d : Nat) : Nat → Nat → Int := fun i c => if i = d then -R i c else R i c
theorem Same_ad {f p : Nat} {R : Nat → Nat → Int} {a : Nat → Int} (hp : p < f) (ha : a p = 0) : Same f R (rad R p a) := by
  refine ⟨fun i hi => ?_, fun i hi => Sp_add (Sp_row hi) (Sp_mul (a i) (Sp_row hp))⟩
  refine Sp_cg (fun c _ => ?_) (Sp_add (Sp_row (R := rad R p a) hi) (Sp_mul (-a i) (Sp_row (R := rad R p a) hp)))
  show R i c + a i * R p c + -a i * (R p c + a p * R p c) = R i c
  rw [ha, Int.zero_mul, Int.add_zero, Int.neg_mul]
  omega
theorem Same_ng {f d : Nat} {R : Nat → Nat → Int} : Same f R (rng R d) := by
  refine ⟨fun i hi => ?_, fun i hi => ?_⟩
  · by_cases e : i = d
    · refine Sp_cg (fun c _ => ?_) (Sp_mul (-1) (Sp_row (R := rng R d) hi))
      rw [show rng R d i c = -R i c from if_pos e]
      omega
    · exact Sp_cg (fun c _ => by rw [show rng R d i c = R i c from if_neg e]) (Sp_row (R := rng R d) hi)
  · by_cases e : i = d
    · refine Sp_cg (fun c _ => ?_) (Sp_mul (-1) (Sp_row hi))
      rw [show rng R d i c = -R i c from if_pos e]
      omega
    · exact Sp_cg (fun c _ => by rw [show rng R d i c = R i c from if_neg e]) (Sp_row hi)
theorem ls_ad {t : Nat → Int} {R : Nat → Nat → Int} {p c : Nat} {a : Nat → Int} : ∀ {f : Nat}, ls t (rad R p a) f c = ls t R f c + ls t (fun i _ => a i) f c * R p c
  | 0 => by
    show (0 : Int) = 0 + 0 * R p c
    omega
  | f + 1 => by
    show ls t (rad R p a) f c + t f * (R f c + a f * R p c) = ls t R f c + t f * R f c + (ls t (fun i _ => a i) f c + t f * a f) * R p c
    rw [ls_ad]
    grind
theorem ls_c {t a : Nat → Int} {c d : Nat} : ∀ {f : Nat}, ls t (fun i _ => a i) f c = ls t (fun i _ => a i) f d
  | 0 => rfl
  | f + 1 => by
    show ls t (fun i _ => a i) f c + t f * a f = ls t (fun i _ => a i) f d + t f * a f
    rw [ls_c]
theorem Ind_ad {f p : Nat} {R : Nat → Nat → Int} {a : Nat → Int} (hp : p < f) (ha : a p = 0) (H : Ind f R) : Ind f (rad R p a) := by
  intro t ht
  generalize hs : ls t (fun i _ => a i) f 0 = s
  have key := H (fun i => t i + (if i = p then s else 0)) (fun c hc => by
    rw [ls_add, ls_one (t := fun i => if i = p then s else 0) (R := R) (c := c) hp (fun i _ hn => by rw [if_neg hn, Int.zero_mul])]
    rw [if_pos rfl]
    have := ht c hc
    rw [ls_ad, ls_c (d := 0), hs] at this
    exact this)
  have h1 : ∀ i, i < f → i ≠ p → t i = 0 := fun i hi hn => by
    have := key i hi
    try dsimp only at this
    rw [if_neg hn] at this
    omega
  have hs0 : s = 0 := by
    rw [← hs]
    refine ls_z (fun i hi => ?_)
    by_cases e : i = p
    · rw [e, ha, Int.mul_zero]
    · rw [h1 i hi e, Int.zero_mul]
  intro i hi
  by_cases e : i = p
  · have := key i hi
    try dsimp only at this
    rw [if_pos e, hs0] at this
    omega
  · exact h1 i hi e
theorem Ind_ng {f d : Nat} {R : Nat → Nat → Int} (H : Ind f R) : Ind f (rng R d) := by
  intro t ht i hi
  have key := H (fun k => if k = d then -t k else t k) (fun c hc => by
    rw [← ht c hc]
    refine ls_cg (fun k _ => ?_)
    unfold rng
    by_cases e : k = d
    · rw [if_pos e, if_pos e, Int.neg_mul, Int.mul_neg]
    · rw [if_neg e, if_neg e]) i hi
  try dsimp only at key
  by_cases e : i = d
  · rw [if_pos e] at key
    omega
  · rw [if_neg e] at key
    exact key
/-- one lattice, and apart -/
def LI (f : Nat) (R0 R : Nat → Nat → Int) : Prop := Same f R0 R ∧ Ind f R
theorem LI_ad {f p : Nat} {R0 R : Nat → Nat → Int} {a : Nat → Int} (hp : p < f) (ha : a p = 0) (h : LI f R0 R) : LI f R0 (rad R p a) := ⟨Same_tr h.1 (Same_ad hp ha), Ind_ad hp ha h.2⟩
theorem LI_ng {f d : Nat} {R0 R : Nat → Nat → Int} (h : LI f R0 R) : LI f R0 (rng R d) := ⟨Same_tr h.1 Same_ng, Ind_ng h.2⟩
def ee (k : Nat) (x : Int) : Nat → Int := fun i => if i = k then x else 0
theorem LI_sw {f a r : Nat} {R0 R : Nat → Nat → Int} (ha : a < f) (hr : r < f) (h : LI f R0 R) : LI f R0 (zsw R a r) := by
  by_cases e : a = r
  · subst e
    have : zsw R a a = R := by
      funext i
      unfold zsw
      by_cases z : i = a
      · rw [if_pos z, z]
      · rw [if_neg z, if_neg z]
    rw [this]
    exact h
  · have h1 := LI_ad (p := r) (a := ee a 1) hr (if_neg (fun z => e z.symm)) h
    have h2 := LI_ad (p := a) (a := ee r (-1)) ha (if_neg e) h1
    have h3 := LI_ad (p := r) (a := ee a 1) hr (if_neg (fun z => e z.symm)) h2
    have h4 := LI_ng (d := r) h3
    have : zsw R a r = rng (rad (rad (rad R r (ee a 1)) a (ee r (-1))) r (ee a 1)) r := by
      funext i c
      unfold zsw rng rad ee
      by_cases z : i = r
      · subst z
        rw [if_pos rfl, if_pos rfl, if_neg (fun y => e y.symm), if_pos rfl, if_pos rfl]
        omega
      · rw [if_neg z, if_neg z]
        by_cases y : i = a
        · subst y
          rw [if_pos rfl, if_pos rfl, if_neg e, if_pos rfl, if_neg (fun y => e y.symm)]
          omega
        · rw [if_neg y, if_neg y, if_neg z]
          omega
    rw [this]
    exact h4
theorem LI_zR {f d k : Nat} {R0 R : Nat → Nat → Int} {o : Nat → Int} (hd : d < f) (h : LI f R0 R) : LI f R0 (zR R o d k) := by
  have : zR R o d k = rad R d (fun i => if d < i ∧ i < d + 1 + k then -(o i).tdiv (o d) else 0) := by
    funext i c
    unfold zR rad
    dsimp only
    by_cases z : d < i ∧ i < d + 1 + k
    · rw [if_pos z, if_pos z, Int.neg_mul]
      omega
    · rw [if_neg z, if_neg z]
      omega
  rw [this]
  exact LI_ad hd (if_neg (by omega)) h
theorem LI_ga {f d n g : Nat} {R0 R R1 : Nat → Nat → Int} {o o1 : Nat → Int} {b : Bool} (hn : d + n ≤ f) (h : LI f R0 R) (q : gaZ g R o d n = some (b, R1, o1)) : LI f R0 R1 := gaZ_inv (fun R _ => LI f R0 R) (fun R o r h1 h2 h => LI_sw (by omega) (by omega) h) (fun R o hn _ _ h => LI_zR (by omega) h) g h q
theorem LI_cZ {f d j : Nat} {R0 R : Nat → Nat → Int} (hd : d < f) (h : LI f R0 R) : LI f R0 (cZ R j d) := by
  have h1 : LI f R0 (zNR R (fun i => R i j) d) := by
    by_cases z : R d j < 0
    · have : zNR R (fun i => R i j) d = rng R d := by
        funext i c
        unfold zNR rng
        by_cases e : i = d
        · rw [if_pos ⟨e, z⟩, if_pos e]
        · rw [if_neg (fun q => e q.1), if_neg e]
      rw [this]
      exact LI_ng h
    · have : zNR R (fun i => R i j) d = R := by
        funext i c
        exact if_neg (fun q => z q.2)
      rw [this]
      exact h
  unfold cZ
  generalize zNR R (fun i => R i j) d = S at h1 ⊢
  generalize zNo (fun i => R i j) d = o
  have : zF S o d d = rad S d (fun i => if i < d then -flz (o i) (o d) else 0) := by
    funext i c
    unfold zF rad
    dsimp only
    by_cases z : i < d
    · rw [if_pos z, if_pos z, Int.neg_mul]
      omega
    · rw [if_neg z, if_neg z]
      omega
  rw [this]
  exact LI_ad hd (if_neg (by omega)) h1
