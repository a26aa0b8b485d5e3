/-! ## What is linear in a row is kept; rows as sums of the rows before -/
theorem ga_lin {d n g : Nat} {R R1 : Nat → Nat → Int} {o o1 : Nat → Int} {b : Bool} (P : (Nat → Int) → Prop) (hP : ∀ (x y : Nat → Int) (a : Int), P x → P y → P (fun c => x c - a * y c)) (h : ∀ i, d ≤ i → i < d + n → P (R i)) (q : gaZ g R o d n = some (b, R1, o1)) : ∀ i, d ≤ i → i < d + n → P (R1 i) := by
  refine gaZ_inv (fun S (_ : Nat → Int) => ∀ i, d ≤ i → i < d + n → P (S i)) ?_ ?_ g h q
  · intro S o r h1 h2 h i i1 i2
    rw [zsw_p]
    have := zp_in h1 h2 i1 i2
    exact h _ this.1 this.2
  · intro S o hn _ _ h i i1 i2
    by_cases z : d < i
    · rw [show zR S o d (n - 1) i = fun c => S i c - (o i).tdiv (o d) * S d c from by
        funext c
        exact zR_i z i2]
      exact hP _ _ _ (h i i1 i2) (h d (Nat.le_refl _) (by omega))
    · rw [show zR S o d (n - 1) i = S i from by
        funext c
        exact if_neg (by omega)]
      exact h i i1 i2
theorem cZ_lin {f j d : Nat} {R : Nat → Nat → Int} (P : (Nat → Int) → Prop) (hP : ∀ (x y : Nat → Int) (a : Int), P x → P y → P (fun c => x c - a * y c)) (hd : d < f) (h : ∀ i, i < f → P (R i)) : ∀ i, i < f → P (cZ R j d i) := by
  have hn : P (fun c => if R d j < 0 then -R d c else R d c) := by
    by_cases z : R d j < 0
    · have := hP (fun c => R d c) (fun c => R d c) 2 (h d hd) (h d hd)
      rw [show (fun c => if R d j < 0 then -R d c else R d c) = fun c => R d c - 2 * R d c from by
        funext c
        rw [if_pos z]
        omega]
      exact this
    · rw [show (fun c => if R d j < 0 then -R d c else R d c) = R d from by
        funext c
        rw [if_neg z]]
      exact h d hd
  intro i hi
  rcases Nat.lt_trichotomy i d with z | z | z
  · rw [show cZ R j d i = fun c => R i c - flz (R i j) (if R d j < 0 then -R d j else R d j) * (if R d j < 0 then -R d c else R d c) from by
      funext c
      exact cZ_lo z]
    exact hP _ _ _ (h i hi) hn
  · subst z
    rw [show cZ R j i i = fun c => if R i j < 0 then -R i c else R i c from by
      funext c
      exact cZ_d]
    exact hn
  · rw [show cZ R j d i = R i from by
      funext c
      exact cZ_hi z]
    exact h i hi
/-- a row is the sum of the rows H, so often as its columns from 6 on say -/
def Gh (N : Nat) (H : Nat → Nat → Int) (x : Nat → Int) : Prop := ∀ c, c < 6 → x c = ls (fun b => x (6 + b)) H N c
theorem Gh_lin {N : Nat} {H : Nat → Nat → Int} (x y : Nat → Int) (a : Int) (hx : Gh N H x) (hy : Gh N H y) : Gh N H (fun c => x c - a * y c) := fun c hc => by
  show x c - a * y c = ls (fun b => x (6 + b) - a * y (6 + b)) H N c
  rw [show (fun b => x (6 + b) - a * y (6 + b)) = fun b => x (6 + b) + (-a) * y (6 + b) from by
    funext b
    rw [Int.neg_mul]
    omega, ls_add (u := fun b => (-a) * y (6 + b)), ls_mul (t := fun b => y (6 + b)), ← hx c hc, ← hy c hc, Int.neg_mul]
  omega
/-- the gains of such rows are nothing -/
def Gk (N : Nat) (g : Nat → Int) (x : Nat → Int) : Prop := ls (fun b => x (6 + b)) (fun b _ => g b) N 0 = 0
theorem Gk_lin {N : Nat} {g : Nat → Int} (x y : Nat → Int) (a : Int) (hx : Gk N g x) (hy : Gk N g y) : Gk N g (fun c => x c - a * y c) := by
  show ls (fun b => x (6 + b) - a * y (6 + b)) (fun b _ => g b) N 0 = 0
  rw [show (fun b => x (6 + b) - a * y (6 + b)) = fun b => x (6 + b) + (-a) * y (6 + b) from by
    funext b
    rw [Int.neg_mul]
    omega, ls_add (u := fun b => (-a) * y (6 + b)), ls_mul (t := fun b => y (6 + b)), hx, hy, Int.mul_zero]
  omega
/-- where a row is nothing ahead of j, so are its parts whose heads are ahead of j -/
theorem Gh_lo {N j : Nat} {H : Nat → Nat → Int} {hH : Nat → Nat} {x : Nat → Int} (hh : Hnf N H hH) (hx : Gh N H x) (hz : ∀ c, c < j → x c = 0) : ∀ n b, b < n → b < N → hH b < j → x (6 + b) = 0
  | 0, b, hb, _, _ => by omega
  | n + 1, b, hb, hN, hj => by
    have ih : ∀ e, e < b → x (6 + e) = 0 := fun e he => Gh_lo hh hx hz n e (by omega) (by omega) (by
      have := hh.2.1 e b he hN
      omega)
    have H1 := hh.1 b hN
    have e := hx (hH b) H1.1
    rw [hz _ hj, ls_one (k := b) hN (fun i hi hn => by
      rcases Nat.lt_or_ge i b with z | z
      · rw [ih i z, Int.zero_mul]
      · rw [(hh.1 i hi).2.2 (hH b) (hh.2.1 b i (by omega) hi), Int.mul_zero])] at e
    rcases Int.mul_eq_zero.mp e.symm with z | z
    · exact z
    · omega
/-- so in column j such a row has its one part there, or nothing -/
theorem Gh_at {N j : Nat} {H : Nat → Nat → Int} {hH : Nat → Nat} {x : Nat → Int} (hh : Hnf N H hH) (hx : Gh N H x) (hj : j < 6) (hz : ∀ c, c < j → x c = 0) : (∀ b, b < N → hH b = j → x j = x (6 + b) * H b j) ∧ ((∀ b, b < N → hH b ≠ j) → x j = 0) := by
  have lo := Gh_lo hh hx hz
  constructor
  · intro b hb e
    rw [hx j hj]
    refine ls_one (t := fun b => x (6 + b)) hb (fun i hi hn => ?_)
    rcases Nat.lt_or_ge i b with z | z
    · have := hh.2.1 i b z hb
      rw [lo N i hi hi (by omega), Int.zero_mul]
    · have := hh.2.1 b i (by omega) hi
      rw [(hh.1 i hi).2.2 j (by omega), Int.mul_zero]
  · intro hn
    rw [hx j hj]
    refine ls_z (fun i hi => ?_)
    rcases Nat.lt_or_ge (hH i) j with z | z
    · rw [lo N i hi hi z, Int.zero_mul]
    · have := hn i hi
      rw [(hh.1 i hi).2.2 j (by omega), Int.mul_zero]
