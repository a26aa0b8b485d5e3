/-! ## put: a turn leaves the lattice as it is -/
def Cl (P : (Nat → Int) → Prop) : Prop := ∀ (x y : Nat → Int) (a : Int), P x → P y → P (fun c => x c - a * y c)
theorem Cl_ng {P : (Nat → Int) → Prop} (hP : Cl P) {x : Nat → Int} (h : P x) : P (fun c => -x c) := by
  have := hP x x 2 h h
  rw [show (fun c => x c - 2 * x c) = fun c => -x c from by
    funext c
    omega] at this
  exact this
theorem rxZ_back {F : Nat → Nat → Int} {h : Nat → Nat} {g i : Nat} {R : Nat → Int} (P : (Nat → Int) → Prop) (hP : Cl P) : ∀ {k : Nat}, (∀ e, e < k → i + e ≠ g → P (F (i + e))) → P (rxZ F h g R i k) → P R
  | 0, _, q => q
  | k + 1, H, q => by
    refine rxZ_back (k := k) (F := F) (h := h) (g := g) (i := i) P hP (fun e he hn => H e (by omega) hn) ?_
    unfold rxZ at q
    by_cases z : i + k = g
    · rw [if_pos z] at q
      exact q
    · rw [if_neg z] at q
      have := hP _ (F (i + k)) (-(flz (rxZ F h g R i k (h (i + k))) (F (i + k) (h (i + k))))) q (H k (by omega) z)
      rw [show (fun c => (fun c => rxZ F h g R i k c - flz (rxZ F h g R i k (h (i + k))) (F (i + k) (h (i + k))) * F (i + k) c) c - -(flz (rxZ F h g R i k (h (i + k))) (F (i + k) (h (i + k)))) * F (i + k) c) = rxZ F h g R i k from by
        funext c
        grind] at this
      exact this
theorem ztS_P {F : Nat → Nat → Int} {h : Nat → Nat} {i : Nat} {G V : Int} (P : (Nat → Int) → Prop) (hP : Cl P) : P (ztS F h i G V) ↔ P (dvZ 200 (F i) (F 6) G V).1 := by
  by_cases z : (dvZ 200 (F i) (F 6) G V).1 (h i) < 0
  · rw [show ztS F h i G V = fun c => -(dvZ 200 (F i) (F 6) G V).1 c from by
      funext c
      exact if_pos z]
    constructor
    · intro q
      have := Cl_ng hP q
      rw [show (fun c => -(fun c => -(dvZ 200 (F i) (F 6) G V).1 c) c) = (dvZ 200 (F i) (F 6) G V).1 from by
        funext c
        exact Int.neg_neg _] at this
      exact this
    · exact Cl_ng hP
  · rw [show ztS F h i G V = (dvZ 200 (F i) (F 6) G V).1 from by
      funext c
      exact if_neg z]
/-- the rows behind, the row and the step: before and after they are made of each other -/
theorem turn_P {F : Nat → Nat → Int} {h : Nat → Nat} {n i g : Nat} {G V : Int} (hG : rg G) (hi : i < n) (hg : i ≠ g) (P : (Nat → Int) → Prop) (hP : Cl P) (H : ∀ k, i < k → k < n → k ≠ g → P (F k)) : (P (F i) ∧ P (F 6)) ↔ (P (ztA F h n i g G V) ∧ P (ztB F h n i g G V)) := by
  have HA : ∀ e, e < n - (i + 1) → i + 1 + e ≠ g → P (F (i + 1 + e)) := fun e he hn => H _ (by omega) (by omega) hn
  have HB : P (ztA F h n i g G V) → ∀ e, e < n - i → i + e ≠ g → P (zup F i (ztA F h n i g G V) (i + e)) := fun q e he hn => by
    by_cases z : i + e = i
    · rw [z, show zup F i (ztA F h n i g G V) i = ztA F h n i g G V from if_pos rfl]
      exact q
    · rw [show zup F i (ztA F h n i g G V) (i + e) = F (i + e) from if_neg z]
      exact H _ (by omega) (by omega) hn
  constructor
  · intro q
    have d := dvZ_lin (v := V) P hP hG q.1 q.2
    have a : P (ztA F h n i g G V) := rxZ_lin P hP ((ztS_P P hP).mpr d.1) HA
    exact ⟨a, rxZ_lin P hP d.2 (HB a)⟩
  · intro q
    have s : P (ztS F h i G V) := rxZ_back P hP HA q.1
    have b : P (dvZ 200 (F i) (F 6) G V).2.1 := rxZ_back P hP (HB q.1) q.2
    exact dvZ_back hG P hP ((ztS_P P hP).mp s) b
