/-! ## reduce on whole numbers, row after row -/
def rxZ (F : Nat → Nat → Int) (h : Nat → Nat) (g : Nat) (R : Nat → Int) (i : Nat) : Nat → Nat → Int
  | 0 => R
  | k + 1 => if i + k = g then rxZ F h g R i k else fun c => rxZ F h g R i k c - flz (rxZ F h g R i k (h (i + k))) (F (i + k) (h (i + k))) * F (i + k) c
theorem rx_sN {f : Nat → Nat → Int64} {r : Nat → Int64} {F : Nat → Nat → Int} {h : Nat → Nat} {R : Nat → Int} {g i : Nat} (hr : E1 r R) : ∀ {k : Nat}, (∀ e, e < k → i + e ≠ g → E1 (f (i + e)) (F (i + e)) ∧ h (i + e) < 6 ∧ (∀ c, c < h (i + e) → F (i + e) c = 0) ∧ F (i + e) (h (i + e)) ≠ 0 ∧ rg (F (i + e) (h (i + e))) ∧ rg (rxZ F h g R i e (h (i + e)))) → E1 (rx_s f g r i k) (rxZ F h g R i k)
  | 0, _ => hr
  | k + 1, H => by
    have ih := rx_sN (k := k) hr (fun e he hn => H e (by omega) hn)
    show E1 (rx_1 f g (rx_s f g r i k) (i + k)) (if i + k = g then rxZ F h g R i k else fun c => rxZ F h g R i k c - flz (rxZ F h g R i k (h (i + k))) (F (i + k) (h (i + k))) * F (i + k) c)
    by_cases z : i + k = g
    · rw [if_pos z, z, rx_g]
      exact ih
    · rw [if_neg z]
      obtain ⟨a1, a2, a3, a4, a5, a6⟩ := H k (by omega) z
      exact rx_N a1 ih z a2 a3 a4 a5 a6
/-- columns ahead of the heads stay -/
theorem rxZ_lo {F : Nat → Nat → Int} {h : Nat → Nat} {g i c : Nat} {R : Nat → Int} : ∀ {k : Nat}, (∀ e, e < k → i + e ≠ g → F (i + e) c = 0) → rxZ F h g R i k c = R c
  | 0, _ => rfl
  | k + 1, H => by
    have ih := rxZ_lo (k := k) (R := R) (h := h) (fun e he hn => H e (by omega) hn)
    unfold rxZ
    by_cases z : i + k = g
    · rw [if_pos z]
      exact ih
    · rw [if_neg z]
      rw [H k (by omega) z, Int.mul_zero, Int.sub_zero]
      exact ih
/-- at each head it is less than the head at the end, and not less than nothing -/
theorem rxZ_red {F : Nat → Nat → Int} {h : Nat → Nat} {g i : Nat} {R : Nat → Int} : ∀ {k : Nat}, (∀ e, e < k → i + e ≠ g → (∀ c, c < h (i + e) → F (i + e) c = 0) ∧ 0 < F (i + e) (h (i + e))) → (∀ e e2, e < e2 → e2 < k → h (i + e) < h (i + e2)) → ∀ e, e < k → i + e ≠ g → 0 ≤ rxZ F h g R i k (h (i + e)) ∧ rxZ F h g R i k (h (i + e)) < F (i + e) (h (i + e))
  | 0, _, _, e, he, _ => by omega
  | k + 1, H, O, e, he, hn => by
    have ih := rxZ_red (k := k) (R := R) (fun e he hn => H e (by omega) hn) (fun e e2 h1 h2 => O e e2 h1 (by omega))
    unfold rxZ
    rcases Nat.lt_or_ge e k with y | y
    · by_cases z : i + k = g
      · rw [if_pos z]
        exact ih e y hn
      · rw [if_neg z]
        rw [(H k (by omega) z).1 (h (i + e)) (O e k y (by omega)), Int.mul_zero, Int.sub_zero]
        exact ih e y hn
    · have ee : e = k := by omega
      subst ee
      rw [if_neg hn]
      exact flz_b (H e (by omega) hn).2
/-- it takes off only rows of F: what is linear stays -/
theorem rxZ_lin {F : Nat → Nat → Int} {h : Nat → Nat} {g i : Nat} {R : Nat → Int} (P : (Nat → Int) → Prop) (hP : ∀ (x y : Nat → Int) (a : Int), P x → P y → P (fun c => x c - a * y c)) (hR : P R) : ∀ {k : Nat}, (∀ e, e < k → i + e ≠ g → P (F (i + e))) → P (rxZ F h g R i k)
  | 0, _ => hR
  | k + 1, H => by
    have ih := rxZ_lin (k := k) (h := h) P hP hR (fun e he hn => H e (by omega) hn)
    unfold rxZ
    by_cases z : i + k = g
    · rw [if_pos z]
      exact ih
    · rw [if_neg z]
      exact hP _ _ _ ih (H k (by omega) z)
