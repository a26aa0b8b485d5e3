/-- a truth as a number -/
def x_b (q : Prop) [Decidable q] : Int32 := if q then 1 else 0
theorem x_b_t {q : Prop} [Decidable q] (k : q) : x_b q = 1 := if_pos k
theorem x_b_f {q : Prop} [Decidable q] (k : ¬ q) : x_b q = 0 := if_neg k
theorem x_b_0 {q : Prop} [Decidable q] : x_b q = 0 ↔ ¬ q := by
  by_cases k : q
  · rw [x_b_t k]; exact ⟨fun j => absurd j (by decide), fun j => absurd k j⟩
  · rw [x_b_f k]; exact ⟨fun _ => k, fun _ => rfl⟩
theorem x_b_n {q : Prop} [Decidable q] : ¬ x_b q = 0 ↔ q := by
  rw [x_b_0]
  exact Decidable.not_not
theorem x_b_z {q : Prop} [Decidable q] : narrow .boolean (.int (x_b q)) = .int (x_b q) := by
  by_cases k : q
  · rw [x_b_t k]; rfl
  · rw [x_b_f k]; rfl
set_option maxRecDepth 100000 in
set_option maxHeartbeats 4000000 in
/-- in -/
theorem c_in (l : Launch) (D : va_G) {dA : Nat → ClassId} {v lo hi : Int32} {h : xH} {sz : Nat} {Post : Option Value → xH → Nat → Prop}  (hpost : Post (some (.int (x_b (lo ≤ v ∧ v ≤ hi)))) h sz) : xMet l yX5_in wsX5_in 0 0 0 0 D dA [.int v, .int lo, .int hi] h sz Post := by
  refine x_open (cc := cX5_in) (maxL := 3) (ret := (some .boolean)) (by decide) rfl (by decide) ?_
  intro p e s m args below meth c G _
  refine x_iload_n G dX5_in_0 rfl ?_
  refine x_iload_n G dX5_in_1 rfl ?_
  refine x_icmp_lt G 14 dX5_in_2 (by decide) (fun c_2 => ?_) (fun c_2 => ?_)
  · refine x_iconstV (v := 0) G dX5_in_14 (by decide) ?_
    exact x_zret G dX5_in_15 rfl (by rw [x_b_f (fun q => Int32.not_le.mpr c_2 q.1)] at hpost; exact hpost)
  · refine x_iload_n G dX5_in_5 rfl ?_
    refine x_iload_n G dX5_in_6 rfl ?_
    refine x_icmp_gt G 14 dX5_in_7 (by decide) (fun c_7 => ?_) (fun c_7 => ?_)
    · refine x_iconstV (v := 0) G dX5_in_14 (by decide) ?_
      exact x_zret G dX5_in_15 rfl (by rw [x_b_f (fun q => Int32.not_le.mpr c_7 q.2)] at hpost; exact hpost)
    · refine x_iconstV (v := 1) G dX5_in_10 (by decide) ?_
      refine x_goto G 15 dX5_in_11 (by decide) ?_
      exact x_zret G dX5_in_15 rfl (by rw [x_b_t ⟨Int32.not_lt.mp c_2, Int32.not_lt.mp c_7⟩] at hpost; exact hpost)
