/-- a truth as a number -/
def x_b (q : Prop) [Decidable q] : Int32 := if q then 1 else 0
theorem x_b_t {q : Prop} [Decidable q] (k : q) : x_b q = 1 := if_pos k
theorem x_b_f {q : Prop} [Decidable q] (k : ¬ q) : x_b q = 0 := if_neg k
theorem x_b_0 {q : Prop} [Decidable q] : x_b q = 0 ↔ ¬ q := by
  by_cases k : q
  · rw [x_b_t k]; exact ⟨fun j => absurd j (by decide), fun j => absurd k j⟩
  · rw [x_b_f k]; exact ⟨fun _ => k, fun _ => rfl⟩
theorem x_b_n {q : Prop} [Decidable q] : ¬ x_b q = 0 ↔ q := by
  rw [x_b_0]
  exact Decidable.not_not
theorem x_b_z {q : Prop} [Decidable q] : narrow .boolean (.int (x_b q)) = .int (x_b q) := by
  by_cases k : q
  · rw [x_b_t k]; rfl
  · rw [x_b_f k]; rfl
set_option maxRecDepth 100000 in
set_option maxHeartbeats 4000000 in
/-- in -/
theorem c_in (l : Launch) (D : va_G) {dA : Nat → ClassId} {v lo hi : Int32} {h : xH} {sz : Nat} {Post : Option Value → xH → Nat → Prop}  (hpost : Post (some (.int (x_b (lo ≤ v ∧ v ≤ hi)))) h sz) : xMet l yX5_in wsX5_in 0 0 0 0 D dA [.int v, .int lo, .int hi] h sz Post := by
  refine x_open (cc := cX5_in) (maxL := 3) (ret := (some .boolean)) (by decide) rfl (Nat.le_of_ble_eq_true rfl) ?_
  intro p e s m args below meth c G _
  refine x_iload_n G dX5_in_0 rfl ?_
  refine x_iload_n G dX5_in_1 rfl ?_
  refine x_icmp_lt G 14 dX5_in_2 (by decide) (fun c_2 => ?_) (fun c_2 => ?_)
  · refine x_iconstV (v := 0) G dX5_in_14 (by decide) ?_
    exact x_zret G dX5_in_15 rfl (by rw [x_b_f (fun q => Int32.not_le.mpr c_2 q.1)] at hpost; exact hpost)
  · refine x_iload_n G dX5_in_5 rfl ?_
    refine x_iload_n G dX5_in_6 rfl ?_
    refine x_icmp_gt G 14 dX5_in_7 (by decide) (fun c_7 => ?_) (fun c_7 => ?_)
    · refine x_iconstV (v := 0) G dX5_in_14 (by decide) ?_
      exact x_zret G dX5_in_15 rfl (by rw [x_b_f (fun q => Int32.not_le.mpr c_7 q.2)] at hpost; exact hpost)
    · refine x_iconstV (v := 1) G dX5_in_10 (by decide) ?_
      refine x_goto G 15 dX5_in_11 (by decide) ?_
      exact x_zret G dX5_in_15 rfl (by rw [x_b_t ⟨Int32.not_lt.mp c_2, Int32.not_lt.mp c_7⟩] at hpost; exact hpost)
def r_abs (v : Int64) : Int64 := if v < 0 then -v else v
set_option maxRecDepth 100000 in
set_option maxHeartbeats 4000000 in
/-- sizeOf -/
theorem c_sizeOf (l : Launch) (D : va_G) {dA : Nat → ClassId} {v : Int64} {h : xH} {sz : Nat} {Post : Option Value → xH → Nat → Prop}  (hpost : Post (some (.long (r_abs v))) h sz) : xMet l yX5_sizeOf wsX5_sizeOf 0 0 0 0 D dA [.long v] h sz Post := by
  refine x_open (cc := cX5_sizeOf) (maxL := 2) (ret := (some .long)) (by decide) rfl (Nat.le_of_ble_eq_true rfl) ?_
  intro p e s m args below meth c G _
  refine x_lload_n G dX5_sizeOf_0 rfl ?_
  refine x_lconstV (v := 0) G dX5_sizeOf_1 (by decide) ?_
  refine x_lcmp G dX5_sizeOf_2 ?_
  refine x_if_ge G 11 dX5_sizeOf_3 (by decide) (fun c_3 => ?_) (fun c_3 => ?_)
  · have hq : r_abs v = v := if_neg (Int64.not_lt.mpr ((x_lgge v 0).mp c_3))
    rw [hq] at hpost
    refine x_lload_n G dX5_sizeOf_11 rfl ?_
    exact x_lret G dX5_sizeOf_12 hpost
  · have hq : r_abs v = -v := if_pos (Int64.not_le.mp (fun q => c_3 ((x_lgge v 0).mpr q)))
    rw [hq] at hpost
    refine x_lload_n G dX5_sizeOf_6 rfl ?_
    refine x_lneg G dX5_sizeOf_7 ?_
    refine x_goto G 12 dX5_sizeOf_8 (by decide) ?_
    exact x_lret G dX5_sizeOf_12 hpost
def r_floor (a b : Int64) : Int64 := if ¬ (a - a / b * b = 0) ∧ ¬ (a < 0 ↔ b < 0) then a / b - 1 else a / b
set_option maxRecDepth 100000 in
set_option maxHeartbeats 4000000 in
/-- floor -/
theorem c_floor (l : Launch) (D : va_G) {dA : Nat → ClassId} {a b : Int64} {h : xH} {sz : Nat} {Post : Option Value → xH → Nat → Prop} (hb : ¬ b = 0) (hpost : Post (some (.long (r_floor a b))) h sz) : xMet l yX5_floor wsX5_floor 0 0 0 0 D dA [.long a, .long b] h sz Post := by
  refine x_open (cc := cX5_floor) (maxL := 6) (ret := (some .long)) (by decide) rfl (Nat.le_of_ble_eq_true rfl) ?_
  intro p e s m args below meth c G _
  refine x_lload_n G dX5_floor_0 rfl ?_
  refine x_lload_n G dX5_floor_1 rfl ?_
  refine x_ldiv G dX5_floor_2 hb ?_
  refine x_lstore G dX5_floor_3 (by decide) ?_
  refine x_lload_n G dX5_floor_5 rfl ?_
  refine x_lload_n G dX5_floor_6 rfl ?_
  refine x_lrem G dX5_floor_7 hb ?_
  refine x_lconstV (v := 0) G dX5_floor_8 (by decide) ?_
  refine x_lcmp G dX5_floor_9 ?_
  refine x_if_eq G 45 dX5_floor_10 (by decide) (fun c_10 => ?_) (fun c_10 => ?_)
  · have hq : r_floor a b = a / b := if_neg (fun q => q.1 ((x_lgeq _ _).mp c_10))
    rw [hq] at hpost
    refine x_lload G dX5_floor_45 rfl ?_
    exact x_lret G dX5_floor_47 hpost
  · have h10 : ¬ (a - a / b * b = 0) := fun q => c_10 ((x_lgeq _ _).mpr q)
    refine x_lload_n G dX5_floor_13 rfl ?_
    refine x_lconstV (v := 0) G dX5_floor_14 (by decide) ?_
    refine x_lcmp G dX5_floor_15 ?_
    refine x_if_ge G 23 dX5_floor_16 (by decide) (fun c_16 => ?_) (fun c_16 => ?_)
    · have ha : ¬ a < 0 := Int64.not_lt.mpr ((x_lgge a 0).mp c_16)
      refine x_iconstV (v := nI 0) G dX5_floor_23 (by decide) ?_
      refine x_lload_n G dX5_floor_24 rfl ?_
      refine x_lconstV (v := 0) G dX5_floor_25 (by decide) ?_
      refine x_lcmp G dX5_floor_26 ?_
      refine x_if_ge G 34 dX5_floor_27 (by decide) (fun c_27 => ?_) (fun c_27 => ?_)
      · have hb0 : ¬ b < 0 := Int64.not_lt.mpr ((x_lgge b 0).mp c_27)
        refine x_iconstV (v := nI 0) G dX5_floor_34 (by decide) ?_
        refine x_icmp_eq G 45 dX5_floor_35 (by decide) (fun c_35 => ?_) (fun c_35 => ?_)
        · have hq : r_floor a b = a / b := if_neg (fun q => q.2 (by first | exact ⟨fun _ => hb0, fun _ => ha⟩ | exact ⟨fun z => absurd z ha, fun z => absurd z hb0⟩ | exact absurd c_35 (by decide)))
          rw [hq] at hpost
          refine x_lload G dX5_floor_45 rfl ?_
          exact x_lret G dX5_floor_47 hpost
        · have hq : r_floor a b = a / b - 1 := if_pos ⟨h10, fun q => (by first | exact absurd (q.mp ha) hb0 | exact absurd (q.mpr hb0) ha | exact c_35 rfl)⟩
          rw [hq] at hpost
          refine x_lload G dX5_floor_38 rfl ?_
          refine x_lconstV (v := 1) G dX5_floor_40 (by decide) ?_
          refine x_lsub G dX5_floor_41 ?_
          refine x_goto G 47 dX5_floor_42 (by decide) ?_
          exact x_lret G dX5_floor_47 hpost
      · have hb0 : b < 0 := Int64.not_le.mp (fun q => c_27 ((x_lgge b 0).mpr q))
        refine x_iconstV (v := nI 1) G dX5_floor_30 (by decide) ?_
        refine x_goto G 35 dX5_floor_31 (by decide) ?_
        refine x_icmp_eq G 45 dX5_floor_35 (by decide) (fun c_35 => ?_) (fun c_35 => ?_)
        · have hq : r_floor a b = a / b := if_neg (fun q => q.2 (by first | exact ⟨fun _ => hb0, fun _ => ha⟩ | exact ⟨fun z => absurd z ha, fun z => absurd z hb0⟩ | exact absurd c_35 (by decide)))
          rw [hq] at hpost
          refine x_lload G dX5_floor_45 rfl ?_
          exact x_lret G dX5_floor_47 hpost
        · have hq : r_floor a b = a / b - 1 := if_pos ⟨h10, fun q => (by first | exact absurd (q.mp ha) hb0 | exact absurd (q.mpr hb0) ha | exact c_35 rfl)⟩
          rw [hq] at hpost
          refine x_lload G dX5_floor_38 rfl ?_
          refine x_lconstV (v := 1) G dX5_floor_40 (by decide) ?_
          refine x_lsub G dX5_floor_41 ?_
          refine x_goto G 47 dX5_floor_42 (by decide) ?_
          exact x_lret G dX5_floor_47 hpost
    · have ha : a < 0 := Int64.not_le.mp (fun q => c_16 ((x_lgge a 0).mpr q))
      refine x_iconstV (v := nI 1) G dX5_floor_19 (by decide) ?_
      refine x_goto G 24 dX5_floor_20 (by decide) ?_
      refine x_lload_n G dX5_floor_24 rfl ?_
      refine x_lconstV (v := 0) G dX5_floor_25 (by decide) ?_
      refine x_lcmp G dX5_floor_26 ?_
      refine x_if_ge G 34 dX5_floor_27 (by decide) (fun c_27 => ?_) (fun c_27 => ?_)
      · have hb0 : ¬ b < 0 := Int64.not_lt.mpr ((x_lgge b 0).mp c_27)
        refine x_iconstV (v := nI 0) G dX5_floor_34 (by decide) ?_
        refine x_icmp_eq G 45 dX5_floor_35 (by decide) (fun c_35 => ?_) (fun c_35 => ?_)
        · have hq : r_floor a b = a / b := if_neg (fun q => q.2 (by first | exact ⟨fun _ => hb0, fun _ => ha⟩ | exact ⟨fun z => absurd z ha, fun z => absurd z hb0⟩ | exact absurd c_35 (by decide)))
          rw [hq] at hpost
          refine x_lload G dX5_floor_45 rfl ?_
          exact x_lret G dX5_floor_47 hpost
        · have hq : r_floor a b = a / b - 1 := if_pos ⟨h10, fun q => (by first | exact absurd (q.mp ha) hb0 | exact absurd (q.mpr hb0) ha | exact c_35 rfl)⟩
          rw [hq] at hpost
          refine x_lload G dX5_floor_38 rfl ?_
          refine x_lconstV (v := 1) G dX5_floor_40 (by decide) ?_
          refine x_lsub G dX5_floor_41 ?_
          refine x_goto G 47 dX5_floor_42 (by decide) ?_
          exact x_lret G dX5_floor_47 hpost
      · have hb0 : b < 0 := Int64.not_le.mp (fun q => c_27 ((x_lgge b 0).mpr q))
        refine x_iconstV (v := nI 1) G dX5_floor_30 (by decide) ?_
        refine x_goto G 35 dX5_floor_31 (by decide) ?_
        refine x_icmp_eq G 45 dX5_floor_35 (by decide) (fun c_35 => ?_) (fun c_35 => ?_)
        · have hq : r_floor a b = a / b := if_neg (fun q => q.2 (by first | exact ⟨fun _ => hb0, fun _ => ha⟩ | exact ⟨fun z => absurd z ha, fun z => absurd z hb0⟩ | exact absurd c_35 (by decide)))
          rw [hq] at hpost
          refine x_lload G dX5_floor_45 rfl ?_
          exact x_lret G dX5_floor_47 hpost
        · have hq : r_floor a b = a / b - 1 := if_pos ⟨h10, fun q => (by first | exact absurd (q.mp ha) hb0 | exact absurd (q.mpr hb0) ha | exact c_35 rfl)⟩
          rw [hq] at hpost
          refine x_lload G dX5_floor_38 rfl ?_
          refine x_lconstV (v := 1) G dX5_floor_40 (by decide) ?_
          refine x_lsub G dX5_floor_41 ?_
          refine x_goto G 47 dX5_floor_42 (by decide) ?_
          exact x_lret G dX5_floor_47 hpost
set_option maxRecDepth 100000 in
set_option maxHeartbeats 4000000 in
/-- has -/
theorem c_has (l : Launch) (D : va_G) {dA : Nat → ClassId} {x k : Int32} {h : xH} {sz : Nat} {Post : Option Value → xH → Nat → Prop}  (hpost : Post (some (.int (x_b ((x >>> (k &&& 31)) &&& nI 1 = nI 1)))) h sz) : xMet l yX5_has wsX5_has 0 0 0 0 D dA [.int x, .int k] h sz Post := by
  refine x_open (cc := cX5_has) (maxL := 2) (ret := (some .boolean)) (by decide) rfl (Nat.le_of_ble_eq_true rfl) ?_
  intro p e s m args below meth c G _
  refine x_iload_n G dX5_has_0 rfl ?_
  refine x_iload_n G dX5_has_1 rfl ?_
  refine x_ishr G dX5_has_2 ?_
  refine x_iconstV (v := nI 1) G dX5_has_3 (by decide) ?_
  refine x_iand G dX5_has_4 ?_
  refine x_iconstV (v := nI 1) G dX5_has_5 (by decide) ?_
  refine x_icmp_ne G 13 dX5_has_6 (by decide) (fun c_6 => ?_) (fun c_6 => ?_)
  · have hq : x_b ((x >>> (k &&& 31)) &&& nI 1 = nI 1) = 0 := x_b_f c_6
    rw [hq] at hpost
    refine x_iconstV (v := nI 0) G dX5_has_13 (by decide) ?_
    exact x_zret G dX5_has_14 (by decide) hpost
  · have hq : x_b ((x >>> (k &&& 31)) &&& nI 1 = nI 1) = 1 := x_b_t c_6
    rw [hq] at hpost
    refine x_iconstV (v := nI 1) G dX5_has_9 (by decide) ?_
    refine x_goto G 14 dX5_has_10 (by decide) ?_
    exact x_zret G dX5_has_14 (by decide) hpost
def r_bits (n : Nat) : Nat := n % 2 + n / 2 % 2 + n / 4 % 2 + n / 8 % 2 + n / 16 % 2 + n / 32 % 2
theorem r_bits_s : ∀ n : Fin 64, n.val ≠ 0 → (n.val &&& (n.val - 1)) < n.val ∧ r_bits (n.val &&& (n.val - 1)) + 1 = r_bits n.val ∧ nI n.val &&& (nI n.val - nI 1) = nI (n.val &&& (n.val - 1)) ∧ ¬ nI n.val = 0 := by decide +kernel
set_option maxRecDepth 100000 in
set_option maxHeartbeats 4000000 in
/-- bits -/
theorem c_bits (l : Launch) (D : va_G) {dA : Nat → ClassId} {n : Nat} {h : xH} {sz : Nat} {Post : Option Value → xH → Nat → Prop} (hn : n < 64) (hpost : Post (some (.int (nI (r_bits n)))) h sz) : xMet l yX5_bits wsX5_bits 0 0 0 0 D dA [.int (nI n)] h sz Post := by
  refine x_open (cc := cX5_bits) (maxL := 3) (ret := (some .int)) (by decide) rfl (Nat.le_of_ble_eq_true rfl) ?_
  intro p e s m args below meth c G _
  refine x_iconstV (v := nI 0) G dX5_bits_0 (by decide) ?_
  refine x_istore_n G dX5_bits_1 (by decide) ?_
  refine x_iload_n G dX5_bits_2 rfl ?_
  refine x_istore_n G dX5_bits_3 (by decide) ?_
  refine x_while (σ := Nat × Nat) (fun u => [(0, .int (nI n)), (1, .int (nI u.1)), (2, .int (nI u.2))]) [] (fun u h1 sz1 => u.2 < 64 ∧ u.1 + r_bits u.2 = r_bits n ∧ Post (some (.int (nI (r_bits n)))) h1 sz1) (fun u => u.2) ?_ (0, n) h sz ⟨hn, Nat.zero_add _, hpost⟩
  intro u h1 sz1 hI nx
  try dsimp only at hI nx ⊢
  obtain ⟨I1, I2, hpost⟩ := hI
  refine x_iload_n G dX5_bits_4 rfl ?_
  refine x_if_eq G 20 dX5_bits_5 (by decide) (fun c_5 => ?_) (fun c_5 => ?_)
  · rcases Nat.eq_zero_or_pos u.2 with q | q
    · have e : u.1 = r_bits n := by rw [← I2, q]; rfl
      rw [← e] at hpost
      refine x_iload_n G dX5_bits_20 rfl ?_
      exact x_iret G dX5_bits_21 hpost
    · exact absurd c_5 (r_bits_s ⟨u.2, I1⟩ (by simp only [ne_eq]; omega)).2.2.2
  · have q : u.2 ≠ 0 := fun z => c_5 (by rw [z]; rfl)
    obtain ⟨k1, k2, k3, -⟩ := r_bits_s ⟨u.2, I1⟩ q
    dsimp only at k1 k2 k3
    refine x_iinc G dX5_bits_8 rfl (by decide) ?_
    refine x_locE (lv2 := [(0, .int (nI n)), (1, .int (nI (u.1 + 1))), (2, .int (nI u.2))]) (by rw [nI_succ u.1]; rfl) ?_
    refine x_iload_n G dX5_bits_11 rfl ?_
    refine x_iload_n G dX5_bits_12 rfl ?_
    refine x_iconstV (v := nI 1) G dX5_bits_13 (by decide) ?_
    refine x_isub G dX5_bits_14 ?_
    refine x_iand G dX5_bits_15 ?_
    rw [k3]
    refine x_istore_n G dX5_bits_16 (by decide) ?_
    refine x_goto G 4 dX5_bits_17 (by decide) ?_
    exact nx (u.1 + 1, u.2 &&& (u.2 - 1)) _ _ ⟨by dsimp only; omega, by dsimp only; omega, hpost⟩ k1
theorem br_s {f g : Nat → Int32} {i j k : Nat} : upd (va_cpy f g i j k) (j + k) (f (i + k)) = va_cpy f g i j (k + 1) := by
  funext q
  unfold upd va_cpy
  by_cases e : q = j + k
  · subst e
    rw [if_pos rfl, if_pos (by omega), show i + (j + k - j) = i + k by omega]
  · rw [if_neg e]
    by_cases e2 : j ≤ q ∧ q < j + k
    · rw [if_pos e2, if_pos (by omega)]
    · rw [if_neg e2, if_neg (by omega)]
theorem br_0 {f g : Nat → Int32} {i j : Nat} : va_cpy f g i j 0 = g := by
  funext q
  unfold va_cpy
  rw [if_neg (by omega)]
set_option maxRecDepth 100000 in
set_option maxHeartbeats 4000000 in
/-- bring: n ints from place i on to place j on -/
theorem c_bring (l : Launch) (D : va_G) {dA : Nat → ClassId} {a0 a1 n0 n1 i j n : Nat} {f g : Nat → Int32} {h : xH} {sz : Nat} {Post : Option Value → xH → Nat → Prop} (hf : h a0 = some (.inl (dA 0, n0, .inl f))) (hg : h a1 = some (.inl (dA 0, n1, .inl g))) (hc : a0 ≠ a1 ∨ (a0 = a1 ∧ j ≤ i ∧ n0 = n1 ∧ f = g)) (hi : i + n ≤ n0) (hj : j + n ≤ n1) (hn0 : n0 < 2000) (hn1 : n1 < 2000) (hpost : ∀ (sz1 : Nat), Post none (x_up h a1 (.inl (dA 0, n1, .inl (va_cpy f g i j n)))) sz1) : xMet l yX5_bring wsX5_bring 0 0 0 0 D dA [.ref a0, .int (nI i), .ref a1, .int (nI j), .int (nI n)] h sz Post := by
  refine x_open (cc := cX5_bring) (maxL := 6) (ret := none) (by decide) rfl (Nat.le_of_ble_eq_true rfl) ?_
  intro p e s m args below meth c G _
  refine x_iconstV (v := nI 0) G dX5_bring_0 (by decide) ?_
  refine x_istore G dX5_bring_1 (by decide) ?_
  refine x_loop (σ := Unit) (fun k _ => [(0, .ref a0), (1, .int (nI i)), (2, .ref a1), (3, .int (nI j)), (4, .int (nI n)), (5, .int (nI k))]) n (fun k _ h1 sz1 => h1 = x_up h a1 (.inl (dA 0, n1, .inl (va_cpy f g i j k)))) ?_ ?_ 0 () h sz (Nat.zero_le _) (by rw [br_0, x_up_self hg])
  · intro k _ h1 sz1 hj hI nx
    try dsimp only at hI nx ⊢
    obtain rfl := hI
    obtain ⟨f2, hrd, hval⟩ : ∃ f2 : Nat → Int32, x_up h a1 (.inl (dA 0, n1, .inl (va_cpy f g i j k))) a0 = some (.inl (dA 0, n0, .inl f2)) ∧ f2 (i + k) = f (i + k) := by
      rcases hc with hc | ⟨rfl, hij, rfl, rfl⟩
      · exact ⟨f, by rw [x_up_ne hc]; exact hf, rfl⟩
      · exact ⟨_, x_up_eq, pk_cpy_out (by omega)⟩
    refine x_iload G dX5_bring_3 rfl ?_
    refine x_iload G dX5_bring_5 rfl ?_
    refine x_icmp_ge G 28 dX5_bring_7 (by decide) (fun c_7 => ?_) (fun c_7 => ?_)
    · exact absurd c_7 (nI_ge hj (by omega))
    · refine x_aload_n G dX5_bring_10 rfl ?_
      refine x_iload_n G dX5_bring_11 rfl ?_
      refine x_iload G dX5_bring_12 rfl ?_
      refine x_iadd G dX5_bring_14 ?_
      refine x_topE (y := nI (j + k)) (by rw [nI_add]) ?_
      refine x_aload_n G dX5_bring_15 rfl ?_
      refine x_iload_n G dX5_bring_16 rfl ?_
      refine x_iload G dX5_bring_17 rfl ?_
      refine x_iadd G dX5_bring_19 ?_
      refine x_topE (y := nI (i + k)) (by rw [nI_add]) ?_
      refine x_ialdN G dX5_bring_20 hrd (by omega) (by omega) ?_
      refine x_topE (y := f (i + k)) hval ?_
      refine x_iastN G dX5_bring_21 x_up_eq (by omega) (by omega) ?_
      rw [x_up_up, br_s]
      refine x_iinc G dX5_bring_22 rfl (by decide) ?_
      refine x_locE (lv2 := [(0, .ref a0), (1, .int (nI i)), (2, .ref a1), (3, .int (nI j)), (4, .int (nI n)), (5, .int (nI (k + 1)))]) (by rw [nI_succ k]; rfl) ?_
      refine x_goto G 3 dX5_bring_25 (by decide) ?_
      exact nx () _ _ rfl
  · intro _ h1 sz1 hI
    try dsimp only at hI ⊢
    obtain rfl := hI
    refine x_iload G dX5_bring_3 rfl ?_
    refine x_iload G dX5_bring_5 rfl ?_
    refine x_icmp_ge G 28 dX5_bring_7 (by decide) (fun c_7 => ?_) (fun c_7 => ?_)
    · exact x_vret G dX5_bring_28 (hpost _)
    · exact absurd (nI_le (Nat.le_refl _) (by omega)) c_7
