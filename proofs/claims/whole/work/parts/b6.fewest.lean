/-! ## How many sayings count; the fewest -/
def Rk (L : List (Nat → Int)) (r : Nat) : Prop := ∃ (N : Nat) (H : Nat → Nat → Int) (h : Nat → Nat) (X : Nat → Nat → Int), Can L N H h X ∧ r + N = 6
theorem Rk_mono {L M : List (Nat → Int)} {r s : Nat} (hK : ∀ v, Kr M v → Kr L v) (a : Rk L r) (b : Rk M s) : r ≤ s := by
  obtain ⟨N, H, h, X, C, e⟩ := a
  obtain ⟨N1, H1, h1, X1, D, e1⟩ := b
  obtain ⟨c1, c2, -⟩ := C
  obtain ⟨d1, d2, -⟩ := D
  have key : ∀ i, i < N1 → ∃ k, i ≤ k ∧ k < N ∧ h1 i = h k := by
    intro i
    induction i with
    | zero =>
      intro hi
      obtain ⟨k, k1, k2, -⟩ := Hnf_head d1 c1 (fun i hi => (c2 _).mpr (hK _ ((d2 _).mp (Sp_row hi)))) hi
      exact ⟨k, Nat.zero_le _, k1, k2⟩
    | succ i ih =>
      intro hi
      obtain ⟨k, k1, k2, k3⟩ := ih (by omega)
      obtain ⟨j, j1, j2, -⟩ := Hnf_head d1 c1 (fun i hi => (c2 _).mpr (hK _ ((d2 _).mp (Sp_row hi)))) hi
      refine ⟨j, ?_, j1, j2⟩
      have lt := d1.2.1 i (i + 1) (by omega) hi
      rcases Nat.lt_or_ge k j with z | z
      · omega
      · rcases Nat.eq_or_lt_of_le z with y | y
        · subst y
          omega
        · have := c1.2.1 j k y k2
          omega
  rcases Nat.eq_zero_or_pos N1 with z | z
  · omega
  · obtain ⟨k, k1, k2, -⟩ := key (N1 - 1) (by omega)
    omega
theorem Rk_u {L : List (Nat → Int)} {r s : Nat} (a : Rk L r) (b : Rk L s) : r = s := Nat.le_antisymm (Rk_mono (fun _ q => q) a b) (Rk_mono (fun _ q => q) b a)
theorem Rk_0 : Rk [] 0 := ⟨6, uI, fun i => i, fun _ _ => 0, Can_nil, rfl⟩
theorem Rk_imp {L : List (Nat → Int)} {r : Nat} {p : Nat → Int} (a : Rk L r) (hi : Imp L p) (hc : Cons (p :: L)) : Rk (p :: L) r := by
  obtain ⟨N, H, h, X, C, e⟩ := a
  exact ⟨N, H, h, X, can_same C ((Imp_can C).mp hi).1 hc, e⟩
theorem Rk_new {L : List (Nat → Int)} {r : Nat} {po : Nat → Int32} (a : Rk L r) (hL : Sm L) (hp : ∀ e, e < 10 → (po e).toInt.natAbs ≤ 9) (hi : ¬ Imp L (fun j => (po j).toInt)) (hc : Cons ((fun j => (po j).toInt) :: L)) : Rk ((fun j => (po j).toInt) :: L) (r + 1) := by
  obtain ⟨N, H, h, X, C, e⟩ := a
  have z : ∃ b, b < N ∧ gn (H b) (fun j => (po j).toInt) ≠ 0 := Classical.byContradiction (fun q => by
    have hg : ∀ b, b < N → gn (H b) (fun j => (po j).toInt) = 0 := fun b hb => Decidable.of_not_not (fun y => q ⟨b, hb, y⟩)
    have D := can_same C hg hc
    exact hi ((Imp_can C).mpr ⟨hg, fun b hb => (D.2.2.1 b hb) _ List.mem_cons_self⟩))
  cases N with
  | zero =>
    obtain ⟨b, b1, -⟩ := z
    omega
  | succ f =>
    have e0 : (fun j => (po (0 + j)).toInt) = fun j => (po j).toInt := by
      funext j
      rw [Nat.zero_add]
    obtain ⟨is, ro2, ov2, c2, a1, a2, a3⟩ := ad_one (q := 0) (po := po) (ro := rwN H) (ov := fun _ => 0) (c := rwN X) C hL (fun e he => by rw [Nat.zero_add]; exact hp e he) (by rw [e0]; exact z) (rw_E6.mp (fun _ _ => rfl)) (rw_EC.mp (fun _ _ => rfl))
    rw [e0] at a2 a3
    obtain ⟨S, h2, Y, b1, -, -⟩ := a3 (a2.mpr hc)
    exact ⟨f, S, h2, Y, b1, by omega⟩
def cnt (m : Nat → Bool) : Nat → Nat
  | 0 => 0
  | k + 1 => cnt m k + (if m k = true then 1 else 0)
theorem cnt_cg {m u : Nat → Bool} : ∀ {k : Nat}, (∀ i, i < k → m i = u i) → cnt m k = cnt u k
  | 0, _ => rfl
  | k + 1, h => by
    unfold cnt
    rw [cnt_cg (fun i hi => h i (by omega)), h k (by omega)]
theorem PL_cg {q : Nat → Nat → Int} {m u : Nat → Bool} : ∀ {k : Nat}, (∀ i, i < k → m i = u i) → PL q m k = PL q u k
  | 0, _ => rfl
  | k + 1, h => by
    unfold PL
    rw [PL_cg (fun i hi => h i (by omega)), h k (by omega)]
theorem Imp_mono {L M : List (Nat → Int)} {p : Nat → Int} (h : ∀ r, r ∈ L → r ∈ M) (a : Imp L p) : Imp M p := ⟨fun v hv => a.1 v (fun r hr => hv r (h r hr)), fun b hb x hx => a.2 b hb x (fun r hr => hx r (h r hr))⟩
theorem Imp_in {L : List (Nat → Int)} {p : Nat → Int} (h : p ∈ L) : Imp L p := ⟨fun v hv => hv p h, fun b _ x hx => hx p h⟩
/-- how the rank goes up with the sayings of a set -/
theorem Rk_st {sc : Nat → Nat → Int32} {n k : Nat} {m : Nat → Bool} (hs : SyC sc n) (hc : Cons (PL (qC sc) (fun _ => true) n)) (hk : k < n) {r : Nat} (a : Rk (PL (qC sc) m k) r) : ∃ s, Rk (PL (qC sc) m (k + 1)) s ∧ s ≤ r + (if m k = true then 1 else 0) := by
  unfold PL
  by_cases z : m k = true
  · rw [if_pos z, if_pos z]
    have c1 : Cons (qC sc k :: PL (qC sc) m k) := by
      have := PL_su (m := m) (fun _ _ _ => rfl) (PL_up (k := k + 1) hk hc)
      unfold PL at this
      rw [if_pos z] at this
      exact this
    by_cases y : Imp (PL (qC sc) m k) (qC sc k)
    · exact ⟨r, Rk_imp a y c1, by omega⟩
    · exact ⟨r + 1, Rk_new a (SyC_sm hs (by omega)) (hs k hk) y c1, by omega⟩
  · rw [if_neg z, if_neg z]
    exact ⟨r, a, by omega⟩
theorem Rk_ex {sc : Nat → Nat → Int32} {n : Nat} {m : Nat → Bool} (hs : SyC sc n) (hc : Cons (PL (qC sc) (fun _ => true) n)) : ∀ {k : Nat}, k ≤ n → ∃ r, Rk (PL (qC sc) m k) r ∧ r ≤ cnt m k
  | 0, _ => ⟨0, Rk_0, Nat.le_refl _⟩
  | k + 1, hk => by
    obtain ⟨r, r1, r2⟩ := Rk_ex (m := m) hs hc (k := k) (by omega)
    obtain ⟨s, s1, s2⟩ := Rk_st hs hc hk r1
    exact ⟨s, s1, by unfold cnt; omega⟩
theorem Rk_dif {sc : Nat → Nat → Int32} {n k : Nat} {m : Nat → Bool} (hs : SyC sc n) (hc : Cons (PL (qC sc) (fun _ => true) n)) {r : Nat} (a : Rk (PL (qC sc) m k) r) : ∀ {e : Nat}, k + e ≤ n → ∃ s, Rk (PL (qC sc) m (k + e)) s ∧ s + cnt m k ≤ r + cnt m (k + e)
  | 0, _ => ⟨r, a, Nat.le_refl _⟩
  | e + 1, h => by
    obtain ⟨s, s1, s2⟩ := Rk_dif hs hc a (e := e) (by omega)
    obtain ⟨t, t1, t2⟩ := Rk_st hs hc (show k + e < n by omega) s1
    refine ⟨t, t1, ?_⟩
    show t + cnt m k ≤ r + (cnt m (k + e) + (if m (k + e) = true then 1 else 0))
    omega
/-- the class's set, saying by saying -/
theorem ns_bit {sc : Nat → Nat → Int32} {u : slT} {k i : Nat} (hi : i < k) : (ns sc u (k + 1)).1.testBit i = (ns sc u k).1.testBit i := by
  have e : (ns sc u (k + 1)).1 = if im_u (sc k) (ns sc u k).2 = true then (ns sc u k).1 else (ns sc u k).1 + 2 ^ k := by
    show (if im_u (sc k) (ns sc u k).2 = true then ((ns sc u k).1, sw_u2 (sc k) (ns sc u k).2) else ((ns sc u k).1 + 2 ^ k, su (sc k) (sw_u2 (sc k) (ns sc u k).2))).1 = _
    split <;> rfl
  rw [e]
  split
  · rfl
  · rw [Nat.add_comm, Nat.testBit_two_pow_add_gt hi]
theorem ns_bits {sc : Nat → Nat → Int32} {u : slT} {k i : Nat} (hi : i < k) : ∀ {e : Nat}, (ns sc u (k + e)).1.testBit i = (ns sc u k).1.testBit i
  | 0 => rfl
  | e + 1 => by
    show (ns sc u (k + e + 1)).1.testBit i = _
    rw [ns_bit (by omega), ns_bits hi]
theorem ns_N {sc : Nat → Nat → Int32} {u : slT} {n : Nat} (hs : SyC sc n) (hc : Cons (PL (qC sc) (fun _ => true) n)) : ∀ {k : Nat}, k ≤ n → CS (ns sc u k).2 (PL (qC sc) (ns sc u k).1.testBit k) ∧ (∀ i, i < k → Imp (PL (qC sc) (ns sc u k).1.testBit k) (qC sc i)) ∧ Rk (PL (qC sc) (ns sc u k).1.testBit k) (cnt (ns sc u k).1.testBit k)
  | 0, _ => ⟨sc_N, fun i hi => by omega, Rk_0⟩
  | k + 1, hk => by
    obtain ⟨i1, i2, i3⟩ := ns_N (u := u) hs hc (k := k) (by omega)
    have lt := @ns_lt sc u k
    have b0 : (ns sc u k).1.testBit k = false := Nat.testBit_lt_two_pow lt
    have im := im_uN i1 (SyC_sm hs (by omega)) (hs k (by omega))
    by_cases z : im_u (sc k) (ns sc u k).2 = true
    · have e : ns sc u (k + 1) = ((ns sc u k).1, sw_u2 (sc k) (ns sc u k).2) := by
        show (if im_u (sc k) (ns sc u k).2 = true then ((ns sc u k).1, sw_u2 (sc k) (ns sc u k).2) else ((ns sc u k).1 + 2 ^ k, su (sc k) (sw_u2 (sc k) (ns sc u k).2))) = _
        rw [if_pos z]
      rw [e]
      dsimp only
      have ep : PL (qC sc) (ns sc u k).1.testBit (k + 1) = PL (qC sc) (ns sc u k).1.testBit k := by
        show (if (ns sc u k).1.testBit k = true then _ else _) = _
        rw [if_neg (by rw [b0]; decide)]
      have ec : cnt (ns sc u k).1.testBit (k + 1) = cnt (ns sc u k).1.testBit k := by
        show cnt (ns sc u k).1.testBit k + (if (ns sc u k).1.testBit k = true then 1 else 0) = _
        rw [if_neg (by rw [b0]; decide)]
        rfl
      rw [ep, ec]
      refine ⟨sw_N i1, fun i hi => ?_, i3⟩
      by_cases y : i = k
      · rw [y]
        exact im.mp z
      · exact i2 i (by omega)
    · have e : ns sc u (k + 1) = ((ns sc u k).1 + 2 ^ k, su (sc k) (sw_u2 (sc k) (ns sc u k).2)) := by
        show (if im_u (sc k) (ns sc u k).2 = true then ((ns sc u k).1, sw_u2 (sc k) (ns sc u k).2) else ((ns sc u k).1 + 2 ^ k, su (sc k) (sw_u2 (sc k) (ns sc u k).2))) = _
        rw [if_neg z]
      rw [e]
      dsimp only
      have bl : ∀ i, i < k → ((ns sc u k).1 + 2 ^ k).testBit i = (ns sc u k).1.testBit i := fun i hi => by
        rw [Nat.add_comm, Nat.testBit_two_pow_add_gt hi]
      have bk : ((ns sc u k).1 + 2 ^ k).testBit k = true := by
        rw [Nat.add_comm, Nat.testBit_two_pow_add_eq, b0]
        rfl
      have ep : PL (qC sc) ((ns sc u k).1 + 2 ^ k).testBit (k + 1) = qC sc k :: PL (qC sc) (ns sc u k).1.testBit k := by
        show (if ((ns sc u k).1 + 2 ^ k).testBit k = true then _ else _) = _
        rw [if_pos bk, PL_cg bl]
      have ec : cnt ((ns sc u k).1 + 2 ^ k).testBit (k + 1) = cnt (ns sc u k).1.testBit k + 1 := by
        show cnt ((ns sc u k).1 + 2 ^ k).testBit k + (if ((ns sc u k).1 + 2 ^ k).testBit k = true then 1 else 0) = _
        rw [if_pos bk, cnt_cg bl]
      have c1 : Cons (qC sc k :: PL (qC sc) (ns sc u k).1.testBit k) := by
        have := PL_su (m := ((ns sc u k).1 + 2 ^ k).testBit) (fun _ _ _ => rfl) (PL_up (k := k + 1) hk hc)
        rw [ep] at this
        exact this
      rw [ep, ec]
      refine ⟨cu_N (sw_N i1) (SyC_sm hs (by omega)) (hs k (by omega)) c1, fun i hi => ?_, Rk_new i3 (SyC_sm hs (by omega)) (hs k (by omega)) (fun y => z (im.mpr y)) c1⟩
      by_cases y : i = k
      · rw [y]
        exact Imp_in List.mem_cons_self
      · exact Imp_mono (fun r hr => List.mem_cons_of_mem _ hr) (i2 i (by omega))
theorem bit_lt {a b n : Nat} (ha : a.testBit n = false) (hb : b.testBit n = true) (h : ∀ j, n < j → a.testBit j = b.testBit j) : a < b := by
  have e : a / 2 ^ n / 2 = b / 2 ^ n / 2 := Nat.eq_of_testBit_eq (fun i => by
    rw [← Nat.testBit_succ, ← Nat.testBit_succ, Nat.testBit_div_two_pow, Nat.testBit_div_two_pow]
    exact h _ (by omega))
  rw [Nat.testBit_eq_decide_div_mod_eq] at ha hb
  have h1 := of_decide_eq_false ha
  have h2 := of_decide_eq_true hb
  have : a / 2 ^ n < b / 2 ^ n := by omega
  exact Nat.lt_of_div_lt_div this
theorem bit_le {a b : Nat} : ∀ {n : Nat}, (∀ i, n ≤ i → a.testBit i = b.testBit i) → (∀ k, k ≤ n → cnt b.testBit k ≤ cnt a.testBit k) → cnt a.testBit n = cnt b.testBit n → a ≤ b
  | 0, h, _, _ => Nat.le_of_eq (Nat.eq_of_testBit_eq (fun i => h i (Nat.zero_le _)))
  | n + 1, h, hk, e => by
    have e1 : cnt a.testBit n + (if a.testBit n = true then 1 else 0) = cnt b.testBit n + (if b.testBit n = true then 1 else 0) := e
    have k1 := hk n (by omega)
    cases ha : a.testBit n with
    | true =>
      cases hb : b.testBit n with
      | true =>
        rw [ha, hb] at e1
        refine bit_le (n := n) (fun i hi => ?_) (fun k hk2 => hk k (by omega)) (by omega)
        by_cases y : i = n
        · rw [y, ha, hb]
        · exact h i (by omega)
      | false =>
        rw [ha, hb] at e1
        rw [if_pos rfl, if_neg (by decide)] at e1
        omega
    | false =>
      cases hb : b.testBit n with
      | true => exact Nat.le_of_lt (bit_lt ha hb (fun j hj => h j (by omega)))
      | false =>
        rw [ha, hb] at e1
        refine bit_le (n := n) (fun i hi => ?_) (fun k hk2 => hk k (by omega)) (by omega)
        by_cases y : i = n
        · rw [y, ha, hb]
        · exact h i (by omega)
/-- a set that says all has no fewer; one with as many is no less -/
theorem few_N {sc : Nat → Nat → Int32} {u : slT} {n B : Nat} (hs : SyC sc n) (hc : Cons (PL (qC sc) (fun _ => true) n)) (hB : B < 2 ^ n) (ht : ∀ i, i < n → Imp (PL (qC sc) B.testBit n) (qC sc i)) : cnt (ns sc u n).1.testBit n ≤ cnt B.testBit n ∧ (cnt B.testBit n ≤ cnt (ns sc u n).1.testBit n → (ns sc u n).1 ≤ B) := by
  obtain ⟨g1, g2, g3⟩ := ns_N (u := u) hs hc (Nat.le_refl n)
  obtain ⟨r, r1, r2⟩ := Rk_ex (m := B.testBit) hs hc (Nat.le_refl n)
  have le1 : cnt (ns sc u n).1.testBit n ≤ r := Rk_mono (fun v hv p hp => by
    obtain ⟨i, i1, -, rfl⟩ := PL_mem.mp hp
    exact (ht i i1).1 v hv) g3 r1
  refine ⟨by omega, fun le2 => ?_⟩
  have lt := @ns_lt sc u n
  refine bit_le (n := n) (fun i hi => ?_) (fun k hk => ?_) (by omega)
  · rw [Nat.testBit_lt_two_pow (Nat.lt_of_lt_of_le lt (Nat.pow_le_pow_right (by decide) hi)), Nat.testBit_lt_two_pow (Nat.lt_of_lt_of_le hB (Nat.pow_le_pow_right (by decide) hi))]
  · obtain ⟨s, s1, s2⟩ := Rk_ex (m := B.testBit) hs hc hk
    obtain ⟨t, t1, t2⟩ := Rk_dif hs hc s1 (e := n - k) (by omega)
    rw [show k + (n - k) = n by omega] at t1 t2
    have := Rk_u t1 r1
    obtain ⟨h1, h2, h3⟩ := ns_N (u := u) hs hc hk
    have le3 : s ≤ cnt (ns sc u k).1.testBit k := Rk_mono (fun v hv p hp => by
      obtain ⟨i, i1, -, rfl⟩ := PL_mem.mp hp
      exact (h2 i i1).1 v hv) s1 h3
    have e : cnt (ns sc u n).1.testBit k = cnt (ns sc u k).1.testBit k := cnt_cg (fun i hi => by
      have := @ns_bits sc u k i hi (n - k)
      rw [show k + (n - k) = n by omega] at this
      exact this)
    omega
