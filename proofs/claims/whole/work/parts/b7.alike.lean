/-! ## Class and reference alike: what is asked of the sayings -/
/-- one and the same state: reference's row st, class's sayings, scales, how many -/
def StR (st : Nat → Int32) (sc : Nat → Nat → Int32) (ab be : Nat → Int32) (n : Nat) : Prop := st 0 = nI n ∧ n ≤ 6 ∧ (∀ k e, k < n → e < 10 → sc k e = st (1 + 10 * k + e)) ∧ (∀ j, j < 4 → ab j = st (61 + j) ∧ be j = st (65 + j)) ∧ Sy st n ∧ Cons (SL st (2 ^ n - 1) n) ∧ ∀ j, j < 4 → (1 ≤ (st (61 + j)).toInt ∧ (st (61 + j)).toInt ≤ 12) ∧ (1 ≤ (st (65 + j)).toInt ∧ (st (65 + j)).toInt ≤ 12)
theorem StR_q {st : Nat → Int32} {sc : Nat → Nat → Int32} {ab be : Nat → Int32} {n : Nat} (R : StR st sc ab be n) : SQ (qC sc) (sy st) n ∧ SyC sc n ∧ Cons (PL (qC sc) (fun _ => true) n) := by
  obtain ⟨-, -, r3, -, r5, r6, -⟩ := R
  have sq : SQ (qC sc) (sy st) n := fun k hk e he => by
    show (sc k e).toInt = (st (1 + 10 * k + e)).toInt
    rw [r3 k e hk he]
  refine ⟨sq, fun k hk e he => ?_, ?_⟩
  · rw [r3 k e hk he]
    exact r5 k hk e he
  · rw [SL_PL] at r6
    exact PL_Cons (SQ_s sq) (fun k hk => by rw [Nat.testBit_two_pow_sub_one]; exact decide_eq_true hk) r6
section
variable {st : Nat → Int32} {sc : Nat → Nat → Int32} {ab be : Nat → Int32} {n : Nat} {so : slT} {F : Nat → Nat} {S : Nat → Nat → Nat → Int} {h : Nat → Nat → Nat} {X : Nat → Nat → Nat → Int}
theorem al_ans (R : StR st sc ab be n) : ∃ (F : Nat → Nat) (S : Nat → Nat → Nat → Int) (h : Nat → Nat → Nat) (X : Nat → Nat → Nat → Int), AnsZ st n F S h X ∧ Ans st n F (fun m => rwN (S m)) (fun m => rwN (X m)) := by
  obtain ⟨F, S, h, X, q⟩ := AnsZ_ex R.2.2.2.2.1 R.2.2.2.2.2.1
  exact ⟨F, S, h, X, q, Ans_Z R.2.2.2.2.1 R.2.2.2.2.2.1 q⟩
theorem al_can (R : StR st sc ab be n) (hA : AnsZ st n F S h X) : Can (PL (sy st) (fun _ => true) n) (F (2 ^ n - 1)) (S (2 ^ n - 1)) (h (2 ^ n - 1)) (X (2 ^ n - 1)) := by
  have := hA (2 ^ n - 1) (by have := pw_pos n; omega)
  rw [SL_PL, PL_cg (u := fun _ => true) (fun k hk => by rw [Nat.testBit_two_pow_sub_one]; exact decide_eq_true hk)] at this
  exact this
theorem al_so (R : StR st sc ab be n) (hA : AnsZ st n F S h X) (C : CS so (PL (qC sc) (fun _ => true) n)) : so.2.2.2.2.2 = F (2 ^ n - 1) ∧ (∀ i c, i < F (2 ^ n - 1) → c < 6 → so.1 i c = rwN (S (2 ^ n - 1)) (6 * i + c)) ∧ ∀ b c, b < 4 → c < 6 → so.2.1 b c = rwN (X (2 ^ n - 1)) (6 * b + c) := by
  obtain ⟨sq, -, -⟩ := StR_q R
  obtain ⟨N, H, h1, X1, C, e1, e2, e3⟩ := C
  obtain ⟨u0, u1, u2⟩ := can_uniq (fun v => ⟨PL_Kr sq (fun _ _ => rfl), PL_Kr (SQ_s sq) (fun _ _ => rfl)⟩) (fun b x hb q => PL_Sl hb sq (fun _ _ => rfl) q) C (al_can R hA)
  refine ⟨by rw [e1, u0], fun i c hi hc => ?_, fun b c hb hc => ?_⟩
  · rw [e2 i (by omega) c hc, (u1 i (by omega)).2 c hc]
    unfold rwN
    rw [show (6 * i + c) / 6 = i by omega, show (6 * i + c) % 6 = c by omega]
  · rw [e3 b hb c hc, u2 b c hb hc]
    unfold rwN
    rw [show (6 * b + c) / 6 = b by omega, show (6 * b + c) % 6 = c by omega]
theorem al_le (R : StR st sc ab be n) (C : CS so (PL (qC sc) (fun _ => true) n)) : so.2.2.2.2.2 ≤ 6 := by
  obtain ⟨-, hs, -⟩ := StR_q R
  obtain ⟨N, H, h1, X1, C, e1, -⟩ := C
  rw [e1]
  exact (fx_rows C (SyC_sm hs (Nat.le_refl _))).1
theorem al_fx (R : StR st sc ab be n) (hA : AnsZ st n F S h X) (C : CS so (PL (qC sc) (fun _ => true) n)) {k : Nat} (hk : k < 6) : fx_b so.1 so.2.2.2.2.2 k = r_su (rwN (S (2 ^ n - 1))) k (F (2 ^ n - 1)) := by
  obtain ⟨a, b, -⟩ := al_so R hA C
  unfold fx_b
  rw [a]
  exact r_su_c hk (fun i hi => by
    have := b (i / 6) (i % 6) (by omega) (by omega)
    rw [show 6 * (i / 6) + i % 6 = i by omega] at this
    exact this)
theorem bm_k : ∀ (n : Fin 7) (k i : Fin 6), k.val < n.val → i.val < n.val → (2 ^ n.val - 1 - 2 ^ k.val).testBit i.val = decide (i.val ≠ k.val) := by decide
theorem al_sp (R : StR st sc ab be n) (hA : AnsZ st n F S h X) {k : Nat} (hk : k < n) (u : slT) : spA st n F (fun m => rwN (S m)) (fun m => rwN (X m)) k = im_u (sc k) (so_k sc u k n) := by
  obtain ⟨sq, hs, hc⟩ := StR_q R
  have n6 := R.2.1
  have C := hA (2 ^ n - 1 - 2 ^ k) (by have := pw_pos n; have := pw_pos k; omega)
  rw [Bool.eq_iff_iff]
  unfold spA
  rw [tr_N C (Sy_sm R.2.2.2.2.1 (Nat.le_refl _)) (R.2.2.2.2.1 k hk) (rw_E6.mp (fun _ _ => rfl)) (rw_EC.mp (fun _ _ => rfl)), im_uN (so_N hs hc (Nat.le_refl n)) (SyC_sm hs (Nat.le_refl _)) (hs k hk), SL_PL]
  have bm : ∀ i, i < n → (2 ^ n - 1 - 2 ^ k).testBit i = decide (i ≠ k) := fun i hi => bm_k ⟨n, by omega⟩ ⟨k, by omega⟩ ⟨i, by omega⟩ hk hi
  constructor
  · exact PL_Imp (SQ_s sq) bm (fun e he => (sq k hk e he).symm)
  · exact PL_Imp sq (fun i hi => (bm i hi).symm) (sq k hk)
theorem al_cs (R : StR st sc ab be n) (hA : AnsZ st n F S h X) (u : slT) : ∀ {k : Nat}, k ≤ n → (cs sc n u k).1 = r_ct (spA st n F (fun m => rwN (S m)) (fun m => rwN (X m))) k
  | 0, _ => rfl
  | k + 1, hk => by
    show (cs sc n u k).1 + (if im_u (sc k) (so_k sc (cs sc n u k).2 k n) = true then 1 else 0) = r_ct (spA st n F (fun m => rwN (S m)) (fun m => rwN (X m))) k + (if spA st n F (fun m => rwN (S m)) (fun m => rwN (X m)) k = true then 1 else 0)
    rw [al_cs R hA u (k := k) (by omega), al_sp R hA (k := k) hk (cs sc n u k).2]
theorem tall_N (R : StR st sc ab be n) (hA : AnsZ st n F S h X) {m : Nat} (hm : m < 2 ^ n) : ∀ {k : Nat}, k ≤ n → (tall st F (fun m => rwN (S m)) (fun m => rwN (X m)) m k = true ↔ ∀ i, i < k → Imp (PL (qC sc) m.testBit n) (qC sc i))
  | 0, _ => ⟨fun _ i hi => by omega, fun _ => rfl⟩
  | k + 1, hk => by
    obtain ⟨sq, hs, hc⟩ := StR_q R
    have ih := tall_N R hA hm (k := k) (by omega)
    show (tall st F (fun m => rwN (S m)) (fun m => rwN (X m)) m k && r_tr (F m) st (1 + 10 * k) (rwN (S m)) (rwN (X m))) = true ↔ _
    rw [Bool.and_eq_true, ih, tr_N (hA m hm) (Sy_sm R.2.2.2.2.1 (Nat.le_refl _)) (R.2.2.2.2.1 k hk) (rw_E6.mp (fun _ _ => rfl)) (rw_EC.mp (fun _ _ => rfl)), SL_PL]
    constructor
    · rintro ⟨u, v⟩ i hi
      by_cases z : i = k
      · rw [z]
        exact PL_Imp (SQ_s sq) (fun _ _ => rfl) (fun e he => (sq k hk e he).symm) v
      · exact u i (by omega)
    · intro u
      exact ⟨fun i hi => u i (by omega), PL_Imp sq (fun _ _ => rfl) (sq k hk) (u k (by omega))⟩
theorem bits_c : ∀ m : Fin 64, r_bits m.val = cnt m.val.testBit 6 := by decide
theorem cnt_n {m n : Nat} (hm : m < 2 ^ n) : ∀ {e : Nat}, cnt m.testBit (n + e) = cnt m.testBit n
  | 0 => rfl
  | e + 1 => by
    show cnt m.testBit (n + e) + (if m.testBit (n + e) = true then 1 else 0) = _
    rw [cnt_n hm, Nat.testBit_lt_two_pow (Nat.lt_of_lt_of_le hm (Nat.pow_le_pow_right (by decide) (by omega))), if_neg (by decide)]
    rfl
theorem bits_n {m n : Nat} (hn : n ≤ 6) (hm : m < 2 ^ n) : r_bits m = cnt m.testBit n := by
  have := bits_c ⟨m, two_le hn hm⟩
  dsimp only at this
  rw [this, ← cnt_n hm (e := 6 - n), show n + (6 - n) = 6 by omega]
theorem al_fw (R : StR st sc ab be n) (hA : AnsZ st n F S h X) (u : slT) : fwA st n F (fun m => rwN (S m)) (fun m => rwN (X m)) (2 ^ n) = (ns sc u n).1 := by
  obtain ⟨sq, hs, hc⟩ := StR_q R
  have n6 := R.2.1
  obtain ⟨g1, g2, g3⟩ := ns_N (u := u) hs hc (Nat.le_refl n)
  have lt := @ns_lt sc u n
  have pp := pw_pos n
  have key : ∀ k, k ≤ 2 ^ n → (∀ i, i < n → Imp (PL (qC sc) (fwA st n F (fun m => rwN (S m)) (fun m => rwN (X m)) k).testBit n) (qC sc i)) ∧ (2 ^ n - (ns sc u n).1 ≤ k → fwA st n F (fun m => rwN (S m)) (fun m => rwN (X m)) k = (ns sc u n).1) := by
    intro k
    induction k with
    | zero =>
      intro _
      refine ⟨fun i hi => Imp_in (PL_mem.mpr ⟨i, hi, ?_, rfl⟩), fun z => by omega⟩
      show (2 ^ n - 1).testBit i = true
      rw [Nat.testBit_two_pow_sub_one]
      exact decide_eq_true hi
    | succ k ih =>
      intro hk
      obtain ⟨i1, i2⟩ := ih (by omega)
      have fl := @fwA_lt st n F (fun m => rwN (S m)) (fun m => rwN (X m)) k
      have f1 := few_N (u := u) hs hc fl i1
      have sl : 2 ^ n - 1 - k < 2 ^ n := by omega
      have ta := tall_N R hA sl (Nat.le_refl n)
      have e : fwA st n F (fun m => rwN (S m)) (fun m => rwN (X m)) (k + 1) = if r_bits (2 ^ n - 1 - k) ≤ r_bits (fwA st n F (fun m => rwN (S m)) (fun m => rwN (X m)) k) ∧ tall st F (fun m => rwN (S m)) (fun m => rwN (X m)) (2 ^ n - 1 - k) n = true then 2 ^ n - 1 - k else fwA st n F (fun m => rwN (S m)) (fun m => rwN (X m)) k := rfl
      rw [e]
      by_cases z : r_bits (2 ^ n - 1 - k) ≤ r_bits (fwA st n F (fun m => rwN (S m)) (fun m => rwN (X m)) k) ∧ tall st F (fun m => rwN (S m)) (fun m => rwN (X m)) (2 ^ n - 1 - k) n = true
      · rw [if_pos z]
        have t1 := ta.mp z.2
        refine ⟨t1, fun y => ?_⟩
        rcases Nat.lt_or_ge k (2 ^ n - (ns sc u n).1) with w | w
        · omega
        · have e2 := i2 w
          have f2 := few_N (u := u) hs hc sl t1
          have b1 := z.1
          rw [e2, bits_n n6 sl, bits_n n6 lt] at b1
          have := f2.2 b1
          omega
      · rw [if_neg z]
        refine ⟨i1, fun y => ?_⟩
        rcases Nat.lt_or_ge k (2 ^ n - (ns sc u n).1) with w | w
        · exfalso
          have es : 2 ^ n - 1 - k = (ns sc u n).1 := by omega
          refine z ⟨?_, ?_⟩
          · rw [es, bits_n n6 lt, bits_n n6 fl]
            exact f1.1
          · rw [es] at ta ⊢
            exact ta.mpr g2
        · exact i2 w
  exact (key (2 ^ n) (Nat.le_refl _)).2 (by omega)
/-- told -/
theorem al_told (R : StR st sc ab be n) (hA : AnsZ st n F S h X) (C : CS so (PL (qC sc) (fun _ => true) n)) (ot : slT) (ln ct : Nat) {w : Nat} (hw : w ≤ 8) : toldA st n F (fun m => rwN (S m)) (fun m => rwN (X m)) (nI ln) (nI ct) w = tlA sc n so ot ln ct w := by
  have a := (al_so R hA C).1
  have l := al_le R C
  have fx : r_ct (fun j => r_su (rwN (S (2 ^ n - 1))) j (F (2 ^ n - 1))) 6 = r_ct (fun i => fx_b so.1 so.2.2.2.2.2 i) 6 := r_ct_c (fun j hj => (al_fx R hA C hj).symm)
  have hw2 : w = 0 ∨ w = 1 ∨ w = 2 ∨ w = 3 ∨ w = 4 ∨ w = 5 ∨ w = 6 ∨ w = 7 ∨ w = 8 := by omega
  rcases hw2 with e | e | e | e | e | e | e | e | e <;> subst e
  · rfl
  · show nI (6 - F (2 ^ n - 1)) = nI 6 - nI so.2.2.2.2.2
    rw [a, pk_sub (by omega)]
  · show nI (F (2 ^ n - 1)) = nI so.2.2.2.2.2
    rw [a]
  · show nI (r_ct (fun j => r_su (rwN (S (2 ^ n - 1))) j (F (2 ^ n - 1))) 6) = nI (r_ct (fun i => fx_b so.1 so.2.2.2.2.2 i) 6)
    rw [fx]
  · rfl
  · show nI (r_ct (spA st n F (fun m => rwN (S m)) (fun m => rwN (X m))) n) = nI (cs sc n ot n).1
    rw [al_cs R hA ot (Nat.le_refl n)]
  · show nI (r_bits (fwA st n F (fun m => rwN (S m)) (fun m => rwN (X m)) (2 ^ n))) = nI (r_bits (ns sc ot n).1)
    rw [al_fw R hA ot]
  · show nI (fwA st n F (fun m => rwN (S m)) (fun m => rwN (X m)) (2 ^ n)) = nI (ns sc ot n).1
    rw [al_fw R hA ot]
  · rfl
/-- what was read, on both sides -/
def PoR (po rd : Nat → Int32) : Prop := ∀ e, e < 10 → po e = rd e ∧ (rd e).toInt.natAbs ≤ 9
theorem al_may (R : StR st sc ab be n) (hA : AnsZ st n F S h X) (C : CS so (PL (qC sc) (fun _ => true) n)) {po rd : Nat → Int32} (P : PoR po rd) : May n F (fun m => rwN (S m)) (fun m => rwN (X m)) po (ag_u rd so) := by
  obtain ⟨sq, hs, hc⟩ := StR_q R
  refine May_N R.2.2.2.2.1 (fun e he => by rw [Nat.zero_add, (P e he).1]; exact (P e he).2) hA ?_
  rw [ag_uN C (SyC_sm hs (Nat.le_refl _)) (fun e he => (P e he).2), SL_PL]
  have pe : ∀ e, e < 10 → (rd e).toInt = (po (0 + e)).toInt := fun e he => by
    rw [Nat.zero_add, (P e he).1]
  have tb : ∀ k, k < n → true = (2 ^ n - 1).testBit k := fun k hk => by
    rw [Nat.testBit_two_pow_sub_one]
    exact (decide_eq_true hk).symm
  exact ⟨PL_Cons1 sq tb pe, PL_Cons1 (SQ_s sq) (fun k hk => (tb k hk).symm) (fun e he => (pe e he).symm)⟩
theorem al_tr (R : StR st sc ab be n) (hA : AnsZ st n F S h X) (C : CS so (PL (qC sc) (fun _ => true) n)) {po rd : Nat → Int32} (P : PoR po rd) : r_tr (F (2 ^ n - 1)) po 0 (rwN (S (2 ^ n - 1))) (rwN (X (2 ^ n - 1))) = im_u rd so := by
  obtain ⟨sq, hs, hc⟩ := StR_q R
  rw [Bool.eq_iff_iff, tr_N (hA (2 ^ n - 1) (by have := pw_pos n; omega)) (Sy_sm R.2.2.2.2.1 (Nat.le_refl _)) (fun e he => by rw [Nat.zero_add, (P e he).1]; exact (P e he).2) (rw_E6.mp (fun _ _ => rfl)) (rw_EC.mp (fun _ _ => rfl)), im_uN C (SyC_sm hs (Nat.le_refl _)) (fun e he => (P e he).2), SL_PL]
  have pe : ∀ e, e < 10 → (rd e).toInt = (po (0 + e)).toInt := fun e he => by
    rw [Nat.zero_add, (P e he).1]
  have tb : ∀ k, k < n → true = (2 ^ n - 1).testBit k := fun k hk => by
    rw [Nat.testBit_two_pow_sub_one]
    exact (decide_eq_true hk).symm
  exact ⟨PL_Imp (SQ_s sq) (fun k hk => (tb k hk).symm) (fun e he => (pe e he).symm), PL_Imp sq tb pe⟩
theorem dot_c {p q : Nat → Int32} {r s : Nat → Int64} {z : Int64} {a b c d : Nat} : ∀ {n : Nat}, (∀ j, j < n → p (a + j) = q (b + j)) → (∀ j, j < n → r (c + j) = s (d + j)) → r_dot z p a r c n = r_dot z q b s d n
  | 0, _, _ => rfl
  | n + 1, h1, h2 => by
    show r_dot z p a r c n + (p (a + n)).toInt64 * r (c + n) = r_dot z q b s d n + (q (b + n)).toInt64 * s (d + n)
    rw [dot_c (fun j hj => h1 j (by omega)) (fun j hj => h2 j (by omega)), h1 n (by omega), h2 n (by omega)]
theorem dot_z {p : Nat → Int32} {r : Nat → Int64} {z : Int64} {a c : Nat} : ∀ {n : Nat}, r_dot z p a r c n = z + r_dot 0 p a r c n
  | 0 => by
    show z = z + 0
    rw [Int64.add_zero]
  | n + 1 => by
    show r_dot z p a r c n + (p (a + n)).toInt64 * r (c + n) = z + (r_dot 0 p a r c n + (p (a + n)).toInt64 * r (c + n))
    rw [dot_z, Int64.add_assoc]
/-- measured -/
theorem al_ms (R : StR st sc ab be n) (hA : AnsZ st n F S h X) (C : CS so (PL (qC sc) (fun _ => true) n)) {po rd : Nat → Int32} (P : PoR po rd) {w : Nat} (hw : w ≤ 9) : msA (F (2 ^ n - 1)) po (rwN (S (2 ^ n - 1))) (rwN (X (2 ^ n - 1))) w = msC rd so w := by
  obtain ⟨a, b, c⟩ := al_so R hA C
  unfold msA msC
  by_cases z : w < 4
  · rw [if_pos z, if_pos z, dot_z]
    unfold pw_l
    rw [Nat.zero_add, (P (6 + w) (by omega)).1, dot_c (p := po) (q := rd) (r := rwN (X (2 ^ n - 1))) (s := so.2.1 w) (a := 0) (b := 0) (c := 6 * w) (d := 0) (n := 6) (fun j hj => by rw [Nat.zero_add]; exact (P j (by omega)).1) (fun j hj => by rw [Nat.zero_add]; exact (c w j z hj).symm)]
  · rw [if_neg z, if_neg z, a]
    by_cases y : w - 4 < F (2 ^ n - 1)
    · rw [if_pos y, if_pos y, dot_c (p := po) (q := rd) (r := rwN (S (2 ^ n - 1))) (s := so.1 (w - 4)) (a := 0) (b := 0) (c := 6 * (w - 4)) (d := 0) (n := 6) (fun j hj => by rw [Nat.zero_add]; exact (P j (by omega)).1) (fun j hj => by rw [Nat.zero_add]; exact (b (w - 4) j y hj).symm), Int64.add_comm]
    · rw [if_neg y, if_neg y, Int64.add_comm]
end
