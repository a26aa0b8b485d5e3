/-! ## States alike: said, taken back, scaled, copied -/
theorem Cons_ag {L M : List (Nat → Int)} (h : ∀ r, r ∈ M → ∃ p, p ∈ L ∧ ∀ e, e < 10 → p e = r e) (c : Cons L) : Cons M := fun b hb => by
  obtain ⟨x, hx⟩ := c b hb
  refine ⟨x, fun r hr => ?_⟩
  obtain ⟨p, p1, p2⟩ := h r hr
  rw [← gn_p p2, ← p2 (6 + b) (by omega)]
  exact hx p p1
theorem CS_cg {u : slT} {L M : List (Nat → Int)} (h1 : ∀ p, p ∈ L → ∃ r, r ∈ M ∧ ∀ e, e < 10 → p e = r e) (h2 : ∀ r, r ∈ M → ∃ p, p ∈ L ∧ ∀ e, e < 10 → p e = r e) (C : CS u L) : CS u M := by
  obtain ⟨N, H, h, X, ⟨c1, c2, c3, c4, A, k, nh, c5, c6⟩, E⟩ := C
  have all : ∀ r : Nat, ∃ q : Nat → Int, r < k → q ∈ M ∧ ∀ e, e < 10 → A r e = q e := fun r => by
    by_cases z : r < k
    · obtain ⟨q, q1, q2⟩ := h1 _ (c6 r z)
      exact ⟨q, fun _ => ⟨q1, q2⟩⟩
    · exact ⟨fun _ => 0, fun y => absurd y z⟩
  refine ⟨N, H, h, X, ⟨c1, fun v => ?_, fun b hb r hr => ?_, c4, fun r => Classical.choose (all r), k, nh, ?_, fun r hr => (Classical.choose_spec (all r) hr).1⟩, E⟩
  · rw [c2]
    constructor
    · intro q r hr
      obtain ⟨p, p1, p2⟩ := h2 r hr
      rw [← gn_p p2]
      exact q p p1
    · intro q p hp
      obtain ⟨r, r1, r2⟩ := h1 p hp
      rw [gn_p r2]
      exact q r r1
  · obtain ⟨p, p1, p2⟩ := h2 r hr
    rw [← gn_p p2, ← p2 (6 + b) (by omega)]
    exact c3 b hb p p1
  · obtain ⟨d1, d2, d3, d4, d5, d6⟩ := c5
    refine ⟨d1, d2, fun i r hi hr => ?_, d4, d5, ?_⟩
    · rw [← d3 i r hi hr]
      exact sm_cg (fun e he => by rw [(Classical.choose_spec (all r) hr).2 e (by omega)])
    · rw [mi_cgc (A := fun r => Classical.choose (all r)) (B := A) (c := nh) (fun r m hr hm => ((Classical.choose_spec (all r) hr).2 (nh m) (by have := (d5 m hm).1; omega)).symm)]
      exact d6
theorem up_ne {f : Nat → Int32} {k j : Nat} {x : Int32} (h : j ≠ k) : upd f k x j = f j := if_neg h
theorem up_eq {f : Nat → Int32} {k : Nat} {x : Int32} : upd f k x k = x := if_pos rfl
theorem cy_in {α : Type} {f g : Nat → α} {a b n k : Nat} (h : k < n) : va_cpy f g a b n (b + k) = f (a + k) := by
  unfold va_cpy
  rw [if_pos (by omega), show b + k - b = k by omega]
theorem cy_out {α : Type} {f g : Nat → α} {a b n k : Nat} (h : k < b ∨ b + n ≤ k) : va_cpy f g a b n k = g k := if_neg (by omega)
/-- solutions kept with the state -/
def SoR (sc : Nat → Nat → Int32) (n : Nat) (so : slT) : Prop := CS so (PL (qC sc) (fun _ => true) n)
theorem StR_cg {st st1 : Nat → Int32} {sc sc1 : Nat → Nat → Int32} {ab be ab1 be1 : Nat → Int32} {n : Nat} (h1 : ∀ i, i < 69 → st1 i = st i) (h2 : ∀ k e, k < n → e < 10 → sc1 k e = sc k e) (h3 : ∀ j, j < 4 → ab1 j = ab j ∧ be1 j = be j) (R : StR st sc ab be n) : StR st1 sc1 ab1 be1 n := by
  obtain ⟨r1, r2, r3, r4, r5, r6, r7⟩ := R
  refine ⟨by rw [h1 0 (by omega)]; exact r1, r2, fun k e hk he => ?_, fun j hj => ?_, fun k hk e he => ?_, ?_, fun j hj => ?_⟩
  · rw [h2 k e hk he, r3 k e hk he, h1 _ (by omega)]
  · rw [(h3 j hj).1, (h3 j hj).2, h1 _ (by omega), h1 _ (by omega)]
    exact r4 j hj
  · rw [h1 _ (by omega)]
    exact r5 k hk e he
  · refine Cons_ag (fun r hr => ?_) r6
    obtain ⟨k, k1, k2, rfl⟩ := SL_mem.mp hr
    refine ⟨sy st k, SL_mem.mpr ⟨k, k1, k2, rfl⟩, fun e he => ?_⟩
    show (st (1 + 10 * k + e)).toInt = (st1 (1 + 10 * k + e)).toInt
    rw [h1 _ (by omega)]
  · rw [h1 _ (by omega), h1 _ (by omega)]
    exact r7 j hj
/-- solutions made anew -/
theorem SoR_sa {st : Nat → Int32} {sc : Nat → Nat → Int32} {ab be : Nat → Int32} {n : Nat} (R : StR st sc ab be n) (u : slT) : SoR sc n (sa sc u n) := by
  obtain ⟨-, hs, hc⟩ := StR_q R
  exact sa_N hs hc (Nat.le_refl n)
theorem StR_say {st : Nat → Int32} {sc : Nat → Nat → Int32} {ab be : Nat → Int32} {n : Nat} {so : slT} {po rd : Nat → Int32} (R : StR st sc ab be n) (S : SoR sc n so) (P : PoR po rd) (hn : n < 6) (ha : ag_u rd so = true) : StR (sy_st st po n) (fun i => if i = n then va_cpy rd (sc n) 0 0 10 else sc i) ab be (n + 1) ∧ SoR (fun i => if i = n then va_cpy rd (sc n) 0 0 10 else sc i) (n + 1) (su rd (sw_u2 rd so)) := by
  have R0 := R
  obtain ⟨sq, hs, hc⟩ := StR_q R
  obtain ⟨r1, r2, r3, r4, r5, r6, r7⟩ := R
  have s0 : sy_st st po n 0 = nI (n + 1) := up_eq
  have slo : ∀ k e, k < n → e < 10 → sy_st st po n (1 + 10 * k + e) = st (1 + 10 * k + e) := fun k e hk he => by
    unfold sy_st
    rw [up_ne (by omega), cy_out (by omega)]
  have sn1 : ∀ e, e < 10 → sy_st st po n (1 + 10 * n + e) = po e := fun e he => by
    unfold sy_st
    rw [up_ne (by omega), cy_in he, Nat.zero_add]
  have shi : ∀ j, 61 ≤ j → sy_st st po n j = st j := fun j hj => by
    unfold sy_st
    rw [up_ne (by omega), cy_out (by omega)]
  have cn : ∀ e, e < 10 → va_cpy rd (sc n) 0 0 10 e = rd e := fun e he => by
    have := cy_in (f := rd) (g := sc n) (a := 0) (b := 0) he
    rw [Nat.zero_add] at this
    exact this
  have hcons := (ag_uN S (SyC_sm hs (Nat.le_refl _)) (fun e he => (P e he).2)).mp ha
  have lst : ∀ p, p ∈ (fun j => (rd j).toInt) :: PL (qC sc) (fun _ => true) n → ∃ r, r ∈ PL (qC (fun i => if i = n then va_cpy rd (sc n) 0 0 10 else sc i)) (fun _ => true) (n + 1) ∧ ∀ e, e < 10 → p e = r e := fun p hp => by
    rcases List.mem_cons.mp hp with e | e
    · refine ⟨_, PL_mem.mpr ⟨n, by omega, rfl, rfl⟩, fun j hj => ?_⟩
      rw [e]
      show (rd j).toInt = ((if n = n then va_cpy rd (sc n) 0 0 10 else sc n) j).toInt
      rw [if_pos rfl, cn j hj]
    · obtain ⟨k, k1, k2, rfl⟩ := PL_mem.mp e
      refine ⟨_, PL_mem.mpr ⟨k, by omega, rfl, rfl⟩, fun j hj => ?_⟩
      show (sc k j).toInt = ((if k = n then va_cpy rd (sc n) 0 0 10 else sc k) j).toInt
      rw [if_neg (by omega)]
  have lst2 : ∀ r, r ∈ PL (qC (fun i => if i = n then va_cpy rd (sc n) 0 0 10 else sc i)) (fun _ => true) (n + 1) → ∃ p, p ∈ (fun j => (rd j).toInt) :: PL (qC sc) (fun _ => true) n ∧ ∀ e, e < 10 → p e = r e := fun r hr => by
    obtain ⟨k, k1, k2, rfl⟩ := PL_mem.mp hr
    by_cases z : k = n
    · refine ⟨_, List.mem_cons_self, fun j hj => ?_⟩
      show (rd j).toInt = ((if k = n then va_cpy rd (sc n) 0 0 10 else sc k) j).toInt
      rw [if_pos z, cn j hj]
    · refine ⟨_, List.mem_cons_of_mem _ (PL_mem.mpr ⟨k, by omega, rfl, rfl⟩), fun j hj => ?_⟩
      show (sc k j).toInt = ((if k = n then va_cpy rd (sc n) 0 0 10 else sc k) j).toInt
      rw [if_neg z]
  refine ⟨⟨s0, hn, fun k e hk he => ?_, fun j hj => ?_, fun k hk e he => ?_, ?_, fun j hj => ?_⟩, CS_cg lst lst2 (cu_N (sw_N S) (SyC_sm hs (Nat.le_refl _)) (fun e he => (P e he).2) hcons)⟩
  · dsimp only
    by_cases z : k = n
    · rw [if_pos z, z, sn1 e he, cn e he, (P e he).1]
    · rw [if_neg z, slo k e (by omega) he]
      exact r3 k e (by omega) he
  · rw [shi _ (by omega), shi _ (by omega)]
    exact r4 j hj
  · by_cases z : k = n
    · rw [z, sn1 e he, (P e he).1]
      exact (P e he).2
    · rw [slo k e (by omega) he]
      exact r5 k (by omega) e he
  · refine Cons_ag (fun r hr => ?_) hcons
    obtain ⟨k, k1, k2, rfl⟩ := SL_mem.mp hr
    by_cases z : k = n
    · refine ⟨_, List.mem_cons_self, fun j hj => ?_⟩
      show (rd j).toInt = (sy_st st po n (1 + 10 * k + j)).toInt
      rw [z, sn1 j hj, (P j hj).1]
    · refine ⟨_, List.mem_cons_of_mem _ (PL_mem.mpr ⟨k, by omega, rfl, rfl⟩), fun j hj => ?_⟩
      show (sc k j).toInt = (sy_st st po n (1 + 10 * k + j)).toInt
      rw [slo k j (by omega) hj, r3 k j (by omega) hj]
  · rw [shi _ (by omega), shi _ (by omega)]
    exact r7 j hj
theorem StR_back {st : Nat → Int32} {sc : Nat → Nat → Int32} {ab be : Nat → Int32} {n k : Nat} (R : StR st sc ab be n) (hk : k < n) : StR (bk_st st n k) (rm_s sc k (n - 1)) ab be (n - 1) := by
  obtain ⟨r1, r2, r3, r4, r5, r6, r7⟩ := R
  have slo : ∀ i e, i < k → e < 10 → bk_st st n k (1 + 10 * i + e) = st (1 + 10 * i + e) := fun i e hi he => by
    unfold bk_st
    rw [cy_out (by omega), up_ne (by omega)]
  have sup : ∀ i e, k ≤ i → i < n - 1 → e < 10 → bk_st st n k (1 + 10 * i + e) = st (1 + 10 * (i + 1) + e) := fun i e h1 h2 he => by
    unfold bk_st
    rw [show 1 + 10 * i + e = 1 + 10 * k + (10 * (i - k) + e) by omega, cy_in (by omega), up_ne (by omega)]
    congr 1
    omega
  have shi : ∀ j, 61 ≤ j → bk_st st n k j = st j := fun j hj => by
    unfold bk_st
    rw [cy_out (by omega), up_ne (by omega)]
  have rlo : ∀ i, i < k → rm_s sc k (n - 1) i = sc i := fun i hi => if_neg (by omega)
  have rup : ∀ i e, k ≤ i → i < n - 1 → e < 10 → rm_s sc k (n - 1) i e = sc (i + 1) e := fun i e h1 h2 he => by
    show (if k ≤ i ∧ i < n - 1 then va_cpy (sc (i + 1)) (sc i) 0 0 10 else sc i) e = _
    rw [if_pos ⟨h1, h2⟩]
    have := cy_in (f := sc (i + 1)) (g := sc i) (a := 0) (b := 0) he
    rw [Nat.zero_add] at this
    exact this
  refine ⟨bk_0, by omega, fun i e hi he => ?_, fun j hj => ?_, fun i hi e he => ?_, ?_, fun j hj => ?_⟩
  · rcases Nat.lt_or_ge i k with z | z
    · rw [rlo i z, slo i e z he]
      exact r3 i e (by omega) he
    · rw [rup i e z hi he, sup i e z hi he]
      exact r3 (i + 1) e (by omega) he
  · rw [shi _ (by omega), shi _ (by omega)]
    exact r4 j hj
  · rcases Nat.lt_or_ge i k with z | z
    · rw [slo i e z he]
      exact r5 i (by omega) e he
    · rw [sup i e z hi he]
      exact r5 (i + 1) (by omega) e he
  · refine Cons_ag (fun r hr => ?_) r6
    obtain ⟨i, i1, i2, rfl⟩ := SL_mem.mp hr
    rcases Nat.lt_or_ge i k with z | z
    · refine ⟨sy st i, SL_mem.mpr ⟨i, by omega, by rw [Nat.testBit_two_pow_sub_one]; exact decide_eq_true (by omega), rfl⟩, fun e he => ?_⟩
      show (st (1 + 10 * i + e)).toInt = (bk_st st n k (1 + 10 * i + e)).toInt
      rw [slo i e z he]
    · refine ⟨sy st (i + 1), SL_mem.mpr ⟨i + 1, by omega, by rw [Nat.testBit_two_pow_sub_one]; exact decide_eq_true (by omega), rfl⟩, fun e he => ?_⟩
      show (st (1 + 10 * (i + 1) + e)).toInt = (bk_st st n k (1 + 10 * i + e)).toInt
      rw [sup i e z i1 he]
  · rw [shi _ (by omega), shi _ (by omega)]
    exact r7 j hj
theorem StR_scale {st : Nat → Int32} {sc : Nat → Nat → Int32} {ab be : Nat → Int32} {n k : Nat} {x y : Int32} (R : StR st sc ab be n) (hk : k ≤ 3) (hx : nI 1 ≤ x ∧ x ≤ nI 12) (hy : nI 1 ≤ y ∧ y ≤ nI 12) : StR (sc_st st k x y) sc (upd ab k x) (upd be k y) n := by
  obtain ⟨r1, r2, r3, r4, r5, r6, r7⟩ := R
  have lo : ∀ i, i < 61 → sc_st st k x y i = st i := fun i hi => by
    unfold sc_st
    rw [up_ne (by omega), up_ne (by omega)]
  have a1 : ∀ j, j < 4 → sc_st st k x y (61 + j) = if j = k then x else st (61 + j) := fun j hj => by
    unfold sc_st
    rw [up_ne (by omega)]
    by_cases z : j = k
    · rw [if_pos z, z, up_eq]
    · rw [if_neg z, up_ne (by omega)]
  have a2 : ∀ j, j < 4 → sc_st st k x y (65 + j) = if j = k then y else st (65 + j) := fun j hj => by
    unfold sc_st
    by_cases z : j = k
    · rw [if_pos z, z, up_eq]
    · rw [if_neg z, up_ne (by omega), up_ne (by omega)]
  have rx : ∀ z : Int32, nI 1 ≤ z ∧ z ≤ nI 12 → 1 ≤ z.toInt ∧ z.toInt ≤ 12 := fun z hz => by
    have h1 := Int32.le_iff_toInt_le.mp hz.1
    have h2 := Int32.le_iff_toInt_le.mp hz.2
    rw [show (nI 1).toInt = 1 from by decide] at h1
    rw [show (nI 12).toInt = 12 from by decide] at h2
    exact ⟨h1, h2⟩
  refine ⟨by rw [lo 0 (by omega)]; exact r1, r2, fun i e hi he => by rw [lo _ (by omega)]; exact r3 i e hi he, fun j hj => ?_, fun i hi e he => by rw [lo _ (by omega)]; exact r5 i hi e he, ?_, fun j hj => ?_⟩
  · rw [a1 j hj, a2 j hj]
    obtain ⟨b1, b2⟩ := r4 j hj
    unfold upd
    by_cases z : j = k
    · rw [if_pos z, if_pos z, if_pos z, if_pos z]
      exact ⟨rfl, rfl⟩
    · rw [if_neg z, if_neg z, if_neg z, if_neg z]
      exact ⟨b1, b2⟩
  · refine Cons_ag (fun r hr => ?_) r6
    obtain ⟨i, i1, i2, rfl⟩ := SL_mem.mp hr
    refine ⟨sy st i, SL_mem.mpr ⟨i, i1, i2, rfl⟩, fun e he => ?_⟩
    show (st (1 + 10 * i + e)).toInt = (sc_st st k x y (1 + 10 * i + e)).toInt
    rw [lo _ (by omega)]
  · rw [a1 j hj, a2 j hj]
    by_cases z : j = k
    · rw [if_pos z, if_pos z]
      exact ⟨rx x hx, rx y hy⟩
    · rw [if_neg z, if_neg z]
      exact r7 j hj
/-! deeds -/
/-- a state that was put aside: the reference's 69 numbers, the class's State -/
def StQ (st : Nat → Int32) (t : sT) (n : Nat) : Prop := StR st t.1 t.2.1 t.2.2.1 n ∧ t.2.2.2.1 = nI n
theorem StQ_cp {st st1 : Nat → Int32} {f t : sT} {n : Nat} (h : ∀ i, i < 69 → st1 i = st i) (Q : StQ st f n) : StQ st1 (sT_cp f t) n := by
  refine ⟨StR_cg h (fun k e hk he => ?_) (fun j hj => ⟨?_, ?_⟩) Q.1, Q.2⟩
  · have n6 := Q.1.2.1
    show (if k < 6 then va_cpy (f.1 k) (t.1 k) 0 0 10 else t.1 k) e = f.1 k e
    rw [if_pos (by omega)]
    have := cy_in (f := f.1 k) (g := t.1 k) (a := 0) (b := 0) he
    rw [Nat.zero_add] at this
    exact this
  · have := cy_in (f := f.2.1) (g := t.2.1) (a := 0) (b := 0) hj
    rw [Nat.zero_add] at this
    exact this
  · have := cy_in (f := f.2.2.1) (g := t.2.2.1) (a := 0) (b := 0) hj
    rw [Nat.zero_add] at this
    exact this
/-- the deeds: d blocks of 69 against the ring -/
def DeR (de : Nat → Int32) (d : Nat) (ss : Nat → sT) (mx : Nat) : Prop := d ≤ 20 ∧ mx < 20 ∧ ∀ k, 1 ≤ k → k ≤ d → ∃ n, StQ (fun i => de (69 * (d - k) + i)) (ss ((mx + 20 - k) % 20)) n
theorem DeR_nt {de : Nat → Int32} {d mx n : Nat} {ss : Nat → sT} {st : Nat → Int32} {t : sT} (D : DeR de d ss mx) (Q : StQ st t n) : DeR (nt_e de st d) (nt_d d) (nt_s ss mx t) ((mx + 1) % 20) ∧ nt_d d = nt_c d := by
  obtain ⟨d1, d2, d3⟩ := D
  have ec : nt_d d = nt_c d := by
    unfold nt_d nt_c
    by_cases z : d = 20
    · rw [if_pos z, if_neg (by omega), z]
    · rw [if_neg z, if_pos (by omega)]
  refine ⟨⟨?_, Nat.mod_lt _ (by decide), fun k k1 k2 => ?_⟩, ec⟩
  · unfold nt_d
    split <;> omega
  · by_cases z : k = 1
    · subst z
      refine ⟨n, ?_⟩
      have e : ((mx + 1) % 20 + 20 - 1) % 20 = mx := by omega
      rw [e, show nt_s ss mx t mx = sT_cp t (ss mx) from if_pos rfl]
      refine StQ_cp (fun i hi => ?_) Q
      unfold nt_e nt_d
      by_cases y : d = 20
      · rw [if_pos y, if_pos y, show 69 * (20 - 1) + i = 69 * 19 + i by omega, cy_in hi, Nat.zero_add]
      · rw [if_neg y, if_neg y, show 69 * (d + 1 - 1) + i = 69 * d + i by omega, cy_in hi, Nat.zero_add]
    · have kd : k - 1 ≤ d := by
        unfold nt_d at k2
        split at k2 <;> omega
      have k20 : k ≤ 20 := by
        unfold nt_d at k2
        split at k2 <;> omega
      obtain ⟨n1, Q1⟩ := d3 (k - 1) (by omega) kd
      refine ⟨n1, ?_⟩
      have e : ((mx + 1) % 20 + 20 - k) % 20 = (mx + 20 - (k - 1)) % 20 := by omega
      have ne : (mx + 20 - (k - 1)) % 20 ≠ mx := by omega
      rw [e, show nt_s ss mx t ((mx + 20 - (k - 1)) % 20) = ss ((mx + 20 - (k - 1)) % 20) from if_neg ne]
      refine ⟨StR_cg (fun i hi => ?_) (fun _ _ _ _ => rfl) (fun _ _ => ⟨rfl, rfl⟩) Q1.1, Q1.2⟩
      unfold nt_e nt_d
      by_cases y : d = 20
      · rw [if_pos y, if_pos y, cy_out (by omega), show 69 * (20 - k) + i = 0 + (69 * (20 - k) + i) by omega, cy_in (by omega), y]
        congr 1
        omega
      · rw [if_neg y, if_neg y, cy_out (by unfold nt_d at k2; rw [if_neg y] at k2; omega)]
        congr 1
        omega
theorem DeR_un {de : Nat → Int32} {d mx u : Nat} {ss : Nat → sT} (D : DeR de d ss mx) (hu : u ≤ d) : DeR de (d - u) ss ((mx + 20 - u) % 20) := by
  obtain ⟨d1, d2, d3⟩ := D
  refine ⟨by omega, Nat.mod_lt _ (by decide), fun k k1 k2 => ?_⟩
  obtain ⟨n, Q⟩ := d3 (u + k) (by omega) (by omega)
  refine ⟨n, ?_⟩
  rw [show ((mx + 20 - u) % 20 + 20 - k) % 20 = (mx + 20 - (u + k)) % 20 by omega, show d - u - k = d - (u + k) by omega]
  exact Q
