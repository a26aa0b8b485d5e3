/-! ## adds: the choice -/
def EC (c : Nat → Int64) (X : Nat → Nat → Int) : Prop := ∀ b, b < 4 → ∀ j, j < 6 → c (6 * b + j) = zI (X b j)
theorem dt_z {po : Nat → Int32} {r : Nat → Int64} {R : Nat → Int} {a q : Nat} {s : Int} : ∀ {n : Nat}, (∀ j, j < n → r (q + j) = zI (R j)) → r_dot (zI s) po a r q n = zI (s + dtZ (fun j => (po (a + j)).toInt) R n)
  | 0, _ => by
    show zI s = zI (s + 0)
    rw [Int.add_zero]
  | n + 1, h => by
    show r_dot (zI s) po a r q n + (po (a + n)).toInt64 * r (q + n) = zI (s + (dtZ (fun j => (po (a + j)).toInt) R n + (po (a + n)).toInt * R n))
    rw [dt_z (fun j hj => h j (by omega)), h n (by omega), i_64, zI_mul, zI_add, Int.add_assoc]
theorem aT_N {po : Nat → Int32} {q k : Nat} {c : Nat → Int64} {x : Nat → Int} (h : ∀ j, j < 6 → c (6 * k + j) = zI (x j)) : aT po q c k = zI (gn x (fun j => (po (q + j)).toInt) + (po (q + (6 + k))).toInt) := by
  unfold aT
  rw [i_64, dt_z h, gn_dt, Int.add_comm, Nat.add_assoc]
theorem dvd_td {r d : Int} : r - r.tdiv d * d = 0 ↔ d ∣ r := by
  constructor
  · intro h
    exact ⟨r.tdiv d, by rw [Int.mul_comm]; omega⟩
  · rintro ⟨k, rfl⟩
    rcases Decidable.em (d = 0) with z | z
    · rw [z, Int.zero_mul, Int.mul_zero]
      rfl
    · rw [Int.mul_tdiv_cancel_left _ z, Int.mul_comm]
      omega
theorem aI_t {r d : Int} (hr : rg r) (hd : rg d) (h0 : d ≠ 0) : aI true (zI r) (zI d) = true ↔ d ∣ r := by
  have e : aI true (zI r) (zI d) = (zI r - zI r / zI d * zI d == 0) := rfl
  have b := @td_facts r d h0
  have r2 : rg (r - r.tdiv d * d) := by
    unfold rg at *
    omega
  rw [e, zI_d hr hd, zI_mul, zI_sub, beq_iff_eq, zI_eq0 r2, dvd_td]
theorem aI_f {r : Int} {o : Int64} (hr : rg r) : aI false (zI r) o = true ↔ r = 0 := by
  have e : aI false (zI r) o = (zI r == 0) := rfl
  rw [e, beq_iff_eq, zI_eq0 hr]
theorem aB_hi {one : Bool} {po : Nat → Int32} {q : Nat} {ro c : Nat → Int64} {o0 : Int64} : ∀ {k u : Nat}, 6 * k ≤ u → (aB one po q ro o0 c k).2 u = c u
  | 0, _, _ => rfl
  | k + 1, u, h => by
    have e := @aB_hi one po q ro c o0 k u (by omega)
    unfold aB
    dsimp only
    split
    · rw [show ck_row (aB one po q ro o0 c k).2 ro k 0 (aT po q (aB one po q ro o0 c k).2 k / o0) 6 u = (aB one po q ro o0 c k).2 u from if_neg (by omega)]
      exact e
    · exact e
theorem aB_t {po : Nat → Int32} {q : Nat} {ro c : Nat → Int64} {X : Nat → Nat → Int} {R : Nat → Int} {d : Int} (hd : rg d) (h0 : d ≠ 0) (hR : ∀ j, j < 6 → ro j = zI (R j)) (hc : EC c X) (hr : ∀ b, b < 4 → rg (gn (X b) (fun j => (po (q + j)).toInt) + (po (q + (6 + b))).toInt)) : ∀ {k : Nat}, k ≤ 4 → ((aB true po q ro (zI d) c k).1 = true ↔ ∀ b, b < k → d ∣ gn (X b) (fun j => (po (q + j)).toInt) + (po (q + (6 + b))).toInt) ∧ ((∀ b, b < k → d ∣ gn (X b) (fun j => (po (q + j)).toInt) + (po (q + (6 + b))).toInt) → ∀ b, b < k → ∀ j, j < 6 → (aB true po q ro (zI d) c k).2 (6 * b + j) = zI (X b j - (gn (X b) (fun j => (po (q + j)).toInt) + (po (q + (6 + b))).toInt).tdiv d * R j))
  | 0, _ => ⟨⟨fun _ b hb => by omega, fun _ => rfl⟩, fun _ b hb => by omega⟩
  | k + 1, hk => by
    obtain ⟨i1, i2⟩ := aB_t hd h0 hR hc hr (k := k) (by omega)
    have t := aT_N (po := po) (q := q) (k := k) (c := (aB true po q ro (zI d) c k).2) (x := X k) (fun j hj => by
      rw [aB_hi (by omega)]
      exact hc k (by omega) j hj)
    have ai := aI_t (hr k (by omega)) hd h0
    have e1 : (aB true po q ro (zI d) c (k + 1)).1 = ((aB true po q ro (zI d) c k).1 && aI true (aT po q (aB true po q ro (zI d) c k).2 k) (zI d)) := rfl
    have e2 : (aB true po q ro (zI d) c (k + 1)).2 = if ((aB true po q ro (zI d) c k).1 && aI true (aT po q (aB true po q ro (zI d) c k).2 k) (zI d) && true) = true then ck_row (aB true po q ro (zI d) c k).2 ro k 0 (aT po q (aB true po q ro (zI d) c k).2 k / zI d) 6 else (aB true po q ro (zI d) c k).2 := rfl
    have all : (aB true po q ro (zI d) c (k + 1)).1 = true ↔ ∀ b, b < k + 1 → d ∣ gn (X b) (fun j => (po (q + j)).toInt) + (po (q + (6 + b))).toInt := by
      rw [e1, t, Bool.and_eq_true, i1, ai]
      constructor
      · rintro ⟨u, v⟩ b hb
        by_cases z : b = k
        · rw [z]
          exact v
        · exact u b (by omega)
      · intro u
        exact ⟨fun b hb => u b (by omega), u k (by omega)⟩
    refine ⟨all, fun u b hb j hj => ?_⟩
    rw [e2, ← e1, all.mpr u, Bool.and_true, if_pos rfl]
    unfold ck_row
    by_cases z : b = k
    · subst z
      rw [if_pos (by omega), t, zI_d (hr b (by omega)) hd, show 6 * 0 + (6 * b + j - 6 * b) = j by omega, hR j hj, aB_hi (by omega), hc b (by omega) j hj, zI_mul, zI_sub]
    · rw [if_neg (by omega)]
      exact i2 (fun b hb => u b (by omega)) b (by omega) j hj
theorem aB_f {po : Nat → Int32} {q : Nat} {ro c : Nat → Int64} {o0 : Int64} {X : Nat → Nat → Int} (hc : EC c X) (hr : ∀ b, b < 4 → rg (gn (X b) (fun j => (po (q + j)).toInt) + (po (q + (6 + b))).toInt)) : ∀ {k : Nat}, k ≤ 4 → ((aB false po q ro o0 c k).1 = true ↔ ∀ b, b < k → gn (X b) (fun j => (po (q + j)).toInt) + (po (q + (6 + b))).toInt = 0) ∧ (aB false po q ro o0 c k).2 = c
  | 0, _ => ⟨⟨fun _ b hb => by omega, fun _ => rfl⟩, rfl⟩
  | k + 1, hk => by
    obtain ⟨i1, i2⟩ := aB_f hc hr (k := k) (o0 := o0) (ro := ro) (by omega)
    have t := aT_N (po := po) (q := q) (k := k) (c := c) (x := X k) (fun j hj => hc k (by omega) j hj)
    have ai := aI_f (o := o0) (hr k (by omega))
    have e1 : (aB false po q ro o0 c (k + 1)).1 = ((aB false po q ro o0 c k).1 && aI false (aT po q (aB false po q ro o0 c k).2 k) o0) := rfl
    have e2 : (aB false po q ro o0 c (k + 1)).2 = if ((aB false po q ro o0 c k).1 && aI false (aT po q (aB false po q ro o0 c k).2 k) o0 && false) = true then ck_row (aB false po q ro o0 c k).2 ro k 0 (aT po q (aB false po q ro o0 c k).2 k / o0) 6 else (aB false po q ro o0 c k).2 := rfl
    constructor
    · rw [e1, i2, t, Bool.and_eq_true, i1, ai]
      constructor
      · rintro ⟨u, v⟩ b hb
        by_cases z : b = k
        · rw [z]
          exact v
        · exact u b (by omega)
      · intro u
        exact ⟨fun b hb => u b (by omega), u k (by omega)⟩
    · rw [e2, Bool.and_false, if_neg (by decide)]
      exact i2
/-! the choice is made the least -/
theorem oB_sim {ro c : Nat → Int64} {S : Nat → Nat → Int} {Y : Nat → Nat → Int} {i w : Nat} (hS : ∀ j, j < 6 → ro (6 * i + j) = zI (S i j)) (hw : w < 6) (hn : S i w ≠ 0) (hr : rg (S i w)) (hc : EC c Y) (hy : ∀ b, b < 4 → rg (Y b w)) : ∀ {k : Nat}, k ≤ 4 → ∀ b, b < 4 → ∀ j, j < 6 → oB c ro i w k (6 * b + j) = if b < k then zI (Y b j - flz (Y b w) (S i w) * S i j) else zI (Y b j)
  | 0, _, b, hb, j, hj => by
    rw [if_neg (by omega)]
    exact hc b hb j hj
  | k + 1, hk, b, hb, j, hj => by
    have ih := oB_sim hS hw hn hr hc hy (k := k) (by omega)
    show ck_row (oB c ro i w k) ro k i (r_floor (oB c ro i w k (6 * k + w)) (ro (6 * i + w))) 6 (6 * b + j) = _
    rw [ih k (by omega) w hw, if_neg (show ¬ k < k by omega), hS w hw, fl_sim (hy k (by omega)) hr hn]
    unfold ck_row
    by_cases z : b = k
    · subst z
      rw [if_pos (by omega), if_pos (by omega), ih b hb j hj, if_neg (show ¬ b < b by omega), show 6 * i + (6 * b + j - 6 * b) = 6 * i + j by omega, hS j hj, zI_mul, zI_sub]
    · rw [if_neg (by omega), ih b hb j hj]
      by_cases y : b < k
      · rw [if_pos y, if_pos (by omega)]
      · rw [if_neg y, if_neg (by omega)]
/-- a solution made less by the rows, one after the other -/
def yZ (S : Nat → Nat → Int) (h : Nat → Nat) (Y : Nat → Int) : Nat → Nat → Int
  | 0 => Y
  | i + 1 => fun j => yZ S h Y i j - flz (yZ S h Y i (h i)) (S i (h i)) * S i j
theorem oF_sim {f : Nat} {ro c : Nat → Int64} {S : Nat → Nat → Int} {h : Nat → Nat} {Y : Nat → Nat → Int} (hS : Hnf f S h) (h6 : E6 f ro S) (hr : ∀ i, i < f → rg (S i (h i))) (hc : EC c Y) : ∀ {n : Nat}, n ≤ f → (∀ b i, b < 4 → i < n → rg (yZ S h (Y b) i (h i))) → ∃ c1, oF c ro n = some c1 ∧ EC c1 (fun b => yZ S h (Y b) n)
  | 0, _, _ => ⟨c, rfl, hc⟩
  | n + 1, hn, hy => by
    obtain ⟨c1, q1, q2⟩ := oF_sim hS h6 hr hc (n := n) (by omega) (fun b i hb hi => hy b i hb (by omega))
    have sn := hS.1 n (by omega)
    have hd : r_hd ro (6 * n) 0 6 = h n := hd_N (R := S n) (Nat.zero_le _) (by omega) (fun u _ u2 => by
      refine ⟨h6 n (by omega) u (by omega), ?_⟩
      rcases Nat.eq_or_lt_of_le u2 with e | e
      · rw [e]
        exact hr n (by omega)
      · rw [sn.2.2 u e]
        exact rg_0) (fun u _ u2 => sn.2.2 u u2) (by omega)
    refine ⟨oB c1 ro n (h n) 4, ?_, fun b hb j hj => ?_⟩
    · unfold oF
      rw [q1]
      dsimp only
      rw [hd, if_pos sn.1]
    · rw [oB_sim (fun j hj => h6 n (by omega) j hj) sn.1 (by omega) (hr n (by omega)) q2 (fun b hb => hy b n hb (by omega)) (Nat.le_refl _) b hb j hj, if_pos hb]
      rfl
theorem oF_ex {f : Nat} {ro c : Nat → Int64} {S : Nat → Nat → Int} {h : Nat → Nat} (hS : Hnf f S h) (h6 : E6 f ro S) (hr : ∀ i, i < f → rg (S i (h i))) : ∀ {n : Nat}, n ≤ f → ∃ c1, oF c ro n = some c1
  | 0, _ => ⟨c, rfl⟩
  | n + 1, hn => by
    obtain ⟨c1, q1⟩ := oF_ex (c := c) hS h6 hr (n := n) (by omega)
    have sn := hS.1 n (by omega)
    have hd : r_hd ro (6 * n) 0 6 = h n := hd_N (R := S n) (Nat.zero_le _) (by omega) (fun u _ u2 => by
      refine ⟨h6 n (by omega) u (by omega), ?_⟩
      rcases Nat.eq_or_lt_of_le u2 with e | e
      · rw [e]
        exact hr n (by omega)
      · rw [sn.2.2 u e]
        exact rg_0) (fun u _ u2 => sn.2.2 u u2) (by omega)
    refine ⟨oB c1 ro n (h n) 4, ?_⟩
    unfold oF
    rw [q1]
    dsimp only
    rw [hd, if_pos sn.1]
theorem yZ_red {f : Nat} {S : Nat → Nat → Int} {h : Nat → Nat} {Y : Nat → Int} (hS : Hnf f S h) : ∀ {n : Nat}, n ≤ f → ∀ l, l < n → 0 ≤ yZ S h Y n (h l) ∧ yZ S h Y n (h l) < S l (h l)
  | 0, _, l, hl => by omega
  | n + 1, hn, l, hl => by
    show 0 ≤ yZ S h Y n (h l) - flz (yZ S h Y n (h n)) (S n (h n)) * S n (h l) ∧ yZ S h Y n (h l) - flz (yZ S h Y n (h n)) (S n (h n)) * S n (h l) < S l (h l)
    by_cases z : l = n
    · subst z
      exact flz_b (hS.1 l (by omega)).2.1
    · rw [(hS.1 n (by omega)).2.2 _ (hS.2.1 l n (by omega) (by omega)), Int.mul_zero, Int.sub_zero]
      exact yZ_red hS (by omega) l (by omega)
theorem yZ_sl {L : List (Nat → Int)} {b f : Nat} {S : Nat → Nat → Int} {h : Nat → Nat} {Y : Nat → Int} (hS : ∀ i, i < f → Kr L (S i)) (hY : Sl L b Y) : ∀ {n : Nat}, n ≤ f → Sl L b (yZ S h Y n)
  | 0, _ => hY
  | n + 1, hn => Sl_ad (yZ_sl hS hY (n := n) (by omega)) (hS n (by omega))
theorem flz_le {x D : Int} {z : Nat} (hD : 0 < D) (hx : x.natAbs ≤ z * D.natAbs) : (flz x D).natAbs ≤ z := by
  obtain ⟨h1, h2⟩ := @flz_b x D hD
  generalize flz x D = q at *
  have e : ((z * D.natAbs : Nat) : Int) = (z : Int) * D := by
    rw [Int.natCast_mul]
    congr 1
    omega
  have u1 : x ≤ (z : Int) * D := by omega
  have u2 : -((z : Int) * D) ≤ x := by omega
  rcases Int.lt_or_le q 0 with y | y
  · have k : (-(z : Int) - 1) * D < q * D := by
      have : (-(z : Int) - 1) * D = -((z : Int) * D) - D := by grind
      omega
    have := Int.lt_of_mul_lt_mul_right k (Int.le_of_lt hD)
    omega
  · have k : q * D ≤ (z : Int) * D := by omega
    have := Int.le_of_mul_le_mul_right k hD
    omega
theorem yZ_le {f z : Nat} {S : Nat → Nat → Int} {h : Nat → Nat} {Y : Nat → Int} (hS : Hnf f S h) (hY : ∀ m, m < f → (Y (h m)).natAbs ≤ z * (S m (h m)).natAbs) : ∀ {n : Nat} m, n ≤ m → m < f → (yZ S h Y n (h m)).natAbs ≤ 2 ^ n * z * (S m (h m)).natAbs
  | 0, m, _, hm => by
    rw [Nat.pow_zero, Nat.one_mul]
    exact hY m hm
  | n + 1, m, hn, hm => by
    have a := yZ_le hS hY (n := n) m (by omega) hm
    have b := yZ_le hS hY (n := n) n (Nat.le_refl _) (by omega)
    have q := flz_le (hS.1 n (by omega)).2.1 b
    have r := hS.2.2 n m (by omega) hm
    show (yZ S h Y n (h m) - flz (yZ S h Y n (h n)) (S n (h n)) * S n (h m)).natAbs ≤ _
    have k : (flz (yZ S h Y n (h n)) (S n (h n)) * S n (h m)).natAbs ≤ 2 ^ n * z * (S m (h m)).natAbs := by
      rw [Int.natAbs_mul]
      exact Nat.mul_le_mul q (by omega)
    have e : 2 ^ (n + 1) * z * (S m (h m)).natAbs = 2 ^ n * z * (S m (h m)).natAbs + 2 ^ n * z * (S m (h m)).natAbs := by
      rw [Nat.pow_succ]
      grind
    rw [e]
    omega
