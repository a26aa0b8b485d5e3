/-! ## Rows in the one order of what the sayings leave: how great -/
/-- N rows H for k sayings A: their heads, the other columns nh -/
def Cn (A : Nat → Nat → Int) (k N : Nat) (H : Nat → Nat → Int) (hH nh : Nat → Nat) : Prop := N + k = 6 ∧ Hnf N H hH ∧ (∀ i r, i < N → r < k → sm (fun e => H i e * A r e) 6 = 0) ∧ (∀ c, c < 6 → (∃ l, l < N ∧ hH l = c) ∨ ∃ m, m < k ∧ nh m = c) ∧ (∀ m, m < k → nh m < 6 ∧ ∀ l, l < N → nh m ≠ hH l) ∧ hpr H hH N ≤ (mi A k nh).natAbs
theorem sm_hd {N : Nat} {H : Nat → Nat → Int} {hH : Nat → Nat} {F : Nat → Int} (hh : Hnf N H hH) (hF : ∀ c, c < 6 → (∀ l, l < N → hH l ≠ c) → F c = 0) : sm F 6 = sm (fun l => F (hH l)) N := by
  have key : ∀ j, j ≤ 6 → ∃ p, p ≤ N ∧ (∀ b, b < N → (hH b < j ↔ b < p)) ∧ sm F j = sm (fun l => F (hH l)) p := by
    intro j
    induction j with
    | zero => exact fun _ => ⟨0, Nat.zero_le _, fun b _ => by omega, rfl⟩
    | succ j ih =>
      intro hj
      obtain ⟨p, p1, p2, p3⟩ := ih (by omega)
      rcases hd_next hh p2 p1 with ⟨n1, n2, n3, -⟩ | ⟨n2, n3⟩
      · refine ⟨p + 1, n1, n3, ?_⟩
        show sm F j + F j = sm (fun l => F (hH l)) p + F (hH p)
        rw [p3, n2]
      · refine ⟨p, p1, n3, ?_⟩
        show sm F j + F j = _
        rw [p3, hF j (by omega) n2, Int.add_zero]
  obtain ⟨p, p1, p2, p3⟩ := key 6 (Nat.le_refl _)
  rw [p3]
  rcases Nat.eq_or_lt_of_le p1 with e | e
  · rw [e]
  · have := (p2 p e).mp (hh.1 p e).1
    omega
theorem sm_sn {x y : Nat → Int} {M : Nat} : ∀ {n : Nat}, (∀ l, l < n → (y l).natAbs ≤ M) → (sm (fun l => x l * y l) n).natAbs ≤ sn x n * M
  | 0, _ => Nat.zero_le _
  | n + 1, h => by
    have a := sm_sn (x := x) (n := n) (fun l hl => h l (by omega))
    have b : (x n * y n).natAbs ≤ (x n).natAbs * M := by
      rw [Int.natAbs_mul]
      exact Nat.mul_le_mul_left _ (h n (by omega))
    show (sm (fun l => x l * y l) n + x n * y n).natAbs ≤ (sn x n + (x n).natAbs) * M
    rw [Nat.add_mul]
    omega
theorem na_pd {a d y : Nat} (ha : 1 ≤ a) (h : y + 1 ≤ d) : a + y ≤ a * d := by
  obtain ⟨u, rfl⟩ : ∃ u, d = u + 1 := ⟨d - 1, by omega⟩
  have := Nat.le_mul_of_pos_left u ha
  rw [Nat.mul_add, Nat.mul_one]
  omega
/-- parts below the heads: together below the product -/
theorem sn_p1 {N : Nat} {H : Nat → Nat → Int} {hH : Nat → Nat} {y : Nat → Int} (hh : Hnf N H hH) : ∀ {n : Nat}, n ≤ N → (∀ l, l < n → (y l).natAbs + 1 ≤ (H l (hH l)).natAbs) → sn y n + 1 ≤ hpr H hH n
  | 0, _, _ => Nat.le_refl _
  | n + 1, hn, h => by
    have a := sn_p1 hh (n := n) (by omega) (fun l hl => h l (by omega))
    have b := na_pd (hpr_1 hh (show n ≤ N by omega)) (h n (by omega))
    show sn y n + (y n).natAbs + 1 ≤ hpr H hH n * (H n (hH n)).natAbs
    omega
theorem sn_p2 {N i : Nat} {H : Nat → Nat → Int} {hH : Nat → Nat} {y : Nat → Int} (hh : Hnf N H hH) (h0 : ∀ l, l < i → y l = 0) (hi : (y i).natAbs ≤ (H i (hH i)).natAbs) : ∀ {n : Nat}, n ≤ N → (∀ l, i < l → l < n → (y l).natAbs + 1 ≤ (H l (hH l)).natAbs) → sn y n ≤ hpr H hH n
  | 0, _, _ => Nat.zero_le _
  | n + 1, hn, h => by
    have p1 := hpr_1 hh (show n ≤ N by omega)
    show sn y n + (y n).natAbs ≤ hpr H hH n * (H n (hH n)).natAbs
    rcases Nat.lt_trichotomy n i with z | z | z
    · rw [sn_0 (fun b hb => h0 b (by omega)), h0 n z]
      exact Nat.zero_le _
    · subst z
      rw [sn_0 (fun b hb => h0 b hb), Nat.zero_add]
      exact Nat.le_trans hi (Nat.le_mul_of_pos_left _ p1)
    · have a := sn_p2 hh h0 hi (n := n) (by omega) (fun l h1 h2 => h l h1 (by omega))
      have b := na_pd p1 (h n z (by omega))
      omega
theorem cn_at {A : Nat → Nat → Int} {k N : Nat} {H : Nat → Nat → Int} {hH nh : Nat → Nat} {x : Nat → Int} {m : Nat} (C : Cn A k N H hH nh) (hx : ∀ r, r < k → sm (fun e => x e * A r e) 7 = 0) (hm : m < k) : x (nh m) * mi A k nh + (sm (fun l => x (hH l) * mi A k (rp m (hH l) nh)) N + x 6 * mi A k (rp m 6 nh)) = 0 := by
  obtain ⟨c1, c2, c3, c4, c5, c6⟩ := C
  have e := mi_ker (c := nh) hx hm
  have e0 : sm (fun e => x e * mi A k (rp m e nh)) 6 + x 6 * mi A k (rp m 6 nh) = 0 := e
  rw [sm_out (c5 m hm).1] at e0
  have e1 : rp m (nh m) nh = nh := by
    funext u
    grind [rp]
  rw [e1, sm_hd c2 (fun c hc hl => by
    try dsimp only
    by_cases z : c = nh m
    · rw [if_pos z]
    · rw [if_neg z]
      rcases c4 c hc with ⟨l, l1, l2⟩ | ⟨u, u1, u2⟩
      · exact absurd l2 (hl l l1)
      · have un : u ≠ m := fun q => z (by rw [← u2, q])
        rw [mi_rep (a := u) (b := m) u1 hm un (by grind [rp]), Int.mul_zero])] at e0
  rw [sm_cg (F := fun l => if hH l = nh m then 0 else x (hH l) * mi A k (rp m (hH l) nh)) (G := fun l => x (hH l) * mi A k (rp m (hH l) nh)) (fun l hl => if_neg (fun q => (c5 m hm).2 l hl q.symm))] at e0
  omega
theorem cn_gain {A : Nat → Nat → Int} {k N : Nat} {H : Nat → Nat → Int} {hH nh : Nat → Nat} {x : Nat → Int} (C : Cn A k N H hH nh) (hx : ∀ r, r < k → sm (fun e => x e * A r e) 7 = 0) : sm (fun e => x e * A k e) 7 * mi A k nh = sm (fun l => x (hH l) * mi A (k + 1) (co (hH l) nh)) N + x 6 * mi A (k + 1) (co 6 nh) := by
  obtain ⟨c1, c2, c3, c4, c5, c6⟩ := C
  rw [← mi_co (c := nh) hx]
  show sm (fun e => x e * mi A (k + 1) (co e nh)) 6 + x 6 * mi A (k + 1) (co 6 nh) = _
  rw [sm_hd c2 (fun c hc hl => by
    rcases c4 c hc with ⟨l, l1, l2⟩ | ⟨u, u1, u2⟩
    · exact absurd l2 (hl l l1)
    · rw [mi_rep (a := 0) (b := u + 1) (by omega) (by omega) (by omega) (by grind [co]), Int.mul_zero])]
theorem cn_le {A : Nat → Nat → Int} {k N : Nat} {H : Nat → Nat → Int} {hH nh : Nat → Nat} {x : Nat → Int} (C : Cn A k N H hH nh) (hA : ∀ r c, r < k + 1 → c < 7 → (A r c).natAbs ≤ 9) (hx : ∀ r, r < k → sm (fun e => x e * A r e) 7 = 0) (hs : sn (fun l => x (hH l)) N + (x 6).natAbs ≤ hpr H hH N) : (∀ m, m < k → (x (nh m)).natAbs ≤ Om k) ∧ (sm (fun e => x e * A k e) 7).natAbs ≤ Om (k + 1) := by
  have C0 := C
  obtain ⟨c1, c2, c3, c4, c5, c6⟩ := C
  have p1 := hpr_1 c2 (Nat.le_refl N)
  have h6 : ∀ l, l < N → hH l < 7 := fun l hl => by
    have := (c2.1 l hl).1
    omega
  constructor
  · intro m hm
    have bd : ∀ e, e < 7 → (mi A k (rp m e nh)).natAbs ≤ Om k := fun e he => mi_le (fun r i hr hi => hA r _ (by omega) (by
      unfold rp
      split
      · exact he
      · have := (c5 i hi).1
        omega))
    have e := cn_at C0 hx hm
    have e1 := sm_sn (x := fun l => x (hH l)) (y := fun l => mi A k (rp m (hH l) nh)) (n := N) (fun l hl => bd _ (h6 l hl))
    have e2 : (x 6 * mi A k (rp m 6 nh)).natAbs ≤ (x 6).natAbs * Om k := by
      rw [Int.natAbs_mul]
      exact Nat.mul_le_mul_left _ (bd 6 (by omega))
    have e3 := Nat.mul_le_mul_right (Om k) (Nat.le_trans hs c6)
    rw [Nat.add_mul] at e3
    have e4 : (x (nh m) * mi A k nh).natAbs ≤ (mi A k nh).natAbs * Om k := by
      try dsimp only at e1
      omega
    rw [Int.natAbs_mul, Nat.mul_comm] at e4
    exact Nat.le_of_mul_le_mul_left e4 (by omega)
  · have bd : ∀ e, e < 7 → (mi A (k + 1) (co e nh)).natAbs ≤ Om (k + 1) := fun e he => mi_le (fun r i hr hi => hA r _ hr (by
      unfold co
      split
      · exact he
      · have := (c5 (i - 1) (by omega)).1
        omega))
    have e := cn_gain C0 hx
    have e1 := sm_sn (x := fun l => x (hH l)) (y := fun l => mi A (k + 1) (co (hH l) nh)) (n := N) (fun l hl => bd _ (h6 l hl))
    have e2 : (x 6 * mi A (k + 1) (co 6 nh)).natAbs ≤ (x 6).natAbs * Om (k + 1) := by
      rw [Int.natAbs_mul]
      exact Nat.mul_le_mul_left _ (bd 6 (by omega))
    have e3 := Nat.mul_le_mul_right (Om (k + 1)) (Nat.le_trans hs c6)
    rw [Nat.add_mul] at e3
    have e4 : (sm (fun e => x e * A k e) 7 * mi A k nh).natAbs ≤ (mi A k nh).natAbs * Om (k + 1) := by
      rw [e]
      try dsimp only at e1
      omega
    rw [Int.natAbs_mul, Nat.mul_comm] at e4
    exact Nat.le_of_mul_le_mul_left e4 (by omega)
theorem cn_W {A : Nat → Nat → Int} {k N : Nat} {H : Nat → Nat → Int} {hH nh : Nat → Nat} (C : Cn A k N H hH nh) (hA : ∀ r c, r < k → c < 6 → (A r c).natAbs ≤ 9) : hpr H hH N ≤ Om k := Nat.le_trans C.2.2.2.2.2 (mi_le (fun r i hr hi => hA r _ hr (C.2.2.2.2.1 i hi).1))
theorem hpr_at {N : Nat} {H : Nat → Nat → Int} {hH : Nat → Nat} (hh : Hnf N H hH) {l : Nat} (hl : l < N) : (H l (hH l)).natAbs ≤ hpr H hH N := by
  have a := hpr_1 hh (show l ≤ N by omega)
  exact Nat.le_trans (Nat.le_mul_of_pos_left _ a) (hpr_le hh (n := l + 1) (k := N - (l + 1)) (by omega))
/-- a row: its numbers, its gain -/
theorem cn_row {A : Nat → Nat → Int} {k N i : Nat} {H : Nat → Nat → Int} {hH nh : Nat → Nat} (C : Cn A k N H hH nh) (hA : ∀ r c, r < k + 1 → c < 7 → (A r c).natAbs ≤ 9) (hi : i < N) : (∀ c, c < 6 → (H i c).natAbs ≤ Om k) ∧ (sm (fun e => H i e * A k e) 6).natAbs ≤ Om (k + 1) := by
  have C0 := C
  obtain ⟨c1, c2, c3, c4, c5, c6⟩ := C
  have e6 : ∀ r, sm (fun e => (if e < 6 then H i e else 0) * A r e) 7 = sm (fun e => H i e * A r e) 6 := fun r => by
    show sm (fun e => (if e < 6 then H i e else 0) * A r e) 6 + (if (6 : Nat) < 6 then H i 6 else 0) * A r 6 = _
    rw [if_neg (by omega), Int.zero_mul, Int.add_zero]
    exact sm_cg (fun e he => by rw [if_pos he])
  have hW := cn_W C0 (fun r c hr hc => hA r c (by omega) (by omega))
  have hl6 : ∀ l, l < N → (if hH l < 6 then H i (hH l) else 0) = H i (hH l) := fun l hl => if_pos (c2.1 l hl).1
  have red : ∀ l, i < l → l < N → (H i (hH l)).natAbs + 1 ≤ (H l (hH l)).natAbs := fun l h1 h2 => by
    have := c2.2.2 i l h1 h2
    omega
  have s1 : sn (fun l => if hH l < 6 then H i (hH l) else 0) N ≤ hpr H hH N := by
    rw [sn_cg (y := fun l => H i (hH l)) (fun l hl => hl6 l hl)]
    exact sn_p2 (i := i) c2 (fun l hl => (c2.1 i hi).2.2 _ (c2.2.1 l i hl hi)) (Nat.le_refl _) (Nat.le_refl _) red
  have key := cn_le (x := fun e => if e < 6 then H i e else 0) C0 hA (fun r hr => by rw [e6]; exact c3 i r hi hr) (by
    try dsimp only
    rw [if_neg (show ¬ 6 < 6 by omega)]
    exact s1)
  rw [e6] at key
  refine ⟨fun c hc => ?_, key.2⟩
  rcases c4 c hc with ⟨l, l1, l2⟩ | ⟨m, m1, m2⟩
  · rw [← l2]
    have := hpr_at c2 l1
    rcases Nat.lt_trichotomy l i with z | z | z
    · rw [(c2.1 i hi).2.2 _ (c2.2.1 l i z hi)]
      exact Nat.zero_le _
    · subst z
      omega
    · have := red l z l1
      omega
  · have := key.1 m m1
    try dsimp only at this
    rw [m2, if_pos hc] at this
    exact this
/-- the least solution of one base (column 6): its numbers, its rest -/
theorem cn_vec {A : Nat → Nat → Int} {k N : Nat} {H : Nat → Nat → Int} {hH nh : Nat → Nat} {x : Nat → Int} (C : Cn A k N H hH nh) (hA : ∀ r c, r < k + 1 → c < 7 → (A r c).natAbs ≤ 9) (hx : ∀ r, r < k → sm (fun e => x e * A r e) 7 = 0) (h6 : x 6 = 1) (hr : ∀ l, l < N → 0 ≤ x (hH l) ∧ x (hH l) < H l (hH l)) : (∀ c, c < 6 → (x c).natAbs ≤ Om k) ∧ (sm (fun e => x e * A k e) 7).natAbs ≤ Om (k + 1) := by
  have C0 := C
  obtain ⟨c1, c2, c3, c4, c5, c6⟩ := C
  have hW := cn_W C0 (fun r c hr hc => hA r c (by omega) (by omega))
  have key := cn_le C0 hA hx (by
    rw [h6]
    exact sn_p1 (y := fun l => x (hH l)) c2 (Nat.le_refl _) (fun l hl => by
      have := hr l hl
      try dsimp only
      omega))
  refine ⟨fun c hc => ?_, key.2⟩
  rcases c4 c hc with ⟨l, l1, l2⟩ | ⟨m, m1, m2⟩
  · rw [← l2]
    have := hpr_at c2 l1
    have := hr l l1
    omega
  · have := key.1 m m1
    rw [m2] at this
    exact this
