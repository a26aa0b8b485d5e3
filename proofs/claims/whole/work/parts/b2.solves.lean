/-! ## solves: all sets of sayings come to the one form -/
/-- saying k of the row st -/
def sy (st : Nat → Int32) (k : Nat) : Nat → Int := fun j => (st (1 + 10 * k + j)).toInt
/-- the sayings of the set m among the first k -/
def SL (st : Nat → Int32) (m : Nat) : Nat → List (Nat → Int)
  | 0 => []
  | k + 1 => if m.testBit k = true then sy st k :: SL st m k else SL st m k
theorem SL_mem {st : Nat → Int32} {m : Nat} {p : Nat → Int} : ∀ {n : Nat}, p ∈ SL st m n ↔ ∃ k, k < n ∧ m.testBit k = true ∧ p = sy st k
  | 0 => by
    constructor
    · intro h
      cases h
    · rintro ⟨k, k1, -⟩
      omega
  | n + 1 => by
    have ih := @SL_mem st m p n
    unfold SL
    by_cases z : m.testBit n = true
    · rw [if_pos z, List.mem_cons, ih]
      constructor
      · rintro (e | ⟨k, k1, k2⟩)
        · exact ⟨n, by omega, z, e⟩
        · exact ⟨k, by omega, k2⟩
      · rintro ⟨k, k1, k2, k3⟩
        by_cases y : k = n
        · rw [y] at k3
          exact Or.inl k3
        · exact Or.inr ⟨k, by omega, k2, k3⟩
    · rw [if_neg z, ih]
      constructor
      · rintro ⟨k, k1, k2⟩
        exact ⟨k, by omega, k2⟩
      · rintro ⟨k, k1, k2, k3⟩
        refine ⟨k, ?_, k2, k3⟩
        by_cases y : k = n
        · rw [y] at k2
          exact absurd k2 z
        · omega
theorem Cons_sub {L M : List (Nat → Int)} (h : ∀ p, p ∈ M → p ∈ L) (c : Cons L) : Cons M := fun b hb => by
  obtain ⟨x, hx⟩ := c b hb
  exact ⟨x, fun p hp => hx p (h p hp)⟩
/-- rows 1 at their own places -/
def uI : Nat → Nat → Int := fun i c => if c = i then 1 else 0
theorem uI_hnf : Hnf 6 uI (fun i => i) := by
  refine ⟨fun i hi => ⟨hi, ?_, fun c hc => ?_⟩, fun i k h _ => h, fun i k h _ => ?_⟩
  · show 0 < (if i = i then (1 : Int) else 0)
    rw [if_pos rfl]
    decide
  · have : c < i := hc
    exact if_neg (by omega)
  · show 0 ≤ (if k = i then (1 : Int) else 0) ∧ (if k = i then (1 : Int) else 0) < (if k = k then 1 else 0)
    rw [if_neg (by omega), if_pos rfl]
    decide
theorem Can_nil : Can [] 6 uI (fun i => i) (fun _ _ => 0) := by
  refine ⟨uI_hnf, fun v => ⟨fun _ p hp => (by cases hp), fun _ => ⟨v, fun c hc => ?_⟩⟩, fun b _ p hp => (by cases hp), fun b l _ hl => ?_, fun _ _ => 0, 0, fun _ => 0, ⟨rfl, uI_hnf, fun i r _ hr => by omega, fun c hc => Or.inl ⟨c, hc, rfl⟩, fun m hm => by omega, by decide⟩, fun r hr => by omega⟩
  · rw [ls_one (k := c) hc (fun i hi hn => by
      unfold uI
      rw [if_neg (fun q => hn q.symm), Int.mul_zero])]
    unfold uI
    rw [if_pos rfl, Int.mul_one]
  · show (0 : Int) ≤ 0 ∧ (0 : Int) < (if l = l then 1 else 0)
    rw [if_pos rfl]
    decide
theorem uI_E6 {ro : Nat → Int64} : E6 6 (r_id ro 36) uI := fun i hi j hj => by
  show (if 6 * i + j < 36 then (if (6 * i + j) % 7 = 0 then 1 else 0) else ro (6 * i + j)) = zI (if j = i then 1 else 0)
  rw [if_pos (by omega)]
  by_cases z : j = i
  · rw [if_pos (by omega), if_pos z]
    rfl
  · rw [if_neg (by omega), if_neg z]
    rfl
theorem ze_EC {c : Nat → Int64} : EC (r_ze c 24) (fun _ _ => 0) := fun b hb j hj => by
  show (if 6 * b + j < 24 then 0 else c (6 * b + j)) = zI 0
  rw [if_pos (by omega)]
  rfl
/-- sayings of small powers -/
def Sy (st : Nat → Int32) (n : Nat) : Prop := ∀ k, k < n → ∀ e, e < 10 → (st (1 + 10 * k + e)).toInt.natAbs ≤ 9
theorem Sy_sm {st : Nat → Int32} {n m k : Nat} (h : Sy st n) (hk : k ≤ n) : Sm (SL st m k) := fun p hp e he => by
  obtain ⟨i, i1, -, rfl⟩ := SL_mem.mp hp
  exact h i (by omega) e he
theorem so_all {st : Nat → Int32} {n m : Nat} (hs : Sy st n) (hc : Cons (SL st m n)) {ro ov c : Nat → Int64} : ∀ {k : Nat}, k ≤ n → ∃ (f : Nat) (ro9 ov9 c9 : Nat → Int64) (S : Nat → Nat → Int) (h : Nat → Nat) (X : Nat → Nat → Int), r_so (2 ^ 63 + 1) st m ro ov c k = some (f, ro9, ov9, c9) ∧ Can (SL st m k) f S h X ∧ E6 f ro9 S ∧ EC c9 X
  | 0, _ => ⟨6, _, _, _, uI, fun i => i, fun _ _ => 0, rfl, Can_nil, uI_E6, ze_EC⟩
  | k + 1, hk => by
    obtain ⟨f, ro9, ov9, c9, S, h, X, q1, q2, q3, q4⟩ := so_all hs hc (ro := ro) (ov := ov) (c := c) (k := k) (by omega)
    unfold r_so
    rw [q1]
    dsimp only
    unfold SL
    by_cases z : m.testBit k = true
    · rw [if_pos z, if_pos z]
      obtain ⟨is, f2, ro2, ov2, c2, a1, a2, a3⟩ := ad_all (ov := ov9) (po := st) (q := 1 + 10 * k) q2 (Sy_sm hs (by omega)) (hs k (by omega)) q3 q4
      have ok : is = true := a2.mpr (Cons_sub (fun p hp => by
        rcases List.mem_cons.mp hp with e | e
        · exact SL_mem.mpr ⟨k, by omega, z, e⟩
        · obtain ⟨i, i1, i2⟩ := SL_mem.mp e
          exact SL_mem.mpr ⟨i, by omega, i2⟩) hc)
      obtain ⟨S2, h2, Y, b1, b2, b3⟩ := a3 ok
      refine ⟨f2, ro2, ov2, c2, S2, h2, Y, ?_, b1, b2, b3⟩
      rw [a1]
    · rw [if_neg z, if_neg z]
      exact ⟨f, ro9, ov9, c9, S, h, X, rfl, q2, q3, q4⟩
/-- the numbers as the machine has them -/
def rwN (S : Nat → Nat → Int) : Nat → Int64 := fun k => zI (S (k / 6) (k % 6))
theorem rw_E6 {f : Nat} {S : Nat → Nat → Int} {ro : Nat → Int64} : (∀ k, k < 6 * f → ro k = rwN S k) ↔ E6 f ro S := by
  constructor
  · intro h i hi j hj
    rw [h _ (by omega)]
    unfold rwN
    rw [show (6 * i + j) / 6 = i by omega, show (6 * i + j) % 6 = j by omega]
  · intro h k hk
    have := h (k / 6) (by omega) (k % 6) (by omega)
    rw [show 6 * (k / 6) + k % 6 = k by omega] at this
    exact this
theorem rw_EC {X : Nat → Nat → Int} {c : Nat → Int64} : (∀ k, k < 24 → c k = rwN X k) ↔ EC c X := rw_E6 (f := 4)
/-- all sets -/
def AnsZ (st : Nat → Int32) (n : Nat) (F : Nat → Nat) (S : Nat → Nat → Nat → Int) (h : Nat → Nat → Nat) (X : Nat → Nat → Nat → Int) : Prop := ∀ m, m < 2 ^ n → Can (SL st m n) (F m) (S m) (h m) (X m)
theorem Ans_Z {st : Nat → Int32} {n : Nat} {F : Nat → Nat} {S : Nat → Nat → Nat → Int} {h : Nat → Nat → Nat} {X : Nat → Nat → Nat → Int} (hs : Sy st n) (hc : Cons (SL st (2 ^ n - 1) n)) (hA : AnsZ st n F S h X) : Ans st n F (fun m => rwN (S m)) (fun m => rwN (X m)) := fun m hm ro ov c => by
  have hm' : Cons (SL st m n) := Cons_sub (fun p hp => by
    obtain ⟨k, k1, -, k3⟩ := SL_mem.mp hp
    refine SL_mem.mpr ⟨k, k1, ?_, k3⟩
    rw [Nat.testBit_two_pow_sub_one]
    exact decide_eq_true k1) hc
  obtain ⟨f, ro9, ov9, c9, S1, h1, X1, q1, q2, q3, q4⟩ := so_all (ro := ro) (ov := ov) (c := c) hs hm' (Nat.le_refl n)
  obtain ⟨rfl, u1, u2⟩ := can_uniq (fun _ => Iff.rfl) (fun _ _ _ q => q) q2 (hA m hm)
  refine ⟨_, ro9, ov9, c9, q1, rw_E6.mpr (fun i hi j hj => ?_), rw_EC.mpr (fun b hb j hj => ?_)⟩
  · rw [q3 i hi j hj, (u1 i hi).2 j hj]
  · rw [q4 b hb j hj, u2 b j hb hj]
theorem AnsZ_ex {st : Nat → Int32} {n : Nat} (hs : Sy st n) (hc : Cons (SL st (2 ^ n - 1) n)) : ∃ (F : Nat → Nat) (S : Nat → Nat → Nat → Int) (h : Nat → Nat → Nat) (X : Nat → Nat → Nat → Int), AnsZ st n F S h X := by
  have all : ∀ m : Nat, ∃ r : Nat × (Nat → Nat → Int) × (Nat → Nat) × (Nat → Nat → Int), m < 2 ^ n → Can (SL st m n) r.1 r.2.1 r.2.2.1 r.2.2.2 := fun m => by
    have hm' : Cons (SL st m n) := Cons_sub (fun p hp => by
      obtain ⟨k, k1, -, k3⟩ := SL_mem.mp hp
      refine SL_mem.mpr ⟨k, k1, ?_, k3⟩
      rw [Nat.testBit_two_pow_sub_one]
      exact decide_eq_true k1) hc
    obtain ⟨f, -, -, -, S1, h1, X1, -, q2, -, -⟩ := so_all (ro := fun _ => 0) (ov := fun _ => 0) (c := fun _ => 0) hs hm' (Nat.le_refl n)
    exact ⟨(f, S1, h1, X1), fun _ => q2⟩
  exact ⟨fun m => (Classical.choose (all m)).1, fun m => (Classical.choose (all m)).2.1, fun m => (Classical.choose (all m)).2.2.1, fun m => (Classical.choose (all m)).2.2.2, fun m hm => Classical.choose_spec (all m) hm⟩
/-- a saying is true in all solutions -/
def Imp (L : List (Nat → Int)) (p : Nat → Int) : Prop := (∀ v, Kr L v → gn v p = 0) ∧ ∀ b, b < 4 → ∀ x, Sl L b x → gn x p + p (6 + b) = 0
theorem Imp_can {L : List (Nat → Int)} {N : Nat} {H : Nat → Nat → Int} {hH : Nat → Nat} {X : Nat → Nat → Int} {p : Nat → Int} (C : Can L N H hH X) : Imp L p ↔ (∀ i, i < N → gn (H i) p = 0) ∧ ∀ b, b < 4 → gn (X b) p + p (6 + b) = 0 := by
  obtain ⟨c1, c2, c3, c4, -⟩ := C
  constructor
  · rintro ⟨u, v⟩
    exact ⟨fun i hi => u _ ((c2 _).mp (Sp_row hi)), fun b hb => v b hb _ (c3 b hb)⟩
  · rintro ⟨u, v⟩
    refine ⟨fun w hw => Sp_gn0 u ((c2 w).mpr hw), fun b hb x hx => ?_⟩
    have d := Sp_gn0 u ((c2 _).mpr (Sl_sub hx (c3 b hb)))
    rw [gn_lin] at d
    have := v b hb
    omega
theorem tI_N {po : Nat → Int32} {q : Nat} {ro : Nat → Int64} {H : Nat → Nat → Int} : ∀ {n : Nat}, E6 n ro H → (∀ i, i < n → rg (gn (H i) (fun j => (po (q + j)).toInt))) → (tI po q ro n = true ↔ ∀ i, i < n → gn (H i) (fun j => (po (q + j)).toInt) = 0)
  | 0, _, _ => ⟨fun _ i hi => by omega, fun _ => rfl⟩
  | n + 1, h6, hr => by
    have ih := tI_N (po := po) (q := q) (n := n) (fun i hi => h6 i (by omega)) (fun i hi => hr i (by omega))
    show (tI po q ro n && (r_dot 0 po q ro (6 * n) 6 == 0)) = true ↔ _
    rw [Bool.and_eq_true, ih, dt_N (fun j hj => h6 n (by omega) j hj), gn_dt, beq_iff_eq, zI_eq0 (hr n (by omega))]
    constructor
    · rintro ⟨u, v⟩ i hi
      by_cases z : i = n
      · rw [z]
        exact v
      · exact u i (by omega)
    · intro u
      exact ⟨fun i hi => u i (by omega), u n (by omega)⟩
theorem tB_N {x : Bool} {po : Nat → Int32} {q : Nat} {c : Nat → Int64} {X : Nat → Nat → Int} (hc : EC c X) (hr : ∀ b, b < 4 → rg (gn (X b) (fun j => (po (q + j)).toInt) + (po (q + (6 + b))).toInt)) : ∀ {n : Nat}, n ≤ 4 → (tB x po q c n = true ↔ x = true ∧ ∀ b, b < n → gn (X b) (fun j => (po (q + j)).toInt) + (po (q + (6 + b))).toInt = 0)
  | 0, _ => ⟨fun h => ⟨h, fun b hb => by omega⟩, fun h => h.1⟩
  | n + 1, hn => by
    have ih := tB_N (x := x) hc hr (n := n) (by omega)
    show (tB x po q c n && (aT po q c n == 0)) = true ↔ _
    rw [Bool.and_eq_true, ih, aT_N (fun j hj => hc n (by omega) j hj), beq_iff_eq, zI_eq0 (hr n (by omega))]
    constructor
    · rintro ⟨⟨u1, u⟩, v⟩
      refine ⟨u1, fun i hi => ?_⟩
      by_cases z : i = n
      · rw [z]
        exact v
      · exact u i (by omega)
    · rintro ⟨u1, u⟩
      exact ⟨⟨u1, fun i hi => u i (by omega)⟩, u n (by omega)⟩
theorem can_rg {L : List (Nat → Int)} {N : Nat} {H : Nat → Nat → Int} {hH : Nat → Nat} {X : Nat → Nat → Int} {p : Nat → Int} (C : Can L N H hH X) (hL : Sm L) (hp : ∀ e, e < 10 → (p e).natAbs ≤ 9) : N ≤ 6 ∧ (∀ i, i < N → (∀ c, c < 6 → (H i c).natAbs < 2 ^ 32) ∧ (gn (H i) p).natAbs < 2 ^ 36) ∧ ∀ b, b < 4 → (∀ c, c < 6 → (X b c).natAbs < 2 ^ 32) ∧ (gn (X b) p + p (6 + b)).natAbs < 2 ^ 36 := by
  obtain ⟨b1, -, b3, b4⟩ := can_bd C hL hp
  have oG := @Om_le (6 - N) (by omega)
  have oG7 : Om (7 - N) < 2 ^ 36 := by
    have : N = 0 ∨ 7 - N ≤ 6 := by omega
    rcases this with e | e
    · subst e
      decide
    · have := (Om_le e).2
      omega
  refine ⟨b1, fun i hi => ⟨fun c hc => ?_, ?_⟩, fun b hb => ⟨fun c hc => ?_, ?_⟩⟩
  · have := (b3 i hi).1 c hc
    omega
  · have := (b3 i hi).2
    omega
  · have := (b4 b hb).1 c hc
    omega
  · have := (b4 b hb).2
    omega
/-- isTrue -/
theorem tr_N {L : List (Nat → Int)} {N q : Nat} {H : Nat → Nat → Int} {hH : Nat → Nat} {X : Nat → Nat → Int} {po : Nat → Int32} {ro c : Nat → Int64} (C : Can L N H hH X) (hL : Sm L) (hp : ∀ e, e < 10 → (po (q + e)).toInt.natAbs ≤ 9) (h6 : E6 N ro H) (hc : EC c X) : r_tr N po q ro c = true ↔ Imp L (fun j => (po (q + j)).toInt) := by
  obtain ⟨-, b3, b4⟩ := can_rg (p := fun j => (po (q + j)).toInt) C hL hp
  unfold r_tr
  rw [tB_N hc (fun b hb => by
    have := (b4 b hb).2
    unfold rg
    omega) (Nat.le_refl _), tI_N h6 (fun i hi => by
    have := (b3 i hi).2
    unfold rg
    omega), Imp_can C]
/-- isSure -/
theorem su_N {ro : Nat → Int64} {H : Nat → Nat → Int} {j : Nat} (hj : j < 6) : ∀ {n : Nat}, E6 n ro H → (∀ i, i < n → rg (H i j)) → (r_su ro j n = true ↔ ∀ i, i < n → H i j = 0)
  | 0, _, _ => ⟨fun _ i hi => by omega, fun _ => rfl⟩
  | n + 1, h6, hr => by
    have ih := su_N hj (n := n) (fun i hi => h6 i (by omega)) (fun i hi => hr i (by omega))
    show (r_su ro j n && (ro (6 * n + j) == 0)) = true ↔ _
    rw [Bool.and_eq_true, ih, h6 n (by omega) j hj, beq_iff_eq, zI_eq0 (hr n (by omega))]
    constructor
    · rintro ⟨u, v⟩ i hi
      by_cases z : i = n
      · rw [z]
        exact v
      · exact u i (by omega)
    · intro u
      exact ⟨fun i hi => u i (by omega), u n (by omega)⟩
/-- mayBe -/
theorem May_N {st : Nat → Int32} {n : Nat} {F : Nat → Nat} {S : Nat → Nat → Nat → Int} {h : Nat → Nat → Nat} {X : Nat → Nat → Nat → Int} {po : Nat → Int32} (hs : Sy st n) (hp : ∀ e, e < 10 → (po (0 + e)).toInt.natAbs ≤ 9) (hA : AnsZ st n F S h X) {res : Bool} (hr : res = true ↔ Cons ((fun j => (po (0 + j)).toInt) :: SL st (2 ^ n - 1) n)) : May n F (fun m => rwN (S m)) (fun m => rwN (X m)) po res := fun ro ov c h1 h2 => by
  have := pw_pos n
  obtain ⟨is, f2, ro2, ov2, c2, a1, a2, -⟩ := ad_all (ov := ov) (hA (2 ^ n - 1) (by omega)) (Sy_sm hs (Nat.le_refl _)) hp (rw_E6.mp h1) (rw_EC.mp h2)
  have e : is = res := by
    rw [Bool.eq_iff_iff, a2, hr]
  rw [e] at a1
  exact ⟨_, f2, ro2, ov2, c2, a1⟩
