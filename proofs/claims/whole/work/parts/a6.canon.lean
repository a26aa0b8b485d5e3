/-! ## A saying more: the rows in their one order stay so great -/
theorem bez (a b : Nat) : ∃ x y : Int, x * (a : Int) + y * (b : Int) = ((Nat.gcd a b : Nat) : Int) := by
  induction a, b using Nat.gcd.induction with
  | H0 b => exact ⟨0, 1, by rw [Nat.gcd_zero_left]; omega⟩
  | H1 a b ha ih =>
    obtain ⟨x, y, h⟩ := ih
    refine ⟨y - x * ((b / a : Nat) : Int), x, ?_⟩
    rw [Nat.gcd_rec, ← h]
    have e : ((b % a : Nat) : Int) = (b : Int) - (a : Int) * ((b / a : Nat) : Int) := by
      have := Nat.mod_add_div b a
      have h2 : ((b % a : Nat) : Int) + (a : Int) * ((b / a : Nat) : Int) = (b : Int) := by exact_mod_cast this
      omega
    rw [e]
    grind
theorem ls_sm {t : Nat → Int} {R : Nat → Nat → Int} {c : Nat} : ∀ {n : Nat}, ls t R n c = sm (fun b => t b * R b c) n
  | 0 => rfl
  | n + 1 => by
    show ls t R n c + t n * R n c = sm (fun b => t b * R b c) n + t n * R n c
    rw [ls_sm]
theorem ls_gain {t a : Nat → Int} {R : Nat → Nat → Int} {n m : Nat} : sm (fun e => ls t R n e * a e) m = sm (fun b => t b * sm (fun e => R b e * a e) m) n := by
  have e1 : ∀ e, ls t R n e * a e = sm (fun b => t b * R b e * a e) n := fun e => by
    rw [ls_sm, Int.mul_comm, ← sm_mul]
    exact sm_cg (fun b _ => by rw [Int.mul_comm])
  rw [sm_cg (fun e _ => e1 e), sm_swap (F := fun e b => t b * R b e * a e)]
  exact sm_cg (fun b _ => by
    rw [← sm_mul]
    exact sm_cg (fun e _ => by rw [Int.mul_assoc]))
theorem last_nz {g : Nat → Int} : ∀ {N : Nat}, (∃ b, b < N ∧ g b ≠ 0) → ∃ c, c < N ∧ g c ≠ 0 ∧ ∀ b, c < b → b < N → g b = 0
  | 0, ⟨b, h, _⟩ => by omega
  | N + 1, ⟨b, h, hb⟩ => by
    by_cases z : g N = 0
    · obtain ⟨c, c1, c2, c3⟩ := last_nz (g := g) (N := N) ⟨b, by
        rcases Nat.lt_or_ge b N with y | y
        · exact y
        · exact absurd (by rw [show b = N by omega]; exact z) hb, hb⟩
      refine ⟨c, by omega, c2, fun e e1 e2 => ?_⟩
      by_cases y : e = N
      · rw [y]
        exact z
      · exact c3 e e1 (by omega)
    · exact ⟨N, by omega, z, fun e e1 e2 => by omega⟩
/-- gcd of the gains from cs - n up to cs -/
def gq (g : Nat → Int) (cs : Nat) : Nat → Nat
  | 0 => (g cs).natAbs
  | n + 1 => Nat.gcd (g (cs - (n + 1))).natAbs (gq g cs n)
theorem gq_1 {g : Nat → Int} {cs : Nat} (h : g cs ≠ 0) : ∀ {n : Nat}, 0 < gq g cs n
  | 0 => by
    show 0 < (g cs).natAbs
    omega
  | n + 1 => Nat.gcd_pos_of_pos_right _ (gq_1 h)
theorem sm_ee {g : Nat → Int} {a : Nat} {x : Int} {n : Nat} (h : a < n) : sm (fun b => (if b = a then x else 0) * g b) n = x * g a := by
  rw [sm_out h, if_pos rfl, sm_0 (fun b _ => by
    by_cases z : b = a
    · rw [if_pos z]
    · rw [if_neg z, if_neg z, Int.zero_mul]), Int.add_zero]
theorem sg_abs (x : Int) : ∃ s : Int, s * x = (x.natAbs : Int) ∧ s * (x.natAbs : Int) = x := by
  rcases Int.lt_or_le x 0 with z | z
  · exact ⟨-1, by omega, by omega⟩
  · exact ⟨1, by omega, by omega⟩
theorem gq_u {g : Nat → Int} {cs N : Nat} (hc : cs < N) : ∀ {n : Nat}, n ≤ cs → ∃ u : Nat → Int, (∀ b, b < cs - n → u b = 0) ∧ sm (fun b => u b * g b) N = (gq g cs n : Int)
  | 0, _ => by
    obtain ⟨s, s1, -⟩ := sg_abs (g cs)
    refine ⟨fun b => if b = cs then s else 0, fun b hb => if_neg (by omega), ?_⟩
    rw [sm_ee hc, s1]
    rfl
  | n + 1, hn => by
    obtain ⟨u, u1, u2⟩ := gq_u hc (n := n) (by omega)
    obtain ⟨x, y, h⟩ := bez (g (cs - (n + 1))).natAbs (gq g cs n)
    obtain ⟨s, s1, -⟩ := sg_abs (g (cs - (n + 1)))
    refine ⟨fun b => (if b = cs - (n + 1) then x * s else 0) + y * u b, fun b hb => by dsimp only; rw [if_neg (by omega), u1 b (by omega), Int.mul_zero]; rfl, ?_⟩
    have e : ∀ b, ((if b = cs - (n + 1) then x * s else 0) + y * u b) * g b = (if b = cs - (n + 1) then x * s else 0) * g b + y * (u b * g b) := fun b => by grind
    rw [sm_cg (fun b _ => e b), sm_add, sm_ee (by omega), sm_mul, u2]
    show _ = ((Nat.gcd (g (cs - (n + 1))).natAbs (gq g cs n) : Nat) : Int)
    rw [← h, ← s1]
    grind
/-- a row of the old ones that gains nothing, with head l: how often it has row l -/
theorem gq_t {g : Nat → Int} {cs N n : Nat} (hc : cs < N) (hg : g cs ≠ 0) (hn : n < cs) : ∃ t : Nat → Int, (∀ b, b < cs - (n + 1) → t b = 0) ∧ sm (fun b => t b * g b) N = 0 ∧ 0 < t (cs - (n + 1)) ∧ (t (cs - (n + 1))).natAbs * gq g cs (n + 1) = gq g cs n := by
  obtain ⟨u, u1, u2⟩ := gq_u (g := g) hc (n := n) (by omega)
  have p1 := gq_1 hg (n := n)
  have p2 := gq_1 hg (n := n + 1)
  have d1 : gq g cs (n + 1) ∣ (g (cs - (n + 1))).natAbs := Nat.gcd_dvd_left _ _
  have d2 : gq g cs (n + 1) ∣ gq g cs n := Nat.gcd_dvd_right _ _
  obtain ⟨a, ha⟩ := d1
  obtain ⟨b, hb⟩ := d2
  obtain ⟨s, -, s2⟩ := sg_abs (g (cs - (n + 1)))
  have hb0 : 0 < b := by
    rcases Nat.eq_zero_or_pos b with z | z
    · rw [z, Nat.mul_zero] at hb
      omega
    · exact z
  refine ⟨fun e => (if e = cs - (n + 1) then (b : Int) else 0) + -(s * (a : Int)) * u e, fun e he => by dsimp only; rw [if_neg (by omega), u1 e (by omega), Int.mul_zero]; rfl, ?_, ?_, ?_⟩
  · have e : ∀ e, ((if e = cs - (n + 1) then (b : Int) else 0) + -(s * (a : Int)) * u e) * g e = (if e = cs - (n + 1) then (b : Int) else 0) * g e + -(s * (a : Int)) * (u e * g e) := fun e => by grind
    rw [sm_cg (fun i _ => e i), sm_add, sm_ee (by omega), sm_mul, u2, hb]
    have e2 : g (cs - (n + 1)) = s * ((gq g cs (n + 1) * a : Nat) : Int) := by rw [← ha, s2]
    rw [e2, Int.natCast_mul, Int.natCast_mul]
    grind
  · dsimp only
    rw [if_pos rfl, u1 _ (by omega), Int.mul_zero, Int.add_zero]
    omega
  · dsimp only
    rw [if_pos rfl, u1 _ (by omega), Int.mul_zero, Int.add_zero, Int.natAbs_natCast, hb, Nat.mul_comm]
/-- places of the heads that stay -/
def io (cs i : Nat) : Nat := if i < cs then i else i + 1
theorem io_eq {a b : Nat → Nat} {f cs : Nat} (ia : ∀ i k, i < k → k < f → a i < a k) (ib : ∀ i k, i < k → k < f + 1 → b i < b k) (P1 : ∀ i, i < f → ∃ l, l < f + 1 ∧ l ≠ cs ∧ a i = b l) (P2 : ∀ l, l < f + 1 → l ≠ cs → ∃ i, i < f ∧ a i = b l) : ∀ n i, i < n → i < f → a i = b (io cs i)
  | 0, i, h, _ => by omega
  | n + 1, i, h, hi => by
    obtain ⟨l, l1, l2, l3⟩ := P1 i hi
    have o1 : io cs i < f + 1 ∧ io cs i ≠ cs := by
      unfold io
      split <;> omega
    obtain ⟨i2, j1, j2⟩ := P2 (io cs i) o1.1 o1.2
    have inj : ∀ x y, x < f + 1 → y < f + 1 → b x = b y → x = y := fun x y hx hy e => by
      rcases Nat.lt_trichotomy x y with z | z | z
      · have := ib x y z hy
        omega
      · exact z
      · have := ib y x z hx
        omega
    rcases Nat.lt_trichotomy l (io cs i) with z | z | z
    · exfalso
      obtain ⟨i3, k1, k2⟩ : ∃ i3, i3 < i ∧ io cs i3 = l := by
        unfold io at z
        by_cases y : l < cs
        · refine ⟨l, ?_, if_pos y⟩
          split at z <;> omega
        · refine ⟨l - 1, ?_, ?_⟩
          · split at z <;> omega
          · unfold io
            rw [if_neg (by omega)]
            omega
      have := io_eq ia ib P1 P2 n i3 (by omega) (by omega)
      have := ia i3 i k1 hi
      rw [k2] at *
      omega
    · rw [l3, z]
    · exfalso
      have lt : i2 < i := by
        have q1 := ib _ _ z l1
        rcases Nat.lt_trichotomy i2 i with y | y | y
        · exact y
        · subst y
          omega
        · have := ia i i2 y j1
          omega
      have e := io_eq ia ib P1 P2 n i2 (by omega) j1
      have o2 : io cs i2 < f + 1 := by
        unfold io
        split <;> omega
      have := inj _ _ o2 o1.1 (by omega)
      unfold io at this
      split at this <;> split at this <;> omega
/-- minors of the new saying: nothing behind the last gain -/
theorem cn_mu {A : Nat → Nat → Int} {k N cs : Nat} {H : Nat → Nat → Int} {hH nh : Nat → Nat} (C : Cn A k N H hH nh) (hc : cs < N) (hz : ∀ b, cs < b → b < N → sm (fun e => H b e * A k e) 6 = 0) : (∀ n l, l + n = N → cs < l → ∀ m, l ≤ m → m < N → mi A (k + 1) (co (hH m) nh) = 0) ∧ sm (fun e => H cs e * A k e) 6 * mi A k nh = H cs (hH cs) * mi A (k + 1) (co (hH cs) nh) := by
  have C0 := C
  obtain ⟨c1, c2, c3, c4, c5, c6⟩ := C
  have e6 : ∀ i r, sm (fun e => (if e < 6 then H i e else 0) * A r e) 7 = sm (fun e => H i e * A r e) 6 := fun i r => by
    show sm (fun e => (if e < 6 then H i e else 0) * A r e) 6 + (if (6 : Nat) < 6 then H i 6 else 0) * A r 6 = _
    rw [if_neg (by omega), Int.zero_mul, Int.add_zero]
    exact sm_cg (fun e he => by rw [if_pos he])
  have key : ∀ i, i < N → sm (fun e => H i e * A k e) 6 * mi A k nh = sm (fun l => H i (hH l) * mi A (k + 1) (co (hH l) nh)) N := fun i hi => by
    have := cn_gain (x := fun e => if e < 6 then H i e else 0) C0 (fun r hr => by rw [e6]; exact c3 i r hi hr)
    rw [e6] at this
    rw [this, if_neg (by omega), Int.zero_mul, Int.add_zero]
    exact sm_cg (fun l hl => by rw [if_pos (c2.1 l hl).1])
  have one : ∀ i, i < N → (∀ m, i < m → m < N → mi A (k + 1) (co (hH m) nh) = 0) → sm (fun e => H i e * A k e) 6 * mi A k nh = H i (hH i) * mi A (k + 1) (co (hH i) nh) := fun i hi hm => by
    rw [key i hi, sm_out hi, sm_0 (fun l hl => ?_), Int.add_zero]
    try dsimp only
    by_cases z : l = i
    · rw [if_pos z]
    · rw [if_neg z]
      rcases Nat.lt_or_ge l i with y | y
      · rw [(c2.1 i hi).2.2 _ (c2.2.1 l i y hi), Int.zero_mul]
      · rw [hm l (by omega) hl, Int.mul_zero]
  have all : ∀ n l, l + n = N → cs < l → ∀ m, l ≤ m → m < N → mi A (k + 1) (co (hH m) nh) = 0 := by
    intro n
    induction n with
    | zero => intro l h1 h2 m m1 m2; omega
    | succ n ih =>
      intro l h1 h2 m m1 m2
      have ih' := ih (l + 1) (by omega) (by omega)
      rcases Nat.eq_or_lt_of_le m1 with e | e
      · subst e
        have := one l m2 (fun m h3 h4 => ih' m h3 h4)
        rw [hz l h2 m2, Int.zero_mul] at this
        rcases Int.mul_eq_zero.mp this.symm with y | y
        · have := (c2.1 l m2).2.1
          omega
        · exact y
      · exact ih' m e m2
  exact ⟨all, one cs hc (fun m h1 h2 => all (N - (cs + 1)) (cs + 1) (by omega) (by omega) m h1 h2)⟩
theorem cn_step {A : Nat → Nat → Int} {k f : Nat} {H S : Nat → Nat → Int} {hH h nh : Nat → Nat} (C : Cn A k (f + 1) H hH nh) (hg : ∃ b, b < f + 1 ∧ sm (fun e => H b e * A k e) 6 ≠ 0) (hS : Hnf f S h) (s1 : ∀ i, i < f → Sp (f + 1) H (S i) ∧ sm (fun e => S i e * A k e) 6 = 0) (s2 : ∀ v, Sp (f + 1) H v → sm (fun e => v e * A k e) 6 = 0 → Sp f S v) : ∃ nh1, Cn A (k + 1) f S h nh1 := by
  obtain ⟨cs, hc, g0, gz⟩ := last_nz (g := fun b => sm (fun e => H b e * A k e) 6) hg
  try dsimp only at g0 gz
  have mu := (cn_mu C hc gz).2
  obtain ⟨c1, c2, c3, c4, c5, c6⟩ := C
  -- rows of the old ones with head l that gain nothing
  have lead : ∀ (l : Nat) (t : Nat → Int), l < f + 1 → (∀ b, b < l → t b = 0) → sm (fun b => t b * sm (fun e => H b e * A k e) 6) (f + 1) = 0 → 0 < t l → ∃ i, i < f ∧ h i = hH l ∧ (S i (h i)).natAbs ≤ (t l).natAbs * (H l (hH l)).natAbs := by
    intro l t hl t0 tg tp
    have vl : ls t H (f + 1) (hH l) = t l * H l (hH l) := ls_one hl (fun i hi hn => by
      rcases Nat.lt_or_ge i l with z | z
      · rw [t0 i z, Int.zero_mul]
      · rw [(c2.1 i hi).2.2 _ (c2.2.1 l i (by omega) hi), Int.mul_zero])
    have vz : ∀ c, c < hH l → ls t H (f + 1) c = 0 := fun c hcl => ls_z (fun i hi => by
      rcases Nat.lt_or_ge i l with z | z
      · rw [t0 i z, Int.zero_mul]
      · have : hH l ≤ hH i := by
          rcases Nat.eq_or_lt_of_le z with e | e
          · rw [e]
            exact Nat.le_refl _
          · exact Nat.le_of_lt (c2.2.1 l i e hi)
        rw [(c2.1 i hi).2.2 c (by omega), Int.mul_zero])
    have hp := (c2.1 l hl).2.1
    have vp : ls t H (f + 1) (hH l) ≠ 0 := by
      rw [vl]
      have := Int.mul_pos tp hp
      omega
    have sv := s2 (fun c => ls t H (f + 1) c) ⟨t, fun c _ => rfl⟩ (by rw [ls_gain]; exact tg)
    rcases Hnf_lead hS sv with z | ⟨i, i1, i2, a, a1, a2⟩
    · exact absurd (z (hH l) (c2.1 l hl).1) vp
    · have hi := hS.1 i i1
      have e : h i = hH l := by
        rcases Nat.lt_trichotomy (h i) (hH l) with y | y | y
        · rw [vz _ y] at a2
          rcases Int.mul_eq_zero.mp a2.symm with w | w
          · exact absurd w a1
          · omega
        · exact y
        · exact absurd (i2 (hH l) y) vp
      refine ⟨i, i1, e, ?_⟩
      rw [e, vl] at a2
      rw [e, ← Int.natAbs_mul, a2, Int.natAbs_mul]
      exact Nat.le_mul_of_pos_left _ (by omega)
  have tl : ∀ l, cs < l → l < f + 1 → ∃ i, i < f ∧ h i = hH l ∧ (S i (h i)).natAbs ≤ (H l (hH l)).natAbs := fun l l1 l2 => by
    obtain ⟨i, i1, i2, i3⟩ := lead l (fun b => if b = l then 1 else 0) l2 (fun b hb => if_neg (by omega)) (by
      rw [sm_ee l2, gz l l1 l2]
      rfl) (by rw [if_pos rfl]; decide)
    rw [if_pos rfl] at i3
    exact ⟨i, i1, i2, by simpa using i3⟩
  have tn : ∀ n, n < cs → ∃ i, i < f ∧ h i = hH (cs - (n + 1)) ∧ (S i (h i)).natAbs * gq (fun b => sm (fun e => H b e * A k e) 6) cs (n + 1) ≤ gq (fun b => sm (fun e => H b e * A k e) 6) cs n * (H (cs - (n + 1)) (hH (cs - (n + 1)))).natAbs := fun n hn => by
    obtain ⟨t, t1, t2, t3, t4⟩ := gq_t (g := fun b => sm (fun e => H b e * A k e) 6) hc g0 hn
    obtain ⟨i, i1, i2, i3⟩ := lead (cs - (n + 1)) t (by omega) t1 t2 t3
    refine ⟨i, i1, i2, ?_⟩
    rw [← t4]
    have := Nat.mul_le_mul_right (gq (fun b => sm (fun e => H b e * A k e) 6) cs (n + 1)) i3
    rw [Nat.mul_right_comm] at this
    exact this
  have P2 : ∀ l, l < f + 1 → l ≠ cs → ∃ i, i < f ∧ h i = hH l := fun l l1 l2 => by
    rcases Nat.lt_or_ge l cs with z | z
    · obtain ⟨i, i1, i2, -⟩ := tn (cs - l - 1) (by omega)
      rw [show cs - (cs - l - 1 + 1) = l by omega] at i2
      exact ⟨i, i1, i2⟩
    · obtain ⟨i, i1, i2, -⟩ := tl l (by omega) l1
      exact ⟨i, i1, i2⟩
  have P1 : ∀ i, i < f → ∃ l, l < f + 1 ∧ l ≠ cs ∧ h i = hH l := fun i hi => by
    obtain ⟨l, l1, l2, a, a1, a2⟩ := Hnf_head hS c2 (fun i hi => (s1 i hi).1) hi
    refine ⟨l, l1, fun q => ?_, l2⟩
    subst q
    obtain ⟨t, ht⟩ := (s1 i hi).1
    have tz : ∀ n b, b < n → b < l → t b = 0 := by
      intro n
      induction n with
      | zero => intro b h1; omega
      | succ n ih =>
        intro b h1 h2
        have ih' : ∀ e, e < b → t e = 0 := fun e he => ih e (by omega) (by omega)
        have hb := c2.1 b (by omega)
        have e := ht (hH b) hb.1
        have lt := c2.2.1 b l h2 l1
        rw [(hS.1 i hi).2.2 (hH b) (by omega), ls_one (k := b) (by omega) (fun e he hn => by
          rcases Nat.lt_or_ge e b with z | z
          · rw [ih' e z, Int.zero_mul]
          · rw [(c2.1 e he).2.2 _ (c2.2.1 b e (by omega) he), Int.mul_zero])] at e
        rcases Int.mul_eq_zero.mp e.symm with y | y
        · exact y
        · omega
    have gain := (s1 i hi).2
    rw [sm_cg (G := fun e => ls t H (f + 1) e * A k e) (fun e he => by rw [ht e he]), ls_gain, sm_out l1, sm_0 (F := fun e => if e = l then 0 else t e * sm (fun e_1 => H e e_1 * A k e_1) 6) (fun b hb => ?_), Int.add_zero] at gain
    · rcases Int.mul_eq_zero.mp gain with y | y
      · have e := ht (hH l) (c2.1 l l1).1
        rw [ls_z (fun b hb => by
          rcases Nat.lt_trichotomy b l with z | z | z
          · rw [tz l b z z, Int.zero_mul]
          · rw [z, y, Int.zero_mul]
          · rw [(c2.1 b hb).2.2 _ (c2.2.1 l b z hb), Int.mul_zero]), ← l2] at e
        have := (hS.1 i hi).2.1
        omega
      · exact absurd y g0
    · try dsimp only
      by_cases z : b = l
      · rw [if_pos z]
      · rw [if_neg z]
        rcases Nat.lt_or_ge b l with y | y
        · rw [tz l b y y, Int.zero_mul]
        · rw [gz b (by omega) hb, Int.mul_zero]
  have io1 := io_eq hS.2.1 c2.2.1 P1 P2
  have at_h : ∀ i, i < f → h i = hH (io cs i) := fun i hi => io1 f i hi hi
  have hinj : ∀ i j, i < f → j < f → h i = h j → i = j := fun i j hi hj e => by
    rcases Nat.lt_trichotomy i j with z | z | z
    · have := hS.2.1 i j z hj
      omega
    · exact z
    · have := hS.2.1 j i z hi
      omega
  -- the product of the heads
  have pr1 : ∀ n, n ≤ cs → hpr S h n * gq (fun b => sm (fun e => H b e * A k e) 6) cs cs ≤ gq (fun b => sm (fun e => H b e * A k e) 6) cs (cs - n) * hpr H hH n := by
    intro n
    induction n with
    | zero =>
      intro _
      show 1 * _ ≤ _ * 1
      rw [Nat.one_mul, Nat.mul_one]
      exact Nat.le_refl _
    | succ n ih =>
      intro hn
      have ih := ih (by omega)
      obtain ⟨i, i1, i2, i3⟩ := tn (cs - (n + 1)) (by omega)
      rw [show cs - (cs - (n + 1) + 1) = n by omega, show cs - (n + 1) + 1 = cs - n by omega] at *
      have nf : n < f := by omega
      have e : i = n := hinj i n i1 nf (by
        rw [i2, at_h n nf]
        unfold io
        rw [if_pos (by omega)])
      subst e
      show hpr S h i * (S i (h i)).natAbs * _ ≤ _ * (hpr H hH i * (H i (hH i)).natAbs)
      have q1 := Nat.mul_le_mul_right (S i (h i)).natAbs ih
      have q2 := Nat.mul_le_mul_right (hpr H hH i) i3
      rw [Nat.mul_right_comm]
      refine Nat.le_trans q1 ?_
      generalize gq (fun b => sm (fun e => H b e * A k e) 6) cs (cs - i) = X at *
      generalize gq (fun b => sm (fun e => H b e * A k e) 6) cs (cs - (i + 1)) = Y at *
      generalize (S i (h i)).natAbs = s at *
      generalize (H i (hH i)).natAbs = d at *
      generalize hpr H hH i = P at *
      have r1 : X * P * s = s * X * P := by grind
      have r2 : Y * d * P = Y * (P * d) := by grind
      omega
  have pr2 : ∀ n, cs + n ≤ f → hpr S h (cs + n) * ((H cs (hH cs)).natAbs * gq (fun b => sm (fun e => H b e * A k e) 6) cs cs) ≤ (sm (fun e => H cs e * A k e) 6).natAbs * hpr H hH (cs + n + 1) := by
    intro n
    induction n with
    | zero =>
      intro _
      have := pr1 cs (Nat.le_refl _)
      rw [Nat.sub_self] at this
      have q := Nat.mul_le_mul_right (H cs (hH cs)).natAbs this
      show hpr S h cs * _ ≤ _ * (hpr H hH cs * (H cs (hH cs)).natAbs)
      have r1 : hpr S h cs * ((H cs (hH cs)).natAbs * gq (fun b => sm (fun e => H b e * A k e) 6) cs cs) = hpr S h cs * gq (fun b => sm (fun e => H b e * A k e) 6) cs cs * (H cs (hH cs)).natAbs := by grind
      rw [r1, ← Nat.mul_assoc]
      exact q
    | succ n ih =>
      intro hn
      have ih := ih (by omega)
      obtain ⟨i, i1, i2, i3⟩ := tl (cs + n + 1) (by omega) (by omega)
      have nf : cs + n < f := by omega
      have e : i = cs + n := hinj i (cs + n) i1 nf (by
        rw [i2, at_h _ nf]
        unfold io
        rw [if_neg (by omega)])
      subst e
      show hpr S h (cs + n) * (S (cs + n) (h (cs + n))).natAbs * _ ≤ _ * (hpr H hH (cs + n + 1) * (H (cs + n + 1) (hH (cs + n + 1))).natAbs)
      rw [Nat.mul_right_comm, ← Nat.mul_assoc (sm (fun e => H cs e * A k e) 6).natAbs]
      exact Nat.mul_le_mul ih i3
  have fin := pr2 (f - cs) (by omega)
  rw [show cs + (f - cs) = f by omega] at fin
  refine ⟨co (hH cs) nh, by omega, hS, fun i r hi hr => ?_, fun c hcc => ?_, fun m hm => ?_, ?_⟩
  · rcases Nat.lt_or_ge r k with z | z
    · obtain ⟨t, ht⟩ := (s1 i hi).1
      rw [sm_cg (G := fun e => ls t H (f + 1) e * A r e) (fun e he => by rw [ht e he]), ls_gain]
      exact sm_0 (fun b hb => by rw [c3 b r hb z, Int.mul_zero])
    · rw [show r = k by omega]
      exact (s1 i hi).2
  · rcases c4 c hcc with ⟨l, l1, l2⟩ | ⟨m, m1, m2⟩
    · by_cases z : l = cs
      · exact Or.inr ⟨0, by omega, by rw [← l2, z]; rfl⟩
      · obtain ⟨i, i1, i2⟩ := P2 l l1 z
        exact Or.inl ⟨i, i1, by rw [i2, l2]⟩
    · exact Or.inr ⟨m + 1, by omega, m2⟩
  · have h0 : ∀ i, i < f → ∀ l, l < f + 1 → h i = hH l → l ≠ cs := fun i hi l hl e q => by
      obtain ⟨l2, a1, a2, a3⟩ := P1 i hi
      rcases Nat.lt_trichotomy l l2 with y | y | y
      · have := c2.2.1 l l2 y a1
        omega
      · omega
      · have := c2.2.1 l2 l y hl
        omega
    rcases Nat.eq_zero_or_pos m with z | z
    · subst z
      exact ⟨(c2.1 cs hc).1, fun l hl e => h0 l hl cs hc e.symm rfl⟩
    · have e : co (hH cs) nh m = nh (m - 1) := if_neg (by omega)
      rw [e]
      refine ⟨(c5 (m - 1) (by omega)).1, fun l hl q => ?_⟩
      obtain ⟨l2, a1, a2, a3⟩ := P1 l hl
      exact (c5 (m - 1) (by omega)).2 l2 a1 (by rw [q, a3])
  · have p0 := gq_1 (g := fun b => sm (fun e => H b e * A k e) 6) g0 (n := cs)
    have hD := (c2.1 cs hc).2.1
    have mu2 : (sm (fun e => H cs e * A k e) 6).natAbs * (mi A k nh).natAbs = (H cs (hH cs)).natAbs * (mi A (k + 1) (co (hH cs) nh)).natAbs := by
      rw [← Int.natAbs_mul, ← Int.natAbs_mul, mu]
    refine Nat.le_of_mul_le_mul_left (c := (H cs (hH cs)).natAbs) ?_ (by omega)
    rw [← mu2]
    refine Nat.le_trans ?_ (Nat.mul_le_mul_left _ c6)
    refine Nat.le_trans ?_ fin
    rw [Nat.mul_comm]
    refine Nat.mul_le_mul_left _ (Nat.le_mul_of_pos_right _ p0)
