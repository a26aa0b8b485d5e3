/-! ## Two rows that are left, with gains that are nothing: 2-minors by the square of the greatest gain -/
def mkv (N : Nat) (H : Nat → Nat → Int) (T : Nat → Int) : Nat → Int := fun c => if c < 6 then ls T H N c else T (c - 6)
theorem mkv_6 {N b : Nat} {H : Nat → Nat → Int} {T : Nat → Int} : mkv N H T (6 + b) = T b := by
  unfold mkv
  rw [if_neg (by omega), Nat.add_sub_cancel_left]
theorem mkv_lo {N c : Nat} {H : Nat → Nat → Int} {T : Nat → Int} (hc : c < 6) : mkv N H T c = ls T H N c := if_pos hc
theorem mkv_gh {N : Nat} {H : Nat → Nat → Int} {T : Nat → Int} : Gh N H (mkv N H T) := fun c hc => by
  rw [mkv_lo hc]
  exact ls_cg (fun i _ => by rw [mkv_6])
theorem mkv_gk {N : Nat} {H : Nat → Nat → Int} {T g : Nat → Int} (h : ls T (fun b _ => g b) N 0 = 0) : Gk N g (mkv N H T) := by
  unfold Gk
  rw [← h]
  exact ls_cg (fun i _ => by rw [mkv_6])
def tri (m : Nat) (a b c : Int) : Nat → Int := fun i => if i = m then a else if i = m + 1 then b else if i = m + 2 then c else 0
theorem tri_lo {m i : Nat} {a b c : Int} (h : i < m) : tri m a b c i = 0 := by
  unfold tri
  rw [if_neg (by omega), if_neg (by omega), if_neg (by omega)]
theorem tri_0 {m : Nat} {a b c : Int} : tri m a b c m = a := if_pos rfl
theorem tri_1 {m : Nat} {a b c : Int} : tri m a b c (m + 1) = b := by
  unfold tri
  rw [if_neg (by omega), if_pos rfl]
theorem tri_2 {m : Nat} {a b c : Int} : tri m a b c (m + 2) = c := by
  unfold tri
  rw [if_neg (by omega), if_neg (by omega), if_pos rfl]
theorem tri_ls {m e : Nat} {a b c : Int} {R : Nat → Nat → Int} : ls (tri m a b c) R (m + 3) e = a * R m e + b * R (m + 1) e + c * R (m + 2) e := by
  show ls (tri m a b c) R m e + tri m a b c m * R m e + tri m a b c (m + 1) * R (m + 1) e + tri m a b c (m + 2) * R (m + 2) e = _
  rw [tri_0, tri_1, tri_2, ls_z (fun i hi => by rw [tri_lo hi, Int.zero_mul])]
  omega
theorem two_use {m j M : Nat} {H R : Nat → Nat → Int} {hH h : Nat → Nat} {g : Nat → Int} (hh : Hnf (m + 3) H hH) (E : Ech (m + 2) j m R h) (gh : ∀ i, m ≤ i → i < m + 2 → Gh (m + 3) H (R i)) (K0 : ∀ v, Gh (m + 3) H v → Gk (m + 3) g v → Sp (m + 2) R v) {a1 a2 a3 b1 b2 b3 : Int} (ka : a1 * g m + a2 * g (m + 1) + a3 * g (m + 2) = 0) (kb : b1 * g m + b2 * g (m + 1) + b3 * g (m + 2) = 0) (z1 : hH m < j → a1 = 0 ∧ b1 = 0) (z2 : hH (m + 1) < j → a2 = 0 ∧ b2 = 0) (z3 : hH (m + 2) < j → a3 = 0 ∧ b3 = 0) (n0 : a1 * b2 - a2 * b1 ≠ 0 ∨ a1 * b3 - a3 * b1 ≠ 0 ∨ a2 * b3 - a3 * b2 ≠ 0) (m1 : (a1 * b2 - a2 * b1).natAbs ≤ M) (m2 : (a1 * b3 - a3 * b1).natAbs ≤ M) (m3 : (a2 * b3 - a3 * b2).natAbs ≤ M) : ∀ i k a b, m ≤ i → i < m + 2 → m ≤ k → k < m + 2 → a < m + 3 → b < m + 3 → (R i (6 + a) * R k (6 + b) - R k (6 + a) * R i (6 + b)).natAbs ≤ M := by
  have zz : ∀ {x1 x2 x3 : Int}, (hH m < j → x1 = 0) → (hH (m + 1) < j → x2 = 0) → (hH (m + 2) < j → x3 = 0) → ∀ c, c < j → c < 6 → mkv (m + 3) H (tri m x1 x2 x3) c = 0 := fun {x1 x2 x3} y1 y2 y3 c hc h6 => by
    have one : ∀ {x : Int} {b : Nat}, b < m + 3 → (hH b < j → x = 0) → x * H b c = 0 := fun {x b} hb y => by
      rcases Nat.lt_or_ge (hH b) j with z | z
      · rw [y z, Int.zero_mul]
      · rw [(hh.1 b hb).2.2 c (by omega), Int.mul_zero]
    rw [mkv_lo h6, tri_ls, one (by omega) y1, one (by omega) y2, one (by omega) y3]
    rfl
  have sp : ∀ {x1 x2 x3 : Int}, x1 * g m + x2 * g (m + 1) + x3 * g (m + 2) = 0 → Sp (m + 2) R (mkv (m + 3) H (tri m x1 x2 x3)) := fun {x1 x2 x3} y => K0 _ mkv_gh (mkv_gk (by rw [tri_ls]; exact y))
  refine two_wedge (v := mkv (m + 3) H (tri m a1 a2 a3)) (w := mkv (m + 3) H (tri m b1 b2 b3)) hh E rfl gh mkv_gh (sp ka) (zz (fun y => (z1 y).1) (fun y => (z2 y).1) (fun y => (z3 y).1)) mkv_gh (sp kb) (zz (fun y => (z1 y).2) (fun y => (z2 y).2) (fun y => (z3 y).2)) ?_ ?_
  · rcases n0 with y | y | y
    · exact ⟨m, m + 1, by omega, by omega, by rw [mkv_6, mkv_6, mkv_6, mkv_6, tri_0, tri_1, tri_1, tri_0]; exact y⟩
    · exact ⟨m, m + 2, by omega, by omega, by rw [mkv_6, mkv_6, mkv_6, mkv_6, tri_0, tri_2, tri_2, tri_0]; exact y⟩
    · exact ⟨m + 1, m + 2, by omega, by omega, by rw [mkv_6, mkv_6, mkv_6, mkv_6, tri_1, tri_2, tri_2, tri_1]; exact y⟩
  · intro c e hc he
    rw [mkv_6, mkv_6, mkv_6, mkv_6]
    have tv : ∀ x, x < m + 3 → (tri m a1 a2 a3 x = 0 ∧ tri m b1 b2 b3 x = 0) ∨ (tri m a1 a2 a3 x = a1 ∧ tri m b1 b2 b3 x = b1) ∨ (tri m a1 a2 a3 x = a2 ∧ tri m b1 b2 b3 x = b2) ∨ (tri m a1 a2 a3 x = a3 ∧ tri m b1 b2 b3 x = b3) := fun x hx => by
      rcases Nat.lt_or_ge x m with y | y
      · exact Or.inl ⟨tri_lo y, tri_lo y⟩
      · by_cases e0 : x = m
        · rw [e0]
          exact Or.inr (Or.inl ⟨tri_0, tri_0⟩)
        · by_cases e1 : x = m + 1
          · rw [e1]
            exact Or.inr (Or.inr (Or.inl ⟨tri_1, tri_1⟩))
          · rw [show x = m + 2 by omega]
            exact Or.inr (Or.inr (Or.inr ⟨tri_2, tri_2⟩))
    rcases tv c hc with ⟨p, q⟩ | ⟨p, q⟩ | ⟨p, q⟩ | ⟨p, q⟩ <;> rcases tv e he with ⟨p2, q2⟩ | ⟨p2, q2⟩ | ⟨p2, q2⟩ | ⟨p2, q2⟩ <;> rw [p, q, p2, q2] <;> omega
theorem na_gg {a b : Int} {G : Nat} (ha : a.natAbs ≤ G) (hb : b.natAbs ≤ G) : (a * b).natAbs ≤ G * G := by
  rw [Int.natAbs_mul]
  exact Nat.mul_le_mul ha hb
/-- heads ahead of j: as many as there are rows done -/
theorem Ech_hd {N f j d : Nat} {H R : Nat → Nat → Int} {hH h : Nat → Nat} (hh : Hnf N H hH) (E : Ech f j d R h) (hd : d ≤ N) (gh : ∀ i, i < d → Gh N H (R i)) : ∀ i, i < d → hH i ≤ h i
  | i, hi => by
    have H1 := E.1.1 i hi
    obtain ⟨k, hk, ek⟩ : ∃ k, k < N ∧ hH k = h i := Classical.byContradiction (fun no => by
      have := (Gh_at hh (gh i hi) H1.1 H1.2.2).2 (fun b hb z => no ⟨b, hb, z⟩)
      omega)
    rcases Nat.lt_or_ge k i with y | y
    · have h1 := Ech_hd hh E hd gh (i - 1) (by omega)
      have h2 := E.1.2.1 (i - 1) i (by omega) hi
      rcases Nat.lt_or_ge k (i - 1) with x | x
      · have := hh.2.1 k (i - 1) x (by omega)
        omega
      · rw [show k = i - 1 by omega] at ek
        omega
    · rcases Nat.eq_or_lt_of_le y with x | x
      · subst x
        exact Nat.le_of_eq ek
      · have := hh.2.1 i k x hk
        omega
theorem two_ker {m j G : Nat} {H R : Nat → Nat → Int} {hH h : Nat → Nat} {g : Nat → Int} (hG : 1 ≤ G) (hh : Hnf (m + 3) H hH) (E : Ech (m + 2) j m R h) (gh : ∀ i, i < m + 2 → Gh (m + 3) H (R i)) (gk : ∀ i, m ≤ i → i < m + 2 → Gk (m + 3) g (R i)) (K0 : ∀ v, Gh (m + 3) H v → Gk (m + 3) g v → Sp (m + 2) R v) (hg : ∀ b, b < m + 3 → (g b).natAbs ≤ G) (hj : j ≤ 6) : ∀ i k a b, m ≤ i → i < m + 2 → m ≤ k → k < m + 2 → a < m + 3 → b < m + 3 → (R i (6 + a) * R k (6 + b) - R k (6 + a) * R i (6 + b)).natAbs ≤ G * G := by
  have g1 := hg m (by omega)
  have g2 := hg (m + 1) (by omega)
  have g3 := hg (m + 2) (by omega)
  have GG : 1 ≤ G * G := Nat.mul_le_mul hG hG
  have GL : G ≤ G * G := Nat.le_mul_of_pos_left _ hG
  have o1 := hh.2.1 m (m + 1) (by omega) (by omega)
  have o2 := hh.2.1 (m + 1) (m + 2) (by omega) (by omega)
  have use := @two_use m j (G * G) H R hH h g hh E (fun i _ hi => gh i hi) K0
  have lo : ∀ i b, m ≤ i → i < m + 2 → b < m + 3 → hH b < j → R i (6 + b) = 0 := fun i b i1 i2 hb hbj => Gh_lo hh (gh i i2) (E.2.2 i i1 i2) (m + 3) b hb hb hbj
  have lom : ∀ b, b < m → hH b < j := fun b hb => by
    have := Ech_hd hh E (by omega) (fun i hi => gh i (by omega)) b hb
    have := E.2.1 b hb
    omega
  rcases Nat.lt_or_ge (hH m) j with y | y
  · -- at most two parts are left
    rcases Nat.lt_or_ge (hH (m + 1)) j with x | x
    · intro i k a b i1 i2 k1 k2 ha hb
      have zz : ∀ i b, m ≤ i → i < m + 2 → b < m + 2 → R i (6 + b) = 0 := fun i b i1 i2 hb => by
        rcases Nat.lt_or_ge b m with w | w
        · exact lo i b i1 i2 (by omega) (lom b w)
        · by_cases e : b = m
          · rw [e]
            exact lo i m i1 i2 (by omega) y
          · rw [show b = m + 1 by omega]
            exact lo i (m + 1) i1 i2 (by omega) x
      rcases Nat.lt_or_ge a (m + 2) with w | w
      · rw [zz i a i1 i2 w, zz k a k1 k2 w, Int.zero_mul, Int.zero_mul]
        exact Nat.zero_le _
      · rcases Nat.lt_or_ge b (m + 2) with w2 | w2
        · rw [zz i b i1 i2 w2, zz k b k1 k2 w2, Int.mul_zero, Int.mul_zero]
          exact Nat.zero_le _
        · rw [show a = b by omega, Int.mul_comm, Int.sub_self]
          exact Nat.zero_le _
    · by_cases gz : g (m + 1) = 0 ∧ g (m + 2) = 0
      · exact use (a1 := 0) (a2 := 1) (a3 := 0) (b1 := 0) (b2 := 0) (b3 := 1) (by omega) (by omega) (fun _ => ⟨rfl, rfl⟩) (fun q => by omega) (fun q => by omega) (Or.inr (Or.inr (by omega))) (by omega) (by omega) (by omega)
      · have kk : ∀ i, m ≤ i → i < m + 2 → R i (6 + (m + 1)) * g (m + 1) + R i (6 + (m + 2)) * g (m + 2) = 0 := fun i i1 i2 => by
          have e := gk i i1 i2
          unfold Gk at e
          have e2 : ls (fun b => R i (6 + b)) (fun b _ => g b) m 0 + R i (6 + m) * g m + R i (6 + (m + 1)) * g (m + 1) + R i (6 + (m + 2)) * g (m + 2) = 0 := e
          rw [ls_z (fun b hb => by rw [lo i b i1 i2 (by omega) (lom b hb), Int.zero_mul]), lo i m i1 i2 (by omega) y, Int.zero_mul] at e2
          omega
        have w0 : ∀ i k, m ≤ i → i < m + 2 → m ≤ k → k < m + 2 → R i (6 + (m + 1)) * R k (6 + (m + 2)) - R k (6 + (m + 1)) * R i (6 + (m + 2)) = 0 := fun i k i1 i2 k1 k2 => by
          have e1 := kk i i1 i2
          have e2 := kk k k1 k2
          generalize R i (6 + (m + 1)) = p1 at *
          generalize R i (6 + (m + 2)) = p2 at *
          generalize R k (6 + (m + 1)) = q1 at *
          generalize R k (6 + (m + 2)) = q2 at *
          by_cases z : g (m + 1) = 0
          · have z2 : g (m + 2) ≠ 0 := fun q => gz ⟨z, q⟩
            have : (p1 * q2 - q1 * p2) * g (m + 2) = 0 := by grind
            rcases Int.mul_eq_zero.mp this with r | r
            · exact r
            · exact absurd r z2
          · have : (p1 * q2 - q1 * p2) * g (m + 1) = 0 := by grind
            rcases Int.mul_eq_zero.mp this with r | r
            · exact r
            · exact absurd r z
        intro i k a b i1 i2 k1 k2 ha hb
        have zz : ∀ i b, m ≤ i → i < m + 2 → b < m + 1 → R i (6 + b) = 0 := fun i b i1 i2 hb => by
          rcases Nat.lt_or_ge b m with w | w
          · exact lo i b i1 i2 (by omega) (lom b w)
          · rw [show b = m by omega]
            exact lo i m i1 i2 (by omega) y
        rcases Nat.lt_or_ge a (m + 1) with w | w
        · rw [zz i a i1 i2 w, zz k a k1 k2 w, Int.zero_mul, Int.zero_mul]
          exact Nat.zero_le _
        · rcases Nat.lt_or_ge b (m + 1) with w2 | w2
          · rw [zz i b i1 i2 w2, zz k b k1 k2 w2, Int.mul_zero, Int.mul_zero]
            exact Nat.zero_le _
          · by_cases e : a = b
            · rw [e, Int.mul_comm, Int.sub_self]
              exact Nat.zero_le _
            · rcases Nat.lt_or_ge a b with e2 | e2
              · rw [show a = m + 1 by omega, show b = m + 2 by omega, w0 i k i1 i2 k1 k2]
                exact Nat.zero_le _
              · rw [show a = m + 2 by omega, show b = m + 1 by omega]
                have := w0 k i k1 k2 i1 i2
                rw [Int.mul_comm (R i _), Int.mul_comm (R k (6 + (m + 2))), this]
                exact Nat.zero_le _
  · by_cases z1 : g m = 0
    · by_cases z2 : g (m + 1) = 0
      · exact use (a1 := 1) (a2 := 0) (a3 := 0) (b1 := 0) (b2 := 1) (b3 := 0) (by omega) (by omega) (fun q => by omega) (fun q => by omega) (fun _ => ⟨rfl, rfl⟩) (Or.inl (by omega)) (by omega) (by omega) (by omega)
      · exact use (a1 := 1) (a2 := 0) (a3 := 0) (b1 := 0) (b2 := g (m + 2)) (b3 := -g (m + 1)) (by omega) (by rw [z1]; grind) (fun q => by omega) (fun q => by omega) (fun q => by omega) (Or.inr (Or.inl (by omega))) (by omega) (by omega) (by omega)
    · have p1 := na_gg g1 g3
      have p2 := na_gg g1 g2
      have p3 := na_gg g1 g1
      have nz : g m * g m ≠ 0 := fun q => by
        rcases Int.mul_eq_zero.mp q with r | r <;> exact z1 r
      exact use (a1 := g (m + 1)) (a2 := -g m) (a3 := 0) (b1 := g (m + 2)) (b2 := 0) (b3 := -g m) (by grind) (by grind) (fun q => by omega) (fun q => by omega) (fun q => by omega) (Or.inr (Or.inr (by grind))) (by rw [show g (m + 1) * 0 - -g m * g (m + 2) = g m * g (m + 2) by grind]; exact p1) (by rw [show g (m + 1) * -g m - 0 * g (m + 2) = -(g m * g (m + 1)) by grind, Int.natAbs_neg]; exact p2) (by rw [show -g m * -g m - 0 * 0 = g m * g m by grind]; exact p3)
