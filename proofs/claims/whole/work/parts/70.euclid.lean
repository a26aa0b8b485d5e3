/-! ## Whole numbers as they are: one round of divisions with a rest, and what it leaves bounded -/
theorem td_facts {o p : Int} (hp : p ≠ 0) : (o - o.tdiv p * p).natAbs < p.natAbs ∧ (0 ≤ o → 0 ≤ o - o.tdiv p * p ∧ 0 ≤ o.tdiv p * p) ∧ (o ≤ 0 → o - o.tdiv p * p ≤ 0 ∧ o.tdiv p * p ≤ 0) ∧ (p.natAbs ≤ o.natAbs → p.natAbs ≤ (o.tdiv p * p).natAbs) ∧ (o - o.tdiv p * p).natAbs ≤ o.natAbs := by
  have e : o - o.tdiv p * p = o.tmod p := by rw [Int.tmod_def, Int.mul_comm]
  have hn : (o.tmod p).natAbs = o.natAbs % p.natAbs := Int.natAbs_tmod o p
  have hpn : 0 < p.natAbs := by omega
  have h1 := Nat.mod_lt o.natAbs hpn
  have h2 := Nat.div_add_mod o.natAbs p.natAbs
  have h5 := Nat.mod_le o.natAbs p.natAbs
  have e2 : o.tdiv p * p = o - o.tmod p := by omega
  rw [e, e2]
  have s1 : 0 ≤ o → 0 ≤ o.tmod p := fun h => Int.tmod_nonneg p h
  have s2 : o ≤ 0 → o.tmod p ≤ 0 := fun h => by
    have := Int.tmod_nonneg p (show 0 ≤ -o by omega)
    rw [Int.neg_tmod] at this
    omega
  refine ⟨by omega, fun h => ?_, fun h => ?_, fun h => ?_, by omega⟩
  · have := s1 h
    omega
  · have := s2 h
    omega
  · have h6 : 1 ≤ o.natAbs / p.natAbs := Nat.div_pos h hpn
    have h7 : p.natAbs * 1 ≤ p.natAbs * (o.natAbs / p.natAbs) := Nat.mul_le_mul_left _ h6
    rcases Int.le_total 0 o with z | z
    · have := s1 z
      omega
    · have := s2 z
      omega
/-- two numbers of one sign -/
def sg (a b : Int) : Prop := (0 ≤ a ∧ 0 ≤ b) ∨ (a ≤ 0 ∧ b ≤ 0)
theorem sg_mul {a b : Int} (h : sg a b) (c : Int) : sg (a * c) (b * c) := by
  rcases Int.le_total 0 c with z | z
  · rcases h with h | h
    · exact Or.inl ⟨Int.mul_nonneg h.1 z, Int.mul_nonneg h.2 z⟩
    · exact Or.inr ⟨Int.mul_nonpos_of_nonpos_of_nonneg h.1 z, Int.mul_nonpos_of_nonpos_of_nonneg h.2 z⟩
  · rcases h with h | h
    · exact Or.inr ⟨Int.mul_nonpos_of_nonneg_of_nonpos h.1 z, Int.mul_nonpos_of_nonneg_of_nonpos h.2 z⟩
    · exact Or.inl ⟨Int.mul_nonneg_of_nonpos_of_nonpos h.1 z, Int.mul_nonneg_of_nonpos_of_nonpos h.2 z⟩
theorem td_sg {o p : Int} (hp : p ≠ 0) : sg (o - o.tdiv p * p) (o.tdiv p * p) := by
  have h := @td_facts o p hp
  rcases Int.le_total 0 o with z | z
  · exact Or.inl (h.2.1 z)
  · exact Or.inr (h.2.2.1 z)
theorem na_mul {a b : Int} {A B : Nat} (h1 : a.natAbs ≤ A) (h2 : b.natAbs ≤ B) : (a * b).natAbs ≤ A * B := by
  rw [Int.natAbs_mul]
  exact Nat.mul_le_mul h1 h2
theorem na_can {p x : Int} {M : Nat} (hp : p ≠ 0) (h : (p * x).natAbs ≤ p.natAbs * M) : x.natAbs ≤ M := by
  rw [Int.natAbs_mul] at h
  exact Nat.le_of_mul_le_mul_left h (by omega)
theorem lin2 {X Y X1 Y1 : Int} {B : Nat} (sX : sg X X1) (sY : sg Y Y1) (hX : X.natAbs ≤ B) (hY : Y.natAbs ≤ B) (h : (X + Y + (X1 + Y1)).natAbs ≤ B) : (X + Y).natAbs ≤ B := by
  unfold sg at sX sY
  omega
theorem lin3 {X Y Z X1 Y1 Z1 : Int} {B Q : Nat} (sX : sg X X1) (sY : sg Y Y1) (sZ : sg Z Z1) (hX : X.natAbs ≤ B) (hY : Y.natAbs ≤ B) (hZ : Z.natAbs ≤ B) (kX : X.natAbs ≤ X1.natAbs) (kY : Y.natAbs ≤ Y1.natAbs) (kZ : Z.natAbs ≤ Z1.natAbs) (qX : X1.natAbs ≤ Q) (qY : Y1.natAbs ≤ Q) (qZ : Z1.natAbs ≤ Q) (hQ : B ≤ Q) (h : (X + Y + Z + (X1 + Y1 + Z1)).natAbs ≤ B) : 2 * (X + Y + Z).natAbs ≤ Q + B ∧ (X + Y + Z).natAbs ≤ 2 * B := by
  unfold sg at sX sY sZ
  omega
/-- one round: any number of the rows stays bounded -/
theorem v_round {op oi vp vi : Int} {M : Nat} (hp : op ≠ 0) (k1 : (op * vi - oi * vp).natAbs ≤ M) (k2 : vp.natAbs ≤ M) : (vi - oi.tdiv op * vp).natAbs ≤ M := by
  have h := @td_facts oi op hp
  refine na_can hp ?_
  have e : op * (vi - oi.tdiv op * vp) = (op * vi - oi * vp) + (oi - oi.tdiv op * op) * vp := by grind
  rw [e]
  have h2 : ((oi - oi.tdiv op * op) * vp).natAbs ≤ (op.natAbs - 1) * M := na_mul (by omega) k2
  have h3 : (op.natAbs - 1) * M + M = op.natAbs * M := by
    have : 1 ≤ op.natAbs := by omega
    rw [← Nat.succ_mul, Nat.succ_eq_add_one, Nat.sub_add_cancel this]
  omega
theorem k_round {op oi oj vp vi vj : Int} {M : Nat} (hp : op ≠ 0) (k1 : (op * vi - oi * vp).natAbs ≤ M) (k2 : (op * vj - oj * vp).natAbs ≤ M) (k3 : (oi * vj - oj * vi).natAbs ≤ M) : ((oi - oi.tdiv op * op) * (vj - oj.tdiv op * vp) - (oj - oj.tdiv op * op) * (vi - oi.tdiv op * vp)).natAbs ≤ M := by
  have fi := @td_facts oi op hp
  have fj := @td_facts oj op hp
  have si := sg_mul (@td_sg oi op hp) (op * vj - oj * vp)
  have sj := sg_mul (@td_sg oj op hp) (-(op * vi - oi * vp))
  refine na_can hp ?_
  have e : op * ((oi - oi.tdiv op * op) * (vj - oj.tdiv op * vp) - (oj - oj.tdiv op * op) * (vi - oi.tdiv op * vp)) = (oi - oi.tdiv op * op) * (op * vj - oj * vp) + (oj - oj.tdiv op * op) * (-(op * vi - oi * vp)) := by grind
  rw [e]
  refine lin2 si sj (na_mul (by omega) k2) (na_mul (by omega) (by rw [Int.natAbs_neg]; exact k1)) ?_
  have e2 : (oi - oi.tdiv op * op) * (op * vj - oj * vp) + (oj - oj.tdiv op * op) * (-(op * vi - oi * vp)) + (oi.tdiv op * op * (op * vj - oj * vp) + oj.tdiv op * op * (-(op * vi - oi * vp))) = op * (oi * vj - oj * vi) := by grind
  rw [e2]
  exact na_mul (Nat.le_refl _) k3
/-- three rows of three numbers -/
def w3 (a1 a2 a3 b1 b2 b3 c1 c2 c3 : Int) : Int := a1 * (b2 * c3 - b3 * c2) - b1 * (a2 * c3 - a3 * c2) + c1 * (a2 * b3 - a3 * b2)
theorem td_le {o p : Int} (hp : p ≠ 0) (h : o = 0 ∨ p.natAbs ≤ o.natAbs) : (o - o.tdiv p * p).natAbs ≤ (o.tdiv p * p).natAbs := by
  have f := @td_facts o p hp
  rcases h with h | h
  · rw [h, Int.zero_tdiv, Int.zero_mul]
    exact Nat.le_refl _
  · have := f.2.2.2.1 h
    omega
theorem w_round {op vp up oi vi ui oj vj uj ok vk uk : Int} {W q : Nat} (hp : op ≠ 0) (hq : 1 ≤ q) (hi : oi = 0 ∨ op.natAbs ≤ oi.natAbs) (hj : oj = 0 ∨ op.natAbs ≤ oj.natAbs) (hk : ok = 0 ∨ op.natAbs ≤ ok.natAbs) (qi : (oi.tdiv op).natAbs ≤ q) (qj : (oj.tdiv op).natAbs ≤ q) (qk : (ok.tdiv op).natAbs ≤ q)
    (h1 : (w3 op vp up oj vj uj ok vk uk).natAbs ≤ W) (h2 : (w3 op vp up oi vi ui ok vk uk).natAbs ≤ W) (h3 : (w3 op vp up oi vi ui oj vj uj).natAbs ≤ W) (h4 : (w3 oi vi ui oj vj uj ok vk uk).natAbs ≤ W) :
    2 * (w3 (oi - oi.tdiv op * op) (vi - oi.tdiv op * vp) (ui - oi.tdiv op * up) (oj - oj.tdiv op * op) (vj - oj.tdiv op * vp) (uj - oj.tdiv op * up) (ok - ok.tdiv op * op) (vk - ok.tdiv op * vp) (uk - ok.tdiv op * up)).natAbs ≤ (q + 1) * W ∧ (w3 (oi - oi.tdiv op * op) (vi - oi.tdiv op * vp) (ui - oi.tdiv op * up) (oj - oj.tdiv op * op) (vj - oj.tdiv op * vp) (uj - oj.tdiv op * up) (ok - ok.tdiv op * op) (vk - ok.tdiv op * vp) (uk - ok.tdiv op * up)).natAbs ≤ 2 * W := by
  have fi := @td_facts oi op hp
  have fj := @td_facts oj op hp
  have fk := @td_facts ok op hp
  have li := td_le hp hi
  have lj := td_le hp hj
  have lk := td_le hp hk
  have si := @td_sg oi op hp
  have sj := @td_sg oj op hp
  have sk := @td_sg ok op hp
  have ei : oi = oi.tdiv op * op + (oi - oi.tdiv op * op) := by omega
  have ej : oj = oj.tdiv op * op + (oj - oj.tdiv op * op) := by omega
  have ek : ok = ok.tdiv op * op + (ok - ok.tdiv op * op) := by omega
  have e : op * w3 (oi - oi.tdiv op * op) (vi - oi.tdiv op * vp) (ui - oi.tdiv op * up) (oj - oj.tdiv op * op) (vj - oj.tdiv op * vp) (uj - oj.tdiv op * up) (ok - ok.tdiv op * op) (vk - ok.tdiv op * vp) (uk - ok.tdiv op * up) = (oi - oi.tdiv op * op) * w3 op vp up oj vj uj ok vk uk + (oj - oj.tdiv op * op) * (-w3 op vp up oi vi ui ok vk uk) + (ok - ok.tdiv op * op) * w3 op vp up oi vi ui oj vj uj := by
    unfold w3
    grind
  have e2 : op * w3 oi vi ui oj vj uj ok vk uk = (oi - oi.tdiv op * op) * w3 op vp up oj vj uj ok vk uk + (oj - oj.tdiv op * op) * (-w3 op vp up oi vi ui ok vk uk) + (ok - ok.tdiv op * op) * w3 op vp up oi vi ui oj vj uj + (oi.tdiv op * op * w3 op vp up oj vj uj ok vk uk + oj.tdiv op * op * (-w3 op vp up oi vi ui ok vk uk) + ok.tdiv op * op * w3 op vp up oi vi ui oj vj uj) := by
    unfold w3
    grind
  have h2n : (-w3 op vp up oi vi ui ok vk uk).natAbs ≤ W := by rw [Int.natAbs_neg]; exact h2
  have hw : (op * w3 oi vi ui oj vj uj ok vk uk).natAbs ≤ op.natAbs * W := na_mul (Nat.le_refl _) h4
  rw [e2] at hw
  have qq : ∀ {x y : Int}, (x.tdiv op).natAbs ≤ q → y.natAbs ≤ W → (x.tdiv op * op * y).natAbs ≤ q * (op.natAbs * W) := fun {x y} a b => by
    rw [← Nat.mul_assoc]
    exact na_mul (na_mul a (Nat.le_refl _)) b
  have kk : ∀ {r t y : Int}, r.natAbs ≤ t.natAbs → (r * y).natAbs ≤ (t * y).natAbs := fun {r t y} a => by
    rw [Int.natAbs_mul, Int.natAbs_mul]
    exact Nat.mul_le_mul_right _ a
  have L := lin3 (sg_mul si (w3 op vp up oj vj uj ok vk uk)) (sg_mul sj (-w3 op vp up oi vi ui ok vk uk)) (sg_mul sk (w3 op vp up oi vi ui oj vj uj)) (na_mul (Nat.le_of_lt fi.1) h1) (na_mul (Nat.le_of_lt fj.1) h2n) (na_mul (Nat.le_of_lt fk.1) h3) (kk li) (kk lj) (kk lk) (qq qi h1) (qq qj h2n) (qq qk h3) (Nat.le_mul_of_pos_left _ hq) hw
  rw [← e, Int.natAbs_mul] at L
  have hpn : 0 < op.natAbs := by omega
  constructor
  · refine Nat.le_of_mul_le_mul_left (c := op.natAbs) ?_ hpn
    have a1 : op.natAbs * ((q + 1) * W) = q * (op.natAbs * W) + op.natAbs * W := by
      rw [Nat.add_mul, Nat.one_mul, Nat.mul_add, Nat.mul_left_comm]
    rw [a1, Nat.mul_left_comm]
    exact L.1
  · refine Nat.le_of_mul_le_mul_left (c := op.natAbs) ?_ hpn
    rw [Nat.mul_left_comm op.natAbs 2]
    exact L.2
/-- with the pivot's row nothing changes -/
theorem w_piv {op vp up oi vi ui oj vj uj a b : Int} : w3 op vp up (oi - a * op) (vi - a * vp) (ui - a * up) (oj - b * op) (vj - b * vp) (uj - b * up) = w3 op vp up oi vi ui oj vj uj := by
  unfold w3
  grind
/-- how 3-minors grow against what is gathered -/
theorem w_pot {W W1 P P1 q : Nat} (hq : 1 ≤ q) (h1 : 2 * W1 ≤ (q + 1) * W) (h2 : W1 ≤ 2 * W) (h3 : q * P1 ≤ P) : W1 ^ 11 * P1 ^ 7 ≤ W ^ 11 * P ^ 7 := by
  rcases (show q = 1 ∨ q = 2 ∨ 3 ≤ q by omega) with rfl | rfl | h
  · exact Nat.mul_le_mul (Nat.pow_le_pow_left (by omega) _) (Nat.pow_le_pow_left (by omega) _)
  · have a1 : (2 * W1) ^ 11 ≤ (3 * W) ^ 11 := Nat.pow_le_pow_left (by omega) _
    have a2 : (2 * P1) ^ 7 ≤ P ^ 7 := Nat.pow_le_pow_left h3 _
    rw [Nat.mul_pow, Nat.mul_pow] at a1
    rw [Nat.mul_pow] at a2
    have a3 := Nat.mul_le_mul a1 a2
    have e1 : 2 ^ 11 * W1 ^ 11 * (2 ^ 7 * P1 ^ 7) = 262144 * (W1 ^ 11 * P1 ^ 7) := by
      generalize W1 ^ 11 = x
      generalize P1 ^ 7 = y
      grind
    have e2 : 3 ^ 11 * W ^ 11 * P ^ 7 = 177147 * (W ^ 11 * P ^ 7) := by
      generalize W ^ 11 = x
      generalize P ^ 7 = y
      grind
    rw [e1, e2] at a3
    omega
  · have a1 : W1 ^ 11 ≤ (2 * W) ^ 11 := Nat.pow_le_pow_left h2 _
    have a2 : (3 * P1) ^ 7 ≤ P ^ 7 := Nat.pow_le_pow_left (Nat.le_trans (Nat.mul_le_mul_right _ h) h3) _
    rw [Nat.mul_pow] at a1 a2
    have a3 := Nat.mul_le_mul a1 a2
    have e1 : W1 ^ 11 * (3 ^ 7 * P1 ^ 7) = 2187 * (W1 ^ 11 * P1 ^ 7) := by
      generalize W1 ^ 11 = x
      generalize P1 ^ 7 = y
      grind
    have e2 : 2 ^ 11 * W ^ 11 * P ^ 7 = 2048 * (W ^ 11 * P ^ 7) := by
      generalize W ^ 11 = x
      generalize P ^ 7 = y
      grind
    rw [e1, e2] at a3
    omega
