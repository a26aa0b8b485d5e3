/-! ## put: the turns, on whole numbers and on the machine's -/
theorem rxZ_gn {F : Nat → Nat → Int} {h : Nat → Nat} {g i : Nat} {R p : Nat → Int} : ∀ {k : Nat}, (∀ e, e < k → i + e ≠ g → gn (F (i + e)) p = 0) → gn (rxZ F h g R i k) p = gn R p
  | 0, _ => rfl
  | k + 1, H => by
    have ih := rxZ_gn (k := k) (R := R) (h := h) (fun e he hn => H e (by omega) hn)
    unfold rxZ
    by_cases z : i + k = g
    · rw [if_pos z]
      exact ih
    · rw [if_neg z, gn_lin, H k (by omega) z, Int.mul_zero, Int.sub_zero]
      exact ih
theorem rxZ_le {F : Nat → Nat → Int} {h : Nat → Nat} {g i n z : Nat} {R : Nat → Int} (hF : ∀ e, e < n → i + e ≠ g → 0 < F (i + e) (h (i + e))) (red : ∀ e m, e < m → m < n → i + e ≠ g → i + m ≠ g → (F (i + e) (h (i + m))).natAbs ≤ (F (i + m) (h (i + m))).natAbs) (hR : ∀ m, m < n → i + m ≠ g → (R (h (i + m))).natAbs ≤ z * (F (i + m) (h (i + m))).natAbs) : ∀ {k : Nat} m, k ≤ m → m < n → i + m ≠ g → (rxZ F h g R i k (h (i + m))).natAbs ≤ 2 ^ k * z * (F (i + m) (h (i + m))).natAbs
  | 0, m, _, hm, hn => by
    rw [Nat.pow_zero, Nat.one_mul]
    exact hR m hm hn
  | k + 1, m, hk, hm, hn => by
    have a := rxZ_le hF red hR (k := k) m (by omega) hm hn
    have e : 2 ^ (k + 1) * z * (F (i + m) (h (i + m))).natAbs = 2 ^ k * z * (F (i + m) (h (i + m))).natAbs + 2 ^ k * z * (F (i + m) (h (i + m))).natAbs := by
      rw [Nat.pow_succ]
      grind
    unfold rxZ
    by_cases y : i + k = g
    · rw [if_pos y, e]
      omega
    · rw [if_neg y]
      have b := rxZ_le hF red hR (k := k) k (Nat.le_refl _) (by omega) y
      have q := flz_le (hF k (by omega) y) b
      have r := red k m (by omega) hm y hn
      have l : (flz (rxZ F h g R i k (h (i + k))) (F (i + k) (h (i + k))) * F (i + k) (h (i + m))).natAbs ≤ 2 ^ k * z * (F (i + m) (h (i + m))).natAbs := by
        rw [Int.natAbs_mul]
        exact Nat.mul_le_mul q r
      rw [e]
      omega
/-- rows from i on have had their turn: cs is the row that goes, slot 6 the step -/
def PI (N cs G : Nat) (H : Nat → Nat → Int) (h : Nat → Nat) (p : Nat → Int) (i : Nat) (F : Nat → Nat → Int) (V : Int) : Prop :=
  (∀ k, k < i → F k = H k) ∧
  (∀ k, i ≤ k → k < N → k ≠ cs → (∀ c, c < h k → F k c = 0) ∧ 0 < F k (h k) ∧ H k (h k) ≤ F k (h k) ∧ (F k (h k)).natAbs ≤ G * (H k (h k)).natAbs ∧ gn (F k) p = 0 ∧ ∀ m, k < m → m < N → m ≠ cs → 0 ≤ F k (h m) ∧ F k (h m) < F m (h m)) ∧
  ((∀ c, c < h i → F 6 c = 0) ∧ gn (F 6) p = V ∧ V ≠ 0 ∧ V.natAbs ≤ G ∧ ∀ m, i ≤ m → m < N → m ≠ cs → 0 ≤ F 6 (h m) ∧ F 6 (h m) < F m (h m)) ∧
  ∀ P : (Nat → Int) → Prop, Cl P → ((∀ k, i ≤ k → k < N → P (H k)) ↔ (P (F 6) ∧ ∀ k, i ≤ k → k < N → k ≠ cs → P (F k)))
theorem PI_start {N cs G : Nat} {H F : Nat → Nat → Int} {h : Nat → Nat} {p : Nat → Int} (hH : Hnf N H h) (hN : N ≤ 6) (hG : 1 ≤ G) (hc : cs < N) (hF : ∀ k, k < N → F k = H k) (h6 : F 6 = H cs) (g0 : gn (H cs) p ≠ 0) (gG : (gn (H cs) p).natAbs ≤ G) (gz : ∀ k, cs < k → k < N → gn (H k) p = 0) : PI N cs G H h p cs F (gn (H cs) p) := by
  refine ⟨fun k hk => hF k (by omega), fun k k1 k2 k3 => ?_, ⟨fun c hcc => ?_, by rw [h6], g0, gG, fun m m1 m2 m3 => ?_⟩, fun P hP => ?_⟩
  · rw [hF k k2]
    have a := hH.1 k k2
    refine ⟨a.2.2, a.2.1, Int.le_refl _, Nat.le_mul_of_pos_left _ hG, gz k (by omega) k2, fun m m1 m2 m3 => ?_⟩
    rw [hF m m2]
    exact hH.2.2 k m m1 m2
  · rw [h6]
    exact (hH.1 cs hc).2.2 c hcc
  · rw [h6, hF m m2]
    exact hH.2.2 cs m (by omega) m2
  · constructor
    · intro q
      refine ⟨by rw [h6]; exact q cs (Nat.le_refl _) hc, fun k k1 k2 k3 => ?_⟩
      rw [hF k k2]
      exact q k k1 k2
    · rintro ⟨q1, q2⟩ k k1 k2
      by_cases z : k = cs
      · rw [z, ← h6]
        exact q1
      · rw [← hF k k2]
        exact q2 k k1 k2 z
theorem gn_0 {p : Nat → Int} {x : Nat → Int} (h : ∀ c, c < 6 → x c = 0) : gn x p = 0 := sm_0 (fun e he => by rw [h e he, Int.zero_mul])
theorem PI_step {N cs G W i : Nat} {H F : Nat → Nat → Int} {h : Nat → Nat} {p : Nat → Int} {V : Int} {ga : Nat → Int64} {f : Nat → Nat → Int64} (hH : Hnf N H h) (hN : N ≤ 6) (hG : 1 ≤ G) (hc : cs < N) (hi : i < cs) (gG : (gn (H i) p).natAbs ≤ G) (hga : ga i = zI (gn (H i) p)) (hW : ∀ k, k < N → (H k (h k)).natAbs ≤ W) (n1 : G * W < 2 ^ 63) (n2 : 3 ≤ N → 2 ^ 5 * (2 * G) * (G * W) < 2 ^ 63) (hE : ∀ k, k < 7 → E1 (f k) (F k)) (hP : PI N cs G H h p (i + 1) F V) : PI N cs G H h p i (zup (zup F i (ztA F h N i cs (gn (H i) p) V)) 6 (ztB F h N i cs (gn (H i) p) V)) (dvZ 200 (F i) (F 6) (gn (H i) p) V).2.2 ∧ (∀ k, k < 7 → E1 (sl_u (sl_u f i (ptA ga N i cs f (zI V))) 6 (ptB ga N i cs f (zI V)) k) (zup (zup F i (ztA F h N i cs (gn (H i) p) V)) 6 (ztB F h N i cs (gn (H i) p) V) k)) ∧ (dv 200 (f i) (f 6) (ga i) (zI V)).2.2 = zI (dvZ 200 (F i) (F 6) (gn (H i) p) V).2.2 := by
  obtain ⟨p1, p2, ⟨p3, p4, p5, p6, p7⟩, p8⟩ := hP
  have Fi : F i = H i := p1 i (by omega)
  generalize eg : gn (H i) p = g at *
  have hi1 := hH.1 i (by omega)
  have inc : ∀ k, i < k → k < N → h i < h k := fun k k1 k2 => hH.2.1 i k k1 k2
  have W1 : 1 ≤ W := by
    have := hW i (by omega)
    omega
  have GW : G ≤ G * W := Nat.le_mul_of_pos_right _ W1
  have rgg : rg g := by
    unfold rg
    omega
  have rgV : rg V := by
    unfold rg
    omega
  have q0 : ∀ c, c ≤ h i → F 6 c = 0 := fun c hcc => p3 c (by
    have := inc (i + 1) (by omega) (by omega)
    omega)
  have hz : ∀ c, c < h i → F i c = 0 := fun c hcc => by
    rw [Fi]
    exact hi1.2.2 c hcc
  have hF0 : F i (h i) ≠ 0 := by
    rw [Fi]
    omega
  -- the new gain of the step
  have Vg := dvZ_g (r := F i) (q := F 6) (v := V) rgg
  have V0 : 0 < (dvZ 200 (F i) (F 6) g V).2.2.natAbs := by
    rw [Vg]
    exact Nat.gcd_pos_of_pos_right _ (by omega)
  have VV : (dvZ 200 (F i) (F 6) g V).2.2.natAbs ≤ V.natAbs := by
    rw [Vg]
    exact Nat.gcd_le_right _ (by omega)
  have Kh := dvZ_K (r := F i) (q := F 6) (v := V) (c := h i) rgg
  rw [q0 (h i) (Nat.le_refl _), Int.mul_zero, Int.zero_sub, Int.natAbs_neg, Int.natAbs_mul, Int.natAbs_mul, Fi] at Kh
  have Dle : ((dvZ 200 (F i) (F 6) g V).1 (h i)).natAbs ≤ G * (H i (h i)).natAbs := by
    rw [Fi]
    refine Nat.le_trans (Nat.le_mul_of_pos_left _ (by rw [Fi] at V0; exact V0)) ?_
    rw [Kh]
    exact Nat.mul_le_mul_right _ p6
  have Dge : (H i (h i)).natAbs ≤ ((dvZ 200 (F i) (F 6) g V).1 (h i)).natAbs := by
    rw [Fi]
    refine Nat.le_of_mul_le_mul_left (c := (dvZ 200 (H i) (F 6) g V).2.2.natAbs) ?_ (by rw [Fi] at V0; exact V0)
    rw [Kh]
    rw [Fi] at VV
    exact Nat.mul_le_mul_right _ VV
  have hSh := ztS_hd rgg p5 hz hF0 q0
  have Sabs : ∀ c, (ztS F h i g V c).natAbs = ((dvZ 200 (F i) (F 6) g V).1 c).natAbs := fun c => by
    unfold ztS
    split
    · exact Int.natAbs_neg _
    · rfl
  have GWi : G * (H i (h i)).natAbs ≤ G * W := Nat.mul_le_mul_left _ (hW i (by omega))
  have Frg : ∀ k, i < k → k < N → k ≠ cs → (F k (h k)).natAbs ≤ G * W := fun k k1 k2 k3 => Nat.le_trans (p2 k k1 k2 k3).2.2.2.1 (Nat.mul_le_mul_left _ (hW k k2))
  have hd : Hd F h cs (i + 1) N := fun k k1 k2 k3 => by
    have a := p2 k k1 k2 k3
    refine ⟨(hH.1 k k2).1, a.1, a.2.1, ?_⟩
    have := Frg k k1 k2 k3
    unfold rg
    omega
  have b1 : rg ((dvZ 200 (F i) (F 6) g V).1 (h i)) := by
    unfold rg
    omega
  -- what stands at the heads behind
  have bm : ∀ m, i < m → m < N → m ≠ cs → ((dvZ 200 (F i) (F 6) g V).1 (h m)).natAbs ≤ 2 * G * (F m (h m)).natAbs ∧ ((dvZ 200 (F i) (F 6) g V).2.1 (h m)).natAbs ≤ 2 * G * (F m (h m)).natAbs := fun m m1 m2 m3 => by
    have a := p2 m m1 m2 m3
    have b := p7 m m1 m2 m3
    have c := hH.2.2 i m m1 m2
    have one : (F m (h m)).natAbs ≤ 2 * G * (F m (h m)).natAbs := Nat.le_mul_of_pos_left _ (by omega)
    have r1 : (F i (h m)).natAbs ≤ (F m (h m)).natAbs := by
      rw [Fi]
      omega
    have r2 : (F 6 (h m)).natAbs ≤ (F m (h m)).natAbs := by omega
    refine dvZ_b rgg (by omega) (by omega) ?_
    have k1 : (g * F 6 (h m)).natAbs ≤ G * (F m (h m)).natAbs := by
      rw [Int.natAbs_mul]
      exact Nat.mul_le_mul gG r2
    have k2 : (V * F i (h m)).natAbs ≤ G * (F m (h m)).natAbs := by
      rw [Int.natAbs_mul]
      exact Nat.mul_le_mul p6 r1
    have e : 2 * G * (F m (h m)).natAbs = G * (F m (h m)).natAbs + G * (F m (h m)).natAbs := by grind
    omega
  have b0 : ((dvZ 200 (F i) (F 6) g V).2.1 (h i)).natAbs ≤ G * (H i (h i)).natAbs := by
    refine (dvZ_b rgg ?_ ?_ ?_).2
    · rw [Fi]
      exact Nat.le_mul_of_pos_left _ hG
    · rw [q0 _ (Nat.le_refl _)]
      exact Nat.zero_le _
    · rw [q0 _ (Nat.le_refl _), Int.mul_zero, Int.zero_sub, Int.natAbs_neg, Int.natAbs_mul, Fi]
      exact Nat.mul_le_mul_right _ p6
  have big : ∀ e D : Nat, e ≤ 5 → 3 ≤ N → D ≤ G * W → 2 ^ e * (2 * G) * D < 2 ^ 63 := fun e D he h3 hD => by
    refine Nat.lt_of_le_of_lt ?_ (n2 h3)
    exact Nat.mul_le_mul (Nat.mul_le_mul_right _ (Nat.pow_le_pow_right (by decide) he)) hD
  have b2 : ∀ e, e < N - (i + 1) → i + 1 + e ≠ cs → rg (rxZ F h cs (ztS F h i g V) (i + 1) e (h (i + 1 + e))) := fun e he hne => by
    have l := rxZ_le (F := F) (h := h) (g := cs) (i := i + 1) (n := N - (i + 1)) (z := 2 * G) (R := ztS F h i g V) (fun e he hne => (p2 (i + 1 + e) (by omega) (by omega) hne).2.1) (fun e m h1 h2 h3 h4 => by
      have := (p2 (i + 1 + e) (by omega) (by omega) h3).2.2.2.2.2 (i + 1 + m) (by omega) (by omega) h4
      omega) (fun m hm hne => by
      rw [Sabs]
      exact (bm (i + 1 + m) (by omega) (by omega) hne).1) (k := e) e (Nat.le_refl _) he hne
    have u := big e _ (by omega) (by omega) (Frg (i + 1 + e) (by omega) (by omega) hne)
    unfold rg
    omega
  have EA := ptA_N hE hN (by omega) hga rgg rgV p5 hi1.1 hz hF0 q0 hd b1 b2
  -- the row after its turn
  obtain ⟨A1, A2⟩ := ztA_hd rgg p5 hz hF0 q0 hd inc
  have A3 : ztA F h N i cs g V (h i) = (((dvZ 200 (F i) (F 6) g V).1 (h i)).natAbs : Int) := by
    have s1 := hSh.2
    have s2 := Sabs (h i)
    rw [A2]
    omega
  have A4 : gn (ztA F h N i cs g V) p = 0 := by
    show gn (rxZ F h cs (ztS F h i g V) (i + 1) (N - (i + 1))) p = 0
    rw [rxZ_gn (fun e he hne => (p2 (i + 1 + e) (by omega) (by omega) hne).2.2.2.2.1)]
    have d := (dvZ_p (p := p) (r := F i) (q := F 6) (v := V) rgg (by rw [gn_dt, Fi]; exact eg) (by rw [gn_dt]; exact p4)).1
    rw [gn_dt] at d
    refine (ztS_P (fun x => gn x p = 0) (fun x y a hx hy => ?_)).mpr d
    show gn (fun c => x c - a * y c) p = 0
    rw [gn_lin, show gn x p = 0 from hx, show gn y p = 0 from hy, Int.mul_zero]
    rfl
  have A5 : ∀ m, i < m → m < N → m ≠ cs → 0 ≤ ztA F h N i cs g V (h m) ∧ ztA F h N i cs g V (h m) < F m (h m) := fun m m1 m2 m3 => by
    have r := rxZ_red (F := F) (h := h) (g := cs) (i := i + 1) (R := ztS F h i g V) (k := N - (i + 1)) (fun e he hne => ⟨(p2 (i + 1 + e) (by omega) (by omega) hne).1, (p2 (i + 1 + e) (by omega) (by omega) hne).2.1⟩) (fun e e2 h1 h2 => hH.2.1 _ _ (by omega) (by omega)) (m - (i + 1)) (by omega) (by omega)
    rw [show i + 1 + (m - (i + 1)) = m by omega] at r
    exact r
  have up_i : zup F i (ztA F h N i cs g V) i = ztA F h N i cs g V := if_pos rfl
  have up_k : ∀ k, k ≠ i → zup F i (ztA F h N i cs g V) k = F k := fun k hk => if_neg hk
  have Z : ∀ k, i ≤ k → k < N → k ≠ cs → (∀ c, c < h k → zup F i (ztA F h N i cs g V) k c = 0) ∧ 0 < zup F i (ztA F h N i cs g V) k (h k) ∧ H k (h k) ≤ zup F i (ztA F h N i cs g V) k (h k) ∧ (zup F i (ztA F h N i cs g V) k (h k)).natAbs ≤ G * (H k (h k)).natAbs ∧ gn (zup F i (ztA F h N i cs g V) k) p = 0 ∧ ∀ m, k < m → m < N → m ≠ cs → 0 ≤ zup F i (ztA F h N i cs g V) k (h m) ∧ zup F i (ztA F h N i cs g V) k (h m) < zup F i (ztA F h N i cs g V) m (h m) := fun k k1 k2 k3 => by
    by_cases z : k = i
    · rw [z, up_i]
      refine ⟨A1, by rw [A2]; exact hSh.2, by rw [A3]; omega, by rw [A3]; omega, A4, fun m m1 m2 m3 => ?_⟩
      rw [up_k m (by omega)]
      exact A5 m m1 m2 m3
    · rw [up_k k z]
      have a := p2 k (by omega) k2 k3
      refine ⟨a.1, a.2.1, a.2.2.1, a.2.2.2.1, a.2.2.2.2.1, fun m m1 m2 m3 => ?_⟩
      rw [up_k m (by omega)]
      exact a.2.2.2.2.2 m m1 m2 m3
  have Zrg : ∀ k, i ≤ k → k < N → k ≠ cs → (zup F i (ztA F h N i cs g V) k (h k)).natAbs ≤ G * W := fun k k1 k2 k3 => Nat.le_trans (Z k k1 k2 k3).2.2.2.1 (Nat.mul_le_mul_left _ (hW k k2))
  have hdB : Hd (zup F i (ztA F h N i cs g V)) h cs i N := fun k k1 k2 k3 => by
    have a := Z k k1 k2 k3
    refine ⟨(hH.1 k k2).1, a.1, a.2.1, ?_⟩
    have := Zrg k k1 k2 k3
    unfold rg
    omega
  have b3 : ∀ e, e < N - i → i + e ≠ cs → rg (rxZ (zup F i (ztA F h N i cs g V)) h cs (dvZ 200 (F i) (F 6) g V).2.1 i e (h (i + e))) := fun e he hne => by
    rcases Nat.eq_zero_or_pos e with z | z
    · subst z
      show rg ((dvZ 200 (F i) (F 6) g V).2.1 (h i))
      unfold rg
      omega
    · have l := rxZ_le (F := zup F i (ztA F h N i cs g V)) (h := h) (g := cs) (i := i) (n := N - i) (z := 2 * G) (R := (dvZ 200 (F i) (F 6) g V).2.1) (fun e he hne => (Z (i + e) (by omega) (by omega) hne).2.1) (fun e m h1 h2 h3 h4 => by
        have := (Z (i + e) (by omega) (by omega) h3).2.2.2.2.2 (i + m) (by omega) (by omega) h4
        omega) (fun m hm hne => by
        by_cases y : m = 0
        · subst y
          rw [Nat.add_zero, up_i, A3, Int.natAbs_natCast]
          refine Nat.le_trans b0 ?_
          have k1 := Nat.mul_le_mul_left G Dge
          have e : 2 * G * ((dvZ 200 (F i) (F 6) g V).1 (h i)).natAbs = G * ((dvZ 200 (F i) (F 6) g V).1 (h i)).natAbs + G * ((dvZ 200 (F i) (F 6) g V).1 (h i)).natAbs := by grind
          omega
        · rw [up_k (i + m) (by omega)]
          exact (bm (i + m) (by omega) (by omega) hne).2) (k := e) e (Nat.le_refl _) he hne
      have u := big e _ (by omega) (by omega) (Zrg (i + e) (by omega) (by omega) hne)
      unfold rg
      omega
  have EB := ptB_N hE hN (by omega) hga rgg rgV EA hdB b3
  have u6 : zup (zup F i (ztA F h N i cs g V)) 6 (ztB F h N i cs g V) 6 = ztB F h N i cs g V := if_pos rfl
  have uk : ∀ k, k < N → zup (zup F i (ztA F h N i cs g V)) 6 (ztB F h N i cs g V) k = zup F i (ztA F h N i cs g V) k := fun k hk => if_neg (by omega)
  have B5 : ∀ m, i ≤ m → m < N → m ≠ cs → 0 ≤ ztB F h N i cs g V (h m) ∧ ztB F h N i cs g V (h m) < zup F i (ztA F h N i cs g V) m (h m) := fun m m1 m2 m3 => by
    have r := rxZ_red (F := zup F i (ztA F h N i cs g V)) (h := h) (g := cs) (i := i) (R := (dvZ 200 (F i) (F 6) g V).2.1) (k := N - i) (fun e he hne => ⟨(Z (i + e) (by omega) (by omega) hne).1, (Z (i + e) (by omega) (by omega) hne).2.1⟩) (fun e e2 h1 h2 => hH.2.1 _ _ (by omega) (by omega)) (m - i) (by omega) (by omega)
    rw [show i + (m - i) = m by omega] at r
    exact r
  have B4 : gn (ztB F h N i cs g V) p = (dvZ 200 (F i) (F 6) g V).2.2 := by
    show gn (rxZ (zup F i (ztA F h N i cs g V)) h cs (dvZ 200 (F i) (F 6) g V).2.1 i (N - i)) p = _
    rw [rxZ_gn (fun e he hne => (Z (i + e) (by omega) (by omega) hne).2.2.2.2.1)]
    have d := (dvZ_p (p := p) (r := F i) (q := F 6) (v := V) rgg (by rw [gn_dt, Fi]; exact eg) (by rw [gn_dt]; exact p4)).2
    rw [gn_dt] at d
    exact d
  have B3 : ∀ c, c < h i → ztB F h N i cs g V c = 0 := fun c hcc => by
    show rxZ (zup F i (ztA F h N i cs g V)) h cs (dvZ 200 (F i) (F 6) g V).2.1 i (N - i) c = 0
    rw [rxZ_lo (fun e he hne => (Z (i + e) (by omega) (by omega) hne).1 c (by
      rcases Nat.eq_zero_or_pos e with z | z
      · rw [z]
        exact hcc
      · have := inc (i + e) (by omega) (by omega)
        omega))]
    exact (dvZ_lin (v := V) (fun x => x c = 0) (fun x y a hx hy => by show x c - a * y c = 0; rw [show x c = 0 from hx, show y c = 0 from hy, Int.mul_zero]; rfl) rgg (hz c hcc) (q0 c (by omega))).2
  refine ⟨⟨fun k hk => ?_, fun k k1 k2 k3 => ?_, ⟨by rw [u6]; exact B3, by rw [u6]; exact B4, by omega, by omega, fun m m1 m2 m3 => ?_⟩, fun P hPc => ?_⟩, fun k hk => ?_, ?_⟩
  · rw [uk k (by omega), up_k k (by omega)]
    exact p1 k (by omega)
  · rw [uk k k2]
    have a := Z k k1 k2 k3
    refine ⟨a.1, a.2.1, a.2.2.1, a.2.2.2.1, a.2.2.2.2.1, fun m m1 m2 m3 => ?_⟩
    rw [uk m m2]
    exact a.2.2.2.2.2 m m1 m2 m3
  · rw [u6, uk m m2]
    exact B5 m m1 m2 m3
  · have p8' := p8 P hPc
    rw [u6]
    constructor
    · intro q
      obtain ⟨s1, s2⟩ := p8'.mp (fun k k1 k2 => q k (by omega) k2)
      have t := (turn_P (F := F) (h := h) (n := N) (i := i) (g := cs) (G := g) (V := V) rgg (by omega) (by omega) P hPc (fun k k1 k2 k3 => s2 k k1 k2 k3)).mp ⟨by rw [Fi]; exact q i (Nat.le_refl _) (by omega), s1⟩
      refine ⟨t.2, fun k k1 k2 k3 => ?_⟩
      rw [uk k k2]
      by_cases z : k = i
      · rw [z, up_i]
        exact t.1
      · rw [up_k k z]
        exact s2 k (by omega) k2 k3
    · rintro ⟨q1, q2⟩ k k1 k2
      have beh : ∀ k, i < k → k < N → k ≠ cs → P (F k) := fun k k1 k2 k3 => by
        have := q2 k (by omega) k2 k3
        rw [uk k k2, up_k k (by omega)] at this
        exact this
      have qi := q2 i (Nat.le_refl _) (by omega) (by omega)
      rw [uk i (by omega), up_i] at qi
      have t := (turn_P (F := F) (h := h) (n := N) (i := i) (g := cs) (G := g) (V := V) rgg (by omega) (by omega) P hPc beh).mpr ⟨qi, q1⟩
      by_cases z : k = i
      · rw [z, ← Fi]
        exact t.1
      · exact p8'.mpr ⟨t.2, beh⟩ k (by omega) k2
  · by_cases z : k = 6
    · rw [z, sl_eq, u6]
      exact EB
    · rw [sl_ne z, show zup (zup F i (ztA F h N i cs g V)) 6 (ztB F h N i cs g V) k = zup F i (ztA F h N i cs g V) k from if_neg z]
      by_cases y : k = i
      · rw [y, sl_eq, up_i]
        exact EA
      · rw [sl_ne y, up_k k y]
        exact hE k hk
  · rw [hga]
    exact (dv_sim 200 (hE i (by omega)) (hE 6 (by omega)) rgg rgV).2.2.1
