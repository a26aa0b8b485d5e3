/-! ## put: all of it, to the one form -/
theorem zI_neg (a : Int) : -(zI a) = zI (-a) := (Int64.ofInt_neg a).symm
theorem zI_id (x : Int64) : zI x.toInt = x := Int64.ofInt_toInt x
theorem pt_no {ga : Nat → Int64} {n : Nat} {f : Nat → Nat → Int64} {v : Int64} : ∀ {k : Nat}, (∀ i, i < k → ga i = 0) → pt_s ga n k (none, f, v) = (none, f, v)
  | 0, _ => rfl
  | k + 1, h => by
    show pt_s ga n k (if ga k = 0 then (none, f, v) else (some k, sl_u f 6 (va_cpy (f k) (f 6) 0 0 6), ga k)) = _
    rw [if_pos (h k (by omega))]
    exact pt_no (fun i hi => h i (by omega))
theorem pt_cs {ga : Nat → Int64} {n cs : Nat} {f : Nat → Nat → Int64} {v : Int64} (h0 : ga cs ≠ 0) : ∀ {k : Nat}, cs < k → (∀ i, cs < i → i < k → ga i = 0) → pt_s ga n k (none, f, v) = pt_s ga n cs (some cs, sl_u f 6 (va_cpy (f cs) (f 6) 0 0 6), ga cs)
  | 0, h, _ => by omega
  | k + 1, h, hz => by
    show pt_s ga n k (if ga k = 0 then (none, f, v) else (some k, sl_u f 6 (va_cpy (f k) (f 6) 0 0 6), ga k)) = _
    rcases Nat.eq_or_lt_of_le (show cs ≤ k by omega) with e | e
    · subst e
      rw [if_neg h0]
    · rw [if_pos (hz k e (by omega))]
      exact pt_cs h0 e (fun i h1 h2 => hz i h1 (by omega))
theorem pt_so {N cs G W : Nat} {H : Nat → Nat → Int} {h : Nat → Nat} {p : Nat → Int} {ga : Nat → Int64} (hH : Hnf N H h) (hN : N ≤ 6) (hG : 1 ≤ G) (hc : cs < N) (gG : ∀ i, i < N → (gn (H i) p).natAbs ≤ G) (hga : ∀ i, i < N → ga i = zI (gn (H i) p)) (hW : ∀ k, k < N → (H k (h k)).natAbs ≤ W) (n1 : G * W < 2 ^ 63) (n2 : 3 ≤ N → 2 ^ 5 * (2 * G) * (G * W) < 2 ^ 63) : ∀ {i : Nat} {F : Nat → Nat → Int} {f : Nat → Nat → Int64} {V : Int}, i ≤ cs → (∀ k, k < 7 → E1 (f k) (F k)) → PI N cs G H h p i F V → ∃ (F9 : Nat → Nat → Int) (f9 : Nat → Nat → Int64) (V9 : Int), pt_s ga N i (some cs, f, zI V) = (some cs, f9, zI V9) ∧ (∀ k, k < 7 → E1 (f9 k) (F9 k)) ∧ PI N cs G H h p 0 F9 V9
  | 0, F, f, V, _, hE, hP => ⟨F, f, V, rfl, hE, hP⟩
  | i + 1, F, f, V, hi, hE, hP => by
    obtain ⟨s1, s2, s3⟩ := PI_step (ga := ga) (f := f) hH hN hG hc (show i < cs by omega) (gG i (by omega)) (hga i (by omega)) hW n1 n2 hE hP
    show ∃ (F9 : Nat → Nat → Int) (f9 : Nat → Nat → Int64) (V9 : Int), pt_s ga N i (pt_g ga N i cs f (zI V)) = (some cs, f9, zI V9) ∧ (∀ k, k < 7 → E1 (f9 k) (F9 k)) ∧ PI N cs G H h p 0 F9 V9
    rw [pt_short (by omega) hN, s3]
    exact pt_so hH hN hG hc gG hga hW n1 n2 (by omega) s2 s1
theorem Cl_ls {P : (Nat → Int) → Prop} (hP : Cl P) (h0 : P (fun _ => 0)) {H : Nat → Nat → Int} {t : Nat → Int} : ∀ {n : Nat}, (∀ k, k < n → P (H k)) → P (fun c => ls t H n c)
  | 0, _ => h0
  | n + 1, h => by
    have a := hP _ _ (-(t n)) (Cl_ls hP h0 (t := t) (n := n) (fun k hk => h k (by omega))) (h n (by omega))
    rw [show (fun c => ls t H n c - -(t n) * H n c) = fun c => ls t H (n + 1) c from by
      funext c
      show ls t H n c - -(t n) * H n c = ls t H n c + t n * H n c
      grind] at a
    exact a
/-- the rows that stay when all turns are done -/
theorem PI_end {N cs G : Nat} {H F : Nat → Nat → Int} {h : Nat → Nat} {p : Nat → Int} {V : Int} (hH : Hnf (N + 1) H h) (hc : cs < N + 1) (hP : PI (N + 1) cs G H h p 0 F V) : Hnf N (fun i => F (io cs i)) (fun i => h (io cs i)) ∧ ∀ v, Sp N (fun i => F (io cs i)) v ↔ Sp (N + 1) H v ∧ gn v p = 0 := by
  obtain ⟨-, p2, ⟨p3, p4, p5, p6, p7⟩, p8⟩ := hP
  have io1 : ∀ i, i < N → io cs i < N + 1 ∧ io cs i ≠ cs := fun i hi => by
    unfold io
    split <;> omega
  have io2 : ∀ i k, i < k → io cs i < io cs k := fun i k hik => by
    unfold io
    split <;> split <;> omega
  have io3 : ∀ k, k < N + 1 → k ≠ cs → ∃ i, i < N ∧ io cs i = k := fun k k1 k2 => by
    rcases Nat.lt_or_ge k cs with z | z
    · exact ⟨k, by omega, if_pos z⟩
    · refine ⟨k - 1, by omega, ?_⟩
      unfold io
      rw [if_neg (by omega)]
      omega
  constructor
  · refine ⟨fun i hi => ?_, fun i k h1 h2 => hH.2.1 _ _ (io2 i k h1) (io1 k h2).1, fun i k h1 h2 => ?_⟩
    · have a := p2 _ (Nat.zero_le _) (io1 i hi).1 (io1 i hi).2
      exact ⟨(hH.1 _ (io1 i hi).1).1, a.2.1, a.1⟩
    · exact (p2 _ (Nat.zero_le _) (io1 i (by omega)).1 (io1 i (by omega)).2).2.2.2.2.2 _ (io2 i k h1) (io1 k h2).1 (io1 k h2).2
  · intro v
    constructor
    · intro q
      have all := (p8 (Sp (N + 1) H) (fun x y a hx hy => by
        have := Sp_add hx (Sp_mul (-a) hy)
        exact Sp_cg (fun c _ => by rw [Int.neg_mul]; omega) this)).mp (fun k _ k2 => Sp_row k2)
      refine ⟨Sp_sub (fun i hi => all.2 _ (Nat.zero_le _) (io1 i hi).1 (io1 i hi).2) q, Sp_gn0 (fun b hb => (p2 _ (Nat.zero_le _) (io1 b hb).1 (io1 b hb).2).2.2.2.2.1) q⟩
    · rintro ⟨⟨t, ht⟩, hz⟩
      have cl : Cl (fun x => ∃ s : Int, Sp N (fun i => F (io cs i)) (fun c => x c - s * F 6 c)) := fun x y a hx hy => by
        obtain ⟨s1, h1⟩ := hx
        obtain ⟨s2, h2⟩ := hy
        refine ⟨s1 - a * s2, Sp_cg (fun c _ => ?_) (Sp_add h1 (Sp_mul (-a) h2))⟩
        try dsimp only
        grind
      have all := (p8 _ cl).mpr ⟨⟨1, Sp_cg (fun c _ => by omega) Sp_0⟩, fun k _ k2 k3 => by
        obtain ⟨i, i1, i2⟩ := io3 k k2 k3
        refine ⟨0, Sp_cg (x := F k) (fun c _ => by omega) ?_⟩
        rw [← i2]
        exact Sp_row (R := fun i => F (io cs i)) i1⟩
      obtain ⟨s, hs⟩ := Cl_ls cl ⟨0, Sp_cg (fun c _ => by dsimp only; omega) Sp_0⟩ (t := t) (n := N + 1) (fun k k2 => all k (Nat.zero_le _) k2)
      have g1 := Sp_gn0 (p := p) (fun b hb => (p2 _ (Nat.zero_le _) (io1 b hb).1 (io1 b hb).2).2.2.2.2.1) hs
      rw [gn_lin, p4, gn_cg (y := v) (fun c hcc => (ht c hcc).symm), hz] at g1
      have s0 : s = 0 := by
        rcases Int.mul_eq_zero.mp (show s * V = 0 by omega) with y | y
        · exact y
        · exact absurd y p5
      rw [s0] at hs
      exact Sp_cg (fun c hcc => by rw [ht c hcc]; dsimp only; omega) hs
theorem nz_p {N : Nat} (h1 : 1 ≤ N) (h6 : N ≤ 6) : Om (7 - N) * Om (6 - N) < 2 ^ 63 ∧ (3 ≤ N → 2 ^ 5 * (2 * Om (7 - N)) * (Om (7 - N) * Om (6 - N)) < 2 ^ 63) ∧ ∀ e, 2 ≤ N → e < N → 2 ^ e * (1 + Om (7 - N)) * (Om (7 - N) * Om (6 - N)) < 2 ^ 63 := by
  have nn : N = 1 ∨ N = 2 ∨ N = 3 ∨ N = 4 ∨ N = 5 ∨ N = 6 := by omega
  refine ⟨?_, ?_, ?_⟩
  · rcases nn with e | e | e | e | e | e <;> subst e <;> decide
  · intro h3
    rcases nn with e | e | e | e | e | e <;> subst e <;> first | decide | omega
  · intro e h2 he
    have ee : 2 ^ e ≤ 2 ^ (N - 1) := Nat.pow_le_pow_right (by decide) (by omega)
    refine Nat.lt_of_le_of_lt (Nat.mul_le_mul_right _ (Nat.mul_le_mul_right _ ee)) ?_
    rcases nn with e | e | e | e | e | e <;> subst e <;> first | decide | omega
/-- rows, least solution and how many, as the class has them -/
def CE (u : slT) (N : Nat) (H X : Nat → Nat → Int) : Prop := u.2.2.2.2.2 = N ∧ (∀ i, i < N → E1 (u.1 i) (H i)) ∧ ∀ b, b < 4 → E1 (u.2.1 b) (X b)
def CS (u : slT) (L : List (Nat → Int)) : Prop := ∃ (N : Nat) (H : Nat → Nat → Int) (h : Nat → Nat) (X : Nat → Nat → Int), Can L N H h X ∧ CE u N H X
theorem can_same {L : List (Nat → Int)} {N : Nat} {H : Nat → Nat → Int} {hH : Nat → Nat} {X : Nat → Nat → Int} {p : Nat → Int} (C : Can L N H hH X) (hg : ∀ b, b < N → gn (H b) p = 0) (hc : Cons (p :: L)) : Can (p :: L) N H hH X := by
  obtain ⟨c1, c2, c3, c4, A, k, nh, c5, c6⟩ := C
  refine ⟨c1, fun v => ?_, fun b hb => Sl_cons.mpr ⟨?_, c3 b hb⟩, c4, A, k, nh, c5, fun r hr => List.mem_cons_of_mem _ (c6 r hr)⟩
  · rw [c2]
    constructor
    · intro u r hr
      rcases List.mem_cons.mp hr with e | e
      · rw [e]
        exact Sp_gn0 hg ((c2 v).mpr u)
      · exact u r e
    · exact fun u r hr => u r (List.mem_cons_of_mem _ hr)
  · obtain ⟨x, hx⟩ := hc b hb
    obtain ⟨x1, x2⟩ := Sl_cons.mp hx
    have d1 := Sp_gn0 hg ((c2 _).mpr (Sl_sub x2 (c3 b hb)))
    rw [gn_lin] at d1
    omega
theorem cu_N {L : List (Nat → Int)} {u : slT} {po : Nat → Int32} (C : CS u L) (hL : Sm L) (hp : ∀ e, e < 10 → (po e).toInt.natAbs ≤ 9) (hc : Cons ((fun j => (po j).toInt) :: L)) : CS (su po u) ((fun j => (po j).toInt) :: L) := by
  obtain ⟨N, H, h, X, C, e1, e2, e3⟩ := C
  obtain ⟨f, lo, ga, la, sg, n⟩ := u
  try dsimp only at e1 e2 e3
  subst e1
  generalize ep : (fun j => (po j).toInt) = p at *
  have pe : ∀ j, (po j).toInt = p j := fun j => by rw [← ep]
  have hp9 : ∀ e, e < 10 → (p e).natAbs ≤ 9 := fun e he => by
    rw [← pe]
    exact hp e he
  have C0 := C
  obtain ⟨b1, b2, b3, b4⟩ := can_bd C hL hp9
  obtain ⟨c1, c2, c3, c4, -⟩ := C
  have wg : ∀ i, i < n → wg_g po f ga n i = zI (gn (H i) p) := fun i hi => by
    rw [wg_gN hi (e2 i hi), gn_dt, ep]
  have oG7 : Om (7 - n) < 2 ^ 36 := by
    have : n = 0 ∨ 7 - n ≤ 6 := by omega
    rcases this with e | e
    · subst e
      decide
    · have := (Om_le e).2
      omega
  have gr : ∀ i, i < n → rg (gn (H i) p) := fun i hi => by
    have := (b3 i hi).2
    unfold rg
    omega
  show CS ((pu po f lo ga la sg n).1, (pu po f lo ga la sg n).2.1, wg_g po f ga n, wg_l po lo la 4, (pu po f lo ga la sg n).2.2.1, (pu po f lo ga la sg n).2.2.2) (p :: L)
  by_cases z : ∃ b, b < n ∧ gn (H b) p ≠ 0
  · obtain ⟨cs, hcs, g0, gz⟩ := last_nz (g := fun b => gn (H b) p) z
    have oG := @Om_le (7 - n) (by omega)
    obtain ⟨m1, m2, m3⟩ := @nz_p n (by omega) b1
    have hW : ∀ k, k < n → (H k (h k)).natAbs ≤ Om (6 - n) := fun k hk => (b3 k hk).1 _ (c1.1 k hk).1
    -- the start
    have E0 : ∀ k, k < 7 → E1 (sl_u f 6 (va_cpy (f cs) (f 6) 0 0 6) k) ((fun k => if k = 6 then H cs else if k < n then H k else fun c => (f k c).toInt) k) := fun k hk => by
      try dsimp only
      by_cases y : k = 6
      · rw [if_pos y, y, sl_eq]
        intro c hcc
        unfold va_cpy
        rw [if_pos (by omega), show 0 + (c - 0) = c by omega]
        exact e2 cs hcs c hcc
      · rw [if_neg y, sl_ne y]
        by_cases w : k < n
        · rw [if_pos w]
          exact e2 k w
        · rw [if_neg w]
          intro c hcc
          exact (zI_id _).symm
    have P0 : PI n cs (Om (7 - n)) H h p cs (fun k => if k = 6 then H cs else if k < n then H k else fun c => (f k c).toInt) (gn (H cs) p) := PI_start c1 b1 oG.1 hcs (fun k hk => by rw [if_neg (by omega), if_pos hk]) (by rw [if_pos rfl]) g0 (b3 cs hcs).2 gz
    obtain ⟨F9, f9, V9, q1, q2, q3⟩ := pt_so (ga := wg_g po f ga n) c1 b1 oG.1 hcs (fun i hi => (b3 i hi).2) wg hW m1 m2 (Nat.le_refl cs) E0 P0
    have ept : pt_s (wg_g po f ga n) n n (none, f, sg) = (some cs, f9, zI V9) := by
      rw [pt_cs (by rw [wg cs hcs]; exact fun y => g0 ((zI_eq0 (gr cs hcs)).mp y)) hcs (fun i i1 i2 => by rw [wg i i2, gz i i1 i2]; rfl), wg cs hcs]
      exact q1
    have epu : pu po f lo ga la sg n = (lv_f f9 cs n, ml_l f9 lo (wg_l po lo la 4) (zI V9) cs n 4, zI V9, n - 1) := by
      unfold pu
      rw [ept]
    rw [epu]
    obtain ⟨N, rfl⟩ : ∃ N, n = N + 1 := ⟨n - 1, by omega⟩
    obtain ⟨r3, r4⟩ := PI_end c1 hcs q3
    obtain ⟨k1, A, k, nh, k2, k3⟩ := can_rows C0 ⟨cs, hcs, g0⟩ r3 r4
    obtain ⟨-, p2, ⟨p3, p4, p5, p6, p7⟩, p8⟩ := q3
    have rgV : rg V9 := by
      unfold rg
      omega
    have io1 : ∀ i, i < N → io cs i < N + 1 ∧ io cs i ≠ cs := fun i hi => by
      unfold io
      split <;> omega
    have io3 : ∀ k, k < N + 1 → k ≠ cs → ∃ i, i < N ∧ io cs i = k := fun k k1 k2 => by
      rcases Nat.lt_or_ge k cs with z | z
      · exact ⟨k, by omega, if_pos z⟩
      · refine ⟨k - 1, by omega, ?_⟩
        unfold io
        rw [if_neg (by omega)]
        omega
    have FK : ∀ k, k < N + 1 → k ≠ cs → Kr (p :: L) (F9 k) := fun k hk1 hk2 => by
      obtain ⟨i, i1, i2⟩ := io3 k hk1 hk2
      have := (k1 _).mp (Sp_row (R := fun i => F9 (io cs i)) i1)
      rw [← i2]
      exact this
    have rest : ∀ b, b < 4 → rg (gn (X b) p + p (6 + b)) := fun b hb => by
      have := (b4 b hb).2
      unfold rg
      omega
    have dv : ∀ b, b < 4 → V9 ∣ gn (X b) p + p (6 + b) := fun b hb => by
      have all := (p8 (fun y => V9 ∣ gn y p) (fun x y a hx hy => by
        show V9 ∣ gn (fun c => x c - a * y c) p
        rw [gn_lin]
        exact Int.dvd_sub hx (Int.dvd_mul_of_dvd_right hy))).mpr ⟨by rw [p4]; exact Int.dvd_refl _, fun k _ hk2 hk3 => by rw [(p2 k (Nat.zero_le _) hk2 hk3).2.2.2.2.1]; exact Int.dvd_zero _⟩
      obtain ⟨x, hx⟩ := hc b hb
      obtain ⟨x1, x2⟩ := Sl_cons.mp hx
      obtain ⟨t, ht⟩ := (c2 _).mpr (Sl_sub x2 (c3 b hb))
      have key := Cl_ls (P := fun y => V9 ∣ gn y p) (fun x y a hx hy => by
        show V9 ∣ gn (fun c => x c - a * y c) p
        rw [gn_lin]
        exact Int.dvd_sub hx (Int.dvd_mul_of_dvd_right hy)) (by rw [gn_0 (fun _ _ => rfl)]; exact Int.dvd_zero _) (t := t) (n := N + 1) (fun k hk2 => all k (Nat.zero_le _) hk2)
      try dsimp only at key
      rw [gn_cg (y := fun c => x c - 1 * X b c) (fun c hcc => (ht c hcc).symm), gn_lin] at key
      have := Int.dvd_neg.mpr key
      rw [show -(gn x p - 1 * gn (X b) p) = gn (X b) p + p (6 + b) by omega] at this
      exact this
    -- what is put to the least solution
    have El : ∀ b, b < 4 → wg_l po lo la 4 b = zI (-(gn (X b) p + p (6 + b))) := fun b hb => by
      rw [wg_lN hb (e3 b hb), gn_dt, ep, pe, Int.add_comm]
    have Er : ∀ b, b < 4 → E1 (if zI V9 = 0 then lo b else at_s (lo b) (f9 6) (wg_l po lo la 4 b / zI V9) 6) (fun c => X b c - -((-(gn (X b) p + p (6 + b))).tdiv V9) * F9 6 c) := fun b hb => by
      rw [if_neg (fun y => p5 ((zI_eq0 rgV).mp y)), El b hb, zI_d (by have := rest b hb; unfold rg at *; omega) rgV]
      have := E1_at (a := -((-(gn (X b) p + p (6 + b))).tdiv V9)) (e3 b hb) (q2 6 (by omega))
      rw [zI_neg, Int.neg_neg] at this
      exact this
    have tle : ∀ b, b < 4 → (-((-(gn (X b) p + p (6 + b))).tdiv V9)).natAbs ≤ Om (7 - (N + 1)) := fun b hb => by
      rw [Int.natAbs_neg, Int.natAbs_tdiv, Int.natAbs_neg]
      exact Nat.le_trans (Nat.div_le_self _ _) (b4 b hb).2
    have Drg : ∀ k, k < N + 1 → k ≠ cs → (F9 k (h k)).natAbs ≤ Om (7 - (N + 1)) * Om (6 - (N + 1)) := fun k hk1 hk2 => Nat.le_trans (p2 k (Nat.zero_le _) hk1 hk2).2.2.2.1 (Nat.mul_le_mul_left _ (hW k hk1))
    have Em : ∀ b, b < 4 → E1 (ml_l f9 lo (wg_l po lo la 4) (zI V9) cs (N + 1) 4 b) (rxZ F9 h cs (fun c => X b c - -((-(gn (X b) p + p (6 + b))).tdiv V9) * F9 6 c) 0 (N + 1)) := fun b hb => by
      show E1 (if b < 4 then ml_1 f9 lo (wg_l po lo la 4) (zI V9) cs (N + 1) b else lo b) _
      rw [if_pos hb]
      refine rx_sN (Er b hb) (fun e he hne => ?_)
      rw [Nat.zero_add] at *
      have a := p2 e (Nat.zero_le _) he hne
      have d := Drg e he hne
      refine ⟨q2 e (by omega), (c1.1 e he).1, a.1, by omega, by unfold rg; omega, ?_⟩
      have l := rxZ_le (F := F9) (h := h) (g := cs) (i := 0) (n := N + 1) (z := 1 + Om (7 - (N + 1))) (R := fun c => X b c - -((-(gn (X b) p + p (6 + b))).tdiv V9) * F9 6 c) (fun e he hne => by
        rw [Nat.zero_add] at *
        exact (p2 e (Nat.zero_le _) he hne).2.1) (fun e m h1 h2 h3 h4 => by
        rw [Nat.zero_add] at *
        have := (p2 e (Nat.zero_le _) (by omega) h3).2.2.2.2.2 m h1 h2 h4
        rw [Nat.zero_add]
        omega) (fun m hm hne => by
        rw [Nat.zero_add] at *
        have a := p2 m (Nat.zero_le _) hm hne
        have x1 := c4 b m hb hm
        have s1 := p7 m (Nat.zero_le _) hm hne
        have t1 : (-((-(gn (X b) p + p (6 + b))).tdiv V9) * F9 6 (h m)).natAbs ≤ Om (7 - (N + 1)) * (F9 m (h m)).natAbs := by
          rw [Int.natAbs_mul]
          exact Nat.mul_le_mul (tle b hb) (by omega)
        rw [Nat.add_mul, Nat.one_mul]
        try dsimp only
        omega) (k := e) e (Nat.le_refl _) he (by omega)
      rw [Nat.zero_add] at l
      have w := m3 e (by omega) he
      have v := Nat.mul_le_mul_left (2 ^ e * (1 + Om (7 - (N + 1)))) d
      unfold rg
      omega
    have hsl : ∀ b, b < 4 → Sl (p :: L) b (fun c => X b c - -((-(gn (X b) p + p (6 + b))).tdiv V9) * F9 6 c) := fun b hb => by
      have s6 : Kr L (F9 6) := (c2 _).mp ((p8 (Sp (N + 1) H) (fun x y a hx hy => by
        have := Sp_add hx (Sp_mul (-a) hy)
        exact Sp_cg (fun c _ => by rw [Int.neg_mul]; omega) this)).mp (fun k _ hk2 => Sp_row hk2)).1
      refine Sl_cons.mpr ⟨?_, Sl_ad (c3 b hb) s6⟩
      have d := dvd_td.mpr (Int.dvd_neg.mpr (dv b hb))
      rw [gn_lin, p4, Int.neg_mul]
      omega
    have hsl2 : ∀ b, b < 4 → ∀ k, k ≤ N + 1 → Sl (p :: L) b (rxZ F9 h cs (fun c => X b c - -((-(gn (X b) p + p (6 + b))).tdiv V9) * F9 6 c) 0 k) := fun b hb k => by
      induction k with
      | zero => exact fun _ => hsl b hb
      | succ k ih =>
        intro hk
        unfold rxZ
        by_cases y : 0 + k = cs
        · rw [if_pos y]
          exact ih (by omega)
        · rw [if_neg y]
          rw [Nat.zero_add] at *
          exact Sl_ad (ih (by omega)) (FK k (by omega) y)
    have red : ∀ b l, b < 4 → l < N → 0 ≤ rxZ F9 h cs (fun c => X b c - -((-(gn (X b) p + p (6 + b))).tdiv V9) * F9 6 c) 0 (N + 1) (h (io cs l)) ∧ rxZ F9 h cs (fun c => X b c - -((-(gn (X b) p + p (6 + b))).tdiv V9) * F9 6 c) 0 (N + 1) (h (io cs l)) < F9 (io cs l) (h (io cs l)) := fun b l hb hl => by
      have r := rxZ_red (F := F9) (h := h) (g := cs) (i := 0) (R := fun c => X b c - -((-(gn (X b) p + p (6 + b))).tdiv V9) * F9 6 c) (k := N + 1) (fun e he hne => by
        rw [Nat.zero_add] at *
        exact ⟨(p2 e (Nat.zero_le _) he hne).1, (p2 e (Nat.zero_le _) he hne).2.1⟩) (fun e e2 h1 h2 => by
        rw [Nat.zero_add, Nat.zero_add]
        exact c1.2.1 _ _ h1 h2) (io cs l) (io1 l hl).1 (by
        rw [Nat.zero_add]
        exact (io1 l hl).2)
      rw [Nat.zero_add] at r
      exact r
    refine ⟨N, fun i => F9 (io cs i), fun i => h (io cs i), fun b => rxZ F9 h cs (fun c => X b c - -((-(gn (X b) p + p (6 + b))).tdiv V9) * F9 6 c) 0 (N + 1), ⟨r3, k1, fun b hb => hsl2 b hb _ (Nat.le_refl _), red, A, k, nh, k2, k3⟩, rfl, fun i hi => ?_, Em⟩
    show E1 (lv_f f9 cs (N + 1) i) (F9 (io cs i))
    have e : lv_i cs (N + 1) i = io cs i := by
      unfold lv_i io
      by_cases y : i < cs
      · rw [if_pos y, if_neg (by omega), if_neg (by omega)]
      · rw [if_neg y, if_pos (by omega)]
    unfold lv_f
    rw [e]
    exact q2 _ (by have := (io1 i hi).1; omega)
  · have hg : ∀ b, b < n → gn (H b) p = 0 := fun b hb => Decidable.of_not_not (fun q => z ⟨b, hb, q⟩)
    have ept : pt_s (wg_g po f ga n) n n (none, f, sg) = (none, f, sg) := pt_no (fun i hi => by rw [wg i hi, hg i hi]; rfl)
    have epu : pu po f lo ga la sg n = (f, lo, sg, n) := by
      unfold pu
      rw [ept]
    rw [epu]
    exact ⟨n, H, h, X, can_same C0 hg hc, rfl, e2, e3⟩
