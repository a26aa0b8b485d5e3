/-! ## adds: a saying more, the one form again -/
theorem nz_f {f i : Nat} (hf : f ≤ 5) (h0 : 0 < f) : (1 + (f + 1) * (Om (6 - f) * Om (6 - f))) * Om (5 - f) < 2 ^ 63 ∧ (0 < i → i < f → 2 ^ i * (1 + (f + 1) * (Om (6 - f) * Om (6 - f))) * Om (6 - f) < 2 ^ 63) := by
  have ff : f = 1 ∨ f = 2 ∨ f = 3 ∨ f = 4 ∨ f = 5 := by omega
  constructor
  · rcases ff with e | e | e | e | e <;> subst e <;> decide
  · intro i0 i1
    have ii : i = 1 ∨ i = 2 ∨ i = 3 ∨ i = 4 := by omega
    rcases ff with e | e | e | e | e <;> subst e <;> rcases ii with e | e | e | e <;> subst e <;> first | decide | omega
theorem Sl_cons {L : List (Nat → Int)} {b : Nat} {x p : Nat → Int} : Sl (p :: L) b x ↔ gn x p + p (6 + b) = 0 ∧ Sl L b x := by
  constructor
  · intro h
    exact ⟨h p List.mem_cons_self, fun r hr => h r (List.mem_cons_of_mem _ hr)⟩
  · rintro ⟨h1, h2⟩ r hr
    rcases List.mem_cons.mp hr with e | e
    · rw [e]
      exact h1
    · exact h2 r e
theorem EO_aK {po : Nat → Int32} {q n : Nat} {ro ov : Nat → Int64} {H : Nat → Nat → Int} (h6 : E6 n ro H) : EO n (aK po q ro ov n) (fun i => gn (H i) (fun j => (po (q + j)).toInt)) := fun i hi => by
  show (if i < n then r_dot 0 po q ro (6 * i) 6 else ov i) = _
  rw [if_pos hi, dt_N (fun j hj => h6 i hi j hj), gn_dt]
theorem ls_le {t : Nat → Int} {R : Nat → Nat → Int} {c G D : Nat} : ∀ {n : Nat}, (∀ b, b < n → (t b).natAbs ≤ G) → (∀ b, b < n → (R b c).natAbs ≤ D) → (ls t R n c).natAbs ≤ n * (G * D)
  | 0, _, _ => Nat.zero_le _
  | n + 1, h1, h2 => by
    have a := ls_le (n := n) (fun b hb => h1 b (by omega)) (fun b hb => h2 b (by omega))
    have e : (t n * R n c).natAbs ≤ G * D := by
      rw [Int.natAbs_mul]
      exact Nat.mul_le_mul (h1 n (by omega)) (h2 n (by omega))
    show (ls t R n c + t n * R n c).natAbs ≤ (n + 1) * (G * D)
    rw [Nat.add_mul, Nat.one_mul]
    omega
/-- where a saying gains something -/
theorem ad_one {L : List (Nat → Int)} {f q : Nat} {H : Nat → Nat → Int} {hH : Nat → Nat} {X : Nat → Nat → Int} {po : Nat → Int32} (C : Can L (f + 1) H hH X) (hL : Sm L) (hp : ∀ e, e < 10 → (po (q + e)).toInt.natAbs ≤ 9) (hg : ∃ b, b < f + 1 ∧ gn (H b) (fun j => (po (q + j)).toInt) ≠ 0) {ro ov c : Nat → Int64} (h6 : E6 (f + 1) ro H) (hc : EC c X) : ∃ (is : Bool) (ro2 ov2 c2 : Nat → Int64), r_ad (2 ^ 63 + 1) (f + 1) po q ro ov c = some (is, f, ro2, ov2, c2) ∧ (is = true ↔ Cons ((fun j => (po (q + j)).toInt) :: L)) ∧ (is = true → ∃ (S : Nat → Nat → Int) (h : Nat → Nat) (Y : Nat → Nat → Int), Can ((fun j => (po (q + j)).toInt) :: L) f S h Y ∧ E6 f ro2 S ∧ EC c2 Y) := by
  generalize ep : (fun j => (po (q + j)).toInt) = p at *
  have pe : ∀ j, (po (q + j)).toInt = p j := fun j => by rw [← ep]
  have hp9 : ∀ e, e < 10 → (p e).natAbs ≤ 9 := fun e he => by
    rw [← pe]
    exact hp e he
  have C0 := C
  obtain ⟨b1, b2, b3, b4⟩ := can_bd C hL hp9
  have f5 : f ≤ 5 := by omega
  rw [show 7 - (f + 1) = 6 - f by omega, show 6 - (f + 1) = 5 - f by omega] at *
  have hO := EO_aK (po := po) (q := q) (ov := ov) h6
  rw [ep] at hO
  obtain ⟨ro1, ov1, R1, o1, q1, g6, gO, n0, or1, og, gz, gh, t1, sp1, ro2, ov2, S, h, r1, r2, r3, r4⟩ := ad_rows C hL hp9 hg h6 hO
  obtain ⟨k1, A, k, nh, k2, k3⟩ := can_rows C hg r3 r4
  obtain ⟨c1, c2, c3, c4, -⟩ := C
  have hL2 : Sm (p :: L) := fun r hr e he => by
    rcases List.mem_cons.mp hr with z | z
    · rw [z]
      exact hp9 e he
    · exact hL r z e he
  have ek : f + k = 6 := k2.1
  have hW2 : hpr S h f ≤ Om (6 - f) := by
    have := cn_W k2 (fun r c hr hc => hL2 _ (k3 r hr) c (by omega))
    rw [show 6 - f = k by omega]
    exact this
  have Sh : ∀ i, i < f → (S i (h i)).natAbs ≤ Om (6 - f) := fun i hi => Nat.le_trans (hpr_at r3 hi) hW2
  have oG := @Om_le (6 - f) (by omega)
  have Srg : ∀ i, i < f → rg (S i (h i)) := fun i hi => by
    have := Sh i hi
    unfold rg
    omega
  have rr : ∀ b, b < 4 → rg (gn (X b) p + p (6 + b)) := fun b hb => by
    have := (b4 b hb).2
    unfold rg
    omega
  have ro0 : ∀ j, j < 6 → ro1 j = zI (R1 0 j) := fun j hj => by
    have := g6 0 (by omega) j hj
    rw [show 6 * 0 + j = j by omega] at this
    exact this
  have e0 : ov1 0 = zI (o1 0) := gO 0 (by omega)
  have ab := aB_t (po := po) (q := q) (ro := ro1) (c := c) (X := X) (R := R1 0) (d := o1 0) or1 n0 ro0 hc (by
    rw [ep]
    exact fun b hb => by rw [pe]; exact rr b hb) (k := 4) (Nat.le_refl _)
  rw [ep] at ab
  simp only [pe] at ab
  have cons : (∀ b, b < 4 → o1 0 ∣ gn (X b) p + p (6 + b)) ↔ Cons (p :: L) := by
    constructor
    · intro u b hb
      obtain ⟨s, hs⟩ := u b hb
      refine ⟨fun c => X b c - s * R1 0 c, Sl_cons.mpr ⟨?_, Sl_ad (c3 b hb) ((c2 _).mp (Gh_sp gh))⟩⟩
      rw [gn_lin, og, Int.mul_comm s]
      omega
    · intro u b hb
      obtain ⟨x, hx⟩ := u b hb
      obtain ⟨x1, x2⟩ := Sl_cons.mp hx
      have d1 : Sp (f + 1) R1 (fun c => x c - 1 * X b c) := (sp1 _).mp ((c2 _).mpr (Sl_sub x2 (c3 b hb)))
      obtain ⟨t, ht⟩ := d1
      have e : gn (fun c => x c - 1 * X b c) p = t 0 * o1 0 := by
        unfold gn
        rw [sm_cg (G := fun e => ls t R1 (f + 1) e * p e) (fun e he => by rw [ht e he]), ls_gain, sm_out (show 0 < f + 1 by omega), sm_0 (F := fun e => if e = 0 then 0 else t e * sm (fun e_1 => R1 e e_1 * p e_1) 6) (fun b hb => by
          by_cases z : b = 0
          · rw [if_pos z]
          · have := gz b (by omega) hb
            unfold gn at this
            rw [if_neg z, this, Int.mul_zero]), Int.add_zero, ← og]
        rfl
      rw [gn_lin] at e
      exact ⟨-t 0, by rw [Int.mul_neg, Int.mul_comm]; omega⟩
  obtain ⟨ce, hce⟩ := oF_ex (c := (aB true po q ro1 (ov1 0) c 4).2) r3 r2 Srg (Nat.le_refl f)
  have ead : r_ad (2 ^ 63 + 1) (f + 1) po q ro ov c = some ((aB true po q ro1 (ov1 0) c 4).1, f, ro2, ov2, ce) := by
    have e1 : aG (2 ^ 63 + 1) (f + 1) ro (aK po q ro ov (f + 1)) = some (true, ro1, ov1) := by
      unfold aG
      rw [if_pos (by omega)]
      exact q1
    unfold r_ad
    rw [e1]
    show (match r_or (2 ^ 63 + 1) f (aS ro1 (6 * f)) ov1 (aB true po q ro1 (ov1 0) c 4).2 with
      | none => none
      | some (ro2, ov2, c2) => some ((aB true po q ro1 (ov1 0) c 4).1, f, ro2, ov2, c2)) = _
    unfold r_or
    rw [r1]
    dsimp only
    rw [hce]
  rw [e0] at ead hce
  refine ⟨_, ro2, ov2, ce, ead, ?_, fun is => ?_⟩
  · rw [ab.1]
    exact cons
  · have dv := ab.1.mp is
    have ne := ab.2 dv
    have hY : EC (aB true po q ro1 (zI (o1 0)) c 4).2 (fun b j => X b j - (gn (X b) p + p (6 + b)).tdiv (o1 0) * R1 0 j) := fun b hb j hj => ne b hb j hj
    have slY : ∀ b, b < 4 → Sl (p :: L) b (fun j => X b j - (gn (X b) p + p (6 + b)).tdiv (o1 0) * R1 0 j) := fun b hb => by
      refine Sl_cons.mpr ⟨?_, Sl_ad (c3 b hb) ((c2 _).mp (Gh_sp gh))⟩
      have := dvd_td.mpr (dv b hb)
      rw [gn_lin, og]
      omega
    -- where heads come from
    have hd : ∀ m, m < f → ∃ l, l < f + 1 ∧ h m = hH l ∧ (H l (hH l)).natAbs ≤ (S m (h m)).natAbs := fun m hm => by
      obtain ⟨l, l1, l2, a, a1, a2⟩ := Hnf_head r3 c1 (fun i hi => ((r4 _).mp (Sp_row hi)).1) hm
      refine ⟨l, l1, l2, ?_⟩
      rw [a2, Int.natAbs_mul]
      exact Nat.le_mul_of_pos_left _ (by omega)
    have big : ∀ b l, b < 4 → l < f + 1 → (X b (hH l) - (gn (X b) p + p (6 + b)).tdiv (o1 0) * R1 0 (hH l)).natAbs ≤ (1 + (f + 1) * (Om (6 - f) * Om (6 - f))) * (H l (hH l)).natAbs := fun b l hb hl => by
      have h1 := c4 b l hb hl
      have h2 : (R1 0 (hH l)).natAbs ≤ (f + 1) * (Om (6 - f) * (H l (hH l)).natAbs) := by
        rw [gh _ (c1.1 l hl).1]
        refine ls_le (fun b hb => t1 b hb) (fun b hb => ?_)
        rcases Nat.lt_trichotomy b l with z | z | z
        · have := c1.2.2 b l z hl
          omega
        · rw [z]
          exact Nat.le_refl _
        · rw [(c1.1 b hb).2.2 _ (c1.2.1 l b z hb)]
          exact Nat.zero_le _
      have h3 : ((gn (X b) p + p (6 + b)).tdiv (o1 0)).natAbs ≤ Om (6 - f) := by
        rw [Int.natAbs_tdiv]
        exact Nat.le_trans (Nat.div_le_self _ _) (b4 b hb).2
      have h4 : ((gn (X b) p + p (6 + b)).tdiv (o1 0) * R1 0 (hH l)).natAbs ≤ Om (6 - f) * ((f + 1) * (Om (6 - f) * (H l (hH l)).natAbs)) := by
        rw [Int.natAbs_mul]
        exact Nat.mul_le_mul h3 h2
      have e : (1 + (f + 1) * (Om (6 - f) * Om (6 - f))) * (H l (hH l)).natAbs = (H l (hH l)).natAbs + Om (6 - f) * ((f + 1) * (Om (6 - f) * (H l (hH l)).natAbs)) := by grind
      rw [e]
      omega
    have rdg : ∀ b i, b < 4 → i < f → rg (yZ S h (fun j => X b j - (gn (X b) p + p (6 + b)).tdiv (o1 0) * R1 0 j) i (h i)) := fun b i hb hi => by
      have nf := @nz_f f i f5 (by omega)
      rcases Nat.eq_zero_or_pos i with z | z
      · subst z
        obtain ⟨l, l1, l2, -⟩ := hd 0 hi
        have := big b l hb l1
        show rg (X b (h 0) - (gn (X b) p + p (6 + b)).tdiv (o1 0) * R1 0 (h 0))
        rw [l2]
        have w := Nat.mul_le_mul_left (1 + (f + 1) * (Om (6 - f) * Om (6 - f))) (Nat.le_trans (hpr_at c1 l1) b2)
        unfold rg
        omega
      · have y := yZ_le (Y := fun j => X b j - (gn (X b) p + p (6 + b)).tdiv (o1 0) * R1 0 j) (z := 1 + (f + 1) * (Om (6 - f) * Om (6 - f))) r3 (fun m hm => by
          obtain ⟨l, l1, l2, l3⟩ := hd m hm
          have := big b l hb l1
          try dsimp only
          refine Nat.le_trans ?_ (Nat.mul_le_mul_left _ l3)
          rw [l2]
          exact this) (n := i) i (Nat.le_refl _) hi
        have w := Nat.mul_le_mul_left (2 ^ i * (1 + (f + 1) * (Om (6 - f) * Om (6 - f)))) (Sh i hi)
        have nf2 := nf.2 z hi
        unfold rg
        omega
    obtain ⟨c9, d1, d2⟩ := oF_sim (Y := fun b j => X b j - (gn (X b) p + p (6 + b)).tdiv (o1 0) * R1 0 j) r3 r2 Srg hY (Nat.le_refl f) rdg
    rw [hce] at d1
    cases d1
    exact ⟨S, h, _, ⟨r3, k1, fun b hb => yZ_sl (fun i hi => (k1 _).mp (Sp_row hi)) (slY b hb) (Nat.le_refl _), fun b l hb hl => yZ_red r3 (Nat.le_refl _) l hl, A, k, nh, k2, k3⟩, r2, d2⟩
