/-! ## makeHeadPositive, lacksAreTimes on whole numbers -/
theorem mh_N {f : Nat → Int64} {F : Nat → Int} {h : Nat} (hf : E1 f F) (h6 : h < 6) (hz : ∀ c, c < h → F c = 0) (hn : F h ≠ 0) (hg : rg (F h)) : E1 (mh_f f) (fun c => if F h < 0 then -F c else F c) := by
  have hh : r_hd f 0 0 6 = h := hd_N (R := F) (Nat.zero_le _) (by omega) (fun c _ c2 => by
    rw [Nat.zero_add]
    refine ⟨hf c (by omega), ?_⟩
    rcases Nat.eq_or_lt_of_le c2 with e | e
    · rw [e]
      exact hg
    · rw [hz c e]
      exact rg_0) (fun c _ c2 => hz c c2) hn
  intro c hc
  show mh_f f c = zI (if F h < 0 then -F c else F c)
  unfold mh_f
  rw [hh, hf h h6, ← zI_0]
  by_cases z : F h < 0
  · rw [if_pos ⟨h6, (zI_lt hg rg_0).mpr z⟩, if_pos z]
    unfold mn_s
    by_cases y : h ≤ c ∧ c < 6
    · rw [if_pos y, hf c hc]
      exact (Int64.ofInt_neg _).symm
    · rw [if_neg y, hf c hc, hz c (by omega)]
      rfl
  · rw [if_neg (fun q => z ((zI_lt hg rg_0).mp q.2)), if_neg z]
    exact hf c hc
theorem lt_rN {la : Nat → Int64} {L : Int} {d b : Nat} (hL : la b = zI L) (hr : rg L) (hd : d < 2 ^ 63) : lt_r la (zI d) b = 0 ↔ (d : Int) ∣ L := by
  have rd : rg (d : Int) := by
    unfold rg
    omega
  unfold lt_r
  by_cases z : d = 0
  · subst z
    rw [if_pos (show zI ((0 : Nat) : Int) = 0 from rfl), hL, zI_eq0 hr]
    exact Int.zero_dvd.symm
  · rw [if_neg (fun q => z (by have := (zI_eq0 rd).mp q; omega)), hL, zI_d hr rd, zI_mul, zI_sub]
    have e := td_na L d
    have rg1 : rg (L - L.tdiv d * d) := by
      unfold rg at *
      rw [e]
      exact Nat.lt_of_le_of_lt (Nat.mod_le _ _) hr
    rw [zI_eq0 rg1, ← Int.natAbs_eq_zero, e, Int.natAbs_natCast, ← Nat.dvd_iff_mod_eq_zero, ← Int.natAbs_dvd_natAbs, Int.natAbs_natCast]
/-- agrees: the lacks are times of the common gain; follows: no gain and no lack -/
theorem lt_N {la : Nat → Int64} {L : Nat → Int} {d : Nat} (hL : ∀ b, b < 4 → la b = zI (L b) ∧ rg (L b)) (hd : d < 2 ^ 63) : lt_b la (zI d) = true ↔ ∀ b, b < 4 → (d : Int) ∣ L b := by
  rw [lt_b_iff]
  exact ⟨fun h b hb => (lt_rN (hL b hb).1 (hL b hb).2 hd).mp (h b hb), fun h b hb => (lt_rN (hL b hb).1 (hL b hb).2 hd).mpr (h b hb)⟩
theorem ag_N {po : Nat → Int32} {f lo : Nat → Nat → Int64} {ga la : Nat → Int64} {n : Nat} {g L : Nat → Int} (hg : ∀ i, i < n → wg_g po f ga n i = zI (g i) ∧ rg (g i)) (hL : ∀ b, b < 4 → wg_l po lo la 4 b = zI (L b) ∧ rg (L b)) : ag_b po f lo ga la n = true ↔ ∀ b, b < 4 → (gcN g n : Int) ∣ L b := by
  unfold ag_b
  rw [cg_N hg]
  exact lt_N hL (gcN_lt (fun i hi => (hg i hi).2))
theorem im_N {po : Nat → Int32} {f lo : Nat → Nat → Int64} {ga la : Nat → Int64} {n : Nat} {g L : Nat → Int} (hg : ∀ i, i < n → wg_g po f ga n i = zI (g i) ∧ rg (g i)) (hL : ∀ b, b < 4 → wg_l po lo la 4 b = zI (L b) ∧ rg (L b)) : im_b po f lo ga la n = true ↔ (∀ i, i < n → g i = 0) ∧ ∀ b, b < 4 → L b = 0 := by
  have hlt := gcN_lt (g := g) (j := n) (fun i hi => (hg i hi).2)
  unfold im_b
  rw [cg_N hg, Bool.and_eq_true, decide_eq_true_iff, zI_eq0 (by unfold rg; omega)]
  have e1 := lt_N (d := 0) hL (by decide)
  rw [show zI ((0 : Nat) : Int) = 0 from rfl] at e1
  rw [e1]
  constructor
  · intro h
    refine ⟨fun i hi => ?_, fun b hb => Int.zero_dvd.mp (h.2 b hb)⟩
    have := gcN_dvd (g := g) (j := n) i hi
    rw [show gcN g n = 0 by omega] at this
    have := Nat.eq_zero_of_zero_dvd this
    omega
  · intro h
    refine ⟨?_, fun b hb => Int.zero_dvd.mpr (h.2 b hb)⟩
    have := gcN_gr (g := g) (j := n) (d := 0) (fun i hi => by rw [h.1 i hi]; exact Nat.dvd_refl 0)
    have := Nat.eq_zero_of_zero_dvd this
    omega
