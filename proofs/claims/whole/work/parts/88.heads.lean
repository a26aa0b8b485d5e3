/-! ## Sums, heads, and reducing on whole numbers -/
theorem i_64 (x : Int32) : x.toInt64 = zI x.toInt := by
  apply Int64.toInt_inj.mp
  have h1 := x.toInt_lt
  have h2 := x.le_toInt
  rw [Int32.toInt_toInt64, zI_toInt (by unfold rg; omega)]
def dtZ (p r : Nat → Int) : Nat → Int
  | 0 => 0
  | j + 1 => dtZ p r j + p j * r j
theorem dt_N {po : Nat → Int32} {r : Nat → Int64} {R : Nat → Int} {a q : Nat} : ∀ {n : Nat}, (∀ j, j < n → r (q + j) = zI (R j)) → r_dot 0 po a r q n = zI (dtZ (fun j => (po (a + j)).toInt) R n)
  | 0, _ => rfl
  | n + 1, h => by
    show r_dot 0 po a r q n + (po (a + n)).toInt64 * r (q + n) = zI (dtZ (fun j => (po (a + j)).toInt) R n + (po (a + n)).toInt * R n)
    rw [dt_N (fun j hj => h j (by omega)), h n (by omega), i_64, zI_mul, zI_add]
theorem dtZ_lin {p x y : Nat → Int} {a : Int} : ∀ {n : Nat}, dtZ p (fun c => x c - a * y c) n = dtZ p x n - a * dtZ p y n
  | 0 => by
    show (0 : Int) = 0 - a * 0
    omega
  | n + 1 => by
    show dtZ p (fun c => x c - a * y c) n + p n * (x n - a * y n) = dtZ p x n + p n * x n - a * (dtZ p y n + p n * y n)
    rw [dtZ_lin]
    grind
/-- a head: the first that is not nothing -/
theorem hd_N {r : Nat → Int64} {R : Nat → Int} {q h : Nat} : ∀ {k j : Nat}, j ≤ h → h < j + k → (∀ c, j ≤ c → c ≤ h → r (q + c) = zI (R c) ∧ rg (R c)) → (∀ c, j ≤ c → c < h → R c = 0) → R h ≠ 0 → r_hd r q j k = h
  | 0, j, h1, h2, _, _, _ => by omega
  | k + 1, j, h1, h2, hr, hz, hn => by
    unfold r_hd
    rcases Nat.eq_or_lt_of_le h1 with e | e
    · subst e
      have := hr j (Nat.le_refl _) (Nat.le_refl _)
      rw [if_neg (fun q => hn ((zI_eq0 this.2).mp (this.1 ▸ q)))]
    · have := hr j (Nat.le_refl _) h1
      rw [if_pos (by rw [this.1, hz j (Nat.le_refl _) e]; rfl)]
      exact hd_N (by omega) (by omega) (fun c c1 c2 => hr c (by omega) c2) (fun c c1 c2 => hz c (by omega) c2) hn
theorem hd_no {r : Nat → Int64} {q : Nat} : ∀ {k j : Nat}, (∀ c, j ≤ c → c < j + k → r (q + c) = 0) → r_hd r q j k = j + k
  | 0, j, _ => rfl
  | k + 1, j, h => by
    unfold r_hd
    rw [if_pos (h j (Nat.le_refl _) (by omega)), hd_no (fun c c1 c2 => h c (by omega) (by omega))]
    omega
/-- reduce by one row: so often off that the head's place is in 0 .. head - 1 -/
theorem rx_N {f : Nat → Nat → Int64} {r : Nat → Int64} {F : Nat → Nat → Int} {R : Nat → Int} {g i h : Nat} (hf : E1 (f i) (F i)) (hr : E1 r R) (hi : i ≠ g) (h6 : h < 6) (hz : ∀ c, c < h → F i c = 0) (hn : F i h ≠ 0) (hg : rg (F i h)) (hR : rg (R h)) : E1 (rx_1 f g r i) (fun c => R c - flz (R h) (F i h) * F i c) := by
  have hh : r_hd (f i) 0 0 6 = h := hd_N (R := F i) (Nat.zero_le _) (by omega) (fun c _ c2 => by
    rw [Nat.zero_add]
    refine ⟨hf c (by omega), ?_⟩
    rcases Nat.eq_or_lt_of_le c2 with e | e
    · rw [e]
      exact hg
    · rw [hz c e]
      exact rg_0) (fun c _ c2 => hz c c2) hn
  unfold rx_1
  rw [hh, if_neg (fun q => by omega), hf h h6, hr h h6, fd_sim hR hg hn]
  exact E1_at hr hf
theorem rx_g {f : Nat → Nat → Int64} {r : Nat → Int64} {g : Nat} : rx_1 f g r g = r := if_pos (Or.inl rfl)
