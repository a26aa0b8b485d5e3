/-! ## put: one free row's turn on whole numbers -/
/-- the row without gain, its head made positive -/
def ztS (F : Nat → Nat → Int) (h : Nat → Nat) (i : Nat) (G V : Int) : Nat → Int := fun c => if (dvZ 200 (F i) (F 6) G V).1 (h i) < 0 then -(dvZ 200 (F i) (F 6) G V).1 c else (dvZ 200 (F i) (F 6) G V).1 c
def ztA (F : Nat → Nat → Int) (h : Nat → Nat) (n i g : Nat) (G V : Int) : Nat → Int := rxZ F h g (ztS F h i G V) (i + 1) (n - (i + 1))
def zup (F : Nat → Nat → Int) (k : Nat) (r : Nat → Int) : Nat → Nat → Int := fun i => if i = k then r else F i
def ztB (F : Nat → Nat → Int) (h : Nat → Nat) (n i g : Nat) (G V : Int) : Nat → Int := rxZ (zup F i (ztA F h n i g G V)) h g (dvZ 200 (F i) (F 6) G V).2.1 i (n - i)
/-- heads of rows i.. n-1 are where h says, but for row g -/
def Hd (F : Nat → Nat → Int) (h : Nat → Nat) (g i n : Nat) : Prop := ∀ k, i ≤ k → k < n → k ≠ g → h k < 6 ∧ (∀ c, c < h k → F k c = 0) ∧ 0 < F k (h k) ∧ rg (F k (h k))
theorem ztS_hd {F : Nat → Nat → Int} {h : Nat → Nat} {i : Nat} {G V : Int} (hG : rg G) (hV : V ≠ 0) (hz : ∀ c, c < h i → F i c = 0) (hn : F i (h i) ≠ 0) (hq : ∀ c, c ≤ h i → F 6 c = 0) : (∀ c, c < h i → ztS F h i G V c = 0) ∧ 0 < ztS F h i G V (h i) := by
  obtain ⟨h1, h2⟩ := dvZ_hd hG hV hz hn hq
  refine ⟨fun c hc => ?_, ?_⟩
  · unfold ztS
    rw [h1 c hc]
    split <;> rfl
  · unfold ztS
    split <;> omega
theorem ptA_N {ga : Nat → Int64} {n i g : Nat} {f : Nat → Nat → Int64} {F : Nat → Nat → Int} {h : Nat → Nat} {G V : Int} (hE : ∀ k, k < 7 → E1 (f k) (F k)) (hn : n ≤ 6) (hi : i < n) (hga : ga i = zI G) (hG : rg G) (hV : rg V) (V0 : V ≠ 0) (h6 : h i < 6) (hz : ∀ c, c < h i → F i c = 0) (hF : F i (h i) ≠ 0) (hq : ∀ c, c ≤ h i → F 6 c = 0) (hd : Hd F h g (i + 1) n) (b1 : rg ((dvZ 200 (F i) (F 6) G V).1 (h i))) (b2 : ∀ e, e < n - (i + 1) → i + 1 + e ≠ g → rg (rxZ F h g (ztS F h i G V) (i + 1) e (h (i + 1 + e)))) : E1 (ptA ga n i g f (zI V)) (ztA F h n i g G V) := by
  have hd1 := dv_sim 200 (hE i (by omega)) (hE 6 (by omega)) hG hV
  obtain ⟨z1, z2⟩ := dvZ_hd hG V0 hz hF hq
  unfold ptA
  rw [hga]
  refine rx_sN (h := h) (R := ztS F h i G V) (mh_N hd1.1 h6 z1 z2 b1) (fun e he hne => ?_)
  obtain ⟨a1, a2, a3, a4⟩ := hd (i + 1 + e) (by omega) (by omega) hne
  exact ⟨hE _ (by omega), a1, a2, by omega, a4, b2 e he hne⟩
theorem ptB_N {ga : Nat → Int64} {n i g : Nat} {f : Nat → Nat → Int64} {F : Nat → Nat → Int} {h : Nat → Nat} {G V : Int} (hE : ∀ k, k < 7 → E1 (f k) (F k)) (hn : n ≤ 6) (hi : i < n) (hga : ga i = zI G) (hG : rg G) (hV : rg V) (hA : E1 (ptA ga n i g f (zI V)) (ztA F h n i g G V)) (hd : Hd (zup F i (ztA F h n i g G V)) h g i n) (b2 : ∀ e, e < n - i → i + e ≠ g → rg (rxZ (zup F i (ztA F h n i g G V)) h g (dvZ 200 (F i) (F 6) G V).2.1 i e (h (i + e)))) : E1 (ptB ga n i g f (zI V)) (ztB F h n i g G V) := by
  have hd1 := dv_sim 200 (hE i (by omega)) (hE 6 (by omega)) hG hV
  unfold ptB
  refine rx_sN (h := h) (F := zup F i (ztA F h n i g G V)) (by rw [hga]; exact hd1.2.1) (fun e he hne => ?_)
  obtain ⟨a1, a2, a3, a4⟩ := hd (i + e) (by omega) (by omega) hne
  refine ⟨?_, a1, a2, by omega, a4, b2 e he hne⟩
  by_cases z : i + e = i
  · rw [z, sl_eq, show zup F i (ztA F h n i g G V) i = ztA F h n i g G V from if_pos rfl]
    exact hA
  · rw [sl_ne z, show zup F i (ztA F h n i g G V) (i + e) = F (i + e) from if_neg z]
    exact hE _ (by omega)
/-- the row of i after its turn: head where it was, reduced by the rows behind -/
theorem ztA_hd {F : Nat → Nat → Int} {h : Nat → Nat} {n i g : Nat} {G V : Int} (hG : rg G) (hV : V ≠ 0) (hz : ∀ c, c < h i → F i c = 0) (hF : F i (h i) ≠ 0) (hq : ∀ c, c ≤ h i → F 6 c = 0) (hd : Hd F h g (i + 1) n) (ho : ∀ k, i < k → k < n → h i < h k) : (∀ c, c < h i → ztA F h n i g G V c = 0) ∧ ztA F h n i g G V (h i) = ztS F h i G V (h i) := by
  have z := ztS_hd hG hV hz hF hq
  have key : ∀ c, c ≤ h i → ztA F h n i g G V c = ztS F h i G V c := fun c hc => rxZ_lo (fun e he hne => by
    have := ho (i + 1 + e) (by omega) (by omega)
    exact (hd (i + 1 + e) (by omega) (by omega) hne).2.1 c (by omega))
  exact ⟨fun c hc => by rw [key c (by omega)]; exact z.1 c hc, key _ (Nat.le_refl _)⟩
