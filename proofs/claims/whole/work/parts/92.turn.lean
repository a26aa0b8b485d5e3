/-! ## put: one free row's turn, said shortly -/
theorem rx_cg {f u : Nat → Nat → Int64} {g i : Nat} {r : Nat → Int64} : ∀ {k : Nat}, (∀ e, e < k → f (i + e) = u (i + e)) → rx_s f g r i k = rx_s u g r i k
  | 0, _ => rfl
  | k + 1, h => by
    show rx_1 f g (rx_s f g r i k) (i + k) = rx_1 u g (rx_s u g r i k) (i + k)
    rw [rx_cg (fun e he => h e (by omega))]
    unfold rx_1
    rw [h k (by omega)]
theorem sl_eq {f : Nat → Nat → Int64} {k : Nat} {r : Nat → Int64} : sl_u f k r k = r := if_pos rfl
theorem sl_ne {f : Nat → Nat → Int64} {k i : Nat} {r : Nat → Int64} (h : i ≠ k) : sl_u f k r i = f i := if_neg h
/-- the row of i after its turn -/
def ptA (ga : Nat → Int64) (n i g : Nat) (f : Nat → Nat → Int64) (v : Int64) : Nat → Int64 := rx_s f g (mh_f (dv 200 (f i) (f 6) (ga i) v).1) (i + 1) (n - (i + 1))
/-- the step after it -/
def ptB (ga : Nat → Int64) (n i g : Nat) (f : Nat → Nat → Int64) (v : Int64) : Nat → Int64 := rx_s (sl_u f i (ptA ga n i g f v)) g (dv 200 (f i) (f 6) (ga i) v).2.1 i (n - i)
theorem pt_short {ga : Nat → Int64} {n i g : Nat} {f : Nat → Nat → Int64} {v : Int64} (hi : i < n) (hn : n ≤ 6) : pt_g ga n i g f v = (some g, sl_u (sl_u f i (ptA ga n i g f v)) 6 (ptB ga n i g f v), (dv 200 (f i) (f 6) (ga i) v).2.2) := by
  unfold pt_g
  generalize hd : dv 200 (f i) (f 6) (ga i) v = d
  have e1 : rx_s (sl_u (sl_u (sl_u f i d.1) 6 d.2.1) i (mh_f d.1)) g (mh_f d.1) (i + 1) (n - (i + 1)) = ptA ga n i g f v := by
    unfold ptA
    rw [hd]
    exact rx_cg (fun e he => by rw [sl_ne (by omega), sl_ne (by omega), sl_ne (by omega)])
  rw [e1]
  have e2 : rx_s (sl_u (sl_u (sl_u (sl_u f i d.1) 6 d.2.1) i (mh_f d.1)) i (ptA ga n i g f v)) g d.2.1 i (n - i) = ptB ga n i g f v := by
    unfold ptB
    rw [hd]
    refine rx_cg (fun e he => ?_)
    by_cases z : i + e = i
    · rw [z, sl_eq, sl_eq]
    · rw [sl_ne z, sl_ne z, sl_ne (by omega), sl_ne z, sl_ne z]
  rw [e2]
  congr 2
  funext k
  by_cases z : k = 6
  · rw [z, sl_eq, sl_eq]
  · rw [sl_ne z, sl_ne z]
    by_cases y : k = i
    · rw [y, sl_eq, sl_eq]
    · rw [sl_ne y, sl_ne y, sl_ne z, sl_ne y, sl_ne y]
