/-! ## Floors: class and reference round alike -/
theorem l_neg (x : Int64) : x < 0 ↔ x.toBitVec.msb = true := by
  rw [Int64.lt_iff_toInt_lt, BitVec.msb_eq_toInt, decide_eq_true_iff]
  exact Iff.rfl
theorem l_xor (x y : Int64) : x ^^^ y < 0 ↔ ¬ (x < 0 ↔ y < 0) := by
  rw [l_neg, l_neg, l_neg, Int64.toBitVec_xor, BitVec.msb_xor]
  cases x.toBitVec.msb <;> cases y.toBitVec.msb <;> decide
theorem l_sub0 (x y : Int64) : x - y = 0 ↔ y = x := by
  constructor
  · intro h
    have e : x - y + y = 0 + y := by rw [h]
    rw [Int64.sub_add_cancel, Int64.zero_add] at e
    exact e.symm
  · intro h
    rw [h]
    exact Int64.sub_self _
theorem fd_fl (x y : Int64) : fd_i x y = r_floor x y := by
  unfold fd_i r_floor
  by_cases z : x ^^^ y < 0 ∧ ¬ x / y * y = x
  · rw [if_pos z, if_pos ⟨fun q => z.2 ((l_sub0 _ _).mp q), (l_xor x y).mp z.1⟩]
  · rw [if_neg z, if_neg (fun q => z ⟨(l_xor x y).mpr q.2, fun r => q.1 ((l_sub0 _ _).mpr r)⟩)]
theorem fd_sim {a b : Int} (ha : rg a) (hb : rg b) (h0 : b ≠ 0) : fd_i (zI a) (zI b) = zI (flz a b) := by
  rw [fd_fl]
  exact fl_sim ha hb h0
