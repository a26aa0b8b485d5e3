/-! ## Both objects on the heap, alike; a call on each -/
def CP (dA : Nat → ClassId) (h : xH) (b : Nat) (tx : Nat → Int32) (ln : Nat) (fa : Int32) (sc : Nat → Nat → Int32) (ab be : Nat → Int32) (n : Nat) (dw : Int32) (im ss : Nat → sT) (mx ct : Nat) (so : slT) : Prop := ∃ (x : rT) (pl : Int32) (rd : Nat → Int32) (kp : Int32) (ot : slT), Uv dA h b tx ln fa x pl rd (sc, ab, be, nI n, dw, kp) im ss mx ct so ot
def RP (dA : Nat → ClassId) (h : xH) (c : Nat) (tx : Nat → Int32) (ln : Nat) (fa : Int32) (st de : Nat → Int32) (d s : Nat) (ir : Nat → Int32) (se : Nat → Int64) (kp : Nat → Int32) : Prop := ∃ (pl wr dp : Int32) (su wa fc po : Nat → Int32), MS dA h c tx (nI ln) fa st de (nI d) (lN s) ir se kp pl wr dp su wa fc po
def ImR (im : Nat → sT) (ir : Nat → Int32) (se : Nat → Int64) (kp : Nat → Int32) : Prop := ∀ i, i < 2 → (kp i = 0 ∧ (im i).2.2.2.2.2 = 0) ∨ (¬ kp i = 0 ∧ ¬ (im i).2.2.2.2.2 = 0 ∧ ∃ n s, StQ (fun j => ir (69 * i + j)) (im i) n ∧ se i = lN s ∧ (im i).2.2.2.2.1 = nI s ∧ s < 2147483648)
def ReV (tx : Nat → Int32) (ln : Nat) (sc : Nat → Nat → Int32) (ab be : Nat → Int32) (n s : Nat) (im ss : Nat → sT) (mx ct : Nat) (so : slT) (st de ir : Nat → Int32) (se : Nat → Int64) (kp : Nat → Int32) : Prop := ln ≤ 60 ∧ (∀ i, i < ln → 0 ≤ (tx i).toInt) ∧ StR st sc ab be n ∧ SoR sc n so ∧ DeR de ct ss mx ∧ s < 2147483648 ∧ ImR im ir se kp
/-- both objects: the class's at b, the reference's behind it -/
def ReH (dA : Nat → ClassId) (h : xH) (b : Nat) : Prop := ∃ (tx : Nat → Int32) (ln : Nat) (fa : Int32) (sc : Nat → Nat → Int32) (ab be : Nat → Int32) (n s : Nat) (im ss : Nat → sT) (mx ct : Nat) (so : slT) (st de ir : Nat → Int32) (se : Nat → Int64) (kp : Nat → Int32), CP dA h b tx ln fa sc ab be n (nI s) im ss mx ct so ∧ RP dA h (b + 279) tx ln fa st de ct s ir se kp ∧ ReV tx ln sc ab be n s im ss mx ct so st de ir se kp
theorem md_fo {dA : Nat → ClassId} {h : xH} {b : Nat} {tx : Nat → Int32} {ln : Int32} {fa : Int32} {st : Nat → Int32} {de : Nat → Int32} {dm : Int32} {sd : Int64} {im : Nat → Int32} {se : Nat → Int64} {kp : Nat → Int32} {pl : Int32} {wr : Int32} {dp : Int32} {su : Nat → Int32} {wa : Nat → Int32} {fc : Nat → Int32} {po : Nat → Int32} {ro : Nat → Int64} {fr : Int32} {ch : Nat → Int64} {ov : Nat → Int64} (M : Md dA h b tx ln fa st de dm sd im se kp pl wr dp su wa fc po ro fr ch ov) {h1 : xH} {l1 l2 : Nat} (F : xF l1 l2 h h1) (k : b + 14 ≤ l1 ∨ l2 ≤ b) : Md dA h1 b tx ln fa st de dm sd im se kp pl wr dp su wa fc po ro fr ch ov := by
  obtain ⟨m0, m1, m2, m3, m4, m5, m6, m7, m8, m9, m10, m11, m12, m13⟩ := M
  refine ⟨?_, ?_, ?_, ?_, ?_, ?_, ?_, ?_, ?_, ?_, ?_, ?_, ?_, ?_⟩ <;> rw [F _ (by omega)] <;> assumption
theorem ms_fo {dA : Nat → ClassId} {h : xH} {b : Nat} {tx : Nat → Int32} {ln : Int32} {fa : Int32} {st : Nat → Int32} {de : Nat → Int32} {dm : Int32} {sd : Int64} {im : Nat → Int32} {se : Nat → Int64} {kp : Nat → Int32} {pl : Int32} {wr : Int32} {dp : Int32} {su : Nat → Int32} {wa : Nat → Int32} {fc : Nat → Int32} {po : Nat → Int32} (M : MS dA h b tx ln fa st de dm sd im se kp pl wr dp su wa fc po) {h1 : xH} {l1 l2 : Nat} (F : xF l1 l2 h h1) (k : b + 14 ≤ l1 ∨ l2 ≤ b) : MS dA h1 b tx ln fa st de dm sd im se kp pl wr dp su wa fc po := by
  obtain ⟨ro, fr, ch, ov, M⟩ := M
  exact ⟨ro, fr, ch, ov, md_fo M F k⟩
theorem ms_o {dA : Nat → ClassId} {h : xH} {b : Nat} {tx : Nat → Int32} {ln : Int32} {fa : Int32} {st : Nat → Int32} {de : Nat → Int32} {dm : Int32} {sd : Int64} {im : Nat → Int32} {se : Nat → Int64} {kp : Nat → Int32} {pl : Int32} {wr : Int32} {dp : Int32} {su : Nat → Int32} {wa : Nat → Int32} {fc : Nat → Int32} {po : Nat → Int32} (M : MS dA h b tx ln fa st de dm sd im se kp pl wr dp su wa fc po) : ∃ fs, h b = some (.inr (5, fs)) := by
  obtain ⟨ro, fr, ch, ov, M⟩ := M
  exact ⟨_, md_o M⟩
/-- a call on the class's object, then the same one on the reference's: they answer alike, and are alike again -/
def JC {α : Type} (mk : α → Value) (l : Launch) (D : va_G) (dA : Nat → ClassId) (b : Nat) (h : xH) (sz : Nat) (y4 : MethodName) (ws4 : List Cond) (f4 l4 : Nat) (y5 : MethodName) (ws5 : List Cond) (f5 l5 : Nat) (As : List Value) : Prop := ∃ (a : α) (Mid : xH → Prop), xMet l y4 ws4 f4 l4 0 0 D dA (.ref b :: As) h sz (fun r h1 _ => r = some (mk a) ∧ Mid h1) ∧ ∀ (h1 : xH) (sz1 : Nat), Mid h1 → (∃ fs, h1 (b + 279) = some (.inr (5, fs))) ∧ xMet l y5 ws5 f5 l5 0 0 D dA (.ref (b + 279) :: As) h1 sz1 (fun r h2 _ => r = some (mk a) ∧ ReH dA h2 b)
section
variable {l : Launch} {D : va_G} {dA : Nat → ClassId} {b : Nat} {h : xH} {sz : Nat} {v w z : Int32}
theorem ReH_o (R : ReH dA h b) : ∃ fs, h b = some (.inr (4, fs)) := by
  obtain ⟨tx, ln, fa, sc, ab, be, n, s, im, ss, mx, ct, so, st, de, ir, se, kp, ⟨x, pl, rd, kq, ot, U⟩, -, -⟩ := R
  exact ⟨_, uv_o U⟩
theorem j_feed (R : ReH dA h b) : JC Value.int l D dA b h sz yX4_feed wsX4_feed 0 0 yX5_feed wsX5_feed 1 22 [.int v] := by
  obtain ⟨tx, ln, fa, sc, ab, be, n, s, im, ss, mx, ct, so, st, de, ir, se, kp, ⟨x, pl, rd, kq, ot, U⟩, ⟨q1, q2, q3, q4, q5, q6, q7, M⟩, V⟩ := R
  have V0 := V
  obtain ⟨v1, v2, v3, v4, v5, v6, v7⟩ := V
  by_cases c : nI 0 ≤ v ∧ v ≤ nI 255
  · by_cases d : ln = 60
    · refine ⟨-1000000004, fun h1 => h = h1, c_X4_feed l D v1 U (fun q => absurd c q) (fun _ _ => ⟨rfl, rfl⟩) (fun _ q => absurd d q) trivial, fun h1 sz1 e => ?_⟩
      subst e
      refine ⟨ms_o M, ?_⟩
      obtain ⟨ro, fr, ch, ov, M1⟩ := M
      exact c_feed l D v1 M1 (fun q => absurd c q) (fun _ _ => ⟨rfl, ⟨_, _, _, _, _, _, _, _, _, _, _, _, _, _, _, _, _, _, ⟨_, _, _, _, _, U⟩, ⟨_, _, _, _, _, _, _, _, _, _, _, M1⟩, V0⟩⟩) (fun _ q => absurd d q) trivial
    · refine ⟨nI (ln + 1), fun h1 => Uv dA h1 b (upd tx ln v) (ln + 1) fa x pl rd (sc, ab, be, nI n, nI s, kq) im ss mx ct so ot ∧ xF b (b + 279) h h1, c_X4_feed l D v1 U (fun q => absurd c q) (fun _ q => absurd q d) (fun _ _ h1 sz1 U1 F => ⟨rfl, U1, F⟩) trivial, fun h1 sz1 e => ?_⟩
      obtain ⟨U1, F⟩ := e
      have M2 := ms_fo M F (by omega)
      refine ⟨ms_o M2, ?_⟩
      obtain ⟨ro, fr, ch, ov, M1⟩ := M2
      refine c_feed l D v1 M1 (fun q => absurd c q) (fun _ q => absurd q d) (fun _ _ h2 sz2 M3 F2 => ⟨rfl, ⟨_, _, _, _, _, _, _, _, _, _, _, _, _, _, _, _, _, _, ⟨_, _, _, _, _, uv_fo U1 F2 (by omega)⟩, ⟨_, _, _, _, _, _, _, _, _, _, _, M3⟩, ⟨by omega, fun i hi => ?_, v3, v4, v5, v6, v7⟩⟩⟩) trivial
      unfold upd
      by_cases e : i = ln
      · rw [if_pos e]
        have := Int32.le_iff_toInt_le.mp c.1
        rw [show (nI 0).toInt = 0 from by decide] at this
        exact this
      · rw [if_neg e]
        exact v2 i (by omega)
  · refine ⟨-1000000002, fun h1 => h = h1, c_X4_feed l D v1 U (fun _ => ⟨rfl, rfl⟩) (fun q => absurd q c) (fun q => absurd q c) trivial, fun h1 sz1 e => ?_⟩
    subst e
    refine ⟨ms_o M, ?_⟩
    obtain ⟨ro, fr, ch, ov, M1⟩ := M
    exact c_feed l D v1 M1 (fun _ => ⟨rfl, ⟨_, _, _, _, _, _, _, _, _, _, _, _, _, _, _, _, _, _, ⟨_, _, _, _, _, U⟩, ⟨_, _, _, _, _, _, _, _, _, _, _, M1⟩, V0⟩⟩) (fun q => absurd q c) (fun q => absurd q c) trivial
theorem j_wipe (R : ReH dA h b) : JC Value.int l D dA b h sz yX4_wipe wsX4_wipe 0 0 yX5_wipe wsX5_wipe 0 0 [] := by
  obtain ⟨tx, ln, fa, sc, ab, be, n, s, im, ss, mx, ct, so, st, de, ir, se, kp, ⟨x, pl, rd, kq, ot, U⟩, ⟨q1, q2, q3, q4, q5, q6, q7, M⟩, v1, v2, v3, v4, v5, v6, v7⟩ := R
  refine ⟨nI ln, fun h1 => Uv dA h1 b tx 0 fa x pl rd (sc, ab, be, nI n, nI s, kq) im ss mx ct so ot ∧ xF b (b + 279) h h1, c_X4_wipe l D U (fun h1 sz1 U1 F => ⟨rfl, U1, F⟩), fun h1 sz1 e => ?_⟩
  obtain ⟨U1, F⟩ := e
  have M2 := ms_fo M F (by omega)
  refine ⟨ms_o M2, ?_⟩
  obtain ⟨ro, fr, ch, ov, M1⟩ := M2
  exact c_wipe l D M1 (fun h2 sz2 M3 F2 => ⟨rfl, ⟨_, _, _, _, _, _, _, _, _, _, _, _, _, _, _, _, _, _, ⟨_, _, _, _, _, uv_fo U1 F2 (by omega)⟩, ⟨_, _, _, _, _, _, _, _, _, _, _, M3⟩, ⟨by omega, fun i hi => by omega, v3, v4, v5, v6, v7⟩⟩⟩)
theorem j_fault (R : ReH dA h b) : JC Value.int l D dA b h sz yX4_fault wsX4_fault 0 0 yX5_fault wsX5_fault 0 0 [] := by
  obtain ⟨tx, ln, fa, sc, ab, be, n, s, im, ss, mx, ct, so, st, de, ir, se, kp, ⟨x, pl, rd, kq, ot, U⟩, ⟨q1, q2, q3, q4, q5, q6, q7, M⟩, V⟩ := R
  refine ⟨fa, fun h1 => h = h1, c_X4_fault l D U ⟨rfl, rfl⟩, fun h1 sz1 e => ?_⟩
  subst e
  refine ⟨ms_o M, ?_⟩
  obtain ⟨ro, fr, ch, ov, M1⟩ := M
  exact c_fault l D M1 ⟨rfl, ⟨_, _, _, _, _, _, _, _, _, _, _, _, _, _, _, _, _, _, ⟨_, _, _, _, _, U⟩, ⟨_, _, _, _, _, _, _, _, _, _, _, M1⟩, V⟩⟩
theorem j_told (R : ReH dA h b) : JC Value.int l D dA b h sz yX4_told wsX4_told 6 158 yX5_told wsX5_told 7 170 [.int v] := by
  obtain ⟨tx, ln, fa, sc, ab, be, n, s, im, ss, mx, ct, so, st, de, ir, se, kp, ⟨x, pl, rd, kq, ot, U⟩, ⟨q1, q2, q3, q4, q5, q6, q7, M⟩, V⟩ := R
  have V0 := V
  obtain ⟨v1, v2, v3, v4, v5, v6, v7⟩ := V
  obtain ⟨F, S, hh, X, hZ, hA⟩ := al_ans v3
  by_cases c : nI 0 ≤ v ∧ v ≤ nI 8
  · obtain ⟨k, -, k8, rfl⟩ := in_nat2 (by omega) (by decide) c
    refine ⟨tlA sc n so ot ln ct k, fun h1 => (∃ ot1, Uv dA h1 b tx ln fa x pl rd (sc, ab, be, nI n, nI s, kq) im ss mx ct so ot1) ∧ xF b (b + 279) h h1, c_X4_told l D v3.2.1 (al_le v3 v4) U (fun q => absurd c q) (fun w hw e ot1 h1 sz1 U1 F1 => ?_) trivial, fun h1 sz1 e => ?_⟩
    · have := nI_inj (by omega) (by omega) e
      subst this
      exact ⟨rfl, ⟨ot1, U1⟩, F1⟩
    · obtain ⟨⟨ot1, U1⟩, F1⟩ := e
      have M2 := ms_fo M F1 (by omega)
      refine ⟨ms_o M2, c_told l D v3.1 v3.2.1 hA M2 (fun q => ?_) (fun w hw e h2 sz2 M3 F2 => ?_) trivial⟩
      · rw [nI_toInt (by omega)] at q
        omega
      · have := nI_inj (by omega) (by omega) e
        subst this
        refine ⟨?_, ⟨_, _, _, _, _, _, _, _, _, _, _, _, _, _, _, _, _, _, ⟨_, _, _, _, _, uv_fo U1 F2 (by omega)⟩, ⟨_, _, _, _, _, _, _, M3⟩, V0⟩⟩
        rw [al_told v3 hZ v4 ot ln ct hw]
  · refine ⟨-1000000002, fun h1 => h = h1, c_X4_told l D v3.2.1 (al_le v3 v4) U (fun _ => ⟨rfl, rfl⟩) (fun w hw e => absurd (by rw [e]; exact ⟨by rw [Int32.le_iff_toInt_le, nI_toInt (by omega), nI_toInt (by omega)]; omega, by rw [Int32.le_iff_toInt_le, nI_toInt (by omega), nI_toInt (by omega)]; omega⟩) c) trivial, fun h1 sz1 e => ?_⟩
    subst e
    refine ⟨ms_o M, c_told l D v3.1 v3.2.1 hA M (fun _ h2 sz2 M3 F2 => ⟨rfl, ⟨_, _, _, _, _, _, _, _, _, _, _, _, _, _, _, _, _, _, ⟨_, _, _, _, _, uv_fo U F2 (by omega)⟩, ⟨_, _, _, _, _, _, _, M3⟩, V0⟩⟩) (fun w hw e => absurd (by rw [e]; exact ⟨by rw [Int32.le_iff_toInt_le, nI_toInt (by omega), nI_toInt (by omega)]; omega, by rw [Int32.le_iff_toInt_le, nI_toInt (by omega), nI_toInt (by omega)]; omega⟩) c) trivial⟩
end
