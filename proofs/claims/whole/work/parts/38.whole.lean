/-! ## The class: whole (what is converted, by a law) -/
def cw_q (u d : Int64) (w : Nat) : Prop := (w = 1 ∧ 0 < 2 * (u - u / d * d)) ∨ (w = 2 ∧ d ≤ 2 * (u - u / d * d)) ∨ (w = 3 ∧ (d < 2 * (u - u / d * d) ∨ (2 * (u - u / d * d) = d ∧ ¬ u / d - u / d / 2 * 2 = 0)))
set_option maxRecDepth 100000 in
set_option maxHeartbeats 4000000 in
/-- whole -/
theorem c_X4_whole (l : Launch) (D : va_G) {dA : Nat → ClassId} {u d : Int64} {w : Nat} {h : xH} {sz : Nat} {Post : Option Value → xH → Nat → Prop} (hd : 0 < d) (hw : w ≤ 3) (hp1 : cw_q u d w → Post (some (.long (u / d + 1))) h sz) (hp2 : ¬ cw_q u d w → Post (some (.long (u / d))) h sz) (hpost : True) : xMet l yX4_whole wsX4_whole 0 0 0 0 D dA [.long u, .long d, .int (nI w)] h sz Post := by
  refine x_open (cc := cX4_whole) (maxL := 10) (ret := (some .long)) (by decide) rfl (Nat.le_of_ble_eq_true rfl) ?_
  intro p e s m args below meth c G _
  have hd0 : ¬ d = 0 := fun z => by rw [z] at hd; exact absurd hd (by decide)
  refine x_lload_n G dX4_whole_0 rfl ?_
  refine x_lconstV (v := 0) G dX4_whole_1 (by decide) ?_
  refine x_lcmp G dX4_whole_2 ?_
  refine x_if_gt G 10 dX4_whole_3 (by decide) (fun c_3 => ?_) (fun c_3 => ?_)
  · clear c_3
    refine x_lload_n G dX4_whole_10 rfl ?_
    refine x_lload_n G dX4_whole_11 rfl ?_
    refine x_ldiv G dX4_whole_12 hd0 ?_
    refine x_lstore G dX4_whole_13 (by decide) ?_
    refine x_ldc2_w G (2) (by decide +kernel) dX4_whole_15 ?_
    refine x_lload_n G dX4_whole_18 rfl ?_
    refine x_lload_n G dX4_whole_19 rfl ?_
    refine x_lrem G dX4_whole_20 hd0 ?_
    refine x_lmul G dX4_whole_21 ?_
    refine x_lstore G dX4_whole_22 (by decide) ?_
    refine x_iload G dX4_whole_24 rfl ?_
    rcases (show w = 0 ∨ w = 1 ∨ w = 2 ∨ w = 3 by omega) with rfl | rfl | rfl | rfl
    · have JT : cw_q u d 0 → xV p l e (headSpec wsX4_whole { frames := 0, cells := 0, slots := 0, locals := 0 }).room s m args below meth c D dA 10 h sz 0 0 Post 0 0 124 [(0, .long u), (2, .long d), (4, .int (nI 0)), (5, .long (u / d)), (7, .long (2 * (u - u / d * d))), (9, .int (nI 1))] [] h sz := by
        intro z
        refine x_iload G dX4_whole_124 rfl ?_
        refine x_if_eq G 136 dX4_whole_126 (by decide) (fun c_126 => ?_) (fun c_126 => ?_)
        · exact absurd c_126 (by decide)
        · refine x_lload G dX4_whole_129 rfl ?_
          refine x_lconstV (v := 1) G dX4_whole_131 (by decide) ?_
          refine x_ladd G dX4_whole_132 ?_
          refine x_goto G 138 dX4_whole_133 (by decide) ?_
          exact x_lret G dX4_whole_138 (hp1 z)
      have JF : ¬ cw_q u d 0 → xV p l e (headSpec wsX4_whole { frames := 0, cells := 0, slots := 0, locals := 0 }).room s m args below meth c D dA 10 h sz 0 0 Post 0 0 124 [(0, .long u), (2, .long d), (4, .int (nI 0)), (5, .long (u / d)), (7, .long (2 * (u - u / d * d))), (9, .int (nI 0))] [] h sz := by
        intro z
        refine x_iload G dX4_whole_124 rfl ?_
        refine x_if_eq G 136 dX4_whole_126 (by decide) (fun c_126 => ?_) (fun c_126 => ?_)
        · refine x_lload G dX4_whole_136 rfl ?_
          exact x_lret G dX4_whole_138 (hp2 z)
        · exact absurd (show nI 0 = 0 from rfl) c_126
      refine x_tableIn (off := 26) G 52 dX4_whole_26 (by decide) (by decide) (by decide) (by decide) ?_
      have e : ¬ cw_q u d 0 := fun z => by rcases z with z | z | z <;> exact absurd z.1 (by decide)
      refine x_iconstV (v := nI 0) G dX4_whole_52 (by decide) ?_
      refine x_istore G dX4_whole_53 (by decide) ?_
      refine x_goto G 124 dX4_whole_55 (by decide) ?_
      first | exact JT e | exact JF e
    · have JT : cw_q u d 1 → xV p l e (headSpec wsX4_whole { frames := 0, cells := 0, slots := 0, locals := 0 }).room s m args below meth c D dA 10 h sz 0 0 Post 0 0 124 [(0, .long u), (2, .long d), (4, .int (nI 1)), (5, .long (u / d)), (7, .long (2 * (u - u / d * d))), (9, .int (nI 1))] [] h sz := by
        intro z
        refine x_iload G dX4_whole_124 rfl ?_
        refine x_if_eq G 136 dX4_whole_126 (by decide) (fun c_126 => ?_) (fun c_126 => ?_)
        · exact absurd c_126 (by decide)
        · refine x_lload G dX4_whole_129 rfl ?_
          refine x_lconstV (v := 1) G dX4_whole_131 (by decide) ?_
          refine x_ladd G dX4_whole_132 ?_
          refine x_goto G 138 dX4_whole_133 (by decide) ?_
          exact x_lret G dX4_whole_138 (hp1 z)
      have JF : ¬ cw_q u d 1 → xV p l e (headSpec wsX4_whole { frames := 0, cells := 0, slots := 0, locals := 0 }).room s m args below meth c D dA 10 h sz 0 0 Post 0 0 124 [(0, .long u), (2, .long d), (4, .int (nI 1)), (5, .long (u / d)), (7, .long (2 * (u - u / d * d))), (9, .int (nI 0))] [] h sz := by
        intro z
        refine x_iload G dX4_whole_124 rfl ?_
        refine x_if_eq G 136 dX4_whole_126 (by decide) (fun c_126 => ?_) (fun c_126 => ?_)
        · refine x_lload G dX4_whole_136 rfl ?_
          exact x_lret G dX4_whole_138 (hp2 z)
        · exact absurd (show nI 0 = 0 from rfl) c_126
      refine x_tableIn (off := 32) G 58 dX4_whole_26 (by decide) (by decide) (by decide) (by decide) ?_
      refine x_lload G dX4_whole_58 rfl ?_
      refine x_lconstV (v := 0) G dX4_whole_60 (by decide) ?_
      refine x_lcmp G dX4_whole_61 ?_
      refine x_if_le G 69 dX4_whole_62 (by decide) (fun c_62 => ?_) (fun c_62 => ?_)
      · have e : ¬ cw_q u d 1 := fun z => by
          rcases z with z | z | z
          · exact absurd ((x_lgle _ _).mp c_62) (Int64.not_le.mpr z.2)
          · exact absurd z.1 (by decide)
          · exact absurd z.1 (by decide)
        refine x_iconstV (v := nI 0) G dX4_whole_69 (by decide) ?_
        refine x_istore G dX4_whole_70 (by decide) ?_
        refine x_goto G 124 dX4_whole_72 (by decide) ?_
        first | exact JT e | exact JF e
      · have e : cw_q u d 1 := Or.inl ⟨rfl, Int64.not_le.mp (fun z => c_62 ((x_lgle _ _).mpr z))⟩
        refine x_iconstV (v := nI 1) G dX4_whole_65 (by decide) ?_
        refine x_goto G 70 dX4_whole_66 (by decide) ?_
        refine x_istore G dX4_whole_70 (by decide) ?_
        refine x_goto G 124 dX4_whole_72 (by decide) ?_
        first | exact JT e | exact JF e
    · have JT : cw_q u d 2 → xV p l e (headSpec wsX4_whole { frames := 0, cells := 0, slots := 0, locals := 0 }).room s m args below meth c D dA 10 h sz 0 0 Post 0 0 124 [(0, .long u), (2, .long d), (4, .int (nI 2)), (5, .long (u / d)), (7, .long (2 * (u - u / d * d))), (9, .int (nI 1))] [] h sz := by
        intro z
        refine x_iload G dX4_whole_124 rfl ?_
        refine x_if_eq G 136 dX4_whole_126 (by decide) (fun c_126 => ?_) (fun c_126 => ?_)
        · exact absurd c_126 (by decide)
        · refine x_lload G dX4_whole_129 rfl ?_
          refine x_lconstV (v := 1) G dX4_whole_131 (by decide) ?_
          refine x_ladd G dX4_whole_132 ?_
          refine x_goto G 138 dX4_whole_133 (by decide) ?_
          exact x_lret G dX4_whole_138 (hp1 z)
      have JF : ¬ cw_q u d 2 → xV p l e (headSpec wsX4_whole { frames := 0, cells := 0, slots := 0, locals := 0 }).room s m args below meth c D dA 10 h sz 0 0 Post 0 0 124 [(0, .long u), (2, .long d), (4, .int (nI 2)), (5, .long (u / d)), (7, .long (2 * (u - u / d * d))), (9, .int (nI 0))] [] h sz := by
        intro z
        refine x_iload G dX4_whole_124 rfl ?_
        refine x_if_eq G 136 dX4_whole_126 (by decide) (fun c_126 => ?_) (fun c_126 => ?_)
        · refine x_lload G dX4_whole_136 rfl ?_
          exact x_lret G dX4_whole_138 (hp2 z)
        · exact absurd (show nI 0 = 0 from rfl) c_126
      refine x_tableIn (off := 49) G 75 dX4_whole_26 (by decide) (by decide) (by decide) (by decide) ?_
      refine x_lload G dX4_whole_75 rfl ?_
      refine x_lload_n G dX4_whole_77 rfl ?_
      refine x_lcmp G dX4_whole_78 ?_
      refine x_if_lt G 86 dX4_whole_79 (by decide) (fun c_79 => ?_) (fun c_79 => ?_)
      · have e : ¬ cw_q u d 2 := fun z => by
          rcases z with z | z | z
          · exact absurd z.1 (by decide)
          · exact absurd z.2 (Int64.not_le.mpr ((x_lglt _ _).mp c_79))
          · exact absurd z.1 (by decide)
        refine x_iconstV (v := nI 0) G dX4_whole_86 (by decide) ?_
        refine x_istore G dX4_whole_87 (by decide) ?_
        refine x_goto G 124 dX4_whole_89 (by decide) ?_
        first | exact JT e | exact JF e
      · have e : cw_q u d 2 := Or.inr (Or.inl ⟨rfl, Int64.not_lt.mp (fun z => c_79 ((x_lglt _ _).mpr z))⟩)
        refine x_iconstV (v := nI 1) G dX4_whole_82 (by decide) ?_
        refine x_goto G 87 dX4_whole_83 (by decide) ?_
        refine x_istore G dX4_whole_87 (by decide) ?_
        refine x_goto G 124 dX4_whole_89 (by decide) ?_
        first | exact JT e | exact JF e
    · have JT : cw_q u d 3 → xV p l e (headSpec wsX4_whole { frames := 0, cells := 0, slots := 0, locals := 0 }).room s m args below meth c D dA 10 h sz 0 0 Post 0 0 124 [(0, .long u), (2, .long d), (4, .int (nI 3)), (5, .long (u / d)), (7, .long (2 * (u - u / d * d))), (9, .int (nI 1))] [] h sz := by
        intro z
        refine x_iload G dX4_whole_124 rfl ?_
        refine x_if_eq G 136 dX4_whole_126 (by decide) (fun c_126 => ?_) (fun c_126 => ?_)
        · exact absurd c_126 (by decide)
        · refine x_lload G dX4_whole_129 rfl ?_
          refine x_lconstV (v := 1) G dX4_whole_131 (by decide) ?_
          refine x_ladd G dX4_whole_132 ?_
          refine x_goto G 138 dX4_whole_133 (by decide) ?_
          exact x_lret G dX4_whole_138 (hp1 z)
      have JF : ¬ cw_q u d 3 → xV p l e (headSpec wsX4_whole { frames := 0, cells := 0, slots := 0, locals := 0 }).room s m args below meth c D dA 10 h sz 0 0 Post 0 0 124 [(0, .long u), (2, .long d), (4, .int (nI 3)), (5, .long (u / d)), (7, .long (2 * (u - u / d * d))), (9, .int (nI 0))] [] h sz := by
        intro z
        refine x_iload G dX4_whole_124 rfl ?_
        refine x_if_eq G 136 dX4_whole_126 (by decide) (fun c_126 => ?_) (fun c_126 => ?_)
        · refine x_lload G dX4_whole_136 rfl ?_
          exact x_lret G dX4_whole_138 (hp2 z)
        · exact absurd (show nI 0 = 0 from rfl) c_126
      refine x_tableOut G 92 dX4_whole_26 (by decide) (by decide) ?_
      refine x_lload G dX4_whole_92 rfl ?_
      refine x_lload_n G dX4_whole_94 rfl ?_
      refine x_lcmp G dX4_whole_95 ?_
      refine x_if_gt G 117 dX4_whole_96 (by decide) (fun c_96 => ?_) (fun c_96 => ?_)
      · have e : cw_q u d 3 := Or.inr (Or.inr ⟨rfl, Or.inl ((x_lggt _ _).mp c_96)⟩)
        refine x_iconstV (v := nI 1) G dX4_whole_117 (by decide) ?_
        refine x_goto G 122 dX4_whole_118 (by decide) ?_
        refine x_istore G dX4_whole_122 (by decide) ?_
        first | exact JT e | exact JF e
      · have e1 : ¬ d < 2 * (u - u / d * d) := fun z => c_96 ((x_lggt _ _).mpr z)
        refine x_lload G dX4_whole_99 rfl ?_
        refine x_lload_n G dX4_whole_101 rfl ?_
        refine x_lcmp G dX4_whole_102 ?_
        refine x_if_ne G 121 dX4_whole_103 (by decide) (fun c_103 => ?_) (fun c_103 => ?_)
        · have e : ¬ cw_q u d 3 := fun z => by
            rcases z with z | z | ⟨-, z | z⟩
            · exact absurd z.1 (by decide)
            · exact absurd z.1 (by decide)
            · exact e1 z
            · exact c_103 ((x_lgeq _ _).mpr z.1)
          refine x_iconstV (v := nI 0) G dX4_whole_121 (by decide) ?_
          refine x_istore G dX4_whole_122 (by decide) ?_
          first | exact JT e | exact JF e
        · have e2 := (x_lgeq _ _).mp c_103
          refine x_lload G dX4_whole_106 rfl ?_
          refine x_ldc2_w G (2) (by decide +kernel) dX4_whole_108 ?_
          refine x_lrem G dX4_whole_111 (by decide) ?_
          refine x_lconstV (v := 0) G dX4_whole_112 (by decide) ?_
          refine x_lcmp G dX4_whole_113 ?_
          refine x_if_eq G 121 dX4_whole_114 (by decide) (fun c_114 => ?_) (fun c_114 => ?_)
          · have e : ¬ cw_q u d 3 := fun z => by
              rcases z with z | z | ⟨-, z | z⟩
              · exact absurd z.1 (by decide)
              · exact absurd z.1 (by decide)
              · exact e1 z
              · exact z.2 ((x_lgeq _ _).mp c_114)
            refine x_iconstV (v := nI 0) G dX4_whole_121 (by decide) ?_
            refine x_istore G dX4_whole_122 (by decide) ?_
            first | exact JT e | exact JF e
          · have e : cw_q u d 3 := Or.inr (Or.inr ⟨rfl, Or.inr ⟨e2, fun z => c_114 ((x_lgeq _ _).mpr z)⟩⟩)
            refine x_iconstV (v := nI 1) G dX4_whole_117 (by decide) ?_
            refine x_goto G 122 dX4_whole_118 (by decide) ?_
            refine x_istore G dX4_whole_122 (by decide) ?_
            first | exact JT e | exact JF e
  · exact absurd ((x_lggt _ _).mpr hd) c_3
