theorem dX5_scale_108 : decode cX5_scale 108 = .ok (.iload 4, 2) := by decide +kernel
theorem dX5_scale_110 : decode cX5_scale 110 = .ok (.ireturn, 1) := by decide +kernel
theorem dX5_draw_0 : decode cX5_draw 0 = .ok (.aload_n 0, 1) := by decide +kernel
theorem dX5_draw_1 : decode cX5_draw 1 = .ok (.aload_n 0, 1) := by decide +kernel
theorem dX5_draw_2 : decode cX5_draw 2 = .ok (.getfield 202, 3) := by decide +kernel
theorem dX5_draw_5 : decode cX5_draw 5 = .ok (.ldc2_w 206, 3) := by decide +kernel
theorem dX5_draw_8 : decode cX5_draw 8 = .ok (.lmul, 1) := by decide +kernel
theorem dX5_draw_9 : decode cX5_draw 9 = .ok (.ldc2_w 208, 3) := by decide +kernel
theorem dX5_draw_12 : decode cX5_draw 12 = .ok (.ladd, 1) := by decide +kernel
theorem dX5_draw_13 : decode cX5_draw 13 = .ok (.ldc2_w 210, 3) := by decide +kernel
theorem dX5_draw_16 : decode cX5_draw 16 = .ok (.lrem, 1) := by decide +kernel
theorem dX5_draw_17 : decode cX5_draw 17 = .ok (.putfield 202, 3) := by decide +kernel
theorem dX5_draw_20 : decode cX5_draw 20 = .ok (.aload_n 0, 1) := by decide +kernel
theorem dX5_draw_21 : decode cX5_draw 21 = .ok (.getfield 202, 3) := by decide +kernel
theorem dX5_draw_24 : decode cX5_draw 24 = .ok (.ldc2_w 212, 3) := by decide +kernel
theorem dX5_draw_27 : decode cX5_draw 27 = .ok (.ldiv, 1) := by decide +kernel
theorem dX5_draw_28 : decode cX5_draw 28 = .ok (.iload_n 1, 1) := by decide +kernel
theorem dX5_draw_29 : decode cX5_draw 29 = .ok (.i2l, 1) := by decide +kernel
theorem dX5_draw_30 : decode cX5_draw 30 = .ok (.lrem, 1) := by decide +kernel
theorem dX5_draw_31 : decode cX5_draw 31 = .ok (.l2i, 1) := by decide +kernel
theorem dX5_draw_32 : decode cX5_draw 32 = .ok (.ireturn, 1) := by decide +kernel
set_option maxRecDepth 20000 in
theorem ggX5_drawn_X5_draw : GoodIn wsX5_drawn wsX5_draw := goodIn_r _ [7, 8, 9, 10, 11, 12, 88, 89, 90, 91, 92, 93, 94, 95, 96, 97, 98, 99, 100, 101, 102, 103, 104, 105, 106, 107, 108] (by decide +kernel) (by decide +kernel)
set_option maxRecDepth 20000 in
theorem gX5_drawn_X5_draw : GoodIn wsX5_drawn (wsV RX5 214 RX5 yX5_draw wsX5_draw) := goodIn_app (goodIn_of _ (by decide +kernel)) ggX5_drawn_X5_draw
set_option maxRecDepth 20000 in
theorem ggX5_drawn_X5_mayBe : GoodIn wsX5_drawn wsX5_mayBe := goodIn_r _ [16, 1, 17, 18, 19, 6, 20, 2, 21, 22, 23, 24, 25, 26, 27, 28, 29, 30, 31, 32, 33, 34, 35, 36, 37, 38, 39, 40, 41, 42, 43, 44, 45, 46, 47, 48, 49, 50, 51, 52, 53, 54, 55, 56, 57, 58, 59, 60, 61, 62, 63, 64, 65, 66, 67, 68, 69, 70, 71, 72, 73, 74, 88, 89, 90, 91, 92, 93, 94, 95, 96, 97, 98, 99, 100, 101, 102, 103, 104, 105, 106, 107, 108] (by decide +kernel) (by decide +kernel)
set_option maxRecDepth 20000 in
theorem gX5_drawn_X5_mayBe : GoodIn wsX5_drawn (wsV RX5 188 RX5 yX5_mayBe wsX5_mayBe) := goodIn_app (goodIn_of _ (by decide +kernel)) ggX5_drawn_X5_mayBe
set_option maxRecDepth 20000 in
theorem ggX5_drawn_X5_notes : GoodIn wsX5_drawn wsX5_notes := goodIn_r _ [78, 79, 80, 2, 81, 82, 6, 83, 88, 89, 90, 91, 92, 93, 94, 95, 96, 97, 98, 99, 100, 101, 102, 103, 104, 105, 106, 107, 108] (by decide +kernel) (by decide +kernel)
set_option maxRecDepth 20000 in
theorem gX5_drawn_X5_notes : GoodIn wsX5_drawn (wsV RX5 192 RX5 yX5_notes wsX5_notes) := goodIn_app (goodIn_of _ (by decide +kernel)) ggX5_drawn_X5_notes
set_option maxRecDepth 20000 in
theorem ggX5_drawn_X5_says : GoodIn wsX5_drawn wsX5_says := goodIn_r _ [87, 1, 2, 81, 82, 6, 83, 88, 89, 90, 91, 92, 93, 94, 95, 96, 97, 98, 99, 100, 101, 102, 103, 104, 105, 106, 107, 108] (by decide +kernel) (by decide +kernel)
set_option maxRecDepth 20000 in
theorem gX5_drawn_X5_says : GoodIn wsX5_drawn (wsV RX5 195 RX5 yX5_says wsX5_says) := goodIn_app (goodIn_of _ (by decide +kernel)) ggX5_drawn_X5_says
theorem dX5_drawn_0 : decode cX5_drawn 0 = .ok (.iconst 0, 1) := by decide +kernel
theorem dX5_drawn_1 : decode cX5_drawn 1 = .ok (.istore_n 1, 1) := by decide +kernel
theorem dX5_drawn_2 : decode cX5_drawn 2 = .ok (.iload_n 1, 1) := by decide +kernel
theorem dX5_drawn_3 : decode cX5_drawn 3 = .ok (.bipush 10, 2) := by decide +kernel
theorem dX5_drawn_5 : decode cX5_drawn 5 = .ok (.if_icmp .ge 16, 3) := by decide +kernel
theorem dX5_drawn_8 : decode cX5_drawn 8 = .ok (.aload_n 0, 1) := by decide +kernel
theorem dX5_drawn_9 : decode cX5_drawn 9 = .ok (.getfield 43, 3) := by decide +kernel
theorem dX5_drawn_12 : decode cX5_drawn 12 = .ok (.iload_n 1, 1) := by decide +kernel
theorem dX5_drawn_13 : decode cX5_drawn 13 = .ok (.iconst 0, 1) := by decide +kernel
theorem dX5_drawn_14 : decode cX5_drawn 14 = .ok (.iastore, 1) := by decide +kernel
theorem dX5_drawn_15 : decode cX5_drawn 15 = .ok (.iinc 1 1, 3) := by decide +kernel
theorem dX5_drawn_18 : decode cX5_drawn 18 = .ok (.goto (-16), 3) := by decide +kernel
theorem dX5_drawn_21 : decode cX5_drawn 21 = .ok (.aload_n 0, 1) := by decide +kernel
theorem dX5_drawn_22 : decode cX5_drawn 22 = .ok (.bipush 6, 2) := by decide +kernel
theorem dX5_drawn_24 : decode cX5_drawn 24 = .ok (.invokevirtual 214, 3) := by decide +kernel
theorem dX5_drawn_27 : decode cX5_drawn 27 = .ok (.istore_n 1, 1) := by decide +kernel
theorem dX5_drawn_28 : decode cX5_drawn 28 = .ok (.aload_n 0, 1) := by decide +kernel
theorem dX5_drawn_29 : decode cX5_drawn 29 = .ok (.bipush 6, 2) := by decide +kernel
theorem dX5_drawn_31 : decode cX5_drawn 31 = .ok (.invokevirtual 214, 3) := by decide +kernel
theorem dX5_drawn_34 : decode cX5_drawn 34 = .ok (.istore_n 2, 1) := by decide +kernel
theorem dX5_drawn_35 : decode cX5_drawn 35 = .ok (.aload_n 0, 1) := by decide +kernel
theorem dX5_drawn_36 : decode cX5_drawn 36 = .ok (.getfield 43, 3) := by decide +kernel
theorem dX5_drawn_39 : decode cX5_drawn 39 = .ok (.iload_n 1, 1) := by decide +kernel
theorem dX5_drawn_40 : decode cX5_drawn 40 = .ok (.dup2, 1) := by decide +kernel
theorem dX5_drawn_41 : decode cX5_drawn 41 = .ok (.iaload, 1) := by decide +kernel
theorem dX5_drawn_42 : decode cX5_drawn 42 = .ok (.iconst 1, 1) := by decide +kernel
theorem dX5_drawn_43 : decode cX5_drawn 43 = .ok (.iadd, 1) := by decide +kernel
theorem dX5_drawn_44 : decode cX5_drawn 44 = .ok (.iastore, 1) := by decide +kernel
theorem dX5_drawn_45 : decode cX5_drawn 45 = .ok (.aload_n 0, 1) := by decide +kernel
theorem dX5_drawn_46 : decode cX5_drawn 46 = .ok (.getfield 43, 3) := by decide +kernel
theorem dX5_drawn_49 : decode cX5_drawn 49 = .ok (.iload_n 2, 1) := by decide +kernel
theorem dX5_drawn_50 : decode cX5_drawn 50 = .ok (.dup2, 1) := by decide +kernel
theorem dX5_drawn_51 : decode cX5_drawn 51 = .ok (.iaload, 1) := by decide +kernel
theorem dX5_drawn_52 : decode cX5_drawn 52 = .ok (.aload_n 0, 1) := by decide +kernel
theorem dX5_drawn_53 : decode cX5_drawn 53 = .ok (.iconst 5, 1) := by decide +kernel
theorem dX5_drawn_54 : decode cX5_drawn 54 = .ok (.invokevirtual 214, 3) := by decide +kernel
theorem dX5_drawn_57 : decode cX5_drawn 57 = .ok (.iconst 2, 1) := by decide +kernel
theorem dX5_drawn_58 : decode cX5_drawn 58 = .ok (.isub, 1) := by decide +kernel
theorem dX5_drawn_59 : decode cX5_drawn 59 = .ok (.iadd, 1) := by decide +kernel
theorem dX5_drawn_60 : decode cX5_drawn 60 = .ok (.iastore, 1) := by decide +kernel
theorem dX5_drawn_61 : decode cX5_drawn 61 = .ok (.aload_n 0, 1) := by decide +kernel
theorem dX5_drawn_62 : decode cX5_drawn 62 = .ok (.getfield 43, 3) := by decide +kernel
theorem dX5_drawn_65 : decode cX5_drawn 65 = .ok (.bipush 6, 2) := by decide +kernel
theorem dX5_drawn_67 : decode cX5_drawn 67 = .ok (.aload_n 0, 1) := by decide +kernel
theorem dX5_drawn_68 : decode cX5_drawn 68 = .ok (.iconst 4, 1) := by decide +kernel
theorem dX5_drawn_69 : decode cX5_drawn 69 = .ok (.invokevirtual 214, 3) := by decide +kernel
theorem dX5_drawn_72 : decode cX5_drawn 72 = .ok (.iadd, 1) := by decide +kernel
theorem dX5_drawn_73 : decode cX5_drawn 73 = .ok (.dup2, 1) := by decide +kernel
theorem dX5_drawn_74 : decode cX5_drawn 74 = .ok (.iaload, 1) := by decide +kernel
theorem dX5_drawn_75 : decode cX5_drawn 75 = .ok (.iconst 1, 1) := by decide +kernel
theorem dX5_drawn_76 : decode cX5_drawn 76 = .ok (.isub, 1) := by decide +kernel
theorem dX5_drawn_77 : decode cX5_drawn 77 = .ok (.iastore, 1) := by decide +kernel
theorem dX5_drawn_78 : decode cX5_drawn 78 = .ok (.aload_n 0, 1) := by decide +kernel
theorem dX5_drawn_79 : decode cX5_drawn 79 = .ok (.getfield 43, 3) := by decide +kernel
theorem dX5_drawn_82 : decode cX5_drawn 82 = .ok (.iload_n 1, 1) := by decide +kernel
theorem dX5_drawn_83 : decode cX5_drawn 83 = .ok (.iaload, 1) := by decide +kernel
theorem dX5_drawn_84 : decode cX5_drawn 84 = .ok (.ifCond .ne 12, 3) := by decide +kernel
theorem dX5_drawn_87 : decode cX5_drawn 87 = .ok (.aload_n 0, 1) := by decide +kernel
theorem dX5_drawn_88 : decode cX5_drawn 88 = .ok (.getfield 43, 3) := by decide +kernel
theorem dX5_drawn_91 : decode cX5_drawn 91 = .ok (.iload_n 2, 1) := by decide +kernel
theorem dX5_drawn_92 : decode cX5_drawn 92 = .ok (.iaload, 1) := by decide +kernel
theorem dX5_drawn_93 : decode cX5_drawn 93 = .ok (.ifCond .eq 7, 3) := by decide +kernel
theorem dX5_drawn_96 : decode cX5_drawn 96 = .ok (.iconst 1, 1) := by decide +kernel
theorem dX5_drawn_97 : decode cX5_drawn 97 = .ok (.goto 4, 3) := by decide +kernel
theorem dX5_drawn_100 : decode cX5_drawn 100 = .ok (.iconst 0, 1) := by decide +kernel
theorem dX5_drawn_101 : decode cX5_drawn 101 = .ok (.istore_n 3, 1) := by decide +kernel
theorem dX5_drawn_102 : decode cX5_drawn 102 = .ok (.aload_n 0, 1) := by decide +kernel
theorem dX5_drawn_103 : decode cX5_drawn 103 = .ok (.getfield 17, 3) := by decide +kernel
theorem dX5_drawn_106 : decode cX5_drawn 106 = .ok (.iconst 0, 1) := by decide +kernel
theorem dX5_drawn_107 : decode cX5_drawn 107 = .ok (.iaload, 1) := by decide +kernel
theorem dX5_drawn_108 : decode cX5_drawn 108 = .ok (.bipush 6, 2) := by decide +kernel
theorem dX5_drawn_110 : decode cX5_drawn 110 = .ok (.if_icmp .ge 18, 3) := by decide +kernel
theorem dX5_drawn_113 : decode cX5_drawn 113 = .ok (.iload_n 3, 1) := by decide +kernel
theorem dX5_drawn_114 : decode cX5_drawn 114 = .ok (.ifCond .eq 14, 3) := by decide +kernel
theorem dX5_drawn_117 : decode cX5_drawn 117 = .ok (.aload_n 0, 1) := by decide +kernel
theorem dX5_drawn_118 : decode cX5_drawn 118 = .ok (.invokevirtual 188, 3) := by decide +kernel
theorem dX5_drawn_121 : decode cX5_drawn 121 = .ok (.ifCond .eq 7, 3) := by decide +kernel
theorem dX5_drawn_124 : decode cX5_drawn 124 = .ok (.iconst 1, 1) := by decide +kernel
theorem dX5_drawn_125 : decode cX5_drawn 125 = .ok (.goto 4, 3) := by decide +kernel
theorem dX5_drawn_128 : decode cX5_drawn 128 = .ok (.iconst 0, 1) := by decide +kernel
theorem dX5_drawn_129 : decode cX5_drawn 129 = .ok (.istore 4, 2) := by decide +kernel
theorem dX5_drawn_131 : decode cX5_drawn 131 = .ok (.aload_n 0, 1) := by decide +kernel
theorem dX5_drawn_132 : decode cX5_drawn 132 = .ok (.invokevirtual 192, 3) := by decide +kernel
theorem dX5_drawn_135 : decode cX5_drawn 135 = .ok (.iload 4, 2) := by decide +kernel
theorem dX5_drawn_137 : decode cX5_drawn 137 = .ok (.ifCond .eq 7, 3) := by decide +kernel
theorem dX5_drawn_140 : decode cX5_drawn 140 = .ok (.aload_n 0, 1) := by decide +kernel
theorem dX5_drawn_141 : decode cX5_drawn 141 = .ok (.invokevirtual 195, 3) := by decide +kernel
theorem dX5_drawn_144 : decode cX5_drawn 144 = .ok (.return_, 1) := by decide +kernel
set_option maxRecDepth 20000 in
theorem ggX5_drift_X5_in : GoodIn wsX5_drift wsX5_in := goodIn_r _ [6] (by decide +kernel) (by decide +kernel)
set_option maxRecDepth 20000 in
theorem gX5_drift_X5_in : GoodIn wsX5_drift (va_wsS RX5 55 yX5_in wsX5_in) := goodIn_app (goodIn_of _ (by decide +kernel)) ggX5_drift_X5_in
set_option maxRecDepth 20000 in
theorem ggX5_drift_X5_drawn : GoodIn wsX5_drift wsX5_drawn := goodIn_r _ [10, 11, 2, 12, 13, 14, 5, 15, 16, 17, 18, 19, 20, 21, 22, 23, 24, 25, 26, 27, 28, 29, 30, 31, 32, 33, 34, 35, 36, 37, 38, 39, 40, 41, 42, 43, 44, 45, 46, 47, 48, 49, 50, 51, 52, 53, 54, 55, 56, 57, 58, 59, 60, 61, 62, 63, 64, 65, 66, 67, 68, 69, 70, 71, 72, 73, 74, 75, 76, 77, 78, 79, 80, 81, 82, 83, 84, 85, 86, 87, 88, 89, 90, 91, 92, 93, 94, 95, 96, 97, 98, 99, 100, 101, 102, 103, 104, 105, 106, 107, 108, 109, 110, 111, 112, 113, 114, 115, 116] (by decide +kernel) (by decide +kernel)
set_option maxRecDepth 20000 in
theorem gX5_drift_X5_drawn : GoodIn wsX5_drift (wsV RX5 217 RX5 yX5_drawn wsX5_drawn) := goodIn_app (goodIn_of _ (by decide +kernel)) ggX5_drift_X5_drawn
theorem dX5_drift_0 : decode cX5_drift 0 = .ok (.iload_n 1, 1) := by decide +kernel
theorem dX5_drift_1 : decode cX5_drift 1 = .ok (.iconst 1, 1) := by decide +kernel
theorem dX5_drift_2 : decode cX5_drift 2 = .ok (.bipush 20, 2) := by decide +kernel
theorem dX5_drift_4 : decode cX5_drift 4 = .ok (.invokestatic 55, 3) := by decide +kernel
theorem dX5_drift_7 : decode cX5_drift 7 = .ok (.ifCond .ne 6, 3) := by decide +kernel
theorem dX5_drift_10 : decode cX5_drift 10 = .ok (.ldc 59, 2) := by decide +kernel
theorem dX5_drift_12 : decode cX5_drift 12 = .ok (.ireturn, 1) := by decide +kernel
theorem dX5_drift_13 : decode cX5_drift 13 = .ok (.iconst 0, 1) := by decide +kernel
theorem dX5_drift_14 : decode cX5_drift 14 = .ok (.istore_n 2, 1) := by decide +kernel
theorem dX5_drift_15 : decode cX5_drift 15 = .ok (.iload_n 2, 1) := by decide +kernel
theorem dX5_drift_16 : decode cX5_drift 16 = .ok (.iload_n 1, 1) := by decide +kernel
theorem dX5_drift_17 : decode cX5_drift 17 = .ok (.if_icmp .ge 13, 3) := by decide +kernel
theorem dX5_drift_20 : decode cX5_drift 20 = .ok (.aload_n 0, 1) := by decide +kernel
theorem dX5_drift_21 : decode cX5_drift 21 = .ok (.invokevirtual 217, 3) := by decide +kernel
theorem dX5_drift_24 : decode cX5_drift 24 = .ok (.iinc 2 1, 3) := by decide +kernel
theorem dX5_drift_27 : decode cX5_drift 27 = .ok (.goto (-12), 3) := by decide +kernel
theorem dX5_drift_30 : decode cX5_drift 30 = .ok (.aload_n 0, 1) := by decide +kernel
theorem dX5_drift_31 : decode cX5_drift 31 = .ok (.getfield 17, 3) := by decide +kernel
theorem dX5_drift_34 : decode cX5_drift 34 = .ok (.iconst 0, 1) := by decide +kernel
theorem dX5_drift_35 : decode cX5_drift 35 = .ok (.iaload, 1) := by decide +kernel
theorem dX5_drift_36 : decode cX5_drift 36 = .ok (.ireturn, 1) := by decide +kernel
set_option maxRecDepth 20000 in
theorem ggX5_undo_X5_in : GoodIn wsX5_undo wsX5_in := goodIn_r _ [9] (by decide +kernel) (by decide +kernel)
set_option maxRecDepth 20000 in
theorem gX5_undo_X5_in : GoodIn wsX5_undo (va_wsS RX5 55 yX5_in wsX5_in) := goodIn_app (goodIn_of _ (by decide +kernel)) ggX5_undo_X5_in
set_option maxRecDepth 20000 in
theorem ggX5_undo_X5_bring : GoodIn wsX5_undo wsX5_bring := goodIn_r _ [12] (by decide +kernel) (by decide +kernel)
set_option maxRecDepth 20000 in
theorem gX5_undo_X5_bring : GoodIn wsX5_undo (va_wsS RX5 90 yX5_bring wsX5_bring) := goodIn_app (goodIn_of _ (by decide +kernel)) ggX5_undo_X5_bring
theorem dX5_undo_0 : decode cX5_undo 0 = .ok (.iload_n 1, 1) := by decide +kernel
theorem dX5_undo_1 : decode cX5_undo 1 = .ok (.iconst 1, 1) := by decide +kernel
theorem dX5_undo_2 : decode cX5_undo 2 = .ok (.bipush 20, 2) := by decide +kernel
theorem dX5_undo_4 : decode cX5_undo 4 = .ok (.invokestatic 55, 3) := by decide +kernel
theorem dX5_undo_7 : decode cX5_undo 7 = .ok (.ifCond .ne 6, 3) := by decide +kernel
theorem dX5_undo_10 : decode cX5_undo 10 = .ok (.ldc 59, 2) := by decide +kernel
theorem dX5_undo_12 : decode cX5_undo 12 = .ok (.ireturn, 1) := by decide +kernel
theorem dX5_undo_13 : decode cX5_undo 13 = .ok (.iload_n 1, 1) := by decide +kernel
theorem dX5_undo_14 : decode cX5_undo 14 = .ok (.aload_n 0, 1) := by decide +kernel
theorem dX5_undo_15 : decode cX5_undo 15 = .ok (.getfield 181, 3) := by decide +kernel
theorem dX5_undo_18 : decode cX5_undo 18 = .ok (.if_icmp .le 6, 3) := by decide +kernel
theorem dX5_undo_21 : decode cX5_undo 21 = .ok (.ldc 191, 2) := by decide +kernel
theorem dX5_undo_23 : decode cX5_undo 23 = .ok (.ireturn, 1) := by decide +kernel
theorem dX5_undo_24 : decode cX5_undo 24 = .ok (.aload_n 0, 1) := by decide +kernel
theorem dX5_undo_25 : decode cX5_undo 25 = .ok (.dup, 1) := by decide +kernel
theorem dX5_undo_26 : decode cX5_undo 26 = .ok (.getfield 181, 3) := by decide +kernel
theorem dX5_undo_29 : decode cX5_undo 29 = .ok (.iload_n 1, 1) := by decide +kernel
theorem dX5_undo_30 : decode cX5_undo 30 = .ok (.isub, 1) := by decide +kernel
theorem dX5_undo_31 : decode cX5_undo 31 = .ok (.putfield 181, 3) := by decide +kernel
theorem dX5_undo_34 : decode cX5_undo 34 = .ok (.aload_n 0, 1) := by decide +kernel
theorem dX5_undo_35 : decode cX5_undo 35 = .ok (.getfield 20, 3) := by decide +kernel
theorem dX5_undo_38 : decode cX5_undo 38 = .ok (.bipush 69, 2) := by decide +kernel
theorem dX5_undo_40 : decode cX5_undo 40 = .ok (.aload_n 0, 1) := by decide +kernel
theorem dX5_undo_41 : decode cX5_undo 41 = .ok (.getfield 181, 3) := by decide +kernel
theorem dX5_undo_44 : decode cX5_undo 44 = .ok (.imul, 1) := by decide +kernel
theorem dX5_undo_45 : decode cX5_undo 45 = .ok (.aload_n 0, 1) := by decide +kernel
theorem dX5_undo_46 : decode cX5_undo 46 = .ok (.getfield 17, 3) := by decide +kernel
theorem dX5_undo_49 : decode cX5_undo 49 = .ok (.iconst 0, 1) := by decide +kernel
theorem dX5_undo_50 : decode cX5_undo 50 = .ok (.bipush 69, 2) := by decide +kernel
theorem dX5_undo_52 : decode cX5_undo 52 = .ok (.invokestatic 90, 3) := by decide +kernel
theorem dX5_undo_55 : decode cX5_undo 55 = .ok (.aload_n 0, 1) := by decide +kernel
theorem dX5_undo_56 : decode cX5_undo 56 = .ok (.getfield 17, 3) := by decide +kernel
theorem dX5_undo_59 : decode cX5_undo 59 = .ok (.iconst 0, 1) := by decide +kernel
theorem dX5_undo_60 : decode cX5_undo 60 = .ok (.iaload, 1) := by decide +kernel
theorem dX5_undo_61 : decode cX5_undo 61 = .ok (.ireturn, 1) := by decide +kernel
set_option maxRecDepth 20000 in
theorem ggX5_saying_X5_in : GoodIn wsX5_saying wsX5_in := goodIn_r _ [7] (by decide +kernel) (by decide +kernel)
set_option maxRecDepth 20000 in
theorem gX5_saying_X5_in : GoodIn wsX5_saying (va_wsS RX5 55 yX5_in wsX5_in) := goodIn_app (goodIn_of _ (by decide +kernel)) ggX5_saying_X5_in
set_option maxRecDepth 20000 in
theorem ggX5_saying_X5_isSpare : GoodIn wsX5_saying wsX5_isSpare := goodIn_r _ [11, 1, 12, 13, 14, 6, 15, 16, 17, 18, 19, 20, 21, 22, 23, 24, 25, 26, 27, 28, 29, 30, 31, 32, 33, 34, 35, 36, 37, 38, 39, 40, 41, 42, 43, 44, 45, 46, 47, 48, 49, 50, 51, 52, 53, 54, 55, 56, 57, 58, 59, 60, 61, 62, 63, 64, 65, 66, 67, 68, 69, 70, 71, 72, 73, 74, 75, 76, 77, 78, 79, 80, 81, 82, 83, 84, 85, 86, 87, 88, 89, 90, 91, 92, 93, 94] (by decide +kernel) (by decide +kernel)
set_option maxRecDepth 20000 in
theorem gX5_saying_X5_isSpare : GoodIn wsX5_saying (wsV RX5 162 RX5 yX5_isSpare wsX5_isSpare) := goodIn_app (goodIn_of _ (by decide +kernel)) ggX5_saying_X5_isSpare
theorem dX5_saying_0 : decode cX5_saying 0 = .ok (.iload_n 1, 1) := by decide +kernel
theorem dX5_saying_1 : decode cX5_saying 1 = .ok (.iconst 0, 1) := by decide +kernel
theorem dX5_saying_2 : decode cX5_saying 2 = .ok (.aload_n 0, 1) := by decide +kernel
theorem dX5_saying_3 : decode cX5_saying 3 = .ok (.getfield 17, 3) := by decide +kernel
theorem dX5_saying_6 : decode cX5_saying 6 = .ok (.iconst 0, 1) := by decide +kernel
theorem dX5_saying_7 : decode cX5_saying 7 = .ok (.iaload, 1) := by decide +kernel
theorem dX5_saying_8 : decode cX5_saying 8 = .ok (.iconst 1, 1) := by decide +kernel
theorem dX5_saying_9 : decode cX5_saying 9 = .ok (.isub, 1) := by decide +kernel
theorem dX5_saying_10 : decode cX5_saying 10 = .ok (.invokestatic 55, 3) := by decide +kernel
theorem dX5_saying_13 : decode cX5_saying 13 = .ok (.ifCond .ne 6, 3) := by decide +kernel
theorem dX5_saying_16 : decode cX5_saying 16 = .ok (.ldc 198, 2) := by decide +kernel
theorem dX5_saying_18 : decode cX5_saying 18 = .ok (.ireturn, 1) := by decide +kernel
theorem dX5_saying_19 : decode cX5_saying 19 = .ok (.iload_n 2, 1) := by decide +kernel
theorem dX5_saying_20 : decode cX5_saying 20 = .ok (.iconst 0, 1) := by decide +kernel
theorem dX5_saying_21 : decode cX5_saying 21 = .ok (.bipush 10, 2) := by decide +kernel
theorem dX5_saying_23 : decode cX5_saying 23 = .ok (.invokestatic 55, 3) := by decide +kernel
theorem dX5_saying_26 : decode cX5_saying 26 = .ok (.ifCond .ne 6, 3) := by decide +kernel
theorem dX5_saying_29 : decode cX5_saying 29 = .ok (.ldc 59, 2) := by decide +kernel
theorem dX5_saying_31 : decode cX5_saying 31 = .ok (.ireturn, 1) := by decide +kernel
theorem dX5_saying_32 : decode cX5_saying 32 = .ok (.iload_n 2, 1) := by decide +kernel
theorem dX5_saying_33 : decode cX5_saying 33 = .ok (.bipush 10, 2) := by decide +kernel
theorem dX5_saying_35 : decode cX5_saying 35 = .ok (.if_icmp .ne 19, 3) := by decide +kernel
theorem dX5_saying_38 : decode cX5_saying 38 = .ok (.aload_n 0, 1) := by decide +kernel
theorem dX5_saying_39 : decode cX5_saying 39 = .ok (.iload_n 1, 1) := by decide +kernel
theorem dX5_saying_40 : decode cX5_saying 40 = .ok (.invokevirtual 162, 3) := by decide +kernel
theorem dX5_saying_43 : decode cX5_saying 43 = .ok (.ifCond .eq 7, 3) := by decide +kernel
theorem dX5_saying_46 : decode cX5_saying 46 = .ok (.iconst 1, 1) := by decide +kernel
theorem dX5_saying_47 : decode cX5_saying 47 = .ok (.goto 23, 3) := by decide +kernel
theorem dX5_saying_50 : decode cX5_saying 50 = .ok (.iconst 0, 1) := by decide +kernel
theorem dX5_saying_51 : decode cX5_saying 51 = .ok (.goto 19, 3) := by decide +kernel
theorem dX5_saying_54 : decode cX5_saying 54 = .ok (.aload_n 0, 1) := by decide +kernel
theorem dX5_saying_55 : decode cX5_saying 55 = .ok (.getfield 17, 3) := by decide +kernel
theorem dX5_saying_58 : decode cX5_saying 58 = .ok (.iconst 1, 1) := by decide +kernel
theorem dX5_saying_59 : decode cX5_saying 59 = .ok (.bipush 10, 2) := by decide +kernel
theorem dX5_saying_61 : decode cX5_saying 61 = .ok (.iload_n 1, 1) := by decide +kernel
theorem dX5_saying_62 : decode cX5_saying 62 = .ok (.imul, 1) := by decide +kernel
theorem dX5_saying_63 : decode cX5_saying 63 = .ok (.iadd, 1) := by decide +kernel
theorem dX5_saying_64 : decode cX5_saying 64 = .ok (.iload_n 2, 1) := by decide +kernel
theorem dX5_saying_65 : decode cX5_saying 65 = .ok (.iadd, 1) := by decide +kernel
theorem dX5_saying_66 : decode cX5_saying 66 = .ok (.iaload, 1) := by decide +kernel
theorem dX5_saying_67 : decode cX5_saying 67 = .ok (.bipush 100, 2) := by decide +kernel
theorem dX5_saying_69 : decode cX5_saying 69 = .ok (.iadd, 1) := by decide +kernel
theorem dX5_saying_70 : decode cX5_saying 70 = .ok (.ireturn, 1) := by decide +kernel
set_option maxRecDepth 20000 in
theorem ggX5_free_X5_allOf : GoodIn wsX5_free wsX5_allOf := goodIn_r _ [10, 11, 67, 68, 69, 70, 71, 72, 73, 74, 75, 76, 77, 78, 79, 80, 81, 82, 83, 84, 85, 86, 87] (by decide +kernel) (by decide +kernel)
set_option maxRecDepth 20000 in
theorem gX5_free_X5_allOf : GoodIn wsX5_free (wsV RX5 153 RX5 yX5_allOf wsX5_allOf) := goodIn_app (goodIn_of _ (by decide +kernel)) ggX5_free_X5_allOf
set_option maxRecDepth 20000 in
theorem ggX5_free_X5_solves : GoodIn wsX5_free wsX5_solves := goodIn_r _ [15, 11, 16, 17, 18, 9, 19, 1, 3, 20, 21, 22, 23, 24, 25, 26, 27, 28, 29, 30, 31, 32, 33, 34, 35, 36, 37, 38, 39, 40, 41, 42, 43, 44, 45, 46, 47, 48, 49, 50, 51, 52, 53, 54, 55, 56, 57, 58, 59, 60, 61, 62, 63, 67, 68, 69, 70, 71, 72, 73, 74, 75, 76, 77, 78, 79, 80, 81, 82, 83, 84, 85, 86, 87] (by decide +kernel) (by decide +kernel)
set_option maxRecDepth 20000 in
theorem gX5_free_X5_solves : GoodIn wsX5_free (wsV RX5 156 RX5 yX5_solves wsX5_solves) := goodIn_app (goodIn_of _ (by decide +kernel)) ggX5_free_X5_solves
set_option maxRecDepth 20000 in
theorem ggX5_free_X5_in : GoodIn wsX5_free wsX5_in := goodIn_r _ [66] (by decide +kernel) (by decide +kernel)
set_option maxRecDepth 20000 in
theorem gX5_free_X5_in : GoodIn wsX5_free (va_wsS RX5 55 yX5_in wsX5_in) := goodIn_app (goodIn_of _ (by decide +kernel)) ggX5_free_X5_in
theorem dX5_free_0 : decode cX5_free 0 = .ok (.aload_n 0, 1) := by decide +kernel
theorem dX5_free_1 : decode cX5_free 1 = .ok (.aload_n 0, 1) := by decide +kernel
theorem dX5_free_2 : decode cX5_free 2 = .ok (.invokevirtual 153, 3) := by decide +kernel
theorem dX5_free_5 : decode cX5_free 5 = .ok (.invokevirtual 156, 3) := by decide +kernel
theorem dX5_free_8 : decode cX5_free 8 = .ok (.iload_n 1, 1) := by decide +kernel
theorem dX5_free_9 : decode cX5_free 9 = .ok (.iconst 0, 1) := by decide +kernel
theorem dX5_free_10 : decode cX5_free 10 = .ok (.aload_n 0, 1) := by decide +kernel
theorem dX5_free_11 : decode cX5_free 11 = .ok (.getfield 104, 3) := by decide +kernel
theorem dX5_free_14 : decode cX5_free 14 = .ok (.iconst 1, 1) := by decide +kernel
theorem dX5_free_15 : decode cX5_free 15 = .ok (.isub, 1) := by decide +kernel
theorem dX5_free_16 : decode cX5_free 16 = .ok (.invokestatic 55, 3) := by decide +kernel
theorem dX5_free_19 : decode cX5_free 19 = .ok (.ifCond .ne 7, 3) := by decide +kernel
theorem dX5_free_22 : decode cX5_free 22 = .ok (.ldc2_w 220, 3) := by decide +kernel
theorem dX5_free_25 : decode cX5_free 25 = .ok (.lreturn, 1) := by decide +kernel
theorem dX5_free_26 : decode cX5_free 26 = .ok (.iload_n 2, 1) := by decide +kernel
theorem dX5_free_27 : decode cX5_free 27 = .ok (.iconst 0, 1) := by decide +kernel
theorem dX5_free_28 : decode cX5_free 28 = .ok (.iconst 5, 1) := by decide +kernel
theorem dX5_free_29 : decode cX5_free 29 = .ok (.invokestatic 55, 3) := by decide +kernel
theorem dX5_free_32 : decode cX5_free 32 = .ok (.ifCond .eq 21, 3) := by decide +kernel
theorem dX5_free_35 : decode cX5_free 35 = .ok (.aload_n 0, 1) := by decide +kernel
theorem dX5_free_36 : decode cX5_free 36 = .ok (.getfield 46, 3) := by decide +kernel
theorem dX5_free_39 : decode cX5_free 39 = .ok (.bipush 6, 2) := by decide +kernel
theorem dX5_free_41 : decode cX5_free 41 = .ok (.iload_n 1, 1) := by decide +kernel
theorem dX5_free_42 : decode cX5_free 42 = .ok (.imul, 1) := by decide +kernel
theorem dX5_free_43 : decode cX5_free 43 = .ok (.iload_n 2, 1) := by decide +kernel
theorem dX5_free_44 : decode cX5_free 44 = .ok (.iadd, 1) := by decide +kernel
theorem dX5_free_45 : decode cX5_free 45 = .ok (.laload, 1) := by decide +kernel
theorem dX5_free_46 : decode cX5_free 46 = .ok (.ldc2_w 222, 3) := by decide +kernel
theorem dX5_free_49 : decode cX5_free 49 = .ok (.ladd, 1) := by decide +kernel
theorem dX5_free_50 : decode cX5_free 50 = .ok (.goto 6, 3) := by decide +kernel
theorem dX5_free_53 : decode cX5_free 53 = .ok (.ldc2_w 224, 3) := by decide +kernel
theorem dX5_free_56 : decode cX5_free 56 = .ok (.lreturn, 1) := by decide +kernel
set_option maxRecDepth 20000 in
theorem ggX5_isUnknown_X5_in : GoodIn wsX5_isUnknown wsX5_in := goodIn_r _ [4] (by decide +kernel) (by decide +kernel)
set_option maxRecDepth 20000 in
theorem gX5_isUnknown_X5_in : GoodIn wsX5_isUnknown (va_wsS RX5 55 yX5_in wsX5_in) := goodIn_app (goodIn_of _ (by decide +kernel)) ggX5_isUnknown_X5_in
theorem dX5_isUnknown_0 : decode cX5_isUnknown 0 = .ok (.iload_n 0, 1) := by decide +kernel
theorem dX5_isUnknown_1 : decode cX5_isUnknown 1 = .ok (.iconst 0, 1) := by decide +kernel
theorem dX5_isUnknown_2 : decode cX5_isUnknown 2 = .ok (.iconst 5, 1) := by decide +kernel
theorem dX5_isUnknown_3 : decode cX5_isUnknown 3 = .ok (.invokestatic 55, 3) := by decide +kernel
theorem dX5_isUnknown_6 : decode cX5_isUnknown 6 = .ok (.ireturn, 1) := by decide +kernel
set_option maxRecDepth 20000 in
theorem ggX5_least_X5_isUnknown : GoodIn wsX5_least wsX5_isUnknown := goodIn_r _ [7, 8, 9, 6, 10] (by decide +kernel) (by decide +kernel)
set_option maxRecDepth 20000 in
theorem gX5_least_X5_isUnknown : GoodIn wsX5_least (va_wsS RX5 226 yX5_isUnknown wsX5_isUnknown) := goodIn_app (goodIn_of _ (by decide +kernel)) ggX5_least_X5_isUnknown
set_option maxRecDepth 20000 in
theorem ggX5_least_X5_isBase : GoodIn wsX5_least wsX5_isBase := goodIn_r _ [13, 8, 9, 6, 10] (by decide +kernel) (by decide +kernel)
set_option maxRecDepth 20000 in
theorem gX5_least_X5_isBase : GoodIn wsX5_least (va_wsS RX5 199 yX5_isBase wsX5_isBase) := goodIn_app (goodIn_of _ (by decide +kernel)) ggX5_least_X5_isBase
set_option maxRecDepth 20000 in
theorem ggX5_least_X5_allOf : GoodIn wsX5_least wsX5_allOf := goodIn_r _ [17, 18, 72, 73, 74, 75, 76, 77, 78, 79, 80, 81, 82, 83, 84, 85, 86, 87, 88, 89, 90, 91, 92] (by decide +kernel) (by decide +kernel)
set_option maxRecDepth 20000 in
theorem gX5_least_X5_allOf : GoodIn wsX5_least (wsV RX5 153 RX5 yX5_allOf wsX5_allOf) := goodIn_app (goodIn_of _ (by decide +kernel)) ggX5_least_X5_allOf
set_option maxRecDepth 20000 in
theorem ggX5_least_X5_solves : GoodIn wsX5_least wsX5_solves := goodIn_r _ [22, 18, 23, 24, 25, 6, 26, 27, 28, 2, 29, 30, 31, 32, 33, 34, 35, 36, 37, 38, 39, 40, 41, 42, 43, 44, 45, 46, 47, 48, 49, 50, 51, 52, 53, 54, 55, 56, 57, 58, 59, 60, 61, 62, 63, 64, 65, 66, 67, 68, 69, 70, 71, 72, 73, 74, 75, 76, 77, 78, 79, 80, 81, 82, 83, 84, 85, 86, 87, 88, 89, 90, 91, 92] (by decide +kernel) (by decide +kernel)
set_option maxRecDepth 20000 in
theorem gX5_least_X5_solves : GoodIn wsX5_least (wsV RX5 156 RX5 yX5_solves wsX5_solves) := goodIn_app (goodIn_of _ (by decide +kernel)) ggX5_least_X5_solves
theorem dX5_least_0 : decode cX5_least 0 = .ok (.iload_n 1, 1) := by decide +kernel
theorem dX5_least_1 : decode cX5_least 1 = .ok (.invokestatic 226, 3) := by decide +kernel
theorem dX5_least_4 : decode cX5_least 4 = .ok (.ifCond .eq 10, 3) := by decide +kernel
theorem dX5_least_7 : decode cX5_least 7 = .ok (.iload_n 2, 1) := by decide +kernel
theorem dX5_least_8 : decode cX5_least 8 = .ok (.invokestatic 199, 3) := by decide +kernel
theorem dX5_least_11 : decode cX5_least 11 = .ok (.ifCond .ne 7, 3) := by decide +kernel
theorem dX5_least_14 : decode cX5_least 14 = .ok (.ldc2_w 220, 3) := by decide +kernel
theorem dX5_least_17 : decode cX5_least 17 = .ok (.lreturn, 1) := by decide +kernel
theorem dX5_least_18 : decode cX5_least 18 = .ok (.aload_n 0, 1) := by decide +kernel
theorem dX5_least_19 : decode cX5_least 19 = .ok (.aload_n 0, 1) := by decide +kernel
theorem dX5_least_20 : decode cX5_least 20 = .ok (.invokevirtual 153, 3) := by decide +kernel
theorem dX5_least_23 : decode cX5_least 23 = .ok (.invokevirtual 156, 3) := by decide +kernel
theorem dX5_least_26 : decode cX5_least 26 = .ok (.aload_n 0, 1) := by decide +kernel
theorem dX5_least_27 : decode cX5_least 27 = .ok (.getfield 49, 3) := by decide +kernel
theorem dX5_least_30 : decode cX5_least 30 = .ok (.bipush 6, 2) := by decide +kernel
theorem dX5_least_32 : decode cX5_least 32 = .ok (.iload_n 2, 1) := by decide +kernel
theorem dX5_least_33 : decode cX5_least 33 = .ok (.imul, 1) := by decide +kernel
theorem dX5_least_34 : decode cX5_least 34 = .ok (.iload_n 1, 1) := by decide +kernel
theorem dX5_least_35 : decode cX5_least 35 = .ok (.iadd, 1) := by decide +kernel
theorem dX5_least_36 : decode cX5_least 36 = .ok (.laload, 1) := by decide +kernel
theorem dX5_least_37 : decode cX5_least 37 = .ok (.ldc2_w 222, 3) := by decide +kernel
theorem dX5_least_40 : decode cX5_least 40 = .ok (.ladd, 1) := by decide +kernel
theorem dX5_least_41 : decode cX5_least 41 = .ok (.lreturn, 1) := by decide +kernel
set_option maxRecDepth 20000 in
theorem ggX5_isTold_X5_isUnknown : GoodIn wsX5_isTold wsX5_isUnknown := goodIn_r _ [5, 6, 7, 4, 8] (by decide +kernel) (by decide +kernel)
set_option maxRecDepth 20000 in
theorem gX5_isTold_X5_isUnknown : GoodIn wsX5_isTold (va_wsS RX5 226 yX5_isUnknown wsX5_isUnknown) := goodIn_app (goodIn_of _ (by decide +kernel)) ggX5_isTold_X5_isUnknown
set_option maxRecDepth 20000 in
theorem ggX5_isTold_X5_allOf : GoodIn wsX5_isTold wsX5_allOf := goodIn_r _ [12, 13, 72, 73, 74, 75, 76, 77, 78, 79, 80, 81, 82, 83, 84, 85, 86, 87, 88, 89, 90, 91, 92] (by decide +kernel) (by decide +kernel)
set_option maxRecDepth 20000 in
theorem gX5_isTold_X5_allOf : GoodIn wsX5_isTold (wsV RX5 153 RX5 yX5_allOf wsX5_allOf) := goodIn_app (goodIn_of _ (by decide +kernel)) ggX5_isTold_X5_allOf
set_option maxRecDepth 20000 in
theorem ggX5_isTold_X5_solves : GoodIn wsX5_isTold wsX5_solves := goodIn_r _ [17, 13, 18, 19, 20, 4, 21, 22, 23, 24, 25, 26, 27, 28, 29, 30, 31, 32, 33, 34, 35, 36, 37, 38, 39, 40, 41, 42, 43, 44, 45, 46, 47, 48, 49, 50, 51, 52, 53, 54, 55, 56, 57, 58, 59, 60, 61, 62, 63, 64, 65, 66, 67, 72, 73, 74, 75, 76, 77, 78, 79, 80, 81, 82, 83, 84, 85, 86, 87, 88, 89, 90, 91, 92] (by decide +kernel) (by decide +kernel)
set_option maxRecDepth 20000 in
theorem gX5_isTold_X5_solves : GoodIn wsX5_isTold (wsV RX5 156 RX5 yX5_solves wsX5_solves) := goodIn_app (goodIn_of _ (by decide +kernel)) ggX5_isTold_X5_solves
set_option maxRecDepth 20000 in
theorem ggX5_isTold_X5_isSure : GoodIn wsX5_isTold wsX5_isSure := goodIn_r _ [71, 22, 23, 72, 73, 74, 75, 76, 77, 78, 79, 80, 81, 82, 83, 84, 85, 86, 87, 88, 89, 90, 91, 92] (by decide +kernel) (by decide +kernel)
set_option maxRecDepth 20000 in
theorem gX5_isTold_X5_isSure : GoodIn wsX5_isTold (wsV RX5 169 RX5 yX5_isSure wsX5_isSure) := goodIn_app (goodIn_of _ (by decide +kernel)) ggX5_isTold_X5_isSure
theorem dX5_isTold_0 : decode cX5_isTold 0 = .ok (.iload_n 1, 1) := by decide +kernel
theorem dX5_isTold_1 : decode cX5_isTold 1 = .ok (.invokestatic 226, 3) := by decide +kernel
theorem dX5_isTold_4 : decode cX5_isTold 4 = .ok (.ifCond .ne 6, 3) := by decide +kernel
theorem dX5_isTold_7 : decode cX5_isTold 7 = .ok (.ldc 198, 2) := by decide +kernel
theorem dX5_isTold_9 : decode cX5_isTold 9 = .ok (.ireturn, 1) := by decide +kernel
theorem dX5_isTold_10 : decode cX5_isTold 10 = .ok (.aload_n 0, 1) := by decide +kernel
theorem dX5_isTold_11 : decode cX5_isTold 11 = .ok (.aload_n 0, 1) := by decide +kernel
theorem dX5_isTold_12 : decode cX5_isTold 12 = .ok (.invokevirtual 153, 3) := by decide +kernel
theorem dX5_isTold_15 : decode cX5_isTold 15 = .ok (.invokevirtual 156, 3) := by decide +kernel
theorem dX5_isTold_18 : decode cX5_isTold 18 = .ok (.aload_n 0, 1) := by decide +kernel
theorem dX5_isTold_19 : decode cX5_isTold 19 = .ok (.iload_n 1, 1) := by decide +kernel
theorem dX5_isTold_20 : decode cX5_isTold 20 = .ok (.invokevirtual 169, 3) := by decide +kernel
theorem dX5_isTold_23 : decode cX5_isTold 23 = .ok (.ifCond .eq 7, 3) := by decide +kernel
theorem dX5_isTold_26 : decode cX5_isTold 26 = .ok (.iconst 1, 1) := by decide +kernel
theorem dX5_isTold_27 : decode cX5_isTold 27 = .ok (.goto 4, 3) := by decide +kernel
theorem dX5_isTold_30 : decode cX5_isTold 30 = .ok (.iconst 0, 1) := by decide +kernel
theorem dX5_isTold_31 : decode cX5_isTold 31 = .ok (.ireturn, 1) := by decide +kernel
set_option maxRecDepth 20000 in
theorem ggX5_follows_X5_reads : GoodIn wsX5_follows wsX5_reads := goodIn_r _ [6, 7, 8, 9, 1, 10, 11, 12, 13, 14, 5, 15, 16, 17, 18, 19, 20, 21, 22, 23, 24, 25, 26, 27, 28, 29, 30, 31, 32, 33, 34, 35, 36, 37, 38, 39, 40, 41, 42, 43, 44, 45, 46, 47, 48, 49, 50, 51, 52, 53, 117, 118, 119, 120, 121, 122, 123, 124, 125, 126, 127, 128, 129, 130, 131, 132, 133, 134, 135, 136, 137] (by decide +kernel) (by decide +kernel)
set_option maxRecDepth 20000 in
theorem gX5_follows_X5_reads : GoodIn wsX5_follows (wsV RX5 184 RX5 yX5_reads wsX5_reads) := goodIn_app (goodIn_of _ (by decide +kernel)) ggX5_follows_X5_reads
set_option maxRecDepth 20000 in
theorem ggX5_follows_X5_allOf : GoodIn wsX5_follows wsX5_allOf := goodIn_r _ [57, 58, 117, 118, 119, 120, 121, 122, 123, 124, 125, 126, 127, 128, 129, 130, 131, 132, 133, 134, 135, 136, 137] (by decide +kernel) (by decide +kernel)
set_option maxRecDepth 20000 in
theorem gX5_follows_X5_allOf : GoodIn wsX5_follows (wsV RX5 153 RX5 yX5_allOf wsX5_allOf) := goodIn_app (goodIn_of _ (by decide +kernel)) ggX5_follows_X5_allOf
set_option maxRecDepth 20000 in
theorem ggX5_follows_X5_solves : GoodIn wsX5_follows wsX5_solves := goodIn_r _ [62, 58, 63, 64, 65, 5, 66, 67, 68, 69, 70, 71, 72, 73, 74, 75, 76, 77, 78, 79, 80, 81, 82, 83, 84, 85, 86, 87, 88, 89, 90, 91, 92, 93, 94, 95, 96, 97, 98, 99, 100, 101, 102, 103, 104, 105, 106, 107, 108, 109, 110, 111, 112, 117, 118, 119, 120, 121, 122, 123, 124, 125, 126, 127, 128, 129, 130, 131, 132, 133, 134, 135, 136, 137] (by decide +kernel) (by decide +kernel)
set_option maxRecDepth 20000 in
theorem gX5_follows_X5_solves : GoodIn wsX5_follows (wsV RX5 156 RX5 yX5_solves wsX5_solves) := goodIn_app (goodIn_of _ (by decide +kernel)) ggX5_follows_X5_solves
set_option maxRecDepth 20000 in
theorem ggX5_follows_X5_isTrue : GoodIn wsX5_follows wsX5_isTrue := goodIn_r _ [116, 67, 78, 79, 80, 5, 81, 68, 97, 98, 99, 100, 69, 117, 118, 119, 120, 121, 122, 123, 124, 125, 126, 127, 128, 129, 130, 131, 132, 133, 134, 135, 136, 137] (by decide +kernel) (by decide +kernel)
set_option maxRecDepth 20000 in
theorem gX5_follows_X5_isTrue : GoodIn wsX5_follows (wsV RX5 159 RX5 yX5_isTrue wsX5_isTrue) := goodIn_app (goodIn_of _ (by decide +kernel)) ggX5_follows_X5_isTrue
theorem dX5_follows_0 : decode cX5_follows 0 = .ok (.aload_n 0, 1) := by decide +kernel
theorem dX5_follows_1 : decode cX5_follows 1 = .ok (.iconst 1, 1) := by decide +kernel
theorem dX5_follows_2 : decode cX5_follows 2 = .ok (.invokevirtual 184, 3) := by decide +kernel
theorem dX5_follows_5 : decode cX5_follows 5 = .ok (.istore_n 1, 1) := by decide +kernel
theorem dX5_follows_6 : decode cX5_follows 6 = .ok (.iload_n 1, 1) := by decide +kernel
theorem dX5_follows_7 : decode cX5_follows 7 = .ok (.ifCond .eq 8, 3) := by decide +kernel
theorem dX5_follows_10 : decode cX5_follows 10 = .ok (.bipush (-10), 2) := by decide +kernel
theorem dX5_follows_12 : decode cX5_follows 12 = .ok (.iload_n 1, 1) := by decide +kernel
theorem dX5_follows_13 : decode cX5_follows 13 = .ok (.isub, 1) := by decide +kernel
theorem dX5_follows_14 : decode cX5_follows 14 = .ok (.ireturn, 1) := by decide +kernel
theorem dX5_follows_15 : decode cX5_follows 15 = .ok (.aload_n 0, 1) := by decide +kernel
theorem dX5_follows_16 : decode cX5_follows 16 = .ok (.aload_n 0, 1) := by decide +kernel
theorem dX5_follows_17 : decode cX5_follows 17 = .ok (.invokevirtual 153, 3) := by decide +kernel
theorem dX5_follows_20 : decode cX5_follows 20 = .ok (.invokevirtual 156, 3) := by decide +kernel
theorem dX5_follows_23 : decode cX5_follows 23 = .ok (.aload_n 0, 1) := by decide +kernel
theorem dX5_follows_24 : decode cX5_follows 24 = .ok (.aload_n 0, 1) := by decide +kernel
theorem dX5_follows_25 : decode cX5_follows 25 = .ok (.getfield 43, 3) := by decide +kernel
theorem dX5_follows_28 : decode cX5_follows 28 = .ok (.iconst 0, 1) := by decide +kernel
theorem dX5_follows_29 : decode cX5_follows 29 = .ok (.invokevirtual 159, 3) := by decide +kernel
theorem dX5_follows_32 : decode cX5_follows 32 = .ok (.ifCond .eq 7, 3) := by decide +kernel
theorem dX5_follows_35 : decode cX5_follows 35 = .ok (.iconst 1, 1) := by decide +kernel
theorem dX5_follows_36 : decode cX5_follows 36 = .ok (.goto 4, 3) := by decide +kernel
theorem dX5_follows_39 : decode cX5_follows 39 = .ok (.iconst 0, 1) := by decide +kernel
theorem dX5_follows_40 : decode cX5_follows 40 = .ok (.ireturn, 1) := by decide +kernel
set_option maxRecDepth 20000 in
theorem ggX5_couldBe_X5_reads : GoodIn wsX5_couldBe wsX5_reads := goodIn_r _ [5, 6, 7, 8, 9, 10, 11, 12, 13, 14, 4, 15, 16, 17, 18, 19, 20, 21, 22, 23, 24, 25, 26, 27, 28, 29, 30, 31, 32, 33, 34, 35, 36, 37, 38, 39, 40, 41, 42, 43, 44, 45, 46, 47, 48, 49, 50, 51, 52, 53, 117, 118, 119, 120, 121, 122, 123, 124, 125, 126, 127, 128, 129, 130, 131, 132, 133, 134, 135, 136, 137] (by decide +kernel) (by decide +kernel)
set_option maxRecDepth 20000 in
theorem gX5_couldBe_X5_reads : GoodIn wsX5_couldBe (wsV RX5 184 RX5 yX5_reads wsX5_reads) := goodIn_app (goodIn_of _ (by decide +kernel)) ggX5_couldBe_X5_reads
set_option maxRecDepth 20000 in
theorem ggX5_couldBe_X5_mayBe : GoodIn wsX5_couldBe wsX5_mayBe := goodIn_r _ [57, 9, 58, 59, 60, 4, 61, 62, 63, 64, 65, 66, 67, 68, 69, 70, 71, 72, 73, 74, 75, 76, 77, 78, 79, 80, 81, 82, 83, 84, 85, 86, 87, 88, 89, 90, 91, 92, 93, 94, 95, 96, 97, 98, 99, 100, 101, 102, 103, 104, 105, 106, 107, 108, 109, 110, 111, 112, 113, 114, 115, 116, 117, 118, 119, 120, 121, 122, 123, 124, 125, 126, 127, 128, 129, 130, 131, 132, 133, 134, 135, 136, 137] (by decide +kernel) (by decide +kernel)
set_option maxRecDepth 20000 in
theorem gX5_couldBe_X5_mayBe : GoodIn wsX5_couldBe (wsV RX5 188 RX5 yX5_mayBe wsX5_mayBe) := goodIn_app (goodIn_of _ (by decide +kernel)) ggX5_couldBe_X5_mayBe
theorem dX5_couldBe_0 : decode cX5_couldBe 0 = .ok (.aload_n 0, 1) := by decide +kernel
theorem dX5_couldBe_1 : decode cX5_couldBe 1 = .ok (.iconst 1, 1) := by decide +kernel
theorem dX5_couldBe_2 : decode cX5_couldBe 2 = .ok (.invokevirtual 184, 3) := by decide +kernel
theorem dX5_couldBe_5 : decode cX5_couldBe 5 = .ok (.istore_n 1, 1) := by decide +kernel
theorem dX5_couldBe_6 : decode cX5_couldBe 6 = .ok (.iload_n 1, 1) := by decide +kernel
theorem dX5_couldBe_7 : decode cX5_couldBe 7 = .ok (.ifCond .eq 10, 3) := by decide +kernel
theorem dX5_couldBe_10 : decode cX5_couldBe 10 = .ok (.bipush (-10), 2) := by decide +kernel
theorem dX5_couldBe_12 : decode cX5_couldBe 12 = .ok (.iload_n 1, 1) := by decide +kernel
theorem dX5_couldBe_13 : decode cX5_couldBe 13 = .ok (.isub, 1) := by decide +kernel
theorem dX5_couldBe_14 : decode cX5_couldBe 14 = .ok (.goto 15, 3) := by decide +kernel
theorem dX5_couldBe_17 : decode cX5_couldBe 17 = .ok (.aload_n 0, 1) := by decide +kernel
theorem dX5_couldBe_18 : decode cX5_couldBe 18 = .ok (.invokevirtual 188, 3) := by decide +kernel
theorem dX5_couldBe_21 : decode cX5_couldBe 21 = .ok (.ifCond .eq 7, 3) := by decide +kernel
theorem dX5_couldBe_24 : decode cX5_couldBe 24 = .ok (.iconst 1, 1) := by decide +kernel
theorem dX5_couldBe_25 : decode cX5_couldBe 25 = .ok (.goto 4, 3) := by decide +kernel
theorem dX5_couldBe_28 : decode cX5_couldBe 28 = .ok (.iconst 0, 1) := by decide +kernel
theorem dX5_couldBe_29 : decode cX5_couldBe 29 = .ok (.ireturn, 1) := by decide +kernel
set_option maxRecDepth 20000 in
theorem ggX5_measured_X5_in : GoodIn wsX5_measured wsX5_in := goodIn_r _ [8] (by decide +kernel) (by decide +kernel)
set_option maxRecDepth 20000 in
theorem gX5_measured_X5_in : GoodIn wsX5_measured (va_wsS RX5 55 yX5_in wsX5_in) := goodIn_app (goodIn_of _ (by decide +kernel)) ggX5_measured_X5_in
set_option maxRecDepth 20000 in
theorem ggX5_measured_X5_reads : GoodIn wsX5_measured wsX5_reads := goodIn_r _ [12, 13, 14, 15, 2, 16, 17, 18, 19, 20, 7, 21, 22, 23, 24, 25, 26, 27, 28, 29, 30, 31, 32, 33, 34, 35, 36, 37, 5, 6, 8, 38, 39, 40, 41, 42, 43, 44, 45, 46, 47, 48, 49, 50, 51, 52, 53, 54, 55, 56, 115, 116, 117, 118, 119, 120, 121, 122, 123, 124, 125, 126, 127, 128, 129, 130, 131, 132, 133, 134, 135] (by decide +kernel) (by decide +kernel)
set_option maxRecDepth 20000 in
theorem gX5_measured_X5_reads : GoodIn wsX5_measured (wsV RX5 184 RX5 yX5_reads wsX5_reads) := goodIn_app (goodIn_of _ (by decide +kernel)) ggX5_measured_X5_reads
set_option maxRecDepth 20000 in
theorem ggX5_measured_X5_allOf : GoodIn wsX5_measured wsX5_allOf := goodIn_r _ [60, 61, 115, 116, 117, 118, 119, 120, 121, 122, 123, 124, 125, 126, 127, 128, 129, 130, 131, 132, 133, 134, 135] (by decide +kernel) (by decide +kernel)
set_option maxRecDepth 20000 in
theorem gX5_measured_X5_allOf : GoodIn wsX5_measured (wsV RX5 153 RX5 yX5_allOf wsX5_allOf) := goodIn_app (goodIn_of _ (by decide +kernel)) ggX5_measured_X5_allOf
set_option maxRecDepth 20000 in
theorem ggX5_measured_X5_solves : GoodIn wsX5_measured wsX5_solves := goodIn_r _ [65, 61, 66, 67, 68, 7, 69, 4, 70, 71, 72, 73, 74, 75, 76, 77, 78, 79, 80, 81, 82, 83, 84, 85, 86, 87, 88, 89, 90, 91, 92, 93, 94, 95, 96, 97, 98, 99, 100, 101, 102, 103, 104, 105, 106, 107, 108, 109, 110, 111, 112, 113, 114, 115, 116, 117, 118, 119, 120, 121, 122, 123, 124, 125, 126, 127, 128, 129, 130, 131, 132, 133, 134, 135] (by decide +kernel) (by decide +kernel)
set_option maxRecDepth 20000 in
theorem gX5_measured_X5_solves : GoodIn wsX5_measured (wsV RX5 156 RX5 yX5_solves wsX5_solves) := goodIn_app (goodIn_of _ (by decide +kernel)) ggX5_measured_X5_solves
set_option maxRecDepth 20000 in
theorem ggX5_measured_X5_restOf : GoodIn wsX5_measured wsX5_restOf := goodIn_r _ [102, 71, 115, 116, 117, 118, 119, 120, 121, 122, 123, 124, 125, 126, 127, 128, 129, 130, 131, 132, 133, 134, 135] (by decide +kernel) (by decide +kernel)
set_option maxRecDepth 20000 in
theorem gX5_measured_X5_restOf : GoodIn wsX5_measured (wsV RX5 127 RX5 yX5_restOf wsX5_restOf) := goodIn_app (goodIn_of _ (by decide +kernel)) ggX5_measured_X5_restOf
set_option maxRecDepth 20000 in
theorem ggX5_measured_X5_sumOf : GoodIn wsX5_measured wsX5_sumOf := goodIn_r _ [83, 70, 115, 116, 117, 118, 119, 120, 121, 122, 123, 124, 125, 126, 127, 128, 129, 130, 131, 132, 133, 134, 135] (by decide +kernel) (by decide +kernel)
set_option maxRecDepth 20000 in
theorem gX5_measured_X5_sumOf : GoodIn wsX5_measured (wsV RX5 119 RX5 yX5_sumOf wsX5_sumOf) := goodIn_app (goodIn_of _ (by decide +kernel)) ggX5_measured_X5_sumOf
theorem dX5_measured_0 : decode cX5_measured 0 = .ok (.iload_n 1, 1) := by decide +kernel
theorem dX5_measured_1 : decode cX5_measured 1 = .ok (.iconst 0, 1) := by decide +kernel
theorem dX5_measured_2 : decode cX5_measured 2 = .ok (.bipush 9, 2) := by decide +kernel
theorem dX5_measured_4 : decode cX5_measured 4 = .ok (.invokestatic 55, 3) := by decide +kernel
theorem dX5_measured_7 : decode cX5_measured 7 = .ok (.ifCond .ne 7, 3) := by decide +kernel
theorem dX5_measured_10 : decode cX5_measured 10 = .ok (.ldc2_w 224, 3) := by decide +kernel
theorem dX5_measured_13 : decode cX5_measured 13 = .ok (.lreturn, 1) := by decide +kernel
theorem dX5_measured_14 : decode cX5_measured 14 = .ok (.aload_n 0, 1) := by decide +kernel
theorem dX5_measured_15 : decode cX5_measured 15 = .ok (.iconst 0, 1) := by decide +kernel
theorem dX5_measured_16 : decode cX5_measured 16 = .ok (.invokevirtual 184, 3) := by decide +kernel
theorem dX5_measured_19 : decode cX5_measured 19 = .ok (.istore_n 2, 1) := by decide +kernel
theorem dX5_measured_20 : decode cX5_measured 20 = .ok (.iload_n 2, 1) := by decide +kernel
theorem dX5_measured_21 : decode cX5_measured 21 = .ok (.ifCond .eq 9, 3) := by decide +kernel
theorem dX5_measured_24 : decode cX5_measured 24 = .ok (.bipush (-10), 2) := by decide +kernel
theorem dX5_measured_26 : decode cX5_measured 26 = .ok (.iload_n 2, 1) := by decide +kernel
theorem dX5_measured_27 : decode cX5_measured 27 = .ok (.isub, 1) := by decide +kernel
theorem dX5_measured_28 : decode cX5_measured 28 = .ok (.i2l, 1) := by decide +kernel
theorem dX5_measured_29 : decode cX5_measured 29 = .ok (.lreturn, 1) := by decide +kernel
theorem dX5_measured_30 : decode cX5_measured 30 = .ok (.aload_n 0, 1) := by decide +kernel
theorem dX5_measured_31 : decode cX5_measured 31 = .ok (.aload_n 0, 1) := by decide +kernel
theorem dX5_measured_32 : decode cX5_measured 32 = .ok (.invokevirtual 153, 3) := by decide +kernel
theorem dX5_measured_35 : decode cX5_measured 35 = .ok (.invokevirtual 156, 3) := by decide +kernel
theorem dX5_measured_38 : decode cX5_measured 38 = .ok (.iload_n 1, 1) := by decide +kernel
theorem dX5_measured_39 : decode cX5_measured 39 = .ok (.iconst 4, 1) := by decide +kernel
theorem dX5_measured_40 : decode cX5_measured 40 = .ok (.if_icmp .ge 18, 3) := by decide +kernel
theorem dX5_measured_43 : decode cX5_measured 43 = .ok (.aload_n 0, 1) := by decide +kernel
theorem dX5_measured_44 : decode cX5_measured 44 = .ok (.aload_n 0, 1) := by decide +kernel
theorem dX5_measured_45 : decode cX5_measured 45 = .ok (.getfield 43, 3) := by decide +kernel
theorem dX5_measured_48 : decode cX5_measured 48 = .ok (.iconst 0, 1) := by decide +kernel
theorem dX5_measured_49 : decode cX5_measured 49 = .ok (.iload_n 1, 1) := by decide +kernel
theorem dX5_measured_50 : decode cX5_measured 50 = .ok (.invokevirtual 127, 3) := by decide +kernel
theorem dX5_measured_53 : decode cX5_measured 53 = .ok (.ldc2_w 222, 3) := by decide +kernel
theorem dX5_measured_56 : decode cX5_measured 56 = .ok (.ladd, 1) := by decide +kernel
theorem dX5_measured_57 : decode cX5_measured 57 = .ok (.lreturn, 1) := by decide +kernel
theorem dX5_measured_58 : decode cX5_measured 58 = .ok (.ldc2_w 222, 3) := by decide +kernel
theorem dX5_measured_61 : decode cX5_measured 61 = .ok (.iload_n 1, 1) := by decide +kernel
theorem dX5_measured_62 : decode cX5_measured 62 = .ok (.iconst 4, 1) := by decide +kernel
theorem dX5_measured_63 : decode cX5_measured 63 = .ok (.isub, 1) := by decide +kernel
theorem dX5_measured_64 : decode cX5_measured 64 = .ok (.aload_n 0, 1) := by decide +kernel
theorem dX5_measured_65 : decode cX5_measured 65 = .ok (.getfield 104, 3) := by decide +kernel
theorem dX5_measured_68 : decode cX5_measured 68 = .ok (.if_icmp .ge 18, 3) := by decide +kernel
theorem dX5_measured_71 : decode cX5_measured 71 = .ok (.aload_n 0, 1) := by decide +kernel
theorem dX5_measured_72 : decode cX5_measured 72 = .ok (.aload_n 0, 1) := by decide +kernel
theorem dX5_measured_73 : decode cX5_measured 73 = .ok (.getfield 43, 3) := by decide +kernel
theorem dX5_measured_76 : decode cX5_measured 76 = .ok (.iconst 0, 1) := by decide +kernel
theorem dX5_measured_77 : decode cX5_measured 77 = .ok (.iload_n 1, 1) := by decide +kernel
theorem dX5_measured_78 : decode cX5_measured 78 = .ok (.iconst 4, 1) := by decide +kernel
theorem dX5_measured_79 : decode cX5_measured 79 = .ok (.isub, 1) := by decide +kernel
theorem dX5_measured_80 : decode cX5_measured 80 = .ok (.invokevirtual 119, 3) := by decide +kernel
theorem dX5_measured_83 : decode cX5_measured 83 = .ok (.goto 4, 3) := by decide +kernel
theorem dX5_measured_86 : decode cX5_measured 86 = .ok (.lconst 0, 1) := by decide +kernel
theorem dX5_measured_87 : decode cX5_measured 87 = .ok (.ladd, 1) := by decide +kernel
theorem dX5_measured_88 : decode cX5_measured 88 = .ok (.lreturn, 1) := by decide +kernel
theorem dX5_madeWhole_0 : decode cX5_madeWhole 0 = .ok (.lload_n 0, 1) := by decide +kernel
theorem dX5_madeWhole_1 : decode cX5_madeWhole 1 = .ok (.lload_n 2, 1) := by decide +kernel
theorem dX5_madeWhole_2 : decode cX5_madeWhole 2 = .ok (.ldiv, 1) := by decide +kernel
theorem dX5_madeWhole_3 : decode cX5_madeWhole 3 = .ok (.lstore 5, 2) := by decide +kernel
theorem dX5_madeWhole_5 : decode cX5_madeWhole 5 = .ok (.lload_n 0, 1) := by decide +kernel
theorem dX5_madeWhole_6 : decode cX5_madeWhole 6 = .ok (.lload_n 2, 1) := by decide +kernel
theorem dX5_madeWhole_7 : decode cX5_madeWhole 7 = .ok (.lrem, 1) := by decide +kernel
theorem dX5_madeWhole_8 : decode cX5_madeWhole 8 = .ok (.lstore 7, 2) := by decide +kernel
theorem dX5_madeWhole_10 : decode cX5_madeWhole 10 = .ok (.lload 7, 2) := by decide +kernel
theorem dX5_madeWhole_12 : decode cX5_madeWhole 12 = .ok (.lconst 0, 1) := by decide +kernel
theorem dX5_madeWhole_13 : decode cX5_madeWhole 13 = .ok (.lcmp, 1) := by decide +kernel
theorem dX5_madeWhole_14 : decode cX5_madeWhole 14 = .ok (.ifCond .eq 8, 3) := by decide +kernel
theorem dX5_madeWhole_17 : decode cX5_madeWhole 17 = .ok (.iload 4, 2) := by decide +kernel
theorem dX5_madeWhole_19 : decode cX5_madeWhole 19 = .ok (.ifCond .ne 6, 3) := by decide +kernel
theorem dX5_madeWhole_22 : decode cX5_madeWhole 22 = .ok (.lload 5, 2) := by decide +kernel
theorem dX5_madeWhole_24 : decode cX5_madeWhole 24 = .ok (.lreturn, 1) := by decide +kernel
theorem dX5_madeWhole_25 : decode cX5_madeWhole 25 = .ok (.iload 4, 2) := by decide +kernel
theorem dX5_madeWhole_27 : decode cX5_madeWhole 27 = .ok (.iconst 1, 1) := by decide +kernel
theorem dX5_madeWhole_28 : decode cX5_madeWhole 28 = .ok (.if_icmp .eq 42, 3) := by decide +kernel
theorem dX5_madeWhole_31 : decode cX5_madeWhole 31 = .ok (.ldc2_w 133, 3) := by decide +kernel
theorem dX5_madeWhole_34 : decode cX5_madeWhole 34 = .ok (.lload 7, 2) := by decide +kernel
theorem dX5_madeWhole_36 : decode cX5_madeWhole 36 = .ok (.lmul, 1) := by decide +kernel
theorem dX5_madeWhole_37 : decode cX5_madeWhole 37 = .ok (.lload_n 2, 1) := by decide +kernel
theorem dX5_madeWhole_38 : decode cX5_madeWhole 38 = .ok (.lcmp, 1) := by decide +kernel
theorem dX5_madeWhole_39 : decode cX5_madeWhole 39 = .ok (.ifCond .gt 31, 3) := by decide +kernel
theorem dX5_madeWhole_42 : decode cX5_madeWhole 42 = .ok (.ldc2_w 133, 3) := by decide +kernel
theorem dX5_madeWhole_45 : decode cX5_madeWhole 45 = .ok (.lload 7, 2) := by decide +kernel
theorem dX5_madeWhole_47 : decode cX5_madeWhole 47 = .ok (.lmul, 1) := by decide +kernel
theorem dX5_madeWhole_48 : decode cX5_madeWhole 48 = .ok (.lload_n 2, 1) := by decide +kernel
theorem dX5_madeWhole_49 : decode cX5_madeWhole 49 = .ok (.lcmp, 1) := by decide +kernel
theorem dX5_madeWhole_50 : decode cX5_madeWhole 50 = .ok (.ifCond .ne 24, 3) := by decide +kernel
theorem dX5_madeWhole_53 : decode cX5_madeWhole 53 = .ok (.iload 4, 2) := by decide +kernel
theorem dX5_madeWhole_55 : decode cX5_madeWhole 55 = .ok (.iconst 2, 1) := by decide +kernel
theorem dX5_madeWhole_56 : decode cX5_madeWhole 56 = .ok (.if_icmp .eq 14, 3) := by decide +kernel
theorem dX5_madeWhole_59 : decode cX5_madeWhole 59 = .ok (.lload 5, 2) := by decide +kernel
theorem dX5_madeWhole_61 : decode cX5_madeWhole 61 = .ok (.ldc2_w 133, 3) := by decide +kernel
theorem dX5_madeWhole_64 : decode cX5_madeWhole 64 = .ok (.lrem, 1) := by decide +kernel
theorem dX5_madeWhole_65 : decode cX5_madeWhole 65 = .ok (.lconst 1, 1) := by decide +kernel
theorem dX5_madeWhole_66 : decode cX5_madeWhole 66 = .ok (.lcmp, 1) := by decide +kernel
theorem dX5_madeWhole_67 : decode cX5_madeWhole 67 = .ok (.ifCond .ne 7, 3) := by decide +kernel
theorem dX5_madeWhole_70 : decode cX5_madeWhole 70 = .ok (.iconst 1, 1) := by decide +kernel
theorem dX5_madeWhole_71 : decode cX5_madeWhole 71 = .ok (.goto 4, 3) := by decide +kernel
theorem dX5_madeWhole_74 : decode cX5_madeWhole 74 = .ok (.iconst 0, 1) := by decide +kernel
theorem dX5_madeWhole_75 : decode cX5_madeWhole 75 = .ok (.istore 9, 2) := by decide +kernel
theorem dX5_madeWhole_77 : decode cX5_madeWhole 77 = .ok (.iload 9, 2) := by decide +kernel
theorem dX5_madeWhole_79 : decode cX5_madeWhole 79 = .ok (.ifCond .eq 10, 3) := by decide +kernel
theorem dX5_madeWhole_82 : decode cX5_madeWhole 82 = .ok (.lload 5, 2) := by decide +kernel
theorem dX5_madeWhole_84 : decode cX5_madeWhole 84 = .ok (.lconst 1, 1) := by decide +kernel
theorem dX5_madeWhole_85 : decode cX5_madeWhole 85 = .ok (.ladd, 1) := by decide +kernel
theorem dX5_madeWhole_86 : decode cX5_madeWhole 86 = .ok (.goto 5, 3) := by decide +kernel
theorem dX5_madeWhole_89 : decode cX5_madeWhole 89 = .ok (.lload 5, 2) := by decide +kernel
theorem dX5_madeWhole_91 : decode cX5_madeWhole 91 = .ok (.lreturn, 1) := by decide +kernel
set_option maxRecDepth 20000 in
theorem ggX5_converted_X5_in : GoodIn wsX5_converted wsX5_in := goodIn_r _ [9] (by decide +kernel) (by decide +kernel)
set_option maxRecDepth 20000 in
theorem gX5_converted_X5_in : GoodIn wsX5_converted (va_wsS RX5 55 yX5_in wsX5_in) := goodIn_app (goodIn_of _ (by decide +kernel)) ggX5_converted_X5_in
set_option maxRecDepth 20000 in
theorem ggX5_converted_X5_reads : GoodIn wsX5_converted wsX5_reads := goodIn_r _ [13, 14, 15, 16, 3, 17, 18, 19, 20, 21, 8, 22, 23, 24, 25, 26, 27, 28, 29, 30, 31, 32, 33, 34, 35, 36, 37, 38, 6, 7, 9, 39, 40, 41, 42, 43, 44, 45, 46, 47, 48, 49, 50, 51, 52, 53, 54, 55, 56, 57, 62, 63, 64, 65, 66, 67, 68, 69, 70, 71, 72, 73, 74, 75, 76, 77, 78, 79, 80, 81, 82] (by decide +kernel) (by decide +kernel)
set_option maxRecDepth 20000 in
theorem gX5_converted_X5_reads : GoodIn wsX5_converted (wsV RX5 184 RX5 yX5_reads wsX5_reads) := goodIn_app (goodIn_of _ (by decide +kernel)) ggX5_converted_X5_reads
set_option maxRecDepth 20000 in
theorem ggX5_converted_X5_madeWhole : GoodIn wsX5_converted wsX5_madeWhole := goodIn_r _ [60, 61] (by decide +kernel) (by decide +kernel)
set_option maxRecDepth 20000 in
theorem gX5_converted_X5_madeWhole : GoodIn wsX5_converted (va_wsS RX5 232 yX5_madeWhole wsX5_madeWhole) := goodIn_app (goodIn_of _ (by decide +kernel)) ggX5_converted_X5_madeWhole
theorem dX5_converted_0 : decode cX5_converted 0 = .ok (.iload_n 1, 1) := by decide +kernel
theorem dX5_converted_1 : decode cX5_converted 1 = .ok (.iconst 0, 1) := by decide +kernel
theorem dX5_converted_2 : decode cX5_converted 2 = .ok (.ldc 229, 2) := by decide +kernel
theorem dX5_converted_4 : decode cX5_converted 4 = .ok (.invokestatic 55, 3) := by decide +kernel
theorem dX5_converted_7 : decode cX5_converted 7 = .ok (.ifCond .eq 12, 3) := by decide +kernel
theorem dX5_converted_10 : decode cX5_converted 10 = .ok (.iload_n 2, 1) := by decide +kernel
theorem dX5_converted_11 : decode cX5_converted 11 = .ok (.iconst 0, 1) := by decide +kernel
theorem dX5_converted_12 : decode cX5_converted 12 = .ok (.iconst 3, 1) := by decide +kernel
theorem dX5_converted_13 : decode cX5_converted 13 = .ok (.invokestatic 55, 3) := by decide +kernel
theorem dX5_converted_16 : decode cX5_converted 16 = .ok (.ifCond .ne 7, 3) := by decide +kernel
theorem dX5_converted_19 : decode cX5_converted 19 = .ok (.ldc2_w 224, 3) := by decide +kernel
theorem dX5_converted_22 : decode cX5_converted 22 = .ok (.lreturn, 1) := by decide +kernel
theorem dX5_converted_23 : decode cX5_converted 23 = .ok (.aload_n 0, 1) := by decide +kernel
theorem dX5_converted_24 : decode cX5_converted 24 = .ok (.iconst 0, 1) := by decide +kernel
theorem dX5_converted_25 : decode cX5_converted 25 = .ok (.invokevirtual 184, 3) := by decide +kernel
theorem dX5_converted_28 : decode cX5_converted 28 = .ok (.istore_n 3, 1) := by decide +kernel
theorem dX5_converted_29 : decode cX5_converted 29 = .ok (.iload_n 3, 1) := by decide +kernel
theorem dX5_converted_30 : decode cX5_converted 30 = .ok (.ifCond .eq 9, 3) := by decide +kernel
theorem dX5_converted_33 : decode cX5_converted 33 = .ok (.bipush (-10), 2) := by decide +kernel
theorem dX5_converted_35 : decode cX5_converted 35 = .ok (.iload_n 3, 1) := by decide +kernel
theorem dX5_converted_36 : decode cX5_converted 36 = .ok (.isub, 1) := by decide +kernel
theorem dX5_converted_37 : decode cX5_converted 37 = .ok (.i2l, 1) := by decide +kernel
theorem dX5_converted_38 : decode cX5_converted 38 = .ok (.lreturn, 1) := by decide +kernel
theorem dX5_converted_39 : decode cX5_converted 39 = .ok (.iload_n 1, 1) := by decide +kernel
theorem dX5_converted_40 : decode cX5_converted 40 = .ok (.i2l, 1) := by decide +kernel
theorem dX5_converted_41 : decode cX5_converted 41 = .ok (.lstore 4, 2) := by decide +kernel
theorem dX5_converted_43 : decode cX5_converted 43 = .ok (.lconst 1, 1) := by decide +kernel
theorem dX5_converted_44 : decode cX5_converted 44 = .ok (.lstore 6, 2) := by decide +kernel
theorem dX5_converted_46 : decode cX5_converted 46 = .ok (.iconst 0, 1) := by decide +kernel
theorem dX5_converted_47 : decode cX5_converted 47 = .ok (.istore 8, 2) := by decide +kernel
theorem dX5_converted_49 : decode cX5_converted 49 = .ok (.iload 8, 2) := by decide +kernel
theorem dX5_converted_51 : decode cX5_converted 51 = .ok (.bipush 10, 2) := by decide +kernel
theorem dX5_converted_53 : decode cX5_converted 53 = .ok (.if_icmp .ge 152, 3) := by decide +kernel
theorem dX5_converted_56 : decode cX5_converted 56 = .ok (.aload_n 0, 1) := by decide +kernel
theorem dX5_converted_57 : decode cX5_converted 57 = .ok (.getfield 43, 3) := by decide +kernel
theorem dX5_converted_60 : decode cX5_converted 60 = .ok (.iload 8, 2) := by decide +kernel
theorem dX5_converted_62 : decode cX5_converted 62 = .ok (.iaload, 1) := by decide +kernel
theorem dX5_converted_63 : decode cX5_converted 63 = .ok (.istore 9, 2) := by decide +kernel
theorem dX5_converted_65 : decode cX5_converted 65 = .ok (.iload 8, 2) := by decide +kernel
theorem dX5_converted_67 : decode cX5_converted 67 = .ok (.bipush 6, 2) := by decide +kernel
theorem dX5_converted_69 : decode cX5_converted 69 = .ok (.if_icmp .ge 11, 3) := by decide +kernel
theorem dX5_converted_72 : decode cX5_converted 72 = .ok (.iload 9, 2) := by decide +kernel
theorem dX5_converted_74 : decode cX5_converted 74 = .ok (.ifCond .eq 21, 3) := by decide +kernel
theorem dX5_converted_77 : decode cX5_converted 77 = .ok (.goto 14, 3) := by decide +kernel
theorem dX5_converted_80 : decode cX5_converted 80 = .ok (.iload 9, 2) := by decide +kernel
theorem dX5_converted_82 : decode cX5_converted 82 = .ok (.bipush (-3), 2) := by decide +kernel
theorem dX5_converted_84 : decode cX5_converted 84 = .ok (.iconst 3, 1) := by decide +kernel
theorem dX5_converted_85 : decode cX5_converted 85 = .ok (.invokestatic 55, 3) := by decide +kernel
theorem dX5_converted_88 : decode cX5_converted 88 = .ok (.ifCond .ne 7, 3) := by decide +kernel
theorem dX5_converted_91 : decode cX5_converted 91 = .ok (.ldc2_w 230, 3) := by decide +kernel
theorem dX5_converted_94 : decode cX5_converted 94 = .ok (.lreturn, 1) := by decide +kernel
theorem dX5_converted_95 : decode cX5_converted 95 = .ok (.iload 8, 2) := by decide +kernel
theorem dX5_converted_97 : decode cX5_converted 97 = .ok (.bipush 6, 2) := by decide +kernel
theorem dX5_converted_99 : decode cX5_converted 99 = .ok (.isub, 1) := by decide +kernel
theorem dX5_converted_100 : decode cX5_converted 100 = .ok (.istore 10, 2) := by decide +kernel
theorem dX5_converted_102 : decode cX5_converted 102 = .ok (.iconst 0, 1) := by decide +kernel
theorem dX5_converted_103 : decode cX5_converted 103 = .ok (.istore 11, 2) := by decide +kernel
theorem dX5_converted_105 : decode cX5_converted 105 = .ok (.iload 11, 2) := by decide +kernel
theorem dX5_converted_107 : decode cX5_converted 107 = .ok (.iload 9, 2) := by decide +kernel
theorem dX5_converted_109 : decode cX5_converted 109 = .ok (.if_icmp .ge 41, 3) := by decide +kernel
theorem dX5_converted_112 : decode cX5_converted 112 = .ok (.lload 4, 2) := by decide +kernel
theorem dX5_converted_114 : decode cX5_converted 114 = .ok (.aload_n 0, 1) := by decide +kernel
theorem dX5_converted_115 : decode cX5_converted 115 = .ok (.getfield 17, 3) := by decide +kernel
theorem dX5_converted_118 : decode cX5_converted 118 = .ok (.bipush 61, 2) := by decide +kernel
theorem dX5_converted_120 : decode cX5_converted 120 = .ok (.iload 10, 2) := by decide +kernel
theorem dX5_converted_122 : decode cX5_converted 122 = .ok (.iadd, 1) := by decide +kernel
theorem dX5_converted_123 : decode cX5_converted 123 = .ok (.iaload, 1) := by decide +kernel
theorem dX5_converted_124 : decode cX5_converted 124 = .ok (.i2l, 1) := by decide +kernel
theorem dX5_converted_125 : decode cX5_converted 125 = .ok (.lmul, 1) := by decide +kernel
theorem dX5_converted_126 : decode cX5_converted 126 = .ok (.lstore 4, 2) := by decide +kernel
theorem dX5_converted_128 : decode cX5_converted 128 = .ok (.lload 6, 2) := by decide +kernel
theorem dX5_converted_130 : decode cX5_converted 130 = .ok (.aload_n 0, 1) := by decide +kernel
theorem dX5_converted_131 : decode cX5_converted 131 = .ok (.getfield 17, 3) := by decide +kernel
theorem dX5_converted_134 : decode cX5_converted 134 = .ok (.bipush 65, 2) := by decide +kernel
theorem dX5_converted_136 : decode cX5_converted 136 = .ok (.iload 10, 2) := by decide +kernel
theorem dX5_converted_138 : decode cX5_converted 138 = .ok (.iadd, 1) := by decide +kernel
theorem dX5_converted_139 : decode cX5_converted 139 = .ok (.iaload, 1) := by decide +kernel
theorem dX5_converted_140 : decode cX5_converted 140 = .ok (.i2l, 1) := by decide +kernel
theorem dX5_converted_141 : decode cX5_converted 141 = .ok (.lmul, 1) := by decide +kernel
theorem dX5_converted_142 : decode cX5_converted 142 = .ok (.lstore 6, 2) := by decide +kernel
theorem dX5_converted_144 : decode cX5_converted 144 = .ok (.iinc 11 1, 3) := by decide +kernel
theorem dX5_converted_147 : decode cX5_converted 147 = .ok (.goto (-42), 3) := by decide +kernel
theorem dX5_converted_150 : decode cX5_converted 150 = .ok (.iconst 0, 1) := by decide +kernel
theorem dX5_converted_151 : decode cX5_converted 151 = .ok (.istore 11, 2) := by decide +kernel
theorem dX5_converted_153 : decode cX5_converted 153 = .ok (.iload 11, 2) := by decide +kernel
theorem dX5_converted_155 : decode cX5_converted 155 = .ok (.iload 9, 2) := by decide +kernel
theorem dX5_converted_157 : decode cX5_converted 157 = .ok (.ineg, 1) := by decide +kernel
theorem dX5_converted_158 : decode cX5_converted 158 = .ok (.if_icmp .ge 41, 3) := by decide +kernel
theorem dX5_converted_161 : decode cX5_converted 161 = .ok (.lload 4, 2) := by decide +kernel
theorem dX5_converted_163 : decode cX5_converted 163 = .ok (.aload_n 0, 1) := by decide +kernel
theorem dX5_converted_164 : decode cX5_converted 164 = .ok (.getfield 17, 3) := by decide +kernel
theorem dX5_converted_167 : decode cX5_converted 167 = .ok (.bipush 65, 2) := by decide +kernel
theorem dX5_converted_169 : decode cX5_converted 169 = .ok (.iload 10, 2) := by decide +kernel
theorem dX5_converted_171 : decode cX5_converted 171 = .ok (.iadd, 1) := by decide +kernel
theorem dX5_converted_172 : decode cX5_converted 172 = .ok (.iaload, 1) := by decide +kernel
theorem dX5_converted_173 : decode cX5_converted 173 = .ok (.i2l, 1) := by decide +kernel
theorem dX5_converted_174 : decode cX5_converted 174 = .ok (.lmul, 1) := by decide +kernel
theorem dX5_converted_175 : decode cX5_converted 175 = .ok (.lstore 4, 2) := by decide +kernel
theorem dX5_converted_177 : decode cX5_converted 177 = .ok (.lload 6, 2) := by decide +kernel
theorem dX5_converted_179 : decode cX5_converted 179 = .ok (.aload_n 0, 1) := by decide +kernel
theorem dX5_converted_180 : decode cX5_converted 180 = .ok (.getfield 17, 3) := by decide +kernel
theorem dX5_converted_183 : decode cX5_converted 183 = .ok (.bipush 61, 2) := by decide +kernel
theorem dX5_converted_185 : decode cX5_converted 185 = .ok (.iload 10, 2) := by decide +kernel
theorem dX5_converted_187 : decode cX5_converted 187 = .ok (.iadd, 1) := by decide +kernel
theorem dX5_converted_188 : decode cX5_converted 188 = .ok (.iaload, 1) := by decide +kernel
theorem dX5_converted_189 : decode cX5_converted 189 = .ok (.i2l, 1) := by decide +kernel
theorem dX5_converted_190 : decode cX5_converted 190 = .ok (.lmul, 1) := by decide +kernel
theorem dX5_converted_191 : decode cX5_converted 191 = .ok (.lstore 6, 2) := by decide +kernel
theorem dX5_converted_193 : decode cX5_converted 193 = .ok (.iinc 11 1, 3) := by decide +kernel
theorem dX5_converted_196 : decode cX5_converted 196 = .ok (.goto (-43), 3) := by decide +kernel
theorem dX5_converted_199 : decode cX5_converted 199 = .ok (.iinc 8 1, 3) := by decide +kernel
theorem dX5_converted_202 : decode cX5_converted 202 = .ok (.goto (-153), 3) := by decide +kernel
theorem dX5_converted_205 : decode cX5_converted 205 = .ok (.lload 4, 2) := by decide +kernel
theorem dX5_converted_207 : decode cX5_converted 207 = .ok (.lload 6, 2) := by decide +kernel
theorem dX5_converted_209 : decode cX5_converted 209 = .ok (.iload_n 2, 1) := by decide +kernel
theorem dX5_converted_210 : decode cX5_converted 210 = .ok (.invokestatic 232, 3) := by decide +kernel
theorem dX5_converted_213 : decode cX5_converted 213 = .ok (.lreturn, 1) := by decide +kernel
theorem dX5_seed_0 : decode cX5_seed 0 = .ok (.iload_n 1, 1) := by decide +kernel
theorem dX5_seed_1 : decode cX5_seed 1 = .ok (.ifCond .ge 6, 3) := by decide +kernel
theorem dX5_seed_4 : decode cX5_seed 4 = .ok (.ldc 59, 2) := by decide +kernel
theorem dX5_seed_6 : decode cX5_seed 6 = .ok (.ireturn, 1) := by decide +kernel
theorem dX5_seed_7 : decode cX5_seed 7 = .ok (.aload_n 0, 1) := by decide +kernel
theorem dX5_seed_8 : decode cX5_seed 8 = .ok (.getfield 202, 3) := by decide +kernel
theorem dX5_seed_11 : decode cX5_seed 11 = .ok (.l2i, 1) := by decide +kernel
theorem dX5_seed_12 : decode cX5_seed 12 = .ok (.istore_n 2, 1) := by decide +kernel
theorem dX5_seed_13 : decode cX5_seed 13 = .ok (.aload_n 0, 1) := by decide +kernel
theorem dX5_seed_14 : decode cX5_seed 14 = .ok (.iload_n 1, 1) := by decide +kernel
theorem dX5_seed_15 : decode cX5_seed 15 = .ok (.i2l, 1) := by decide +kernel
theorem dX5_seed_16 : decode cX5_seed 16 = .ok (.putfield 202, 3) := by decide +kernel
theorem dX5_seed_19 : decode cX5_seed 19 = .ok (.iload_n 2, 1) := by decide +kernel
theorem dX5_seed_20 : decode cX5_seed 20 = .ok (.ireturn, 1) := by decide +kernel
set_option maxRecDepth 20000 in
theorem ggX5_keep_X5_in : GoodIn wsX5_keep wsX5_in := goodIn_r _ [11] (by decide +kernel) (by decide +kernel)
set_option maxRecDepth 20000 in
theorem gX5_keep_X5_in : GoodIn wsX5_keep (va_wsS RX5 55 yX5_in wsX5_in) := goodIn_app (goodIn_of _ (by decide +kernel)) ggX5_keep_X5_in
set_option maxRecDepth 20000 in
theorem ggX5_keep_X5_bring : GoodIn wsX5_keep wsX5_bring := goodIn_r _ [14] (by decide +kernel) (by decide +kernel)
set_option maxRecDepth 20000 in
theorem gX5_keep_X5_bring : GoodIn wsX5_keep (va_wsS RX5 90 yX5_bring wsX5_bring) := goodIn_app (goodIn_of _ (by decide +kernel)) ggX5_keep_X5_bring
theorem dX5_keep_0 : decode cX5_keep 0 = .ok (.iload_n 1, 1) := by decide +kernel
theorem dX5_keep_1 : decode cX5_keep 1 = .ok (.iconst 0, 1) := by decide +kernel
theorem dX5_keep_2 : decode cX5_keep 2 = .ok (.iconst 1, 1) := by decide +kernel
theorem dX5_keep_3 : decode cX5_keep 3 = .ok (.invokestatic 55, 3) := by decide +kernel
theorem dX5_keep_6 : decode cX5_keep 6 = .ok (.ifCond .ne 6, 3) := by decide +kernel
theorem dX5_keep_9 : decode cX5_keep 9 = .ok (.ldc 198, 2) := by decide +kernel
theorem dX5_keep_11 : decode cX5_keep 11 = .ok (.ireturn, 1) := by decide +kernel
theorem dX5_keep_12 : decode cX5_keep 12 = .ok (.aload_n 0, 1) := by decide +kernel
theorem dX5_keep_13 : decode cX5_keep 13 = .ok (.getfield 17, 3) := by decide +kernel
theorem dX5_keep_16 : decode cX5_keep 16 = .ok (.iconst 0, 1) := by decide +kernel
theorem dX5_keep_17 : decode cX5_keep 17 = .ok (.aload_n 0, 1) := by decide +kernel
theorem dX5_keep_18 : decode cX5_keep 18 = .ok (.getfield 23, 3) := by decide +kernel
theorem dX5_keep_21 : decode cX5_keep 21 = .ok (.bipush 69, 2) := by decide +kernel
theorem dX5_keep_23 : decode cX5_keep 23 = .ok (.iload_n 1, 1) := by decide +kernel
theorem dX5_keep_24 : decode cX5_keep 24 = .ok (.imul, 1) := by decide +kernel
theorem dX5_keep_25 : decode cX5_keep 25 = .ok (.bipush 69, 2) := by decide +kernel
theorem dX5_keep_27 : decode cX5_keep 27 = .ok (.invokestatic 90, 3) := by decide +kernel
theorem dX5_keep_30 : decode cX5_keep 30 = .ok (.aload_n 0, 1) := by decide +kernel
theorem dX5_keep_31 : decode cX5_keep 31 = .ok (.getfield 26, 3) := by decide +kernel
theorem dX5_keep_34 : decode cX5_keep 34 = .ok (.iload_n 1, 1) := by decide +kernel
theorem dX5_keep_35 : decode cX5_keep 35 = .ok (.aload_n 0, 1) := by decide +kernel
theorem dX5_keep_36 : decode cX5_keep 36 = .ok (.getfield 202, 3) := by decide +kernel
theorem dX5_keep_39 : decode cX5_keep 39 = .ok (.lastore, 1) := by decide +kernel
theorem dX5_keep_40 : decode cX5_keep 40 = .ok (.aload_n 0, 1) := by decide +kernel
theorem dX5_keep_41 : decode cX5_keep 41 = .ok (.getfield 30, 3) := by decide +kernel
theorem dX5_keep_44 : decode cX5_keep 44 = .ok (.iload_n 1, 1) := by decide +kernel
theorem dX5_keep_45 : decode cX5_keep 45 = .ok (.iconst 1, 1) := by decide +kernel
theorem dX5_keep_46 : decode cX5_keep 46 = .ok (.bastore, 1) := by decide +kernel
theorem dX5_keep_47 : decode cX5_keep 47 = .ok (.aload_n 0, 1) := by decide +kernel
theorem dX5_keep_48 : decode cX5_keep 48 = .ok (.iconst 0, 1) := by decide +kernel
theorem dX5_keep_49 : decode cX5_keep 49 = .ok (.putfield 181, 3) := by decide +kernel
theorem dX5_keep_52 : decode cX5_keep 52 = .ok (.iconst 1, 1) := by decide +kernel
theorem dX5_keep_53 : decode cX5_keep 53 = .ok (.ireturn, 1) := by decide +kernel
set_option maxRecDepth 20000 in
theorem ggX5_goBack_X5_in : GoodIn wsX5_goBack wsX5_in := goodIn_r _ [12] (by decide +kernel) (by decide +kernel)
set_option maxRecDepth 20000 in
theorem gX5_goBack_X5_in : GoodIn wsX5_goBack (va_wsS RX5 55 yX5_in wsX5_in) := goodIn_app (goodIn_of _ (by decide +kernel)) ggX5_goBack_X5_in
set_option maxRecDepth 20000 in
theorem ggX5_goBack_X5_bring : GoodIn wsX5_goBack wsX5_bring := goodIn_r _ [15] (by decide +kernel) (by decide +kernel)
set_option maxRecDepth 20000 in
theorem gX5_goBack_X5_bring : GoodIn wsX5_goBack (va_wsS RX5 90 yX5_bring wsX5_bring) := goodIn_app (goodIn_of _ (by decide +kernel)) ggX5_goBack_X5_bring
theorem dX5_goBack_0 : decode cX5_goBack 0 = .ok (.iload_n 1, 1) := by decide +kernel
theorem dX5_goBack_1 : decode cX5_goBack 1 = .ok (.iconst 0, 1) := by decide +kernel
theorem dX5_goBack_2 : decode cX5_goBack 2 = .ok (.iconst 1, 1) := by decide +kernel
theorem dX5_goBack_3 : decode cX5_goBack 3 = .ok (.invokestatic 55, 3) := by decide +kernel
theorem dX5_goBack_6 : decode cX5_goBack 6 = .ok (.ifCond .ne 6, 3) := by decide +kernel
theorem dX5_goBack_9 : decode cX5_goBack 9 = .ok (.ldc 198, 2) := by decide +kernel
theorem dX5_goBack_11 : decode cX5_goBack 11 = .ok (.ireturn, 1) := by decide +kernel
theorem dX5_goBack_12 : decode cX5_goBack 12 = .ok (.aload_n 0, 1) := by decide +kernel
theorem dX5_goBack_13 : decode cX5_goBack 13 = .ok (.getfield 30, 3) := by decide +kernel
theorem dX5_goBack_16 : decode cX5_goBack 16 = .ok (.iload_n 1, 1) := by decide +kernel
theorem dX5_goBack_17 : decode cX5_goBack 17 = .ok (.baload, 1) := by decide +kernel
theorem dX5_goBack_18 : decode cX5_goBack 18 = .ok (.ifCond .ne 6, 3) := by decide +kernel
theorem dX5_goBack_21 : decode cX5_goBack 21 = .ok (.ldc 191, 2) := by decide +kernel
theorem dX5_goBack_23 : decode cX5_goBack 23 = .ok (.ireturn, 1) := by decide +kernel
theorem dX5_goBack_24 : decode cX5_goBack 24 = .ok (.aload_n 0, 1) := by decide +kernel
theorem dX5_goBack_25 : decode cX5_goBack 25 = .ok (.getfield 23, 3) := by decide +kernel
theorem dX5_goBack_28 : decode cX5_goBack 28 = .ok (.bipush 69, 2) := by decide +kernel
theorem dX5_goBack_30 : decode cX5_goBack 30 = .ok (.iload_n 1, 1) := by decide +kernel
theorem dX5_goBack_31 : decode cX5_goBack 31 = .ok (.imul, 1) := by decide +kernel
theorem dX5_goBack_32 : decode cX5_goBack 32 = .ok (.aload_n 0, 1) := by decide +kernel
theorem dX5_goBack_33 : decode cX5_goBack 33 = .ok (.getfield 17, 3) := by decide +kernel
theorem dX5_goBack_36 : decode cX5_goBack 36 = .ok (.iconst 0, 1) := by decide +kernel
theorem dX5_goBack_37 : decode cX5_goBack 37 = .ok (.bipush 69, 2) := by decide +kernel
theorem dX5_goBack_39 : decode cX5_goBack 39 = .ok (.invokestatic 90, 3) := by decide +kernel
theorem dX5_goBack_42 : decode cX5_goBack 42 = .ok (.aload_n 0, 1) := by decide +kernel
theorem dX5_goBack_43 : decode cX5_goBack 43 = .ok (.aload_n 0, 1) := by decide +kernel
theorem dX5_goBack_44 : decode cX5_goBack 44 = .ok (.getfield 26, 3) := by decide +kernel
theorem dX5_goBack_47 : decode cX5_goBack 47 = .ok (.iload_n 1, 1) := by decide +kernel
theorem dX5_goBack_48 : decode cX5_goBack 48 = .ok (.laload, 1) := by decide +kernel
theorem dX5_goBack_49 : decode cX5_goBack 49 = .ok (.putfield 202, 3) := by decide +kernel
theorem dX5_goBack_52 : decode cX5_goBack 52 = .ok (.aload_n 0, 1) := by decide +kernel
theorem dX5_goBack_53 : decode cX5_goBack 53 = .ok (.iconst 0, 1) := by decide +kernel
theorem dX5_goBack_54 : decode cX5_goBack 54 = .ok (.putfield 181, 3) := by decide +kernel
theorem dX5_goBack_57 : decode cX5_goBack 57 = .ok (.iconst 1, 1) := by decide +kernel
theorem dX5_goBack_58 : decode cX5_goBack 58 = .ok (.ireturn, 1) := by decide +kernel
theorem dJ6_bitCount_0f7a4_0 : decode cJ6_bitCount_0f7a4 0 = .ok (.iload_n 0, 1) := by decide +kernel
theorem dJ6_bitCount_0f7a4_1 : decode cJ6_bitCount_0f7a4 1 = .ok (.iload_n 0, 1) := by decide +kernel
theorem dJ6_bitCount_0f7a4_2 : decode cJ6_bitCount_0f7a4 2 = .ok (.iconst 1, 1) := by decide +kernel
theorem dJ6_bitCount_0f7a4_3 : decode cJ6_bitCount_0f7a4 3 = .ok (.iushr, 1) := by decide +kernel
theorem dJ6_bitCount_0f7a4_4 : decode cJ6_bitCount_0f7a4 4 = .ok (.ldc_w 265, 3) := by decide +kernel
theorem dJ6_bitCount_0f7a4_7 : decode cJ6_bitCount_0f7a4 7 = .ok (.iand, 1) := by decide +kernel
theorem dJ6_bitCount_0f7a4_8 : decode cJ6_bitCount_0f7a4 8 = .ok (.isub, 1) := by decide +kernel
theorem dJ6_bitCount_0f7a4_9 : decode cJ6_bitCount_0f7a4 9 = .ok (.istore_n 0, 1) := by decide +kernel
theorem dJ6_bitCount_0f7a4_10 : decode cJ6_bitCount_0f7a4 10 = .ok (.iload_n 0, 1) := by decide +kernel
theorem dJ6_bitCount_0f7a4_11 : decode cJ6_bitCount_0f7a4 11 = .ok (.ldc_w 266, 3) := by decide +kernel
theorem dJ6_bitCount_0f7a4_14 : decode cJ6_bitCount_0f7a4 14 = .ok (.iand, 1) := by decide +kernel
theorem dJ6_bitCount_0f7a4_15 : decode cJ6_bitCount_0f7a4 15 = .ok (.iload_n 0, 1) := by decide +kernel
theorem dJ6_bitCount_0f7a4_16 : decode cJ6_bitCount_0f7a4 16 = .ok (.iconst 2, 1) := by decide +kernel
theorem dJ6_bitCount_0f7a4_17 : decode cJ6_bitCount_0f7a4 17 = .ok (.iushr, 1) := by decide +kernel
theorem dJ6_bitCount_0f7a4_18 : decode cJ6_bitCount_0f7a4 18 = .ok (.ldc_w 266, 3) := by decide +kernel
theorem dJ6_bitCount_0f7a4_21 : decode cJ6_bitCount_0f7a4 21 = .ok (.iand, 1) := by decide +kernel
theorem dJ6_bitCount_0f7a4_22 : decode cJ6_bitCount_0f7a4 22 = .ok (.iadd, 1) := by decide +kernel
theorem dJ6_bitCount_0f7a4_23 : decode cJ6_bitCount_0f7a4 23 = .ok (.istore_n 0, 1) := by decide +kernel
theorem dJ6_bitCount_0f7a4_24 : decode cJ6_bitCount_0f7a4 24 = .ok (.iload_n 0, 1) := by decide +kernel
theorem dJ6_bitCount_0f7a4_25 : decode cJ6_bitCount_0f7a4 25 = .ok (.iload_n 0, 1) := by decide +kernel
theorem dJ6_bitCount_0f7a4_26 : decode cJ6_bitCount_0f7a4 26 = .ok (.iconst 4, 1) := by decide +kernel
theorem dJ6_bitCount_0f7a4_27 : decode cJ6_bitCount_0f7a4 27 = .ok (.iushr, 1) := by decide +kernel
theorem dJ6_bitCount_0f7a4_28 : decode cJ6_bitCount_0f7a4 28 = .ok (.iadd, 1) := by decide +kernel
theorem dJ6_bitCount_0f7a4_29 : decode cJ6_bitCount_0f7a4 29 = .ok (.ldc_w 267, 3) := by decide +kernel
theorem dJ6_bitCount_0f7a4_32 : decode cJ6_bitCount_0f7a4 32 = .ok (.iand, 1) := by decide +kernel
theorem dJ6_bitCount_0f7a4_33 : decode cJ6_bitCount_0f7a4 33 = .ok (.istore_n 0, 1) := by decide +kernel
theorem dJ6_bitCount_0f7a4_34 : decode cJ6_bitCount_0f7a4 34 = .ok (.iload_n 0, 1) := by decide +kernel
theorem dJ6_bitCount_0f7a4_35 : decode cJ6_bitCount_0f7a4 35 = .ok (.iload_n 0, 1) := by decide +kernel
theorem dJ6_bitCount_0f7a4_36 : decode cJ6_bitCount_0f7a4 36 = .ok (.bipush 8, 2) := by decide +kernel
theorem dJ6_bitCount_0f7a4_38 : decode cJ6_bitCount_0f7a4 38 = .ok (.iushr, 1) := by decide +kernel
theorem dJ6_bitCount_0f7a4_39 : decode cJ6_bitCount_0f7a4 39 = .ok (.iadd, 1) := by decide +kernel
theorem dJ6_bitCount_0f7a4_40 : decode cJ6_bitCount_0f7a4 40 = .ok (.istore_n 0, 1) := by decide +kernel
theorem dJ6_bitCount_0f7a4_41 : decode cJ6_bitCount_0f7a4 41 = .ok (.iload_n 0, 1) := by decide +kernel
theorem dJ6_bitCount_0f7a4_42 : decode cJ6_bitCount_0f7a4 42 = .ok (.iload_n 0, 1) := by decide +kernel
theorem dJ6_bitCount_0f7a4_43 : decode cJ6_bitCount_0f7a4 43 = .ok (.bipush 16, 2) := by decide +kernel
theorem dJ6_bitCount_0f7a4_45 : decode cJ6_bitCount_0f7a4 45 = .ok (.iushr, 1) := by decide +kernel
theorem dJ6_bitCount_0f7a4_46 : decode cJ6_bitCount_0f7a4 46 = .ok (.iadd, 1) := by decide +kernel
theorem dJ6_bitCount_0f7a4_47 : decode cJ6_bitCount_0f7a4 47 = .ok (.istore_n 0, 1) := by decide +kernel
theorem dJ6_bitCount_0f7a4_48 : decode cJ6_bitCount_0f7a4 48 = .ok (.iload_n 0, 1) := by decide +kernel
theorem dJ6_bitCount_0f7a4_49 : decode cJ6_bitCount_0f7a4 49 = .ok (.bipush 63, 2) := by decide +kernel
theorem dJ6_bitCount_0f7a4_51 : decode cJ6_bitCount_0f7a4 51 = .ok (.iand, 1) := by decide +kernel
theorem dJ6_bitCount_0f7a4_52 : decode cJ6_bitCount_0f7a4 52 = .ok (.ireturn, 1) := by decide +kernel
theorem dJ9_floorDiv_f86c9_0 : decode cJ9_floorDiv_f86c9 0 = .ok (.lload_n 0, 1) := by decide +kernel
theorem dJ9_floorDiv_f86c9_1 : decode cJ9_floorDiv_f86c9 1 = .ok (.lload_n 2, 1) := by decide +kernel
theorem dJ9_floorDiv_f86c9_2 : decode cJ9_floorDiv_f86c9 2 = .ok (.ldiv, 1) := by decide +kernel
theorem dJ9_floorDiv_f86c9_3 : decode cJ9_floorDiv_f86c9 3 = .ok (.lstore 4, 2) := by decide +kernel
theorem dJ9_floorDiv_f86c9_5 : decode cJ9_floorDiv_f86c9 5 = .ok (.lload_n 0, 1) := by decide +kernel
theorem dJ9_floorDiv_f86c9_6 : decode cJ9_floorDiv_f86c9 6 = .ok (.lload_n 2, 1) := by decide +kernel
theorem dJ9_floorDiv_f86c9_7 : decode cJ9_floorDiv_f86c9 7 = .ok (.lxor, 1) := by decide +kernel
theorem dJ9_floorDiv_f86c9_8 : decode cJ9_floorDiv_f86c9 8 = .ok (.lconst 0, 1) := by decide +kernel
theorem dJ9_floorDiv_f86c9_9 : decode cJ9_floorDiv_f86c9 9 = .ok (.lcmp, 1) := by decide +kernel
theorem dJ9_floorDiv_f86c9_10 : decode cJ9_floorDiv_f86c9 10 = .ok (.ifCond .ge 17, 3) := by decide +kernel
theorem dJ9_floorDiv_f86c9_13 : decode cJ9_floorDiv_f86c9 13 = .ok (.lload 4, 2) := by decide +kernel
theorem dJ9_floorDiv_f86c9_15 : decode cJ9_floorDiv_f86c9 15 = .ok (.lload_n 2, 1) := by decide +kernel
theorem dJ9_floorDiv_f86c9_16 : decode cJ9_floorDiv_f86c9 16 = .ok (.lmul, 1) := by decide +kernel
theorem dJ9_floorDiv_f86c9_17 : decode cJ9_floorDiv_f86c9 17 = .ok (.lload_n 0, 1) := by decide +kernel
theorem dJ9_floorDiv_f86c9_18 : decode cJ9_floorDiv_f86c9 18 = .ok (.lcmp, 1) := by decide +kernel
theorem dJ9_floorDiv_f86c9_19 : decode cJ9_floorDiv_f86c9 19 = .ok (.ifCond .eq 8, 3) := by decide +kernel
theorem dJ9_floorDiv_f86c9_22 : decode cJ9_floorDiv_f86c9 22 = .ok (.lload 4, 2) := by decide +kernel
theorem dJ9_floorDiv_f86c9_24 : decode cJ9_floorDiv_f86c9 24 = .ok (.lconst 1, 1) := by decide +kernel
theorem dJ9_floorDiv_f86c9_25 : decode cJ9_floorDiv_f86c9 25 = .ok (.lsub, 1) := by decide +kernel
theorem dJ9_floorDiv_f86c9_26 : decode cJ9_floorDiv_f86c9 26 = .ok (.lreturn, 1) := by decide +kernel
theorem dJ9_floorDiv_f86c9_27 : decode cJ9_floorDiv_f86c9 27 = .ok (.lload 4, 2) := by decide +kernel
theorem dJ9_floorDiv_f86c9_29 : decode cJ9_floorDiv_f86c9 29 = .ok (.lreturn, 1) := by decide +kernel
theorem dJ9_floorMod_7cf53_0 : decode cJ9_floorMod_7cf53 0 = .ok (.iload_n 0, 1) := by decide +kernel
theorem dJ9_floorMod_7cf53_1 : decode cJ9_floorMod_7cf53 1 = .ok (.iload_n 1, 1) := by decide +kernel
theorem dJ9_floorMod_7cf53_2 : decode cJ9_floorMod_7cf53 2 = .ok (.irem, 1) := by decide +kernel
theorem dJ9_floorMod_7cf53_3 : decode cJ9_floorMod_7cf53 3 = .ok (.istore_n 2, 1) := by decide +kernel
theorem dJ9_floorMod_7cf53_4 : decode cJ9_floorMod_7cf53 4 = .ok (.iload_n 0, 1) := by decide +kernel
theorem dJ9_floorMod_7cf53_5 : decode cJ9_floorMod_7cf53 5 = .ok (.iload_n 1, 1) := by decide +kernel
theorem dJ9_floorMod_7cf53_6 : decode cJ9_floorMod_7cf53 6 = .ok (.ixor, 1) := by decide +kernel
theorem dJ9_floorMod_7cf53_7 : decode cJ9_floorMod_7cf53 7 = .ok (.ifCond .ge 11, 3) := by decide +kernel
theorem dJ9_floorMod_7cf53_10 : decode cJ9_floorMod_7cf53 10 = .ok (.iload_n 2, 1) := by decide +kernel
theorem dJ9_floorMod_7cf53_11 : decode cJ9_floorMod_7cf53 11 = .ok (.ifCond .eq 7, 3) := by decide +kernel
theorem dJ9_floorMod_7cf53_14 : decode cJ9_floorMod_7cf53 14 = .ok (.iload_n 2, 1) := by decide +kernel
theorem dJ9_floorMod_7cf53_15 : decode cJ9_floorMod_7cf53 15 = .ok (.iload_n 1, 1) := by decide +kernel
theorem dJ9_floorMod_7cf53_16 : decode cJ9_floorMod_7cf53 16 = .ok (.iadd, 1) := by decide +kernel
theorem dJ9_floorMod_7cf53_17 : decode cJ9_floorMod_7cf53 17 = .ok (.ireturn, 1) := by decide +kernel
theorem dJ9_floorMod_7cf53_18 : decode cJ9_floorMod_7cf53 18 = .ok (.iload_n 2, 1) := by decide +kernel
theorem dJ9_floorMod_7cf53_19 : decode cJ9_floorMod_7cf53 19 = .ok (.ireturn, 1) := by decide +kernel
theorem dJ9_abs_0f7a4_0 : decode cJ9_abs_0f7a4 0 = .ok (.iload_n 0, 1) := by decide +kernel
theorem dJ9_abs_0f7a4_1 : decode cJ9_abs_0f7a4 1 = .ok (.ifCond .ge 8, 3) := by decide +kernel
theorem dJ9_abs_0f7a4_4 : decode cJ9_abs_0f7a4 4 = .ok (.iload_n 0, 1) := by decide +kernel
theorem dJ9_abs_0f7a4_5 : decode cJ9_abs_0f7a4 5 = .ok (.ineg, 1) := by decide +kernel
theorem dJ9_abs_0f7a4_6 : decode cJ9_abs_0f7a4 6 = .ok (.goto 4, 3) := by decide +kernel
theorem dJ9_abs_0f7a4_9 : decode cJ9_abs_0f7a4 9 = .ok (.iload_n 0, 1) := by decide +kernel
theorem dJ9_abs_0f7a4_10 : decode cJ9_abs_0f7a4 10 = .ok (.ireturn, 1) := by decide +kernel
theorem dJ9_abs_067f4_0 : decode cJ9_abs_067f4 0 = .ok (.lload_n 0, 1) := by decide +kernel
theorem dJ9_abs_067f4_1 : decode cJ9_abs_067f4 1 = .ok (.lconst 0, 1) := by decide +kernel
theorem dJ9_abs_067f4_2 : decode cJ9_abs_067f4 2 = .ok (.lcmp, 1) := by decide +kernel
theorem dJ9_abs_067f4_3 : decode cJ9_abs_067f4 3 = .ok (.ifCond .ge 8, 3) := by decide +kernel
theorem dJ9_abs_067f4_6 : decode cJ9_abs_067f4 6 = .ok (.lload_n 0, 1) := by decide +kernel
theorem dJ9_abs_067f4_7 : decode cJ9_abs_067f4 7 = .ok (.lneg, 1) := by decide +kernel
theorem dJ9_abs_067f4_8 : decode cJ9_abs_067f4 8 = .ok (.goto 4, 3) := by decide +kernel
theorem dJ9_abs_067f4_11 : decode cJ9_abs_067f4 11 = .ok (.lload_n 0, 1) := by decide +kernel
theorem dJ9_abs_067f4_12 : decode cJ9_abs_067f4 12 = .ok (.lreturn, 1) := by decide +kernel
theorem dJ7_fill_d0a16_0 : decode cJ7_fill_d0a16 0 = .ok (.iconst 0, 1) := by decide +kernel
theorem dJ7_fill_d0a16_1 : decode cJ7_fill_d0a16 1 = .ok (.istore_n 3, 1) := by decide +kernel
theorem dJ7_fill_d0a16_2 : decode cJ7_fill_d0a16 2 = .ok (.aload_n 0, 1) := by decide +kernel
theorem dJ7_fill_d0a16_3 : decode cJ7_fill_d0a16 3 = .ok (.arraylength, 1) := by decide +kernel
theorem dJ7_fill_d0a16_4 : decode cJ7_fill_d0a16 4 = .ok (.istore 4, 2) := by decide +kernel
theorem dJ7_fill_d0a16_6 : decode cJ7_fill_d0a16 6 = .ok (.iload_n 3, 1) := by decide +kernel
theorem dJ7_fill_d0a16_7 : decode cJ7_fill_d0a16 7 = .ok (.iload 4, 2) := by decide +kernel
theorem dJ7_fill_d0a16_9 : decode cJ7_fill_d0a16 9 = .ok (.if_icmp .ge 13, 3) := by decide +kernel
theorem dJ7_fill_d0a16_12 : decode cJ7_fill_d0a16 12 = .ok (.aload_n 0, 1) := by decide +kernel
theorem dJ7_fill_d0a16_13 : decode cJ7_fill_d0a16 13 = .ok (.iload_n 3, 1) := by decide +kernel
theorem dJ7_fill_d0a16_14 : decode cJ7_fill_d0a16 14 = .ok (.lload_n 1, 1) := by decide +kernel
theorem dJ7_fill_d0a16_15 : decode cJ7_fill_d0a16 15 = .ok (.lastore, 1) := by decide +kernel
theorem dJ7_fill_d0a16_16 : decode cJ7_fill_d0a16 16 = .ok (.iinc 3 1, 3) := by decide +kernel
theorem dJ7_fill_d0a16_19 : decode cJ7_fill_d0a16 19 = .ok (.goto (-13), 3) := by decide +kernel
theorem dJ7_fill_d0a16_22 : decode cJ7_fill_d0a16 22 = .ok (.return_, 1) := by decide +kernel
theorem dJ7_fill_53178_0 : decode cJ7_fill_53178 0 = .ok (.iconst 0, 1) := by decide +kernel
theorem dJ7_fill_53178_1 : decode cJ7_fill_53178 1 = .ok (.istore_n 2, 1) := by decide +kernel
theorem dJ7_fill_53178_2 : decode cJ7_fill_53178 2 = .ok (.aload_n 0, 1) := by decide +kernel
theorem dJ7_fill_53178_3 : decode cJ7_fill_53178 3 = .ok (.arraylength, 1) := by decide +kernel
theorem dJ7_fill_53178_4 : decode cJ7_fill_53178 4 = .ok (.istore_n 3, 1) := by decide +kernel
theorem dJ7_fill_53178_5 : decode cJ7_fill_53178 5 = .ok (.iload_n 2, 1) := by decide +kernel
theorem dJ7_fill_53178_6 : decode cJ7_fill_53178 6 = .ok (.iload_n 3, 1) := by decide +kernel
theorem dJ7_fill_53178_7 : decode cJ7_fill_53178 7 = .ok (.if_icmp .ge 13, 3) := by decide +kernel
theorem dJ7_fill_53178_10 : decode cJ7_fill_53178 10 = .ok (.aload_n 0, 1) := by decide +kernel
theorem dJ7_fill_53178_11 : decode cJ7_fill_53178 11 = .ok (.iload_n 2, 1) := by decide +kernel
theorem dJ7_fill_53178_12 : decode cJ7_fill_53178 12 = .ok (.iload_n 1, 1) := by decide +kernel
theorem dJ7_fill_53178_13 : decode cJ7_fill_53178 13 = .ok (.iastore, 1) := by decide +kernel
theorem dJ7_fill_53178_14 : decode cJ7_fill_53178 14 = .ok (.iinc 2 1, 3) := by decide +kernel
theorem dJ7_fill_53178_17 : decode cJ7_fill_53178 17 = .ok (.goto (-12), 3) := by decide +kernel
theorem dJ7_fill_53178_20 : decode cJ7_fill_53178 20 = .ok (.return_, 1) := by decide +kernel
set_option maxRecDepth 20000 in
theorem ggL_law_X4_init : GoodIn wsL_law wsX4_init := goodIn_r _ [8, 9, 10, 11, 12, 13, 14, 15, 16, 17, 18, 19, 20, 21, 22, 23, 24, 25, 26, 27, 28, 29, 30, 31, 32, 33, 34, 35, 36, 37, 38, 39, 40, 41, 42, 43, 44, 45, 46, 47, 48, 49, 50, 51, 52, 53, 54, 55, 56, 57, 58, 59, 60, 61, 62, 63, 64, 65, 66, 67, 68, 69, 70, 71, 72, 73, 74, 75, 76, 77, 78, 79, 680, 681, 682, 683, 684, 685, 686, 687, 688, 689, 711, 712, 713, 714, 715, 716, 717, 718, 719, 720, 721, 722, 723, 724, 725, 726, 727, 728, 729, 730, 731, 732, 733, 734, 735] (by decide +kernel) (by decide +kernel)
set_option maxRecDepth 20000 in
theorem gL_law_X4_init : GoodIn wsL_law (wsX4_init) := ggL_law_X4_init
set_option maxRecDepth 20000 in
theorem ggL_law_X5_init : GoodIn wsL_law wsX5_init := goodIn_r _ [82, 83, 10, 11, 12, 84, 85, 86, 87, 88, 38, 89, 90, 91, 92, 93, 94, 95, 96, 97, 98, 690, 691, 692, 693, 694, 695, 696, 697, 698, 699, 700, 701, 702, 703, 704, 705, 706, 707, 708, 709, 710] (by decide +kernel) (by decide +kernel)
set_option maxRecDepth 20000 in
theorem gL_law_X5_init : GoodIn wsL_law (wsX5_init) := ggL_law_X5_init
set_option maxRecDepth 20000 in
theorem ggL_law_X4_feed : GoodIn wsL_law wsX4_feed := goodIn_r _ [102, 103, 104, 105, 13, 680, 681, 682, 683, 684, 685, 686, 687, 688, 689] (by decide +kernel) (by decide +kernel)
set_option maxRecDepth 20000 in
theorem gL_law_X4_feed : GoodIn wsL_law (wsV RL 13 RX4 yX4_feed wsX4_feed) := goodIn_app (goodIn_of _ (by decide +kernel)) ggL_law_X4_feed
set_option maxRecDepth 20000 in
theorem ggL_law_X5_feed : GoodIn wsL_law wsX5_feed := goodIn_r _ [109, 110, 111, 112, 84, 113, 114, 5, 115, 690, 691, 692, 693, 694, 695, 696, 697, 698, 699, 700, 701, 702, 703, 704, 705, 706, 707, 708, 709, 710] (by decide +kernel) (by decide +kernel)
set_option maxRecDepth 20000 in
theorem gL_law_X5_feed : GoodIn wsL_law (wsV RL 17 RX5 yX5_feed wsX5_feed) := goodIn_app (goodIn_of _ (by decide +kernel)) ggL_law_X5_feed
set_option maxRecDepth 20000 in
theorem ggL_law_X4_wipe : GoodIn wsL_law wsX4_wipe := goodIn_r _ [119, 104, 680, 681, 682, 683, 684, 685, 686, 687, 688, 689] (by decide +kernel) (by decide +kernel)
set_option maxRecDepth 20000 in
theorem gL_law_X4_wipe : GoodIn wsL_law (wsV RL 18 RX4 yX4_wipe wsX4_wipe) := goodIn_app (goodIn_of _ (by decide +kernel)) ggL_law_X4_wipe
set_option maxRecDepth 20000 in
theorem ggL_law_X5_wipe : GoodIn wsL_law wsX5_wipe := goodIn_r _ [123, 111, 690, 691, 692, 693, 694, 695, 696, 697, 698, 699, 700, 701, 702, 703, 704, 705, 706, 707, 708, 709, 710] (by decide +kernel) (by decide +kernel)
set_option maxRecDepth 20000 in
theorem gL_law_X5_wipe : GoodIn wsL_law (wsV RL 22 RX5 yX5_wipe wsX5_wipe) := goodIn_app (goodIn_of _ (by decide +kernel)) ggL_law_X5_wipe
set_option maxRecDepth 20000 in
theorem ggL_law_X4_fault : GoodIn wsL_law wsX4_fault := goodIn_r _ [127, 14, 680, 681, 682, 683, 684, 685, 686, 687, 688, 689] (by decide +kernel) (by decide +kernel)
set_option maxRecDepth 20000 in
theorem gL_law_X4_fault : GoodIn wsL_law (wsV RL 23 RX4 yX4_fault wsX4_fault) := goodIn_app (goodIn_of _ (by decide +kernel)) ggL_law_X4_fault
set_option maxRecDepth 20000 in
theorem ggL_law_X5_fault : GoodIn wsL_law wsX5_fault := goodIn_r _ [131, 85, 690, 691, 692, 693, 694, 695, 696, 697, 698, 699, 700, 701, 702, 703, 704, 705, 706, 707, 708, 709, 710] (by decide +kernel) (by decide +kernel)
set_option maxRecDepth 20000 in
theorem gL_law_X5_fault : GoodIn wsL_law (wsV RL 26 RX5 yX5_fault wsX5_fault) := goodIn_app (goodIn_of _ (by decide +kernel)) ggL_law_X5_fault
set_option maxRecDepth 20000 in
theorem ggL_law_X4_told : GoodIn wsL_law wsX4_told := goodIn_r _ [135, 103, 23, 32, 104, 28, 136, 137, 138, 2, 139, 140, 141, 142, 31, 143, 76, 67, 144, 145, 146, 147, 148, 149, 150, 151, 33, 152, 73, 74, 75, 68, 77, 78, 53, 79, 153, 154, 155, 156, 71, 69, 157, 158, 159, 160, 161, 162, 163, 164, 165, 70, 166, 167, 168, 169, 170, 171, 172, 173, 174, 175, 176, 177, 178, 179, 180, 181, 182, 183, 184, 185, 186, 187, 188, 189, 190, 191, 192, 193, 194, 195, 196, 197, 198, 199, 200, 201, 202, 203, 204, 205, 206, 207, 208, 209, 210, 211, 212, 213, 214, 215, 216, 217, 218, 219, 220, 221, 222, 223, 224, 225, 226, 227, 228, 229, 230, 231, 680, 681, 682, 683, 684, 685, 686, 687, 688, 689, 720, 721, 722, 723, 724, 725, 729, 730, 731, 732, 733, 734, 735, 726, 727, 728] (by decide +kernel) (by decide +kernel)
set_option maxRecDepth 20000 in
theorem gL_law_X4_told : GoodIn wsL_law (wsV RL 27 RX4 yX4_told wsX4_told) := goodIn_app (goodIn_of _ (by decide +kernel)) ggL_law_X4_told
set_option maxRecDepth 20000 in
theorem ggL_law_X5_told : GoodIn wsL_law wsX5_told := goodIn_r _ [235, 86, 236, 111, 237, 110, 238, 239, 240, 5, 241, 242, 243, 244, 245, 246, 247, 248, 249, 96, 97, 250, 251, 252, 253, 254, 255, 256, 98, 257, 258, 259, 260, 261, 262, 263, 264, 265, 266, 267, 268, 269, 270, 271, 272, 273, 274, 275, 276, 277, 278, 279, 280, 281, 282, 283, 284, 285, 286, 287, 288, 289, 290, 291, 292, 293, 294, 295, 296, 297, 298, 299, 300, 301, 302, 303, 304, 305, 306, 307, 308, 309, 310, 311, 312, 313, 314, 315, 316, 317, 318, 690, 691, 692, 693, 694, 695, 696, 697, 698, 699, 700, 701, 702, 703, 704, 705, 706, 707, 708, 709, 710] (by decide +kernel) (by decide +kernel)
set_option maxRecDepth 20000 in
theorem gL_law_X5_told : GoodIn wsL_law (wsV RL 30 RX5 yX5_told wsX5_told) := goodIn_app (goodIn_of _ (by decide +kernel)) ggL_law_X5_told
set_option maxRecDepth 20000 in
theorem ggL_law_X4_say : GoodIn wsL_law wsX4_say := goodIn_r _ [322, 23, 105, 32, 19, 323, 28, 324, 325, 326, 2, 327, 18, 13, 104, 14, 328, 329, 330, 17, 331, 42, 332, 333, 334, 335, 336, 337, 338, 339, 340, 341, 342, 39, 40, 343, 344, 345, 346, 347, 348, 349, 350, 351, 352, 41, 353, 354, 355, 356, 357, 78, 53, 79, 358, 359, 360, 361, 362, 363, 364, 365, 366, 367, 368, 369, 370, 371, 372, 373, 374, 158, 159, 160, 375, 376, 377, 378, 379, 380, 381, 382, 383, 214, 215, 216, 384, 385, 386, 387, 31, 388, 162, 163, 164, 165, 76, 69, 67, 70, 166, 167, 168, 169, 170, 171, 172, 68, 206, 207, 208, 209, 210, 211, 212, 213, 217, 218, 219, 220, 389, 390, 391, 27, 392, 60, 393, 394, 395, 396, 397, 22, 398, 399, 48, 400, 49, 50, 401, 402, 403, 404, 405, 406, 407, 408, 153, 154, 155, 156, 71, 157, 161, 173, 174, 175, 176, 177, 178, 179, 180, 181, 182, 183, 184, 185, 186, 187, 188, 189, 190, 191, 192, 193, 194, 195, 196, 197, 198, 199, 200, 201, 680, 681, 682, 683, 684, 685, 686, 687, 688, 689, 720, 721, 722, 723, 724, 725, 711, 712, 713, 714, 715, 716, 717, 718, 719, 729, 730, 731, 732, 733, 734, 735, 726, 727, 728] (by decide +kernel) (by decide +kernel)
set_option maxRecDepth 20000 in
theorem gL_law_X4_say : GoodIn wsL_law (wsV RL 31 RX4 yX4_say wsX4_say) := goodIn_app (goodIn_of _ (by decide +kernel)) ggL_law_X4_say
set_option maxRecDepth 20000 in
theorem ggL_law_X5_say : GoodIn wsL_law wsX5_say := goodIn_r _ [412, 86, 112, 413, 414, 415, 416, 5, 417, 418, 419, 92, 95, 111, 85, 420, 421, 422, 423, 93, 424, 425, 426, 427, 428, 429, 430, 431, 432, 94, 433, 434, 435, 436, 84, 113, 114, 115, 437, 438, 439, 440, 441, 442, 443, 444, 445, 446, 447, 448, 449, 450, 451, 452, 453, 454, 455, 456, 457, 458, 459, 238, 239, 240, 241, 242, 243, 244, 245, 246, 247, 248, 249, 236, 96, 97, 250, 251, 252, 253, 254, 255, 256, 98, 257, 258, 259, 260, 261, 262, 263, 264, 265, 266, 267, 268, 269, 270, 271, 272, 273, 274, 275, 276, 277, 278, 279, 280, 281, 282, 283, 284, 285, 286, 287, 288, 289, 290, 291, 460, 461, 462, 463, 237, 87, 464, 465, 466, 467, 690, 691, 692, 693, 694, 695, 696, 697, 698, 699, 700, 701, 702, 703, 704, 705, 706, 707, 708, 709, 710] (by decide +kernel) (by decide +kernel)
set_option maxRecDepth 20000 in
theorem gL_law_X5_say : GoodIn wsL_law (wsV RL 34 RX5 yX5_say wsX5_say) := goodIn_app (goodIn_of _ (by decide +kernel)) ggL_law_X5_say
set_option maxRecDepth 20000 in
theorem ggL_law_X4_back : GoodIn wsL_law wsX4_back := goodIn_r _ [471, 23, 472, 28, 389, 390, 391, 27, 392, 60, 393, 394, 395, 396, 397, 22, 398, 399, 48, 400, 158, 159, 160, 49, 50, 473, 474, 475, 476, 477, 478, 479, 2, 480, 32, 152, 73, 74, 31, 75, 76, 67, 68, 77, 78, 53, 79, 153, 154, 155, 156, 71, 69, 157, 161, 162, 163, 164, 165, 70, 166, 167, 168, 169, 170, 171, 172, 173, 174, 175, 176, 177, 178, 179, 180, 181, 182, 183, 184, 185, 186, 187, 188, 189, 190, 191, 192, 193, 194, 195, 196, 197, 198, 199, 200, 201, 680, 681, 682, 683, 684, 685, 686, 687, 688, 689, 720, 721, 722, 723, 724, 725, 726, 727, 728, 729, 730, 731, 732, 733, 734, 735] (by decide +kernel) (by decide +kernel)
set_option maxRecDepth 20000 in
theorem gL_law_X4_back : GoodIn wsL_law (wsV RL 35 RX4 yX4_back wsX4_back) := goodIn_app (goodIn_of _ (by decide +kernel)) ggL_law_X4_back
set_option maxRecDepth 20000 in
theorem ggL_law_X5_back : GoodIn wsL_law wsX5_back := goodIn_r _ [484, 86, 485, 113, 114, 5, 115, 460, 461, 462, 463, 237, 87, 453, 454, 455, 690, 691, 692, 693, 694, 695, 696, 697, 698, 699, 700, 701, 702, 703, 704, 705, 706, 707, 708, 709, 710] (by decide +kernel) (by decide +kernel)
set_option maxRecDepth 20000 in
theorem gL_law_X5_back : GoodIn wsL_law (wsV RL 38 RX5 yX5_back wsX5_back) := goodIn_app (goodIn_of _ (by decide +kernel)) ggL_law_X5_back
set_option maxRecDepth 20000 in
theorem ggL_law_X4_scale : GoodIn wsL_law wsX4_scale := goodIn_r _ [489, 472, 103, 28, 23, 389, 390, 391, 27, 392, 60, 393, 394, 395, 396, 397, 22, 398, 399, 48, 400, 158, 159, 160, 49, 50, 490, 491, 492, 493, 680, 681, 682, 683, 684, 685, 686, 687, 688, 689, 720, 721, 722, 723, 724, 725, 726, 727, 728] (by decide +kernel) (by decide +kernel)
set_option maxRecDepth 20000 in
theorem gL_law_X4_scale : GoodIn wsL_law (wsV RL 39 RX4 yX4_scale wsX4_scale) := goodIn_app (goodIn_of _ (by decide +kernel)) ggL_law_X4_scale
set_option maxRecDepth 20000 in
theorem ggL_law_X5_scale : GoodIn wsL_law wsX5_scale := goodIn_r _ [497, 485, 110, 86, 498, 499, 5, 500, 113, 114, 115, 460, 461, 462, 463, 237, 87, 453, 454, 455, 690, 691, 692, 693, 694, 695, 696, 697, 698, 699, 700, 701, 702, 703, 704, 705, 706, 707, 708, 709, 710] (by decide +kernel) (by decide +kernel)
set_option maxRecDepth 20000 in
theorem gL_law_X5_scale : GoodIn wsL_law (wsV RL 43 RX5 yX5_scale wsX5_scale) := goodIn_app (goodIn_of _ (by decide +kernel)) ggL_law_X5_scale
set_option maxRecDepth 20000 in
theorem ggL_law_X4_drift : GoodIn wsL_law wsX4_drift := goodIn_r _ [504, 103, 23, 505, 506, 507, 2, 508, 28, 19, 32, 389, 390, 391, 27, 392, 60, 393, 394, 395, 396, 397, 22, 398, 399, 48, 400, 158, 159, 160, 49, 50, 509, 510, 511, 512, 513, 514, 515, 516, 517, 518, 52, 53, 54, 385, 386, 387, 31, 388, 162, 163, 164, 165, 76, 69, 67, 70, 166, 167, 168, 169, 170, 171, 172, 68, 206, 207, 208, 209, 210, 211, 212, 213, 214, 215, 216, 217, 218, 219, 220, 401, 402, 403, 404, 405, 406, 407, 408, 153, 154, 155, 156, 71, 157, 161, 173, 174, 175, 176, 177, 178, 179, 180, 181, 182, 183, 184, 185, 186, 187, 188, 189, 190, 191, 192, 193, 194, 195, 196, 197, 198, 199, 200, 201, 680, 681, 682, 683, 684, 685, 686, 687, 688, 689, 720, 721, 722, 723, 724, 725, 726, 727, 728, 729, 730, 731, 732, 733, 734, 735] (by decide +kernel) (by decide +kernel)
set_option maxRecDepth 20000 in
theorem gL_law_X4_drift : GoodIn wsL_law (wsV RL 44 RX4 yX4_drift wsX4_drift) := goodIn_app (goodIn_of _ (by decide +kernel)) ggL_law_X4_drift
set_option maxRecDepth 20000 in
theorem ggL_law_X5_drift : GoodIn wsL_law wsX5_drift := goodIn_r _ [522, 110, 86, 113, 114, 5, 115, 523, 524, 525, 526, 95, 527, 528, 529, 530, 531, 532, 533, 534, 535, 456, 457, 458, 459, 238, 239, 240, 241, 242, 243, 244, 245, 246, 247, 248, 249, 236, 96, 97, 250, 251, 252, 253, 254, 255, 256, 98, 257, 258, 259, 260, 261, 262, 263, 264, 265, 266, 267, 268, 269, 270, 271, 272, 273, 274, 275, 276, 277, 278, 279, 280, 281, 282, 283, 284, 285, 286, 287, 288, 289, 290, 291, 460, 461, 462, 463, 237, 87, 453, 454, 455, 464, 465, 466, 467, 690, 691, 692, 693, 694, 695, 696, 697, 698, 699, 700, 701, 702, 703, 704, 705, 706, 707, 708, 709, 710] (by decide +kernel) (by decide +kernel)
set_option maxRecDepth 20000 in
theorem gL_law_X5_drift : GoodIn wsL_law (wsV RL 47 RX5 yX5_drift wsX5_drift) := goodIn_app (goodIn_of _ (by decide +kernel)) ggL_law_X5_drift
set_option maxRecDepth 20000 in
theorem ggL_law_X4_undo : GoodIn wsL_law wsX4_undo := goodIn_r _ [539, 103, 28, 323, 23, 540, 541, 542, 27, 543, 393, 394, 60, 544, 545, 192, 546, 395, 396, 397, 22, 398, 399, 48, 400, 158, 159, 160, 49, 50, 477, 478, 479, 2, 480, 32, 152, 73, 74, 31, 75, 76, 67, 68, 77, 78, 53, 79, 153, 154, 155, 156, 71, 69, 157, 161, 162, 163, 164, 165, 70, 166, 167, 168, 169, 170, 171, 172, 173, 174, 175, 176, 177, 178, 179, 180, 181, 182, 183, 184, 185, 186, 187, 188, 189, 190, 191, 193, 194, 195, 196, 197, 198, 199, 200, 201, 680, 681, 682, 683, 684, 685, 686, 687, 688, 689, 726, 727, 728, 720, 721, 722, 723, 724, 725, 729, 730, 731, 732, 733, 734, 735] (by decide +kernel) (by decide +kernel)
set_option maxRecDepth 20000 in
theorem gL_law_X4_undo : GoodIn wsL_law (wsV RL 48 RX4 yX4_undo wsX4_undo) := goodIn_app (goodIn_of _ (by decide +kernel)) ggL_law_X4_undo
set_option maxRecDepth 20000 in
theorem ggL_law_X5_undo : GoodIn wsL_law wsX5_undo := goodIn_r _ [550, 110, 237, 413, 87, 86, 113, 114, 5, 115, 453, 454, 455, 690, 691, 692, 693, 694, 695, 696, 697, 698, 699, 700, 701, 702, 703, 704, 705, 706, 707, 708, 709, 710] (by decide +kernel) (by decide +kernel)
set_option maxRecDepth 20000 in
theorem gL_law_X5_undo : GoodIn wsL_law (wsV RL 51 RX5 yX5_undo wsX5_undo) := goodIn_app (goodIn_of _ (by decide +kernel)) ggL_law_X5_undo
set_option maxRecDepth 20000 in
theorem ggL_law_X4_saying : GoodIn wsL_law wsX4_saying := goodIn_r _ [554, 23, 472, 103, 148, 149, 150, 2, 151, 33, 152, 73, 74, 31, 75, 76, 67, 68, 77, 78, 53, 79, 153, 154, 155, 156, 71, 69, 157, 158, 159, 160, 161, 162, 163, 164, 165, 70, 166, 167, 168, 169, 170, 171, 172, 173, 174, 175, 176, 177, 178, 179, 180, 181, 182, 183, 184, 185, 186, 187, 188, 189, 190, 191, 192, 193, 194, 195, 196, 197, 198, 199, 200, 201, 202, 203, 204, 205, 206, 207, 208, 209, 210, 211, 212, 213, 214, 215, 216, 217, 218, 219, 220, 680, 681, 682, 683, 684, 685, 686, 687, 688, 689, 720, 721, 722, 723, 724, 725, 729, 730, 731, 732, 733, 734, 735] (by decide +kernel) (by decide +kernel)
set_option maxRecDepth 20000 in
theorem gL_law_X4_saying : GoodIn wsL_law (wsV RL 52 RX4 yX4_saying wsX4_saying) := goodIn_app (goodIn_of _ (by decide +kernel)) ggL_law_X4_saying
set_option maxRecDepth 20000 in
theorem ggL_law_X5_saying : GoodIn wsL_law wsX5_saying := goodIn_r _ [558, 86, 485, 110, 113, 114, 5, 115, 304, 305, 306, 307, 238, 239, 240, 241, 242, 243, 244, 245, 246, 247, 248, 249, 236, 96, 97, 250, 251, 252, 253, 254, 255, 256, 98, 257, 258, 259, 260, 261, 262, 263, 264, 265, 266, 267, 268, 269, 270, 271, 272, 273, 274, 275, 276, 277, 278, 279, 280, 281, 282, 283, 284, 285, 286, 287, 288, 289, 290, 291, 308, 309, 310, 311, 690, 691, 692, 693, 694, 695, 696, 697, 698, 699, 700, 701, 702, 703, 704, 705, 706, 707, 708, 709, 710] (by decide +kernel) (by decide +kernel)
set_option maxRecDepth 20000 in
theorem gL_law_X5_saying : GoodIn wsL_law (wsV RL 56 RX5 yX5_saying wsX5_saying) := goodIn_app (goodIn_of _ (by decide +kernel)) ggL_law_X5_saying
set_option maxRecDepth 20000 in
theorem ggL_law_X4_free : GoodIn wsL_law wsX4_free := goodIn_r _ [562, 32, 563, 564, 565, 680, 681, 682, 683, 684, 685, 686, 687, 688, 689, 729, 730, 731, 732, 733, 734, 735] (by decide +kernel) (by decide +kernel)
set_option maxRecDepth 20000 in
theorem gL_law_X4_free : GoodIn wsL_law (wsV RL 57 RX4 yX4_free wsX4_free) := goodIn_app (goodIn_of _ (by decide +kernel)) ggL_law_X4_free
set_option maxRecDepth 20000 in
theorem ggL_law_X5_free : GoodIn wsL_law wsX5_free := goodIn_r _ [569, 236, 570, 96, 571, 572, 238, 239, 240, 5, 241, 86, 242, 243, 244, 245, 246, 247, 248, 249, 97, 250, 251, 252, 253, 254, 255, 256, 98, 257, 258, 259, 260, 261, 262, 263, 264, 265, 266, 267, 268, 269, 270, 271, 272, 273, 274, 275, 276, 277, 278, 279, 280, 281, 282, 283, 284, 285, 286, 287, 288, 289, 290, 291, 113, 114, 115, 690, 691, 692, 693, 694, 695, 696, 697, 698, 699, 700, 701, 702, 703, 704, 705, 706, 707, 708, 709, 710] (by decide +kernel) (by decide +kernel)
set_option maxRecDepth 20000 in
theorem gL_law_X5_free : GoodIn wsL_law (wsV RL 61 RX5 yX5_free wsX5_free) := goodIn_app (goodIn_of _ (by decide +kernel)) ggL_law_X5_free
set_option maxRecDepth 20000 in
theorem ggL_law_X4_least : GoodIn wsL_law wsX4_least := goodIn_r _ [576, 563, 32, 565, 680, 681, 682, 683, 684, 685, 686, 687, 688, 689, 729, 730, 731, 732, 733, 734, 735] (by decide +kernel) (by decide +kernel)
set_option maxRecDepth 20000 in
theorem gL_law_X4_least : GoodIn wsL_law (wsV RL 62 RX4 yX4_least wsX4_least) := goodIn_app (goodIn_of _ (by decide +kernel)) ggL_law_X4_least
set_option maxRecDepth 20000 in
theorem ggL_law_X5_least : GoodIn wsL_law wsX5_least := goodIn_r _ [580, 570, 97, 571, 581, 582, 5, 583, 113, 114, 115, 498, 499, 500, 238, 239, 240, 241, 86, 242, 243, 244, 245, 246, 247, 248, 249, 236, 96, 250, 251, 252, 253, 254, 255, 256, 98, 257, 258, 259, 260, 261, 262, 263, 264, 265, 266, 267, 268, 269, 270, 271, 272, 273, 274, 275, 276, 277, 278, 279, 280, 281, 282, 283, 284, 285, 286, 287, 288, 289, 290, 291, 690, 691, 692, 693, 694, 695, 696, 697, 698, 699, 700, 701, 702, 703, 704, 705, 706, 707, 708, 709, 710] (by decide +kernel) (by decide +kernel)
set_option maxRecDepth 20000 in
theorem gL_law_X5_least : GoodIn wsL_law (wsV RL 65 RX5 yX5_least wsX5_least) := goodIn_app (goodIn_of _ (by decide +kernel)) ggL_law_X5_least
set_option maxRecDepth 20000 in
theorem ggL_law_X4_isTold : GoodIn wsL_law wsX4_isTold := goodIn_r _ [587, 472, 32, 140, 141, 142, 31, 143, 76, 67, 680, 681, 682, 683, 684, 685, 686, 687, 688, 689, 729, 730, 731, 732, 733, 734, 735] (by decide +kernel) (by decide +kernel)
set_option maxRecDepth 20000 in
theorem gL_law_X4_isTold : GoodIn wsL_law (wsV RL 66 RX4 yX4_isTold wsX4_isTold) := goodIn_app (goodIn_of _ (by decide +kernel)) ggL_law_X4_isTold
set_option maxRecDepth 20000 in
theorem ggL_law_X5_isTold : GoodIn wsL_law wsX5_isTold := goodIn_r _ [591, 485, 581, 582, 5, 583, 113, 114, 115, 238, 239, 240, 241, 86, 242, 243, 244, 245, 246, 247, 248, 249, 236, 96, 97, 250, 251, 252, 253, 254, 255, 256, 98, 257, 258, 259, 260, 261, 262, 263, 264, 265, 266, 267, 268, 269, 270, 271, 272, 273, 274, 275, 276, 277, 278, 279, 280, 281, 282, 283, 284, 285, 286, 287, 288, 289, 290, 291, 296, 297, 298, 299, 690, 691, 692, 693, 694, 695, 696, 697, 698, 699, 700, 701, 702, 703, 704, 705, 706, 707, 708, 709, 710] (by decide +kernel) (by decide +kernel)
set_option maxRecDepth 20000 in
theorem gL_law_X5_isTold : GoodIn wsL_law (wsV RL 69 RX5 yX5_isTold wsX5_isTold) := goodIn_app (goodIn_of _ (by decide +kernel)) ggL_law_X5_isTold
set_option maxRecDepth 20000 in
theorem ggL_law_X4_follows : GoodIn wsL_law wsX4_follows := goodIn_r _ [595, 32, 19, 324, 325, 326, 2, 327, 18, 13, 104, 14, 328, 329, 330, 17, 331, 42, 332, 333, 334, 335, 336, 337, 338, 339, 340, 341, 342, 39, 40, 343, 344, 345, 346, 347, 348, 349, 350, 351, 352, 41, 353, 354, 355, 356, 357, 78, 53, 79, 358, 359, 360, 361, 362, 363, 364, 365, 366, 367, 368, 369, 370, 371, 372, 373, 374, 158, 159, 160, 375, 376, 377, 378, 379, 380, 381, 382, 383, 214, 215, 216, 384, 202, 203, 204, 31, 205, 162, 163, 164, 165, 76, 69, 67, 70, 166, 167, 168, 169, 170, 171, 172, 68, 206, 207, 208, 209, 210, 211, 212, 213, 217, 218, 219, 220, 680, 681, 682, 683, 684, 685, 686, 687, 688, 689, 711, 712, 713, 714, 715, 716, 717, 718, 719, 729, 730, 731, 732, 733, 734, 735] (by decide +kernel) (by decide +kernel)
set_option maxRecDepth 20000 in
theorem gL_law_X4_follows : GoodIn wsL_law (wsV RL 70 RX4 yX4_follows wsX4_follows) := goodIn_app (goodIn_of _ (by decide +kernel)) ggL_law_X4_follows
set_option maxRecDepth 20000 in
theorem ggL_law_X5_follows : GoodIn wsL_law wsX5_follows := goodIn_r _ [599, 95, 414, 415, 416, 5, 417, 418, 419, 92, 111, 85, 420, 421, 422, 423, 93, 424, 425, 426, 427, 428, 429, 430, 431, 432, 94, 433, 434, 435, 436, 84, 113, 114, 115, 437, 438, 439, 440, 441, 442, 443, 444, 445, 446, 447, 448, 449, 450, 451, 452, 453, 454, 455, 238, 239, 240, 241, 86, 242, 243, 244, 245, 246, 247, 248, 249, 236, 96, 97, 250, 251, 252, 253, 254, 255, 256, 98, 257, 258, 259, 260, 261, 262, 263, 264, 265, 266, 267, 268, 269, 270, 271, 272, 273, 274, 275, 276, 277, 278, 279, 280, 281, 282, 283, 284, 285, 286, 287, 288, 289, 290, 291, 308, 309, 310, 311, 690, 691, 692, 693, 694, 695, 696, 697, 698, 699, 700, 701, 702, 703, 704, 705, 706, 707, 708, 709, 710] (by decide +kernel) (by decide +kernel)
set_option maxRecDepth 20000 in
theorem gL_law_X5_follows : GoodIn wsL_law (wsV RL 73 RX5 yX5_follows wsX5_follows) := goodIn_app (goodIn_of _ (by decide +kernel)) ggL_law_X5_follows
set_option maxRecDepth 20000 in
theorem ggL_law_X4_couldBe : GoodIn wsL_law wsX4_couldBe := goodIn_r _ [603, 32, 19, 324, 325, 326, 2, 327, 18, 13, 104, 14, 328, 329, 330, 17, 331, 42, 332, 333, 334, 335, 336, 337, 338, 339, 340, 341, 342, 39, 40, 343, 344, 345, 346, 347, 348, 349, 350, 351, 352, 41, 353, 354, 355, 356, 357, 78, 53, 79, 358, 359, 360, 361, 362, 363, 364, 365, 366, 367, 368, 369, 370, 371, 372, 373, 374, 158, 159, 160, 375, 376, 377, 378, 379, 380, 381, 382, 383, 214, 215, 216, 384, 385, 386, 387, 31, 388, 162, 163, 164, 165, 76, 69, 67, 70, 166, 167, 168, 169, 170, 171, 172, 68, 206, 207, 208, 209, 210, 211, 212, 213, 217, 218, 219, 220, 680, 681, 682, 683, 684, 685, 686, 687, 688, 689, 711, 712, 713, 714, 715, 716, 717, 718, 719, 729, 730, 731, 732, 733, 734, 735] (by decide +kernel) (by decide +kernel)
set_option maxRecDepth 20000 in
theorem gL_law_X4_couldBe : GoodIn wsL_law (wsV RL 74 RX4 yX4_couldBe wsX4_couldBe) := goodIn_app (goodIn_of _ (by decide +kernel)) ggL_law_X4_couldBe
set_option maxRecDepth 20000 in
theorem ggL_law_X5_couldBe : GoodIn wsL_law wsX5_couldBe := goodIn_r _ [607, 414, 415, 416, 5, 417, 418, 419, 92, 95, 111, 85, 420, 421, 422, 423, 93, 424, 425, 426, 427, 428, 429, 430, 431, 432, 94, 433, 434, 435, 436, 84, 113, 114, 115, 437, 438, 439, 440, 441, 442, 443, 444, 445, 446, 447, 448, 449, 450, 451, 452, 453, 454, 455, 456, 457, 458, 459, 238, 239, 240, 241, 86, 242, 243, 244, 245, 246, 247, 248, 249, 236, 96, 97, 250, 251, 252, 253, 254, 255, 256, 98, 257, 258, 259, 260, 261, 262, 263, 264, 265, 266, 267, 268, 269, 270, 271, 272, 273, 274, 275, 276, 277, 278, 279, 280, 281, 282, 283, 284, 285, 286, 287, 288, 289, 290, 291, 690, 691, 692, 693, 694, 695, 696, 697, 698, 699, 700, 701, 702, 703, 704, 705, 706, 707, 708, 709, 710] (by decide +kernel) (by decide +kernel)
set_option maxRecDepth 20000 in
theorem gL_law_X5_couldBe : GoodIn wsL_law (wsV RL 77 RX5 yX5_couldBe wsX5_couldBe) := goodIn_app (goodIn_of _ (by decide +kernel)) ggL_law_X5_couldBe
set_option maxRecDepth 20000 in
theorem ggL_law_X4_measured : GoodIn wsL_law wsX4_measured := goodIn_r _ [611, 564, 32, 19, 565, 324, 325, 326, 2, 327, 18, 13, 104, 14, 328, 329, 330, 17, 331, 42, 332, 333, 334, 335, 336, 337, 338, 339, 340, 341, 342, 39, 40, 343, 344, 345, 346, 347, 348, 349, 350, 351, 352, 41, 353, 354, 355, 356, 357, 78, 53, 79, 358, 359, 360, 361, 362, 363, 364, 365, 366, 367, 368, 369, 370, 371, 372, 373, 374, 158, 159, 160, 375, 376, 377, 378, 379, 380, 381, 382, 383, 214, 215, 216, 384, 612, 170, 171, 31, 172, 68, 166, 167, 168, 613, 614, 615, 616, 76, 67, 680, 681, 682, 683, 684, 685, 686, 687, 688, 689, 711, 712, 713, 714, 715, 716, 717, 718, 719, 729, 730, 731, 732, 733, 734, 735] (by decide +kernel) (by decide +kernel)
set_option maxRecDepth 20000 in
theorem gL_law_X4_measured : GoodIn wsL_law (wsV RL 78 RX4 yX4_measured wsX4_measured) := goodIn_app (goodIn_of _ (by decide +kernel)) ggL_law_X4_measured
set_option maxRecDepth 20000 in
theorem ggL_law_X5_measured : GoodIn wsL_law wsX5_measured := goodIn_r _ [620, 572, 95, 571, 236, 113, 114, 5, 115, 414, 415, 416, 417, 418, 419, 92, 111, 85, 420, 421, 422, 423, 93, 424, 425, 426, 427, 428, 429, 430, 431, 432, 94, 433, 434, 435, 436, 84, 437, 438, 439, 440, 441, 442, 443, 444, 445, 446, 447, 448, 449, 450, 451, 452, 453, 454, 455, 238, 239, 240, 241, 86, 242, 243, 244, 245, 246, 247, 248, 249, 96, 97, 250, 251, 252, 253, 254, 255, 256, 98, 257, 258, 259, 260, 261, 262, 263, 264, 265, 266, 267, 268, 269, 270, 271, 272, 273, 274, 275, 276, 277, 278, 279, 280, 281, 282, 283, 284, 285, 286, 287, 288, 289, 290, 291, 690, 691, 692, 693, 694, 695, 696, 697, 698, 699, 700, 701, 702, 703, 704, 705, 706, 707, 708, 709, 710] (by decide +kernel) (by decide +kernel)
set_option maxRecDepth 20000 in
theorem gL_law_X5_measured : GoodIn wsL_law (wsV RL 82 RX5 yX5_measured wsX5_measured) := goodIn_app (goodIn_of _ (by decide +kernel)) ggL_law_X5_measured
set_option maxRecDepth 20000 in
theorem ggL_law_X4_converted : GoodIn wsL_law wsX4_converted := goodIn_r _ [624, 625, 564, 626, 324, 325, 326, 2, 327, 18, 13, 104, 14, 19, 328, 329, 330, 17, 331, 42, 332, 333, 334, 335, 336, 337, 338, 339, 340, 341, 342, 39, 40, 343, 344, 345, 346, 347, 348, 349, 350, 351, 352, 41, 353, 354, 355, 356, 357, 78, 53, 79, 358, 359, 360, 361, 362, 363, 364, 365, 366, 367, 368, 369, 370, 371, 372, 373, 374, 158, 159, 160, 375, 376, 377, 378, 379, 380, 381, 382, 383, 214, 215, 216, 384, 627, 628, 629, 630, 631, 632, 633, 634, 23, 635, 636, 637, 638, 639, 640, 641, 680, 681, 682, 683, 684, 685, 686, 687, 688, 689, 711, 712, 713, 714, 715, 716, 717, 718, 719, 720, 721, 722, 723, 724, 725] (by decide +kernel) (by decide +kernel)
set_option maxRecDepth 20000 in
theorem gL_law_X4_converted : GoodIn wsL_law (wsV RL 83 RX4 yX4_converted wsX4_converted) := goodIn_app (goodIn_of _ (by decide +kernel)) ggL_law_X4_converted
set_option maxRecDepth 20000 in
theorem ggL_law_X5_converted : GoodIn wsL_law wsX5_converted := goodIn_r _ [645, 646, 572, 95, 647, 86, 113, 114, 5, 115, 414, 415, 416, 417, 418, 419, 92, 111, 85, 420, 421, 422, 423, 93, 424, 425, 426, 427, 428, 429, 430, 431, 432, 94, 433, 434, 435, 436, 84, 437, 438, 439, 440, 441, 442, 443, 444, 445, 446, 447, 448, 449, 450, 451, 452, 453, 454, 455, 648, 649, 650, 284, 690, 691, 692, 693, 694, 695, 696, 697, 698, 699, 700, 701, 702, 703, 704, 705, 706, 707, 708, 709, 710] (by decide +kernel) (by decide +kernel)
set_option maxRecDepth 20000 in
theorem gL_law_X5_converted : GoodIn wsL_law (wsV RL 86 RX5 yX5_converted wsX5_converted) := goodIn_app (goodIn_of _ (by decide +kernel)) ggL_law_X5_converted
set_option maxRecDepth 20000 in
theorem ggL_law_X4_seed : GoodIn wsL_law wsX4_seed := goodIn_r _ [654, 103, 23, 680, 681, 682, 683, 684, 685, 686, 687, 688, 689, 720, 721, 722, 723, 724, 725] (by decide +kernel) (by decide +kernel)
set_option maxRecDepth 20000 in
theorem gL_law_X4_seed : GoodIn wsL_law (wsV RL 87 RX4 yX4_seed wsX4_seed) := goodIn_app (goodIn_of _ (by decide +kernel)) ggL_law_X4_seed
set_option maxRecDepth 20000 in
theorem ggL_law_X5_seed : GoodIn wsL_law wsX5_seed := goodIn_r _ [658, 110, 531, 690, 691, 692, 693, 694, 695, 696, 697, 698, 699, 700, 701, 702, 703, 704, 705, 706, 707, 708, 709, 710] (by decide +kernel) (by decide +kernel)
set_option maxRecDepth 20000 in
theorem gL_law_X5_seed : GoodIn wsL_law (wsV RL 90 RX5 yX5_seed wsX5_seed) := goodIn_app (goodIn_of _ (by decide +kernel)) ggL_law_X5_seed
set_option maxRecDepth 20000 in
theorem ggL_law_X4_keep : GoodIn wsL_law wsX4_keep := goodIn_r _ [662, 472, 24, 23, 28, 663, 396, 397, 22, 398, 399, 48, 400, 158, 159, 160, 49, 50, 664, 665, 666, 27, 667, 394, 680, 681, 682, 683, 684, 685, 686, 687, 688, 689, 720, 721, 722, 723, 724, 725, 726, 727, 728] (by decide +kernel) (by decide +kernel)
set_option maxRecDepth 20000 in
theorem gL_law_X4_keep : GoodIn wsL_law (wsV RL 91 RX4 yX4_keep wsX4_keep) := goodIn_app (goodIn_of _ (by decide +kernel)) ggL_law_X4_keep
set_option maxRecDepth 20000 in
theorem ggL_law_X5_keep : GoodIn wsL_law wsX5_keep := goodIn_r _ [671, 485, 86, 88, 89, 531, 91, 237, 113, 114, 5, 115, 453, 454, 455, 690, 691, 692, 693, 694, 695, 696, 697, 698, 699, 700, 701, 702, 703, 704, 705, 706, 707, 708, 709, 710] (by decide +kernel) (by decide +kernel)
set_option maxRecDepth 20000 in
theorem gL_law_X5_keep : GoodIn wsL_law (wsV RL 94 RX5 yX5_keep wsX5_keep) := goodIn_app (goodIn_of _ (by decide +kernel)) ggL_law_X5_keep
set_option maxRecDepth 20000 in
theorem ggL_law_X4_goBack : GoodIn wsL_law wsX4_goBack := goodIn_r _ [675, 472, 24, 323, 23, 28, 663, 396, 397, 22, 398, 399, 48, 400, 158, 159, 160, 49, 50, 664, 665, 666, 27, 667, 394, 477, 478, 479, 2, 480, 32, 152, 73, 74, 31, 75, 76, 67, 68, 77, 78, 53, 79, 153, 154, 155, 156, 71, 69, 157, 161, 162, 163, 164, 165, 70, 166, 167, 168, 169, 170, 171, 172, 173, 174, 175, 176, 177, 178, 179, 180, 181, 182, 183, 184, 185, 186, 187, 188, 189, 190, 191, 192, 193, 194, 195, 196, 197, 198, 199, 200, 201, 680, 681, 682, 683, 684, 685, 686, 687, 688, 689, 720, 721, 722, 723, 724, 725, 726, 727, 728, 729, 730, 731, 732, 733, 734, 735] (by decide +kernel) (by decide +kernel)
set_option maxRecDepth 20000 in
theorem gL_law_X4_goBack : GoodIn wsL_law (wsV RL 95 RX4 yX4_goBack wsX4_goBack) := goodIn_app (goodIn_of _ (by decide +kernel)) ggL_law_X4_goBack
set_option maxRecDepth 20000 in
theorem ggL_law_X5_goBack : GoodIn wsL_law wsX5_goBack := goodIn_r _ [679, 485, 91, 413, 88, 86, 89, 531, 237, 113, 114, 5, 115, 453, 454, 455, 690, 691, 692, 693, 694, 695, 696, 697, 698, 699, 700, 701, 702, 703, 704, 705, 706, 707, 708, 709, 710] (by decide +kernel) (by decide +kernel)
set_option maxRecDepth 20000 in
theorem gL_law_X5_goBack : GoodIn wsL_law (wsV RL 98 RX5 yX5_goBack wsX5_goBack) := goodIn_app (goodIn_of _ (by decide +kernel)) ggL_law_X5_goBack
theorem dL_law_0 : decode cL_law 0 = .ok (.new 7, 3) := by decide +kernel
theorem dL_law_3 : decode cL_law 3 = .ok (.dup, 1) := by decide +kernel
theorem dL_law_4 : decode cL_law 4 = .ok (.invokespecial 9, 3) := by decide +kernel
theorem dL_law_7 : decode cL_law 7 = .ok (.astore_n 1, 1) := by decide +kernel
theorem dL_law_8 : decode cL_law 8 = .ok (.new 10, 3) := by decide +kernel
theorem dL_law_11 : decode cL_law 11 = .ok (.dup, 1) := by decide +kernel
theorem dL_law_12 : decode cL_law 12 = .ok (.invokespecial 12, 3) := by decide +kernel
theorem dL_law_15 : decode cL_law 15 = .ok (.astore_n 2, 1) := by decide +kernel
theorem dL_law_16 : decode cL_law 16 = .ok (.iconst 0, 1) := by decide +kernel
theorem dL_law_17 : decode cL_law 17 = .ok (.istore_n 3, 1) := by decide +kernel
theorem dL_law_18 : decode cL_law 18 = .ok (.iload_n 3, 1) := by decide +kernel
theorem dL_law_19 : decode cL_law 19 = .ok (.aload_n 0, 1) := by decide +kernel
theorem dL_law_20 : decode cL_law 20 = .ok (.arraylength, 1) := by decide +kernel
theorem dL_law_21 : decode cL_law 21 = .ok (.iconst 4, 1) := by decide +kernel
theorem dL_law_22 : decode cL_law 22 = .ok (.isub, 1) := by decide +kernel
theorem dL_law_23 : decode cL_law 23 = .ok (.if_icmp .gt 585, 3) := by decide +kernel
theorem dL_law_26 : decode cL_law 26 = .ok (.aload_n 0, 1) := by decide +kernel
theorem dL_law_27 : decode cL_law 27 = .ok (.iload_n 3, 1) := by decide +kernel
theorem dL_law_28 : decode cL_law 28 = .ok (.iaload, 1) := by decide +kernel
theorem dL_law_29 : decode cL_law 29 = .ok (.bipush 31, 2) := by decide +kernel
theorem dL_law_31 : decode cL_law 31 = .ok (.iand, 1) := by decide +kernel
theorem dL_law_32 : decode cL_law 32 = .ok (.tableswitch 570 0 19 #[96, 119, 132, 145, 168, 181, 204, 247, 270, 293, 326, 360, 394, 417, 430, 443, 467, 501, 524, 547], 96) := by decide +kernel
theorem dL_law_128 : decode cL_law 128 = .ok (.aload_n 1, 1) := by decide +kernel
theorem dL_law_129 : decode cL_law 129 = .ok (.aload_n 0, 1) := by decide +kernel
theorem dL_law_130 : decode cL_law 130 = .ok (.iload_n 3, 1) := by decide +kernel
theorem dL_law_131 : decode cL_law 131 = .ok (.iconst 1, 1) := by decide +kernel
theorem dL_law_132 : decode cL_law 132 = .ok (.iadd, 1) := by decide +kernel
theorem dL_law_133 : decode cL_law 133 = .ok (.iaload, 1) := by decide +kernel
theorem dL_law_134 : decode cL_law 134 = .ok (.invokevirtual 13, 3) := by decide +kernel
theorem dL_law_137 : decode cL_law 137 = .ok (.aload_n 2, 1) := by decide +kernel
theorem dL_law_138 : decode cL_law 138 = .ok (.aload_n 0, 1) := by decide +kernel
theorem dL_law_139 : decode cL_law 139 = .ok (.iload_n 3, 1) := by decide +kernel
theorem dL_law_140 : decode cL_law 140 = .ok (.iconst 1, 1) := by decide +kernel
theorem dL_law_141 : decode cL_law 141 = .ok (.iadd, 1) := by decide +kernel
theorem dL_law_142 : decode cL_law 142 = .ok (.iaload, 1) := by decide +kernel
theorem dL_law_143 : decode cL_law 143 = .ok (.invokevirtual 17, 3) := by decide +kernel
theorem dL_law_146 : decode cL_law 146 = .ok (.if_icmp .eq 456, 3) := by decide +kernel
theorem dL_law_149 : decode cL_law 149 = .ok (.iconst 0, 1) := by decide +kernel
theorem dL_law_150 : decode cL_law 150 = .ok (.ireturn, 1) := by decide +kernel
theorem dL_law_151 : decode cL_law 151 = .ok (.aload_n 1, 1) := by decide +kernel
theorem dL_law_152 : decode cL_law 152 = .ok (.invokevirtual 18, 3) := by decide +kernel
theorem dL_law_155 : decode cL_law 155 = .ok (.aload_n 2, 1) := by decide +kernel
theorem dL_law_156 : decode cL_law 156 = .ok (.invokevirtual 22, 3) := by decide +kernel
theorem dL_law_159 : decode cL_law 159 = .ok (.if_icmp .eq 443, 3) := by decide +kernel
theorem dL_law_162 : decode cL_law 162 = .ok (.iconst 0, 1) := by decide +kernel
theorem dL_law_163 : decode cL_law 163 = .ok (.ireturn, 1) := by decide +kernel
theorem dL_law_164 : decode cL_law 164 = .ok (.aload_n 1, 1) := by decide +kernel
theorem dL_law_165 : decode cL_law 165 = .ok (.invokevirtual 23, 3) := by decide +kernel
theorem dL_law_168 : decode cL_law 168 = .ok (.aload_n 2, 1) := by decide +kernel
theorem dL_law_169 : decode cL_law 169 = .ok (.invokevirtual 26, 3) := by decide +kernel
theorem dL_law_172 : decode cL_law 172 = .ok (.if_icmp .eq 430, 3) := by decide +kernel
theorem dL_law_175 : decode cL_law 175 = .ok (.iconst 0, 1) := by decide +kernel
theorem dL_law_176 : decode cL_law 176 = .ok (.ireturn, 1) := by decide +kernel
theorem dL_law_177 : decode cL_law 177 = .ok (.aload_n 1, 1) := by decide +kernel
theorem dL_law_178 : decode cL_law 178 = .ok (.aload_n 0, 1) := by decide +kernel
theorem dL_law_179 : decode cL_law 179 = .ok (.iload_n 3, 1) := by decide +kernel
theorem dL_law_180 : decode cL_law 180 = .ok (.iconst 1, 1) := by decide +kernel
theorem dL_law_181 : decode cL_law 181 = .ok (.iadd, 1) := by decide +kernel
theorem dL_law_182 : decode cL_law 182 = .ok (.iaload, 1) := by decide +kernel
theorem dL_law_183 : decode cL_law 183 = .ok (.invokevirtual 27, 3) := by decide +kernel
theorem dL_law_186 : decode cL_law 186 = .ok (.aload_n 2, 1) := by decide +kernel
theorem dL_law_187 : decode cL_law 187 = .ok (.aload_n 0, 1) := by decide +kernel
theorem dL_law_188 : decode cL_law 188 = .ok (.iload_n 3, 1) := by decide +kernel
theorem dL_law_189 : decode cL_law 189 = .ok (.iconst 1, 1) := by decide +kernel
theorem dL_law_190 : decode cL_law 190 = .ok (.iadd, 1) := by decide +kernel
theorem dL_law_191 : decode cL_law 191 = .ok (.iaload, 1) := by decide +kernel
theorem dL_law_192 : decode cL_law 192 = .ok (.invokevirtual 30, 3) := by decide +kernel
theorem dL_law_195 : decode cL_law 195 = .ok (.if_icmp .eq 407, 3) := by decide +kernel
theorem dL_law_198 : decode cL_law 198 = .ok (.iconst 0, 1) := by decide +kernel
theorem dL_law_199 : decode cL_law 199 = .ok (.ireturn, 1) := by decide +kernel
theorem dL_law_200 : decode cL_law 200 = .ok (.aload_n 1, 1) := by decide +kernel
theorem dL_law_201 : decode cL_law 201 = .ok (.invokevirtual 31, 3) := by decide +kernel
theorem dL_law_204 : decode cL_law 204 = .ok (.aload_n 2, 1) := by decide +kernel
theorem dL_law_205 : decode cL_law 205 = .ok (.invokevirtual 34, 3) := by decide +kernel
theorem dL_law_208 : decode cL_law 208 = .ok (.if_icmp .eq 394, 3) := by decide +kernel
theorem dL_law_211 : decode cL_law 211 = .ok (.iconst 0, 1) := by decide +kernel
theorem dL_law_212 : decode cL_law 212 = .ok (.ireturn, 1) := by decide +kernel
theorem dL_law_213 : decode cL_law 213 = .ok (.aload_n 1, 1) := by decide +kernel
theorem dL_law_214 : decode cL_law 214 = .ok (.aload_n 0, 1) := by decide +kernel
theorem dL_law_215 : decode cL_law 215 = .ok (.iload_n 3, 1) := by decide +kernel
theorem dL_law_216 : decode cL_law 216 = .ok (.iconst 1, 1) := by decide +kernel
theorem dL_law_217 : decode cL_law 217 = .ok (.iadd, 1) := by decide +kernel
theorem dL_law_218 : decode cL_law 218 = .ok (.iaload, 1) := by decide +kernel
theorem dL_law_219 : decode cL_law 219 = .ok (.invokevirtual 35, 3) := by decide +kernel
theorem dL_law_222 : decode cL_law 222 = .ok (.aload_n 2, 1) := by decide +kernel
theorem dL_law_223 : decode cL_law 223 = .ok (.aload_n 0, 1) := by decide +kernel
theorem dL_law_224 : decode cL_law 224 = .ok (.iload_n 3, 1) := by decide +kernel
theorem dL_law_225 : decode cL_law 225 = .ok (.iconst 1, 1) := by decide +kernel
theorem dL_law_226 : decode cL_law 226 = .ok (.iadd, 1) := by decide +kernel
theorem dL_law_227 : decode cL_law 227 = .ok (.iaload, 1) := by decide +kernel
theorem dL_law_228 : decode cL_law 228 = .ok (.invokevirtual 38, 3) := by decide +kernel
theorem dL_law_231 : decode cL_law 231 = .ok (.if_icmp .eq 371, 3) := by decide +kernel
theorem dL_law_234 : decode cL_law 234 = .ok (.iconst 0, 1) := by decide +kernel
theorem dL_law_235 : decode cL_law 235 = .ok (.ireturn, 1) := by decide +kernel
theorem dL_law_236 : decode cL_law 236 = .ok (.aload_n 1, 1) := by decide +kernel
theorem dL_law_237 : decode cL_law 237 = .ok (.aload_n 0, 1) := by decide +kernel
theorem dL_law_238 : decode cL_law 238 = .ok (.iload_n 3, 1) := by decide +kernel
theorem dL_law_239 : decode cL_law 239 = .ok (.iconst 1, 1) := by decide +kernel
theorem dL_law_240 : decode cL_law 240 = .ok (.iadd, 1) := by decide +kernel
theorem dL_law_241 : decode cL_law 241 = .ok (.iaload, 1) := by decide +kernel
theorem dL_law_242 : decode cL_law 242 = .ok (.aload_n 0, 1) := by decide +kernel
theorem dL_law_243 : decode cL_law 243 = .ok (.iload_n 3, 1) := by decide +kernel
theorem dL_law_244 : decode cL_law 244 = .ok (.iconst 2, 1) := by decide +kernel
theorem dL_law_245 : decode cL_law 245 = .ok (.iadd, 1) := by decide +kernel
theorem dL_law_246 : decode cL_law 246 = .ok (.iaload, 1) := by decide +kernel
theorem dL_law_247 : decode cL_law 247 = .ok (.aload_n 0, 1) := by decide +kernel
theorem dL_law_248 : decode cL_law 248 = .ok (.iload_n 3, 1) := by decide +kernel
theorem dL_law_249 : decode cL_law 249 = .ok (.iconst 3, 1) := by decide +kernel
theorem dL_law_250 : decode cL_law 250 = .ok (.iadd, 1) := by decide +kernel
theorem dL_law_251 : decode cL_law 251 = .ok (.iaload, 1) := by decide +kernel
theorem dL_law_252 : decode cL_law 252 = .ok (.invokevirtual 39, 3) := by decide +kernel
theorem dL_law_255 : decode cL_law 255 = .ok (.aload_n 2, 1) := by decide +kernel
theorem dL_law_256 : decode cL_law 256 = .ok (.aload_n 0, 1) := by decide +kernel
theorem dL_law_257 : decode cL_law 257 = .ok (.iload_n 3, 1) := by decide +kernel
theorem dL_law_258 : decode cL_law 258 = .ok (.iconst 1, 1) := by decide +kernel
theorem dL_law_259 : decode cL_law 259 = .ok (.iadd, 1) := by decide +kernel
theorem dL_law_260 : decode cL_law 260 = .ok (.iaload, 1) := by decide +kernel
theorem dL_law_261 : decode cL_law 261 = .ok (.aload_n 0, 1) := by decide +kernel
theorem dL_law_262 : decode cL_law 262 = .ok (.iload_n 3, 1) := by decide +kernel
theorem dL_law_263 : decode cL_law 263 = .ok (.iconst 2, 1) := by decide +kernel
theorem dL_law_264 : decode cL_law 264 = .ok (.iadd, 1) := by decide +kernel
theorem dL_law_265 : decode cL_law 265 = .ok (.iaload, 1) := by decide +kernel
theorem dL_law_266 : decode cL_law 266 = .ok (.aload_n 0, 1) := by decide +kernel
theorem dL_law_267 : decode cL_law 267 = .ok (.iload_n 3, 1) := by decide +kernel
theorem dL_law_268 : decode cL_law 268 = .ok (.iconst 3, 1) := by decide +kernel
theorem dL_law_269 : decode cL_law 269 = .ok (.iadd, 1) := by decide +kernel
theorem dL_law_270 : decode cL_law 270 = .ok (.iaload, 1) := by decide +kernel
theorem dL_law_271 : decode cL_law 271 = .ok (.invokevirtual 43, 3) := by decide +kernel
theorem dL_law_274 : decode cL_law 274 = .ok (.if_icmp .eq 328, 3) := by decide +kernel
theorem dL_law_277 : decode cL_law 277 = .ok (.iconst 0, 1) := by decide +kernel
theorem dL_law_278 : decode cL_law 278 = .ok (.ireturn, 1) := by decide +kernel
theorem dL_law_279 : decode cL_law 279 = .ok (.aload_n 1, 1) := by decide +kernel
theorem dL_law_280 : decode cL_law 280 = .ok (.aload_n 0, 1) := by decide +kernel
theorem dL_law_281 : decode cL_law 281 = .ok (.iload_n 3, 1) := by decide +kernel
theorem dL_law_282 : decode cL_law 282 = .ok (.iconst 1, 1) := by decide +kernel
theorem dL_law_283 : decode cL_law 283 = .ok (.iadd, 1) := by decide +kernel
theorem dL_law_284 : decode cL_law 284 = .ok (.iaload, 1) := by decide +kernel
theorem dL_law_285 : decode cL_law 285 = .ok (.invokevirtual 44, 3) := by decide +kernel
theorem dL_law_288 : decode cL_law 288 = .ok (.aload_n 2, 1) := by decide +kernel
theorem dL_law_289 : decode cL_law 289 = .ok (.aload_n 0, 1) := by decide +kernel
theorem dL_law_290 : decode cL_law 290 = .ok (.iload_n 3, 1) := by decide +kernel
theorem dL_law_291 : decode cL_law 291 = .ok (.iconst 1, 1) := by decide +kernel
theorem dL_law_292 : decode cL_law 292 = .ok (.iadd, 1) := by decide +kernel
theorem dL_law_293 : decode cL_law 293 = .ok (.iaload, 1) := by decide +kernel
theorem dL_law_294 : decode cL_law 294 = .ok (.invokevirtual 47, 3) := by decide +kernel
theorem dL_law_297 : decode cL_law 297 = .ok (.if_icmp .eq 305, 3) := by decide +kernel
theorem dL_law_300 : decode cL_law 300 = .ok (.iconst 0, 1) := by decide +kernel
theorem dL_law_301 : decode cL_law 301 = .ok (.ireturn, 1) := by decide +kernel
theorem dL_law_302 : decode cL_law 302 = .ok (.aload_n 1, 1) := by decide +kernel
theorem dL_law_303 : decode cL_law 303 = .ok (.aload_n 0, 1) := by decide +kernel
theorem dL_law_304 : decode cL_law 304 = .ok (.iload_n 3, 1) := by decide +kernel
theorem dL_law_305 : decode cL_law 305 = .ok (.iconst 1, 1) := by decide +kernel
theorem dL_law_306 : decode cL_law 306 = .ok (.iadd, 1) := by decide +kernel
theorem dL_law_307 : decode cL_law 307 = .ok (.iaload, 1) := by decide +kernel
theorem dL_law_308 : decode cL_law 308 = .ok (.invokevirtual 48, 3) := by decide +kernel
theorem dL_law_311 : decode cL_law 311 = .ok (.aload_n 2, 1) := by decide +kernel
theorem dL_law_312 : decode cL_law 312 = .ok (.aload_n 0, 1) := by decide +kernel
theorem dL_law_313 : decode cL_law 313 = .ok (.iload_n 3, 1) := by decide +kernel
theorem dL_law_314 : decode cL_law 314 = .ok (.iconst 1, 1) := by decide +kernel
theorem dL_law_315 : decode cL_law 315 = .ok (.iadd, 1) := by decide +kernel
theorem dL_law_316 : decode cL_law 316 = .ok (.iaload, 1) := by decide +kernel
theorem dL_law_317 : decode cL_law 317 = .ok (.invokevirtual 51, 3) := by decide +kernel
theorem dL_law_320 : decode cL_law 320 = .ok (.if_icmp .eq 282, 3) := by decide +kernel
theorem dL_law_323 : decode cL_law 323 = .ok (.iconst 0, 1) := by decide +kernel
theorem dL_law_324 : decode cL_law 324 = .ok (.ireturn, 1) := by decide +kernel
theorem dL_law_325 : decode cL_law 325 = .ok (.aload_n 1, 1) := by decide +kernel
theorem dL_law_326 : decode cL_law 326 = .ok (.aload_n 0, 1) := by decide +kernel
theorem dL_law_327 : decode cL_law 327 = .ok (.iload_n 3, 1) := by decide +kernel
theorem dL_law_328 : decode cL_law 328 = .ok (.iconst 1, 1) := by decide +kernel
theorem dL_law_329 : decode cL_law 329 = .ok (.iadd, 1) := by decide +kernel
theorem dL_law_330 : decode cL_law 330 = .ok (.iaload, 1) := by decide +kernel
theorem dL_law_331 : decode cL_law 331 = .ok (.aload_n 0, 1) := by decide +kernel
theorem dL_law_332 : decode cL_law 332 = .ok (.iload_n 3, 1) := by decide +kernel
theorem dL_law_333 : decode cL_law 333 = .ok (.iconst 2, 1) := by decide +kernel
theorem dL_law_334 : decode cL_law 334 = .ok (.iadd, 1) := by decide +kernel
theorem dL_law_335 : decode cL_law 335 = .ok (.iaload, 1) := by decide +kernel
theorem dL_law_336 : decode cL_law 336 = .ok (.invokevirtual 52, 3) := by decide +kernel
theorem dL_law_339 : decode cL_law 339 = .ok (.aload_n 2, 1) := by decide +kernel
theorem dL_law_340 : decode cL_law 340 = .ok (.aload_n 0, 1) := by decide +kernel
theorem dL_law_341 : decode cL_law 341 = .ok (.iload_n 3, 1) := by decide +kernel
theorem dL_law_342 : decode cL_law 342 = .ok (.iconst 1, 1) := by decide +kernel
theorem dL_law_343 : decode cL_law 343 = .ok (.iadd, 1) := by decide +kernel
theorem dL_law_344 : decode cL_law 344 = .ok (.iaload, 1) := by decide +kernel
theorem dL_law_345 : decode cL_law 345 = .ok (.aload_n 0, 1) := by decide +kernel
theorem dL_law_346 : decode cL_law 346 = .ok (.iload_n 3, 1) := by decide +kernel
theorem dL_law_347 : decode cL_law 347 = .ok (.iconst 2, 1) := by decide +kernel
theorem dL_law_348 : decode cL_law 348 = .ok (.iadd, 1) := by decide +kernel
theorem dL_law_349 : decode cL_law 349 = .ok (.iaload, 1) := by decide +kernel
theorem dL_law_350 : decode cL_law 350 = .ok (.invokevirtual 56, 3) := by decide +kernel
theorem dL_law_353 : decode cL_law 353 = .ok (.if_icmp .eq 249, 3) := by decide +kernel
theorem dL_law_356 : decode cL_law 356 = .ok (.iconst 0, 1) := by decide +kernel
theorem dL_law_357 : decode cL_law 357 = .ok (.ireturn, 1) := by decide +kernel
theorem dL_law_358 : decode cL_law 358 = .ok (.aload_n 1, 1) := by decide +kernel
theorem dL_law_359 : decode cL_law 359 = .ok (.aload_n 0, 1) := by decide +kernel
theorem dL_law_360 : decode cL_law 360 = .ok (.iload_n 3, 1) := by decide +kernel
theorem dL_law_361 : decode cL_law 361 = .ok (.iconst 1, 1) := by decide +kernel
theorem dL_law_362 : decode cL_law 362 = .ok (.iadd, 1) := by decide +kernel
theorem dL_law_363 : decode cL_law 363 = .ok (.iaload, 1) := by decide +kernel
theorem dL_law_364 : decode cL_law 364 = .ok (.aload_n 0, 1) := by decide +kernel
theorem dL_law_365 : decode cL_law 365 = .ok (.iload_n 3, 1) := by decide +kernel
theorem dL_law_366 : decode cL_law 366 = .ok (.iconst 2, 1) := by decide +kernel
theorem dL_law_367 : decode cL_law 367 = .ok (.iadd, 1) := by decide +kernel
theorem dL_law_368 : decode cL_law 368 = .ok (.iaload, 1) := by decide +kernel
theorem dL_law_369 : decode cL_law 369 = .ok (.invokevirtual 57, 3) := by decide +kernel
theorem dL_law_372 : decode cL_law 372 = .ok (.aload_n 2, 1) := by decide +kernel
theorem dL_law_373 : decode cL_law 373 = .ok (.aload_n 0, 1) := by decide +kernel
theorem dL_law_374 : decode cL_law 374 = .ok (.iload_n 3, 1) := by decide +kernel
theorem dL_law_375 : decode cL_law 375 = .ok (.iconst 1, 1) := by decide +kernel
theorem dL_law_376 : decode cL_law 376 = .ok (.iadd, 1) := by decide +kernel
theorem dL_law_377 : decode cL_law 377 = .ok (.iaload, 1) := by decide +kernel
theorem dL_law_378 : decode cL_law 378 = .ok (.aload_n 0, 1) := by decide +kernel
theorem dL_law_379 : decode cL_law 379 = .ok (.iload_n 3, 1) := by decide +kernel
theorem dL_law_380 : decode cL_law 380 = .ok (.iconst 2, 1) := by decide +kernel
theorem dL_law_381 : decode cL_law 381 = .ok (.iadd, 1) := by decide +kernel
theorem dL_law_382 : decode cL_law 382 = .ok (.iaload, 1) := by decide +kernel
theorem dL_law_383 : decode cL_law 383 = .ok (.invokevirtual 61, 3) := by decide +kernel
theorem dL_law_386 : decode cL_law 386 = .ok (.lcmp, 1) := by decide +kernel
theorem dL_law_387 : decode cL_law 387 = .ok (.ifCond .eq 215, 3) := by decide +kernel
theorem dL_law_390 : decode cL_law 390 = .ok (.iconst 0, 1) := by decide +kernel
theorem dL_law_391 : decode cL_law 391 = .ok (.ireturn, 1) := by decide +kernel
theorem dL_law_392 : decode cL_law 392 = .ok (.aload_n 1, 1) := by decide +kernel
theorem dL_law_393 : decode cL_law 393 = .ok (.aload_n 0, 1) := by decide +kernel
theorem dL_law_394 : decode cL_law 394 = .ok (.iload_n 3, 1) := by decide +kernel
theorem dL_law_395 : decode cL_law 395 = .ok (.iconst 1, 1) := by decide +kernel
theorem dL_law_396 : decode cL_law 396 = .ok (.iadd, 1) := by decide +kernel
theorem dL_law_397 : decode cL_law 397 = .ok (.iaload, 1) := by decide +kernel
theorem dL_law_398 : decode cL_law 398 = .ok (.aload_n 0, 1) := by decide +kernel
theorem dL_law_399 : decode cL_law 399 = .ok (.iload_n 3, 1) := by decide +kernel
theorem dL_law_400 : decode cL_law 400 = .ok (.iconst 2, 1) := by decide +kernel
theorem dL_law_401 : decode cL_law 401 = .ok (.iadd, 1) := by decide +kernel
theorem dL_law_402 : decode cL_law 402 = .ok (.iaload, 1) := by decide +kernel
theorem dL_law_403 : decode cL_law 403 = .ok (.invokevirtual 62, 3) := by decide +kernel
theorem dL_law_406 : decode cL_law 406 = .ok (.aload_n 2, 1) := by decide +kernel
theorem dL_law_407 : decode cL_law 407 = .ok (.aload_n 0, 1) := by decide +kernel
theorem dL_law_408 : decode cL_law 408 = .ok (.iload_n 3, 1) := by decide +kernel
theorem dL_law_409 : decode cL_law 409 = .ok (.iconst 1, 1) := by decide +kernel
theorem dL_law_410 : decode cL_law 410 = .ok (.iadd, 1) := by decide +kernel
theorem dL_law_411 : decode cL_law 411 = .ok (.iaload, 1) := by decide +kernel
theorem dL_law_412 : decode cL_law 412 = .ok (.aload_n 0, 1) := by decide +kernel
theorem dL_law_413 : decode cL_law 413 = .ok (.iload_n 3, 1) := by decide +kernel
theorem dL_law_414 : decode cL_law 414 = .ok (.iconst 2, 1) := by decide +kernel
theorem dL_law_415 : decode cL_law 415 = .ok (.iadd, 1) := by decide +kernel
theorem dL_law_416 : decode cL_law 416 = .ok (.iaload, 1) := by decide +kernel
theorem dL_law_417 : decode cL_law 417 = .ok (.invokevirtual 65, 3) := by decide +kernel
theorem dL_law_420 : decode cL_law 420 = .ok (.lcmp, 1) := by decide +kernel
theorem dL_law_421 : decode cL_law 421 = .ok (.ifCond .eq 181, 3) := by decide +kernel
theorem dL_law_424 : decode cL_law 424 = .ok (.iconst 0, 1) := by decide +kernel
theorem dL_law_425 : decode cL_law 425 = .ok (.ireturn, 1) := by decide +kernel
theorem dL_law_426 : decode cL_law 426 = .ok (.aload_n 1, 1) := by decide +kernel
theorem dL_law_427 : decode cL_law 427 = .ok (.aload_n 0, 1) := by decide +kernel
theorem dL_law_428 : decode cL_law 428 = .ok (.iload_n 3, 1) := by decide +kernel
theorem dL_law_429 : decode cL_law 429 = .ok (.iconst 1, 1) := by decide +kernel
theorem dL_law_430 : decode cL_law 430 = .ok (.iadd, 1) := by decide +kernel
theorem dL_law_431 : decode cL_law 431 = .ok (.iaload, 1) := by decide +kernel
theorem dL_law_432 : decode cL_law 432 = .ok (.invokevirtual 66, 3) := by decide +kernel
theorem dL_law_435 : decode cL_law 435 = .ok (.aload_n 2, 1) := by decide +kernel
theorem dL_law_436 : decode cL_law 436 = .ok (.aload_n 0, 1) := by decide +kernel
theorem dL_law_437 : decode cL_law 437 = .ok (.iload_n 3, 1) := by decide +kernel
theorem dL_law_438 : decode cL_law 438 = .ok (.iconst 1, 1) := by decide +kernel
theorem dL_law_439 : decode cL_law 439 = .ok (.iadd, 1) := by decide +kernel
theorem dL_law_440 : decode cL_law 440 = .ok (.iaload, 1) := by decide +kernel
theorem dL_law_441 : decode cL_law 441 = .ok (.invokevirtual 69, 3) := by decide +kernel
theorem dL_law_444 : decode cL_law 444 = .ok (.if_icmp .eq 158, 3) := by decide +kernel
theorem dL_law_447 : decode cL_law 447 = .ok (.iconst 0, 1) := by decide +kernel
theorem dL_law_448 : decode cL_law 448 = .ok (.ireturn, 1) := by decide +kernel
theorem dL_law_449 : decode cL_law 449 = .ok (.aload_n 1, 1) := by decide +kernel
theorem dL_law_450 : decode cL_law 450 = .ok (.invokevirtual 70, 3) := by decide +kernel
theorem dL_law_453 : decode cL_law 453 = .ok (.aload_n 2, 1) := by decide +kernel
theorem dL_law_454 : decode cL_law 454 = .ok (.invokevirtual 73, 3) := by decide +kernel
theorem dL_law_457 : decode cL_law 457 = .ok (.if_icmp .eq 145, 3) := by decide +kernel
theorem dL_law_460 : decode cL_law 460 = .ok (.iconst 0, 1) := by decide +kernel
theorem dL_law_461 : decode cL_law 461 = .ok (.ireturn, 1) := by decide +kernel
theorem dL_law_462 : decode cL_law 462 = .ok (.aload_n 1, 1) := by decide +kernel
theorem dL_law_463 : decode cL_law 463 = .ok (.invokevirtual 74, 3) := by decide +kernel
theorem dL_law_466 : decode cL_law 466 = .ok (.aload_n 2, 1) := by decide +kernel
theorem dL_law_467 : decode cL_law 467 = .ok (.invokevirtual 77, 3) := by decide +kernel
theorem dL_law_470 : decode cL_law 470 = .ok (.if_icmp .eq 132, 3) := by decide +kernel
theorem dL_law_473 : decode cL_law 473 = .ok (.iconst 0, 1) := by decide +kernel
theorem dL_law_474 : decode cL_law 474 = .ok (.ireturn, 1) := by decide +kernel
theorem dL_law_475 : decode cL_law 475 = .ok (.aload_n 1, 1) := by decide +kernel
theorem dL_law_476 : decode cL_law 476 = .ok (.aload_n 0, 1) := by decide +kernel
theorem dL_law_477 : decode cL_law 477 = .ok (.iload_n 3, 1) := by decide +kernel
theorem dL_law_478 : decode cL_law 478 = .ok (.iconst 1, 1) := by decide +kernel
theorem dL_law_479 : decode cL_law 479 = .ok (.iadd, 1) := by decide +kernel
theorem dL_law_480 : decode cL_law 480 = .ok (.iaload, 1) := by decide +kernel
theorem dL_law_481 : decode cL_law 481 = .ok (.invokevirtual 78, 3) := by decide +kernel
theorem dL_law_484 : decode cL_law 484 = .ok (.aload_n 2, 1) := by decide +kernel
theorem dL_law_485 : decode cL_law 485 = .ok (.aload_n 0, 1) := by decide +kernel
theorem dL_law_486 : decode cL_law 486 = .ok (.iload_n 3, 1) := by decide +kernel
theorem dL_law_487 : decode cL_law 487 = .ok (.iconst 1, 1) := by decide +kernel
theorem dL_law_488 : decode cL_law 488 = .ok (.iadd, 1) := by decide +kernel
theorem dL_law_489 : decode cL_law 489 = .ok (.iaload, 1) := by decide +kernel
theorem dL_law_490 : decode cL_law 490 = .ok (.invokevirtual 82, 3) := by decide +kernel
theorem dL_law_493 : decode cL_law 493 = .ok (.lcmp, 1) := by decide +kernel
theorem dL_law_494 : decode cL_law 494 = .ok (.ifCond .eq 108, 3) := by decide +kernel
theorem dL_law_497 : decode cL_law 497 = .ok (.iconst 0, 1) := by decide +kernel
theorem dL_law_498 : decode cL_law 498 = .ok (.ireturn, 1) := by decide +kernel
theorem dL_law_499 : decode cL_law 499 = .ok (.aload_n 1, 1) := by decide +kernel
theorem dL_law_500 : decode cL_law 500 = .ok (.aload_n 0, 1) := by decide +kernel
theorem dL_law_501 : decode cL_law 501 = .ok (.iload_n 3, 1) := by decide +kernel
theorem dL_law_502 : decode cL_law 502 = .ok (.iconst 1, 1) := by decide +kernel
theorem dL_law_503 : decode cL_law 503 = .ok (.iadd, 1) := by decide +kernel
theorem dL_law_504 : decode cL_law 504 = .ok (.iaload, 1) := by decide +kernel
theorem dL_law_505 : decode cL_law 505 = .ok (.aload_n 0, 1) := by decide +kernel
theorem dL_law_506 : decode cL_law 506 = .ok (.iload_n 3, 1) := by decide +kernel
theorem dL_law_507 : decode cL_law 507 = .ok (.iconst 2, 1) := by decide +kernel
theorem dL_law_508 : decode cL_law 508 = .ok (.iadd, 1) := by decide +kernel
theorem dL_law_509 : decode cL_law 509 = .ok (.iaload, 1) := by decide +kernel
theorem dL_law_510 : decode cL_law 510 = .ok (.invokevirtual 83, 3) := by decide +kernel
theorem dL_law_513 : decode cL_law 513 = .ok (.aload_n 2, 1) := by decide +kernel
theorem dL_law_514 : decode cL_law 514 = .ok (.aload_n 0, 1) := by decide +kernel
theorem dL_law_515 : decode cL_law 515 = .ok (.iload_n 3, 1) := by decide +kernel
theorem dL_law_516 : decode cL_law 516 = .ok (.iconst 1, 1) := by decide +kernel
theorem dL_law_517 : decode cL_law 517 = .ok (.iadd, 1) := by decide +kernel
theorem dL_law_518 : decode cL_law 518 = .ok (.iaload, 1) := by decide +kernel
theorem dL_law_519 : decode cL_law 519 = .ok (.aload_n 0, 1) := by decide +kernel
theorem dL_law_520 : decode cL_law 520 = .ok (.iload_n 3, 1) := by decide +kernel
theorem dL_law_521 : decode cL_law 521 = .ok (.iconst 2, 1) := by decide +kernel
theorem dL_law_522 : decode cL_law 522 = .ok (.iadd, 1) := by decide +kernel
theorem dL_law_523 : decode cL_law 523 = .ok (.iaload, 1) := by decide +kernel
theorem dL_law_524 : decode cL_law 524 = .ok (.invokevirtual 86, 3) := by decide +kernel
theorem dL_law_527 : decode cL_law 527 = .ok (.lcmp, 1) := by decide +kernel
theorem dL_law_528 : decode cL_law 528 = .ok (.ifCond .eq 74, 3) := by decide +kernel
theorem dL_law_531 : decode cL_law 531 = .ok (.iconst 0, 1) := by decide +kernel
theorem dL_law_532 : decode cL_law 532 = .ok (.ireturn, 1) := by decide +kernel
theorem dL_law_533 : decode cL_law 533 = .ok (.aload_n 1, 1) := by decide +kernel
theorem dL_law_534 : decode cL_law 534 = .ok (.aload_n 0, 1) := by decide +kernel
theorem dL_law_535 : decode cL_law 535 = .ok (.iload_n 3, 1) := by decide +kernel
theorem dL_law_536 : decode cL_law 536 = .ok (.iconst 1, 1) := by decide +kernel
theorem dL_law_537 : decode cL_law 537 = .ok (.iadd, 1) := by decide +kernel
theorem dL_law_538 : decode cL_law 538 = .ok (.iaload, 1) := by decide +kernel
theorem dL_law_539 : decode cL_law 539 = .ok (.invokevirtual 87, 3) := by decide +kernel
theorem dL_law_542 : decode cL_law 542 = .ok (.aload_n 2, 1) := by decide +kernel
theorem dL_law_543 : decode cL_law 543 = .ok (.aload_n 0, 1) := by decide +kernel
theorem dL_law_544 : decode cL_law 544 = .ok (.iload_n 3, 1) := by decide +kernel
theorem dL_law_545 : decode cL_law 545 = .ok (.iconst 1, 1) := by decide +kernel
theorem dL_law_546 : decode cL_law 546 = .ok (.iadd, 1) := by decide +kernel
theorem dL_law_547 : decode cL_law 547 = .ok (.iaload, 1) := by decide +kernel
theorem dL_law_548 : decode cL_law 548 = .ok (.invokevirtual 90, 3) := by decide +kernel
theorem dL_law_551 : decode cL_law 551 = .ok (.if_icmp .eq 51, 3) := by decide +kernel
theorem dL_law_554 : decode cL_law 554 = .ok (.iconst 0, 1) := by decide +kernel
theorem dL_law_555 : decode cL_law 555 = .ok (.ireturn, 1) := by decide +kernel
theorem dL_law_556 : decode cL_law 556 = .ok (.aload_n 1, 1) := by decide +kernel
theorem dL_law_557 : decode cL_law 557 = .ok (.aload_n 0, 1) := by decide +kernel
theorem dL_law_558 : decode cL_law 558 = .ok (.iload_n 3, 1) := by decide +kernel
theorem dL_law_559 : decode cL_law 559 = .ok (.iconst 1, 1) := by decide +kernel
theorem dL_law_560 : decode cL_law 560 = .ok (.iadd, 1) := by decide +kernel
theorem dL_law_561 : decode cL_law 561 = .ok (.iaload, 1) := by decide +kernel
theorem dL_law_562 : decode cL_law 562 = .ok (.invokevirtual 91, 3) := by decide +kernel
theorem dL_law_565 : decode cL_law 565 = .ok (.aload_n 2, 1) := by decide +kernel
theorem dL_law_566 : decode cL_law 566 = .ok (.aload_n 0, 1) := by decide +kernel
theorem dL_law_567 : decode cL_law 567 = .ok (.iload_n 3, 1) := by decide +kernel
theorem dL_law_568 : decode cL_law 568 = .ok (.iconst 1, 1) := by decide +kernel
theorem dL_law_569 : decode cL_law 569 = .ok (.iadd, 1) := by decide +kernel
theorem dL_law_570 : decode cL_law 570 = .ok (.iaload, 1) := by decide +kernel
theorem dL_law_571 : decode cL_law 571 = .ok (.invokevirtual 94, 3) := by decide +kernel
theorem dL_law_574 : decode cL_law 574 = .ok (.if_icmp .eq 28, 3) := by decide +kernel
theorem dL_law_577 : decode cL_law 577 = .ok (.iconst 0, 1) := by decide +kernel
theorem dL_law_578 : decode cL_law 578 = .ok (.ireturn, 1) := by decide +kernel
theorem dL_law_579 : decode cL_law 579 = .ok (.aload_n 1, 1) := by decide +kernel
theorem dL_law_580 : decode cL_law 580 = .ok (.aload_n 0, 1) := by decide +kernel
theorem dL_law_581 : decode cL_law 581 = .ok (.iload_n 3, 1) := by decide +kernel
theorem dL_law_582 : decode cL_law 582 = .ok (.iconst 1, 1) := by decide +kernel
theorem dL_law_583 : decode cL_law 583 = .ok (.iadd, 1) := by decide +kernel
theorem dL_law_584 : decode cL_law 584 = .ok (.iaload, 1) := by decide +kernel
theorem dL_law_585 : decode cL_law 585 = .ok (.invokevirtual 95, 3) := by decide +kernel
theorem dL_law_588 : decode cL_law 588 = .ok (.aload_n 2, 1) := by decide +kernel
theorem dL_law_589 : decode cL_law 589 = .ok (.aload_n 0, 1) := by decide +kernel
theorem dL_law_590 : decode cL_law 590 = .ok (.iload_n 3, 1) := by decide +kernel
theorem dL_law_591 : decode cL_law 591 = .ok (.iconst 1, 1) := by decide +kernel
theorem dL_law_592 : decode cL_law 592 = .ok (.iadd, 1) := by decide +kernel
theorem dL_law_593 : decode cL_law 593 = .ok (.iaload, 1) := by decide +kernel
theorem dL_law_594 : decode cL_law 594 = .ok (.invokevirtual 98, 3) := by decide +kernel
theorem dL_law_597 : decode cL_law 597 = .ok (.if_icmp .eq 5, 3) := by decide +kernel
theorem dL_law_600 : decode cL_law 600 = .ok (.iconst 0, 1) := by decide +kernel
theorem dL_law_601 : decode cL_law 601 = .ok (.ireturn, 1) := by decide +kernel
theorem dL_law_602 : decode cL_law 602 = .ok (.iinc 3 4, 3) := by decide +kernel
theorem dL_law_605 : decode cL_law 605 = .ok (.goto (-587), 3) := by decide +kernel
theorem dL_law_608 : decode cL_law 608 = .ok (.iconst 1, 1) := by decide +kernel
theorem dL_law_609 : decode cL_law 609 = .ok (.ireturn, 1) := by decide +kernel
