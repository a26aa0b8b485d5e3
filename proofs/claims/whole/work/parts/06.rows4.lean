theorem dX5_scale_108 : decode cX5_scale 108 = .ok (.iload 4, 2) := by decide +kernel
theorem dX5_scale_110 : decode cX5_scale 110 = .ok (.ireturn, 1) := by decide +kernel
theorem dX5_draw_0 : decode cX5_draw 0 = .ok (.aload_n 0, 1) := by decide +kernel
theorem dX5_draw_1 : decode cX5_draw 1 = .ok (.aload_n 0, 1) := by decide +kernel
theorem dX5_draw_2 : decode cX5_draw 2 = .ok (.getfield 202, 3) := by decide +kernel
theorem dX5_draw_5 : decode cX5_draw 5 = .ok (.ldc2_w 206, 3) := by decide +kernel
theorem dX5_draw_8 : decode cX5_draw 8 = .ok (.lmul, 1) := by decide +kernel
theorem dX5_draw_9 : decode cX5_draw 9 = .ok (.ldc2_w 208, 3) := by decide +kernel
theorem dX5_draw_12 : decode cX5_draw 12 = .ok (.ladd, 1) := by decide +kernel
theorem dX5_draw_13 : decode cX5_draw 13 = .ok (.ldc2_w 210, 3) := by decide +kernel
theorem dX5_draw_16 : decode cX5_draw 16 = .ok (.lrem, 1) := by decide +kernel
theorem dX5_draw_17 : decode cX5_draw 17 = .ok (.putfield 202, 3) := by decide +kernel
theorem dX5_draw_20 : decode cX5_draw 20 = .ok (.aload_n 0, 1) := by decide +kernel
theorem dX5_draw_21 : decode cX5_draw 21 = .ok (.getfield 202, 3) := by decide +kernel
theorem dX5_draw_24 : decode cX5_draw 24 = .ok (.ldc2_w 212, 3) := by decide +kernel
theorem dX5_draw_27 : decode cX5_draw 27 = .ok (.ldiv, 1) := by decide +kernel
theorem dX5_draw_28 : decode cX5_draw 28 = .ok (.iload_n 1, 1) := by decide +kernel
theorem dX5_draw_29 : decode cX5_draw 29 = .ok (.i2l, 1) := by decide +kernel
theorem dX5_draw_30 : decode cX5_draw 30 = .ok (.lrem, 1) := by decide +kernel
theorem dX5_draw_31 : decode cX5_draw 31 = .ok (.l2i, 1) := by decide +kernel
theorem dX5_draw_32 : decode cX5_draw 32 = .ok (.ireturn, 1) := by decide +kernel
set_option maxRecDepth 20000 in
theorem ggX5_drawn_X5_draw : GoodIn wsX5_drawn wsX5_draw := goodIn_r _ [7, 8, 9, 10, 11, 12, 88, 89, 90, 91, 92, 93, 94, 95, 96, 97, 98, 99, 100, 101, 102, 103, 104, 105, 106, 107, 108] (by decide +kernel) (by decide +kernel)
set_option maxRecDepth 20000 in
theorem gX5_drawn_X5_draw : GoodIn wsX5_drawn (wsV RX5 214 RX5 yX5_draw wsX5_draw) := goodIn_app (goodIn_of _ (by decide +kernel)) ggX5_drawn_X5_draw
set_option maxRecDepth 20000 in
theorem ggX5_drawn_X5_mayBe : GoodIn wsX5_drawn wsX5_mayBe := goodIn_r _ [16, 1, 17, 18, 19, 6, 20, 2, 21, 22, 23, 24, 25, 26, 27, 28, 29, 30, 31, 32, 33, 34, 35, 36, 37, 38, 39, 40, 41, 42, 43, 44, 45, 46, 47, 48, 49, 50, 51, 52, 53, 54, 55, 56, 57, 58, 59, 60, 61, 62, 63, 64, 65, 66, 67, 68, 69, 70, 71, 72, 73, 74, 88, 89, 90, 91, 92, 93, 94, 95, 96, 97, 98, 99, 100, 101, 102, 103, 104, 105, 106, 107, 108] (by decide +kernel) (by decide +kernel)
set_option maxRecDepth 20000 in
theorem gX5_drawn_X5_mayBe : GoodIn wsX5_drawn (wsV RX5 188 RX5 yX5_mayBe wsX5_mayBe) := goodIn_app (goodIn_of _ (by decide +kernel)) ggX5_drawn_X5_mayBe
set_option maxRecDepth 20000 in
theorem ggX5_drawn_X5_notes : GoodIn wsX5_drawn wsX5_notes := goodIn_r _ [78, 79, 80, 2, 81, 82, 6, 83, 88, 89, 90, 91, 92, 93, 94, 95, 96, 97, 98, 99, 100, 101, 102, 103, 104, 105, 106, 107, 108] (by decide +kernel) (by decide +kernel)
set_option maxRecDepth 20000 in
theorem gX5_drawn_X5_notes : GoodIn wsX5_drawn (wsV RX5 192 RX5 yX5_notes wsX5_notes) := goodIn_app (goodIn_of _ (by decide +kernel)) ggX5_drawn_X5_notes
set_option maxRecDepth 20000 in
theorem ggX5_drawn_X5_says : GoodIn wsX5_drawn wsX5_says := goodIn_r _ [87, 1, 2, 81, 82, 6, 83, 88, 89, 90, 91, 92, 93, 94, 95, 96, 97, 98, 99, 100, 101, 102, 103, 104, 105, 106, 107, 108] (by decide +kernel) (by decide +kernel)
set_option maxRecDepth 20000 in
theorem gX5_drawn_X5_says : GoodIn wsX5_drawn (wsV RX5 195 RX5 yX5_says wsX5_says) := goodIn_app (goodIn_of _ (by decide +kernel)) ggX5_drawn_X5_says
theorem dX5_drawn_0 : decode cX5_drawn 0 = .ok (.iconst 0, 1) := by decide +kernel
theorem dX5_drawn_1 : decode cX5_drawn 1 = .ok (.istore_n 1, 1) := by decide +kernel
theorem dX5_drawn_2 : decode cX5_drawn 2 = .ok (.iload_n 1, 1) := by decide +kernel
theorem dX5_drawn_3 : decode cX5_drawn 3 = .ok (.bipush 10, 2) := by decide +kernel
theorem dX5_drawn_5 : decode cX5_drawn 5 = .ok (.if_icmp .ge 16, 3) := by decide +kernel
theorem dX5_drawn_8 : decode cX5_drawn 8 = .ok (.aload_n 0, 1) := by decide +kernel
theorem dX5_drawn_9 : decode cX5_drawn 9 = .ok (.getfield 43, 3) := by decide +kernel
theorem dX5_drawn_12 : decode cX5_drawn 12 = .ok (.iload_n 1, 1) := by decide +kernel
theorem dX5_drawn_13 : decode cX5_drawn 13 = .ok (.iconst 0, 1) := by decide +kernel
theorem dX5_drawn_14 : decode cX5_drawn 14 = .ok (.iastore, 1) := by decide +kernel
theorem dX5_drawn_15 : decode cX5_drawn 15 = .ok (.iinc 1 1, 3) := by decide +kernel
theorem dX5_drawn_18 : decode cX5_drawn 18 = .ok (.goto (-16), 3) := by decide +kernel
theorem dX5_drawn_21 : decode cX5_drawn 21 = .ok (.aload_n 0, 1) := by decide +kernel
theorem dX5_drawn_22 : decode cX5_drawn 22 = .ok (.bipush 6, 2) := by decide +kernel
theorem dX5_drawn_24 : decode cX5_drawn 24 = .ok (.invokevirtual 214, 3) := by decide +kernel
theorem dX5_drawn_27 : decode cX5_drawn 27 = .ok (.istore_n 1, 1) := by decide +kernel
theorem dX5_drawn_28 : decode cX5_drawn 28 = .ok (.aload_n 0, 1) := by decide +kernel
theorem dX5_drawn_29 : decode cX5_drawn 29 = .ok (.bipush 6, 2) := by decide +kernel
theorem dX5_drawn_31 : decode cX5_drawn 31 = .ok (.invokevirtual 214, 3) := by decide +kernel
theorem dX5_drawn_34 : decode cX5_drawn 34 = .ok (.istore_n 2, 1) := by decide +kernel
theorem dX5_drawn_35 : decode cX5_drawn 35 = .ok (.aload_n 0, 1) := by decide +kernel
theorem dX5_drawn_36 : decode cX5_drawn 36 = .ok (.getfield 43, 3) := by decide +kernel
theorem dX5_drawn_39 : decode cX5_drawn 39 = .ok (.iload_n 1, 1) := by decide +kernel
theorem dX5_drawn_40 : decode cX5_drawn 40 = .ok (.dup2, 1) := by decide +kernel
theorem dX5_drawn_41 : decode cX5_drawn 41 = .ok (.iaload, 1) := by decide +kernel
theorem dX5_drawn_42 : decode cX5_drawn 42 = .ok (.iconst 1, 1) := by decide +kernel
theorem dX5_drawn_43 : decode cX5_drawn 43 = .ok (.iadd, 1) := by decide +kernel
theorem dX5_drawn_44 : decode cX5_drawn 44 = .ok (.iastore, 1) := by decide +kernel
theorem dX5_drawn_45 : decode cX5_drawn 45 = .ok (.aload_n 0, 1) := by decide +kernel
theorem dX5_drawn_46 : decode cX5_drawn 46 = .ok (.getfield 43, 3) := by decide +kernel
theorem dX5_drawn_49 : decode cX5_drawn 49 = .ok (.iload_n 2, 1) := by decide +kernel
theorem dX5_drawn_50 : decode cX5_drawn 50 = .ok (.dup2, 1) := by decide +kernel
theorem dX5_drawn_51 : decode cX5_drawn 51 = .ok (.iaload, 1) := by decide +kernel
theorem dX5_drawn_52 : decode cX5_drawn 52 = .ok (.aload_n 0, 1) := by decide +kernel
theorem dX5_drawn_53 : decode cX5_drawn 53 = .ok (.iconst 5, 1) := by decide +kernel
theorem dX5_drawn_54 : decode cX5_drawn 54 = .ok (.invokevirtual 214, 3) := by decide +kernel
theorem dX5_drawn_57 : decode cX5_drawn 57 = .ok (.iconst 2, 1) := by decide +kernel
theorem dX5_drawn_58 : decode cX5_drawn 58 = .ok (.isub, 1) := by decide +kernel
theorem dX5_drawn_59 : decode cX5_drawn 59 = .ok (.iadd, 1) := by decide +kernel
theorem dX5_drawn_60 : decode cX5_drawn 60 = .ok (.iastore, 1) := by decide +kernel
theorem dX5_drawn_61 : decode cX5_drawn 61 = .ok (.aload_n 0, 1) := by decide +kernel
theorem dX5_drawn_62 : decode cX5_drawn 62 = .ok (.getfield 43, 3) := by decide +kernel
theorem dX5_drawn_65 : decode cX5_drawn 65 = .ok (.bipush 6, 2) := by decide +kernel
theorem dX5_drawn_67 : decode cX5_drawn 67 = .ok (.aload_n 0, 1) := by decide +kernel
theorem dX5_drawn_68 : decode cX5_drawn 68 = .ok (.iconst 4, 1) := by decide +kernel
theorem dX5_drawn_69 : decode cX5_drawn 69 = .ok (.invokevirtual 214, 3) := by decide +kernel
theorem dX5_drawn_72 : decode cX5_drawn 72 = .ok (.iadd, 1) := by decide +kernel
theorem dX5_drawn_73 : decode cX5_drawn 73 = .ok (.dup2, 1) := by decide +kernel
theorem dX5_drawn_74 : decode cX5_drawn 74 = .ok (.iaload, 1) := by decide +kernel
theorem dX5_drawn_75 : decode cX5_drawn 75 = .ok (.iconst 1, 1) := by decide +kernel
theorem dX5_drawn_76 : decode cX5_drawn 76 = .ok (.isub, 1) := by decide +kernel
theorem dX5_drawn_77 : decode cX5_drawn 77 = .ok (.iastore, 1) := by decide +kernel
theorem dX5_drawn_78 : decode cX5_drawn 78 = .ok (.aload_n 0, 1) := by decide +kernel
theorem dX5_drawn_79 : decode cX5_drawn 79 = .ok (.getfield 43, 3) := by decide +kernel
theorem dX5_drawn_82 : decode cX5_drawn 82 = .ok (.iload_n 1, 1) := by decide +kernel
theorem dX5_drawn_83 : decode cX5_drawn 83 = .ok (.iaload, 1) := by decide +kernel
theorem dX5_drawn_84 : decode cX5_drawn 84 = .ok (.ifCond .ne 12, 3) := by decide +kernel
theorem dX5_drawn_87 : decode cX5_drawn 87 = .ok (.aload_n 0, 1) := by decide +kernel
theorem dX5_drawn_88 : decode cX5_drawn 88 = .ok (.getfield 43, 3) := by decide +kernel
theorem dX5_drawn_91 : decode cX5_drawn 91 = .ok (.iload_n 2, 1) := by decide +kernel
theorem dX5_drawn_92 : decode cX5_drawn 92 = .ok (.iaload, 1) := by decide +kernel
theorem dX5_drawn_93 : decode cX5_drawn 93 = .ok (.ifCond .eq 7, 3) := by decide +kernel
theorem dX5_drawn_96 : decode cX5_drawn 96 = .ok (.iconst 1, 1) := by decide +kernel
theorem dX5_drawn_97 : decode cX5_drawn 97 = .ok (.goto 4, 3) := by decide +kernel
theorem dX5_drawn_100 : decode cX5_drawn 100 = .ok (.iconst 0, 1) := by decide +kernel
theorem dX5_drawn_101 : decode cX5_drawn 101 = .ok (.istore_n 3, 1) := by decide +kernel
theorem dX5_drawn_102 : decode cX5_drawn 102 = .ok (.aload_n 0, 1) := by decide +kernel
theorem dX5_drawn_103 : decode cX5_drawn 103 = .ok (.getfield 17, 3) := by decide +kernel
theorem dX5_drawn_106 : decode cX5_drawn 106 = .ok (.iconst 0, 1) := by decide +kernel
theorem dX5_drawn_107 : decode cX5_drawn 107 = .ok (.iaload, 1) := by decide +kernel
theorem dX5_drawn_108 : decode cX5_drawn 108 = .ok (.bipush 6, 2) := by decide +kernel
theorem dX5_drawn_110 : decode cX5_drawn 110 = .ok (.if_icmp .ge 18, 3) := by decide +kernel
theorem dX5_drawn_113 : decode cX5_drawn 113 = .ok (.iload_n 3, 1) := by decide +kernel
theorem dX5_drawn_114 : decode cX5_drawn 114 = .ok (.ifCond .eq 14, 3) := by decide +kernel
theorem dX5_drawn_117 : decode cX5_drawn 117 = .ok (.aload_n 0, 1) := by decide +kernel
theorem dX5_drawn_118 : decode cX5_drawn 118 = .ok (.invokevirtual 188, 3) := by decide +kernel
theorem dX5_drawn_121 : decode cX5_drawn 121 = .ok (.ifCond .eq 7, 3) := by decide +kernel
theorem dX5_drawn_124 : decode cX5_drawn 124 = .ok (.iconst 1, 1) := by decide +kernel
theorem dX5_drawn_125 : decode cX5_drawn 125 = .ok (.goto 4, 3) := by decide +kernel
theorem dX5_drawn_128 : decode cX5_drawn 128 = .ok (.iconst 0, 1) := by decide +kernel
theorem dX5_drawn_129 : decode cX5_drawn 129 = .ok (.istore 4, 2) := by decide +kernel
theorem dX5_drawn_131 : decode cX5_drawn 131 = .ok (.aload_n 0, 1) := by decide +kernel
theorem dX5_drawn_132 : decode cX5_drawn 132 = .ok (.invokevirtual 192, 3) := by decide +kernel
theorem dX5_drawn_135 : decode cX5_drawn 135 = .ok (.iload 4, 2) := by decide +kernel
theorem dX5_drawn_137 : decode cX5_drawn 137 = .ok (.ifCond .eq 7, 3) := by decide +kernel
theorem dX5_drawn_140 : decode cX5_drawn 140 = .ok (.aload_n 0, 1) := by decide +kernel
theorem dX5_drawn_141 : decode cX5_drawn 141 = .ok (.invokevirtual 195, 3) := by decide +kernel
theorem dX5_drawn_144 : decode cX5_drawn 144 = .ok (.return_, 1) := by decide +kernel
set_option maxRecDepth 20000 in
theorem ggX5_drift_X5_in : GoodIn wsX5_drift wsX5_in := goodIn_r _ [6] (by decide +kernel) (by decide +kernel)
set_option maxRecDepth 20000 in
theorem gX5_drift_X5_in : GoodIn wsX5_drift (va_wsS RX5 55 yX5_in wsX5_in) := goodIn_app (goodIn_of _ (by decide +kernel)) ggX5_drift_X5_in
set_option maxRecDepth 20000 in
theorem ggX5_drift_X5_drawn : GoodIn wsX5_drift wsX5_drawn := goodIn_r _ [10, 11, 2, 12, 13, 14, 5, 15, 16, 17, 18, 19, 20, 21, 22, 23, 24, 25, 26, 27, 28, 29, 30, 31, 32, 33, 34, 35, 36, 37, 38, 39, 40, 41, 42, 43, 44, 45, 46, 47, 48, 49, 50, 51, 52, 53, 54, 55, 56, 57, 58, 59, 60, 61, 62, 63, 64, 65, 66, 67, 68, 69, 70, 71, 72, 73, 74, 75, 76, 77, 78, 79, 80, 81, 82, 83, 84, 85, 86, 87, 88, 89, 90, 91, 92, 93, 94, 95, 96, 97, 98, 99, 100, 101, 102, 103, 104, 105, 106, 107, 108, 109, 110, 111, 112, 113, 114, 115, 116] (by decide +kernel) (by decide +kernel)
set_option maxRecDepth 20000 in
theorem gX5_drift_X5_drawn : GoodIn wsX5_drift (wsV RX5 217 RX5 yX5_drawn wsX5_drawn) := goodIn_app (goodIn_of _ (by decide +kernel)) ggX5_drift_X5_drawn
theorem dX5_drift_0 : decode cX5_drift 0 = .ok (.iload_n 1, 1) := by decide +kernel
theorem dX5_drift_1 : decode cX5_drift 1 = .ok (.iconst 1, 1) := by decide +kernel
theorem dX5_drift_2 : decode cX5_drift 2 = .ok (.bipush 20, 2) := by decide +kernel
theorem dX5_drift_4 : decode cX5_drift 4 = .ok (.invokestatic 55, 3) := by decide +kernel
theorem dX5_drift_7 : decode cX5_drift 7 = .ok (.ifCond .ne 6, 3) := by decide +kernel
theorem dX5_drift_10 : decode cX5_drift 10 = .ok (.ldc 59, 2) := by decide +kernel
theorem dX5_drift_12 : decode cX5_drift 12 = .ok (.ireturn, 1) := by decide +kernel
theorem dX5_drift_13 : decode cX5_drift 13 = .ok (.iconst 0, 1) := by decide +kernel
theorem dX5_drift_14 : decode cX5_drift 14 = .ok (.istore_n 2, 1) := by decide +kernel
theorem dX5_drift_15 : decode cX5_drift 15 = .ok (.iload_n 2, 1) := by decide +kernel
theorem dX5_drift_16 : decode cX5_drift 16 = .ok (.iload_n 1, 1) := by decide +kernel
theorem dX5_drift_17 : decode cX5_drift 17 = .ok (.if_icmp .ge 13, 3) := by decide +kernel
theorem dX5_drift_20 : decode cX5_drift 20 = .ok (.aload_n 0, 1) := by decide +kernel
theorem dX5_drift_21 : decode cX5_drift 21 = .ok (.invokevirtual 217, 3) := by decide +kernel
theorem dX5_drift_24 : decode cX5_drift 24 = .ok (.iinc 2 1, 3) := by decide +kernel
theorem dX5_drift_27 : decode cX5_drift 27 = .ok (.goto (-12), 3) := by decide +kernel
theorem dX5_drift_30 : decode cX5_drift 30 = .ok (.aload_n 0, 1) := by decide +kernel
theorem dX5_drift_31 : decode cX5_drift 31 = .ok (.getfield 17, 3) := by decide +kernel
theorem dX5_drift_34 : decode cX5_drift 34 = .ok (.iconst 0, 1) := by decide +kernel
theorem dX5_drift_35 : decode cX5_drift 35 = .ok (.iaload, 1) := by decide +kernel
theorem dX5_drift_36 : decode cX5_drift 36 = .ok (.ireturn, 1) := by decide +kernel
set_option maxRecDepth 20000 in
theorem ggX5_undo_X5_in : GoodIn wsX5_undo wsX5_in := goodIn_r _ [9] (by decide +kernel) (by decide +kernel)
set_option maxRecDepth 20000 in
theorem gX5_undo_X5_in : GoodIn wsX5_undo (va_wsS RX5 55 yX5_in wsX5_in) := goodIn_app (goodIn_of _ (by decide +kernel)) ggX5_undo_X5_in
set_option maxRecDepth 20000 in
theorem ggX5_undo_X5_bring : GoodIn wsX5_undo wsX5_bring := goodIn_r _ [12] (by decide +kernel) (by decide +kernel)
set_option maxRecDepth 20000 in
theorem gX5_undo_X5_bring : GoodIn wsX5_undo (va_wsS RX5 90 yX5_bring wsX5_bring) := goodIn_app (goodIn_of _ (by decide +kernel)) ggX5_undo_X5_bring
theorem dX5_undo_0 : decode cX5_undo 0 = .ok (.iload_n 1, 1) := by decide +kernel
theorem dX5_undo_1 : decode cX5_undo 1 = .ok (.iconst 1, 1) := by decide +kernel
theorem dX5_undo_2 : decode cX5_undo 2 = .ok (.bipush 20, 2) := by decide +kernel
theorem dX5_undo_4 : decode cX5_undo 4 = .ok (.invokestatic 55, 3) := by decide +kernel
theorem dX5_undo_7 : decode cX5_undo 7 = .ok (.ifCond .ne 6, 3) := by decide +kernel
theorem dX5_undo_10 : decode cX5_undo 10 = .ok (.ldc 59, 2) := by decide +kernel
theorem dX5_undo_12 : decode cX5_undo 12 = .ok (.ireturn, 1) := by decide +kernel
theorem dX5_undo_13 : decode cX5_undo 13 = .ok (.iload_n 1, 1) := by decide +kernel
theorem dX5_undo_14 : decode cX5_undo 14 = .ok (.aload_n 0, 1) := by decide +kernel
theorem dX5_undo_15 : decode cX5_undo 15 = .ok (.getfield 181, 3) := by decide +kernel
theorem dX5_undo_18 : decode cX5_undo 18 = .ok (.if_icmp .le 6, 3) := by decide +kernel
theorem dX5_undo_21 : decode cX5_undo 21 = .ok (.ldc 191, 2) := by decide +kernel
theorem dX5_undo_23 : decode cX5_undo 23 = .ok (.ireturn, 1) := by decide +kernel
theorem dX5_undo_24 : decode cX5_undo 24 = .ok (.aload_n 0, 1) := by decide +kernel
theorem dX5_undo_25 : decode cX5_undo 25 = .ok (.dup, 1) := by decide +kernel
theorem dX5_undo_26 : decode cX5_undo 26 = .ok (.getfield 181, 3) := by decide +kernel
theorem dX5_undo_29 : decode cX5_undo 29 = .ok (.iload_n 1, 1) := by decide +kernel
theorem dX5_undo_30 : decode cX5_undo 30 = .ok (.isub, 1) := by decide +kernel
theorem dX5_undo_31 : decode cX5_undo 31 = .ok (.putfield 181, 3) := by decide +kernel
theorem dX5_undo_34 : decode cX5_undo 34 = .ok (.aload_n 0, 1) := by decide +kernel
theorem dX5_undo_35 : decode cX5_undo 35 = .ok (.getfield 20, 3) := by decide +kernel
theorem dX5_undo_38 : decode cX5_undo 38 = .ok (.bipush 69, 2) := by decide +kernel
theorem dX5_undo_40 : decode cX5_undo 40 = .ok (.aload_n 0, 1) := by decide +kernel
theorem dX5_undo_41 : decode cX5_undo 41 = .ok (.getfield 181, 3) := by decide +kernel
theorem dX5_undo_44 : decode cX5_undo 44 = .ok (.imul, 1) := by decide +kernel
theorem dX5_undo_45 : decode cX5_undo 45 = .ok (.aload_n 0, 1) := by decide +kernel
theorem dX5_undo_46 : decode cX5_undo 46 = .ok (.getfield 17, 3) := by decide +kernel
theorem dX5_undo_49 : decode cX5_undo 49 = .ok (.iconst 0, 1) := by decide +kernel
theorem dX5_undo_50 : decode cX5_undo 50 = .ok (.bipush 69, 2) := by decide +kernel
theorem dX5_undo_52 : decode cX5_undo 52 = .ok (.invokestatic 90, 3) := by decide +kernel
theorem dX5_undo_55 : decode cX5_undo 55 = .ok (.aload_n 0, 1) := by decide +kernel
theorem dX5_undo_56 : decode cX5_undo 56 = .ok (.getfield 17, 3) := by decide +kernel
theorem dX5_undo_59 : decode cX5_undo 59 = .ok (.iconst 0, 1) := by decide +kernel
theorem dX5_undo_60 : decode cX5_undo 60 = .ok (.iaload, 1) := by decide +kernel
theorem dX5_undo_61 : decode cX5_undo 61 = .ok (.ireturn, 1) := by decide +kernel
set_option maxRecDepth 20000 in
theorem ggX5_saying_X5_in : GoodIn wsX5_saying wsX5_in := goodIn_r _ [7] (by decide +kernel) (by decide +kernel)
set_option maxRecDepth 20000 in
theorem gX5_saying_X5_in : GoodIn wsX5_saying (va_wsS RX5 55 yX5_in wsX5_in) := goodIn_app (goodIn_of _ (by decide +kernel)) ggX5_saying_X5_in
set_option maxRecDepth 20000 in
theorem ggX5_saying_X5_isSpare : GoodIn wsX5_saying wsX5_isSpare := goodIn_r _ [11, 1, 12, 13, 14, 6, 15, 16, 17, 18, 19, 20, 21, 22, 23, 24, 25, 26, 27, 28, 29, 30, 31, 32, 33, 34, 35, 36, 37, 38, 39, 40, 41, 42, 43, 44, 45, 46, 47, 48, 49, 50, 51, 52, 53, 54, 55, 56, 57, 58, 59, 60, 61, 62, 63, 64, 65, 66, 67, 68, 69, 70, 71, 72, 73, 74, 75, 76, 77, 78, 79, 80, 81, 82, 83, 84, 85, 86, 87, 88, 89, 90, 91, 92, 93, 94] (by decide +kernel) (by decide +kernel)
set_option maxRecDepth 20000 in
theorem gX5_saying_X5_isSpare : GoodIn wsX5_saying (wsV RX5 162 RX5 yX5_isSpare wsX5_isSpare) := goodIn_app (goodIn_of _ (by decide +kernel)) ggX5_saying_X5_isSpare
theorem dX5_saying_0 : decode cX5_saying 0 = .ok (.iload_n 1, 1) := by decide +kernel
theorem dX5_saying_1 : decode cX5_saying 1 = .ok (.iconst 0, 1) := by decide +kernel
theorem dX5_saying_2 : decode cX5_saying 2 = .ok (.aload_n 0, 1) := by decide +kernel
theorem dX5_saying_3 : decode cX5_saying 3 = .ok (.getfield 17, 3) := by decide +kernel
theorem dX5_saying_6 : decode cX5_saying 6 = .ok (.iconst 0, 1) := by decide +kernel
theorem dX5_saying_7 : decode cX5_saying 7 = .ok (.iaload, 1) := by decide +kernel
theorem dX5_saying_8 : decode cX5_saying 8 = .ok (.iconst 1, 1) := by decide +kernel
theorem dX5_saying_9 : decode cX5_saying 9 = .ok (.isub, 1) := by decide +kernel
theorem dX5_saying_10 : decode cX5_saying 10 = .ok (.invokestatic 55, 3) := by decide +kernel
theorem dX5_saying_13 : decode cX5_saying 13 = .ok (.ifCond .ne 6, 3) := by decide +kernel
theorem dX5_saying_16 : decode cX5_saying 16 = .ok (.ldc 198, 2) := by decide +kernel
theorem dX5_saying_18 : decode cX5_saying 18 = .ok (.ireturn, 1) := by decide +kernel
theorem dX5_saying_19 : decode cX5_saying 19 = .ok (.iload_n 2, 1) := by decide +kernel
theorem dX5_saying_20 : decode cX5_saying 20 = .ok (.iconst 0, 1) := by decide +kernel
theorem dX5_saying_21 : decode cX5_saying 21 = .ok (.bipush 10, 2) := by decide +kernel
theorem dX5_saying_23 : decode cX5_saying 23 = .ok (.invokestatic 55, 3) := by decide +kernel
theorem dX5_saying_26 : decode cX5_saying 26 = .ok (.ifCond .ne 6, 3) := by decide +kernel
theorem dX5_saying_29 : decode cX5_saying 29 = .ok (.ldc 59, 2) := by decide +kernel
theorem dX5_saying_31 : decode cX5_saying 31 = .ok (.ireturn, 1) := by decide +kernel
theorem dX5_saying_32 : decode cX5_saying 32 = .ok (.iload_n 2, 1) := by decide +kernel
theorem dX5_saying_33 : decode cX5_saying 33 = .ok (.bipush 10, 2) := by decide +kernel
theorem dX5_saying_35 : decode cX5_saying 35 = .ok (.if_icmp .ne 19, 3) := by decide +kernel
theorem dX5_saying_38 : decode cX5_saying 38 = .ok (.aload_n 0, 1) := by decide +kernel
theorem dX5_saying_39 : decode cX5_saying 39 = .ok (.iload_n 1, 1) := by decide +kernel
theorem dX5_saying_40 : decode cX5_saying 40 = .ok (.invokevirtual 162, 3) := by decide +kernel
theorem dX5_saying_43 : decode cX5_saying 43 = .ok (.ifCond .eq 7, 3) := by decide +kernel
theorem dX5_saying_46 : decode cX5_saying 46 = .ok (.iconst 1, 1) := by decide +kernel
theorem dX5_saying_47 : decode cX5_saying 47 = .ok (.goto 23, 3) := by decide +kernel
theorem dX5_saying_50 : decode cX5_saying 50 = .ok (.iconst 0, 1) := by decide +kernel
theorem dX5_saying_51 : decode cX5_saying 51 = .ok (.goto 19, 3) := by decide +kernel
theorem dX5_saying_54 : decode cX5_saying 54 = .ok (.aload_n 0, 1) := by decide +kernel
theorem dX5_saying_55 : decode cX5_saying 55 = .ok (.getfield 17, 3) := by decide +kernel
theorem dX5_saying_58 : decode cX5_saying 58 = .ok (.iconst 1, 1) := by decide +kernel
theorem dX5_saying_59 : decode cX5_saying 59 = .ok (.bipush 10, 2) := by decide +kernel
theorem dX5_saying_61 : decode cX5_saying 61 = .ok (.iload_n 1, 1) := by decide +kernel
theorem dX5_saying_62 : decode cX5_saying 62 = .ok (.imul, 1) := by decide +kernel
theorem dX5_saying_63 : decode cX5_saying 63 = .ok (.iadd, 1) := by decide +kernel
theorem dX5_saying_64 : decode cX5_saying 64 = .ok (.iload_n 2, 1) := by decide +kernel
theorem dX5_saying_65 : decode cX5_saying 65 = .ok (.iadd, 1) := by decide +kernel
theorem dX5_saying_66 : decode cX5_saying 66 = .ok (.iaload, 1) := by decide +kernel
theorem dX5_saying_67 : decode cX5_saying 67 = .ok (.bipush 100, 2) := by decide +kernel
theorem dX5_saying_69 : decode cX5_saying 69 = .ok (.iadd, 1) := by decide +kernel
theorem dX5_saying_70 : decode cX5_saying 70 = .ok (.ireturn, 1) := by decide +kernel
set_option maxRecDepth 20000 in
theorem ggX5_free_X5_allOf : GoodIn wsX5_free wsX5_allOf := goodIn_r _ [10, 11, 67, 68, 69, 70, 71, 72, 73, 74, 75, 76, 77, 78, 79, 80, 81, 82, 83, 84, 85, 86, 87] (by decide +kernel) (by decide +kernel)
set_option maxRecDepth 20000 in
theorem gX5_free_X5_allOf : GoodIn wsX5_free (wsV RX5 153 RX5 yX5_allOf wsX5_allOf) := goodIn_app (goodIn_of _ (by decide +kernel)) ggX5_free_X5_allOf
set_option maxRecDepth 20000 in
theorem ggX5_free_X5_solves : GoodIn wsX5_free wsX5_solves := goodIn_r _ [15, 11, 16, 17, 18, 9, 19, 1, 3, 20, 21, 22, 23, 24, 25, 26, 27, 28, 29, 30, 31, 32, 33, 34, 35, 36, 37, 38, 39, 40, 41, 42, 43, 44, 45, 46, 47, 48, 49, 50, 51, 52, 53, 54, 55, 56, 57, 58, 59, 60, 61, 62, 63, 67, 68, 69, 70, 71, 72, 73, 74, 75, 76, 77, 78, 79, 80, 81, 82, 83, 84, 85, 86, 87] (by decide +kernel) (by decide +kernel)
set_option maxRecDepth 20000 in
theorem gX5_free_X5_solves : GoodIn wsX5_free (wsV RX5 156 RX5 yX5_solves wsX5_solves) := goodIn_app (goodIn_of _ (by decide +kernel)) ggX5_free_X5_solves
set_option maxRecDepth 20000 in
theorem ggX5_free_X5_in : GoodIn wsX5_free wsX5_in := goodIn_r _ [66] (by decide +kernel) (by decide +kernel)
set_option maxRecDepth 20000 in
theorem gX5_free_X5_in : GoodIn wsX5_free (va_wsS RX5 55 yX5_in wsX5_in) := goodIn_app (goodIn_of _ (by decide +kernel)) ggX5_free_X5_in
theorem dX5_free_0 : decode cX5_free 0 = .ok (.aload_n 0, 1) := by decide +kernel
theorem dX5_free_1 : decode cX5_free 1 = .ok (.aload_n 0, 1) := by decide +kernel
theorem dX5_free_2 : decode cX5_free 2 = .ok (.invokevirtual 153, 3) := by decide +kernel
theorem dX5_free_5 : decode cX5_free 5 = .ok (.invokevirtual 156, 3) := by decide +kernel
theorem dX5_free_8 : decode cX5_free 8 = .ok (.iload_n 1, 1) := by decide +kernel
theorem dX5_free_9 : decode cX5_free 9 = .ok (.iconst 0, 1) := by decide +kernel
theorem dX5_free_10 : decode cX5_free 10 = .ok (.aload_n 0, 1) := by decide +kernel
theorem dX5_free_11 : decode cX5_free 11 = .ok (.getfield 104, 3) := by decide +kernel
theorem dX5_free_14 : decode cX5_free 14 = .ok (.iconst 1, 1) := by decide +kernel
theorem dX5_free_15 : decode cX5_free 15 = .ok (.isub, 1) := by decide +kernel
theorem dX5_free_16 : decode cX5_free 16 = .ok (.invokestatic 55, 3) := by decide +kernel
theorem dX5_free_19 : decode cX5_free 19 = .ok (.ifCond .ne 7, 3) := by decide +kernel
theorem dX5_free_22 : decode cX5_free 22 = .ok (.ldc2_w 220, 3) := by decide +kernel
theorem dX5_free_25 : decode cX5_free 25 = .ok (.lreturn, 1) := by decide +kernel
theorem dX5_free_26 : decode cX5_free 26 = .ok (.iload_n 2, 1) := by decide +kernel
theorem dX5_free_27 : decode cX5_free 27 = .ok (.iconst 0, 1) := by decide +kernel
theorem dX5_free_28 : decode cX5_free 28 = .ok (.iconst 5, 1) := by decide +kernel
theorem dX5_free_29 : decode cX5_free 29 = .ok (.invokestatic 55, 3) := by decide +kernel
theorem dX5_free_32 : decode cX5_free 32 = .ok (.ifCond .eq 21, 3) := by decide +kernel
theorem dX5_free_35 : decode cX5_free 35 = .ok (.aload_n 0, 1) := by decide +kernel
theorem dX5_free_36 : decode cX5_free 36 = .ok (.getfield 46, 3) := by decide +kernel
theorem dX5_free_39 : decode cX5_free 39 = .ok (.bipush 6, 2) := by decide +kernel
theorem dX5_free_41 : decode cX5_free 41 = .ok (.iload_n 1, 1) := by decide +kernel
theorem dX5_free_42 : decode cX5_free 42 = .ok (.imul, 1) := by decide +kernel
theorem dX5_free_43 : decode cX5_free 43 = .ok (.iload_n 2, 1) := by decide +kernel
theorem dX5_free_44 : decode cX5_free 44 = .ok (.iadd, 1) := by decide +kernel
theorem dX5_free_45 : decode cX5_free 45 = .ok (.laload, 1) := by decide +kernel
theorem dX5_free_46 : decode cX5_free 46 = .ok (.ldc2_w 222, 3) := by decide +kernel
theorem dX5_free_49 : decode cX5_free 49 = .ok (.ladd, 1) := by decide +kernel
theorem dX5_free_50 : decode cX5_free 50 = .ok (.goto 6, 3) := by decide +kernel
theorem dX5_free_53 : decode cX5_free 53 = .ok (.ldc2_w 224, 3) := by decide +kernel
theorem dX5_free_56 : decode cX5_free 56 = .ok (.lreturn, 1) := by decide +kernel
set_option maxRecDepth 20000 in
theorem ggX5_isUnknown_X5_in : GoodIn wsX5_isUnknown wsX5_in := goodIn_r _ [4] (by decide +kernel) (by decide +kernel)
set_option maxRecDepth 20000 in
theorem gX5_isUnknown_X5_in : GoodIn wsX5_isUnknown (va_wsS RX5 55 yX5_in wsX5_in) := goodIn_app (goodIn_of _ (by decide +kernel)) ggX5_isUnknown_X5_in
theorem dX5_isUnknown_0 : decode cX5_isUnknown 0 = .ok (.iload_n 0, 1) := by decide +kernel
theorem dX5_isUnknown_1 : decode cX5_isUnknown 1 = .ok (.iconst 0, 1) := by decide +kernel
theorem dX5_isUnknown_2 : decode cX5_isUnknown 2 = .ok (.iconst 5, 1) := by decide +kernel
theorem dX5_isUnknown_3 : decode cX5_isUnknown 3 = .ok (.invokestatic 55, 3) := by decide +kernel
theorem dX5_isUnknown_6 : decode cX5_isUnknown 6 = .ok (.ireturn, 1) := by decide +kernel
set_option maxRecDepth 20000 in
theorem ggX5_least_X5_isUnknown : GoodIn wsX5_least wsX5_isUnknown := goodIn_r _ [7, 8, 9, 6, 10] (by decide +kernel) (by decide +kernel)
set_option maxRecDepth 20000 in
theorem gX5_least_X5_isUnknown : GoodIn wsX5_least (va_wsS RX5 226 yX5_isUnknown wsX5_isUnknown) := goodIn_app (goodIn_of _ (by decide +kernel)) ggX5_least_X5_isUnknown
set_option maxRecDepth 20000 in
theorem ggX5_least_X5_isBase : GoodIn wsX5_least wsX5_isBase := goodIn_r _ [13, 8, 9, 6, 10] (by decide +kernel) (by decide +kernel)
set_option maxRecDepth 20000 in
theorem gX5_least_X5_isBase : GoodIn wsX5_least (va_wsS RX5 199 yX5_isBase wsX5_isBase) := goodIn_app (goodIn_of _ (by decide +kernel)) ggX5_least_X5_isBase
set_option maxRecDepth 20000 in
theorem ggX5_least_X5_allOf : GoodIn wsX5_least wsX5_allOf := goodIn_r _ [17, 18, 72, 73, 74, 75, 76, 77, 78, 79, 80, 81, 82, 83, 84, 85, 86, 87, 88, 89, 90, 91, 92] (by decide +kernel) (by decide +kernel)
set_option maxRecDepth 20000 in
theorem gX5_least_X5_allOf : GoodIn wsX5_least (wsV RX5 153 RX5 yX5_allOf wsX5_allOf) := goodIn_app (goodIn_of _ (by decide +kernel)) ggX5_least_X5_allOf
set_option maxRecDepth 20000 in
theorem ggX5_least_X5_solves : GoodIn wsX5_least wsX5_solves := goodIn_r _ [22, 18, 23, 24, 25, 6, 26, 27, 28, 2, 29, 30, 31, 32, 33, 34, 35, 36, 37, 38, 39, 40, 41, 42, 43, 44, 45, 46, 47, 48, 49, 50, 51, 52, 53, 54, 55, 56, 57, 58, 59, 60, 61, 62, 63, 64, 65, 66, 67, 68, 69, 70, 71, 72, 73, 74, 75, 76, 77, 78, 79, 80, 81, 82, 83, 84, 85, 86, 87, 88, 89, 90, 91, 92] (by decide +kernel) (by decide +kernel)
set_option maxRecDepth 20000 in
theorem gX5_least_X5_solves : GoodIn wsX5_least (wsV RX5 156 RX5 yX5_solves wsX5_solves) := goodIn_app (goodIn_of _ (by decide +kernel)) ggX5_least_X5_solves
theorem dX5_least_0 : decode cX5_least 0 = .ok (.iload_n 1, 1) := by decide +kernel
theorem dX5_least_1 : decode cX5_least 1 = .ok (.invokestatic 226, 3) := by decide +kernel
theorem dX5_least_4 : decode cX5_least 4 = .ok (.ifCond .eq 10, 3) := by decide +kernel
theorem dX5_least_7 : decode cX5_least 7 = .ok (.iload_n 2, 1) := by decide +kernel
theorem dX5_least_8 : decode cX5_least 8 = .ok (.invokestatic 199, 3) := by decide +kernel
theorem dX5_least_11 : decode cX5_least 11 = .ok (.ifCond .ne 7, 3) := by decide +kernel
theorem dX5_least_14 : decode cX5_least 14 = .ok (.ldc2_w 220, 3) := by decide +kernel
theorem dX5_least_17 : decode cX5_least 17 = .ok (.lreturn, 1) := by decide +kernel
theorem dX5_least_18 : decode cX5_least 18 = .ok (.aload_n 0, 1) := by decide +kernel
theorem dX5_least_19 : decode cX5_least 19 = .ok (.aload_n 0, 1) := by decide +kernel
theorem dX5_least_20 : decode cX5_least 20 = .ok (.invokevirtual 153, 3) := by decide +kernel
theorem dX5_least_23 : decode cX5_least 23 = .ok (.invokevirtual 156, 3) := by decide +kernel
theorem dX5_least_26 : decode cX5_least 26 = .ok (.aload_n 0, 1) := by decide +kernel
theorem dX5_least_27 : decode cX5_least 27 = .ok (.getfield 49, 3) := by decide +kernel
theorem dX5_least_30 : decode cX5_least 30 = .ok (.bipush 6, 2) := by decide +kernel
theorem dX5_least_32 : decode cX5_least 32 = .ok (.iload_n 2, 1) := by decide +kernel
theorem dX5_least_33 : decode cX5_least 33 = .ok (.imul, 1) := by decide +kernel
theorem dX5_least_34 : decode cX5_least 34 = .ok (.iload_n 1, 1) := by decide +kernel
theorem dX5_least_35 : decode cX5_least 35 = .ok (.iadd, 1) := by decide +kernel
theorem dX5_least_36 : decode cX5_least 36 = .ok (.laload, 1) := by decide +kernel
theorem dX5_least_37 : decode cX5_least 37 = .ok (.ldc2_w 222, 3) := by decide +kernel
theorem dX5_least_40 : decode cX5_least 40 = .ok (.ladd, 1) := by decide +kernel
theorem dX5_least_41 : decode cX5_least 41 = .ok (.lreturn, 1) := by decide +kernel
set_option maxRecDepth 20000 in
theorem ggX5_isTold_X5_isUnknown : GoodIn wsX5_isTold wsX5_isUnknown := goodIn_r _ [5, 6, 7, 4, 8] (by decide +kernel) (by decide +kernel)
set_option maxRecDepth 20000 in
theorem gX5_isTold_X5_isUnknown : GoodIn wsX5_isTold (va_wsS RX5 226 yX5_isUnknown wsX5_isUnknown) := goodIn_app (goodIn_of _ (by decide +kernel)) ggX5_isTold_X5_isUnknown
set_option maxRecDepth 20000 in
theorem ggX5_isTold_X5_allOf : GoodIn wsX5_isTold wsX5_allOf := goodIn_r _ [12, 13, 72, 73, 74, 75, 76, 77, 78, 79, 80, 81, 82, 83, 84, 85, 86, 87, 88, 89, 90, 91, 92] (by decide +kernel) (by decide +kernel)
set_option maxRecDepth 20000 in
theorem gX5_isTold_X5_allOf : GoodIn wsX5_isTold (wsV RX5 153 RX5 yX5_allOf wsX5_allOf) := goodIn_app (goodIn_of _ (by decide +kernel)) ggX5_isTold_X5_allOf
set_option maxRecDepth 20000 in
theorem ggX5_isTold_X5_solves : GoodIn wsX5_isTold wsX5_solves := goodIn_r _ [17, 13, 18, 19, 20, 4, 21, 22, 23, 24, 25, 26, 27, 28, 29, 30, 31, 32, 33, 34, 35, 36, 37, 38, 39, 40, 41, 42, 43, 44, 45, 46, 47, 48, 49, 50, 51, 52, 53, 54, 55, 56, 57, 58, 59, 60, 61, 62, 63, 64, 65, 66, 67, 72, 73, 74, 75, 76, 77, 78, 79, 80, 81, 82, 83, 84, 85, 86, 87, 88, 89, 90, 91, 92] (by decide +kernel) (by decide +kernel)
set_option maxRecDepth 20000 in
theorem gX5_isTold_X5_solves : GoodIn wsX5_isTold (wsV RX5 156 RX5 yX5_solves wsX5_solves) := goodIn_app (goodIn_of _ (by decide +kernel)) ggX5_isTold_X5_solves
set_option maxRecDepth 20000 in
theorem ggX5_isTold_X5_isSure : GoodIn wsX5_isTold wsX5_isSure := goodIn_r _ [71, 22, 23, 72, 73, 74, 75, 76, 77, 78, 79, 80, 81, 82, 83, 84, 85, 86, 87, 88, 89, 90, 91, 92] (by decide +kernel) (by decide +kernel)
set_option maxRecDepth 20000 in
theorem gX5_isTold_X5_isSure : GoodIn wsX5_isTold (wsV RX5 169 RX5 yX5_isSure wsX5_isSure) := goodIn_app (goodIn_of _ (by decide +kernel)) ggX5_isTold_X5_isSure
theorem dX5_isTold_0 : decode cX5_isTold 0 = .ok (.iload_n 1, 1) := by decide +kernel
theorem dX5_isTold_1 : decode cX5_isTold 1 = .ok (.invokestatic 226, 3) := by decide +kernel
theorem dX5_isTold_4 : decode cX5_isTold 4 = .ok (.ifCond .ne 6, 3) := by decide +kernel
theorem dX5_isTold_7 : decode cX5_isTold 7 = .ok (.ldc 198, 2) := by decide +kernel
theorem dX5_isTold_9 : decode cX5_isTold 9 = .ok (.ireturn, 1) := by decide +kernel
theorem dX5_isTold_10 : decode cX5_isTold 10 = .ok (.aload_n 0, 1) := by decide +kernel
theorem dX5_isTold_11 : decode cX5_isTold 11 = .ok (.aload_n 0, 1) := by decide +kernel
theorem dX5_isTold_12 : decode cX5_isTold 12 = .ok (.invokevirtual 153, 3) := by decide +kernel
theorem dX5_isTold_15 : decode cX5_isTold 15 = .ok (.invokevirtual 156, 3) := by decide +kernel
theorem dX5_isTold_18 : decode cX5_isTold 18 = .ok (.aload_n 0, 1) := by decide +kernel
theorem dX5_isTold_19 : decode cX5_isTold 19 = .ok (.iload_n 1, 1) := by decide +kernel
theorem dX5_isTold_20 : decode cX5_isTold 20 = .ok (.invokevirtual 169, 3) := by decide +kernel
theorem dX5_isTold_23 : decode cX5_isTold 23 = .ok (.ifCond .eq 7, 3) := by decide +kernel
theorem dX5_isTold_26 : decode cX5_isTold 26 = .ok (.iconst 1, 1) := by decide +kernel
theorem dX5_isTold_27 : decode cX5_isTold 27 = .ok (.goto 4, 3) := by decide +kernel
theorem dX5_isTold_30 : decode cX5_isTold 30 = .ok (.iconst 0, 1) := by decide +kernel
theorem dX5_isTold_31 : decode cX5_isTold 31 = .ok (.ireturn, 1) := by decide +kernel
set_option maxRecDepth 20000 in
theorem ggX5_follows_X5_reads : GoodIn wsX5_follows wsX5_reads := goodIn_r _ [6, 7, 8, 9, 1, 10, 11, 12, 13, 14, 5, 15, 16, 17, 18, 19, 20, 21, 22, 23, 24, 25, 26, 27, 28, 29, 30, 31, 32, 33, 34, 35, 36, 37, 38, 39, 40, 41, 42, 43, 44, 45, 46, 47, 48, 49, 50, 51, 52, 53, 117, 118, 119, 120, 121, 122, 123, 124, 125, 126, 127, 128, 129, 130, 131, 132, 133, 134, 135, 136, 137] (by decide +kernel) (by decide +kernel)
set_option maxRecDepth 20000 in
theorem gX5_follows_X5_reads : GoodIn wsX5_follows (wsV RX5 184 RX5 yX5_reads wsX5_reads) := goodIn_app (goodIn_of _ (by decide +kernel)) ggX5_follows_X5_reads
set_option maxRecDepth 20000 in
theorem ggX5_follows_X5_allOf : GoodIn wsX5_follows wsX5_allOf := goodIn_r _ [57, 58, 117, 118, 119, 120, 121, 122, 123, 124, 125, 126, 127, 128, 129, 130, 131, 132, 133, 134, 135, 136, 137] (by decide +kernel) (by decide +kernel)
set_option maxRecDepth 20000 in
theorem gX5_follows_X5_allOf : GoodIn wsX5_follows (wsV RX5 153 RX5 yX5_allOf wsX5_allOf) := goodIn_app (goodIn_of _ (by decide +kernel)) ggX5_follows_X5_allOf
set_option maxRecDepth 20000 in
theorem ggX5_follows_X5_solves : GoodIn wsX5_follows wsX5_solves := goodIn_r _ [62, 58, 63, 64, 65, 5, 66, 67, 68, 69, 70, 71, 72, 73, 74, 75, 76, 77, 78, 79, 80, 81, 82, 83, 84, 85, 86, 87, 88, 89, 90, 91, 92, 93, 94, 95, 96, 97, 98, 99, 100, 101, 102, 103, 104, 105, 106, 107, 108, 109, 110, 111, 112, 117, 118, 119, 120, 121, 122, 123, 124, 125, 126, 127, 128, 129, 130, 131, 132, 133, 134, 135, 136, 137] (by decide +kernel) (by decide +kernel)
set_option maxRecDepth 20000 in
theorem gX5_follows_X5_solves : GoodIn wsX5_follows (wsV RX5 156 RX5 yX5_solves wsX5_solves) := goodIn_app (goodIn_of _ (by decide +kernel)) ggX5_follows_X5_solves
set_option maxRecDepth 20000 in
theorem ggX5_follows_X5_isTrue : GoodIn wsX5_follows wsX5_isTrue := goodIn_r _ [116, 67, 78, 79, 80, 5, 81, 68, 97, 98, 99, 100, 69, 117, 118, 119, 120, 121, 122, 123, 124, 125, 126, 127, 128, 129, 130, 131, 132, 133, 134, 135, 136, 137] (by decide +kernel) (by decide +kernel)
set_option maxRecDepth 20000 in
theorem gX5_follows_X5_isTrue : GoodIn wsX5_follows (wsV RX5 159 RX5 yX5_isTrue wsX5_isTrue) := goodIn_app (goodIn_of _ (by decide +kernel)) ggX5_follows_X5_isTrue
theorem dX5_follows_0 : decode cX5_follows 0 = .ok (.aload_n 0, 1) := by decide +kernel
theorem dX5_follows_1 : decode cX5_follows 1 = .ok (.iconst 1, 1) := by decide +kernel
theorem dX5_follows_2 : decode cX5_follows 2 = .ok (.invokevirtual 184, 3) := by decide +kernel
theorem dX5_follows_5 : decode cX5_follows 5 = .ok (.istore_n 1, 1) := by decide +kernel
theorem dX5_follows_6 : decode cX5_follows 6 = .ok (.iload_n 1, 1) := by decide +kernel
theorem dX5_follows_7 : decode cX5_follows 7 = .ok (.ifCond .eq 8, 3) := by decide +kernel
theorem dX5_follows_10 : decode cX5_follows 10 = .ok (.bipush (-10), 2) := by decide +kernel
theorem dX5_follows_12 : decode cX5_follows 12 = .ok (.iload_n 1, 1) := by decide +kernel
theorem dX5_follows_13 : decode cX5_follows 13 = .ok (.isub, 1) := by decide +kernel
theorem dX5_follows_14 : decode cX5_follows 14 = .ok (.ireturn, 1) := by decide +kernel
theorem dX5_follows_15 : decode cX5_follows 15 = .ok (.aload_n 0, 1) := by decide +kernel
theorem dX5_follows_16 : decode cX5_follows 16 = .ok (.aload_n 0, 1) := by decide +kernel
theorem dX5_follows_17 : decode cX5_follows 17 = .ok (.invokevirtual 153, 3) := by decide +kernel
theorem dX5_follows_20 : decode cX5_follows 20 = .ok (.invokevirtual 156, 3) := by decide +kernel
theorem dX5_follows_23 : decode cX5_follows 23 = .ok (.aload_n 0, 1) := by decide +kernel
theorem dX5_follows_24 : decode cX5_follows 24 = .ok (.aload_n 0, 1) := by decide +kernel
theorem dX5_follows_25 : decode cX5_follows 25 = .ok (.getfield 43, 3) := by decide +kernel
theorem dX5_follows_28 : decode cX5_follows 28 = .ok (.iconst 0, 1) := by decide +kernel
theorem dX5_follows_29 : decode cX5_follows 29 = .ok (.invokevirtual 159, 3) := by decide +kernel
theorem dX5_follows_32 : decode cX5_follows 32 = .ok (.ifCond .eq 7, 3) := by decide +kernel
theorem dX5_follows_35 : decode cX5_follows 35 = .ok (.iconst 1, 1) := by decide +kernel
theorem dX5_follows_36 : decode cX5_follows 36 = .ok (.goto 4, 3) := by decide +kernel
theorem dX5_follows_39 : decode cX5_follows 39 = .ok (.iconst 0, 1) := by decide +kernel
theorem dX5_follows_40 : decode cX5_follows 40 = .ok (.ireturn, 1) := by decide +kernel
set_option maxRecDepth 20000 in
theorem ggX5_couldBe_X5_reads : GoodIn wsX5_couldBe wsX5_reads := goodIn_r _ [5, 6, 7, 8, 9, 10, 11, 12, 13, 14, 4, 15, 16, 17, 18, 19, 20, 21, 22, 23, 24, 25, 26, 27, 28, 29, 30, 31, 32, 33, 34, 35, 36, 37, 38, 39, 40, 41, 42, 43, 44, 45, 46, 47, 48, 49, 50, 51, 52, 53, 117, 118, 119, 120, 121, 122, 123, 124, 125, 126, 127, 128, 129, 130, 131, 132, 133, 134, 135, 136, 137] (by decide +kernel) (by decide +kernel)
set_option maxRecDepth 20000 in
theorem gX5_couldBe_X5_reads : GoodIn wsX5_couldBe (wsV RX5 184 RX5 yX5_reads wsX5_reads) := goodIn_app (goodIn_of _ (by decide +kernel)) ggX5_couldBe_X5_reads
set_option maxRecDepth 20000 in
theorem ggX5_couldBe_X5_mayBe : GoodIn wsX5_couldBe wsX5_mayBe := goodIn_r _ [57, 9, 58, 59, 60, 4, 61, 62, 63, 64, 65, 66, 67, 68, 69, 70, 71, 72, 73, 74, 75, 76, 77, 78, 79, 80, 81, 82, 83, 84, 85, 86, 87, 88, 89, 90, 91, 92, 93, 94, 95, 96, 97, 98, 99, 100, 101, 102, 103, 104, 105, 106, 107, 108, 109, 110, 111, 112, 113, 114, 115, 116, 117, 118, 119, 120, 121, 122, 123, 124, 125, 126, 127, 128, 129, 130, 131, 132, 133, 134, 135, 136, 137] (by decide +kernel) (by decide +kernel)
set_option maxRecDepth 20000 in
theorem gX5_couldBe_X5_mayBe : GoodIn wsX5_couldBe (wsV RX5 188 RX5 yX5_mayBe wsX5_mayBe) := goodIn_app (goodIn_of _ (by decide +kernel)) ggX5_couldBe_X5_mayBe
theorem dX5_couldBe_0 : decode cX5_couldBe 0 = .ok (.aload_n 0, 1) := by decide +kernel
theorem dX5_couldBe_1 : decode cX5_couldBe 1 = .ok (.iconst 1, 1) := by decide +kernel
theorem dX5_couldBe_2 : decode cX5_couldBe 2 = .ok (.invokevirtual 184, 3) := by decide +kernel
theorem dX5_couldBe_5 : decode cX5_couldBe 5 = .ok (.istore_n 1, 1) := by decide +kernel
theorem dX5_couldBe_6 : decode cX5_couldBe 6 = .ok (.iload_n 1, 1) := by decide +kernel
theorem dX5_couldBe_7 : decode cX5_couldBe 7 = .ok (.ifCond .eq 10, 3) := by decide +kernel
theorem dX5_couldBe_10 : decode cX5_couldBe 10 = .ok (.bipush (-10), 2) := by decide +kernel
theorem dX5_couldBe_12 : decode cX5_couldBe 12 = .ok (.iload_n 1, 1) := by decide +kernel
theorem dX5_couldBe_13 : decode cX5_couldBe 13 = .ok (.isub, 1) := by decide +kernel
theorem dX5_couldBe_14 : decode cX5_couldBe 14 = .ok (.goto 15, 3) := by decide +kernel
theorem dX5_couldBe_17 : decode cX5_couldBe 17 = .ok (.aload_n 0, 1) := by decide +kernel
theorem dX5_couldBe_18 : decode cX5_couldBe 18 = .ok (.invokevirtual 188, 3) := by decide +kernel
theorem dX5_couldBe_21 : decode cX5_couldBe 21 = .ok (.ifCond .eq 7, 3) := by decide +kernel
theorem dX5_couldBe_24 : decode cX5_couldBe 24 = .ok (.iconst 1, 1) := by decide +kernel
theorem dX5_couldBe_25 : decode cX5_couldBe 25 = .ok (.goto 4, 3) := by decide +kernel
theorem dX5_couldBe_28 : decode cX5_couldBe 28 = .ok (.iconst 0, 1) := by decide +kernel
theorem dX5_couldBe_29 : decode cX5_couldBe 29 = .ok (.ireturn, 1) := by decide +kernel
set_option maxRecDepth 20000 in
theorem ggX5_measured_X5_in : GoodIn wsX5_measured wsX5_in := goodIn_r _ [8] (by decide +kernel) (by decide +kernel)
set_option maxRecDepth 20000 in
theorem gX5_measured_X5_in : GoodIn wsX5_measured (va_wsS RX5 55 yX5_in wsX5_in) := goodIn_app (goodIn_of _ (by decide +kernel)) ggX5_measured_X5_in
set_option maxRecDepth 20000 in
theorem ggX5_measured_X5_reads : GoodIn wsX5_measured wsX5_reads := goodIn_r _ [12, 13, 14, 15, 2, 16, 17, 18, 19, 20, 7, 21, 22, 23, 24, 25, 26, 27, 28, 29, 30, 31, 32, 33, 34, 35, 36, 37, 5, 6, 8, 38, 39, 40, 41, 42, 43, 44, 45, 46, 47, 48, 49, 50, 51, 52, 53, 54, 55, 56, 115, 116, 117, 118, 119, 120, 121, 122, 123, 124, 125, 126, 127, 128, 129, 130, 131, 132, 133, 134, 135] (by decide +kernel) (by decide +kernel)
set_option maxRecDepth 20000 in
theorem gX5_measured_X5_reads : GoodIn wsX5_measured (wsV RX5 184 RX5 yX5_reads wsX5_reads) := goodIn_app (goodIn_of _ (by decide +kernel)) ggX5_measured_X5_reads
set_option maxRecDepth 20000 in
theorem ggX5_measured_X5_allOf : GoodIn wsX5_measured wsX5_allOf := goodIn_r _ [60, 61, 115, 116, 117, 118, 119, 120, 121, 122, 123, 124, 125, 126, 127, 128, 129, 130, 131, 132, 133, 134, 135] (by decide +kernel) (by decide +kernel)
set_option maxRecDepth 20000 in
theorem gX5_measured_X5_allOf : GoodIn wsX5_measured (wsV RX5 153 RX5 yX5_allOf wsX5_allOf) := goodIn_app (goodIn_of _ (by decide +kernel)) ggX5_measured_X5_allOf
set_option maxRecDepth 20000 in
theorem ggX5_measured_X5_solves : GoodIn wsX5_measured wsX5_solves := goodIn_r _ [65, 61, 66, 67, 68, 7, 69, 4, 70, 71, 72, 73, 74, 75, 76, 77, 78, 79, 80, 81, 82, 83, 84, 85, 86, 87, 88, 89, 90, 91, 92, 93, 94, 95, 96, 97, 98, 99, 100, 101, 102, 103, 104, 105, 106, 107, 108, 109, 110, 111, 112, 113, 114, 115, 116, 117, 118, 119, 120, 121, 122, 123, 124, 125, 126, 127, 128, 129, 130, 131, 132, 133, 134, 135] (by decide +kernel) (by decide +kernel)
set_option maxRecDepth 20000 in
theorem gX5_measured_X5_solves : GoodIn wsX5_measured (wsV RX5 156 RX5 yX5_solves wsX5_solves) := goodIn_app (goodIn_of _ (by decide +kernel)) ggX5_measured_X5_solves
set_option maxRecDepth 20000 in
theorem ggX5_measured_X5_restOf : GoodIn wsX5_measured wsX5_restOf := goodIn_r _ [102, 71, 115, 116, 117, 118, 119, 120, 121, 122, 123, 124, 125, 126, 127, 128, 129, 130, 131, 132, 133, 134, 135] (by decide +kernel) (by decide +kernel)
set_option maxRecDepth 20000 in
theorem gX5_measured_X5_restOf : GoodIn wsX5_measured (wsV RX5 127 RX5 yX5_restOf wsX5_restOf) := goodIn_app (goodIn_of _ (by decide +kernel)) ggX5_measured_X5_restOf
set_option maxRecDepth 20000 in
theorem ggX5_measured_X5_sumOf : GoodIn wsX5_measured wsX5_sumOf := goodIn_r _ [83, 70, 115, 116, 117, 118, 119, 120, 121, 122, 123, 124, 125, 126, 127, 128, 129, 130, 131, 132, 133, 134, 135] (by decide +kernel) (by decide +kernel)
set_option maxRecDepth 20000 in
theorem gX5_measured_X5_sumOf : GoodIn wsX5_measured (wsV RX5 119 RX5 yX5_sumOf wsX5_sumOf) := goodIn_app (goodIn_of _ (by decide +kernel)) ggX5_measured_X5_sumOf
theorem dX5_measured_0 : decode cX5_measured 0 = .ok (.iload_n 1, 1) := by decide +kernel
theorem dX5_measured_1 : decode cX5_measured 1 = .ok (.iconst 0, 1) := by decide +kernel
theorem dX5_measured_2 : decode cX5_measured 2 = .ok (.bipush 9, 2) := by decide +kernel
theorem dX5_measured_4 : decode cX5_measured 4 = .ok (.invokestatic 55, 3) := by decide +kernel
theorem dX5_measured_7 : decode cX5_measured 7 = .ok (.ifCond .ne 7, 3) := by decide +kernel
theorem dX5_measured_10 : decode cX5_measured 10 = .ok (.ldc2_w 224, 3) := by decide +kernel
theorem dX5_measured_13 : decode cX5_measured 13 = .ok (.lreturn, 1) := by decide +kernel
theorem dX5_measured_14 : decode cX5_measured 14 = .ok (.aload_n 0, 1) := by decide +kernel
theorem dX5_measured_15 : decode cX5_measured 15 = .ok (.iconst 0, 1) := by decide +kernel
theorem dX5_measured_16 : decode cX5_measured 16 = .ok (.invokevirtual 184, 3) := by decide +kernel
theorem dX5_measured_19 : decode cX5_measured 19 = .ok (.istore_n 2, 1) := by decide +kernel
theorem dX5_measured_20 : decode cX5_measured 20 = .ok (.iload_n 2, 1) := by decide +kernel
theorem dX5_measured_21 : decode cX5_measured 21 = .ok (.ifCond .eq 9, 3) := by decide +kernel
theorem dX5_measured_24 : decode cX5_measured 24 = .ok (.bipush (-10), 2) := by decide +kernel
theorem dX5_measured_26 : decode cX5_measured 26 = .ok (.iload_n 2, 1) := by decide +kernel
theorem dX5_measured_27 : decode cX5_measured 27 = .ok (.isub, 1) := by decide +kernel
theorem dX5_measured_28 : decode cX5_measured 28 = .ok (.i2l, 1) := by decide +kernel
theorem dX5_measured_29 : decode cX5_measured 29 = .ok (.lreturn, 1) := by decide +kernel
theorem dX5_measured_30 : decode cX5_measured 30 = .ok (.aload_n 0, 1) := by decide +kernel
theorem dX5_measured_31 : decode cX5_measured 31 = .ok (.aload_n 0, 1) := by decide +kernel
theorem dX5_measured_32 : decode cX5_measured 32 = .ok (.invokevirtual 153, 3) := by decide +kernel
theorem dX5_measured_35 : decode cX5_measured 35 = .ok (.invokevirtual 156, 3) := by decide +kernel
theorem dX5_measured_38 : decode cX5_measured 38 = .ok (.iload_n 1, 1) := by decide +kernel
theorem dX5_measured_39 : decode cX5_measured 39 = .ok (.iconst 4, 1) := by decide +kernel
theorem dX5_measured_40 : decode cX5_measured 40 = .ok (.if_icmp .ge 18, 3) := by decide +kernel
theorem dX5_measured_43 : decode cX5_measured 43 = .ok (.aload_n 0, 1) := by decide +kernel
theorem dX5_measured_44 : decode cX5_measured 44 = .ok (.aload_n 0, 1) := by decide +kernel
theorem dX5_measured_45 : decode cX5_measured 45 = .ok (.getfield 43, 3) := by decide +kernel
theorem dX5_measured_48 : decode cX5_measured 48 = .ok (.iconst 0, 1) := by decide +kernel
theorem dX5_measured_49 : decode cX5_measured 49 = .ok (.iload_n 1, 1) := by decide +kernel
theorem dX5_measured_50 : decode cX5_measured 50 = .ok (.invokevirtual 127, 3) := by decide +kernel
theorem dX5_measured_53 : decode cX5_measured 53 = .ok (.ldc2_w 222, 3) := by decide +kernel
theorem dX5_measured_56 : decode cX5_measured 56 = .ok (.ladd, 1) := by decide +kernel
theorem dX5_measured_57 : decode cX5_measured 57 = .ok (.lreturn, 1) := by decide +kernel
theorem dX5_measured_58 : decode cX5_measured 58 = .ok (.ldc2_w 222, 3) := by decide +kernel
theorem dX5_measured_61 : decode cX5_measured 61 = .ok (.iload_n 1, 1) := by decide +kernel
theorem dX5_measured_62 : decode cX5_measured 62 = .ok (.iconst 4, 1) := by decide +kernel
theorem dX5_measured_63 : decode cX5_measured 63 = .ok (.isub, 1) := by decide +kernel
theorem dX5_measured_64 : decode cX5_measured 64 = .ok (.aload_n 0, 1) := by decide +kernel
theorem dX5_measured_65 : decode cX5_measured 65 = .ok (.getfield 104, 3) := by decide +kernel
theorem dX5_measured_68 : decode cX5_measured 68 = .ok (.if_icmp .ge 18, 3) := by decide +kernel
theorem dX5_measured_71 : decode cX5_measured 71 = .ok (.aload_n 0, 1) := by decide +kernel
theorem dX5_measured_72 : decode cX5_measured 72 = .ok (.aload_n 0, 1) := by decide +kernel
theorem dX5_measured_73 : decode cX5_measured 73 = .ok (.getfield 43, 3) := by decide +kernel
theorem dX5_measured_76 : decode cX5_measured 76 = .ok (.iconst 0, 1) := by decide +kernel
theorem dX5_measured_77 : decode cX5_measured 77 = .ok (.iload_n 1, 1) := by decide +kernel
theorem dX5_measured_78 : decode cX5_measured 78 = .ok (.iconst 4, 1) := by decide +kernel
theorem dX5_measured_79 : decode cX5_measured 79 = .ok (.isub, 1) := by decide +kernel
theorem dX5_measured_80 : decode cX5_measured 80 = .ok (.invokevirtual 119, 3) := by decide +kernel
theorem dX5_measured_83 : decode cX5_measured 83 = .ok (.goto 4, 3) := by decide +kernel
theorem dX5_measured_86 : decode cX5_measured 86 = .ok (.lconst 0, 1) := by decide +kernel
theorem dX5_measured_87 : decode cX5_measured 87 = .ok (.ladd, 1) := by decide +kernel
theorem dX5_measured_88 : decode cX5_measured 88 = .ok (.lreturn, 1) := by decide +kernel
theorem dX5_madeWhole_0 : decode cX5_madeWhole 0 = .ok (.lload_n 0, 1) := by decide +kernel
theorem dX5_madeWhole_1 : decode cX5_madeWhole 1 = .ok (.lload_n 2, 1) := by decide +kernel
theorem dX5_madeWhole_2 : decode cX5_madeWhole 2 = .ok (.ldiv, 1) := by decide +kernel
theorem dX5_madeWhole_3 : decode cX5_madeWhole 3 = .ok (.lstore 5, 2) := by decide +kernel
theorem dX5_madeWhole_5 : decode cX5_madeWhole 5 = .ok (.lload_n 0, 1) := by decide +kernel
theorem dX5_madeWhole_6 : decode cX5_madeWhole 6 = .ok (.lload_n 2, 1) := by decide +kernel
theorem dX5_madeWhole_7 : decode cX5_madeWhole 7 = .ok (.lrem, 1) := by decide +kernel
theorem dX5_madeWhole_8 : decode cX5_madeWhole 8 = .ok (.lstore 7, 2) := by decide +kernel
theorem dX5_madeWhole_10 : decode cX5_madeWhole 10 = .ok (.lload 7, 2) := by decide +kernel
theorem dX5_madeWhole_12 : decode cX5_madeWhole 12 = .ok (.lconst 0, 1) := by decide +kernel
theorem dX5_madeWhole_13 : decode cX5_madeWhole 13 = .ok (.lcmp, 1) := by decide +kernel
theorem dX5_madeWhole_14 : decode cX5_madeWhole 14 = .ok (.ifCond .eq 8, 3) := by decide +kernel
theorem dX5_madeWhole_17 : decode cX5_madeWhole 17 = .ok (.iload 4, 2) := by decide +kernel
theorem dX5_madeWhole_19 : decode cX5_madeWhole 19 = .ok (.ifCond .ne 6, 3) := by decide +kernel
theorem dX5_madeWhole_22 : decode cX5_madeWhole 22 = .ok (.lload 5, 2) := by decide +kernel
theorem dX5_madeWhole_24 : decode cX5_madeWhole 24 = .ok (.lreturn, 1) := by decide +kernel
theorem dX5_madeWhole_25 : decode cX5_madeWhole 25 = .ok (.iload 4, 2) := by decide +kernel
theorem dX5_madeWhole_27 : decode cX5_madeWhole 27 = .ok (.iconst 1, 1) := by decide +kernel
theorem dX5_madeWhole_28 : decode cX5_madeWhole 28 = .ok (.if_icmp .eq 42, 3) := by decide +kernel
theorem dX5_madeWhole_31 : decode cX5_madeWhole 31 = .ok (.ldc2_w 133, 3) := by decide +kernel
theorem dX5_madeWhole_34 : decode cX5_madeWhole 34 = .ok (.lload 7, 2) := by decide +kernel
theorem dX5_madeWhole_36 : decode cX5_madeWhole 36 = .ok (.lmul, 1) := by decide +kernel
theorem dX5_madeWhole_37 : decode cX5_madeWhole 37 = .ok (.lload_n 2, 1) := by decide +kernel
theorem dX5_madeWhole_38 : decode cX5_madeWhole 38 = .ok (.lcmp, 1) := by decide +kernel
theorem dX5_madeWhole_39 : decode cX5_madeWhole 39 = .ok (.ifCond .gt 31, 3) := by decide +kernel
theorem dX5_madeWhole_42 : decode cX5_madeWhole 42 = .ok (.ldc2_w 133, 3) := by decide +kernel
theorem dX5_madeWhole_45 : decode cX5_madeWhole 45 = .ok (.lload 7, 2) := by decide +kernel
theorem dX5_madeWhole_47 : decode cX5_madeWhole 47 = .ok (.lmul, 1) := by decide +kernel
theorem dX5_madeWhole_48 : decode cX5_madeWhole 48 = .ok (.lload_n 2, 1) := by decide +kernel
theorem dX5_madeWhole_49 : decode cX5_madeWhole 49 = .ok (.lcmp, 1) := by decide +kernel
theorem dX5_madeWhole_50 : decode cX5_madeWhole 50 = .ok (.ifCond .ne 24, 3) := by decide +kernel
theorem dX5_madeWhole_53 : decode cX5_madeWhole 53 = .ok (.iload 4, 2) := by decide +kernel
theorem dX5_madeWhole_55 : decode cX5_madeWhole 55 = .ok (.iconst 2, 1) := by decide +kernel
theorem dX5_madeWhole_56 : decode cX5_madeWhole 56 = .ok (.if_icmp .eq 14, 3) := by decide +kernel
theorem dX5_madeWhole_59 : decode cX5_madeWhole 59 = .ok (.lload 5, 2) := by decide +kernel
theorem dX5_madeWhole_61 : decode cX5_madeWhole 61 = .ok (.ldc2_w 133, 3) := by decide +kernel
theorem dX5_madeWhole_64 : decode cX5_madeWhole 64 = .ok (.lrem, 1) := by decide +kernel
theorem dX5_madeWhole_65 : decode cX5_madeWhole 65 = .ok (.lconst 1, 1) := by decide +kernel
theorem dX5_madeWhole_66 : decode cX5_madeWhole 66 = .ok (.lcmp, 1) := by decide +kernel
theorem dX5_madeWhole_67 : decode cX5_madeWhole 67 = .ok (.ifCond .ne 7, 3) := by decide +kernel
theorem dX5_madeWhole_70 : decode cX5_madeWhole 70 = .ok (.iconst 1, 1) := by decide +kernel
theorem dX5_madeWhole_71 : decode cX5_madeWhole 71 = .ok (.goto 4, 3) := by decide +kernel
theorem dX5_madeWhole_74 : decode cX5_madeWhole 74 = .ok (.iconst 0, 1) := by decide +kernel
theorem dX5_madeWhole_75 : decode cX5_madeWhole 75 = .ok (.istore 9, 2) := by decide +kernel
theorem dX5_madeWhole_77 : decode cX5_madeWhole 77 = .ok (.iload 9, 2) := by decide +kernel
theorem dX5_madeWhole_79 : decode cX5_madeWhole 79 = .ok (.ifCond .eq 10, 3) := by decide +kernel
theorem dX5_madeWhole_82 : decode cX5_madeWhole 82 = .ok (.lload 5, 2) := by decide +kernel
theorem dX5_madeWhole_84 : decode cX5_madeWhole 84 = .ok (.lconst 1, 1) := by decide +kernel
theorem dX5_madeWhole_85 : decode cX5_madeWhole 85 = .ok (.ladd, 1) := by decide +kernel
theorem dX5_madeWhole_86 : decode cX5_madeWhole 86 = .ok (.goto 5, 3) := by decide +kernel
theorem dX5_madeWhole_89 : decode cX5_madeWhole 89 = .ok (.lload 5, 2) := by decide +kernel
theorem dX5_madeWhole_91 : decode cX5_madeWhole 91 = .ok (.lreturn, 1) := by decide +kernel
set_option maxRecDepth 20000 in
theorem ggX5_converted_X5_in : GoodIn wsX5_converted wsX5_in := goodIn_r _ [9] (by decide +kernel) (by decide +kernel)
set_option maxRecDepth 20000 in
theorem gX5_converted_X5_in : GoodIn wsX5_converted (va_wsS RX5 55 yX5_in wsX5_in) := goodIn_app (goodIn_of _ (by decide +kernel)) ggX5_converted_X5_in
set_option maxRecDepth 20000 in
theorem ggX5_converted_X5_reads : GoodIn wsX5_converted wsX5_reads := goodIn_r _ [13, 14, 15, 16, 3, 17, 18, 19, 20, 21, 8, 22, 23, 24, 25, 26, 27, 28, 29, 30, 31, 32, 33, 34, 35, 36, 37, 38, 6, 7, 9, 39, 40, 41, 42, 43, 44, 45, 46, 47, 48, 49, 50, 51, 52, 53, 54, 55, 56, 57, 62, 63, 64, 65, 66, 67, 68, 69, 70, 71, 72, 73, 74, 75, 76, 77, 78, 79, 80, 81, 82] (by decide +kernel) (by decide +kernel)
set_option maxRecDepth 20000 in
theorem gX5_converted_X5_reads : GoodIn wsX5_converted (wsV RX5 184 RX5 yX5_reads wsX5_reads) := goodIn_app (goodIn_of _ (by decide +kernel)) ggX5_converted_X5_reads
set_option maxRecDepth 20000 in
theorem ggX5_converted_X5_madeWhole : GoodIn wsX5_converted wsX5_madeWhole := goodIn_r _ [60, 61] (by decide +kernel) (by decide +kernel)
set_option maxRecDepth 20000 in
theorem gX5_converted_X5_madeWhole : GoodIn wsX5_converted (va_wsS RX5 232 yX5_madeWhole wsX5_madeWhole) := goodIn_app (goodIn_of _ (by decide +kernel)) ggX5_converted_X5_madeWhole
theorem dX5_converted_0 : decode cX5_converted 0 = .ok (.iload_n 1, 1) := by decide +kernel
theorem dX5_converted_1 : decode cX5_converted 1 = .ok (.iconst 0, 1) := by decide +kernel
theorem dX5_converted_2 : decode cX5_converted 2 = .ok (.ldc 229, 2) := by decide +kernel
theorem dX5_converted_4 : decode cX5_converted 4 = .ok (.invokestatic 55, 3) := by decide +kernel
theorem dX5_converted_7 : decode cX5_converted 7 = .ok (.ifCond .eq 12, 3) := by decide +kernel
theorem dX5_converted_10 : decode cX5_converted 10 = .ok (.iload_n 2, 1) := by decide +kernel
theorem dX5_converted_11 : decode cX5_converted 11 = .ok (.iconst 0, 1) := by decide +kernel
theorem dX5_converted_12 : decode cX5_converted 12 = .ok (.iconst 3, 1) := by decide +kernel
theorem dX5_converted_13 : decode cX5_converted 13 = .ok (.invokestatic 55, 3) := by decide +kernel
theorem dX5_converted_16 : decode cX5_converted 16 = .ok (.ifCond .ne 7, 3) := by decide +kernel
theorem dX5_converted_19 : decode cX5_converted 19 = .ok (.ldc2_w 224, 3) := by decide +kernel
theorem dX5_converted_22 : decode cX5_converted 22 = .ok (.lreturn, 1) := by decide +kernel
theorem dX5_converted_23 : decode cX5_converted 23 = .ok (.aload_n 0, 1) := by decide +kernel
theorem dX5_converted_24 : decode cX5_converted 24 = .ok (.iconst 0, 1) := by decide +kernel
theorem dX5_converted_25 : decode cX5_converted 25 = .ok (.invokevirtual 184, 3) := by decide +kernel
theorem dX5_converted_28 : decode cX5_converted 28 = .ok (.istore_n 3, 1) := by decide +kernel
theorem dX5_converted_29 : decode cX5_converted 29 = .ok (.iload_n 3, 1) := by decide +kernel
theorem dX5_converted_30 : decode cX5_converted 30 = .ok (.ifCond .eq 9, 3) := by decide +kernel
theorem dX5_converted_33 : decode cX5_converted 33 = .ok (.bipush (-10), 2) := by decide +kernel
theorem dX5_converted_35 : decode cX5_converted 35 = .ok (.iload_n 3, 1) := by decide +kernel
theorem dX5_converted_36 : decode cX5_converted 36 = .ok (.isub, 1) := by decide +kernel
theorem dX5_converted_37 : decode cX5_converted 37 = .ok (.i2l, 1) := by decide +kernel
theorem dX5_converted_38 : decode cX5_converted 38 = .ok (.lreturn, 1) := by decide +kernel
theorem dX5_converted_39 : decode cX5_converted 39 = .ok (.iload_n 1, 1) := by decide +kernel
theorem dX5_converted_40 : decode cX5_converted 40 = .ok (.i2l, 1) := by decide +kernel
theorem dX5_converted_41 : decode cX5_converted 41 = .ok (.lstore 4, 2) := by decide +kernel
theorem dX5_converted_43 : decode cX5_converted 43 = .ok (.lconst 1, 1) := by decide +kernel
theorem dX5_converted_44 : decode cX5_converted 44 = .ok (.lstore 6, 2) := by decide +kernel
theorem dX5_converted_46 : decode cX5_converted 46 = .ok (.iconst 0, 1) := by decide +kernel
theorem dX5_converted_47 : decode cX5_converted 47 = .ok (.istore 8, 2) := by decide +kernel
theorem dX5_converted_49 : decode cX5_converted 49 = .ok (.iload 8, 2) := by decide +kernel
theorem dX5_converted_51 : decode cX5_converted 51 = .ok (.bipush 10, 2) := by decide +kernel
theorem dX5_converted_53 : decode cX5_converted 53 = .ok (.if_icmp .ge 152, 3) := by decide +kernel
theorem dX5_converted_56 : decode cX5_converted 56 = .ok (.aload_n 0, 1) := by decide +kernel
theorem dX5_converted_57 : decode cX5_converted 57 = .ok (.getfield 43, 3) := by decide +kernel
theorem dX5_converted_60 : decode cX5_converted 60 = .ok (.iload 8, 2) := by decide +kernel
theorem dX5_converted_62 : decode cX5_converted 62 = .ok (.iaload, 1) := by decide +kernel
theorem dX5_converted_63 : decode cX5_converted 63 = .ok (.istore 9, 2) := by decide +kernel
theorem dX5_converted_65 : decode cX5_converted 65 = .ok (.iload 8, 2) := by decide +kernel
theorem dX5_converted_67 : decode cX5_converted 67 = .ok (.bipush 6, 2) := by decide +kernel
theorem dX5_converted_69 : decode cX5_converted 69 = .ok (.if_icmp .ge 11, 3) := by decide +kernel
theorem dX5_converted_72 : decode cX5_converted 72 = .ok (.iload 9, 2) := by decide +kernel
theorem dX5_converted_74 : decode cX5_converted 74 = .ok (.ifCond .eq 21, 3) := by decide +kernel
theorem dX5_converted_77 : decode cX5_converted 77 = .ok (.goto 14, 3) := by decide +kernel
theorem dX5_converted_80 : decode cX5_converted 80 = .ok (.iload 9, 2) := by decide +kernel
theorem dX5_converted_82 : decode cX5_converted 82 = .ok (.bipush (-3), 2) := by decide +kernel
theorem dX5_converted_84 : decode cX5_converted 84 = .ok (.iconst 3, 1) := by decide +kernel
theorem dX5_converted_85 : decode cX5_converted 85 = .ok (.invokestatic 55, 3) := by decide +kernel
theorem dX5_converted_88 : decode cX5_converted 88 = .ok (.ifCond .ne 7, 3) := by decide +kernel
theorem dX5_converted_91 : decode cX5_converted 91 = .ok (.ldc2_w 230, 3) := by decide +kernel
theorem dX5_converted_94 : decode cX5_converted 94 = .ok (.lreturn, 1) := by decide +kernel
theorem dX5_converted_95 : decode cX5_converted 95 = .ok (.iload 8, 2) := by decide +kernel
theorem dX5_converted_97 : decode cX5_converted 97 = .ok (.bipush 6, 2) := by decide +kernel
theorem dX5_converted_99 : decode cX5_converted 99 = .ok (.isub, 1) := by decide +kernel
theorem dX5_converted_100 : decode cX5_converted 100 = .ok (.istore 10, 2) := by decide +kernel
theorem dX5_converted_102 : decode cX5_converted 102 = .ok (.iconst 0, 1) := by decide +kernel
theorem dX5_converted_103 : decode cX5_converted 103 = .ok (.istore 11, 2) := by decide +kernel
theorem dX5_converted_105 : decode cX5_converted 105 = .ok (.iload 11, 2) := by decide +kernel
theorem dX5_converted_107 : decode cX5_converted 107 = .ok (.iload 9, 2) := by decide +kernel
theorem dX5_converted_109 : decode cX5_converted 109 = .ok (.if_icmp .ge 41, 3) := by decide +kernel
theorem dX5_converted_112 : decode cX5_converted 112 = .ok (.lload 4, 2) := by decide +kernel
theorem dX5_converted_114 : decode cX5_converted 114 = .ok (.aload_n 0, 1) := by decide +kernel
theorem dX5_converted_115 : decode cX5_converted 115 = .ok (.getfield 17, 3) := by decide +kernel
theorem dX5_converted_118 : decode cX5_converted 118 = .ok (.bipush 61, 2) := by decide +kernel
theorem dX5_converted_120 : decode cX5_converted 120 = .ok (.iload 10, 2) := by decide +kernel
theorem dX5_converted_122 : decode cX5_converted 122 = .ok (.iadd, 1) := by decide +kernel
theorem dX5_converted_123 : decode cX5_converted 123 = .ok (.iaload, 1) := by decide +kernel
theorem dX5_converted_124 : decode cX5_converted 124 = .ok (.i2l, 1) := by decide +kernel
theorem dX5_converted_125 : decode cX5_converted 125 = .ok (.lmul, 1) := by decide +kernel
theorem dX5_converted_126 : decode cX5_converted 126 = .ok (.lstore 4, 2) := by decide +kernel
theorem dX5_converted_128 : decode cX5_converted 128 = .ok (.lload 6, 2) := by decide +kernel
theorem dX5_converted_130 : decode cX5_converted 130 = .ok (.aload_n 0, 1) := by decide +kernel
theorem dX5_converted_131 : decode cX5_converted 131 = .ok (.getfield 17, 3) := by decide +kernel
theorem dX5_converted_134 : decode cX5_converted 134 = .ok (.bipush 65, 2) := by decide +kernel
theorem dX5_converted_136 : decode cX5_converted 136 = .ok (.iload 10, 2) := by decide +kernel
theorem dX5_converted_138 : decode cX5_converted 138 = .ok (.iadd, 1) := by decide +kernel
theorem dX5_converted_139 : decode cX5_converted 139 = .ok (.iaload, 1) := by decide +kernel
theorem dX5_converted_140 : decode cX5_converted 140 = .ok (.i2l, 1) := by decide +kernel
theorem dX5_converted_141 : decode cX5_converted 141 = .ok (.lmul, 1) := by decide +kernel
theorem dX5_converted_142 : decode cX5_converted 142 = .ok (.lstore 6, 2) := by decide +kernel
theorem dX5_converted_144 : decode cX5_converted 144 = .ok (.iinc 11 1, 3) := by decide +kernel
theorem dX5_converted_147 : decode cX5_converted 147 = .ok (.goto (-42), 3) := by decide +kernel
theorem dX5_converted_150 : decode cX5_converted 150 = .ok (.iconst 0, 1) := by decide +kernel
theorem dX5_converted_151 : decode cX5_converted 151 = .ok (.istore 11, 2) := by decide +kernel
theorem dX5_converted_153 : decode cX5_converted 153 = .ok (.iload 11, 2) := by decide +kernel
theorem dX5_converted_155 : decode cX5_converted 155 = .ok (.iload 9, 2) := by decide +kernel
theorem dX5_converted_157 : decode cX5_converted 157 = .ok (.ineg, 1) := by decide +kernel
theorem dX5_converted_158 : decode cX5_converted 158 = .ok (.if_icmp .ge 41, 3) := by decide +kernel
theorem dX5_converted_161 : decode cX5_converted 161 = .ok (.lload 4, 2) := by decide +kernel
theorem dX5_converted_163 : decode cX5_converted 163 = .ok (.aload_n 0, 1) := by decide +kernel
theorem dX5_converted_164 : decode cX5_converted 164 = .ok (.getfield 17, 3) := by decide +kernel
theorem dX5_converted_167 : decode cX5_converted 167 = .ok (.bipush 65, 2) := by decide +kernel
theorem dX5_converted_169 : decode cX5_converted 169 = .ok (.iload 10, 2) := by decide +kernel
theorem dX5_converted_171 : decode cX5_converted 171 = .ok (.iadd, 1) := by decide +kernel
theorem dX5_converted_172 : decode cX5_converted 172 = .ok (.iaload, 1) := by decide +kernel
theorem dX5_converted_173 : decode cX5_converted 173 = .ok (.i2l, 1) := by decide +kernel
theorem dX5_converted_174 : decode cX5_converted 174 = .ok (.lmul, 1) := by decide +kernel
theorem dX5_converted_175 : decode cX5_converted 175 = .ok (.lstore 4, 2) := by decide +kernel
theorem dX5_converted_177 : decode cX5_converted 177 = .ok (.lload 6, 2) := by decide +kernel
theorem dX5_converted_179 : decode cX5_converted 179 = .ok (.aload_n 0, 1) := by decide +kernel
theorem dX5_converted_180 : decode cX5_converted 180 = .ok (.getfield 17, 3) := by decide +kernel
theorem dX5_converted_183 : decode cX5_converted 183 = .ok (.bipush 61, 2) := by decide +kernel
theorem dX5_converted_185 : decode cX5_converted 185 = .ok (.iload 10, 2) := by decide +kernel
theorem dX5_converted_187 : decode cX5_converted 187 = .ok (.iadd, 1) := by decide +kernel
theorem dX5_converted_188 : decode cX5_converted 188 = .ok (.iaload, 1) := by decide +kernel
theorem dX5_converted_189 : decode cX5_converted 189 = .ok (.i2l, 1) := by decide +kernel
theorem dX5_converted_190 : decode cX5_converted 190 = .ok (.lmul, 1) := by decide +kernel
theorem dX5_converted_191 : decode cX5_converted 191 = .ok (.lstore 6, 2) := by decide +kernel
theorem dX5_converted_193 : decode cX5_converted 193 = .ok (.iinc 11 1, 3) := by decide +kernel
theorem dX5_converted_196 : decode cX5_converted 196 = .ok (.goto (-43), 3) := by decide +kernel
theorem dX5_converted_199 : decode cX5_converted 199 = .ok (.iinc 8 1, 3) := by decide +kernel
theorem dX5_converted_202 : decode cX5_converted 202 = .ok (.goto (-153), 3) := by decide +kernel
theorem dX5_converted_205 : decode cX5_converted 205 = .ok (.lload 4, 2) := by decide +kernel
theorem dX5_converted_207 : decode cX5_converted 207 = .ok (.lload 6, 2) := by decide +kernel
theorem dX5_converted_209 : decode cX5_converted 209 = .ok (.iload_n 2, 1) := by decide +kernel
theorem dX5_converted_210 : decode cX5_converted 210 = .ok (.invokestatic 232, 3) := by decide +kernel
theorem dX5_converted_213 : decode cX5_converted 213 = .ok (.lreturn, 1) := by decide +kernel
theorem dX5_seed_0 : decode cX5_seed 0 = .ok (.iload_n 1, 1) := by decide +kernel
theorem dX5_seed_1 : decode cX5_seed 1 = .ok (.ifCond .ge 6, 3) := by decide +kernel
theorem dX5_seed_4 : decode cX5_seed 4 = .ok (.ldc 59, 2) := by decide +kernel
theorem dX5_seed_6 : decode cX5_seed 6 = .ok (.ireturn, 1) := by decide +kernel
theorem dX5_seed_7 : decode cX5_seed 7 = .ok (.aload_n 0, 1) := by decide +kernel
theorem dX5_seed_8 : decode cX5_seed 8 = .ok (.getfield 202, 3) := by decide +kernel
theorem dX5_seed_11 : decode cX5_seed 11 = .ok (.l2i, 1) := by decide +kernel
theorem dX5_seed_12 : decode cX5_seed 12 = .ok (.istore_n 2, 1) := by decide +kernel
theorem dX5_seed_13 : decode cX5_seed 13 = .ok (.aload_n 0, 1) := by decide +kernel
theorem dX5_seed_14 : decode cX5_seed 14 = .ok (.iload_n 1, 1) := by decide +kernel
theorem dX5_seed_15 : decode cX5_seed 15 = .ok (.i2l, 1) := by decide +kernel
theorem dX5_seed_16 : decode cX5_seed 16 = .ok (.putfield 202, 3) := by decide +kernel
theorem dX5_seed_19 : decode cX5_seed 19 = .ok (.iload_n 2, 1) := by decide +kernel
theorem dX5_seed_20 : decode cX5_seed 20 = .ok (.ireturn, 1) := by decide +kernel
set_option maxRecDepth 20000 in
theorem ggX5_keep_X5_in : GoodIn wsX5_keep wsX5_in := goodIn_r _ [11] (by decide +kernel) (by decide +kernel)
set_option maxRecDepth 20000 in
theorem gX5_keep_X5_in : GoodIn wsX5_keep (va_wsS RX5 55 yX5_in wsX5_in) := goodIn_app (goodIn_of _ (by decide +kernel)) ggX5_keep_X5_in
set_option maxRecDepth 20000 in
theorem ggX5_keep_X5_bring : GoodIn wsX5_keep wsX5_bring := goodIn_r _ [14] (by decide +kernel) (by decide +kernel)
set_option maxRecDepth 20000 in
theorem gX5_keep_X5_bring : GoodIn wsX5_keep (va_wsS RX5 90 yX5_bring wsX5_bring) := goodIn_app (goodIn_of _ (by decide +kernel)) ggX5_keep_X5_bring
theorem dX5_keep_0 : decode cX5_keep 0 = .ok (.iload_n 1, 1) := by decide +kernel
theorem dX5_keep_1 : decode cX5_keep 1 = .ok (.iconst 0, 1) := by decide +kernel
theorem dX5_keep_2 : decode cX5_keep 2 = .ok (.iconst 1, 1) := by decide +kernel
theorem dX5_keep_3 : decode cX5_keep 3 = .ok (.invokestatic 55, 3) := by decide +kernel
theorem dX5_keep_6 : decode cX5_keep 6 = .ok (.ifCond .ne 6, 3) := by decide +kernel
theorem dX5_keep_9 : decode cX5_keep 9 = .ok (.ldc 198, 2) := by decide +kernel
theorem dX5_keep_11 : decode cX5_keep 11 = .ok (.ireturn, 1) := by decide +kernel
theorem dX5_keep_12 : decode cX5_keep 12 = .ok (.aload_n 0, 1) := by decide +kernel
theorem dX5_keep_13 : decode cX5_keep 13 = .ok (.getfield 17, 3) := by decide +kernel
theorem dX5_keep_16 : decode cX5_keep 16 = .ok (.iconst 0, 1) := by decide +kernel
theorem dX5_keep_17 : decode cX5_keep 17 = .ok (.aload_n 0, 1) := by decide +kernel
theorem dX5_keep_18 : decode cX5_keep 18 = .ok (.getfield 23, 3) := by decide +kernel
theorem dX5_keep_21 : decode cX5_keep 21 = .ok (.bipush 69, 2) := by decide +kernel
theorem dX5_keep_23 : decode cX5_keep 23 = .ok (.iload_n 1, 1) := by decide +kernel
theorem dX5_keep_24 : decode cX5_keep 24 = .ok (.imul, 1) := by decide +kernel
theorem dX5_keep_25 : decode cX5_keep 25 = .ok (.bipush 69, 2) := by decide +kernel
theorem dX5_keep_27 : decode cX5_keep 27 = .ok (.invokestatic 90, 3) := by decide +kernel
theorem dX5_keep_30 : decode cX5_keep 30 = .ok (.aload_n 0, 1) := by decide +kernel
theorem dX5_keep_31 : decode cX5_keep 31 = .ok (.getfield 26, 3) := by decide +kernel
theorem dX5_keep_34 : decode cX5_keep 34 = .ok (.iload_n 1, 1) := by decide +kernel
theorem dX5_keep_35 : decode cX5_keep 35 = .ok (.aload_n 0, 1) := by decide +kernel
theorem dX5_keep_36 : decode cX5_keep 36 = .ok (.getfield 202, 3) := by decide +kernel
theorem dX5_keep_39 : decode cX5_keep 39 = .ok (.lastore, 1) := by decide +kernel
theorem dX5_keep_40 : decode cX5_keep 40 = .ok (.aload_n 0, 1) := by decide +kernel
theorem dX5_keep_41 : decode cX5_keep 41 = .ok (.getfield 30, 3) := by decide +kernel
theorem dX5_keep_44 : decode cX5_keep 44 = .ok (.iload_n 1, 1) := by decide +kernel
theorem dX5_keep_45 : decode cX5_keep 45 = .ok (.iconst 1, 1) := by decide +kernel
theorem dX5_keep_46 : decode cX5_keep 46 = .ok (.bastore, 1) := by decide +kernel
theorem dX5_keep_47 : decode cX5_keep 47 = .ok (.aload_n 0, 1) := by decide +kernel
theorem dX5_keep_48 : decode cX5_keep 48 = .ok (.iconst 0, 1) := by decide +kernel
theorem dX5_keep_49 : decode cX5_keep 49 = .ok (.putfield 181, 3) := by decide +kernel
theorem dX5_keep_52 : decode cX5_keep 52 = .ok (.iconst 1, 1) := by decide +kernel
theorem dX5_keep_53 : decode cX5_keep 53 = .ok (.ireturn, 1) := by decide +kernel
set_option maxRecDepth 20000 in
theorem ggX5_goBack_X5_in : GoodIn wsX5_goBack wsX5_in := goodIn_r _ [12] (by decide +kernel) (by decide +kernel)
set_option maxRecDepth 20000 in
theorem gX5_goBack_X5_in : GoodIn wsX5_goBack (va_wsS RX5 55 yX5_in wsX5_in) := goodIn_app (goodIn_of _ (by decide +kernel)) ggX5_goBack_X5_in
set_option maxRecDepth 20000 in
theorem ggX5_goBack_X5_bring : GoodIn wsX5_goBack wsX5_bring := goodIn_r _ [15] (by decide +kernel) (by decide +kernel)
set_option maxRecDepth 20000 in
theorem gX5_goBack_X5_bring : GoodIn wsX5_goBack (va_wsS RX5 90 yX5_bring wsX5_bring) := goodIn_app (goodIn_of _ (by decide +kernel)) ggX5_goBack_X5_bring
theorem dX5_goBack_0 : decode cX5_goBack 0 = .ok (.iload_n 1, 1) := by decide +kernel
theorem dX5_goBack_1 : decode cX5_goBack 1 = .ok (.iconst 0, 1) := by decide +kernel
theorem dX5_goBack_2 : decode cX5_goBack 2 = .ok (.iconst 1, 1) := by decide +kernel
theorem dX5_goBack_3 : decode cX5_goBack 3 = .ok (.invokestatic 55, 3) := by decide +kernel
theorem dX5_goBack_6 : decode cX5_goBack 6 = .ok (.ifCond .ne 6, 3) := by decide +kernel
theorem dX5_goBack_9 : decode cX5_goBack 9 = .ok (.ldc 198, 2) := by decide +kernel
theorem dX5_goBack_11 : decode cX5_goBack 11 = .ok (.ireturn, 1) := by decide +kernel
theorem dX5_goBack_12 : decode cX5_goBack 12 = .ok (.aload_n 0, 1) := by decide +kernel
theorem dX5_goBack_13 : decode cX5_goBack 13 = .ok (.getfield 30, 3) := by decide +kernel
theorem dX5_goBack_16 : decode cX5_goBack 16 = .ok (.iload_n 1, 1) := by decide +kernel
theorem dX5_goBack_17 : decode cX5_goBack 17 = .ok (.baload, 1) := by decide +kernel
theorem dX5_goBack_18 : decode cX5_goBack 18 = .ok (.ifCond .ne 6, 3) := by decide +kernel
theorem dX5_goBack_21 : decode cX5_goBack 21 = .ok (.ldc 191, 2) := by decide +kernel
theorem dX5_goBack_23 : decode cX5_goBack 23 = .ok (.ireturn, 1) := by decide +kernel
theorem dX5_goBack_24 : decode cX5_goBack 24 = .ok (.aload_n 0, 1) := by decide +kernel
theorem dX5_goBack_25 : decode cX5_goBack 25 = .ok (.getfield 23, 3) := by decide +kernel
theorem dX5_goBack_28 : decode cX5_goBack 28 = .ok (.bipush 69, 2) := by decide +kernel
theorem dX5_goBack_30 : decode cX5_goBack 30 = .ok (.iload_n 1, 1) := by decide +kernel
theorem dX5_goBack_31 : decode cX5_goBack 31 = .ok (.imul, 1) := by decide +kernel
theorem dX5_goBack_32 : decode cX5_goBack 32 = .ok (.aload_n 0, 1) := by decide +kernel
theorem dX5_goBack_33 : decode cX5_goBack 33 = .ok (.getfield 17, 3) := by decide +kernel
theorem dX5_goBack_36 : decode cX5_goBack 36 = .ok (.iconst 0, 1) := by decide +kernel
theorem dX5_goBack_37 : decode cX5_goBack 37 = .ok (.bipush 69, 2) := by decide +kernel
theorem dX5_goBack_39 : decode cX5_goBack 39 = .ok (.invokestatic 90, 3) := by decide +kernel
theorem dX5_goBack_42 : decode cX5_goBack 42 = .ok (.aload_n 0, 1) := by decide +kernel
theorem dX5_goBack_43 : decode cX5_goBack 43 = .ok (.aload_n 0, 1) := by decide +kernel
theorem dX5_goBack_44 : decode cX5_goBack 44 = .ok (.getfield 26, 3) := by decide +kernel
theorem dX5_goBack_47 : decode cX5_goBack 47 = .ok (.iload_n 1, 1) := by decide +kernel
theorem dX5_goBack_48 : decode cX5_goBack 48 = .ok (.laload, 1) := by decide +kernel
theorem dX5_goBack_49 : decode cX5_goBack 49 = .ok (.putfield 202, 3) := by decide +kernel
theorem dX5_goBack_52 : decode cX5_goBack 52 = .ok (.aload_n 0, 1) := by decide +kernel
theorem dX5_goBack_53 : decode cX5_goBack 53 = .ok (.iconst 0, 1) := by decide +kernel
theorem dX5_goBack_54 : decode cX5_goBack 54 = .ok (.putfield 181, 3) := by decide +kernel
theorem dX5_goBack_57 : decode cX5_goBack 57 = .ok (.iconst 1, 1) := by decide +kernel
theorem dX5_goBack_58 : decode cX5_goBack 58 = .ok (.ireturn, 1) := by decide +kernel
theorem dJ6_bitCount_0f7a4_0 : decode cJ6_bitCount_0f7a4 0 = .ok (.iload_n 0, 1) := by decide +kernel
theorem dJ6_bitCount_0f7a4_1 : decode cJ6_bitCount_0f7a4 1 = .ok (.iload_n 0, 1) := by decide +kernel
theorem dJ6_bitCount_0f7a4_2 : decode cJ6_bitCount_0f7a4 2 = .ok (.iconst 1, 1) := by decide +kernel
theorem dJ6_bitCount_0f7a4_3 : decode cJ6_bitCount_0f7a4 3 = .ok (.iushr, 1) := by decide +kernel
theorem dJ6_bitCount_0f7a4_4 : decode cJ6_bitCount_0f7a4 4 = .ok (.ldc_w 265, 3) := by decide +kernel
theorem dJ6_bitCount_0f7a4_7 : decode cJ6_bitCount_0f7a4 7 = .ok (.iand, 1) := by decide +kernel
theorem dJ6_bitCount_0f7a4_8 : decode cJ6_bitCount_0f7a4 8 = .ok (.isub, 1) := by decide +kernel
theorem dJ6_bitCount_0f7a4_9 : decode cJ6_bitCount_0f7a4 9 = .ok (.istore_n 0, 1) := by decide +kernel
theorem dJ6_bitCount_0f7a4_10 : decode cJ6_bitCount_0f7a4 10 = .ok (.iload_n 0, 1) := by decide +kernel
theorem dJ6_bitCount_0f7a4_11 : decode cJ6_bitCount_0f7a4 11 = .ok (.ldc_w 266, 3) := by decide +kernel
theorem dJ6_bitCount_0f7a4_14 : decode cJ6_bitCount_0f7a4 14 = .ok (.iand, 1) := by decide +kernel
theorem dJ6_bitCount_0f7a4_15 : decode cJ6_bitCount_0f7a4 15 = .ok (.iload_n 0, 1) := by decide +kernel
theorem dJ6_bitCount_0f7a4_16 : decode cJ6_bitCount_0f7a4 16 = .ok (.iconst 2, 1) := by decide +kernel
theorem dJ6_bitCount_0f7a4_17 : decode cJ6_bitCount_0f7a4 17 = .ok (.iushr, 1) := by decide +kernel
theorem dJ6_bitCount_0f7a4_18 : decode cJ6_bitCount_0f7a4 18 = .ok (.ldc_w 266, 3) := by decide +kernel
theorem dJ6_bitCount_0f7a4_21 : decode cJ6_bitCount_0f7a4 21 = .ok (.iand, 1) := by decide +kernel
theorem dJ6_bitCount_0f7a4_22 : decode cJ6_bitCount_0f7a4 22 = .ok (.iadd, 1) := by decide +kernel
theorem dJ6_bitCount_0f7a4_23 : decode cJ6_bitCount_0f7a4 23 = .ok (.istore_n 0, 1) := by decide +kernel
theorem dJ6_bitCount_0f7a4_24 : decode cJ6_bitCount_0f7a4 24 = .ok (.iload_n 0, 1) := by decide +kernel
theorem dJ6_bitCount_0f7a4_25 : decode cJ6_bitCount_0f7a4 25 = .ok (.iload_n 0, 1) := by decide +kernel
theorem dJ6_bitCount_0f7a4_26 : decode cJ6_bitCount_0f7a4 26 = .ok (.iconst 4, 1) := by decide +kernel
theorem dJ6_bitCount_0f7a4_27 : decode cJ6_bitCount_0f7a4 27 = .ok (.iushr, 1) := by decide +kernel
theorem dJ6_bitCount_0f7a4_28 : decode cJ6_bitCount_0f7a4 28 = .ok (.iadd, 1) := by decide +kernel
theorem dJ6_bitCount_0f7a4_29 : decode cJ6_bitCount_0f7a4 29 = .ok (.ldc_w 267, 3) := by decide +kernel
theorem dJ6_bitCount_0f7a4_32 : decode cJ6_bitCount_0f7a4 32 = .ok (.iand, 1) := by decide +kernel
theorem dJ6_bitCount_0f7a4_33 : decode cJ6_bitCount_0f7a4 33 = .ok (.istore_n 0, 1) := by decide +kernel
theorem dJ6_bitCount_0f7a4_34 : decode cJ6_bitCount_0f7a4 34 = .ok (.iload_n 0, 1) := by decide +kernel
theorem dJ6_bitCount_0f7a4_35 : decode cJ6_bitCount_0f7a4 35 = .ok (.iload_n 0, 1) := by decide +kernel
theorem dJ6_bitCount_0f7a4_36 : decode cJ6_bitCount_0f7a4 36 = .ok (.bipush 8, 2) := by decide +kernel
theorem dJ6_bitCount_0f7a4_38 : decode cJ6_bitCount_0f7a4 38 = .ok (.iushr, 1) := by decide +kernel
theorem dJ6_bitCount_0f7a4_39 : decode cJ6_bitCount_0f7a4 39 = .ok (.iadd, 1) := by decide +kernel
theorem dJ6_bitCount_0f7a4_40 : decode cJ6_bitCount_0f7a4 40 = .ok (.istore_n 0, 1) := by decide +kernel
theorem dJ6_bitCount_0f7a4_41 : decode cJ6_bitCount_0f7a4 41 = .ok (.iload_n 0, 1) := by decide +kernel
theorem dJ6_bitCount_0f7a4_42 : decode cJ6_bitCount_0f7a4 42 = .ok (.iload_n 0, 1) := by decide +kernel
theorem dJ6_bitCount_0f7a4_43 : decode cJ6_bitCount_0f7a4 43 = .ok (.bipush 16, 2) := by decide +kernel
theorem dJ6_bitCount_0f7a4_45 : decode cJ6_bitCount_0f7a4 45 = .ok (.iushr, 1) := by decide +kernel
theorem dJ6_bitCount_0f7a4_46 : decode cJ6_bitCount_0f7a4 46 = .ok (.iadd, 1) := by decide +kernel
theorem dJ6_bitCount_0f7a4_47 : decode cJ6_bitCount_0f7a4 47 = .ok (.istore_n 0, 1) := by decide +kernel
theorem dJ6_bitCount_0f7a4_48 : decode cJ6_bitCount_0f7a4 48 = .ok (.iload_n 0, 1) := by decide +kernel
theorem dJ6_bitCount_0f7a4_49 : decode cJ6_bitCount_0f7a4 49 = .ok (.bipush 63, 2) := by decide +kernel
theorem dJ6_bitCount_0f7a4_51 : decode cJ6_bitCount_0f7a4 51 = .ok (.iand, 1) := by decide +kernel
theorem dJ6_bitCount_0f7a4_52 : decode cJ6_bitCount_0f7a4 52 = .ok (.ireturn, 1) := by decide +kernel
theorem dJ9_floorDiv_f86c9_0 : decode cJ9_floorDiv_f86c9 0 = .ok (.lload_n 0, 1) := by decide +kernel
theorem dJ9_floorDiv_f86c9_1 : decode cJ9_floorDiv_f86c9 1 = .ok (.lload_n 2, 1) := by decide +kernel
theorem dJ9_floorDiv_f86c9_2 : decode cJ9_floorDiv_f86c9 2 = .ok (.ldiv, 1) := by decide +kernel
theorem dJ9_floorDiv_f86c9_3 : decode cJ9_floorDiv_f86c9 3 = .ok (.lstore 4, 2) := by decide +kernel
theorem dJ9_floorDiv_f86c9_5 : decode cJ9_floorDiv_f86c9 5 = .ok (.lload_n 0, 1) := by decide +kernel
theorem dJ9_floorDiv_f86c9_6 : decode cJ9_floorDiv_f86c9 6 = .ok (.lload_n 2, 1) := by decide +kernel
theorem dJ9_floorDiv_f86c9_7 : decode cJ9_floorDiv_f86c9 7 = .ok (.lxor, 1) := by decide +kernel
theorem dJ9_floorDiv_f86c9_8 : decode cJ9_floorDiv_f86c9 8 = .ok (.lconst 0, 1) := by decide +kernel
theorem dJ9_floorDiv_f86c9_9 : decode cJ9_floorDiv_f86c9 9 = .ok (.lcmp, 1) := by decide +kernel
theorem dJ9_floorDiv_f86c9_10 : decode cJ9_floorDiv_f86c9 10 = .ok (.ifCond .ge 17, 3) := by decide +kernel
theorem dJ9_floorDiv_f86c9_13 : decode cJ9_floorDiv_f86c9 13 = .ok (.lload 4, 2) := by decide +kernel
theorem dJ9_floorDiv_f86c9_15 : decode cJ9_floorDiv_f86c9 15 = .ok (.lload_n 2, 1) := by decide +kernel
theorem dJ9_floorDiv_f86c9_16 : decode cJ9_floorDiv_f86c9 16 = .ok (.lmul, 1) := by decide +kernel
theorem dJ9_floorDiv_f86c9_17 : decode cJ9_floorDiv_f86c9 17 = .ok (.lload_n 0, 1) := by decide +kernel
theorem dJ9_floorDiv_f86c9_18 : decode cJ9_floorDiv_f86c9 18 = .ok (.lcmp, 1) := by decide +kernel
theorem dJ9_floorDiv_f86c9_19 : decode cJ9_floorDiv_f86c9 19 = .ok (.ifCond .eq 8, 3) := by decide +kernel
theorem dJ9_floorDiv_f86c9_22 : decode cJ9_floorDiv_f86c9 22 = .ok (.lload 4, 2) := by decide +kernel
theorem dJ9_floorDiv_f86c9_24 : decode cJ9_floorDiv_f86c9 24 = .ok (.lconst 1, 1) := by decide +kernel
theorem dJ9_floorDiv_f86c9_25 : decode cJ9_floorDiv_f86c9 25 = .ok (.lsub, 1) := by decide +kernel
theorem dJ9_floorDiv_f86c9_26 : decode cJ9_floorDiv_f86c9 26 = .ok (.lreturn, 1) := by decide +kernel
theorem dJ9_floorDiv_f86c9_27 : decode cJ9_floorDiv_f86c9 27 = .ok (.lload 4, 2) := by decide +kernel
theorem dJ9_floorDiv_f86c9_29 : decode cJ9_floorDiv_f86c9 29 = .ok (.lreturn, 1) := by decide +kernel
theorem dJ9_floorMod_7cf53_0 : decode cJ9_floorMod_7cf53 0 = .ok (.iload_n 0, 1) := by decide +kernel
theorem dJ9_floorMod_7cf53_1 : decode cJ9_floorMod_7cf53 1 = .ok (.iload_n 1, 1) := by decide +kernel
theorem dJ9_floorMod_7cf53_2 : decode cJ9_floorMod_7cf53 2 = .ok (.irem, 1) := by decide +kernel
theorem dJ9_floorMod_7cf53_3 : decode cJ9_floorMod_7cf53 3 = .ok (.istore_n 2, 1) := by decide +kernel
theorem dJ9_floorMod_7cf53_4 : decode cJ9_floorMod_7cf53 4 = .ok (.iload_n 0, 1) := by decide +kernel
theorem dJ9_floorMod_7cf53_5 : decode cJ9_floorMod_7cf53 5 = .ok (.iload_n 1, 1) := by decide +kernel
theorem dJ9_floorMod_7cf53_6 : decode cJ9_floorMod_7cf53 6 = .ok (.ixor, 1) := by decide +kernel
theorem dJ9_floorMod_7cf53_7 : decode cJ9_floorMod_7cf53 7 = .ok (.ifCond .ge 11, 3) := by decide +kernel
theorem dJ9_floorMod_7cf53_10 : decode cJ9_floorMod_7cf53 10 = .ok (.iload_n 2, 1) := by decide +kernel
theorem dJ9_floorMod_7cf53_11 : decode cJ9_floorMod_7cf53 11 = .ok (.ifCond .eq 7, 3) := by decide +kernel
theorem dJ9_floorMod_7cf53_14 : decode cJ9_floorMod_7cf53 14 = .ok (.iload_n 2, 1) := by decide +kernel
theorem dJ9_floorMod_7cf53_15 : decode cJ9_floorMod_7cf53 15 = .ok (.iload_n 1, 1) := by decide +kernel
theorem dJ9_floorMod_7cf53_16 : decode cJ9_floorMod_7cf53 16 = .ok (.iadd, 1) := by decide +kernel
theorem dJ9_floorMod_7cf53_17 : decode cJ9_floorMod_7cf53 17 = .ok (.ireturn, 1) := by decide +kernel
theorem dJ9_floorMod_7cf53_18 : decode cJ9_floorMod_7cf53 18 = .ok (.iload_n 2, 1) := by decide +kernel
theorem dJ9_floorMod_7cf53_19 : decode cJ9_floorMod_7cf53 19 = .ok (.ireturn, 1) := by decide +kernel
theorem dJ9_abs_0f7a4_0 : decode cJ9_abs_0f7a4 0 = .ok (.iload_n 0, 1) := by decide +kernel
theorem dJ9_abs_0f7a4_1 : decode cJ9_abs_0f7a4 1 = .ok (.ifCond .ge 8, 3) := by decide +kernel
theorem dJ9_abs_0f7a4_4 : decode cJ9_abs_0f7a4 4 = .ok (.iload_n 0, 1) := by decide +kernel
theorem dJ9_abs_0f7a4_5 : decode cJ9_abs_0f7a4 5 = .ok (.ineg, 1) := by decide +kernel
theorem dJ9_abs_0f7a4_6 : decode cJ9_abs_0f7a4 6 = .ok (.goto 4, 3) := by decide +kernel
theorem dJ9_abs_0f7a4_9 : decode cJ9_abs_0f7a4 9 = .ok (.iload_n 0, 1) := by decide +kernel
theorem dJ9_abs_0f7a4_10 : decode cJ9_abs_0f7a4 10 = .ok (.ireturn, 1) := by decide +kernel
theorem dJ9_abs_067f4_0 : decode cJ9_abs_067f4 0 = .ok (.lload_n 0, 1) := by decide +kernel
theorem dJ9_abs_067f4_1 : decode cJ9_abs_067f4 1 = .ok (.lconst 0, 1) := by decide +kernel
theorem dJ9_abs_067f4_2 : decode cJ9_abs_067f4 2 = .ok (.lcmp, 1) := by decide +kernel
theorem dJ9_abs_067f4_3 : decode cJ9_abs_067f4 3 = .ok (.ifCond .ge 8, 3) := by decide +kernel
theorem dJ9_abs_067f4_6 : decode cJ9_abs_067f4 6 = .ok (.lload_n 0, 1) := by decide +kernel
theorem dJ9_abs_067f4_7 : decode cJ9_abs_067f4 7 = .ok (.lneg, 1) := by decide +kernel
theorem dJ9_abs_067f4_8 : decode cJ9_abs_067f4 8 = .ok (.goto 4, 3) := by decide +kernel
theorem dJ9_abs_067f4_11 : decode cJ9_abs_067f4 11 = .ok (.lload_n 0, 1) := by decide +kernel
theorem dJ9_abs_067f4_12 : decode cJ9_abs_067f4 12 = .ok (.lreturn, 1) := by decide +kernel
theorem dJ7_fill_d0a16_0 : decode cJ7_fill_d0a16 0 = .ok (.iconst 0, 1) := by decide +kernel
theorem dJ7_fill_d0a16_1 : decode cJ7_fill_d0a16 1 = .ok (.istore_n 3, 1) := by decide +kernel
theorem dJ7_fill_d0a16_2 : decode cJ7_fill_d0a16 2 = .ok (.aload_n 0, 1) := by decide +kernel
theorem dJ7_fill_d0a16_3 : decode cJ7_fill_d0a16 3 = .ok (.arraylength, 1) := by decide +kernel
theorem dJ7_fill_d0a16_4 : decode cJ7_fill_d0a16 4 = .ok (.istore 4, 2) := by decide +kernel
theorem dJ7_fill_d0a16_6 : decode cJ7_fill_d0a16 6 = .ok (.iload_n 3, 1) := by decide +kernel
theorem dJ7_fill_d0a16_7 : decode cJ7_fill_d0a16 7 = .ok (.iload 4, 2) := by decide +kernel
theorem dJ7_fill_d0a16_9 : decode cJ7_fill_d0a16 9 = .ok (.if_icmp .ge 13, 3) := by decide +kernel
theorem dJ7_fill_d0a16_12 : decode cJ7_fill_d0a16 12 = .ok (.aload_n 0, 1) := by decide +kernel
theorem dJ7_fill_d0a16_13 : decode cJ7_fill_d0a16 13 = .ok (.iload_n 3, 1) := by decide +kernel
theorem dJ7_fill_d0a16_14 : decode cJ7_fill_d0a16 14 = .ok (.lload_n 1, 1) := by decide +kernel
theorem dJ7_fill_d0a16_15 : decode cJ7_fill_d0a16 15 = .ok (.lastore, 1) := by decide +kernel
theorem dJ7_fill_d0a16_16 : decode cJ7_fill_d0a16 16 = .ok (.iinc 3 1, 3) := by decide +kernel
theorem dJ7_fill_d0a16_19 : decode cJ7_fill_d0a16 19 = .ok (.goto (-13), 3) := by decide +kernel
theorem dJ7_fill_d0a16_22 : decode cJ7_fill_d0a16 22 = .ok (.return_, 1) := by decide +kernel
theorem dJ7_fill_53178_0 : decode cJ7_fill_53178 0 = .ok (.iconst 0, 1) := by decide +kernel
theorem dJ7_fill_53178_1 : decode cJ7_fill_53178 1 = .ok (.istore_n 2, 1) := by decide +kernel
theorem dJ7_fill_53178_2 : decode cJ7_fill_53178 2 = .ok (.aload_n 0, 1) := by decide +kernel
theorem dJ7_fill_53178_3 : decode cJ7_fill_53178 3 = .ok (.arraylength, 1) := by decide +kernel
theorem dJ7_fill_53178_4 : decode cJ7_fill_53178 4 = .ok (.istore_n 3, 1) := by decide +kernel
theorem dJ7_fill_53178_5 : decode cJ7_fill_53178 5 = .ok (.iload_n 2, 1) := by decide +kernel
theorem dJ7_fill_53178_6 : decode cJ7_fill_53178 6 = .ok (.iload_n 3, 1) := by decide +kernel
theorem dJ7_fill_53178_7 : decode cJ7_fill_53178 7 = .ok (.if_icmp .ge 13, 3) := by decide +kernel
theorem dJ7_fill_53178_10 : decode cJ7_fill_53178 10 = .ok (.aload_n 0, 1) := by decide +kernel
theorem dJ7_fill_53178_11 : decode cJ7_fill_53178 11 = .ok (.iload_n 2, 1) := by decide +kernel
theorem dJ7_fill_53178_12 : decode cJ7_fill_53178 12 = .ok (.iload_n 1, 1) := by decide +kernel
theorem dJ7_fill_53178_13 : decode cJ7_fill_53178 13 = .ok (.iastore, 1) := by decide +kernel
theorem dJ7_fill_53178_14 : decode cJ7_fill_53178 14 = .ok (.iinc 2 1, 3) := by decide +kernel
theorem dJ7_fill_53178_17 : decode cJ7_fill_53178 17 = .ok (.goto (-12), 3) := by decide +kernel
theorem dJ7_fill_53178_20 : decode cJ7_fill_53178 20 = .ok (.return_, 1) := by decide +kernel

