theorem dX4_told_7 : decode cX4_told 7 = .ok (.if_icmp .lt 6, 3) := by decide +kernel
theorem dX4_told_10 : decode cX4_told 10 = .ok (.ldc 55, 2) := by decide +kernel
theorem dX4_told_12 : decode cX4_told 12 = .ok (.ireturn, 1) := by decide +kernel
theorem dX4_told_13 : decode cX4_told 13 = .ok (.iload_n 1, 1) := by decide +kernel
theorem dX4_told_14 : decode cX4_told 14 = .ok (.tableswitch 101 0 7 #[46, 54, 65, 73, 78, 83, 88, 96], 46) := by decide +kernel
theorem dX4_told_60 : decode cX4_told 60 = .ok (.aload_n 0, 1) := by decide +kernel
theorem dX4_told_61 : decode cX4_told 61 = .ok (.getfield 30, 3) := by decide +kernel
theorem dX4_told_64 : decode cX4_told 64 = .ok (.getfield 60, 3) := by decide +kernel
theorem dX4_told_67 : decode cX4_told 67 = .ok (.ireturn, 1) := by decide +kernel
theorem dX4_told_68 : decode cX4_told 68 = .ok (.bipush 6, 2) := by decide +kernel
theorem dX4_told_70 : decode cX4_told 70 = .ok (.aload_n 0, 1) := by decide +kernel
theorem dX4_told_71 : decode cX4_told 71 = .ok (.getfield 48, 3) := by decide +kernel
theorem dX4_told_74 : decode cX4_told 74 = .ok (.getfield 63, 3) := by decide +kernel
theorem dX4_told_77 : decode cX4_told 77 = .ok (.isub, 1) := by decide +kernel
theorem dX4_told_78 : decode cX4_told 78 = .ok (.ireturn, 1) := by decide +kernel
theorem dX4_told_79 : decode cX4_told 79 = .ok (.aload_n 0, 1) := by decide +kernel
theorem dX4_told_80 : decode cX4_told 80 = .ok (.getfield 48, 3) := by decide +kernel
theorem dX4_told_83 : decode cX4_told 83 = .ok (.getfield 63, 3) := by decide +kernel
theorem dX4_told_86 : decode cX4_told 86 = .ok (.ireturn, 1) := by decide +kernel
theorem dX4_told_87 : decode cX4_told 87 = .ok (.aload_n 0, 1) := by decide +kernel
theorem dX4_told_88 : decode cX4_told 88 = .ok (.invokevirtual 64, 3) := by decide +kernel
theorem dX4_told_91 : decode cX4_told 91 = .ok (.ireturn, 1) := by decide +kernel
theorem dX4_told_92 : decode cX4_told 92 = .ok (.aload_n 0, 1) := by decide +kernel
theorem dX4_told_93 : decode cX4_told 93 = .ok (.getfield 56, 3) := by decide +kernel
theorem dX4_told_96 : decode cX4_told 96 = .ok (.ireturn, 1) := by decide +kernel
theorem dX4_told_97 : decode cX4_told 97 = .ok (.aload_n 0, 1) := by decide +kernel
theorem dX4_told_98 : decode cX4_told 98 = .ok (.invokevirtual 68, 3) := by decide +kernel
theorem dX4_told_101 : decode cX4_told 101 = .ok (.ireturn, 1) := by decide +kernel
theorem dX4_told_102 : decode cX4_told 102 = .ok (.aload_n 0, 1) := by decide +kernel
theorem dX4_told_103 : decode cX4_told 103 = .ok (.invokevirtual 71, 3) := by decide +kernel
theorem dX4_told_106 : decode cX4_told 106 = .ok (.invokestatic 74, 3) := by decide +kernel
theorem dX4_told_109 : decode cX4_told 109 = .ok (.ireturn, 1) := by decide +kernel
theorem dX4_told_110 : decode cX4_told 110 = .ok (.aload_n 0, 1) := by decide +kernel
theorem dX4_told_111 : decode cX4_told 111 = .ok (.invokevirtual 71, 3) := by decide +kernel
theorem dX4_told_114 : decode cX4_told 114 = .ok (.ireturn, 1) := by decide +kernel
theorem dX4_told_115 : decode cX4_told 115 = .ok (.aload_n 0, 1) := by decide +kernel
theorem dX4_told_116 : decode cX4_told 116 = .ok (.getfield 41, 3) := by decide +kernel
theorem dX4_told_119 : decode cX4_told 119 = .ok (.getfield 80, 3) := by decide +kernel
theorem dX4_told_122 : decode cX4_told 122 = .ok (.ireturn, 1) := by decide +kernel
set_option maxRecDepth 20000 in
theorem ggX4_say_X4_readText : GoodIn wsX4_say wsX4_readText := goodIn_r _ [11, 12, 13, 14, 15, 4, 16, 17, 18, 19, 20, 21, 22, 23, 24, 25, 26, 27, 28, 29, 30, 31, 32, 33, 34, 35, 36, 37, 38, 39, 40, 41, 42, 43, 44, 45, 46, 47, 48, 49, 50, 51, 52, 53, 54, 55, 56, 57, 58, 59, 60, 61, 62, 63, 64, 65, 66, 67, 68, 69, 70, 71, 72, 73, 74, 75, 76, 77, 78, 79, 80, 81, 82, 83, 84, 85, 86, 182, 183, 184, 185, 186, 187, 188, 189, 190, 191, 198, 199, 200, 201, 202, 203, 204, 205, 206] (by decide +kernel) (by decide +kernel)
set_option maxRecDepth 20000 in
theorem gX4_say_X4_readText : GoodIn wsX4_say (wsV RX4 81 RX4 yX4_readText wsX4_readText) := goodIn_app (goodIn_of _ (by decide +kernel)) ggX4_say_X4_readText
set_option maxRecDepth 20000 in
theorem ggX4_say_X2_agrees : GoodIn wsX4_say wsX2_agrees := goodIn_r _ [91, 92, 93, 94, 90, 95, 96, 97, 98, 99, 100, 101, 102, 103, 104, 105, 106, 107, 108, 109, 110, 111, 112, 113, 114, 115, 83, 84, 85, 116, 117, 118, 119, 207, 208, 209, 210, 211, 212, 213] (by decide +kernel) (by decide +kernel)
set_option maxRecDepth 20000 in
theorem gX4_say_X2_agrees : GoodIn wsX4_say (wsV RX4 85 RX2 yX2_agrees wsX2_agrees) := goodIn_app (goodIn_of _ (by decide +kernel)) ggX4_say_X2_agrees
set_option maxRecDepth 20000 in
theorem ggX4_say_X0_note : GoodIn wsX4_say wsX0_note := goodIn_r _ [124, 125, 126, 127, 128, 129, 130, 131, 132, 133, 134, 135, 71, 72, 73, 136, 137, 214, 215, 216, 192, 193, 194, 195, 196, 197] (by decide +kernel) (by decide +kernel)
set_option maxRecDepth 20000 in
theorem gX4_say_X0_note : GoodIn wsX4_say (wsV RX4 90 RX0 yX0_note wsX0_note) := goodIn_app (goodIn_of _ (by decide +kernel)) ggX4_say_X0_note
set_option maxRecDepth 20000 in
theorem ggX4_say_X4_putSaying : GoodIn wsX4_say wsX4_putSaying := goodIn_r _ [141, 1, 4, 3, 142, 143, 144, 131, 145, 133, 134, 135, 71, 72, 73, 146, 147, 148, 90, 149, 96, 98, 150, 97, 151, 152, 92, 93, 94, 95, 99, 100, 101, 102, 103, 104, 105, 106, 107, 153, 154, 155, 156, 157, 158, 159, 160, 161, 162, 163, 164, 165, 166, 167, 168, 169, 170, 171, 172, 173, 174, 175, 176, 177, 178, 179, 180, 181, 182, 183, 184, 185, 186, 187, 188, 189, 190, 191, 192, 193, 194, 195, 196, 197, 207, 208, 209, 210, 211, 212, 213] (by decide +kernel) (by decide +kernel)
set_option maxRecDepth 20000 in
theorem gX4_say_X4_putSaying : GoodIn wsX4_say (wsV RX4 94 RX4 yX4_putSaying wsX4_putSaying) := goodIn_app (goodIn_of _ (by decide +kernel)) ggX4_say_X4_putSaying
theorem dX4_say_0 : decode cX4_say 0 = .ok (.aload_n 0, 1) := by decide +kernel
theorem dX4_say_1 : decode cX4_say 1 = .ok (.iconst 1, 1) := by decide +kernel
theorem dX4_say_2 : decode cX4_say 2 = .ok (.invokevirtual 81, 3) := by decide +kernel
theorem dX4_say_5 : decode cX4_say 5 = .ok (.istore_n 1, 1) := by decide +kernel
theorem dX4_say_6 : decode cX4_say 6 = .ok (.iload_n 1, 1) := by decide +kernel
theorem dX4_say_7 : decode cX4_say 7 = .ok (.ifCond .eq 5, 3) := by decide +kernel
theorem dX4_say_10 : decode cX4_say 10 = .ok (.iload_n 1, 1) := by decide +kernel
theorem dX4_say_11 : decode cX4_say 11 = .ok (.ireturn, 1) := by decide +kernel
theorem dX4_say_12 : decode cX4_say 12 = .ok (.aload_n 0, 1) := by decide +kernel
theorem dX4_say_13 : decode cX4_say 13 = .ok (.getfield 30, 3) := by decide +kernel
theorem dX4_say_16 : decode cX4_say 16 = .ok (.getfield 60, 3) := by decide +kernel
theorem dX4_say_19 : decode cX4_say 19 = .ok (.bipush 6, 2) := by decide +kernel
theorem dX4_say_21 : decode cX4_say 21 = .ok (.if_icmp .lt 6, 3) := by decide +kernel
theorem dX4_say_24 : decode cX4_say 24 = .ok (.ldc 59, 2) := by decide +kernel
theorem dX4_say_26 : decode cX4_say 26 = .ok (.ireturn, 1) := by decide +kernel
theorem dX4_say_27 : decode cX4_say 27 = .ok (.aload_n 0, 1) := by decide +kernel
theorem dX4_say_28 : decode cX4_say 28 = .ok (.getfield 48, 3) := by decide +kernel
theorem dX4_say_31 : decode cX4_say 31 = .ok (.aload_n 0, 1) := by decide +kernel
theorem dX4_say_32 : decode cX4_say 32 = .ok (.getfield 24, 3) := by decide +kernel
theorem dX4_say_35 : decode cX4_say 35 = .ok (.invokevirtual 85, 3) := by decide +kernel
theorem dX4_say_38 : decode cX4_say 38 = .ok (.ifCond .ne 6, 3) := by decide +kernel
theorem dX4_say_41 : decode cX4_say 41 = .ok (.ldc 89, 2) := by decide +kernel
theorem dX4_say_43 : decode cX4_say 43 = .ok (.ireturn, 1) := by decide +kernel
theorem dX4_say_44 : decode cX4_say 44 = .ok (.aload_n 0, 1) := by decide +kernel
theorem dX4_say_45 : decode cX4_say 45 = .ok (.getfield 41, 3) := by decide +kernel
theorem dX4_say_48 : decode cX4_say 48 = .ok (.aload_n 0, 1) := by decide +kernel
theorem dX4_say_49 : decode cX4_say 49 = .ok (.getfield 30, 3) := by decide +kernel
theorem dX4_say_52 : decode cX4_say 52 = .ok (.invokevirtual 90, 3) := by decide +kernel
theorem dX4_say_55 : decode cX4_say 55 = .ok (.aload_n 0, 1) := by decide +kernel
theorem dX4_say_56 : decode cX4_say 56 = .ok (.invokevirtual 94, 3) := by decide +kernel
theorem dX4_say_59 : decode cX4_say 59 = .ok (.aload_n 0, 1) := by decide +kernel
theorem dX4_say_60 : decode cX4_say 60 = .ok (.getfield 30, 3) := by decide +kernel
theorem dX4_say_63 : decode cX4_say 63 = .ok (.getfield 60, 3) := by decide +kernel
theorem dX4_say_66 : decode cX4_say 66 = .ok (.ireturn, 1) := by decide +kernel
set_option maxRecDepth 20000 in
theorem ggX4_back_X0_note : GoodIn wsX4_back wsX0_note := goodIn_r _ [8, 9, 10, 11, 12, 13, 14, 15, 16, 17, 18, 19, 20, 21, 22, 23, 24, 112, 113, 114, 106, 107, 108, 109, 110, 111] (by decide +kernel) (by decide +kernel)
set_option maxRecDepth 20000 in
theorem gX4_back_X0_note : GoodIn wsX4_back (wsV RX4 90 RX0 yX0_note wsX0_note) := goodIn_app (goodIn_of _ (by decide +kernel)) ggX4_back_X0_note
set_option maxRecDepth 20000 in
theorem ggX4_back_X3_remove : GoodIn wsX4_back wsX3_remove := goodIn_r _ [28, 17, 18, 19, 20, 21, 22, 106, 107, 108, 109, 110, 111] (by decide +kernel) (by decide +kernel)
set_option maxRecDepth 20000 in
theorem gX4_back_X3_remove : GoodIn wsX4_back (wsV RX4 98 RX3 yX3_remove wsX3_remove) := goodIn_app (goodIn_of _ (by decide +kernel)) ggX4_back_X3_remove
set_option maxRecDepth 20000 in
theorem ggX4_back_X4_solveAnew : GoodIn wsX4_back wsX4_solveAnew := goodIn_r _ [33, 34, 1, 35, 36, 37, 38, 39, 40, 41, 42, 43, 44, 45, 46, 47, 48, 49, 50, 51, 52, 53, 20, 21, 22, 54, 55, 56, 57, 58, 59, 60, 61, 62, 63, 64, 65, 66, 67, 68, 69, 70, 71, 72, 73, 74, 75, 76, 77, 78, 79, 80, 81, 82, 83, 84, 85, 86, 87, 88, 89, 90, 91, 92, 93, 94, 95, 96, 97, 98, 99, 100, 101, 102, 103, 104, 105, 106, 107, 108, 109, 110, 111, 115, 116, 117, 118, 119, 120, 121] (by decide +kernel) (by decide +kernel)
set_option maxRecDepth 20000 in
theorem gX4_back_X4_solveAnew : GoodIn wsX4_back (wsV RX4 102 RX4 yX4_solveAnew wsX4_solveAnew) := goodIn_app (goodIn_of _ (by decide +kernel)) ggX4_back_X4_solveAnew
theorem dX4_back_0 : decode cX4_back 0 = .ok (.iload_n 1, 1) := by decide +kernel
theorem dX4_back_1 : decode cX4_back 1 = .ok (.ifCond .lt 14, 3) := by decide +kernel
theorem dX4_back_4 : decode cX4_back 4 = .ok (.iload_n 1, 1) := by decide +kernel
theorem dX4_back_5 : decode cX4_back 5 = .ok (.aload_n 0, 1) := by decide +kernel
theorem dX4_back_6 : decode cX4_back 6 = .ok (.getfield 30, 3) := by decide +kernel
theorem dX4_back_9 : decode cX4_back 9 = .ok (.getfield 60, 3) := by decide +kernel
theorem dX4_back_12 : decode cX4_back 12 = .ok (.if_icmp .lt 6, 3) := by decide +kernel
theorem dX4_back_15 : decode cX4_back 15 = .ok (.ldc 97, 2) := by decide +kernel
theorem dX4_back_17 : decode cX4_back 17 = .ok (.ireturn, 1) := by decide +kernel
theorem dX4_back_18 : decode cX4_back 18 = .ok (.aload_n 0, 1) := by decide +kernel
theorem dX4_back_19 : decode cX4_back 19 = .ok (.getfield 41, 3) := by decide +kernel
theorem dX4_back_22 : decode cX4_back 22 = .ok (.aload_n 0, 1) := by decide +kernel
theorem dX4_back_23 : decode cX4_back 23 = .ok (.getfield 30, 3) := by decide +kernel
theorem dX4_back_26 : decode cX4_back 26 = .ok (.invokevirtual 90, 3) := by decide +kernel
theorem dX4_back_29 : decode cX4_back 29 = .ok (.aload_n 0, 1) := by decide +kernel
theorem dX4_back_30 : decode cX4_back 30 = .ok (.getfield 30, 3) := by decide +kernel
theorem dX4_back_33 : decode cX4_back 33 = .ok (.iload_n 1, 1) := by decide +kernel
theorem dX4_back_34 : decode cX4_back 34 = .ok (.invokevirtual 98, 3) := by decide +kernel
theorem dX4_back_37 : decode cX4_back 37 = .ok (.aload_n 0, 1) := by decide +kernel
theorem dX4_back_38 : decode cX4_back 38 = .ok (.invokevirtual 102, 3) := by decide +kernel
theorem dX4_back_41 : decode cX4_back 41 = .ok (.aload_n 0, 1) := by decide +kernel
theorem dX4_back_42 : decode cX4_back 42 = .ok (.getfield 30, 3) := by decide +kernel
theorem dX4_back_45 : decode cX4_back 45 = .ok (.getfield 60, 3) := by decide +kernel
theorem dX4_back_48 : decode cX4_back 48 = .ok (.ireturn, 1) := by decide +kernel
set_option maxRecDepth 20000 in
theorem ggX4_scale_X0_note : GoodIn wsX4_scale wsX0_note := goodIn_r _ [9, 10, 11, 12, 13, 14, 15, 16, 17, 18, 19, 20, 21, 22, 23, 24, 25, 46, 47, 48, 40, 41, 42, 43, 44, 45] (by decide +kernel) (by decide +kernel)
set_option maxRecDepth 20000 in
theorem gX4_scale_X0_note : GoodIn wsX4_scale (wsV RX4 90 RX0 yX0_note wsX0_note) := goodIn_app (goodIn_of _ (by decide +kernel)) ggX4_scale_X0_note
set_option maxRecDepth 20000 in
theorem ggX4_scale_X3_countScaled : GoodIn wsX4_scale wsX3_countScaled := goodIn_r _ [29, 24, 25, 40, 41, 42, 43, 44, 45] (by decide +kernel) (by decide +kernel)
set_option maxRecDepth 20000 in
theorem gX4_scale_X3_countScaled : GoodIn wsX4_scale (wsV RX4 111 RX3 yX3_countScaled wsX3_countScaled) := goodIn_app (goodIn_of _ (by decide +kernel)) ggX4_scale_X3_countScaled
theorem dX4_scale_0 : decode cX4_scale 0 = .ok (.iload_n 1, 1) := by decide +kernel
theorem dX4_scale_1 : decode cX4_scale 1 = .ok (.ifCond .lt 8, 3) := by decide +kernel
theorem dX4_scale_4 : decode cX4_scale 4 = .ok (.iload_n 1, 1) := by decide +kernel
theorem dX4_scale_5 : decode cX4_scale 5 = .ok (.iconst 4, 1) := by decide +kernel
theorem dX4_scale_6 : decode cX4_scale 6 = .ok (.if_icmp .lt 6, 3) := by decide +kernel
theorem dX4_scale_9 : decode cX4_scale 9 = .ok (.ldc 97, 2) := by decide +kernel
theorem dX4_scale_11 : decode cX4_scale 11 = .ok (.ireturn, 1) := by decide +kernel
theorem dX4_scale_12 : decode cX4_scale 12 = .ok (.iload_n 2, 1) := by decide +kernel
theorem dX4_scale_13 : decode cX4_scale 13 = .ok (.iconst 1, 1) := by decide +kernel
theorem dX4_scale_14 : decode cX4_scale 14 = .ok (.if_icmp .lt 20, 3) := by decide +kernel
theorem dX4_scale_17 : decode cX4_scale 17 = .ok (.iload_n 2, 1) := by decide +kernel
theorem dX4_scale_18 : decode cX4_scale 18 = .ok (.bipush 12, 2) := by decide +kernel
theorem dX4_scale_20 : decode cX4_scale 20 = .ok (.if_icmp .gt 14, 3) := by decide +kernel
theorem dX4_scale_23 : decode cX4_scale 23 = .ok (.iload_n 3, 1) := by decide +kernel
theorem dX4_scale_24 : decode cX4_scale 24 = .ok (.iconst 1, 1) := by decide +kernel
theorem dX4_scale_25 : decode cX4_scale 25 = .ok (.if_icmp .lt 9, 3) := by decide +kernel
theorem dX4_scale_28 : decode cX4_scale 28 = .ok (.iload_n 3, 1) := by decide +kernel
theorem dX4_scale_29 : decode cX4_scale 29 = .ok (.bipush 12, 2) := by decide +kernel
theorem dX4_scale_31 : decode cX4_scale 31 = .ok (.if_icmp .le 6, 3) := by decide +kernel
theorem dX4_scale_34 : decode cX4_scale 34 = .ok (.ldc 55, 2) := by decide +kernel
theorem dX4_scale_36 : decode cX4_scale 36 = .ok (.ireturn, 1) := by decide +kernel
theorem dX4_scale_37 : decode cX4_scale 37 = .ok (.aload_n 0, 1) := by decide +kernel
theorem dX4_scale_38 : decode cX4_scale 38 = .ok (.getfield 41, 3) := by decide +kernel
theorem dX4_scale_41 : decode cX4_scale 41 = .ok (.aload_n 0, 1) := by decide +kernel
theorem dX4_scale_42 : decode cX4_scale 42 = .ok (.getfield 30, 3) := by decide +kernel
theorem dX4_scale_45 : decode cX4_scale 45 = .ok (.invokevirtual 90, 3) := by decide +kernel
theorem dX4_scale_48 : decode cX4_scale 48 = .ok (.aload_n 0, 1) := by decide +kernel
theorem dX4_scale_49 : decode cX4_scale 49 = .ok (.getfield 30, 3) := by decide +kernel
theorem dX4_scale_52 : decode cX4_scale 52 = .ok (.getfield 105, 3) := by decide +kernel
theorem dX4_scale_55 : decode cX4_scale 55 = .ok (.iload_n 1, 1) := by decide +kernel
theorem dX4_scale_56 : decode cX4_scale 56 = .ok (.iload_n 2, 1) := by decide +kernel
theorem dX4_scale_57 : decode cX4_scale 57 = .ok (.iastore, 1) := by decide +kernel
theorem dX4_scale_58 : decode cX4_scale 58 = .ok (.aload_n 0, 1) := by decide +kernel
theorem dX4_scale_59 : decode cX4_scale 59 = .ok (.getfield 30, 3) := by decide +kernel
theorem dX4_scale_62 : decode cX4_scale 62 = .ok (.getfield 108, 3) := by decide +kernel
theorem dX4_scale_65 : decode cX4_scale 65 = .ok (.iload_n 1, 1) := by decide +kernel
theorem dX4_scale_66 : decode cX4_scale 66 = .ok (.iload_n 3, 1) := by decide +kernel
theorem dX4_scale_67 : decode cX4_scale 67 = .ok (.iastore, 1) := by decide +kernel
theorem dX4_scale_68 : decode cX4_scale 68 = .ok (.aload_n 0, 1) := by decide +kernel
theorem dX4_scale_69 : decode cX4_scale 69 = .ok (.getfield 30, 3) := by decide +kernel
theorem dX4_scale_72 : decode cX4_scale 72 = .ok (.invokevirtual 111, 3) := by decide +kernel
theorem dX4_scale_75 : decode cX4_scale 75 = .ok (.ireturn, 1) := by decide +kernel
set_option maxRecDepth 20000 in
theorem ggX4_drift_X4_driftOnce : GoodIn wsX4_drift wsX4_driftOnce := goodIn_r _ [7, 8, 2, 9, 10, 11, 12, 13, 14, 15, 16, 17, 18, 19, 20, 21, 22, 23, 24, 25, 26, 27, 28, 29, 30, 31, 32, 33, 34, 35, 36, 37, 38, 39, 40, 41, 42, 43, 44, 45, 46, 47, 48, 49, 50, 51, 52, 53, 54, 55, 56, 57, 58, 59, 60, 61, 62, 63, 64, 65, 66, 67, 68, 69, 70, 71, 72, 73, 74, 75, 76, 77, 78, 79, 80, 81, 82, 83, 6, 84, 85, 86, 87, 88, 89, 90, 91, 92, 93, 94, 95, 96, 97, 98, 99, 100, 101, 102, 103, 104, 105, 106, 107, 108, 109, 110, 111, 112, 113, 114, 115, 116, 117, 118, 119, 120, 121, 122, 123, 124, 125, 126, 127, 128, 129, 130, 131, 132, 133, 134, 135, 136, 137, 138, 139, 140, 141, 142, 143, 144, 145, 146, 147, 148, 149, 150] (by decide +kernel) (by decide +kernel)
set_option maxRecDepth 20000 in
theorem gX4_drift_X4_driftOnce : GoodIn wsX4_drift (wsV RX4 114 RX4 yX4_driftOnce wsX4_driftOnce) := goodIn_app (goodIn_of _ (by decide +kernel)) ggX4_drift_X4_driftOnce
theorem dX4_drift_0 : decode cX4_drift 0 = .ok (.iload_n 1, 1) := by decide +kernel
theorem dX4_drift_1 : decode cX4_drift 1 = .ok (.iconst 1, 1) := by decide +kernel
theorem dX4_drift_2 : decode cX4_drift 2 = .ok (.if_icmp .lt 9, 3) := by decide +kernel
theorem dX4_drift_5 : decode cX4_drift 5 = .ok (.iload_n 1, 1) := by decide +kernel
theorem dX4_drift_6 : decode cX4_drift 6 = .ok (.bipush 20, 2) := by decide +kernel
theorem dX4_drift_8 : decode cX4_drift 8 = .ok (.if_icmp .le 6, 3) := by decide +kernel
theorem dX4_drift_11 : decode cX4_drift 11 = .ok (.ldc 55, 2) := by decide +kernel
theorem dX4_drift_13 : decode cX4_drift 13 = .ok (.ireturn, 1) := by decide +kernel
theorem dX4_drift_14 : decode cX4_drift 14 = .ok (.iconst 0, 1) := by decide +kernel
theorem dX4_drift_15 : decode cX4_drift 15 = .ok (.istore_n 2, 1) := by decide +kernel
theorem dX4_drift_16 : decode cX4_drift 16 = .ok (.iload_n 2, 1) := by decide +kernel
theorem dX4_drift_17 : decode cX4_drift 17 = .ok (.iload_n 1, 1) := by decide +kernel
theorem dX4_drift_18 : decode cX4_drift 18 = .ok (.if_icmp .ge 13, 3) := by decide +kernel
theorem dX4_drift_21 : decode cX4_drift 21 = .ok (.aload_n 0, 1) := by decide +kernel
theorem dX4_drift_22 : decode cX4_drift 22 = .ok (.invokevirtual 114, 3) := by decide +kernel
theorem dX4_drift_25 : decode cX4_drift 25 = .ok (.iinc 2 1, 3) := by decide +kernel
theorem dX4_drift_28 : decode cX4_drift 28 = .ok (.goto (-12), 3) := by decide +kernel
theorem dX4_drift_31 : decode cX4_drift 31 = .ok (.aload_n 0, 1) := by decide +kernel
theorem dX4_drift_32 : decode cX4_drift 32 = .ok (.getfield 30, 3) := by decide +kernel
theorem dX4_drift_35 : decode cX4_drift 35 = .ok (.getfield 60, 3) := by decide +kernel
theorem dX4_drift_38 : decode cX4_drift 38 = .ok (.ireturn, 1) := by decide +kernel
set_option maxRecDepth 20000 in
theorem ggX4_undo_X0_restore : GoodIn wsX4_undo wsX0_restore := goodIn_r _ [9, 10, 11, 12, 13, 14, 15, 16, 17, 18, 19, 20, 21, 22, 23, 24, 25, 26, 27, 28, 29, 106, 107, 108, 109, 110, 111, 112, 113, 114] (by decide +kernel) (by decide +kernel)
set_option maxRecDepth 20000 in
theorem gX4_undo_X0_restore : GoodIn wsX4_undo (wsV RX4 117 RX0 yX0_restore wsX0_restore) := goodIn_app (goodIn_of _ (by decide +kernel)) ggX4_undo_X0_restore
set_option maxRecDepth 20000 in
theorem ggX4_undo_X4_solveAnew : GoodIn wsX4_undo wsX4_solveAnew := goodIn_r _ [34, 35, 4, 36, 37, 38, 39, 40, 41, 42, 43, 44, 45, 46, 47, 48, 49, 50, 51, 52, 53, 54, 25, 26, 27, 55, 56, 57, 58, 59, 60, 61, 62, 63, 64, 65, 66, 67, 68, 69, 70, 71, 72, 73, 74, 75, 76, 77, 78, 79, 80, 81, 82, 83, 84, 85, 86, 15, 87, 88, 89, 90, 91, 92, 93, 94, 95, 96, 97, 98, 99, 100, 101, 102, 103, 104, 105, 109, 110, 111, 112, 113, 114, 115, 116, 117, 118, 119, 120, 121] (by decide +kernel) (by decide +kernel)
set_option maxRecDepth 20000 in
theorem gX4_undo_X4_solveAnew : GoodIn wsX4_undo (wsV RX4 102 RX4 yX4_solveAnew wsX4_solveAnew) := goodIn_app (goodIn_of _ (by decide +kernel)) ggX4_undo_X4_solveAnew
theorem dX4_undo_0 : decode cX4_undo 0 = .ok (.iload_n 1, 1) := by decide +kernel
theorem dX4_undo_1 : decode cX4_undo 1 = .ok (.iconst 1, 1) := by decide +kernel
theorem dX4_undo_2 : decode cX4_undo 2 = .ok (.if_icmp .lt 9, 3) := by decide +kernel
theorem dX4_undo_5 : decode cX4_undo 5 = .ok (.iload_n 1, 1) := by decide +kernel
theorem dX4_undo_6 : decode cX4_undo 6 = .ok (.bipush 20, 2) := by decide +kernel
theorem dX4_undo_8 : decode cX4_undo 8 = .ok (.if_icmp .le 6, 3) := by decide +kernel
theorem dX4_undo_11 : decode cX4_undo 11 = .ok (.ldc 55, 2) := by decide +kernel
theorem dX4_undo_13 : decode cX4_undo 13 = .ok (.ireturn, 1) := by decide +kernel
theorem dX4_undo_14 : decode cX4_undo 14 = .ok (.iload_n 1, 1) := by decide +kernel
theorem dX4_undo_15 : decode cX4_undo 15 = .ok (.aload_n 0, 1) := by decide +kernel
theorem dX4_undo_16 : decode cX4_undo 16 = .ok (.getfield 41, 3) := by decide +kernel
theorem dX4_undo_19 : decode cX4_undo 19 = .ok (.getfield 80, 3) := by decide +kernel
theorem dX4_undo_22 : decode cX4_undo 22 = .ok (.if_icmp .le 6, 3) := by decide +kernel
theorem dX4_undo_25 : decode cX4_undo 25 = .ok (.ldc 89, 2) := by decide +kernel
theorem dX4_undo_27 : decode cX4_undo 27 = .ok (.ireturn, 1) := by decide +kernel
theorem dX4_undo_28 : decode cX4_undo 28 = .ok (.aload_n 0, 1) := by decide +kernel
theorem dX4_undo_29 : decode cX4_undo 29 = .ok (.getfield 41, 3) := by decide +kernel
theorem dX4_undo_32 : decode cX4_undo 32 = .ok (.iload_n 1, 1) := by decide +kernel
theorem dX4_undo_33 : decode cX4_undo 33 = .ok (.aload_n 0, 1) := by decide +kernel
theorem dX4_undo_34 : decode cX4_undo 34 = .ok (.getfield 30, 3) := by decide +kernel
theorem dX4_undo_37 : decode cX4_undo 37 = .ok (.invokevirtual 117, 3) := by decide +kernel
theorem dX4_undo_40 : decode cX4_undo 40 = .ok (.aload_n 0, 1) := by decide +kernel
theorem dX4_undo_41 : decode cX4_undo 41 = .ok (.invokevirtual 102, 3) := by decide +kernel
theorem dX4_undo_44 : decode cX4_undo 44 = .ok (.aload_n 0, 1) := by decide +kernel
theorem dX4_undo_45 : decode cX4_undo 45 = .ok (.getfield 30, 3) := by decide +kernel
theorem dX4_undo_48 : decode cX4_undo 48 = .ok (.getfield 60, 3) := by decide +kernel
theorem dX4_undo_51 : decode cX4_undo 51 = .ok (.ireturn, 1) := by decide +kernel
set_option maxRecDepth 20000 in
theorem ggX4_saying_X4_isSpare : GoodIn wsX4_saying wsX4_isSpare := goodIn_r _ [8, 9, 1, 10, 11, 12, 13, 14, 15, 16, 17, 18, 19, 20, 21, 22, 23, 24, 25, 26, 27, 28, 29, 30, 31, 32, 33, 34, 35, 36, 37, 38, 39, 40, 41, 42, 43, 44, 45, 46, 47, 48, 49, 50, 51, 52, 53, 54, 55, 56, 57, 58, 59, 60, 61, 62, 63, 64, 65, 66, 67, 68, 69, 70, 71, 72, 73, 74, 75, 76, 77, 78, 79, 80, 81, 82, 83, 84, 85, 86, 87, 88, 89, 90, 91, 92, 93, 94, 95, 96, 97, 98, 99, 100, 101, 102, 103, 104, 105, 106, 107, 108, 109, 110, 111, 112, 113, 114, 115] (by decide +kernel) (by decide +kernel)
set_option maxRecDepth 20000 in
theorem gX4_saying_X4_isSpare : GoodIn wsX4_saying (wsV RX4 121 RX4 yX4_isSpare wsX4_isSpare) := goodIn_app (goodIn_of _ (by decide +kernel)) ggX4_saying_X4_isSpare
theorem dX4_saying_0 : decode cX4_saying 0 = .ok (.iload_n 1, 1) := by decide +kernel
theorem dX4_saying_1 : decode cX4_saying 1 = .ok (.ifCond .lt 14, 3) := by decide +kernel
theorem dX4_saying_4 : decode cX4_saying 4 = .ok (.iload_n 1, 1) := by decide +kernel
theorem dX4_saying_5 : decode cX4_saying 5 = .ok (.aload_n 0, 1) := by decide +kernel
theorem dX4_saying_6 : decode cX4_saying 6 = .ok (.getfield 30, 3) := by decide +kernel
theorem dX4_saying_9 : decode cX4_saying 9 = .ok (.getfield 60, 3) := by decide +kernel
theorem dX4_saying_12 : decode cX4_saying 12 = .ok (.if_icmp .lt 6, 3) := by decide +kernel
theorem dX4_saying_15 : decode cX4_saying 15 = .ok (.ldc 97, 2) := by decide +kernel
theorem dX4_saying_17 : decode cX4_saying 17 = .ok (.ireturn, 1) := by decide +kernel
theorem dX4_saying_18 : decode cX4_saying 18 = .ok (.iload_n 2, 1) := by decide +kernel
theorem dX4_saying_19 : decode cX4_saying 19 = .ok (.ifCond .lt 9, 3) := by decide +kernel
theorem dX4_saying_22 : decode cX4_saying 22 = .ok (.iload_n 2, 1) := by decide +kernel
theorem dX4_saying_23 : decode cX4_saying 23 = .ok (.bipush 10, 2) := by decide +kernel
theorem dX4_saying_25 : decode cX4_saying 25 = .ok (.if_icmp .le 6, 3) := by decide +kernel
theorem dX4_saying_28 : decode cX4_saying 28 = .ok (.ldc 55, 2) := by decide +kernel
theorem dX4_saying_30 : decode cX4_saying 30 = .ok (.ireturn, 1) := by decide +kernel
theorem dX4_saying_31 : decode cX4_saying 31 = .ok (.iload_n 2, 1) := by decide +kernel
theorem dX4_saying_32 : decode cX4_saying 32 = .ok (.bipush 10, 2) := by decide +kernel
theorem dX4_saying_34 : decode cX4_saying 34 = .ok (.if_icmp .ne 17, 3) := by decide +kernel
theorem dX4_saying_37 : decode cX4_saying 37 = .ok (.aload_n 0, 1) := by decide +kernel
theorem dX4_saying_38 : decode cX4_saying 38 = .ok (.iload_n 1, 1) := by decide +kernel
theorem dX4_saying_39 : decode cX4_saying 39 = .ok (.invokevirtual 121, 3) := by decide +kernel
theorem dX4_saying_42 : decode cX4_saying 42 = .ok (.ifCond .eq 7, 3) := by decide +kernel
theorem dX4_saying_45 : decode cX4_saying 45 = .ok (.iconst 1, 1) := by decide +kernel
theorem dX4_saying_46 : decode cX4_saying 46 = .ok (.goto 4, 3) := by decide +kernel
theorem dX4_saying_49 : decode cX4_saying 49 = .ok (.iconst 0, 1) := by decide +kernel
theorem dX4_saying_50 : decode cX4_saying 50 = .ok (.ireturn, 1) := by decide +kernel
theorem dX4_saying_51 : decode cX4_saying 51 = .ok (.aload_n 0, 1) := by decide +kernel
theorem dX4_saying_52 : decode cX4_saying 52 = .ok (.getfield 30, 3) := by decide +kernel
theorem dX4_saying_55 : decode cX4_saying 55 = .ok (.getfield 125, 3) := by decide +kernel
theorem dX4_saying_58 : decode cX4_saying 58 = .ok (.iload_n 1, 1) := by decide +kernel
theorem dX4_saying_59 : decode cX4_saying 59 = .ok (.aaload, 1) := by decide +kernel
theorem dX4_saying_60 : decode cX4_saying 60 = .ok (.iload_n 2, 1) := by decide +kernel
theorem dX4_saying_61 : decode cX4_saying 61 = .ok (.iaload, 1) := by decide +kernel
theorem dX4_saying_62 : decode cX4_saying 62 = .ok (.bipush 100, 2) := by decide +kernel
theorem dX4_saying_64 : decode cX4_saying 64 = .ok (.iadd, 1) := by decide +kernel
theorem dX4_saying_65 : decode cX4_saying 65 = .ok (.ireturn, 1) := by decide +kernel
theorem dX4_free_0 : decode cX4_free 0 = .ok (.iload_n 1, 1) := by decide +kernel
theorem dX4_free_1 : decode cX4_free 1 = .ok (.ifCond .lt 14, 3) := by decide +kernel
theorem dX4_free_4 : decode cX4_free 4 = .ok (.iload_n 1, 1) := by decide +kernel
theorem dX4_free_5 : decode cX4_free 5 = .ok (.aload_n 0, 1) := by decide +kernel
theorem dX4_free_6 : decode cX4_free 6 = .ok (.getfield 48, 3) := by decide +kernel
theorem dX4_free_9 : decode cX4_free 9 = .ok (.getfield 63, 3) := by decide +kernel
theorem dX4_free_12 : decode cX4_free 12 = .ok (.if_icmp .lt 7, 3) := by decide +kernel
theorem dX4_free_15 : decode cX4_free 15 = .ok (.ldc2_w 129, 3) := by decide +kernel
theorem dX4_free_18 : decode cX4_free 18 = .ok (.lreturn, 1) := by decide +kernel
theorem dX4_free_19 : decode cX4_free 19 = .ok (.iload_n 2, 1) := by decide +kernel
theorem dX4_free_20 : decode cX4_free 20 = .ok (.ifCond .lt 9, 3) := by decide +kernel
theorem dX4_free_23 : decode cX4_free 23 = .ok (.iload_n 2, 1) := by decide +kernel
theorem dX4_free_24 : decode cX4_free 24 = .ok (.bipush 6, 2) := by decide +kernel
theorem dX4_free_26 : decode cX4_free 26 = .ok (.if_icmp .lt 7, 3) := by decide +kernel
theorem dX4_free_29 : decode cX4_free 29 = .ok (.ldc2_w 131, 3) := by decide +kernel
theorem dX4_free_32 : decode cX4_free 32 = .ok (.lreturn, 1) := by decide +kernel
theorem dX4_free_33 : decode cX4_free 33 = .ok (.aload_n 0, 1) := by decide +kernel
theorem dX4_free_34 : decode cX4_free 34 = .ok (.getfield 48, 3) := by decide +kernel
theorem dX4_free_37 : decode cX4_free 37 = .ok (.getfield 133, 3) := by decide +kernel
theorem dX4_free_40 : decode cX4_free 40 = .ok (.iload_n 1, 1) := by decide +kernel
theorem dX4_free_41 : decode cX4_free 41 = .ok (.aaload, 1) := by decide +kernel
theorem dX4_free_42 : decode cX4_free 42 = .ok (.iload_n 2, 1) := by decide +kernel
theorem dX4_free_43 : decode cX4_free 43 = .ok (.laload, 1) := by decide +kernel
theorem dX4_free_44 : decode cX4_free 44 = .ok (.ldc2_w 137, 3) := by decide +kernel
theorem dX4_free_47 : decode cX4_free 47 = .ok (.ladd, 1) := by decide +kernel
theorem dX4_free_48 : decode cX4_free 48 = .ok (.lreturn, 1) := by decide +kernel
theorem dX4_least_0 : decode cX4_least 0 = .ok (.iload_n 1, 1) := by decide +kernel
theorem dX4_least_1 : decode cX4_least 1 = .ok (.ifCond .lt 18, 3) := by decide +kernel
theorem dX4_least_4 : decode cX4_least 4 = .ok (.iload_n 1, 1) := by decide +kernel
theorem dX4_least_5 : decode cX4_least 5 = .ok (.bipush 6, 2) := by decide +kernel
theorem dX4_least_7 : decode cX4_least 7 = .ok (.if_icmp .ge 12, 3) := by decide +kernel
theorem dX4_least_10 : decode cX4_least 10 = .ok (.iload_n 2, 1) := by decide +kernel
theorem dX4_least_11 : decode cX4_least 11 = .ok (.ifCond .lt 8, 3) := by decide +kernel
theorem dX4_least_14 : decode cX4_least 14 = .ok (.iload_n 2, 1) := by decide +kernel
theorem dX4_least_15 : decode cX4_least 15 = .ok (.iconst 4, 1) := by decide +kernel
theorem dX4_least_16 : decode cX4_least 16 = .ok (.if_icmp .lt 7, 3) := by decide +kernel
theorem dX4_least_19 : decode cX4_least 19 = .ok (.ldc2_w 129, 3) := by decide +kernel
theorem dX4_least_22 : decode cX4_least 22 = .ok (.lreturn, 1) := by decide +kernel
theorem dX4_least_23 : decode cX4_least 23 = .ok (.aload_n 0, 1) := by decide +kernel
theorem dX4_least_24 : decode cX4_least 24 = .ok (.getfield 48, 3) := by decide +kernel
theorem dX4_least_27 : decode cX4_least 27 = .ok (.getfield 139, 3) := by decide +kernel
theorem dX4_least_30 : decode cX4_least 30 = .ok (.iload_n 2, 1) := by decide +kernel
theorem dX4_least_31 : decode cX4_least 31 = .ok (.aaload, 1) := by decide +kernel
theorem dX4_least_32 : decode cX4_least 32 = .ok (.iload_n 1, 1) := by decide +kernel
theorem dX4_least_33 : decode cX4_least 33 = .ok (.laload, 1) := by decide +kernel
theorem dX4_least_34 : decode cX4_least 34 = .ok (.ldc2_w 137, 3) := by decide +kernel
theorem dX4_least_37 : decode cX4_least 37 = .ok (.ladd, 1) := by decide +kernel
theorem dX4_least_38 : decode cX4_least 38 = .ok (.lreturn, 1) := by decide +kernel
set_option maxRecDepth 20000 in
theorem ggX4_isTold_X2_isFixed : GoodIn wsX4_isTold wsX2_isFixed := goodIn_r _ [7, 8, 9, 20, 21, 22, 23, 24, 25, 26] (by decide +kernel) (by decide +kernel)
set_option maxRecDepth 20000 in
theorem gX4_isTold_X2_isFixed : GoodIn wsX4_isTold (wsV RX4 142 RX2 yX2_isFixed wsX2_isFixed) := goodIn_app (goodIn_of _ (by decide +kernel)) ggX4_isTold_X2_isFixed
theorem dX4_isTold_0 : decode cX4_isTold 0 = .ok (.iload_n 1, 1) := by decide +kernel
theorem dX4_isTold_1 : decode cX4_isTold 1 = .ok (.ifCond .lt 9, 3) := by decide +kernel
theorem dX4_isTold_4 : decode cX4_isTold 4 = .ok (.iload_n 1, 1) := by decide +kernel
theorem dX4_isTold_5 : decode cX4_isTold 5 = .ok (.bipush 6, 2) := by decide +kernel
theorem dX4_isTold_7 : decode cX4_isTold 7 = .ok (.if_icmp .lt 6, 3) := by decide +kernel
theorem dX4_isTold_10 : decode cX4_isTold 10 = .ok (.ldc 97, 2) := by decide +kernel
theorem dX4_isTold_12 : decode cX4_isTold 12 = .ok (.ireturn, 1) := by decide +kernel
theorem dX4_isTold_13 : decode cX4_isTold 13 = .ok (.aload_n 0, 1) := by decide +kernel
theorem dX4_isTold_14 : decode cX4_isTold 14 = .ok (.getfield 48, 3) := by decide +kernel
theorem dX4_isTold_17 : decode cX4_isTold 17 = .ok (.iload_n 1, 1) := by decide +kernel
theorem dX4_isTold_18 : decode cX4_isTold 18 = .ok (.invokevirtual 142, 3) := by decide +kernel
theorem dX4_isTold_21 : decode cX4_isTold 21 = .ok (.ifCond .eq 7, 3) := by decide +kernel
theorem dX4_isTold_24 : decode cX4_isTold 24 = .ok (.iconst 1, 1) := by decide +kernel
theorem dX4_isTold_25 : decode cX4_isTold 25 = .ok (.goto 4, 3) := by decide +kernel
theorem dX4_isTold_28 : decode cX4_isTold 28 = .ok (.iconst 0, 1) := by decide +kernel
theorem dX4_isTold_29 : decode cX4_isTold 29 = .ok (.ireturn, 1) := by decide +kernel
set_option maxRecDepth 20000 in
theorem ggX4_follows_X4_readText : GoodIn wsX4_follows wsX4_readText := goodIn_r _ [7, 8, 9, 10, 11, 2, 12, 13, 14, 15, 16, 17, 18, 19, 20, 21, 22, 23, 24, 25, 26, 27, 28, 29, 30, 31, 32, 33, 34, 35, 36, 37, 38, 39, 40, 41, 42, 43, 44, 45, 46, 47, 48, 49, 50, 51, 52, 53, 54, 55, 56, 57, 58, 59, 60, 61, 62, 63, 64, 65, 66, 67, 68, 69, 70, 71, 72, 73, 74, 75, 76, 77, 78, 79, 80, 81, 82, 116, 117, 118, 119, 120, 121, 122, 123, 124, 125, 126, 127, 128, 129, 130, 131, 132, 133, 134] (by decide +kernel) (by decide +kernel)
set_option maxRecDepth 20000 in
theorem gX4_follows_X4_readText : GoodIn wsX4_follows (wsV RX4 81 RX4 yX4_readText wsX4_readText) := goodIn_app (goodIn_of _ (by decide +kernel)) ggX4_follows_X4_readText
set_option maxRecDepth 20000 in
theorem ggX4_follows_X2_imply : GoodIn wsX4_follows wsX2_imply := goodIn_r _ [87, 88, 89, 90, 86, 91, 92, 93, 94, 95, 96, 97, 98, 99, 100, 101, 102, 103, 104, 105, 106, 107, 108, 109, 110, 111, 79, 80, 81, 112, 113, 114, 115, 135, 136, 137, 138, 139, 140, 141] (by decide +kernel) (by decide +kernel)
set_option maxRecDepth 20000 in
theorem gX4_follows_X2_imply : GoodIn wsX4_follows (wsV RX4 145 RX2 yX2_imply wsX2_imply) := goodIn_app (goodIn_of _ (by decide +kernel)) ggX4_follows_X2_imply
theorem dX4_follows_0 : decode cX4_follows 0 = .ok (.aload_n 0, 1) := by decide +kernel
theorem dX4_follows_1 : decode cX4_follows 1 = .ok (.iconst 1, 1) := by decide +kernel
theorem dX4_follows_2 : decode cX4_follows 2 = .ok (.invokevirtual 81, 3) := by decide +kernel
theorem dX4_follows_5 : decode cX4_follows 5 = .ok (.istore_n 1, 1) := by decide +kernel
theorem dX4_follows_6 : decode cX4_follows 6 = .ok (.iload_n 1, 1) := by decide +kernel
theorem dX4_follows_7 : decode cX4_follows 7 = .ok (.ifCond .eq 5, 3) := by decide +kernel
theorem dX4_follows_10 : decode cX4_follows 10 = .ok (.iload_n 1, 1) := by decide +kernel
theorem dX4_follows_11 : decode cX4_follows 11 = .ok (.ireturn, 1) := by decide +kernel
theorem dX4_follows_12 : decode cX4_follows 12 = .ok (.aload_n 0, 1) := by decide +kernel
theorem dX4_follows_13 : decode cX4_follows 13 = .ok (.getfield 48, 3) := by decide +kernel
theorem dX4_follows_16 : decode cX4_follows 16 = .ok (.aload_n 0, 1) := by decide +kernel
theorem dX4_follows_17 : decode cX4_follows 17 = .ok (.getfield 24, 3) := by decide +kernel
theorem dX4_follows_20 : decode cX4_follows 20 = .ok (.invokevirtual 145, 3) := by decide +kernel
theorem dX4_follows_23 : decode cX4_follows 23 = .ok (.ifCond .eq 7, 3) := by decide +kernel
theorem dX4_follows_26 : decode cX4_follows 26 = .ok (.iconst 1, 1) := by decide +kernel
theorem dX4_follows_27 : decode cX4_follows 27 = .ok (.goto 4, 3) := by decide +kernel
theorem dX4_follows_30 : decode cX4_follows 30 = .ok (.iconst 0, 1) := by decide +kernel
theorem dX4_follows_31 : decode cX4_follows 31 = .ok (.ireturn, 1) := by decide +kernel
set_option maxRecDepth 20000 in
theorem ggX4_couldBe_X4_readText : GoodIn wsX4_couldBe wsX4_readText := goodIn_r _ [7, 8, 9, 10, 11, 2, 12, 13, 14, 15, 16, 17, 18, 19, 20, 21, 22, 23, 24, 25, 26, 27, 28, 29, 30, 31, 32, 33, 34, 35, 36, 37, 38, 39, 40, 41, 42, 43, 44, 45, 46, 47, 48, 49, 50, 51, 52, 53, 54, 55, 56, 57, 58, 59, 60, 61, 62, 63, 64, 65, 66, 67, 68, 69, 70, 71, 72, 73, 74, 75, 76, 77, 78, 79, 80, 81, 82, 116, 117, 118, 119, 120, 121, 122, 123, 124, 125, 126, 127, 128, 129, 130, 131, 132, 133, 134] (by decide +kernel) (by decide +kernel)
set_option maxRecDepth 20000 in
theorem gX4_couldBe_X4_readText : GoodIn wsX4_couldBe (wsV RX4 81 RX4 yX4_readText wsX4_readText) := goodIn_app (goodIn_of _ (by decide +kernel)) ggX4_couldBe_X4_readText
set_option maxRecDepth 20000 in
theorem ggX4_couldBe_X2_agrees : GoodIn wsX4_couldBe wsX2_agrees := goodIn_r _ [87, 88, 89, 90, 86, 91, 92, 93, 94, 95, 96, 97, 98, 99, 100, 101, 102, 103, 104, 105, 106, 107, 108, 109, 110, 111, 79, 80, 81, 112, 113, 114, 115, 135, 136, 137, 138, 139, 140, 141] (by decide +kernel) (by decide +kernel)
set_option maxRecDepth 20000 in
theorem gX4_couldBe_X2_agrees : GoodIn wsX4_couldBe (wsV RX4 85 RX2 yX2_agrees wsX2_agrees) := goodIn_app (goodIn_of _ (by decide +kernel)) ggX4_couldBe_X2_agrees
theorem dX4_couldBe_0 : decode cX4_couldBe 0 = .ok (.aload_n 0, 1) := by decide +kernel
theorem dX4_couldBe_1 : decode cX4_couldBe 1 = .ok (.iconst 1, 1) := by decide +kernel
theorem dX4_couldBe_2 : decode cX4_couldBe 2 = .ok (.invokevirtual 81, 3) := by decide +kernel
theorem dX4_couldBe_5 : decode cX4_couldBe 5 = .ok (.istore_n 1, 1) := by decide +kernel
theorem dX4_couldBe_6 : decode cX4_couldBe 6 = .ok (.iload_n 1, 1) := by decide +kernel
theorem dX4_couldBe_7 : decode cX4_couldBe 7 = .ok (.ifCond .eq 5, 3) := by decide +kernel
theorem dX4_couldBe_10 : decode cX4_couldBe 10 = .ok (.iload_n 1, 1) := by decide +kernel
theorem dX4_couldBe_11 : decode cX4_couldBe 11 = .ok (.ireturn, 1) := by decide +kernel
theorem dX4_couldBe_12 : decode cX4_couldBe 12 = .ok (.aload_n 0, 1) := by decide +kernel
theorem dX4_couldBe_13 : decode cX4_couldBe 13 = .ok (.getfield 48, 3) := by decide +kernel
theorem dX4_couldBe_16 : decode cX4_couldBe 16 = .ok (.aload_n 0, 1) := by decide +kernel
theorem dX4_couldBe_17 : decode cX4_couldBe 17 = .ok (.getfield 24, 3) := by decide +kernel
theorem dX4_couldBe_20 : decode cX4_couldBe 20 = .ok (.invokevirtual 85, 3) := by decide +kernel
theorem dX4_couldBe_23 : decode cX4_couldBe 23 = .ok (.ifCond .eq 7, 3) := by decide +kernel
theorem dX4_couldBe_26 : decode cX4_couldBe 26 = .ok (.iconst 1, 1) := by decide +kernel
theorem dX4_couldBe_27 : decode cX4_couldBe 27 = .ok (.goto 4, 3) := by decide +kernel
theorem dX4_couldBe_30 : decode cX4_couldBe 30 = .ok (.iconst 0, 1) := by decide +kernel
theorem dX4_couldBe_31 : decode cX4_couldBe 31 = .ok (.ireturn, 1) := by decide +kernel
set_option maxRecDepth 20000 in
theorem ggX4_measured_X4_readText : GoodIn wsX4_measured wsX4_readText := goodIn_r _ [9, 10, 11, 12, 13, 3, 14, 15, 16, 17, 18, 19, 20, 21, 22, 23, 24, 25, 26, 27, 28, 29, 30, 31, 32, 33, 34, 35, 36, 37, 38, 39, 40, 41, 42, 43, 44, 45, 46, 47, 48, 49, 50, 51, 52, 53, 54, 55, 56, 57, 58, 59, 60, 61, 62, 63, 64, 65, 66, 67, 68, 69, 70, 71, 72, 73, 74, 75, 76, 77, 78, 79, 80, 81, 82, 83, 84, 100, 101, 102, 103, 104, 105, 106, 107, 108, 109, 110, 111, 112, 113, 114, 115, 116, 117, 118] (by decide +kernel) (by decide +kernel)
set_option maxRecDepth 20000 in
theorem gX4_measured_X4_readText : GoodIn wsX4_measured (wsV RX4 81 RX4 yX4_readText wsX4_readText) := goodIn_app (goodIn_of _ (by decide +kernel)) ggX4_measured_X4_readText
set_option maxRecDepth 20000 in
theorem ggX4_measured_X2_powerOf : GoodIn wsX4_measured wsX2_powerOf := goodIn_r _ [89, 90, 91, 92, 88, 93, 119, 120, 121, 122, 123, 124, 125] (by decide +kernel) (by decide +kernel)
set_option maxRecDepth 20000 in
theorem gX4_measured_X2_powerOf : GoodIn wsX4_measured (wsV RX4 148 RX2 yX2_powerOf wsX2_powerOf) := goodIn_app (goodIn_of _ (by decide +kernel)) ggX4_measured_X2_powerOf
set_option maxRecDepth 20000 in
theorem ggX4_measured_X2_rise : GoodIn wsX4_measured wsX2_rise := goodIn_r _ [97, 98, 99, 91, 92, 88, 93, 119, 120, 121, 122, 123, 124, 125] (by decide +kernel) (by decide +kernel)
set_option maxRecDepth 20000 in
theorem gX4_measured_X2_rise : GoodIn wsX4_measured (wsV RX4 152 RX2 yX2_rise wsX2_rise) := goodIn_app (goodIn_of _ (by decide +kernel)) ggX4_measured_X2_rise
theorem dX4_measured_0 : decode cX4_measured 0 = .ok (.iload_n 1, 1) := by decide +kernel
theorem dX4_measured_1 : decode cX4_measured 1 = .ok (.ifCond .lt 9, 3) := by decide +kernel
theorem dX4_measured_4 : decode cX4_measured 4 = .ok (.iload_n 1, 1) := by decide +kernel
theorem dX4_measured_5 : decode cX4_measured 5 = .ok (.bipush 10, 2) := by decide +kernel
theorem dX4_measured_7 : decode cX4_measured 7 = .ok (.if_icmp .lt 7, 3) := by decide +kernel
theorem dX4_measured_10 : decode cX4_measured 10 = .ok (.ldc2_w 131, 3) := by decide +kernel
theorem dX4_measured_13 : decode cX4_measured 13 = .ok (.lreturn, 1) := by decide +kernel
theorem dX4_measured_14 : decode cX4_measured 14 = .ok (.aload_n 0, 1) := by decide +kernel
theorem dX4_measured_15 : decode cX4_measured 15 = .ok (.iconst 0, 1) := by decide +kernel
theorem dX4_measured_16 : decode cX4_measured 16 = .ok (.invokevirtual 81, 3) := by decide +kernel
theorem dX4_measured_19 : decode cX4_measured 19 = .ok (.istore_n 2, 1) := by decide +kernel
theorem dX4_measured_20 : decode cX4_measured 20 = .ok (.iload_n 2, 1) := by decide +kernel
theorem dX4_measured_21 : decode cX4_measured 21 = .ok (.ifCond .eq 6, 3) := by decide +kernel
theorem dX4_measured_24 : decode cX4_measured 24 = .ok (.iload_n 2, 1) := by decide +kernel
theorem dX4_measured_25 : decode cX4_measured 25 = .ok (.i2l, 1) := by decide +kernel
theorem dX4_measured_26 : decode cX4_measured 26 = .ok (.lreturn, 1) := by decide +kernel
theorem dX4_measured_27 : decode cX4_measured 27 = .ok (.iload_n 1, 1) := by decide +kernel
theorem dX4_measured_28 : decode cX4_measured 28 = .ok (.iconst 4, 1) := by decide +kernel
theorem dX4_measured_29 : decode cX4_measured 29 = .ok (.if_icmp .ge 20, 3) := by decide +kernel
theorem dX4_measured_32 : decode cX4_measured 32 = .ok (.aload_n 0, 1) := by decide +kernel
theorem dX4_measured_33 : decode cX4_measured 33 = .ok (.getfield 48, 3) := by decide +kernel
theorem dX4_measured_36 : decode cX4_measured 36 = .ok (.aload_n 0, 1) := by decide +kernel
theorem dX4_measured_37 : decode cX4_measured 37 = .ok (.getfield 24, 3) := by decide +kernel
theorem dX4_measured_40 : decode cX4_measured 40 = .ok (.iload_n 1, 1) := by decide +kernel
theorem dX4_measured_41 : decode cX4_measured 41 = .ok (.invokevirtual 148, 3) := by decide +kernel
theorem dX4_measured_44 : decode cX4_measured 44 = .ok (.ldc2_w 137, 3) := by decide +kernel
theorem dX4_measured_47 : decode cX4_measured 47 = .ok (.ladd, 1) := by decide +kernel
theorem dX4_measured_48 : decode cX4_measured 48 = .ok (.lreturn, 1) := by decide +kernel
theorem dX4_measured_49 : decode cX4_measured 49 = .ok (.aload_n 0, 1) := by decide +kernel
theorem dX4_measured_50 : decode cX4_measured 50 = .ok (.getfield 48, 3) := by decide +kernel
theorem dX4_measured_53 : decode cX4_measured 53 = .ok (.aload_n 0, 1) := by decide +kernel
theorem dX4_measured_54 : decode cX4_measured 54 = .ok (.getfield 24, 3) := by decide +kernel
theorem dX4_measured_57 : decode cX4_measured 57 = .ok (.iload_n 1, 1) := by decide +kernel
theorem dX4_measured_58 : decode cX4_measured 58 = .ok (.iconst 4, 1) := by decide +kernel
theorem dX4_measured_59 : decode cX4_measured 59 = .ok (.isub, 1) := by decide +kernel
theorem dX4_measured_60 : decode cX4_measured 60 = .ok (.invokevirtual 152, 3) := by decide +kernel
theorem dX4_measured_63 : decode cX4_measured 63 = .ok (.ldc2_w 137, 3) := by decide +kernel
theorem dX4_measured_66 : decode cX4_measured 66 = .ok (.ladd, 1) := by decide +kernel
theorem dX4_measured_67 : decode cX4_measured 67 = .ok (.lreturn, 1) := by decide +kernel
set_option maxRecDepth 20000 in
theorem ggX4_converted_X4_readText : GoodIn wsX4_converted wsX4_readText := goodIn_r _ [8, 9, 10, 11, 12, 13, 14, 15, 16, 17, 18, 19, 20, 21, 22, 23, 24, 25, 26, 27, 28, 29, 30, 31, 32, 33, 34, 35, 36, 37, 38, 39, 40, 41, 42, 43, 44, 45, 46, 47, 48, 49, 50, 51, 52, 53, 54, 55, 56, 57, 58, 59, 60, 61, 62, 63, 64, 65, 66, 67, 68, 69, 70, 71, 72, 73, 74, 75, 76, 77, 78, 79, 80, 81, 82, 83, 84, 101, 102, 103, 104, 105, 106, 107, 108, 109, 110, 111, 112, 113, 114, 115, 116, 117, 118, 119] (by decide +kernel) (by decide +kernel)
set_option maxRecDepth 20000 in
theorem gX4_converted_X4_readText : GoodIn wsX4_converted (wsV RX4 81 RX4 yX4_readText wsX4_readText) := goodIn_app (goodIn_of _ (by decide +kernel)) ggX4_converted_X4_readText
set_option maxRecDepth 20000 in
theorem ggX4_converted_X4_canConvert : GoodIn wsX4_converted wsX4_canConvert := goodIn_r _ [88, 13, 101, 102, 103, 104, 105, 106, 107, 108, 109, 110] (by decide +kernel) (by decide +kernel)
set_option maxRecDepth 20000 in
theorem gX4_converted_X4_canConvert : GoodIn wsX4_converted (wsV RX4 156 RX4 yX4_canConvert wsX4_canConvert) := goodIn_app (goodIn_of _ (by decide +kernel)) ggX4_converted_X4_canConvert
set_option maxRecDepth 20000 in
theorem ggX4_converted_X4_scaleProduct : GoodIn wsX4_converted wsX4_scaleProduct := goodIn_r _ [92, 13, 93, 94, 95, 82, 96, 101, 102, 103, 104, 105, 106, 107, 108, 109, 110, 120, 121, 122, 123, 124, 125] (by decide +kernel) (by decide +kernel)
set_option maxRecDepth 20000 in
theorem gX4_converted_X4_scaleProduct : GoodIn wsX4_converted (wsV RX4 162 RX4 yX4_scaleProduct wsX4_scaleProduct) := goodIn_app (goodIn_of _ (by decide +kernel)) ggX4_converted_X4_scaleProduct
set_option maxRecDepth 20000 in
theorem ggX4_converted_X4_whole : GoodIn wsX4_converted wsX4_whole := goodIn_r _ [99, 3, 100] (by decide +kernel) (by decide +kernel)
set_option maxRecDepth 20000 in
theorem gX4_converted_X4_whole : GoodIn wsX4_converted (va_wsS RX4 166 yX4_whole wsX4_whole) := goodIn_app (goodIn_of _ (by decide +kernel)) ggX4_converted_X4_whole
theorem dX4_converted_0 : decode cX4_converted 0 = .ok (.iload_n 1, 1) := by decide +kernel
theorem dX4_converted_1 : decode cX4_converted 1 = .ok (.ifCond .lt 18, 3) := by decide +kernel
theorem dX4_converted_4 : decode cX4_converted 4 = .ok (.iload_n 1, 1) := by decide +kernel
theorem dX4_converted_5 : decode cX4_converted 5 = .ok (.ldc 155, 2) := by decide +kernel
theorem dX4_converted_7 : decode cX4_converted 7 = .ok (.if_icmp .gt 12, 3) := by decide +kernel
theorem dX4_converted_10 : decode cX4_converted 10 = .ok (.iload_n 2, 1) := by decide +kernel
theorem dX4_converted_11 : decode cX4_converted 11 = .ok (.ifCond .lt 8, 3) := by decide +kernel
theorem dX4_converted_14 : decode cX4_converted 14 = .ok (.iload_n 2, 1) := by decide +kernel
theorem dX4_converted_15 : decode cX4_converted 15 = .ok (.iconst 4, 1) := by decide +kernel
theorem dX4_converted_16 : decode cX4_converted 16 = .ok (.if_icmp .lt 7, 3) := by decide +kernel
theorem dX4_converted_19 : decode cX4_converted 19 = .ok (.ldc2_w 131, 3) := by decide +kernel
theorem dX4_converted_22 : decode cX4_converted 22 = .ok (.lreturn, 1) := by decide +kernel
theorem dX4_converted_23 : decode cX4_converted 23 = .ok (.aload_n 0, 1) := by decide +kernel
theorem dX4_converted_24 : decode cX4_converted 24 = .ok (.iconst 0, 1) := by decide +kernel
theorem dX4_converted_25 : decode cX4_converted 25 = .ok (.invokevirtual 81, 3) := by decide +kernel
theorem dX4_converted_28 : decode cX4_converted 28 = .ok (.istore_n 3, 1) := by decide +kernel
theorem dX4_converted_29 : decode cX4_converted 29 = .ok (.iload_n 3, 1) := by decide +kernel
theorem dX4_converted_30 : decode cX4_converted 30 = .ok (.ifCond .eq 6, 3) := by decide +kernel
theorem dX4_converted_33 : decode cX4_converted 33 = .ok (.iload_n 3, 1) := by decide +kernel
theorem dX4_converted_34 : decode cX4_converted 34 = .ok (.i2l, 1) := by decide +kernel
theorem dX4_converted_35 : decode cX4_converted 35 = .ok (.lreturn, 1) := by decide +kernel
theorem dX4_converted_36 : decode cX4_converted 36 = .ok (.aload_n 0, 1) := by decide +kernel
theorem dX4_converted_37 : decode cX4_converted 37 = .ok (.invokevirtual 156, 3) := by decide +kernel
theorem dX4_converted_40 : decode cX4_converted 40 = .ok (.ifCond .ne 7, 3) := by decide +kernel
theorem dX4_converted_43 : decode cX4_converted 43 = .ok (.ldc2_w 160, 3) := by decide +kernel
theorem dX4_converted_46 : decode cX4_converted 46 = .ok (.lreturn, 1) := by decide +kernel
theorem dX4_converted_47 : decode cX4_converted 47 = .ok (.iload_n 1, 1) := by decide +kernel
theorem dX4_converted_48 : decode cX4_converted 48 = .ok (.i2l, 1) := by decide +kernel
theorem dX4_converted_49 : decode cX4_converted 49 = .ok (.aload_n 0, 1) := by decide +kernel
theorem dX4_converted_50 : decode cX4_converted 50 = .ok (.iconst 1, 1) := by decide +kernel
theorem dX4_converted_51 : decode cX4_converted 51 = .ok (.invokevirtual 162, 3) := by decide +kernel
theorem dX4_converted_54 : decode cX4_converted 54 = .ok (.lmul, 1) := by decide +kernel
theorem dX4_converted_55 : decode cX4_converted 55 = .ok (.aload_n 0, 1) := by decide +kernel
theorem dX4_converted_56 : decode cX4_converted 56 = .ok (.iconst 0, 1) := by decide +kernel
theorem dX4_converted_57 : decode cX4_converted 57 = .ok (.invokevirtual 162, 3) := by decide +kernel
theorem dX4_converted_60 : decode cX4_converted 60 = .ok (.iload_n 2, 1) := by decide +kernel
theorem dX4_converted_61 : decode cX4_converted 61 = .ok (.invokestatic 166, 3) := by decide +kernel
theorem dX4_converted_64 : decode cX4_converted 64 = .ok (.lreturn, 1) := by decide +kernel
theorem dX4_seed_0 : decode cX4_seed 0 = .ok (.iload_n 1, 1) := by decide +kernel
theorem dX4_seed_1 : decode cX4_seed 1 = .ok (.ifCond .ge 6, 3) := by decide +kernel
theorem dX4_seed_4 : decode cX4_seed 4 = .ok (.ldc 55, 2) := by decide +kernel
theorem dX4_seed_6 : decode cX4_seed 6 = .ok (.ireturn, 1) := by decide +kernel
theorem dX4_seed_7 : decode cX4_seed 7 = .ok (.aload_n 0, 1) := by decide +kernel
theorem dX4_seed_8 : decode cX4_seed 8 = .ok (.getfield 30, 3) := by decide +kernel
theorem dX4_seed_11 : decode cX4_seed 11 = .ok (.getfield 170, 3) := by decide +kernel
theorem dX4_seed_14 : decode cX4_seed 14 = .ok (.istore_n 2, 1) := by decide +kernel
theorem dX4_seed_15 : decode cX4_seed 15 = .ok (.aload_n 0, 1) := by decide +kernel
theorem dX4_seed_16 : decode cX4_seed 16 = .ok (.getfield 30, 3) := by decide +kernel
theorem dX4_seed_19 : decode cX4_seed 19 = .ok (.iload_n 1, 1) := by decide +kernel
theorem dX4_seed_20 : decode cX4_seed 20 = .ok (.putfield 170, 3) := by decide +kernel
theorem dX4_seed_23 : decode cX4_seed 23 = .ok (.iload_n 2, 1) := by decide +kernel
theorem dX4_seed_24 : decode cX4_seed 24 = .ok (.ireturn, 1) := by decide +kernel
set_option maxRecDepth 20000 in
theorem ggX4_keep_X3_copyDeeds : GoodIn wsX4_keep wsX3_copyDeeds := goodIn_r _ [9, 10, 11, 12, 13, 14, 15, 16, 17, 34, 35, 36, 37, 38, 39] (by decide +kernel) (by decide +kernel)
set_option maxRecDepth 20000 in
theorem gX4_keep_X3_copyDeeds : GoodIn wsX4_keep (wsV RX4 173 RX3 yX3_copyDeeds wsX3_copyDeeds) := goodIn_app (goodIn_of _ (by decide +kernel)) ggX4_keep_X3_copyDeeds
set_option maxRecDepth 20000 in
theorem ggX4_keep_X0_forget : GoodIn wsX4_keep wsX0_forget := goodIn_r _ [22, 23, 40, 41, 42] (by decide +kernel) (by decide +kernel)
set_option maxRecDepth 20000 in
theorem gX4_keep_X0_forget : GoodIn wsX4_keep (wsV RX4 180 RX0 yX0_forget wsX0_forget) := goodIn_app (goodIn_of _ (by decide +kernel)) ggX4_keep_X0_forget
theorem dX4_keep_0 : decode cX4_keep 0 = .ok (.iload_n 1, 1) := by decide +kernel
theorem dX4_keep_1 : decode cX4_keep 1 = .ok (.ifCond .lt 8, 3) := by decide +kernel
theorem dX4_keep_4 : decode cX4_keep 4 = .ok (.iload_n 1, 1) := by decide +kernel
theorem dX4_keep_5 : decode cX4_keep 5 = .ok (.iconst 2, 1) := by decide +kernel
theorem dX4_keep_6 : decode cX4_keep 6 = .ok (.if_icmp .lt 6, 3) := by decide +kernel
theorem dX4_keep_9 : decode cX4_keep 9 = .ok (.ldc 97, 2) := by decide +kernel
theorem dX4_keep_11 : decode cX4_keep 11 = .ok (.ireturn, 1) := by decide +kernel
theorem dX4_keep_12 : decode cX4_keep 12 = .ok (.aload_n 0, 1) := by decide +kernel
theorem dX4_keep_13 : decode cX4_keep 13 = .ok (.getfield 34, 3) := by decide +kernel
theorem dX4_keep_16 : decode cX4_keep 16 = .ok (.iload_n 1, 1) := by decide +kernel
theorem dX4_keep_17 : decode cX4_keep 17 = .ok (.aaload, 1) := by decide +kernel
theorem dX4_keep_18 : decode cX4_keep 18 = .ok (.astore_n 2, 1) := by decide +kernel
theorem dX4_keep_19 : decode cX4_keep 19 = .ok (.aload_n 2, 1) := by decide +kernel
theorem dX4_keep_20 : decode cX4_keep 20 = .ok (.aload_n 0, 1) := by decide +kernel
theorem dX4_keep_21 : decode cX4_keep 21 = .ok (.getfield 30, 3) := by decide +kernel
theorem dX4_keep_24 : decode cX4_keep 24 = .ok (.invokevirtual 173, 3) := by decide +kernel
theorem dX4_keep_27 : decode cX4_keep 27 = .ok (.aload_n 2, 1) := by decide +kernel
theorem dX4_keep_28 : decode cX4_keep 28 = .ok (.aload_n 0, 1) := by decide +kernel
theorem dX4_keep_29 : decode cX4_keep 29 = .ok (.getfield 30, 3) := by decide +kernel
theorem dX4_keep_32 : decode cX4_keep 32 = .ok (.getfield 170, 3) := by decide +kernel
theorem dX4_keep_35 : decode cX4_keep 35 = .ok (.putfield 170, 3) := by decide +kernel
theorem dX4_keep_38 : decode cX4_keep 38 = .ok (.aload_n 2, 1) := by decide +kernel
theorem dX4_keep_39 : decode cX4_keep 39 = .ok (.iconst 1, 1) := by decide +kernel
theorem dX4_keep_40 : decode cX4_keep 40 = .ok (.putfield 176, 3) := by decide +kernel
theorem dX4_keep_43 : decode cX4_keep 43 = .ok (.aload_n 0, 1) := by decide +kernel
theorem dX4_keep_44 : decode cX4_keep 44 = .ok (.getfield 41, 3) := by decide +kernel
theorem dX4_keep_47 : decode cX4_keep 47 = .ok (.invokevirtual 180, 3) := by decide +kernel
theorem dX4_keep_50 : decode cX4_keep 50 = .ok (.iconst 1, 1) := by decide +kernel
theorem dX4_keep_51 : decode cX4_keep 51 = .ok (.ireturn, 1) := by decide +kernel
set_option maxRecDepth 20000 in
theorem ggX4_goBack_X3_copyDeeds : GoodIn wsX4_goBack wsX3_copyDeeds := goodIn_r _ [10, 11, 12, 13, 14, 15, 16, 17, 18, 102, 103, 104, 105, 106, 107] (by decide +kernel) (by decide +kernel)
set_option maxRecDepth 20000 in
theorem gX4_goBack_X3_copyDeeds : GoodIn wsX4_goBack (wsV RX4 173 RX3 yX3_copyDeeds wsX3_copyDeeds) := goodIn_app (goodIn_of _ (by decide +kernel)) ggX4_goBack_X3_copyDeeds
set_option maxRecDepth 20000 in
theorem ggX4_goBack_X0_forget : GoodIn wsX4_goBack wsX0_forget := goodIn_r _ [23, 24, 108, 109, 110] (by decide +kernel) (by decide +kernel)
set_option maxRecDepth 20000 in
theorem gX4_goBack_X0_forget : GoodIn wsX4_goBack (wsV RX4 180 RX0 yX0_forget wsX0_forget) := goodIn_app (goodIn_of _ (by decide +kernel)) ggX4_goBack_X0_forget
set_option maxRecDepth 20000 in
theorem ggX4_goBack_X4_solveAnew : GoodIn wsX4_goBack wsX4_solveAnew := goodIn_r _ [29, 30, 4, 31, 32, 33, 34, 35, 36, 37, 38, 39, 40, 41, 42, 43, 44, 45, 46, 47, 48, 49, 14, 15, 16, 50, 51, 52, 53, 54, 55, 56, 57, 58, 59, 60, 61, 62, 63, 64, 65, 66, 67, 68, 69, 70, 71, 72, 73, 74, 75, 76, 77, 78, 79, 80, 81, 82, 83, 84, 85, 86, 87, 88, 89, 90, 91, 92, 93, 94, 95, 96, 97, 98, 99, 100, 101, 102, 103, 104, 105, 106, 107, 111, 112, 113, 114, 115, 116, 117] (by decide +kernel) (by decide +kernel)
set_option maxRecDepth 20000 in
theorem gX4_goBack_X4_solveAnew : GoodIn wsX4_goBack (wsV RX4 102 RX4 yX4_solveAnew wsX4_solveAnew) := goodIn_app (goodIn_of _ (by decide +kernel)) ggX4_goBack_X4_solveAnew
theorem dX4_goBack_0 : decode cX4_goBack 0 = .ok (.iload_n 1, 1) := by decide +kernel
theorem dX4_goBack_1 : decode cX4_goBack 1 = .ok (.ifCond .lt 8, 3) := by decide +kernel
theorem dX4_goBack_4 : decode cX4_goBack 4 = .ok (.iload_n 1, 1) := by decide +kernel
theorem dX4_goBack_5 : decode cX4_goBack 5 = .ok (.iconst 2, 1) := by decide +kernel
theorem dX4_goBack_6 : decode cX4_goBack 6 = .ok (.if_icmp .lt 6, 3) := by decide +kernel
theorem dX4_goBack_9 : decode cX4_goBack 9 = .ok (.ldc 97, 2) := by decide +kernel
theorem dX4_goBack_11 : decode cX4_goBack 11 = .ok (.ireturn, 1) := by decide +kernel
theorem dX4_goBack_12 : decode cX4_goBack 12 = .ok (.aload_n 0, 1) := by decide +kernel
theorem dX4_goBack_13 : decode cX4_goBack 13 = .ok (.getfield 34, 3) := by decide +kernel
theorem dX4_goBack_16 : decode cX4_goBack 16 = .ok (.iload_n 1, 1) := by decide +kernel
theorem dX4_goBack_17 : decode cX4_goBack 17 = .ok (.aaload, 1) := by decide +kernel
theorem dX4_goBack_18 : decode cX4_goBack 18 = .ok (.astore_n 2, 1) := by decide +kernel
theorem dX4_goBack_19 : decode cX4_goBack 19 = .ok (.aload_n 2, 1) := by decide +kernel
theorem dX4_goBack_20 : decode cX4_goBack 20 = .ok (.getfield 176, 3) := by decide +kernel
theorem dX4_goBack_23 : decode cX4_goBack 23 = .ok (.ifCond .ne 6, 3) := by decide +kernel
theorem dX4_goBack_26 : decode cX4_goBack 26 = .ok (.ldc 89, 2) := by decide +kernel
theorem dX4_goBack_28 : decode cX4_goBack 28 = .ok (.ireturn, 1) := by decide +kernel
theorem dX4_goBack_29 : decode cX4_goBack 29 = .ok (.aload_n 0, 1) := by decide +kernel
theorem dX4_goBack_30 : decode cX4_goBack 30 = .ok (.getfield 30, 3) := by decide +kernel
theorem dX4_goBack_33 : decode cX4_goBack 33 = .ok (.aload_n 2, 1) := by decide +kernel
theorem dX4_goBack_34 : decode cX4_goBack 34 = .ok (.invokevirtual 173, 3) := by decide +kernel
theorem dX4_goBack_37 : decode cX4_goBack 37 = .ok (.aload_n 0, 1) := by decide +kernel
theorem dX4_goBack_38 : decode cX4_goBack 38 = .ok (.getfield 30, 3) := by decide +kernel
theorem dX4_goBack_41 : decode cX4_goBack 41 = .ok (.aload_n 2, 1) := by decide +kernel
theorem dX4_goBack_42 : decode cX4_goBack 42 = .ok (.getfield 170, 3) := by decide +kernel
theorem dX4_goBack_45 : decode cX4_goBack 45 = .ok (.putfield 170, 3) := by decide +kernel
theorem dX4_goBack_48 : decode cX4_goBack 48 = .ok (.aload_n 0, 1) := by decide +kernel
theorem dX4_goBack_49 : decode cX4_goBack 49 = .ok (.getfield 41, 3) := by decide +kernel
theorem dX4_goBack_52 : decode cX4_goBack 52 = .ok (.invokevirtual 180, 3) := by decide +kernel
theorem dX4_goBack_55 : decode cX4_goBack 55 = .ok (.aload_n 0, 1) := by decide +kernel
theorem dX4_goBack_56 : decode cX4_goBack 56 = .ok (.invokevirtual 102, 3) := by decide +kernel
theorem dX4_goBack_59 : decode cX4_goBack 59 = .ok (.iconst 1, 1) := by decide +kernel
theorem dX4_goBack_60 : decode cX4_goBack 60 = .ok (.ireturn, 1) := by decide +kernel
set_option maxRecDepth 20000 in
theorem ggX4_readText_X1_readAll : GoodIn wsX4_readText wsX1_readAll := goodIn_r _ [10, 11, 12, 13, 14, 9, 15, 16, 17, 18, 19, 20, 21, 22, 23, 24, 25, 26, 27, 28, 29, 30, 31, 32, 33, 34, 35, 36, 37, 38, 39, 40, 41, 42, 43, 44, 45, 46, 47, 48, 49, 50, 51, 52, 53, 54, 55, 56, 57, 58, 59, 60, 61, 62, 63, 64, 65, 66, 67, 68, 69, 70, 71, 72, 73, 74, 75, 76, 87, 88, 89, 90, 91, 92, 93, 94, 95] (by decide +kernel) (by decide +kernel)
set_option maxRecDepth 20000 in
theorem gX4_readText_X1_readAll : GoodIn wsX4_readText (wsV RX4 183 RX1 yX1_readAll wsX1_readAll) := goodIn_app (goodIn_of _ (by decide +kernel)) ggX4_readText_X1_readAll
theorem dX4_readText_0 : decode cX4_readText 0 = .ok (.aload_n 0, 1) := by decide +kernel
theorem dX4_readText_1 : decode cX4_readText 1 = .ok (.getfield 20, 3) := by decide +kernel
theorem dX4_readText_4 : decode cX4_readText 4 = .ok (.aload_n 0, 1) := by decide +kernel
theorem dX4_readText_5 : decode cX4_readText 5 = .ok (.getfield 9, 3) := by decide +kernel
theorem dX4_readText_8 : decode cX4_readText 8 = .ok (.aload_n 0, 1) := by decide +kernel
theorem dX4_readText_9 : decode cX4_readText 9 = .ok (.getfield 56, 3) := by decide +kernel
theorem dX4_readText_12 : decode cX4_readText 12 = .ok (.iload_n 1, 1) := by decide +kernel
theorem dX4_readText_13 : decode cX4_readText 13 = .ok (.invokevirtual 183, 3) := by decide +kernel
theorem dX4_readText_16 : decode cX4_readText 16 = .ok (.istore_n 2, 1) := by decide +kernel
theorem dX4_readText_17 : decode cX4_readText 17 = .ok (.aload_n 0, 1) := by decide +kernel
theorem dX4_readText_18 : decode cX4_readText 18 = .ok (.aload_n 0, 1) := by decide +kernel
theorem dX4_readText_19 : decode cX4_readText 19 = .ok (.getfield 20, 3) := by decide +kernel
theorem dX4_readText_22 : decode cX4_readText 22 = .ok (.getfield 187, 3) := by decide +kernel
theorem dX4_readText_25 : decode cX4_readText 25 = .ok (.putfield 13, 3) := by decide +kernel
theorem dX4_readText_28 : decode cX4_readText 28 = .ok (.aload_n 0, 1) := by decide +kernel
theorem dX4_readText_29 : decode cX4_readText 29 = .ok (.iconst 0, 1) := by decide +kernel
theorem dX4_readText_30 : decode cX4_readText 30 = .ok (.putfield 56, 3) := by decide +kernel
theorem dX4_readText_33 : decode cX4_readText 33 = .ok (.iload_n 2, 1) := by decide +kernel
theorem dX4_readText_34 : decode cX4_readText 34 = .ok (.ifCond .eq 8, 3) := by decide +kernel
theorem dX4_readText_37 : decode cX4_readText 37 = .ok (.bipush (-10), 2) := by decide +kernel
theorem dX4_readText_39 : decode cX4_readText 39 = .ok (.iload_n 2, 1) := by decide +kernel
theorem dX4_readText_40 : decode cX4_readText 40 = .ok (.isub, 1) := by decide +kernel
theorem dX4_readText_41 : decode cX4_readText 41 = .ok (.ireturn, 1) := by decide +kernel
theorem dX4_readText_42 : decode cX4_readText 42 = .ok (.iconst 0, 1) := by decide +kernel
theorem dX4_readText_43 : decode cX4_readText 43 = .ok (.istore_n 3, 1) := by decide +kernel
theorem dX4_readText_44 : decode cX4_readText 44 = .ok (.iload_n 3, 1) := by decide +kernel
theorem dX4_readText_45 : decode cX4_readText 45 = .ok (.bipush 10, 2) := by decide +kernel
theorem dX4_readText_47 : decode cX4_readText 47 = .ok (.if_icmp .ge 27, 3) := by decide +kernel
theorem dX4_readText_50 : decode cX4_readText 50 = .ok (.aload_n 0, 1) := by decide +kernel
theorem dX4_readText_51 : decode cX4_readText 51 = .ok (.getfield 24, 3) := by decide +kernel
theorem dX4_readText_54 : decode cX4_readText 54 = .ok (.iload_n 3, 1) := by decide +kernel
theorem dX4_readText_55 : decode cX4_readText 55 = .ok (.aload_n 0, 1) := by decide +kernel
theorem dX4_readText_56 : decode cX4_readText 56 = .ok (.getfield 20, 3) := by decide +kernel
theorem dX4_readText_59 : decode cX4_readText 59 = .ok (.getfield 190, 3) := by decide +kernel
theorem dX4_readText_62 : decode cX4_readText 62 = .ok (.iconst 0, 1) := by decide +kernel
theorem dX4_readText_63 : decode cX4_readText 63 = .ok (.aaload, 1) := by decide +kernel
theorem dX4_readText_64 : decode cX4_readText 64 = .ok (.iload_n 3, 1) := by decide +kernel
theorem dX4_readText_65 : decode cX4_readText 65 = .ok (.laload, 1) := by decide +kernel
theorem dX4_readText_66 : decode cX4_readText 66 = .ok (.l2i, 1) := by decide +kernel
theorem dX4_readText_67 : decode cX4_readText 67 = .ok (.iastore, 1) := by decide +kernel
theorem dX4_readText_68 : decode cX4_readText 68 = .ok (.iinc 3 1, 3) := by decide +kernel
theorem dX4_readText_71 : decode cX4_readText 71 = .ok (.goto (-27), 3) := by decide +kernel
theorem dX4_readText_74 : decode cX4_readText 74 = .ok (.iconst 0, 1) := by decide +kernel
theorem dX4_readText_75 : decode cX4_readText 75 = .ok (.ireturn, 1) := by decide +kernel
set_option maxRecDepth 20000 in
theorem ggX4_putSaying_X3_put : GoodIn wsX4_putSaying wsX3_put := goodIn_r _ [8, 9, 10, 11, 12, 13, 14, 78, 79, 80, 81, 82, 83] (by decide +kernel) (by decide +kernel)
set_option maxRecDepth 20000 in
theorem gX4_putSaying_X3_put : GoodIn wsX4_putSaying (wsV RX4 193 RX3 yX3_put wsX3_put) := goodIn_app (goodIn_of _ (by decide +kernel)) ggX4_putSaying_X3_put
set_option maxRecDepth 20000 in
theorem ggX4_putSaying_X2_put : GoodIn wsX4_putSaying wsX2_put := goodIn_r _ [19, 20, 21, 22, 23, 24, 12, 13, 14, 25, 26, 27, 28, 18, 29, 30, 31, 32, 33, 34, 35, 36, 37, 38, 39, 40, 41, 42, 43, 44, 45, 46, 47, 48, 49, 50, 51, 52, 53, 54, 55, 56, 57, 58, 59, 60, 61, 62, 63, 64, 65, 66, 67, 84, 85, 86, 87, 88, 89, 90] (by decide +kernel) (by decide +kernel)
set_option maxRecDepth 20000 in
theorem gX4_putSaying_X2_put : GoodIn wsX4_putSaying (wsV RX4 197 RX2 yX2_put wsX2_put) := goodIn_app (goodIn_of _ (by decide +kernel)) ggX4_putSaying_X2_put
theorem dX4_putSaying_0 : decode cX4_putSaying 0 = .ok (.aload_n 0, 1) := by decide +kernel
theorem dX4_putSaying_1 : decode cX4_putSaying 1 = .ok (.getfield 30, 3) := by decide +kernel
theorem dX4_putSaying_4 : decode cX4_putSaying 4 = .ok (.aload_n 0, 1) := by decide +kernel
theorem dX4_putSaying_5 : decode cX4_putSaying 5 = .ok (.getfield 24, 3) := by decide +kernel
theorem dX4_putSaying_8 : decode cX4_putSaying 8 = .ok (.invokevirtual 193, 3) := by decide +kernel
theorem dX4_putSaying_11 : decode cX4_putSaying 11 = .ok (.aload_n 0, 1) := by decide +kernel
theorem dX4_putSaying_12 : decode cX4_putSaying 12 = .ok (.getfield 48, 3) := by decide +kernel
theorem dX4_putSaying_15 : decode cX4_putSaying 15 = .ok (.aload_n 0, 1) := by decide +kernel
theorem dX4_putSaying_16 : decode cX4_putSaying 16 = .ok (.getfield 24, 3) := by decide +kernel
theorem dX4_putSaying_19 : decode cX4_putSaying 19 = .ok (.invokevirtual 197, 3) := by decide +kernel
theorem dX4_putSaying_22 : decode cX4_putSaying 22 = .ok (.return_, 1) := by decide +kernel
set_option maxRecDepth 20000 in
theorem ggX4_solveAnew_X2_clear : GoodIn wsX4_solveAnew wsX2_clear := goodIn_r _ [7, 8, 9, 10, 11, 12, 13, 14, 83, 84, 85, 86, 87, 88, 89] (by decide +kernel) (by decide +kernel)
set_option maxRecDepth 20000 in
theorem gX4_solveAnew_X2_clear : GoodIn wsX4_solveAnew (wsV RX4 198 RX2 yX2_clear wsX2_clear) := goodIn_app (goodIn_of _ (by decide +kernel)) ggX4_solveAnew_X2_clear
set_option maxRecDepth 20000 in
theorem ggX4_solveAnew_X2_put : GoodIn wsX4_solveAnew wsX2_put := goodIn_r _ [18, 8, 9, 19, 20, 21, 22, 23, 24, 25, 26, 27, 28, 6, 29, 30, 31, 32, 33, 34, 35, 36, 37, 10, 38, 39, 40, 41, 42, 43, 44, 45, 46, 47, 48, 49, 50, 51, 52, 53, 54, 55, 56, 57, 58, 59, 60, 61, 62, 63, 64, 65, 66, 83, 84, 85, 86, 87, 88, 89] (by decide +kernel) (by decide +kernel)
set_option maxRecDepth 20000 in
theorem gX4_solveAnew_X2_put : GoodIn wsX4_solveAnew (wsV RX4 197 RX2 yX2_put wsX2_put) := goodIn_app (goodIn_of _ (by decide +kernel)) ggX4_solveAnew_X2_put
theorem dX4_solveAnew_0 : decode cX4_solveAnew 0 = .ok (.aload_n 0, 1) := by decide +kernel
theorem dX4_solveAnew_1 : decode cX4_solveAnew 1 = .ok (.getfield 48, 3) := by decide +kernel
theorem dX4_solveAnew_4 : decode cX4_solveAnew 4 = .ok (.invokevirtual 198, 3) := by decide +kernel
theorem dX4_solveAnew_7 : decode cX4_solveAnew 7 = .ok (.iconst 0, 1) := by decide +kernel
theorem dX4_solveAnew_8 : decode cX4_solveAnew 8 = .ok (.istore_n 1, 1) := by decide +kernel
theorem dX4_solveAnew_9 : decode cX4_solveAnew 9 = .ok (.iload_n 1, 1) := by decide +kernel
theorem dX4_solveAnew_10 : decode cX4_solveAnew 10 = .ok (.aload_n 0, 1) := by decide +kernel
theorem dX4_solveAnew_11 : decode cX4_solveAnew 11 = .ok (.getfield 30, 3) := by decide +kernel
theorem dX4_solveAnew_14 : decode cX4_solveAnew 14 = .ok (.getfield 60, 3) := by decide +kernel
theorem dX4_solveAnew_17 : decode cX4_solveAnew 17 = .ok (.if_icmp .ge 25, 3) := by decide +kernel
theorem dX4_solveAnew_20 : decode cX4_solveAnew 20 = .ok (.aload_n 0, 1) := by decide +kernel
theorem dX4_solveAnew_21 : decode cX4_solveAnew 21 = .ok (.getfield 48, 3) := by decide +kernel
theorem dX4_solveAnew_24 : decode cX4_solveAnew 24 = .ok (.aload_n 0, 1) := by decide +kernel
theorem dX4_solveAnew_25 : decode cX4_solveAnew 25 = .ok (.getfield 30, 3) := by decide +kernel
theorem dX4_solveAnew_28 : decode cX4_solveAnew 28 = .ok (.getfield 125, 3) := by decide +kernel
theorem dX4_solveAnew_31 : decode cX4_solveAnew 31 = .ok (.iload_n 1, 1) := by decide +kernel
theorem dX4_solveAnew_32 : decode cX4_solveAnew 32 = .ok (.aaload, 1) := by decide +kernel
theorem dX4_solveAnew_33 : decode cX4_solveAnew 33 = .ok (.invokevirtual 197, 3) := by decide +kernel
theorem dX4_solveAnew_36 : decode cX4_solveAnew 36 = .ok (.iinc 1 1, 3) := by decide +kernel
theorem dX4_solveAnew_39 : decode cX4_solveAnew 39 = .ok (.goto (-30), 3) := by decide +kernel
theorem dX4_solveAnew_42 : decode cX4_solveAnew 42 = .ok (.return_, 1) := by decide +kernel
set_option maxRecDepth 20000 in
theorem ggX4_driftOnce_X0_note : GoodIn wsX4_driftOnce wsX0_note := goodIn_r _ [9, 10, 11, 12, 13, 14, 15, 16, 17, 18, 19, 20, 21, 22, 23, 24, 25, 136, 137, 138, 130, 131, 132, 133, 134, 135] (by decide +kernel) (by decide +kernel)
set_option maxRecDepth 20000 in
theorem gX4_driftOnce_X0_note : GoodIn wsX4_driftOnce (wsV RX4 90 RX0 yX0_note wsX0_note) := goodIn_app (goodIn_of _ (by decide +kernel)) ggX4_driftOnce_X0_note
set_option maxRecDepth 20000 in
theorem ggX4_driftOnce_X3_draw : GoodIn wsX4_driftOnce wsX3_draw := goodIn_r _ [29, 30, 31, 32, 33, 34, 130, 131, 132, 133, 134, 135] (by decide +kernel) (by decide +kernel)
set_option maxRecDepth 20000 in
theorem gX4_driftOnce_X3_draw : GoodIn wsX4_driftOnce (wsV RX4 201 RX3 yX3_draw wsX3_draw) := goodIn_app (goodIn_of _ (by decide +kernel)) ggX4_driftOnce_X3_draw
set_option maxRecDepth 20000 in
theorem ggX4_driftOnce_J7_fill_53178 : GoodIn wsX4_driftOnce wsJ7_fill_53178 := goodIn_r _ [38] (by decide +kernel) (by decide +kernel)
set_option maxRecDepth 20000 in
theorem gX4_driftOnce_J7_fill_53178 : GoodIn wsX4_driftOnce (va_wsS RX4 204 yJ7_fill_53178 wsJ7_fill_53178) := goodIn_app (goodIn_of _ (by decide +kernel)) ggX4_driftOnce_J7_fill_53178
set_option maxRecDepth 20000 in
theorem ggX4_driftOnce_X2_agrees : GoodIn wsX4_driftOnce wsX2_agrees := goodIn_r _ [43, 44, 45, 46, 42, 47, 48, 49, 50, 51, 52, 53, 54, 55, 56, 57, 58, 59, 60, 61, 62, 63, 64, 65, 66, 67, 68, 69, 70, 71, 72, 73, 74, 139, 140, 141, 142, 143, 144, 145] (by decide +kernel) (by decide +kernel)
set_option maxRecDepth 20000 in
theorem gX4_driftOnce_X2_agrees : GoodIn wsX4_driftOnce (wsV RX4 85 RX2 yX2_agrees wsX2_agrees) := goodIn_app (goodIn_of _ (by decide +kernel)) ggX4_driftOnce_X2_agrees
set_option maxRecDepth 20000 in
theorem ggX4_driftOnce_X4_putSaying : GoodIn wsX4_driftOnce wsX4_putSaying := goodIn_r _ [79, 2, 3, 4, 80, 81, 82, 16, 83, 18, 19, 20, 21, 22, 23, 84, 85, 86, 42, 87, 48, 50, 88, 49, 89, 90, 44, 45, 46, 47, 51, 52, 53, 54, 55, 56, 57, 58, 59, 91, 92, 93, 94, 95, 96, 97, 98, 99, 100, 101, 102, 103, 104, 105, 106, 107, 108, 109, 110, 111, 112, 113, 114, 115, 116, 117, 118, 119, 120, 121, 122, 123, 124, 125, 126, 127, 128, 129, 130, 131, 132, 133, 134, 135, 139, 140, 141, 142, 143, 144, 145] (by decide +kernel) (by decide +kernel)
set_option maxRecDepth 20000 in
theorem gX4_driftOnce_X4_putSaying : GoodIn wsX4_driftOnce (wsV RX4 94 RX4 yX4_putSaying wsX4_putSaying) := goodIn_app (goodIn_of _ (by decide +kernel)) ggX4_driftOnce_X4_putSaying
theorem dX4_driftOnce_0 : decode cX4_driftOnce 0 = .ok (.aload_n 0, 1) := by decide +kernel
theorem dX4_driftOnce_1 : decode cX4_driftOnce 1 = .ok (.getfield 41, 3) := by decide +kernel
theorem dX4_driftOnce_4 : decode cX4_driftOnce 4 = .ok (.aload_n 0, 1) := by decide +kernel
theorem dX4_driftOnce_5 : decode cX4_driftOnce 5 = .ok (.getfield 30, 3) := by decide +kernel
theorem dX4_driftOnce_8 : decode cX4_driftOnce 8 = .ok (.invokevirtual 90, 3) := by decide +kernel
theorem dX4_driftOnce_11 : decode cX4_driftOnce 11 = .ok (.aload_n 0, 1) := by decide +kernel
theorem dX4_driftOnce_12 : decode cX4_driftOnce 12 = .ok (.getfield 30, 3) := by decide +kernel
theorem dX4_driftOnce_15 : decode cX4_driftOnce 15 = .ok (.bipush 6, 2) := by decide +kernel
theorem dX4_driftOnce_17 : decode cX4_driftOnce 17 = .ok (.invokevirtual 201, 3) := by decide +kernel
theorem dX4_driftOnce_20 : decode cX4_driftOnce 20 = .ok (.istore_n 1, 1) := by decide +kernel
theorem dX4_driftOnce_21 : decode cX4_driftOnce 21 = .ok (.aload_n 0, 1) := by decide +kernel
theorem dX4_driftOnce_22 : decode cX4_driftOnce 22 = .ok (.getfield 30, 3) := by decide +kernel
theorem dX4_driftOnce_25 : decode cX4_driftOnce 25 = .ok (.bipush 6, 2) := by decide +kernel
theorem dX4_driftOnce_27 : decode cX4_driftOnce 27 = .ok (.invokevirtual 201, 3) := by decide +kernel
theorem dX4_driftOnce_30 : decode cX4_driftOnce 30 = .ok (.istore_n 2, 1) := by decide +kernel
theorem dX4_driftOnce_31 : decode cX4_driftOnce 31 = .ok (.aload_n 0, 1) := by decide +kernel
theorem dX4_driftOnce_32 : decode cX4_driftOnce 32 = .ok (.getfield 30, 3) := by decide +kernel
theorem dX4_driftOnce_35 : decode cX4_driftOnce 35 = .ok (.iconst 5, 1) := by decide +kernel
theorem dX4_driftOnce_36 : decode cX4_driftOnce 36 = .ok (.invokevirtual 201, 3) := by decide +kernel
theorem dX4_driftOnce_39 : decode cX4_driftOnce 39 = .ok (.iconst 2, 1) := by decide +kernel
theorem dX4_driftOnce_40 : decode cX4_driftOnce 40 = .ok (.isub, 1) := by decide +kernel
theorem dX4_driftOnce_41 : decode cX4_driftOnce 41 = .ok (.istore_n 3, 1) := by decide +kernel
theorem dX4_driftOnce_42 : decode cX4_driftOnce 42 = .ok (.aload_n 0, 1) := by decide +kernel
theorem dX4_driftOnce_43 : decode cX4_driftOnce 43 = .ok (.getfield 30, 3) := by decide +kernel
theorem dX4_driftOnce_46 : decode cX4_driftOnce 46 = .ok (.iconst 4, 1) := by decide +kernel
theorem dX4_driftOnce_47 : decode cX4_driftOnce 47 = .ok (.invokevirtual 201, 3) := by decide +kernel
theorem dX4_driftOnce_50 : decode cX4_driftOnce 50 = .ok (.istore 4, 2) := by decide +kernel
theorem dX4_driftOnce_52 : decode cX4_driftOnce 52 = .ok (.aload_n 0, 1) := by decide +kernel
theorem dX4_driftOnce_53 : decode cX4_driftOnce 53 = .ok (.getfield 24, 3) := by decide +kernel
theorem dX4_driftOnce_56 : decode cX4_driftOnce 56 = .ok (.iconst 0, 1) := by decide +kernel
theorem dX4_driftOnce_57 : decode cX4_driftOnce 57 = .ok (.invokestatic 204, 3) := by decide +kernel
theorem dX4_driftOnce_60 : decode cX4_driftOnce 60 = .ok (.aload_n 0, 1) := by decide +kernel
theorem dX4_driftOnce_61 : decode cX4_driftOnce 61 = .ok (.getfield 24, 3) := by decide +kernel
theorem dX4_driftOnce_64 : decode cX4_driftOnce 64 = .ok (.iload_n 1, 1) := by decide +kernel
theorem dX4_driftOnce_65 : decode cX4_driftOnce 65 = .ok (.dup2, 1) := by decide +kernel
theorem dX4_driftOnce_66 : decode cX4_driftOnce 66 = .ok (.iaload, 1) := by decide +kernel
theorem dX4_driftOnce_67 : decode cX4_driftOnce 67 = .ok (.iconst 1, 1) := by decide +kernel
theorem dX4_driftOnce_68 : decode cX4_driftOnce 68 = .ok (.iadd, 1) := by decide +kernel
theorem dX4_driftOnce_69 : decode cX4_driftOnce 69 = .ok (.iastore, 1) := by decide +kernel
theorem dX4_driftOnce_70 : decode cX4_driftOnce 70 = .ok (.aload_n 0, 1) := by decide +kernel
theorem dX4_driftOnce_71 : decode cX4_driftOnce 71 = .ok (.getfield 24, 3) := by decide +kernel
theorem dX4_driftOnce_74 : decode cX4_driftOnce 74 = .ok (.iload_n 2, 1) := by decide +kernel
theorem dX4_driftOnce_75 : decode cX4_driftOnce 75 = .ok (.dup2, 1) := by decide +kernel
theorem dX4_driftOnce_76 : decode cX4_driftOnce 76 = .ok (.iaload, 1) := by decide +kernel
theorem dX4_driftOnce_77 : decode cX4_driftOnce 77 = .ok (.iload_n 3, 1) := by decide +kernel
theorem dX4_driftOnce_78 : decode cX4_driftOnce 78 = .ok (.iadd, 1) := by decide +kernel
theorem dX4_driftOnce_79 : decode cX4_driftOnce 79 = .ok (.iastore, 1) := by decide +kernel
theorem dX4_driftOnce_80 : decode cX4_driftOnce 80 = .ok (.aload_n 0, 1) := by decide +kernel
theorem dX4_driftOnce_81 : decode cX4_driftOnce 81 = .ok (.getfield 24, 3) := by decide +kernel
theorem dX4_driftOnce_84 : decode cX4_driftOnce 84 = .ok (.bipush 6, 2) := by decide +kernel
theorem dX4_driftOnce_86 : decode cX4_driftOnce 86 = .ok (.iload 4, 2) := by decide +kernel
theorem dX4_driftOnce_88 : decode cX4_driftOnce 88 = .ok (.iadd, 1) := by decide +kernel
theorem dX4_driftOnce_89 : decode cX4_driftOnce 89 = .ok (.dup2, 1) := by decide +kernel
theorem dX4_driftOnce_90 : decode cX4_driftOnce 90 = .ok (.iaload, 1) := by decide +kernel
theorem dX4_driftOnce_91 : decode cX4_driftOnce 91 = .ok (.iconst 1, 1) := by decide +kernel
theorem dX4_driftOnce_92 : decode cX4_driftOnce 92 = .ok (.isub, 1) := by decide +kernel
theorem dX4_driftOnce_93 : decode cX4_driftOnce 93 = .ok (.iastore, 1) := by decide +kernel
theorem dX4_driftOnce_94 : decode cX4_driftOnce 94 = .ok (.aload_n 0, 1) := by decide +kernel
theorem dX4_driftOnce_95 : decode cX4_driftOnce 95 = .ok (.getfield 24, 3) := by decide +kernel
theorem dX4_driftOnce_98 : decode cX4_driftOnce 98 = .ok (.iload_n 1, 1) := by decide +kernel
theorem dX4_driftOnce_99 : decode cX4_driftOnce 99 = .ok (.iaload, 1) := by decide +kernel
theorem dX4_driftOnce_100 : decode cX4_driftOnce 100 = .ok (.ifCond .ne 12, 3) := by decide +kernel
theorem dX4_driftOnce_103 : decode cX4_driftOnce 103 = .ok (.aload_n 0, 1) := by decide +kernel
theorem dX4_driftOnce_104 : decode cX4_driftOnce 104 = .ok (.getfield 24, 3) := by decide +kernel
theorem dX4_driftOnce_107 : decode cX4_driftOnce 107 = .ok (.iload_n 2, 1) := by decide +kernel
theorem dX4_driftOnce_108 : decode cX4_driftOnce 108 = .ok (.iaload, 1) := by decide +kernel
theorem dX4_driftOnce_109 : decode cX4_driftOnce 109 = .ok (.ifCond .eq 7, 3) := by decide +kernel
theorem dX4_driftOnce_112 : decode cX4_driftOnce 112 = .ok (.iconst 1, 1) := by decide +kernel
theorem dX4_driftOnce_113 : decode cX4_driftOnce 113 = .ok (.goto 4, 3) := by decide +kernel
theorem dX4_driftOnce_116 : decode cX4_driftOnce 116 = .ok (.iconst 0, 1) := by decide +kernel
theorem dX4_driftOnce_117 : decode cX4_driftOnce 117 = .ok (.istore 5, 2) := by decide +kernel
theorem dX4_driftOnce_119 : decode cX4_driftOnce 119 = .ok (.iload 5, 2) := by decide +kernel
theorem dX4_driftOnce_121 : decode cX4_driftOnce 121 = .ok (.ifCond .eq 33, 3) := by decide +kernel
theorem dX4_driftOnce_124 : decode cX4_driftOnce 124 = .ok (.aload_n 0, 1) := by decide +kernel
theorem dX4_driftOnce_125 : decode cX4_driftOnce 125 = .ok (.getfield 30, 3) := by decide +kernel
theorem dX4_driftOnce_128 : decode cX4_driftOnce 128 = .ok (.getfield 60, 3) := by decide +kernel
theorem dX4_driftOnce_131 : decode cX4_driftOnce 131 = .ok (.bipush 6, 2) := by decide +kernel
theorem dX4_driftOnce_133 : decode cX4_driftOnce 133 = .ok (.if_icmp .ge 21, 3) := by decide +kernel
theorem dX4_driftOnce_136 : decode cX4_driftOnce 136 = .ok (.aload_n 0, 1) := by decide +kernel
theorem dX4_driftOnce_137 : decode cX4_driftOnce 137 = .ok (.getfield 48, 3) := by decide +kernel
theorem dX4_driftOnce_140 : decode cX4_driftOnce 140 = .ok (.aload_n 0, 1) := by decide +kernel
theorem dX4_driftOnce_141 : decode cX4_driftOnce 141 = .ok (.getfield 24, 3) := by decide +kernel
theorem dX4_driftOnce_144 : decode cX4_driftOnce 144 = .ok (.invokevirtual 85, 3) := by decide +kernel
theorem dX4_driftOnce_147 : decode cX4_driftOnce 147 = .ok (.ifCond .eq 7, 3) := by decide +kernel
theorem dX4_driftOnce_150 : decode cX4_driftOnce 150 = .ok (.aload_n 0, 1) := by decide +kernel
theorem dX4_driftOnce_151 : decode cX4_driftOnce 151 = .ok (.invokevirtual 94, 3) := by decide +kernel
theorem dX4_driftOnce_154 : decode cX4_driftOnce 154 = .ok (.return_, 1) := by decide +kernel
set_option maxRecDepth 20000 in
theorem ggX4_countFixed_X2_isFixed : GoodIn wsX4_countFixed wsX2_isFixed := goodIn_r _ [6, 7, 8, 19, 20, 21, 22, 23, 24, 25] (by decide +kernel) (by decide +kernel)
set_option maxRecDepth 20000 in
theorem gX4_countFixed_X2_isFixed : GoodIn wsX4_countFixed (wsV RX4 142 RX2 yX2_isFixed wsX2_isFixed) := goodIn_app (goodIn_of _ (by decide +kernel)) ggX4_countFixed_X2_isFixed
theorem dX4_countFixed_0 : decode cX4_countFixed 0 = .ok (.iconst 0, 1) := by decide +kernel
theorem dX4_countFixed_1 : decode cX4_countFixed 1 = .ok (.istore_n 1, 1) := by decide +kernel
theorem dX4_countFixed_2 : decode cX4_countFixed 2 = .ok (.iconst 0, 1) := by decide +kernel
theorem dX4_countFixed_3 : decode cX4_countFixed 3 = .ok (.istore_n 2, 1) := by decide +kernel
theorem dX4_countFixed_4 : decode cX4_countFixed 4 = .ok (.iload_n 2, 1) := by decide +kernel
theorem dX4_countFixed_5 : decode cX4_countFixed 5 = .ok (.bipush 6, 2) := by decide +kernel
theorem dX4_countFixed_7 : decode cX4_countFixed 7 = .ok (.if_icmp .ge 23, 3) := by decide +kernel
theorem dX4_countFixed_10 : decode cX4_countFixed 10 = .ok (.aload_n 0, 1) := by decide +kernel
theorem dX4_countFixed_11 : decode cX4_countFixed 11 = .ok (.getfield 48, 3) := by decide +kernel
theorem dX4_countFixed_14 : decode cX4_countFixed 14 = .ok (.iload_n 2, 1) := by decide +kernel
theorem dX4_countFixed_15 : decode cX4_countFixed 15 = .ok (.invokevirtual 142, 3) := by decide +kernel
theorem dX4_countFixed_18 : decode cX4_countFixed 18 = .ok (.ifCond .eq 6, 3) := by decide +kernel
theorem dX4_countFixed_21 : decode cX4_countFixed 21 = .ok (.iinc 1 1, 3) := by decide +kernel
theorem dX4_countFixed_24 : decode cX4_countFixed 24 = .ok (.iinc 2 1, 3) := by decide +kernel
theorem dX4_countFixed_27 : decode cX4_countFixed 27 = .ok (.goto (-23), 3) := by decide +kernel
theorem dX4_countFixed_30 : decode cX4_countFixed 30 = .ok (.iload_n 1, 1) := by decide +kernel
theorem dX4_countFixed_31 : decode cX4_countFixed 31 = .ok (.ireturn, 1) := by decide +kernel
set_option maxRecDepth 20000 in
theorem ggX4_countSpare_X4_isSpare : GoodIn wsX4_countSpare wsX4_isSpare := goodIn_r _ [6, 7, 1, 8, 9, 10, 11, 12, 13, 14, 15, 16, 17, 18, 19, 20, 21, 22, 23, 24, 25, 26, 27, 28, 29, 30, 31, 32, 33, 34, 35, 36, 37, 38, 39, 40, 41, 42, 43, 44, 45, 46, 47, 48, 49, 50, 51, 52, 53, 54, 55, 56, 57, 58, 59, 60, 61, 62, 63, 64, 65, 66, 67, 68, 69, 70, 71, 72, 73, 74, 75, 76, 77, 78, 79, 80, 81, 82, 83, 84, 85, 86, 87, 88, 89, 90, 91, 92, 93, 94, 95, 96, 97, 98, 99, 100, 101, 102, 103, 104, 105, 106, 107, 108, 109, 110, 111, 112, 113] (by decide +kernel) (by decide +kernel)
set_option maxRecDepth 20000 in
theorem gX4_countSpare_X4_isSpare : GoodIn wsX4_countSpare (wsV RX4 121 RX4 yX4_isSpare wsX4_isSpare) := goodIn_app (goodIn_of _ (by decide +kernel)) ggX4_countSpare_X4_isSpare
theorem dX4_countSpare_0 : decode cX4_countSpare 0 = .ok (.iconst 0, 1) := by decide +kernel
theorem dX4_countSpare_1 : decode cX4_countSpare 1 = .ok (.istore_n 1, 1) := by decide +kernel
theorem dX4_countSpare_2 : decode cX4_countSpare 2 = .ok (.iconst 0, 1) := by decide +kernel
theorem dX4_countSpare_3 : decode cX4_countSpare 3 = .ok (.istore_n 2, 1) := by decide +kernel
theorem dX4_countSpare_4 : decode cX4_countSpare 4 = .ok (.iload_n 2, 1) := by decide +kernel
theorem dX4_countSpare_5 : decode cX4_countSpare 5 = .ok (.aload_n 0, 1) := by decide +kernel
theorem dX4_countSpare_6 : decode cX4_countSpare 6 = .ok (.getfield 30, 3) := by decide +kernel
theorem dX4_countSpare_9 : decode cX4_countSpare 9 = .ok (.getfield 60, 3) := by decide +kernel
theorem dX4_countSpare_12 : decode cX4_countSpare 12 = .ok (.if_icmp .ge 20, 3) := by decide +kernel
theorem dX4_countSpare_15 : decode cX4_countSpare 15 = .ok (.aload_n 0, 1) := by decide +kernel
theorem dX4_countSpare_16 : decode cX4_countSpare 16 = .ok (.iload_n 2, 1) := by decide +kernel
theorem dX4_countSpare_17 : decode cX4_countSpare 17 = .ok (.invokevirtual 121, 3) := by decide +kernel
theorem dX4_countSpare_20 : decode cX4_countSpare 20 = .ok (.ifCond .eq 6, 3) := by decide +kernel
theorem dX4_countSpare_23 : decode cX4_countSpare 23 = .ok (.iinc 1 1, 3) := by decide +kernel
theorem dX4_countSpare_26 : decode cX4_countSpare 26 = .ok (.iinc 2 1, 3) := by decide +kernel
theorem dX4_countSpare_29 : decode cX4_countSpare 29 = .ok (.goto (-25), 3) := by decide +kernel
theorem dX4_countSpare_32 : decode cX4_countSpare 32 = .ok (.iload_n 1, 1) := by decide +kernel
theorem dX4_countSpare_33 : decode cX4_countSpare 33 = .ok (.ireturn, 1) := by decide +kernel
set_option maxRecDepth 20000 in
theorem ggX4_isSpare_X2_clear : GoodIn wsX4_isSpare wsX2_clear := goodIn_r _ [7, 8, 9, 10, 11, 12, 13, 14, 102, 103, 104, 105, 106, 107, 108] (by decide +kernel) (by decide +kernel)
set_option maxRecDepth 20000 in
theorem gX4_isSpare_X2_clear : GoodIn wsX4_isSpare (wsV RX4 198 RX2 yX2_clear wsX2_clear) := goodIn_app (goodIn_of _ (by decide +kernel)) ggX4_isSpare_X2_clear
set_option maxRecDepth 20000 in
theorem ggX4_isSpare_X2_put : GoodIn wsX4_isSpare wsX2_put := goodIn_r _ [18, 8, 9, 19, 20, 21, 22, 23, 24, 25, 26, 27, 28, 6, 29, 30, 31, 32, 33, 34, 35, 36, 37, 10, 38, 39, 40, 41, 42, 43, 44, 45, 46, 47, 48, 49, 50, 51, 52, 53, 54, 55, 56, 57, 58, 59, 60, 61, 62, 63, 64, 65, 66, 102, 103, 104, 105, 106, 107, 108] (by decide +kernel) (by decide +kernel)
set_option maxRecDepth 20000 in
theorem gX4_isSpare_X2_put : GoodIn wsX4_isSpare (wsV RX4 197 RX2 yX2_put wsX2_put) := goodIn_app (goodIn_of _ (by decide +kernel)) ggX4_isSpare_X2_put
set_option maxRecDepth 20000 in
theorem ggX4_isSpare_X2_imply : GoodIn wsX4_isSpare wsX2_imply := goodIn_r _ [70, 26, 27, 28, 6, 29, 8, 20, 9, 30, 31, 32, 33, 34, 35, 36, 37, 10, 71, 72, 73, 74, 75, 76, 77, 78, 79, 80, 81, 82, 83, 84, 85, 102, 103, 104, 105, 106, 107, 108] (by decide +kernel) (by decide +kernel)
set_option maxRecDepth 20000 in
theorem gX4_isSpare_X2_imply : GoodIn wsX4_isSpare (wsV RX4 145 RX2 yX2_imply wsX2_imply) := goodIn_app (goodIn_of _ (by decide +kernel)) ggX4_isSpare_X2_imply
theorem dX4_isSpare_0 : decode cX4_isSpare 0 = .ok (.aload_n 0, 1) := by decide +kernel
theorem dX4_isSpare_1 : decode cX4_isSpare 1 = .ok (.getfield 52, 3) := by decide +kernel
theorem dX4_isSpare_4 : decode cX4_isSpare 4 = .ok (.invokevirtual 198, 3) := by decide +kernel
theorem dX4_isSpare_7 : decode cX4_isSpare 7 = .ok (.iconst 0, 1) := by decide +kernel
theorem dX4_isSpare_8 : decode cX4_isSpare 8 = .ok (.istore_n 2, 1) := by decide +kernel
theorem dX4_isSpare_9 : decode cX4_isSpare 9 = .ok (.iload_n 2, 1) := by decide +kernel
theorem dX4_isSpare_10 : decode cX4_isSpare 10 = .ok (.aload_n 0, 1) := by decide +kernel
theorem dX4_isSpare_11 : decode cX4_isSpare 11 = .ok (.getfield 30, 3) := by decide +kernel
theorem dX4_isSpare_14 : decode cX4_isSpare 14 = .ok (.getfield 60, 3) := by decide +kernel
theorem dX4_isSpare_17 : decode cX4_isSpare 17 = .ok (.if_icmp .ge 30, 3) := by decide +kernel
theorem dX4_isSpare_20 : decode cX4_isSpare 20 = .ok (.iload_n 2, 1) := by decide +kernel
theorem dX4_isSpare_21 : decode cX4_isSpare 21 = .ok (.iload_n 1, 1) := by decide +kernel
theorem dX4_isSpare_22 : decode cX4_isSpare 22 = .ok (.if_icmp .eq 19, 3) := by decide +kernel
theorem dX4_isSpare_25 : decode cX4_isSpare 25 = .ok (.aload_n 0, 1) := by decide +kernel
theorem dX4_isSpare_26 : decode cX4_isSpare 26 = .ok (.getfield 52, 3) := by decide +kernel
theorem dX4_isSpare_29 : decode cX4_isSpare 29 = .ok (.aload_n 0, 1) := by decide +kernel
theorem dX4_isSpare_30 : decode cX4_isSpare 30 = .ok (.getfield 30, 3) := by decide +kernel
theorem dX4_isSpare_33 : decode cX4_isSpare 33 = .ok (.getfield 125, 3) := by decide +kernel
theorem dX4_isSpare_36 : decode cX4_isSpare 36 = .ok (.iload_n 2, 1) := by decide +kernel
theorem dX4_isSpare_37 : decode cX4_isSpare 37 = .ok (.aaload, 1) := by decide +kernel
theorem dX4_isSpare_38 : decode cX4_isSpare 38 = .ok (.invokevirtual 197, 3) := by decide +kernel
theorem dX4_isSpare_41 : decode cX4_isSpare 41 = .ok (.iinc 2 1, 3) := by decide +kernel
theorem dX4_isSpare_44 : decode cX4_isSpare 44 = .ok (.goto (-35), 3) := by decide +kernel
theorem dX4_isSpare_47 : decode cX4_isSpare 47 = .ok (.aload_n 0, 1) := by decide +kernel
theorem dX4_isSpare_48 : decode cX4_isSpare 48 = .ok (.getfield 52, 3) := by decide +kernel
theorem dX4_isSpare_51 : decode cX4_isSpare 51 = .ok (.aload_n 0, 1) := by decide +kernel
theorem dX4_isSpare_52 : decode cX4_isSpare 52 = .ok (.getfield 30, 3) := by decide +kernel
theorem dX4_isSpare_55 : decode cX4_isSpare 55 = .ok (.getfield 125, 3) := by decide +kernel
theorem dX4_isSpare_58 : decode cX4_isSpare 58 = .ok (.iload_n 1, 1) := by decide +kernel
theorem dX4_isSpare_59 : decode cX4_isSpare 59 = .ok (.aaload, 1) := by decide +kernel
theorem dX4_isSpare_60 : decode cX4_isSpare 60 = .ok (.invokevirtual 145, 3) := by decide +kernel
theorem dX4_isSpare_63 : decode cX4_isSpare 63 = .ok (.ireturn, 1) := by decide +kernel
set_option maxRecDepth 20000 in
theorem ggX4_neededSet_X2_clear : GoodIn wsX4_neededSet wsX2_clear := goodIn_r _ [7, 8, 9, 10, 11, 12, 13, 14, 102, 103, 104, 105, 106, 107, 108] (by decide +kernel) (by decide +kernel)
set_option maxRecDepth 20000 in
theorem gX4_neededSet_X2_clear : GoodIn wsX4_neededSet (wsV RX4 198 RX2 yX2_clear wsX2_clear) := goodIn_app (goodIn_of _ (by decide +kernel)) ggX4_neededSet_X2_clear
set_option maxRecDepth 20000 in
theorem ggX4_neededSet_X2_imply : GoodIn wsX4_neededSet wsX2_imply := goodIn_r _ [18, 19, 20, 21, 6, 22, 8, 23, 9, 24, 25, 26, 27, 28, 29, 30, 31, 10, 32, 33, 34, 35, 36, 37, 38, 39, 40, 41, 42, 43, 44, 45, 46, 102, 103, 104, 105, 106, 107, 108] (by decide +kernel) (by decide +kernel)
set_option maxRecDepth 20000 in
theorem gX4_neededSet_X2_imply : GoodIn wsX4_neededSet (wsV RX4 145 RX2 yX2_imply wsX2_imply) := goodIn_app (goodIn_of _ (by decide +kernel)) ggX4_neededSet_X2_imply
set_option maxRecDepth 20000 in
theorem ggX4_neededSet_X2_put : GoodIn wsX4_neededSet wsX2_put := goodIn_r _ [50, 8, 9, 51, 23, 52, 53, 54, 55, 56, 19, 20, 21, 6, 22, 24, 25, 26, 27, 28, 29, 30, 31, 10, 57, 58, 59, 60, 61, 62, 63, 64, 65, 66, 67, 68, 69, 70, 71, 72, 73, 74, 75, 76, 77, 78, 79, 80, 81, 82, 83, 84, 85, 102, 103, 104, 105, 106, 107, 108] (by decide +kernel) (by decide +kernel)
set_option maxRecDepth 20000 in
theorem gX4_neededSet_X2_put : GoodIn wsX4_neededSet (wsV RX4 197 RX2 yX2_put wsX2_put) := goodIn_app (goodIn_of _ (by decide +kernel)) ggX4_neededSet_X2_put
theorem dX4_neededSet_0 : decode cX4_neededSet 0 = .ok (.iconst 0, 1) := by decide +kernel
theorem dX4_neededSet_1 : decode cX4_neededSet 1 = .ok (.istore_n 1, 1) := by decide +kernel
theorem dX4_neededSet_2 : decode cX4_neededSet 2 = .ok (.aload_n 0, 1) := by decide +kernel
theorem dX4_neededSet_3 : decode cX4_neededSet 3 = .ok (.getfield 52, 3) := by decide +kernel
theorem dX4_neededSet_6 : decode cX4_neededSet 6 = .ok (.invokevirtual 198, 3) := by decide +kernel
theorem dX4_neededSet_9 : decode cX4_neededSet 9 = .ok (.iconst 0, 1) := by decide +kernel
theorem dX4_neededSet_10 : decode cX4_neededSet 10 = .ok (.istore_n 2, 1) := by decide +kernel
theorem dX4_neededSet_11 : decode cX4_neededSet 11 = .ok (.iload_n 2, 1) := by decide +kernel
theorem dX4_neededSet_12 : decode cX4_neededSet 12 = .ok (.aload_n 0, 1) := by decide +kernel
theorem dX4_neededSet_13 : decode cX4_neededSet 13 = .ok (.getfield 30, 3) := by decide +kernel
theorem dX4_neededSet_16 : decode cX4_neededSet 16 = .ok (.getfield 60, 3) := by decide +kernel
theorem dX4_neededSet_19 : decode cX4_neededSet 19 = .ok (.if_icmp .ge 50, 3) := by decide +kernel
theorem dX4_neededSet_22 : decode cX4_neededSet 22 = .ok (.aload_n 0, 1) := by decide +kernel
theorem dX4_neededSet_23 : decode cX4_neededSet 23 = .ok (.getfield 52, 3) := by decide +kernel
theorem dX4_neededSet_26 : decode cX4_neededSet 26 = .ok (.aload_n 0, 1) := by decide +kernel
theorem dX4_neededSet_27 : decode cX4_neededSet 27 = .ok (.getfield 30, 3) := by decide +kernel
theorem dX4_neededSet_30 : decode cX4_neededSet 30 = .ok (.getfield 125, 3) := by decide +kernel
theorem dX4_neededSet_33 : decode cX4_neededSet 33 = .ok (.iload_n 2, 1) := by decide +kernel
theorem dX4_neededSet_34 : decode cX4_neededSet 34 = .ok (.aaload, 1) := by decide +kernel
theorem dX4_neededSet_35 : decode cX4_neededSet 35 = .ok (.invokevirtual 145, 3) := by decide +kernel
theorem dX4_neededSet_38 : decode cX4_neededSet 38 = .ok (.ifCond .ne 25, 3) := by decide +kernel
theorem dX4_neededSet_41 : decode cX4_neededSet 41 = .ok (.aload_n 0, 1) := by decide +kernel
theorem dX4_neededSet_42 : decode cX4_neededSet 42 = .ok (.getfield 52, 3) := by decide +kernel
theorem dX4_neededSet_45 : decode cX4_neededSet 45 = .ok (.aload_n 0, 1) := by decide +kernel
theorem dX4_neededSet_46 : decode cX4_neededSet 46 = .ok (.getfield 30, 3) := by decide +kernel
theorem dX4_neededSet_49 : decode cX4_neededSet 49 = .ok (.getfield 125, 3) := by decide +kernel
theorem dX4_neededSet_52 : decode cX4_neededSet 52 = .ok (.iload_n 2, 1) := by decide +kernel
theorem dX4_neededSet_53 : decode cX4_neededSet 53 = .ok (.aaload, 1) := by decide +kernel
theorem dX4_neededSet_54 : decode cX4_neededSet 54 = .ok (.invokevirtual 197, 3) := by decide +kernel
theorem dX4_neededSet_57 : decode cX4_neededSet 57 = .ok (.iload_n 1, 1) := by decide +kernel
theorem dX4_neededSet_58 : decode cX4_neededSet 58 = .ok (.iconst 1, 1) := by decide +kernel
theorem dX4_neededSet_59 : decode cX4_neededSet 59 = .ok (.iload_n 2, 1) := by decide +kernel
theorem dX4_neededSet_60 : decode cX4_neededSet 60 = .ok (.ishl, 1) := by decide +kernel
theorem dX4_neededSet_61 : decode cX4_neededSet 61 = .ok (.ior, 1) := by decide +kernel
theorem dX4_neededSet_62 : decode cX4_neededSet 62 = .ok (.istore_n 1, 1) := by decide +kernel
theorem dX4_neededSet_63 : decode cX4_neededSet 63 = .ok (.iinc 2 1, 3) := by decide +kernel
theorem dX4_neededSet_66 : decode cX4_neededSet 66 = .ok (.goto (-55), 3) := by decide +kernel
theorem dX4_neededSet_69 : decode cX4_neededSet 69 = .ok (.iload_n 1, 1) := by decide +kernel
theorem dX4_neededSet_70 : decode cX4_neededSet 70 = .ok (.ireturn, 1) := by decide +kernel
theorem dX4_canConvert_0 : decode cX4_canConvert 0 = .ok (.iconst 0, 1) := by decide +kernel
theorem dX4_canConvert_1 : decode cX4_canConvert 1 = .ok (.istore_n 1, 1) := by decide +kernel
theorem dX4_canConvert_2 : decode cX4_canConvert 2 = .ok (.iload_n 1, 1) := by decide +kernel
theorem dX4_canConvert_3 : decode cX4_canConvert 3 = .ok (.bipush 6, 2) := by decide +kernel
theorem dX4_canConvert_5 : decode cX4_canConvert 5 = .ok (.if_icmp .ge 20, 3) := by decide +kernel
theorem dX4_canConvert_8 : decode cX4_canConvert 8 = .ok (.aload_n 0, 1) := by decide +kernel
theorem dX4_canConvert_9 : decode cX4_canConvert 9 = .ok (.getfield 24, 3) := by decide +kernel
theorem dX4_canConvert_12 : decode cX4_canConvert 12 = .ok (.iload_n 1, 1) := by decide +kernel
theorem dX4_canConvert_13 : decode cX4_canConvert 13 = .ok (.iaload, 1) := by decide +kernel
theorem dX4_canConvert_14 : decode cX4_canConvert 14 = .ok (.ifCond .eq 5, 3) := by decide +kernel
theorem dX4_canConvert_17 : decode cX4_canConvert 17 = .ok (.iconst 0, 1) := by decide +kernel
theorem dX4_canConvert_18 : decode cX4_canConvert 18 = .ok (.ireturn, 1) := by decide +kernel
theorem dX4_canConvert_19 : decode cX4_canConvert 19 = .ok (.iinc 1 1, 3) := by decide +kernel
theorem dX4_canConvert_22 : decode cX4_canConvert 22 = .ok (.goto (-20), 3) := by decide +kernel
theorem dX4_canConvert_25 : decode cX4_canConvert 25 = .ok (.bipush 6, 2) := by decide +kernel
theorem dX4_canConvert_27 : decode cX4_canConvert 27 = .ok (.istore_n 1, 1) := by decide +kernel
theorem dX4_canConvert_28 : decode cX4_canConvert 28 = .ok (.iload_n 1, 1) := by decide +kernel
theorem dX4_canConvert_29 : decode cX4_canConvert 29 = .ok (.bipush 10, 2) := by decide +kernel
theorem dX4_canConvert_31 : decode cX4_canConvert 31 = .ok (.if_icmp .ge 32, 3) := by decide +kernel
theorem dX4_canConvert_34 : decode cX4_canConvert 34 = .ok (.aload_n 0, 1) := by decide +kernel
theorem dX4_canConvert_35 : decode cX4_canConvert 35 = .ok (.getfield 24, 3) := by decide +kernel
theorem dX4_canConvert_38 : decode cX4_canConvert 38 = .ok (.iload_n 1, 1) := by decide +kernel
theorem dX4_canConvert_39 : decode cX4_canConvert 39 = .ok (.iaload, 1) := by decide +kernel
theorem dX4_canConvert_40 : decode cX4_canConvert 40 = .ok (.iconst 3, 1) := by decide +kernel
theorem dX4_canConvert_41 : decode cX4_canConvert 41 = .ok (.if_icmp .gt 14, 3) := by decide +kernel
theorem dX4_canConvert_44 : decode cX4_canConvert 44 = .ok (.aload_n 0, 1) := by decide +kernel
theorem dX4_canConvert_45 : decode cX4_canConvert 45 = .ok (.getfield 24, 3) := by decide +kernel
theorem dX4_canConvert_48 : decode cX4_canConvert 48 = .ok (.iload_n 1, 1) := by decide +kernel
theorem dX4_canConvert_49 : decode cX4_canConvert 49 = .ok (.iaload, 1) := by decide +kernel
theorem dX4_canConvert_50 : decode cX4_canConvert 50 = .ok (.bipush (-3), 2) := by decide +kernel
theorem dX4_canConvert_52 : decode cX4_canConvert 52 = .ok (.if_icmp .ge 5, 3) := by decide +kernel
theorem dX4_canConvert_55 : decode cX4_canConvert 55 = .ok (.iconst 0, 1) := by decide +kernel
theorem dX4_canConvert_56 : decode cX4_canConvert 56 = .ok (.ireturn, 1) := by decide +kernel
theorem dX4_canConvert_57 : decode cX4_canConvert 57 = .ok (.iinc 1 1, 3) := by decide +kernel
theorem dX4_canConvert_60 : decode cX4_canConvert 60 = .ok (.goto (-32), 3) := by decide +kernel
theorem dX4_canConvert_63 : decode cX4_canConvert 63 = .ok (.iconst 1, 1) := by decide +kernel
theorem dX4_canConvert_64 : decode cX4_canConvert 64 = .ok (.ireturn, 1) := by decide +kernel
theorem dX4_scaleProduct_0 : decode cX4_scaleProduct 0 = .ok (.lconst 1, 1) := by decide +kernel
theorem dX4_scaleProduct_1 : decode cX4_scaleProduct 1 = .ok (.lstore_n 2, 1) := by decide +kernel
theorem dX4_scaleProduct_2 : decode cX4_scaleProduct 2 = .ok (.iconst 0, 1) := by decide +kernel
theorem dX4_scaleProduct_3 : decode cX4_scaleProduct 3 = .ok (.istore 4, 2) := by decide +kernel
theorem dX4_scaleProduct_5 : decode cX4_scaleProduct 5 = .ok (.iload 4, 2) := by decide +kernel
theorem dX4_scaleProduct_7 : decode cX4_scaleProduct 7 = .ok (.iconst 4, 1) := by decide +kernel
theorem dX4_scaleProduct_8 : decode cX4_scaleProduct 8 = .ok (.if_icmp .ge 85, 3) := by decide +kernel
theorem dX4_scaleProduct_11 : decode cX4_scaleProduct 11 = .ok (.aload_n 0, 1) := by decide +kernel
theorem dX4_scaleProduct_12 : decode cX4_scaleProduct 12 = .ok (.getfield 24, 3) := by decide +kernel
theorem dX4_scaleProduct_15 : decode cX4_scaleProduct 15 = .ok (.bipush 6, 2) := by decide +kernel
theorem dX4_scaleProduct_17 : decode cX4_scaleProduct 17 = .ok (.iload 4, 2) := by decide +kernel
theorem dX4_scaleProduct_19 : decode cX4_scaleProduct 19 = .ok (.iadd, 1) := by decide +kernel
theorem dX4_scaleProduct_20 : decode cX4_scaleProduct 20 = .ok (.iaload, 1) := by decide +kernel
theorem dX4_scaleProduct_21 : decode cX4_scaleProduct 21 = .ok (.istore 5, 2) := by decide +kernel
theorem dX4_scaleProduct_23 : decode cX4_scaleProduct 23 = .ok (.iload 5, 2) := by decide +kernel
theorem dX4_scaleProduct_25 : decode cX4_scaleProduct 25 = .ok (.ifCond .le 7, 3) := by decide +kernel
theorem dX4_scaleProduct_28 : decode cX4_scaleProduct 28 = .ok (.iconst 1, 1) := by decide +kernel
theorem dX4_scaleProduct_29 : decode cX4_scaleProduct 29 = .ok (.goto 4, 3) := by decide +kernel
theorem dX4_scaleProduct_32 : decode cX4_scaleProduct 32 = .ok (.iconst 0, 1) := by decide +kernel
theorem dX4_scaleProduct_33 : decode cX4_scaleProduct 33 = .ok (.iload_n 1, 1) := by decide +kernel
theorem dX4_scaleProduct_34 : decode cX4_scaleProduct 34 = .ok (.if_icmp .ne 16, 3) := by decide +kernel
theorem dX4_scaleProduct_37 : decode cX4_scaleProduct 37 = .ok (.aload_n 0, 1) := by decide +kernel
theorem dX4_scaleProduct_38 : decode cX4_scaleProduct 38 = .ok (.getfield 30, 3) := by decide +kernel
theorem dX4_scaleProduct_41 : decode cX4_scaleProduct 41 = .ok (.getfield 105, 3) := by decide +kernel
theorem dX4_scaleProduct_44 : decode cX4_scaleProduct 44 = .ok (.iload 4, 2) := by decide +kernel
theorem dX4_scaleProduct_46 : decode cX4_scaleProduct 46 = .ok (.iaload, 1) := by decide +kernel
theorem dX4_scaleProduct_47 : decode cX4_scaleProduct 47 = .ok (.goto 13, 3) := by decide +kernel
theorem dX4_scaleProduct_50 : decode cX4_scaleProduct 50 = .ok (.aload_n 0, 1) := by decide +kernel
theorem dX4_scaleProduct_51 : decode cX4_scaleProduct 51 = .ok (.getfield 30, 3) := by decide +kernel
theorem dX4_scaleProduct_54 : decode cX4_scaleProduct 54 = .ok (.getfield 108, 3) := by decide +kernel
theorem dX4_scaleProduct_57 : decode cX4_scaleProduct 57 = .ok (.iload 4, 2) := by decide +kernel
theorem dX4_scaleProduct_59 : decode cX4_scaleProduct 59 = .ok (.iaload, 1) := by decide +kernel
theorem dX4_scaleProduct_60 : decode cX4_scaleProduct 60 = .ok (.istore 6, 2) := by decide +kernel
theorem dX4_scaleProduct_62 : decode cX4_scaleProduct 62 = .ok (.iconst 0, 1) := by decide +kernel
theorem dX4_scaleProduct_63 : decode cX4_scaleProduct 63 = .ok (.istore 7, 2) := by decide +kernel
theorem dX4_scaleProduct_65 : decode cX4_scaleProduct 65 = .ok (.iload 7, 2) := by decide +kernel
theorem dX4_scaleProduct_67 : decode cX4_scaleProduct 67 = .ok (.iload 5, 2) := by decide +kernel
theorem dX4_scaleProduct_69 : decode cX4_scaleProduct 69 = .ok (.invokestatic 210, 3) := by decide +kernel
theorem dX4_scaleProduct_72 : decode cX4_scaleProduct 72 = .ok (.if_icmp .ge 15, 3) := by decide +kernel
theorem dX4_scaleProduct_75 : decode cX4_scaleProduct 75 = .ok (.lload_n 2, 1) := by decide +kernel
theorem dX4_scaleProduct_76 : decode cX4_scaleProduct 76 = .ok (.iload 6, 2) := by decide +kernel
theorem dX4_scaleProduct_78 : decode cX4_scaleProduct 78 = .ok (.i2l, 1) := by decide +kernel
theorem dX4_scaleProduct_79 : decode cX4_scaleProduct 79 = .ok (.lmul, 1) := by decide +kernel
theorem dX4_scaleProduct_80 : decode cX4_scaleProduct 80 = .ok (.lstore_n 2, 1) := by decide +kernel
theorem dX4_scaleProduct_81 : decode cX4_scaleProduct 81 = .ok (.iinc 7 1, 3) := by decide +kernel
theorem dX4_scaleProduct_84 : decode cX4_scaleProduct 84 = .ok (.goto (-19), 3) := by decide +kernel
theorem dX4_scaleProduct_87 : decode cX4_scaleProduct 87 = .ok (.iinc 4 1, 3) := by decide +kernel
theorem dX4_scaleProduct_90 : decode cX4_scaleProduct 90 = .ok (.goto (-85), 3) := by decide +kernel
theorem dX4_scaleProduct_93 : decode cX4_scaleProduct 93 = .ok (.lload_n 2, 1) := by decide +kernel
theorem dX4_scaleProduct_94 : decode cX4_scaleProduct 94 = .ok (.lreturn, 1) := by decide +kernel
theorem dX4_whole_0 : decode cX4_whole 0 = .ok (.lload_n 2, 1) := by decide +kernel
theorem dX4_whole_1 : decode cX4_whole 1 = .ok (.lconst 0, 1) := by decide +kernel
theorem dX4_whole_2 : decode cX4_whole 2 = .ok (.lcmp, 1) := by decide +kernel
theorem dX4_whole_3 : decode cX4_whole 3 = .ok (.ifCond .gt 7, 3) := by decide +kernel
theorem dX4_whole_6 : decode cX4_whole 6 = .ok (.ldc2_w 160, 3) := by decide +kernel
theorem dX4_whole_9 : decode cX4_whole 9 = .ok (.lreturn, 1) := by decide +kernel
theorem dX4_whole_10 : decode cX4_whole 10 = .ok (.lload_n 0, 1) := by decide +kernel
theorem dX4_whole_11 : decode cX4_whole 11 = .ok (.lload_n 2, 1) := by decide +kernel
theorem dX4_whole_12 : decode cX4_whole 12 = .ok (.ldiv, 1) := by decide +kernel
theorem dX4_whole_13 : decode cX4_whole 13 = .ok (.lstore 5, 2) := by decide +kernel
theorem dX4_whole_15 : decode cX4_whole 15 = .ok (.ldc2_w 215, 3) := by decide +kernel
theorem dX4_whole_18 : decode cX4_whole 18 = .ok (.lload_n 0, 1) := by decide +kernel
theorem dX4_whole_19 : decode cX4_whole 19 = .ok (.lload_n 2, 1) := by decide +kernel
theorem dX4_whole_20 : decode cX4_whole 20 = .ok (.lrem, 1) := by decide +kernel
theorem dX4_whole_21 : decode cX4_whole 21 = .ok (.lmul, 1) := by decide +kernel
theorem dX4_whole_22 : decode cX4_whole 22 = .ok (.lstore 7, 2) := by decide +kernel
theorem dX4_whole_24 : decode cX4_whole 24 = .ok (.iload 4, 2) := by decide +kernel
theorem dX4_whole_26 : decode cX4_whole 26 = .ok (.tableswitch 66 0 2 #[26, 32, 49], 26) := by decide +kernel
theorem dX4_whole_52 : decode cX4_whole 52 = .ok (.iconst 0, 1) := by decide +kernel
theorem dX4_whole_53 : decode cX4_whole 53 = .ok (.istore 9, 2) := by decide +kernel
theorem dX4_whole_55 : decode cX4_whole 55 = .ok (.goto 69, 3) := by decide +kernel
theorem dX4_whole_58 : decode cX4_whole 58 = .ok (.lload 7, 2) := by decide +kernel
theorem dX4_whole_60 : decode cX4_whole 60 = .ok (.lconst 0, 1) := by decide +kernel
theorem dX4_whole_61 : decode cX4_whole 61 = .ok (.lcmp, 1) := by decide +kernel
theorem dX4_whole_62 : decode cX4_whole 62 = .ok (.ifCond .le 7, 3) := by decide +kernel
theorem dX4_whole_65 : decode cX4_whole 65 = .ok (.iconst 1, 1) := by decide +kernel
theorem dX4_whole_66 : decode cX4_whole 66 = .ok (.goto 4, 3) := by decide +kernel
theorem dX4_whole_69 : decode cX4_whole 69 = .ok (.iconst 0, 1) := by decide +kernel
theorem dX4_whole_70 : decode cX4_whole 70 = .ok (.istore 9, 2) := by decide +kernel
theorem dX4_whole_72 : decode cX4_whole 72 = .ok (.goto 52, 3) := by decide +kernel
theorem dX4_whole_75 : decode cX4_whole 75 = .ok (.lload 7, 2) := by decide +kernel
theorem dX4_whole_77 : decode cX4_whole 77 = .ok (.lload_n 2, 1) := by decide +kernel
theorem dX4_whole_78 : decode cX4_whole 78 = .ok (.lcmp, 1) := by decide +kernel
theorem dX4_whole_79 : decode cX4_whole 79 = .ok (.ifCond .lt 7, 3) := by decide +kernel
theorem dX4_whole_82 : decode cX4_whole 82 = .ok (.iconst 1, 1) := by decide +kernel
theorem dX4_whole_83 : decode cX4_whole 83 = .ok (.goto 4, 3) := by decide +kernel
theorem dX4_whole_86 : decode cX4_whole 86 = .ok (.iconst 0, 1) := by decide +kernel
theorem dX4_whole_87 : decode cX4_whole 87 = .ok (.istore 9, 2) := by decide +kernel
theorem dX4_whole_89 : decode cX4_whole 89 = .ok (.goto 35, 3) := by decide +kernel
theorem dX4_whole_92 : decode cX4_whole 92 = .ok (.lload 7, 2) := by decide +kernel
theorem dX4_whole_94 : decode cX4_whole 94 = .ok (.lload_n 2, 1) := by decide +kernel
theorem dX4_whole_95 : decode cX4_whole 95 = .ok (.lcmp, 1) := by decide +kernel
theorem dX4_whole_96 : decode cX4_whole 96 = .ok (.ifCond .gt 21, 3) := by decide +kernel
theorem dX4_whole_99 : decode cX4_whole 99 = .ok (.lload 7, 2) := by decide +kernel
theorem dX4_whole_101 : decode cX4_whole 101 = .ok (.lload_n 2, 1) := by decide +kernel
theorem dX4_whole_102 : decode cX4_whole 102 = .ok (.lcmp, 1) := by decide +kernel
theorem dX4_whole_103 : decode cX4_whole 103 = .ok (.ifCond .ne 18, 3) := by decide +kernel
theorem dX4_whole_106 : decode cX4_whole 106 = .ok (.lload 5, 2) := by decide +kernel
theorem dX4_whole_108 : decode cX4_whole 108 = .ok (.ldc2_w 215, 3) := by decide +kernel
theorem dX4_whole_111 : decode cX4_whole 111 = .ok (.lrem, 1) := by decide +kernel
theorem dX4_whole_112 : decode cX4_whole 112 = .ok (.lconst 0, 1) := by decide +kernel
theorem dX4_whole_113 : decode cX4_whole 113 = .ok (.lcmp, 1) := by decide +kernel
theorem dX4_whole_114 : decode cX4_whole 114 = .ok (.ifCond .eq 7, 3) := by decide +kernel
theorem dX4_whole_117 : decode cX4_whole 117 = .ok (.iconst 1, 1) := by decide +kernel
theorem dX4_whole_118 : decode cX4_whole 118 = .ok (.goto 4, 3) := by decide +kernel
theorem dX4_whole_121 : decode cX4_whole 121 = .ok (.iconst 0, 1) := by decide +kernel
theorem dX4_whole_122 : decode cX4_whole 122 = .ok (.istore 9, 2) := by decide +kernel
theorem dX4_whole_124 : decode cX4_whole 124 = .ok (.iload 9, 2) := by decide +kernel
theorem dX4_whole_126 : decode cX4_whole 126 = .ok (.ifCond .eq 10, 3) := by decide +kernel
theorem dX4_whole_129 : decode cX4_whole 129 = .ok (.lload 5, 2) := by decide +kernel
theorem dX4_whole_131 : decode cX4_whole 131 = .ok (.lconst 1, 1) := by decide +kernel
theorem dX4_whole_132 : decode cX4_whole 132 = .ok (.ladd, 1) := by decide +kernel
theorem dX4_whole_133 : decode cX4_whole 133 = .ok (.goto 5, 3) := by decide +kernel
theorem dX4_whole_136 : decode cX4_whole 136 = .ok (.lload 5, 2) := by decide +kernel
theorem dX4_whole_138 : decode cX4_whole 138 = .ok (.lreturn, 1) := by decide +kernel
theorem dX5_init_0 : decode cX5_init 0 = .ok (.aload_n 0, 1) := by decide +kernel
theorem dX5_init_1 : decode cX5_init 1 = .ok (.invokespecial 1, 3) := by decide +kernel
theorem dX5_init_4 : decode cX5_init 4 = .ok (.aload_n 0, 1) := by decide +kernel
theorem dX5_init_5 : decode cX5_init 5 = .ok (.bipush 60, 2) := by decide +kernel
theorem dX5_init_7 : decode cX5_init 7 = .ok (.newarray .int, 2) := by decide +kernel
theorem dX5_init_9 : decode cX5_init 9 = .ok (.putfield 7, 3) := by decide +kernel
theorem dX5_init_12 : decode cX5_init 12 = .ok (.aload_n 0, 1) := by decide +kernel
theorem dX5_init_13 : decode cX5_init 13 = .ok (.iconst (-1), 1) := by decide +kernel
theorem dX5_init_14 : decode cX5_init 14 = .ok (.putfield 13, 3) := by decide +kernel
theorem dX5_init_17 : decode cX5_init 17 = .ok (.aload_n 0, 1) := by decide +kernel
theorem dX5_init_18 : decode cX5_init 18 = .ok (.bipush 69, 2) := by decide +kernel
theorem dX5_init_20 : decode cX5_init 20 = .ok (.newarray .int, 2) := by decide +kernel
theorem dX5_init_22 : decode cX5_init 22 = .ok (.putfield 17, 3) := by decide +kernel
theorem dX5_init_25 : decode cX5_init 25 = .ok (.aload_n 0, 1) := by decide +kernel
theorem dX5_init_26 : decode cX5_init 26 = .ok (.sipush 1380, 3) := by decide +kernel
theorem dX5_init_29 : decode cX5_init 29 = .ok (.newarray .int, 2) := by decide +kernel
theorem dX5_init_31 : decode cX5_init 31 = .ok (.putfield 20, 3) := by decide +kernel
theorem dX5_init_34 : decode cX5_init 34 = .ok (.aload_n 0, 1) := by decide +kernel
theorem dX5_init_35 : decode cX5_init 35 = .ok (.sipush 138, 3) := by decide +kernel
theorem dX5_init_38 : decode cX5_init 38 = .ok (.newarray .int, 2) := by decide +kernel
theorem dX5_init_40 : decode cX5_init 40 = .ok (.putfield 23, 3) := by decide +kernel
theorem dX5_init_43 : decode cX5_init 43 = .ok (.aload_n 0, 1) := by decide +kernel
theorem dX5_init_44 : decode cX5_init 44 = .ok (.iconst 2, 1) := by decide +kernel
theorem dX5_init_45 : decode cX5_init 45 = .ok (.newarray .long, 2) := by decide +kernel
theorem dX5_init_47 : decode cX5_init 47 = .ok (.putfield 26, 3) := by decide +kernel
theorem dX5_init_50 : decode cX5_init 50 = .ok (.aload_n 0, 1) := by decide +kernel
theorem dX5_init_51 : decode cX5_init 51 = .ok (.iconst 2, 1) := by decide +kernel
theorem dX5_init_52 : decode cX5_init 52 = .ok (.newarray .boolean, 2) := by decide +kernel
theorem dX5_init_54 : decode cX5_init 54 = .ok (.putfield 30, 3) := by decide +kernel
theorem dX5_init_57 : decode cX5_init 57 = .ok (.aload_n 0, 1) := by decide +kernel
theorem dX5_init_58 : decode cX5_init 58 = .ok (.bipush 70, 2) := by decide +kernel
theorem dX5_init_60 : decode cX5_init 60 = .ok (.newarray .int, 2) := by decide +kernel
theorem dX5_init_62 : decode cX5_init 62 = .ok (.putfield 34, 3) := by decide +kernel
theorem dX5_init_65 : decode cX5_init 65 = .ok (.aload_n 0, 1) := by decide +kernel
theorem dX5_init_66 : decode cX5_init 66 = .ok (.bipush 7, 2) := by decide +kernel
theorem dX5_init_68 : decode cX5_init 68 = .ok (.newarray .int, 2) := by decide +kernel
theorem dX5_init_70 : decode cX5_init 70 = .ok (.putfield 37, 3) := by decide +kernel
theorem dX5_init_73 : decode cX5_init 73 = .ok (.aload_n 0, 1) := by decide +kernel
theorem dX5_init_74 : decode cX5_init 74 = .ok (.bipush 10, 2) := by decide +kernel
theorem dX5_init_76 : decode cX5_init 76 = .ok (.newarray .int, 2) := by decide +kernel
theorem dX5_init_78 : decode cX5_init 78 = .ok (.putfield 40, 3) := by decide +kernel
theorem dX5_init_81 : decode cX5_init 81 = .ok (.aload_n 0, 1) := by decide +kernel
theorem dX5_init_82 : decode cX5_init 82 = .ok (.bipush 10, 2) := by decide +kernel
theorem dX5_init_84 : decode cX5_init 84 = .ok (.newarray .int, 2) := by decide +kernel
theorem dX5_init_86 : decode cX5_init 86 = .ok (.putfield 43, 3) := by decide +kernel
theorem dX5_init_89 : decode cX5_init 89 = .ok (.aload_n 0, 1) := by decide +kernel
theorem dX5_init_90 : decode cX5_init 90 = .ok (.bipush 36, 2) := by decide +kernel
theorem dX5_init_92 : decode cX5_init 92 = .ok (.newarray .long, 2) := by decide +kernel
theorem dX5_init_94 : decode cX5_init 94 = .ok (.putfield 46, 3) := by decide +kernel
theorem dX5_init_97 : decode cX5_init 97 = .ok (.aload_n 0, 1) := by decide +kernel
theorem dX5_init_98 : decode cX5_init 98 = .ok (.bipush 24, 2) := by decide +kernel
theorem dX5_init_100 : decode cX5_init 100 = .ok (.newarray .long, 2) := by decide +kernel
theorem dX5_init_102 : decode cX5_init 102 = .ok (.putfield 49, 3) := by decide +kernel
theorem dX5_init_105 : decode cX5_init 105 = .ok (.aload_n 0, 1) := by decide +kernel
theorem dX5_init_106 : decode cX5_init 106 = .ok (.bipush 6, 2) := by decide +kernel
theorem dX5_init_108 : decode cX5_init 108 = .ok (.newarray .long, 2) := by decide +kernel
theorem dX5_init_110 : decode cX5_init 110 = .ok (.putfield 52, 3) := by decide +kernel
theorem dX5_init_113 : decode cX5_init 113 = .ok (.bipush 61, 2) := by decide +kernel
theorem dX5_init_115 : decode cX5_init 115 = .ok (.istore_n 1, 1) := by decide +kernel
theorem dX5_init_116 : decode cX5_init 116 = .ok (.iload_n 1, 1) := by decide +kernel
theorem dX5_init_117 : decode cX5_init 117 = .ok (.bipush 69, 2) := by decide +kernel
theorem dX5_init_119 : decode cX5_init 119 = .ok (.if_icmp .ge 16, 3) := by decide +kernel
theorem dX5_init_122 : decode cX5_init 122 = .ok (.aload_n 0, 1) := by decide +kernel
theorem dX5_init_123 : decode cX5_init 123 = .ok (.getfield 17, 3) := by decide +kernel
theorem dX5_init_126 : decode cX5_init 126 = .ok (.iload_n 1, 1) := by decide +kernel
theorem dX5_init_127 : decode cX5_init 127 = .ok (.iconst 1, 1) := by decide +kernel
theorem dX5_init_128 : decode cX5_init 128 = .ok (.iastore, 1) := by decide +kernel
theorem dX5_init_129 : decode cX5_init 129 = .ok (.iinc 1 1, 3) := by decide +kernel
theorem dX5_init_132 : decode cX5_init 132 = .ok (.goto (-16), 3) := by decide +kernel
theorem dX5_init_135 : decode cX5_init 135 = .ok (.return_, 1) := by decide +kernel
theorem dX5_in_0 : decode cX5_in 0 = .ok (.iload_n 0, 1) := by decide +kernel
theorem dX5_in_1 : decode cX5_in 1 = .ok (.iload_n 1, 1) := by decide +kernel
theorem dX5_in_2 : decode cX5_in 2 = .ok (.if_icmp .lt 12, 3) := by decide +kernel
theorem dX5_in_5 : decode cX5_in 5 = .ok (.iload_n 0, 1) := by decide +kernel
theorem dX5_in_6 : decode cX5_in 6 = .ok (.iload_n 2, 1) := by decide +kernel
theorem dX5_in_7 : decode cX5_in 7 = .ok (.if_icmp .gt 7, 3) := by decide +kernel
theorem dX5_in_10 : decode cX5_in 10 = .ok (.iconst 1, 1) := by decide +kernel
theorem dX5_in_11 : decode cX5_in 11 = .ok (.goto 4, 3) := by decide +kernel
theorem dX5_in_14 : decode cX5_in 14 = .ok (.iconst 0, 1) := by decide +kernel
theorem dX5_in_15 : decode cX5_in 15 = .ok (.ireturn, 1) := by decide +kernel
theorem dX5_has_0 : decode cX5_has 0 = .ok (.iload_n 0, 1) := by decide +kernel
theorem dX5_has_1 : decode cX5_has 1 = .ok (.iload_n 1, 1) := by decide +kernel
theorem dX5_has_2 : decode cX5_has 2 = .ok (.ishr, 1) := by decide +kernel
theorem dX5_has_3 : decode cX5_has 3 = .ok (.iconst 1, 1) := by decide +kernel
theorem dX5_has_4 : decode cX5_has 4 = .ok (.iand, 1) := by decide +kernel
theorem dX5_has_5 : decode cX5_has 5 = .ok (.iconst 1, 1) := by decide +kernel
theorem dX5_has_6 : decode cX5_has 6 = .ok (.if_icmp .ne 7, 3) := by decide +kernel
theorem dX5_has_9 : decode cX5_has 9 = .ok (.iconst 1, 1) := by decide +kernel
theorem dX5_has_10 : decode cX5_has 10 = .ok (.goto 4, 3) := by decide +kernel
theorem dX5_has_13 : decode cX5_has 13 = .ok (.iconst 0, 1) := by decide +kernel
theorem dX5_has_14 : decode cX5_has 14 = .ok (.ireturn, 1) := by decide +kernel
theorem dX5_bits_0 : decode cX5_bits 0 = .ok (.iconst 0, 1) := by decide +kernel
theorem dX5_bits_1 : decode cX5_bits 1 = .ok (.istore_n 1, 1) := by decide +kernel
theorem dX5_bits_2 : decode cX5_bits 2 = .ok (.iload_n 0, 1) := by decide +kernel
theorem dX5_bits_3 : decode cX5_bits 3 = .ok (.istore_n 2, 1) := by decide +kernel
theorem dX5_bits_4 : decode cX5_bits 4 = .ok (.iload_n 2, 1) := by decide +kernel
theorem dX5_bits_5 : decode cX5_bits 5 = .ok (.ifCond .eq 15, 3) := by decide +kernel
theorem dX5_bits_8 : decode cX5_bits 8 = .ok (.iinc 1 1, 3) := by decide +kernel
theorem dX5_bits_11 : decode cX5_bits 11 = .ok (.iload_n 2, 1) := by decide +kernel
theorem dX5_bits_12 : decode cX5_bits 12 = .ok (.iload_n 2, 1) := by decide +kernel
theorem dX5_bits_13 : decode cX5_bits 13 = .ok (.iconst 1, 1) := by decide +kernel
theorem dX5_bits_14 : decode cX5_bits 14 = .ok (.isub, 1) := by decide +kernel
theorem dX5_bits_15 : decode cX5_bits 15 = .ok (.iand, 1) := by decide +kernel
theorem dX5_bits_16 : decode cX5_bits 16 = .ok (.istore_n 2, 1) := by decide +kernel
theorem dX5_bits_17 : decode cX5_bits 17 = .ok (.goto (-13), 3) := by decide +kernel
theorem dX5_bits_20 : decode cX5_bits 20 = .ok (.iload_n 1, 1) := by decide +kernel
theorem dX5_bits_21 : decode cX5_bits 21 = .ok (.ireturn, 1) := by decide +kernel
theorem dX5_bring_0 : decode cX5_bring 0 = .ok (.iconst 0, 1) := by decide +kernel
theorem dX5_bring_1 : decode cX5_bring 1 = .ok (.istore 5, 2) := by decide +kernel
theorem dX5_bring_3 : decode cX5_bring 3 = .ok (.iload 5, 2) := by decide +kernel
theorem dX5_bring_5 : decode cX5_bring 5 = .ok (.iload 4, 2) := by decide +kernel
theorem dX5_bring_7 : decode cX5_bring 7 = .ok (.if_icmp .ge 21, 3) := by decide +kernel
theorem dX5_bring_10 : decode cX5_bring 10 = .ok (.aload_n 2, 1) := by decide +kernel
theorem dX5_bring_11 : decode cX5_bring 11 = .ok (.iload_n 3, 1) := by decide +kernel
theorem dX5_bring_12 : decode cX5_bring 12 = .ok (.iload 5, 2) := by decide +kernel
theorem dX5_bring_14 : decode cX5_bring 14 = .ok (.iadd, 1) := by decide +kernel
theorem dX5_bring_15 : decode cX5_bring 15 = .ok (.aload_n 0, 1) := by decide +kernel
theorem dX5_bring_16 : decode cX5_bring 16 = .ok (.iload_n 1, 1) := by decide +kernel
theorem dX5_bring_17 : decode cX5_bring 17 = .ok (.iload 5, 2) := by decide +kernel
theorem dX5_bring_19 : decode cX5_bring 19 = .ok (.iadd, 1) := by decide +kernel
theorem dX5_bring_20 : decode cX5_bring 20 = .ok (.iaload, 1) := by decide +kernel
theorem dX5_bring_21 : decode cX5_bring 21 = .ok (.iastore, 1) := by decide +kernel
theorem dX5_bring_22 : decode cX5_bring 22 = .ok (.iinc 5 1, 3) := by decide +kernel
theorem dX5_bring_25 : decode cX5_bring 25 = .ok (.goto (-22), 3) := by decide +kernel
theorem dX5_bring_28 : decode cX5_bring 28 = .ok (.return_, 1) := by decide +kernel
set_option maxRecDepth 20000 in
theorem ggX5_feed_X5_in : GoodIn wsX5_feed wsX5_in := goodIn_r _ [8] (by decide +kernel) (by decide +kernel)
set_option maxRecDepth 20000 in
theorem gX5_feed_X5_in : GoodIn wsX5_feed (va_wsS RX5 55 yX5_in wsX5_in) := goodIn_app (goodIn_of _ (by decide +kernel)) ggX5_feed_X5_in
theorem dX5_feed_0 : decode cX5_feed 0 = .ok (.iload_n 1, 1) := by decide +kernel
theorem dX5_feed_1 : decode cX5_feed 1 = .ok (.iconst 0, 1) := by decide +kernel
theorem dX5_feed_2 : decode cX5_feed 2 = .ok (.sipush 255, 3) := by decide +kernel
theorem dX5_feed_5 : decode cX5_feed 5 = .ok (.invokestatic 55, 3) := by decide +kernel
theorem dX5_feed_8 : decode cX5_feed 8 = .ok (.ifCond .ne 6, 3) := by decide +kernel
theorem dX5_feed_11 : decode cX5_feed 11 = .ok (.ldc 59, 2) := by decide +kernel
theorem dX5_feed_13 : decode cX5_feed 13 = .ok (.ireturn, 1) := by decide +kernel
theorem dX5_feed_14 : decode cX5_feed 14 = .ok (.aload_n 0, 1) := by decide +kernel
theorem dX5_feed_15 : decode cX5_feed 15 = .ok (.getfield 60, 3) := by decide +kernel
theorem dX5_feed_18 : decode cX5_feed 18 = .ok (.bipush 60, 2) := by decide +kernel
theorem dX5_feed_20 : decode cX5_feed 20 = .ok (.if_icmp .ne 6, 3) := by decide +kernel
theorem dX5_feed_23 : decode cX5_feed 23 = .ok (.ldc 63, 2) := by decide +kernel
theorem dX5_feed_25 : decode cX5_feed 25 = .ok (.ireturn, 1) := by decide +kernel
theorem dX5_feed_26 : decode cX5_feed 26 = .ok (.aload_n 0, 1) := by decide +kernel
theorem dX5_feed_27 : decode cX5_feed 27 = .ok (.getfield 7, 3) := by decide +kernel
theorem dX5_feed_30 : decode cX5_feed 30 = .ok (.aload_n 0, 1) := by decide +kernel
theorem dX5_feed_31 : decode cX5_feed 31 = .ok (.getfield 60, 3) := by decide +kernel
theorem dX5_feed_34 : decode cX5_feed 34 = .ok (.iload_n 1, 1) := by decide +kernel
theorem dX5_feed_35 : decode cX5_feed 35 = .ok (.iastore, 1) := by decide +kernel
theorem dX5_feed_36 : decode cX5_feed 36 = .ok (.aload_n 0, 1) := by decide +kernel
theorem dX5_feed_37 : decode cX5_feed 37 = .ok (.dup, 1) := by decide +kernel
theorem dX5_feed_38 : decode cX5_feed 38 = .ok (.getfield 60, 3) := by decide +kernel
theorem dX5_feed_41 : decode cX5_feed 41 = .ok (.iconst 1, 1) := by decide +kernel
theorem dX5_feed_42 : decode cX5_feed 42 = .ok (.iadd, 1) := by decide +kernel
theorem dX5_feed_43 : decode cX5_feed 43 = .ok (.putfield 60, 3) := by decide +kernel
theorem dX5_feed_46 : decode cX5_feed 46 = .ok (.aload_n 0, 1) := by decide +kernel
theorem dX5_feed_47 : decode cX5_feed 47 = .ok (.getfield 60, 3) := by decide +kernel
theorem dX5_feed_50 : decode cX5_feed 50 = .ok (.ireturn, 1) := by decide +kernel
theorem dX5_wipe_0 : decode cX5_wipe 0 = .ok (.aload_n 0, 1) := by decide +kernel
theorem dX5_wipe_1 : decode cX5_wipe 1 = .ok (.getfield 60, 3) := by decide +kernel
theorem dX5_wipe_4 : decode cX5_wipe 4 = .ok (.istore_n 1, 1) := by decide +kernel
theorem dX5_wipe_5 : decode cX5_wipe 5 = .ok (.aload_n 0, 1) := by decide +kernel
theorem dX5_wipe_6 : decode cX5_wipe 6 = .ok (.iconst 0, 1) := by decide +kernel
theorem dX5_wipe_7 : decode cX5_wipe 7 = .ok (.putfield 60, 3) := by decide +kernel
theorem dX5_wipe_10 : decode cX5_wipe 10 = .ok (.iload_n 1, 1) := by decide +kernel
theorem dX5_wipe_11 : decode cX5_wipe 11 = .ok (.ireturn, 1) := by decide +kernel
theorem dX5_fault_0 : decode cX5_fault 0 = .ok (.aload_n 0, 1) := by decide +kernel
theorem dX5_fault_1 : decode cX5_fault 1 = .ok (.getfield 13, 3) := by decide +kernel
theorem dX5_fault_4 : decode cX5_fault 4 = .ok (.ireturn, 1) := by decide +kernel
theorem dX5_here_0 : decode cX5_here 0 = .ok (.aload_n 0, 1) := by decide +kernel
theorem dX5_here_1 : decode cX5_here 1 = .ok (.getfield 64, 3) := by decide +kernel
theorem dX5_here_4 : decode cX5_here 4 = .ok (.aload_n 0, 1) := by decide +kernel
theorem dX5_here_5 : decode cX5_here 5 = .ok (.getfield 60, 3) := by decide +kernel
theorem dX5_here_8 : decode cX5_here 8 = .ok (.if_icmp .ge 30, 3) := by decide +kernel
theorem dX5_here_11 : decode cX5_here 11 = .ok (.aload_n 0, 1) := by decide +kernel
theorem dX5_here_12 : decode cX5_here 12 = .ok (.getfield 7, 3) := by decide +kernel
theorem dX5_here_15 : decode cX5_here 15 = .ok (.aload_n 0, 1) := by decide +kernel
theorem dX5_here_16 : decode cX5_here 16 = .ok (.getfield 64, 3) := by decide +kernel
theorem dX5_here_19 : decode cX5_here 19 = .ok (.iaload, 1) := by decide +kernel
theorem dX5_here_20 : decode cX5_here 20 = .ok (.bipush 32, 2) := by decide +kernel
theorem dX5_here_22 : decode cX5_here 22 = .ok (.if_icmp .ne 16, 3) := by decide +kernel
theorem dX5_here_25 : decode cX5_here 25 = .ok (.aload_n 0, 1) := by decide +kernel
theorem dX5_here_26 : decode cX5_here 26 = .ok (.dup, 1) := by decide +kernel
theorem dX5_here_27 : decode cX5_here 27 = .ok (.getfield 64, 3) := by decide +kernel
theorem dX5_here_30 : decode cX5_here 30 = .ok (.iconst 1, 1) := by decide +kernel
theorem dX5_here_31 : decode cX5_here 31 = .ok (.iadd, 1) := by decide +kernel
theorem dX5_here_32 : decode cX5_here 32 = .ok (.putfield 64, 3) := by decide +kernel
theorem dX5_here_35 : decode cX5_here 35 = .ok (.goto (-35), 3) := by decide +kernel
theorem dX5_here_38 : decode cX5_here 38 = .ok (.aload_n 0, 1) := by decide +kernel
theorem dX5_here_39 : decode cX5_here 39 = .ok (.getfield 64, 3) := by decide +kernel
theorem dX5_here_42 : decode cX5_here 42 = .ok (.aload_n 0, 1) := by decide +kernel
theorem dX5_here_43 : decode cX5_here 43 = .ok (.getfield 60, 3) := by decide +kernel
theorem dX5_here_46 : decode cX5_here 46 = .ok (.if_icmp .ge 15, 3) := by decide +kernel
theorem dX5_here_49 : decode cX5_here 49 = .ok (.aload_n 0, 1) := by decide +kernel
theorem dX5_here_50 : decode cX5_here 50 = .ok (.getfield 7, 3) := by decide +kernel
theorem dX5_here_53 : decode cX5_here 53 = .ok (.aload_n 0, 1) := by decide +kernel
theorem dX5_here_54 : decode cX5_here 54 = .ok (.getfield 64, 3) := by decide +kernel
theorem dX5_here_57 : decode cX5_here 57 = .ok (.iaload, 1) := by decide +kernel
theorem dX5_here_58 : decode cX5_here 58 = .ok (.goto 4, 3) := by decide +kernel
theorem dX5_here_61 : decode cX5_here 61 = .ok (.iconst (-1), 1) := by decide +kernel
theorem dX5_here_62 : decode cX5_here 62 = .ok (.ireturn, 1) := by decide +kernel
theorem dX5_fails_0 : decode cX5_fails 0 = .ok (.aload_n 0, 1) := by decide +kernel
theorem dX5_fails_1 : decode cX5_fails 1 = .ok (.aload_n 0, 1) := by decide +kernel
theorem dX5_fails_2 : decode cX5_fails 2 = .ok (.getfield 67, 3) := by decide +kernel
theorem dX5_fails_5 : decode cX5_fails 5 = .ok (.ifCond .ne 7, 3) := by decide +kernel
theorem dX5_fails_8 : decode cX5_fails 8 = .ok (.iload_n 1, 1) := by decide +kernel
theorem dX5_fails_9 : decode cX5_fails 9 = .ok (.goto 7, 3) := by decide +kernel
theorem dX5_fails_12 : decode cX5_fails 12 = .ok (.aload_n 0, 1) := by decide +kernel
theorem dX5_fails_13 : decode cX5_fails 13 = .ok (.getfield 67, 3) := by decide +kernel
theorem dX5_fails_16 : decode cX5_fails 16 = .ok (.putfield 67, 3) := by decide +kernel
theorem dX5_fails_19 : decode cX5_fails 19 = .ok (.return_, 1) := by decide +kernel
theorem dX5_opens_0 : decode cX5_opens 0 = .ok (.aload_n 0, 1) := by decide +kernel
theorem dX5_opens_1 : decode cX5_opens 1 = .ok (.iload_n 1, 1) := by decide +kernel
theorem dX5_opens_2 : decode cX5_opens 2 = .ok (.putfield 70, 3) := by decide +kernel
theorem dX5_opens_5 : decode cX5_opens 5 = .ok (.aload_n 0, 1) := by decide +kernel
theorem dX5_opens_6 : decode cX5_opens 6 = .ok (.getfield 37, 3) := by decide +kernel
theorem dX5_opens_9 : decode cX5_opens 9 = .ok (.iload_n 1, 1) := by decide +kernel
theorem dX5_opens_10 : decode cX5_opens 10 = .ok (.iconst 1, 1) := by decide +kernel
theorem dX5_opens_11 : decode cX5_opens 11 = .ok (.iastore, 1) := by decide +kernel
theorem dX5_opens_12 : decode cX5_opens 12 = .ok (.iconst 0, 1) := by decide +kernel
theorem dX5_opens_13 : decode cX5_opens 13 = .ok (.istore_n 2, 1) := by decide +kernel
theorem dX5_opens_14 : decode cX5_opens 14 = .ok (.iload_n 2, 1) := by decide +kernel
theorem dX5_opens_15 : decode cX5_opens 15 = .ok (.bipush 10, 2) := by decide +kernel
theorem dX5_opens_17 : decode cX5_opens 17 = .ok (.if_icmp .ge 21, 3) := by decide +kernel
theorem dX5_opens_20 : decode cX5_opens 20 = .ok (.aload_n 0, 1) := by decide +kernel
theorem dX5_opens_21 : decode cX5_opens 21 = .ok (.getfield 34, 3) := by decide +kernel
theorem dX5_opens_24 : decode cX5_opens 24 = .ok (.bipush 10, 2) := by decide +kernel
theorem dX5_opens_26 : decode cX5_opens 26 = .ok (.iload_n 1, 1) := by decide +kernel
theorem dX5_opens_27 : decode cX5_opens 27 = .ok (.imul, 1) := by decide +kernel
theorem dX5_opens_28 : decode cX5_opens 28 = .ok (.iload_n 2, 1) := by decide +kernel
theorem dX5_opens_29 : decode cX5_opens 29 = .ok (.iadd, 1) := by decide +kernel
theorem dX5_opens_30 : decode cX5_opens 30 = .ok (.iconst 0, 1) := by decide +kernel
theorem dX5_opens_31 : decode cX5_opens 31 = .ok (.iastore, 1) := by decide +kernel
theorem dX5_opens_32 : decode cX5_opens 32 = .ok (.iinc 2 1, 3) := by decide +kernel
theorem dX5_opens_35 : decode cX5_opens 35 = .ok (.goto (-21), 3) := by decide +kernel
theorem dX5_opens_38 : decode cX5_opens 38 = .ok (.return_, 1) := by decide +kernel
set_option maxRecDepth 20000 in
theorem ggX5_readsLetter_X5_here : GoodIn wsX5_readsLetter wsX5_here := goodIn_r _ [8, 3, 9, 10, 25, 26, 27, 28, 29, 30, 31, 32, 33, 34, 35, 36, 37, 38, 39, 40, 41, 42, 43, 44, 45] (by decide +kernel) (by decide +kernel)
set_option maxRecDepth 20000 in
theorem gX5_readsLetter_X5_here : GoodIn wsX5_readsLetter (wsV RX5 73 RX5 yX5_here wsX5_here) := goodIn_app (goodIn_of _ (by decide +kernel)) ggX5_readsLetter_X5_here
set_option maxRecDepth 20000 in
theorem ggX5_readsLetter_X5_in : GoodIn wsX5_readsLetter wsX5_in := goodIn_r _ [13] (by decide +kernel) (by decide +kernel)
set_option maxRecDepth 20000 in
theorem gX5_readsLetter_X5_in : GoodIn wsX5_readsLetter (va_wsS RX5 55 yX5_in wsX5_in) := goodIn_app (goodIn_of _ (by decide +kernel)) ggX5_readsLetter_X5_in
set_option maxRecDepth 20000 in
theorem ggX5_readsLetter_X5_fails : GoodIn wsX5_readsLetter wsX5_fails := goodIn_r _ [17, 18, 25, 26, 27, 28, 29, 30, 31, 32, 33, 34, 35, 36, 37, 38, 39, 40, 41, 42, 43, 44, 45] (by decide +kernel) (by decide +kernel)
set_option maxRecDepth 20000 in
theorem gX5_readsLetter_X5_fails : GoodIn wsX5_readsLetter (wsV RX5 77 RX5 yX5_fails wsX5_fails) := goodIn_app (goodIn_of _ (by decide +kernel)) ggX5_readsLetter_X5_fails
set_option maxRecDepth 20000 in
theorem ggX5_readsLetter_X5_opens : GoodIn wsX5_readsLetter wsX5_opens := goodIn_r _ [22, 2, 23, 24, 25, 26, 27, 28, 29, 30, 31, 32, 33, 34, 35, 36, 37, 38, 39, 40, 41, 42, 43, 44, 45] (by decide +kernel) (by decide +kernel)
set_option maxRecDepth 20000 in
theorem gX5_readsLetter_X5_opens : GoodIn wsX5_readsLetter (wsV RX5 81 RX5 yX5_opens wsX5_opens) := goodIn_app (goodIn_of _ (by decide +kernel)) ggX5_readsLetter_X5_opens
theorem dX5_readsLetter_0 : decode cX5_readsLetter 0 = .ok (.aload_n 0, 1) := by decide +kernel
theorem dX5_readsLetter_1 : decode cX5_readsLetter 1 = .ok (.invokevirtual 73, 3) := by decide +kernel
theorem dX5_readsLetter_4 : decode cX5_readsLetter 4 = .ok (.istore_n 1, 1) := by decide +kernel
theorem dX5_readsLetter_5 : decode cX5_readsLetter 5 = .ok (.iconst 0, 1) := by decide +kernel
theorem dX5_readsLetter_6 : decode cX5_readsLetter 6 = .ok (.istore_n 2, 1) := by decide +kernel
theorem dX5_readsLetter_7 : decode cX5_readsLetter 7 = .ok (.iload_n 2, 1) := by decide +kernel
theorem dX5_readsLetter_8 : decode cX5_readsLetter 8 = .ok (.bipush 10, 2) := by decide +kernel
theorem dX5_readsLetter_10 : decode cX5_readsLetter 10 = .ok (.if_icmp .ge 16, 3) := by decide +kernel
theorem dX5_readsLetter_13 : decode cX5_readsLetter 13 = .ok (.aload_n 0, 1) := by decide +kernel
theorem dX5_readsLetter_14 : decode cX5_readsLetter 14 = .ok (.getfield 40, 3) := by decide +kernel
theorem dX5_readsLetter_17 : decode cX5_readsLetter 17 = .ok (.iload_n 2, 1) := by decide +kernel
theorem dX5_readsLetter_18 : decode cX5_readsLetter 18 = .ok (.iconst 0, 1) := by decide +kernel
theorem dX5_readsLetter_19 : decode cX5_readsLetter 19 = .ok (.iastore, 1) := by decide +kernel
theorem dX5_readsLetter_20 : decode cX5_readsLetter 20 = .ok (.iinc 2 1, 3) := by decide +kernel
theorem dX5_readsLetter_23 : decode cX5_readsLetter 23 = .ok (.goto (-16), 3) := by decide +kernel
theorem dX5_readsLetter_26 : decode cX5_readsLetter 26 = .ok (.iload_n 1, 1) := by decide +kernel
theorem dX5_readsLetter_27 : decode cX5_readsLetter 27 = .ok (.bipush 97, 2) := by decide +kernel
theorem dX5_readsLetter_29 : decode cX5_readsLetter 29 = .ok (.bipush 100, 2) := by decide +kernel
theorem dX5_readsLetter_31 : decode cX5_readsLetter 31 = .ok (.invokestatic 55, 3) := by decide +kernel
theorem dX5_readsLetter_34 : decode cX5_readsLetter 34 = .ok (.ifCond .eq 19, 3) := by decide +kernel
theorem dX5_readsLetter_37 : decode cX5_readsLetter 37 = .ok (.aload_n 0, 1) := by decide +kernel
theorem dX5_readsLetter_38 : decode cX5_readsLetter 38 = .ok (.getfield 40, 3) := by decide +kernel
theorem dX5_readsLetter_41 : decode cX5_readsLetter 41 = .ok (.bipush 6, 2) := by decide +kernel
theorem dX5_readsLetter_43 : decode cX5_readsLetter 43 = .ok (.iload_n 1, 1) := by decide +kernel
theorem dX5_readsLetter_44 : decode cX5_readsLetter 44 = .ok (.iadd, 1) := by decide +kernel
theorem dX5_readsLetter_45 : decode cX5_readsLetter 45 = .ok (.bipush 97, 2) := by decide +kernel
theorem dX5_readsLetter_47 : decode cX5_readsLetter 47 = .ok (.isub, 1) := by decide +kernel
theorem dX5_readsLetter_48 : decode cX5_readsLetter 48 = .ok (.iconst 1, 1) := by decide +kernel
theorem dX5_readsLetter_49 : decode cX5_readsLetter 49 = .ok (.iastore, 1) := by decide +kernel
theorem dX5_readsLetter_50 : decode cX5_readsLetter 50 = .ok (.goto 84, 3) := by decide +kernel
theorem dX5_readsLetter_53 : decode cX5_readsLetter 53 = .ok (.iload_n 1, 1) := by decide +kernel
theorem dX5_readsLetter_54 : decode cX5_readsLetter 54 = .ok (.bipush 117, 2) := by decide +kernel
theorem dX5_readsLetter_56 : decode cX5_readsLetter 56 = .ok (.bipush 122, 2) := by decide +kernel
theorem dX5_readsLetter_58 : decode cX5_readsLetter 58 = .ok (.invokestatic 55, 3) := by decide +kernel
theorem dX5_readsLetter_61 : decode cX5_readsLetter 61 = .ok (.ifCond .eq 16, 3) := by decide +kernel
theorem dX5_readsLetter_64 : decode cX5_readsLetter 64 = .ok (.aload_n 0, 1) := by decide +kernel
theorem dX5_readsLetter_65 : decode cX5_readsLetter 65 = .ok (.getfield 40, 3) := by decide +kernel
theorem dX5_readsLetter_68 : decode cX5_readsLetter 68 = .ok (.iload_n 1, 1) := by decide +kernel
theorem dX5_readsLetter_69 : decode cX5_readsLetter 69 = .ok (.bipush 117, 2) := by decide +kernel
theorem dX5_readsLetter_71 : decode cX5_readsLetter 71 = .ok (.isub, 1) := by decide +kernel
theorem dX5_readsLetter_72 : decode cX5_readsLetter 72 = .ok (.iconst 1, 1) := by decide +kernel
theorem dX5_readsLetter_73 : decode cX5_readsLetter 73 = .ok (.iastore, 1) := by decide +kernel
theorem dX5_readsLetter_74 : decode cX5_readsLetter 74 = .ok (.goto 60, 3) := by decide +kernel
theorem dX5_readsLetter_77 : decode cX5_readsLetter 77 = .ok (.iload_n 1, 1) := by decide +kernel
theorem dX5_readsLetter_78 : decode cX5_readsLetter 78 = .ok (.bipush 40, 2) := by decide +kernel
theorem dX5_readsLetter_80 : decode cX5_readsLetter 80 = .ok (.if_icmp .ne 41, 3) := by decide +kernel
theorem dX5_readsLetter_83 : decode cX5_readsLetter 83 = .ok (.aload_n 0, 1) := by decide +kernel
theorem dX5_readsLetter_84 : decode cX5_readsLetter 84 = .ok (.getfield 70, 3) := by decide +kernel
theorem dX5_readsLetter_87 : decode cX5_readsLetter 87 = .ok (.bipush 6, 2) := by decide +kernel
theorem dX5_readsLetter_89 : decode cX5_readsLetter 89 = .ok (.if_icmp .ne 10, 3) := by decide +kernel
theorem dX5_readsLetter_92 : decode cX5_readsLetter 92 = .ok (.aload_n 0, 1) := by decide +kernel
theorem dX5_readsLetter_93 : decode cX5_readsLetter 93 = .ok (.iconst 2, 1) := by decide +kernel
theorem dX5_readsLetter_94 : decode cX5_readsLetter 94 = .ok (.invokevirtual 77, 3) := by decide +kernel
theorem dX5_readsLetter_97 : decode cX5_readsLetter 97 = .ok (.iconst 0, 1) := by decide +kernel
theorem dX5_readsLetter_98 : decode cX5_readsLetter 98 = .ok (.ireturn, 1) := by decide +kernel
theorem dX5_readsLetter_99 : decode cX5_readsLetter 99 = .ok (.aload_n 0, 1) := by decide +kernel
theorem dX5_readsLetter_100 : decode cX5_readsLetter 100 = .ok (.dup, 1) := by decide +kernel
theorem dX5_readsLetter_101 : decode cX5_readsLetter 101 = .ok (.getfield 64, 3) := by decide +kernel
theorem dX5_readsLetter_104 : decode cX5_readsLetter 104 = .ok (.iconst 1, 1) := by decide +kernel
theorem dX5_readsLetter_105 : decode cX5_readsLetter 105 = .ok (.iadd, 1) := by decide +kernel
theorem dX5_readsLetter_106 : decode cX5_readsLetter 106 = .ok (.putfield 64, 3) := by decide +kernel
theorem dX5_readsLetter_109 : decode cX5_readsLetter 109 = .ok (.aload_n 0, 1) := by decide +kernel
theorem dX5_readsLetter_110 : decode cX5_readsLetter 110 = .ok (.aload_n 0, 1) := by decide +kernel
theorem dX5_readsLetter_111 : decode cX5_readsLetter 111 = .ok (.getfield 70, 3) := by decide +kernel
theorem dX5_readsLetter_114 : decode cX5_readsLetter 114 = .ok (.iconst 1, 1) := by decide +kernel
theorem dX5_readsLetter_115 : decode cX5_readsLetter 115 = .ok (.iadd, 1) := by decide +kernel
theorem dX5_readsLetter_116 : decode cX5_readsLetter 116 = .ok (.invokevirtual 81, 3) := by decide +kernel
theorem dX5_readsLetter_119 : decode cX5_readsLetter 119 = .ok (.iconst 0, 1) := by decide +kernel
theorem dX5_readsLetter_120 : decode cX5_readsLetter 120 = .ok (.ireturn, 1) := by decide +kernel
theorem dX5_readsLetter_121 : decode cX5_readsLetter 121 = .ok (.iload_n 1, 1) := by decide +kernel
theorem dX5_readsLetter_122 : decode cX5_readsLetter 122 = .ok (.bipush 49, 2) := by decide +kernel
theorem dX5_readsLetter_124 : decode cX5_readsLetter 124 = .ok (.if_icmp .eq 10, 3) := by decide +kernel
theorem dX5_readsLetter_127 : decode cX5_readsLetter 127 = .ok (.aload_n 0, 1) := by decide +kernel
theorem dX5_readsLetter_128 : decode cX5_readsLetter 128 = .ok (.iconst 1, 1) := by decide +kernel
theorem dX5_readsLetter_129 : decode cX5_readsLetter 129 = .ok (.invokevirtual 77, 3) := by decide +kernel
theorem dX5_readsLetter_132 : decode cX5_readsLetter 132 = .ok (.iconst 0, 1) := by decide +kernel
theorem dX5_readsLetter_133 : decode cX5_readsLetter 133 = .ok (.ireturn, 1) := by decide +kernel
theorem dX5_readsLetter_134 : decode cX5_readsLetter 134 = .ok (.aload_n 0, 1) := by decide +kernel
theorem dX5_readsLetter_135 : decode cX5_readsLetter 135 = .ok (.dup, 1) := by decide +kernel
theorem dX5_readsLetter_136 : decode cX5_readsLetter 136 = .ok (.getfield 64, 3) := by decide +kernel
theorem dX5_readsLetter_139 : decode cX5_readsLetter 139 = .ok (.iconst 1, 1) := by decide +kernel
theorem dX5_readsLetter_140 : decode cX5_readsLetter 140 = .ok (.iadd, 1) := by decide +kernel
theorem dX5_readsLetter_141 : decode cX5_readsLetter 141 = .ok (.putfield 64, 3) := by decide +kernel
theorem dX5_readsLetter_144 : decode cX5_readsLetter 144 = .ok (.iconst 1, 1) := by decide +kernel
theorem dX5_readsLetter_145 : decode cX5_readsLetter 145 = .ok (.ireturn, 1) := by decide +kernel
set_option maxRecDepth 20000 in
theorem ggX5_readsPower_X5_here : GoodIn wsX5_readsPower wsX5_here := goodIn_r _ [7, 1, 8, 9, 18, 19, 20, 21, 22, 23, 24, 25, 26, 27, 28, 29, 30, 31, 32, 33, 34, 35, 36, 37, 38] (by decide +kernel) (by decide +kernel)
set_option maxRecDepth 20000 in
theorem gX5_readsPower_X5_here : GoodIn wsX5_readsPower (wsV RX5 73 RX5 yX5_here wsX5_here) := goodIn_app (goodIn_of _ (by decide +kernel)) ggX5_readsPower_X5_here
set_option maxRecDepth 20000 in
theorem ggX5_readsPower_X5_in : GoodIn wsX5_readsPower wsX5_in := goodIn_r _ [12] (by decide +kernel) (by decide +kernel)
set_option maxRecDepth 20000 in
theorem gX5_readsPower_X5_in : GoodIn wsX5_readsPower (va_wsS RX5 55 yX5_in wsX5_in) := goodIn_app (goodIn_of _ (by decide +kernel)) ggX5_readsPower_X5_in
set_option maxRecDepth 20000 in
theorem ggX5_readsPower_X5_fails : GoodIn wsX5_readsPower wsX5_fails := goodIn_r _ [16, 17, 18, 19, 20, 21, 22, 23, 24, 25, 26, 27, 28, 29, 30, 31, 32, 33, 34, 35, 36, 37, 38] (by decide +kernel) (by decide +kernel)
set_option maxRecDepth 20000 in
theorem gX5_readsPower_X5_fails : GoodIn wsX5_readsPower (wsV RX5 77 RX5 yX5_fails wsX5_fails) := goodIn_app (goodIn_of _ (by decide +kernel)) ggX5_readsPower_X5_fails
theorem dX5_readsPower_0 : decode cX5_readsPower 0 = .ok (.aload_n 0, 1) := by decide +kernel
theorem dX5_readsPower_1 : decode cX5_readsPower 1 = .ok (.invokevirtual 73, 3) := by decide +kernel
theorem dX5_readsPower_4 : decode cX5_readsPower 4 = .ok (.bipush 94, 2) := by decide +kernel
theorem dX5_readsPower_6 : decode cX5_readsPower 6 = .ok (.if_icmp .eq 4, 3) := by decide +kernel
theorem dX5_readsPower_9 : decode cX5_readsPower 9 = .ok (.return_, 1) := by decide +kernel
theorem dX5_readsPower_10 : decode cX5_readsPower 10 = .ok (.aload_n 0, 1) := by decide +kernel
theorem dX5_readsPower_11 : decode cX5_readsPower 11 = .ok (.dup, 1) := by decide +kernel
theorem dX5_readsPower_12 : decode cX5_readsPower 12 = .ok (.getfield 64, 3) := by decide +kernel
theorem dX5_readsPower_15 : decode cX5_readsPower 15 = .ok (.iconst 1, 1) := by decide +kernel
theorem dX5_readsPower_16 : decode cX5_readsPower 16 = .ok (.iadd, 1) := by decide +kernel
theorem dX5_readsPower_17 : decode cX5_readsPower 17 = .ok (.putfield 64, 3) := by decide +kernel
theorem dX5_readsPower_20 : decode cX5_readsPower 20 = .ok (.aload_n 0, 1) := by decide +kernel
theorem dX5_readsPower_21 : decode cX5_readsPower 21 = .ok (.invokevirtual 73, 3) := by decide +kernel
theorem dX5_readsPower_24 : decode cX5_readsPower 24 = .ok (.bipush 45, 2) := by decide +kernel
theorem dX5_readsPower_26 : decode cX5_readsPower 26 = .ok (.if_icmp .ne 7, 3) := by decide +kernel
theorem dX5_readsPower_29 : decode cX5_readsPower 29 = .ok (.iconst 1, 1) := by decide +kernel
theorem dX5_readsPower_30 : decode cX5_readsPower 30 = .ok (.goto 4, 3) := by decide +kernel
theorem dX5_readsPower_33 : decode cX5_readsPower 33 = .ok (.iconst 0, 1) := by decide +kernel
theorem dX5_readsPower_34 : decode cX5_readsPower 34 = .ok (.istore_n 1, 1) := by decide +kernel
theorem dX5_readsPower_35 : decode cX5_readsPower 35 = .ok (.aload_n 0, 1) := by decide +kernel
theorem dX5_readsPower_36 : decode cX5_readsPower 36 = .ok (.dup, 1) := by decide +kernel
theorem dX5_readsPower_37 : decode cX5_readsPower 37 = .ok (.getfield 64, 3) := by decide +kernel
theorem dX5_readsPower_40 : decode cX5_readsPower 40 = .ok (.iload_n 1, 1) := by decide +kernel
theorem dX5_readsPower_41 : decode cX5_readsPower 41 = .ok (.ifCond .eq 7, 3) := by decide +kernel
theorem dX5_readsPower_44 : decode cX5_readsPower 44 = .ok (.iconst 1, 1) := by decide +kernel
theorem dX5_readsPower_45 : decode cX5_readsPower 45 = .ok (.goto 4, 3) := by decide +kernel
theorem dX5_readsPower_48 : decode cX5_readsPower 48 = .ok (.iconst 0, 1) := by decide +kernel
theorem dX5_readsPower_49 : decode cX5_readsPower 49 = .ok (.iadd, 1) := by decide +kernel
theorem dX5_readsPower_50 : decode cX5_readsPower 50 = .ok (.putfield 64, 3) := by decide +kernel
theorem dX5_readsPower_53 : decode cX5_readsPower 53 = .ok (.aload_n 0, 1) := by decide +kernel
theorem dX5_readsPower_54 : decode cX5_readsPower 54 = .ok (.invokevirtual 73, 3) := by decide +kernel
theorem dX5_readsPower_57 : decode cX5_readsPower 57 = .ok (.istore_n 2, 1) := by decide +kernel
theorem dX5_readsPower_58 : decode cX5_readsPower 58 = .ok (.iload_n 2, 1) := by decide +kernel
theorem dX5_readsPower_59 : decode cX5_readsPower 59 = .ok (.bipush 48, 2) := by decide +kernel
theorem dX5_readsPower_61 : decode cX5_readsPower 61 = .ok (.bipush 57, 2) := by decide +kernel
theorem dX5_readsPower_63 : decode cX5_readsPower 63 = .ok (.invokestatic 55, 3) := by decide +kernel
theorem dX5_readsPower_66 : decode cX5_readsPower 66 = .ok (.ifCond .ne 9, 3) := by decide +kernel
theorem dX5_readsPower_69 : decode cX5_readsPower 69 = .ok (.aload_n 0, 1) := by decide +kernel
theorem dX5_readsPower_70 : decode cX5_readsPower 70 = .ok (.iconst 1, 1) := by decide +kernel
theorem dX5_readsPower_71 : decode cX5_readsPower 71 = .ok (.invokevirtual 77, 3) := by decide +kernel
theorem dX5_readsPower_74 : decode cX5_readsPower 74 = .ok (.return_, 1) := by decide +kernel
theorem dX5_readsPower_75 : decode cX5_readsPower 75 = .ok (.aload_n 0, 1) := by decide +kernel
theorem dX5_readsPower_76 : decode cX5_readsPower 76 = .ok (.dup, 1) := by decide +kernel
theorem dX5_readsPower_77 : decode cX5_readsPower 77 = .ok (.getfield 64, 3) := by decide +kernel
theorem dX5_readsPower_80 : decode cX5_readsPower 80 = .ok (.iconst 1, 1) := by decide +kernel
theorem dX5_readsPower_81 : decode cX5_readsPower 81 = .ok (.iadd, 1) := by decide +kernel
theorem dX5_readsPower_82 : decode cX5_readsPower 82 = .ok (.putfield 64, 3) := by decide +kernel
theorem dX5_readsPower_85 : decode cX5_readsPower 85 = .ok (.iconst 0, 1) := by decide +kernel
theorem dX5_readsPower_86 : decode cX5_readsPower 86 = .ok (.istore_n 3, 1) := by decide +kernel
theorem dX5_readsPower_87 : decode cX5_readsPower 87 = .ok (.iload_n 3, 1) := by decide +kernel
theorem dX5_readsPower_88 : decode cX5_readsPower 88 = .ok (.bipush 10, 2) := by decide +kernel
theorem dX5_readsPower_90 : decode cX5_readsPower 90 = .ok (.if_icmp .ge 33, 3) := by decide +kernel
theorem dX5_readsPower_93 : decode cX5_readsPower 93 = .ok (.aload_n 0, 1) := by decide +kernel
theorem dX5_readsPower_94 : decode cX5_readsPower 94 = .ok (.getfield 40, 3) := by decide +kernel
theorem dX5_readsPower_97 : decode cX5_readsPower 97 = .ok (.iload_n 3, 1) := by decide +kernel
theorem dX5_readsPower_98 : decode cX5_readsPower 98 = .ok (.dup2, 1) := by decide +kernel
theorem dX5_readsPower_99 : decode cX5_readsPower 99 = .ok (.iaload, 1) := by decide +kernel
theorem dX5_readsPower_100 : decode cX5_readsPower 100 = .ok (.iload_n 1, 1) := by decide +kernel
theorem dX5_readsPower_101 : decode cX5_readsPower 101 = .ok (.ifCond .eq 10, 3) := by decide +kernel
theorem dX5_readsPower_104 : decode cX5_readsPower 104 = .ok (.bipush 48, 2) := by decide +kernel
theorem dX5_readsPower_106 : decode cX5_readsPower 106 = .ok (.iload_n 2, 1) := by decide +kernel
theorem dX5_readsPower_107 : decode cX5_readsPower 107 = .ok (.isub, 1) := by decide +kernel
theorem dX5_readsPower_108 : decode cX5_readsPower 108 = .ok (.goto 7, 3) := by decide +kernel
theorem dX5_readsPower_111 : decode cX5_readsPower 111 = .ok (.iload_n 2, 1) := by decide +kernel
theorem dX5_readsPower_112 : decode cX5_readsPower 112 = .ok (.bipush 48, 2) := by decide +kernel
theorem dX5_readsPower_114 : decode cX5_readsPower 114 = .ok (.isub, 1) := by decide +kernel
theorem dX5_readsPower_115 : decode cX5_readsPower 115 = .ok (.imul, 1) := by decide +kernel
theorem dX5_readsPower_116 : decode cX5_readsPower 116 = .ok (.iastore, 1) := by decide +kernel
theorem dX5_readsPower_117 : decode cX5_readsPower 117 = .ok (.iinc 3 1, 3) := by decide +kernel
theorem dX5_readsPower_120 : decode cX5_readsPower 120 = .ok (.goto (-33), 3) := by decide +kernel
theorem dX5_readsPower_123 : decode cX5_readsPower 123 = .ok (.return_, 1) := by decide +kernel
theorem dX5_counts_0 : decode cX5_counts 0 = .ok (.iconst 0, 1) := by decide +kernel
theorem dX5_counts_1 : decode cX5_counts 1 = .ok (.istore_n 1, 1) := by decide +kernel
theorem dX5_counts_2 : decode cX5_counts 2 = .ok (.iload_n 1, 1) := by decide +kernel
theorem dX5_counts_3 : decode cX5_counts 3 = .ok (.bipush 10, 2) := by decide +kernel
theorem dX5_counts_5 : decode cX5_counts 5 = .ok (.if_icmp .ge 42, 3) := by decide +kernel
theorem dX5_counts_8 : decode cX5_counts 8 = .ok (.aload_n 0, 1) := by decide +kernel
theorem dX5_counts_9 : decode cX5_counts 9 = .ok (.getfield 34, 3) := by decide +kernel
theorem dX5_counts_12 : decode cX5_counts 12 = .ok (.bipush 10, 2) := by decide +kernel
theorem dX5_counts_14 : decode cX5_counts 14 = .ok (.aload_n 0, 1) := by decide +kernel
theorem dX5_counts_15 : decode cX5_counts 15 = .ok (.getfield 70, 3) := by decide +kernel
theorem dX5_counts_18 : decode cX5_counts 18 = .ok (.imul, 1) := by decide +kernel
theorem dX5_counts_19 : decode cX5_counts 19 = .ok (.iload_n 1, 1) := by decide +kernel
theorem dX5_counts_20 : decode cX5_counts 20 = .ok (.iadd, 1) := by decide +kernel
theorem dX5_counts_21 : decode cX5_counts 21 = .ok (.dup2, 1) := by decide +kernel
theorem dX5_counts_22 : decode cX5_counts 22 = .ok (.iaload, 1) := by decide +kernel
theorem dX5_counts_23 : decode cX5_counts 23 = .ok (.aload_n 0, 1) := by decide +kernel
theorem dX5_counts_24 : decode cX5_counts 24 = .ok (.getfield 37, 3) := by decide +kernel
theorem dX5_counts_27 : decode cX5_counts 27 = .ok (.aload_n 0, 1) := by decide +kernel
theorem dX5_counts_28 : decode cX5_counts 28 = .ok (.getfield 70, 3) := by decide +kernel
theorem dX5_counts_31 : decode cX5_counts 31 = .ok (.iaload, 1) := by decide +kernel
theorem dX5_counts_32 : decode cX5_counts 32 = .ok (.aload_n 0, 1) := by decide +kernel
theorem dX5_counts_33 : decode cX5_counts 33 = .ok (.getfield 40, 3) := by decide +kernel
theorem dX5_counts_36 : decode cX5_counts 36 = .ok (.iload_n 1, 1) := by decide +kernel
theorem dX5_counts_37 : decode cX5_counts 37 = .ok (.iaload, 1) := by decide +kernel
theorem dX5_counts_38 : decode cX5_counts 38 = .ok (.imul, 1) := by decide +kernel
theorem dX5_counts_39 : decode cX5_counts 39 = .ok (.iadd, 1) := by decide +kernel
theorem dX5_counts_40 : decode cX5_counts 40 = .ok (.iastore, 1) := by decide +kernel
theorem dX5_counts_41 : decode cX5_counts 41 = .ok (.iinc 1 1, 3) := by decide +kernel
theorem dX5_counts_44 : decode cX5_counts 44 = .ok (.goto (-42), 3) := by decide +kernel
theorem dX5_counts_47 : decode cX5_counts 47 = .ok (.return_, 1) := by decide +kernel
set_option maxRecDepth 20000 in
theorem ggX5_closes_X5_readsPower : GoodIn wsX5_closes wsX5_readsPower := goodIn_r _ [10, 3, 5, 11, 12, 13, 9, 14, 15, 16, 17, 18, 19, 20, 21, 22, 23, 1, 32, 33, 34, 35, 36, 37, 38, 39, 40, 41, 42, 43, 44, 45, 46, 47, 48, 49, 50, 51, 52] (by decide +kernel) (by decide +kernel)
set_option maxRecDepth 20000 in
theorem gX5_closes_X5_readsPower : GoodIn wsX5_closes (wsV RX5 84 RX5 yX5_readsPower wsX5_readsPower) := goodIn_app (goodIn_of _ (by decide +kernel)) ggX5_closes_X5_readsPower
set_option maxRecDepth 20000 in
theorem ggX5_closes_X5_here : GoodIn wsX5_closes wsX5_here := goodIn_r _ [14, 3, 15, 16, 32, 33, 34, 35, 36, 37, 38, 39, 40, 41, 42, 43, 44, 45, 46, 47, 48, 49, 50, 51, 52] (by decide +kernel) (by decide +kernel)
set_option maxRecDepth 20000 in
theorem gX5_closes_X5_here : GoodIn wsX5_closes (wsV RX5 73 RX5 yX5_here wsX5_here) := goodIn_app (goodIn_of _ (by decide +kernel)) ggX5_closes_X5_here
set_option maxRecDepth 20000 in
theorem ggX5_closes_X5_counts : GoodIn wsX5_closes wsX5_counts := goodIn_r _ [27, 4, 2, 28, 5, 32, 33, 34, 35, 36, 37, 38, 39, 40, 41, 42, 43, 44, 45, 46, 47, 48, 49, 50, 51, 52] (by decide +kernel) (by decide +kernel)
set_option maxRecDepth 20000 in
theorem gX5_closes_X5_counts : GoodIn wsX5_closes (wsV RX5 87 RX5 yX5_counts wsX5_counts) := goodIn_app (goodIn_of _ (by decide +kernel)) ggX5_closes_X5_counts
