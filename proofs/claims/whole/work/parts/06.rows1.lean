theorem dX0_init_0 : decode cX0_init 0 = .ok (.aload_n 0, 1) := by decide +kernel
theorem dX0_init_1 : decode cX0_init 1 = .ok (.invokespecial 3, 3) := by decide +kernel
theorem dX0_init_4 : decode cX0_init 4 = .ok (.aload_n 0, 1) := by decide +kernel
theorem dX0_init_5 : decode cX0_init 5 = .ok (.bipush 20, 2) := by decide +kernel
theorem dX0_init_7 : decode cX0_init 7 = .ok (.anewarray 9, 3) := by decide +kernel
theorem dX0_init_10 : decode cX0_init 10 = .ok (.putfield 11, 3) := by decide +kernel
theorem dX0_init_13 : decode cX0_init 13 = .ok (.iconst 0, 1) := by decide +kernel
theorem dX0_init_14 : decode cX0_init 14 = .ok (.istore_n 1, 1) := by decide +kernel
theorem dX0_init_15 : decode cX0_init 15 = .ok (.iload_n 1, 1) := by decide +kernel
theorem dX0_init_16 : decode cX0_init 16 = .ok (.bipush 20, 2) := by decide +kernel
theorem dX0_init_18 : decode cX0_init 18 = .ok (.if_icmp .ge 22, 3) := by decide +kernel
theorem dX0_init_21 : decode cX0_init 21 = .ok (.aload_n 0, 1) := by decide +kernel
theorem dX0_init_22 : decode cX0_init 22 = .ok (.getfield 11, 3) := by decide +kernel
theorem dX0_init_25 : decode cX0_init 25 = .ok (.iload_n 1, 1) := by decide +kernel
theorem dX0_init_26 : decode cX0_init 26 = .ok (.new 9, 3) := by decide +kernel
theorem dX0_init_29 : decode cX0_init 29 = .ok (.dup, 1) := by decide +kernel
theorem dX0_init_30 : decode cX0_init 30 = .ok (.invokespecial 17, 3) := by decide +kernel
theorem dX0_init_33 : decode cX0_init 33 = .ok (.aastore, 1) := by decide +kernel
theorem dX0_init_34 : decode cX0_init 34 = .ok (.iinc 1 1, 3) := by decide +kernel
theorem dX0_init_37 : decode cX0_init 37 = .ok (.goto (-22), 3) := by decide +kernel
theorem dX0_init_40 : decode cX0_init 40 = .ok (.return_, 1) := by decide +kernel
set_option maxRecDepth 20000 in
theorem ggX0_note_X3_copyDeeds : GoodIn wsX0_note wsX3_copyDeeds := goodIn_r _ [8, 9, 10, 11, 12, 13, 14, 15, 16, 20, 21, 22, 23, 24, 25] (by decide +kernel) (by decide +kernel)
set_option maxRecDepth 20000 in
theorem gX0_note_X3_copyDeeds : GoodIn wsX0_note (wsV RX0 22 RX3 yX3_copyDeeds wsX3_copyDeeds) := goodIn_app (goodIn_of _ (by decide +kernel)) ggX0_note_X3_copyDeeds
theorem dX0_note_0 : decode cX0_note 0 = .ok (.aload_n 0, 1) := by decide +kernel
theorem dX0_note_1 : decode cX0_note 1 = .ok (.getfield 11, 3) := by decide +kernel
theorem dX0_note_4 : decode cX0_note 4 = .ok (.aload_n 0, 1) := by decide +kernel
theorem dX0_note_5 : decode cX0_note 5 = .ok (.getfield 18, 3) := by decide +kernel
theorem dX0_note_8 : decode cX0_note 8 = .ok (.aaload, 1) := by decide +kernel
theorem dX0_note_9 : decode cX0_note 9 = .ok (.aload_n 1, 1) := by decide +kernel
theorem dX0_note_10 : decode cX0_note 10 = .ok (.invokevirtual 22, 3) := by decide +kernel
theorem dX0_note_13 : decode cX0_note 13 = .ok (.aload_n 0, 1) := by decide +kernel
theorem dX0_note_14 : decode cX0_note 14 = .ok (.aload_n 0, 1) := by decide +kernel
theorem dX0_note_15 : decode cX0_note 15 = .ok (.getfield 18, 3) := by decide +kernel
theorem dX0_note_18 : decode cX0_note 18 = .ok (.iconst 1, 1) := by decide +kernel
theorem dX0_note_19 : decode cX0_note 19 = .ok (.iadd, 1) := by decide +kernel
theorem dX0_note_20 : decode cX0_note 20 = .ok (.bipush 20, 2) := by decide +kernel
theorem dX0_note_22 : decode cX0_note 22 = .ok (.irem, 1) := by decide +kernel
theorem dX0_note_23 : decode cX0_note 23 = .ok (.putfield 18, 3) := by decide +kernel
theorem dX0_note_26 : decode cX0_note 26 = .ok (.aload_n 0, 1) := by decide +kernel
theorem dX0_note_27 : decode cX0_note 27 = .ok (.getfield 26, 3) := by decide +kernel
theorem dX0_note_30 : decode cX0_note 30 = .ok (.bipush 20, 2) := by decide +kernel
theorem dX0_note_32 : decode cX0_note 32 = .ok (.if_icmp .ge 13, 3) := by decide +kernel
theorem dX0_note_35 : decode cX0_note 35 = .ok (.aload_n 0, 1) := by decide +kernel
theorem dX0_note_36 : decode cX0_note 36 = .ok (.dup, 1) := by decide +kernel
theorem dX0_note_37 : decode cX0_note 37 = .ok (.getfield 26, 3) := by decide +kernel
theorem dX0_note_40 : decode cX0_note 40 = .ok (.iconst 1, 1) := by decide +kernel
theorem dX0_note_41 : decode cX0_note 41 = .ok (.iadd, 1) := by decide +kernel
theorem dX0_note_42 : decode cX0_note 42 = .ok (.putfield 26, 3) := by decide +kernel
theorem dX0_note_45 : decode cX0_note 45 = .ok (.return_, 1) := by decide +kernel
set_option maxRecDepth 20000 in
theorem ggX0_restore_J9_floorMod_7cf53 : GoodIn wsX0_restore wsJ9_floorMod_7cf53 := goodIn_r _ [7] (by decide +kernel) (by decide +kernel)
set_option maxRecDepth 20000 in
theorem gX0_restore_J9_floorMod_7cf53 : GoodIn wsX0_restore (va_wsS RX0 29 yJ9_floorMod_7cf53 wsJ9_floorMod_7cf53) := goodIn_app (goodIn_of _ (by decide +kernel)) ggX0_restore_J9_floorMod_7cf53
set_option maxRecDepth 20000 in
theorem ggX0_restore_X3_copyDeeds : GoodIn wsX0_restore wsX3_copyDeeds := goodIn_r _ [12, 13, 14, 15, 16, 17, 18, 19, 20, 24, 25, 26, 27, 28, 29] (by decide +kernel) (by decide +kernel)
set_option maxRecDepth 20000 in
theorem gX0_restore_X3_copyDeeds : GoodIn wsX0_restore (wsV RX0 22 RX3 yX3_copyDeeds wsX3_copyDeeds) := goodIn_app (goodIn_of _ (by decide +kernel)) ggX0_restore_X3_copyDeeds
theorem dX0_restore_0 : decode cX0_restore 0 = .ok (.aload_n 0, 1) := by decide +kernel
theorem dX0_restore_1 : decode cX0_restore 1 = .ok (.aload_n 0, 1) := by decide +kernel
theorem dX0_restore_2 : decode cX0_restore 2 = .ok (.getfield 18, 3) := by decide +kernel
theorem dX0_restore_5 : decode cX0_restore 5 = .ok (.iload_n 1, 1) := by decide +kernel
theorem dX0_restore_6 : decode cX0_restore 6 = .ok (.isub, 1) := by decide +kernel
theorem dX0_restore_7 : decode cX0_restore 7 = .ok (.bipush 20, 2) := by decide +kernel
theorem dX0_restore_9 : decode cX0_restore 9 = .ok (.invokestatic 29, 3) := by decide +kernel
theorem dX0_restore_12 : decode cX0_restore 12 = .ok (.putfield 18, 3) := by decide +kernel
theorem dX0_restore_15 : decode cX0_restore 15 = .ok (.aload_n 0, 1) := by decide +kernel
theorem dX0_restore_16 : decode cX0_restore 16 = .ok (.dup, 1) := by decide +kernel
theorem dX0_restore_17 : decode cX0_restore 17 = .ok (.getfield 26, 3) := by decide +kernel
theorem dX0_restore_20 : decode cX0_restore 20 = .ok (.iload_n 1, 1) := by decide +kernel
theorem dX0_restore_21 : decode cX0_restore 21 = .ok (.isub, 1) := by decide +kernel
theorem dX0_restore_22 : decode cX0_restore 22 = .ok (.putfield 26, 3) := by decide +kernel
theorem dX0_restore_25 : decode cX0_restore 25 = .ok (.aload_n 2, 1) := by decide +kernel
theorem dX0_restore_26 : decode cX0_restore 26 = .ok (.aload_n 0, 1) := by decide +kernel
theorem dX0_restore_27 : decode cX0_restore 27 = .ok (.getfield 11, 3) := by decide +kernel
theorem dX0_restore_30 : decode cX0_restore 30 = .ok (.aload_n 0, 1) := by decide +kernel
theorem dX0_restore_31 : decode cX0_restore 31 = .ok (.getfield 18, 3) := by decide +kernel
theorem dX0_restore_34 : decode cX0_restore 34 = .ok (.aaload, 1) := by decide +kernel
theorem dX0_restore_35 : decode cX0_restore 35 = .ok (.invokevirtual 22, 3) := by decide +kernel
theorem dX0_restore_38 : decode cX0_restore 38 = .ok (.return_, 1) := by decide +kernel
theorem dX0_forget_0 : decode cX0_forget 0 = .ok (.aload_n 0, 1) := by decide +kernel
theorem dX0_forget_1 : decode cX0_forget 1 = .ok (.iconst 0, 1) := by decide +kernel
theorem dX0_forget_2 : decode cX0_forget 2 = .ok (.putfield 26, 3) := by decide +kernel
theorem dX0_forget_5 : decode cX0_forget 5 = .ok (.return_, 1) := by decide +kernel
theorem dX1_init_0 : decode cX1_init 0 = .ok (.aload_n 0, 1) := by decide +kernel
theorem dX1_init_1 : decode cX1_init 1 = .ok (.invokespecial 3, 3) := by decide +kernel
theorem dX1_init_4 : decode cX1_init 4 = .ok (.aload_n 0, 1) := by decide +kernel
theorem dX1_init_5 : decode cX1_init 5 = .ok (.bipush 7, 2) := by decide +kernel
theorem dX1_init_7 : decode cX1_init 7 = .ok (.bipush 10, 2) := by decide +kernel
theorem dX1_init_9 : decode cX1_init 9 = .ok (.multianewarray 11 2, 4) := by decide +kernel
theorem dX1_init_13 : decode cX1_init 13 = .ok (.putfield 13, 3) := by decide +kernel
theorem dX1_init_16 : decode cX1_init 16 = .ok (.aload_n 0, 1) := by decide +kernel
theorem dX1_init_17 : decode cX1_init 17 = .ok (.bipush 7, 2) := by decide +kernel
theorem dX1_init_19 : decode cX1_init 19 = .ok (.newarray .int, 2) := by decide +kernel
theorem dX1_init_21 : decode cX1_init 21 = .ok (.putfield 16, 3) := by decide +kernel
theorem dX1_init_24 : decode cX1_init 24 = .ok (.aload_n 0, 1) := by decide +kernel
theorem dX1_init_25 : decode cX1_init 25 = .ok (.bipush 10, 2) := by decide +kernel
theorem dX1_init_27 : decode cX1_init 27 = .ok (.newarray .long, 2) := by decide +kernel
theorem dX1_init_29 : decode cX1_init 29 = .ok (.putfield 20, 3) := by decide +kernel
theorem dX1_init_32 : decode cX1_init 32 = .ok (.aload_n 0, 1) := by decide +kernel
theorem dX1_init_33 : decode cX1_init 33 = .ok (.iconst (-1), 1) := by decide +kernel
theorem dX1_init_34 : decode cX1_init 34 = .ok (.putfield 24, 3) := by decide +kernel
theorem dX1_init_37 : decode cX1_init 37 = .ok (.return_, 1) := by decide +kernel
set_option maxRecDepth 20000 in
theorem ggX1_readAll_X1_start : GoodIn wsX1_readAll wsX1_start := goodIn_r _ [6, 7, 8, 9, 10, 11, 12, 5, 13, 14, 15, 16, 68, 69, 70, 71, 72, 73, 74, 75, 76] (by decide +kernel) (by decide +kernel)
set_option maxRecDepth 20000 in
theorem gX1_readAll_X1_start : GoodIn wsX1_readAll (wsV RX1 28 RX1 yX1_start wsX1_start) := goodIn_app (goodIn_of _ (by decide +kernel)) ggX1_readAll_X1_start
set_option maxRecDepth 20000 in
theorem ggX1_readAll_X1_take : GoodIn wsX1_readAll wsX1_take := goodIn_r _ [20, 16, 21, 22, 23, 24, 5, 25, 26, 27, 28, 29, 30, 7, 10, 11, 12, 13, 14, 15, 31, 32, 33, 34, 35, 36, 37, 38, 8, 9, 39, 40, 41, 42, 43, 44, 45, 46, 47, 48, 49, 50, 51, 52, 53, 54, 55, 56, 57, 58, 68, 69, 70, 71, 72, 73, 74, 75, 76] (by decide +kernel) (by decide +kernel)
set_option maxRecDepth 20000 in
theorem gX1_readAll_X1_take : GoodIn wsX1_readAll (wsV RX1 32 RX1 yX1_take wsX1_take) := goodIn_app (goodIn_of _ (by decide +kernel)) ggX1_readAll_X1_take
set_option maxRecDepth 20000 in
theorem ggX1_readAll_X1_end : GoodIn wsX1_readAll wsX1_end := goodIn_r _ [62, 16, 7, 9, 14, 63, 64, 65, 66, 67, 43, 44, 45, 5, 46, 15, 26, 68, 69, 70, 71, 72, 73, 74, 75, 76] (by decide +kernel) (by decide +kernel)
set_option maxRecDepth 20000 in
theorem gX1_readAll_X1_end : GoodIn wsX1_readAll (wsV RX1 36 RX1 yX1_end wsX1_end) := goodIn_app (goodIn_of _ (by decide +kernel)) ggX1_readAll_X1_end
theorem dX1_readAll_0 : decode cX1_readAll 0 = .ok (.aload_n 0, 1) := by decide +kernel
theorem dX1_readAll_1 : decode cX1_readAll 1 = .ok (.iload_n 3, 1) := by decide +kernel
theorem dX1_readAll_2 : decode cX1_readAll 2 = .ok (.invokevirtual 28, 3) := by decide +kernel
theorem dX1_readAll_5 : decode cX1_readAll 5 = .ok (.iconst 0, 1) := by decide +kernel
theorem dX1_readAll_6 : decode cX1_readAll 6 = .ok (.istore 4, 2) := by decide +kernel
theorem dX1_readAll_8 : decode cX1_readAll 8 = .ok (.iload 4, 2) := by decide +kernel
theorem dX1_readAll_10 : decode cX1_readAll 10 = .ok (.iload_n 2, 1) := by decide +kernel
theorem dX1_readAll_11 : decode cX1_readAll 11 = .ok (.if_icmp .ge 53, 3) := by decide +kernel
theorem dX1_readAll_14 : decode cX1_readAll 14 = .ok (.iload 4, 2) := by decide +kernel
theorem dX1_readAll_16 : decode cX1_readAll 16 = .ok (.aload_n 1, 1) := by decide +kernel
theorem dX1_readAll_17 : decode cX1_readAll 17 = .ok (.arraylength, 1) := by decide +kernel
theorem dX1_readAll_18 : decode cX1_readAll 18 = .ok (.if_icmp .ge 46, 3) := by decide +kernel
theorem dX1_readAll_21 : decode cX1_readAll 21 = .ok (.aload_n 1, 1) := by decide +kernel
theorem dX1_readAll_22 : decode cX1_readAll 22 = .ok (.iload 4, 2) := by decide +kernel
theorem dX1_readAll_24 : decode cX1_readAll 24 = .ok (.iaload, 1) := by decide +kernel
theorem dX1_readAll_25 : decode cX1_readAll 25 = .ok (.bipush 32, 2) := by decide +kernel
theorem dX1_readAll_27 : decode cX1_readAll 27 = .ok (.if_icmp .ne 7, 3) := by decide +kernel
theorem dX1_readAll_30 : decode cX1_readAll 30 = .ok (.iconst 0, 1) := by decide +kernel
theorem dX1_readAll_31 : decode cX1_readAll 31 = .ok (.goto 11, 3) := by decide +kernel
theorem dX1_readAll_34 : decode cX1_readAll 34 = .ok (.aload_n 0, 1) := by decide +kernel
theorem dX1_readAll_35 : decode cX1_readAll 35 = .ok (.aload_n 1, 1) := by decide +kernel
theorem dX1_readAll_36 : decode cX1_readAll 36 = .ok (.iload 4, 2) := by decide +kernel
theorem dX1_readAll_38 : decode cX1_readAll 38 = .ok (.iaload, 1) := by decide +kernel
theorem dX1_readAll_39 : decode cX1_readAll 39 = .ok (.invokevirtual 32, 3) := by decide +kernel
theorem dX1_readAll_42 : decode cX1_readAll 42 = .ok (.istore 5, 2) := by decide +kernel
theorem dX1_readAll_44 : decode cX1_readAll 44 = .ok (.iload 5, 2) := by decide +kernel
theorem dX1_readAll_46 : decode cX1_readAll 46 = .ok (.ifCond .eq 12, 3) := by decide +kernel
theorem dX1_readAll_49 : decode cX1_readAll 49 = .ok (.aload_n 0, 1) := by decide +kernel
theorem dX1_readAll_50 : decode cX1_readAll 50 = .ok (.iload 4, 2) := by decide +kernel
theorem dX1_readAll_52 : decode cX1_readAll 52 = .ok (.putfield 24, 3) := by decide +kernel
theorem dX1_readAll_55 : decode cX1_readAll 55 = .ok (.iload 5, 2) := by decide +kernel
theorem dX1_readAll_57 : decode cX1_readAll 57 = .ok (.ireturn, 1) := by decide +kernel
theorem dX1_readAll_58 : decode cX1_readAll 58 = .ok (.iinc 4 1, 3) := by decide +kernel
theorem dX1_readAll_61 : decode cX1_readAll 61 = .ok (.goto (-53), 3) := by decide +kernel
theorem dX1_readAll_64 : decode cX1_readAll 64 = .ok (.aload_n 0, 1) := by decide +kernel
theorem dX1_readAll_65 : decode cX1_readAll 65 = .ok (.invokevirtual 36, 3) := by decide +kernel
theorem dX1_readAll_68 : decode cX1_readAll 68 = .ok (.istore 4, 2) := by decide +kernel
theorem dX1_readAll_70 : decode cX1_readAll 70 = .ok (.aload_n 0, 1) := by decide +kernel
theorem dX1_readAll_71 : decode cX1_readAll 71 = .ok (.iload 4, 2) := by decide +kernel
theorem dX1_readAll_73 : decode cX1_readAll 73 = .ok (.ifCond .ne 7, 3) := by decide +kernel
theorem dX1_readAll_76 : decode cX1_readAll 76 = .ok (.iconst (-1), 1) := by decide +kernel
theorem dX1_readAll_77 : decode cX1_readAll 77 = .ok (.goto 4, 3) := by decide +kernel
theorem dX1_readAll_80 : decode cX1_readAll 80 = .ok (.iload_n 2, 1) := by decide +kernel
theorem dX1_readAll_81 : decode cX1_readAll 81 = .ok (.putfield 24, 3) := by decide +kernel
theorem dX1_readAll_84 : decode cX1_readAll 84 = .ok (.iload 4, 2) := by decide +kernel
theorem dX1_readAll_86 : decode cX1_readAll 86 = .ok (.ireturn, 1) := by decide +kernel
set_option maxRecDepth 20000 in
theorem ggX1_start_X1_startTotal : GoodIn wsX1_start wsX1_startTotal := goodIn_r _ [8, 9, 1, 10, 11, 12, 13, 14, 15, 16, 17, 18, 19, 20] (by decide +kernel) (by decide +kernel)
set_option maxRecDepth 20000 in
theorem gX1_start_X1_startTotal : GoodIn wsX1_start (wsV RX1 50 RX1 yX1_startTotal wsX1_startTotal) := goodIn_app (goodIn_of _ (by decide +kernel)) ggX1_start_X1_startTotal
theorem dX1_start_0 : decode cX1_start 0 = .ok (.aload_n 0, 1) := by decide +kernel
theorem dX1_start_1 : decode cX1_start 1 = .ok (.iconst 0, 1) := by decide +kernel
theorem dX1_start_2 : decode cX1_start 2 = .ok (.putfield 40, 3) := by decide +kernel
theorem dX1_start_5 : decode cX1_start 5 = .ok (.aload_n 0, 1) := by decide +kernel
theorem dX1_start_6 : decode cX1_start 6 = .ok (.iconst 1, 1) := by decide +kernel
theorem dX1_start_7 : decode cX1_start 7 = .ok (.putfield 43, 3) := by decide +kernel
theorem dX1_start_10 : decode cX1_start 10 = .ok (.aload_n 0, 1) := by decide +kernel
theorem dX1_start_11 : decode cX1_start 11 = .ok (.iload_n 1, 1) := by decide +kernel
theorem dX1_start_12 : decode cX1_start 12 = .ok (.putfield 46, 3) := by decide +kernel
theorem dX1_start_15 : decode cX1_start 15 = .ok (.aload_n 0, 1) := by decide +kernel
theorem dX1_start_16 : decode cX1_start 16 = .ok (.invokevirtual 50, 3) := by decide +kernel
theorem dX1_start_19 : decode cX1_start 19 = .ok (.return_, 1) := by decide +kernel
theorem dX1_startTotal_0 : decode cX1_startTotal 0 = .ok (.iconst 0, 1) := by decide +kernel
theorem dX1_startTotal_1 : decode cX1_startTotal 1 = .ok (.istore_n 1, 1) := by decide +kernel
theorem dX1_startTotal_2 : decode cX1_startTotal 2 = .ok (.iload_n 1, 1) := by decide +kernel
theorem dX1_startTotal_3 : decode cX1_startTotal 3 = .ok (.bipush 10, 2) := by decide +kernel
theorem dX1_startTotal_5 : decode cX1_startTotal 5 = .ok (.if_icmp .ge 21, 3) := by decide +kernel
theorem dX1_startTotal_8 : decode cX1_startTotal 8 = .ok (.aload_n 0, 1) := by decide +kernel
theorem dX1_startTotal_9 : decode cX1_startTotal 9 = .ok (.getfield 13, 3) := by decide +kernel
theorem dX1_startTotal_12 : decode cX1_startTotal 12 = .ok (.aload_n 0, 1) := by decide +kernel
theorem dX1_startTotal_13 : decode cX1_startTotal 13 = .ok (.getfield 40, 3) := by decide +kernel
theorem dX1_startTotal_16 : decode cX1_startTotal 16 = .ok (.aaload, 1) := by decide +kernel
theorem dX1_startTotal_17 : decode cX1_startTotal 17 = .ok (.iload_n 1, 1) := by decide +kernel
theorem dX1_startTotal_18 : decode cX1_startTotal 18 = .ok (.lconst 0, 1) := by decide +kernel
theorem dX1_startTotal_19 : decode cX1_startTotal 19 = .ok (.lastore, 1) := by decide +kernel
theorem dX1_startTotal_20 : decode cX1_startTotal 20 = .ok (.iinc 1 1, 3) := by decide +kernel
theorem dX1_startTotal_23 : decode cX1_startTotal 23 = .ok (.goto (-21), 3) := by decide +kernel
theorem dX1_startTotal_26 : decode cX1_startTotal 26 = .ok (.aload_n 0, 1) := by decide +kernel
theorem dX1_startTotal_27 : decode cX1_startTotal 27 = .ok (.getfield 16, 3) := by decide +kernel
theorem dX1_startTotal_30 : decode cX1_startTotal 30 = .ok (.aload_n 0, 1) := by decide +kernel
theorem dX1_startTotal_31 : decode cX1_startTotal 31 = .ok (.getfield 40, 3) := by decide +kernel
theorem dX1_startTotal_34 : decode cX1_startTotal 34 = .ok (.iconst 1, 1) := by decide +kernel
theorem dX1_startTotal_35 : decode cX1_startTotal 35 = .ok (.iastore, 1) := by decide +kernel
theorem dX1_startTotal_36 : decode cX1_startTotal 36 = .ok (.aload_n 0, 1) := by decide +kernel
theorem dX1_startTotal_37 : decode cX1_startTotal 37 = .ok (.iconst 0, 1) := by decide +kernel
theorem dX1_startTotal_38 : decode cX1_startTotal 38 = .ok (.putfield 53, 3) := by decide +kernel
theorem dX1_startTotal_41 : decode cX1_startTotal 41 = .ok (.return_, 1) := by decide +kernel
set_option maxRecDepth 20000 in
theorem ggX1_end_X1_putFactor : GoodIn wsX1_end wsX1_putFactor := goodIn_r _ [14, 4, 2, 15, 16, 17, 18, 19, 20, 21, 22, 23, 24, 25] (by decide +kernel) (by decide +kernel)
set_option maxRecDepth 20000 in
theorem gX1_end_X1_putFactor : GoodIn wsX1_end (wsV RX1 56 RX1 yX1_putFactor wsX1_putFactor) := goodIn_app (goodIn_of _ (by decide +kernel)) ggX1_end_X1_putFactor
theorem dX1_end_0 : decode cX1_end 0 = .ok (.aload_n 0, 1) := by decide +kernel
theorem dX1_end_1 : decode cX1_end 1 = .ok (.getfield 53, 3) := by decide +kernel
theorem dX1_end_4 : decode cX1_end 4 = .ok (.iconst 1, 1) := by decide +kernel
theorem dX1_end_5 : decode cX1_end 5 = .ok (.if_icmp .eq 11, 3) := by decide +kernel
theorem dX1_end_8 : decode cX1_end 8 = .ok (.aload_n 0, 1) := by decide +kernel
theorem dX1_end_9 : decode cX1_end 9 = .ok (.getfield 53, 3) := by decide +kernel
theorem dX1_end_12 : decode cX1_end 12 = .ok (.iconst 4, 1) := by decide +kernel
theorem dX1_end_13 : decode cX1_end 13 = .ok (.if_icmp .ne 7, 3) := by decide +kernel
theorem dX1_end_16 : decode cX1_end 16 = .ok (.iconst 1, 1) := by decide +kernel
theorem dX1_end_17 : decode cX1_end 17 = .ok (.goto 4, 3) := by decide +kernel
theorem dX1_end_20 : decode cX1_end 20 = .ok (.iconst 0, 1) := by decide +kernel
theorem dX1_end_21 : decode cX1_end 21 = .ok (.istore_n 1, 1) := by decide +kernel
theorem dX1_end_22 : decode cX1_end 22 = .ok (.iload_n 1, 1) := by decide +kernel
theorem dX1_end_23 : decode cX1_end 23 = .ok (.ifCond .eq 17, 3) := by decide +kernel
theorem dX1_end_26 : decode cX1_end 26 = .ok (.aload_n 0, 1) := by decide +kernel
theorem dX1_end_27 : decode cX1_end 27 = .ok (.getfield 40, 3) := by decide +kernel
theorem dX1_end_30 : decode cX1_end 30 = .ok (.ifCond .gt 10, 3) := by decide +kernel
theorem dX1_end_33 : decode cX1_end 33 = .ok (.aload_n 0, 1) := by decide +kernel
theorem dX1_end_34 : decode cX1_end 34 = .ok (.getfield 46, 3) := by decide +kernel
theorem dX1_end_37 : decode cX1_end 37 = .ok (.ifCond .eq 5, 3) := by decide +kernel
theorem dX1_end_40 : decode cX1_end 40 = .ok (.iconst 1, 1) := by decide +kernel
theorem dX1_end_41 : decode cX1_end 41 = .ok (.ireturn, 1) := by decide +kernel
theorem dX1_end_42 : decode cX1_end 42 = .ok (.aload_n 0, 1) := by decide +kernel
theorem dX1_end_43 : decode cX1_end 43 = .ok (.invokevirtual 56, 3) := by decide +kernel
theorem dX1_end_46 : decode cX1_end 46 = .ok (.iconst 0, 1) := by decide +kernel
theorem dX1_end_47 : decode cX1_end 47 = .ok (.istore_n 2, 1) := by decide +kernel
theorem dX1_end_48 : decode cX1_end 48 = .ok (.iload_n 2, 1) := by decide +kernel
theorem dX1_end_49 : decode cX1_end 49 = .ok (.bipush 10, 2) := by decide +kernel
theorem dX1_end_51 : decode cX1_end 51 = .ok (.if_icmp .ge 29, 3) := by decide +kernel
theorem dX1_end_54 : decode cX1_end 54 = .ok (.aload_n 0, 1) := by decide +kernel
theorem dX1_end_55 : decode cX1_end 55 = .ok (.getfield 13, 3) := by decide +kernel
theorem dX1_end_58 : decode cX1_end 58 = .ok (.iconst 0, 1) := by decide +kernel
theorem dX1_end_59 : decode cX1_end 59 = .ok (.aaload, 1) := by decide +kernel
theorem dX1_end_60 : decode cX1_end 60 = .ok (.iload_n 2, 1) := by decide +kernel
theorem dX1_end_61 : decode cX1_end 61 = .ok (.laload, 1) := by decide +kernel
theorem dX1_end_62 : decode cX1_end 62 = .ok (.invokestatic 59, 3) := by decide +kernel
theorem dX1_end_65 : decode cX1_end 65 = .ok (.ldc2_w 65, 3) := by decide +kernel
theorem dX1_end_68 : decode cX1_end 68 = .ok (.lcmp, 1) := by decide +kernel
theorem dX1_end_69 : decode cX1_end 69 = .ok (.ifCond .le 5, 3) := by decide +kernel
theorem dX1_end_72 : decode cX1_end 72 = .ok (.iconst 3, 1) := by decide +kernel
theorem dX1_end_73 : decode cX1_end 73 = .ok (.ireturn, 1) := by decide +kernel
theorem dX1_end_74 : decode cX1_end 74 = .ok (.iinc 2 1, 3) := by decide +kernel
theorem dX1_end_77 : decode cX1_end 77 = .ok (.goto (-29), 3) := by decide +kernel
theorem dX1_end_80 : decode cX1_end 80 = .ok (.iconst 0, 1) := by decide +kernel
theorem dX1_end_81 : decode cX1_end 81 = .ok (.ireturn, 1) := by decide +kernel
set_option maxRecDepth 20000 in
theorem ggX1_take_X1_takeAtom : GoodIn wsX1_take wsX1_takeAtom := goodIn_r _ [7, 8, 1, 9, 10, 11, 6, 12, 13, 14, 15, 16, 17, 18, 19, 20, 21, 22, 23, 50, 51, 52, 53, 54, 55, 56, 57, 58] (by decide +kernel) (by decide +kernel)
set_option maxRecDepth 20000 in
theorem gX1_take_X1_takeAtom : GoodIn wsX1_take (wsV RX1 67 RX1 yX1_takeAtom wsX1_takeAtom) := goodIn_app (goodIn_of _ (by decide +kernel)) ggX1_take_X1_takeAtom
set_option maxRecDepth 20000 in
theorem ggX1_take_X1_takeJoint : GoodIn wsX1_take wsX1_takeJoint := goodIn_r _ [27, 13, 28, 29, 30, 31, 32, 6, 33, 19, 1, 34, 35, 36, 37, 18, 8, 38, 39, 40, 41, 42, 43, 44, 45, 50, 51, 52, 53, 54, 55, 56, 57, 58] (by decide +kernel) (by decide +kernel)
set_option maxRecDepth 20000 in
theorem gX1_take_X1_takeJoint : GoodIn wsX1_take (wsV RX1 73 RX1 yX1_takeJoint wsX1_takeJoint) := goodIn_app (goodIn_of _ (by decide +kernel)) ggX1_take_X1_takeJoint
set_option maxRecDepth 20000 in
theorem ggX1_take_X1_takeFigure : GoodIn wsX1_take wsX1_takeFigure := goodIn_r _ [49, 8, 2, 1, 50, 51, 52, 53, 54, 55, 56, 57, 58] (by decide +kernel) (by decide +kernel)
set_option maxRecDepth 20000 in
theorem gX1_take_X1_takeFigure : GoodIn wsX1_take (wsV RX1 76 RX1 yX1_takeFigure wsX1_takeFigure) := goodIn_app (goodIn_of _ (by decide +kernel)) ggX1_take_X1_takeFigure
theorem dX1_take_0 : decode cX1_take 0 = .ok (.aload_n 0, 1) := by decide +kernel
theorem dX1_take_1 : decode cX1_take 1 = .ok (.getfield 53, 3) := by decide +kernel
theorem dX1_take_4 : decode cX1_take 4 = .ok (.tableswitch 92 0 3 #[32, 38, 62, 86], 32) := by decide +kernel
theorem dX1_take_36 : decode cX1_take 36 = .ok (.aload_n 0, 1) := by decide +kernel
theorem dX1_take_37 : decode cX1_take 37 = .ok (.iload_n 1, 1) := by decide +kernel
theorem dX1_take_38 : decode cX1_take 38 = .ok (.invokevirtual 67, 3) := by decide +kernel
theorem dX1_take_41 : decode cX1_take 41 = .ok (.ireturn, 1) := by decide +kernel
theorem dX1_take_42 : decode cX1_take 42 = .ok (.iload_n 1, 1) := by decide +kernel
theorem dX1_take_43 : decode cX1_take 43 = .ok (.bipush 94, 2) := by decide +kernel
theorem dX1_take_45 : decode cX1_take 45 = .ok (.if_icmp .ne 15, 3) := by decide +kernel
theorem dX1_take_48 : decode cX1_take 48 = .ok (.aload_n 0, 1) := by decide +kernel
theorem dX1_take_49 : decode cX1_take 49 = .ok (.iconst 2, 1) := by decide +kernel
theorem dX1_take_50 : decode cX1_take 50 = .ok (.putfield 53, 3) := by decide +kernel
theorem dX1_take_53 : decode cX1_take 53 = .ok (.aload_n 0, 1) := by decide +kernel
theorem dX1_take_54 : decode cX1_take 54 = .ok (.iconst 1, 1) := by decide +kernel
theorem dX1_take_55 : decode cX1_take 55 = .ok (.putfield 70, 3) := by decide +kernel
theorem dX1_take_58 : decode cX1_take 58 = .ok (.iconst 0, 1) := by decide +kernel
theorem dX1_take_59 : decode cX1_take 59 = .ok (.ireturn, 1) := by decide +kernel
theorem dX1_take_60 : decode cX1_take 60 = .ok (.aload_n 0, 1) := by decide +kernel
theorem dX1_take_61 : decode cX1_take 61 = .ok (.iload_n 1, 1) := by decide +kernel
theorem dX1_take_62 : decode cX1_take 62 = .ok (.invokevirtual 73, 3) := by decide +kernel
theorem dX1_take_65 : decode cX1_take 65 = .ok (.ireturn, 1) := by decide +kernel
theorem dX1_take_66 : decode cX1_take 66 = .ok (.iload_n 1, 1) := by decide +kernel
theorem dX1_take_67 : decode cX1_take 67 = .ok (.bipush 45, 2) := by decide +kernel
theorem dX1_take_69 : decode cX1_take 69 = .ok (.if_icmp .ne 15, 3) := by decide +kernel
theorem dX1_take_72 : decode cX1_take 72 = .ok (.aload_n 0, 1) := by decide +kernel
theorem dX1_take_73 : decode cX1_take 73 = .ok (.iconst 3, 1) := by decide +kernel
theorem dX1_take_74 : decode cX1_take 74 = .ok (.putfield 53, 3) := by decide +kernel
theorem dX1_take_77 : decode cX1_take 77 = .ok (.aload_n 0, 1) := by decide +kernel
theorem dX1_take_78 : decode cX1_take 78 = .ok (.iconst (-1), 1) := by decide +kernel
theorem dX1_take_79 : decode cX1_take 79 = .ok (.putfield 70, 3) := by decide +kernel
theorem dX1_take_82 : decode cX1_take 82 = .ok (.iconst 0, 1) := by decide +kernel
theorem dX1_take_83 : decode cX1_take 83 = .ok (.ireturn, 1) := by decide +kernel
theorem dX1_take_84 : decode cX1_take 84 = .ok (.aload_n 0, 1) := by decide +kernel
theorem dX1_take_85 : decode cX1_take 85 = .ok (.iload_n 1, 1) := by decide +kernel
theorem dX1_take_86 : decode cX1_take 86 = .ok (.invokevirtual 76, 3) := by decide +kernel
theorem dX1_take_89 : decode cX1_take 89 = .ok (.ireturn, 1) := by decide +kernel
theorem dX1_take_90 : decode cX1_take 90 = .ok (.aload_n 0, 1) := by decide +kernel
theorem dX1_take_91 : decode cX1_take 91 = .ok (.iload_n 1, 1) := by decide +kernel
theorem dX1_take_92 : decode cX1_take 92 = .ok (.invokevirtual 76, 3) := by decide +kernel
theorem dX1_take_95 : decode cX1_take 95 = .ok (.ireturn, 1) := by decide +kernel
theorem dX1_take_96 : decode cX1_take 96 = .ok (.aload_n 0, 1) := by decide +kernel
theorem dX1_take_97 : decode cX1_take 97 = .ok (.iload_n 1, 1) := by decide +kernel
theorem dX1_take_98 : decode cX1_take 98 = .ok (.invokevirtual 73, 3) := by decide +kernel
theorem dX1_take_101 : decode cX1_take 101 = .ok (.ireturn, 1) := by decide +kernel
set_option maxRecDepth 20000 in
theorem ggX1_takeAtom_X1_takeOpening : GoodIn wsX1_takeAtom wsX1_takeOpening := goodIn_r _ [7, 8, 9, 10, 11, 6, 12, 13, 14, 2, 19, 20, 21, 22, 23, 24, 25, 26, 27] (by decide +kernel) (by decide +kernel)
set_option maxRecDepth 20000 in
theorem gX1_takeAtom_X1_takeOpening : GoodIn wsX1_takeAtom (wsV RX1 79 RX1 yX1_takeOpening wsX1_takeOpening) := goodIn_app (goodIn_of _ (by decide +kernel)) ggX1_takeAtom_X1_takeOpening
set_option maxRecDepth 20000 in
theorem ggX1_takeAtom_J7_fill_d0a16 : GoodIn wsX1_takeAtom wsJ7_fill_d0a16 := goodIn_r _ [18] (by decide +kernel) (by decide +kernel)
set_option maxRecDepth 20000 in
theorem gX1_takeAtom_J7_fill_d0a16 : GoodIn wsX1_takeAtom (va_wsS RX1 82 yJ7_fill_d0a16 wsJ7_fill_d0a16) := goodIn_app (goodIn_of _ (by decide +kernel)) ggX1_takeAtom_J7_fill_d0a16
theorem dX1_takeAtom_0 : decode cX1_takeAtom 0 = .ok (.iload_n 1, 1) := by decide +kernel
theorem dX1_takeAtom_1 : decode cX1_takeAtom 1 = .ok (.bipush 40, 2) := by decide +kernel
theorem dX1_takeAtom_3 : decode cX1_takeAtom 3 = .ok (.if_icmp .ne 8, 3) := by decide +kernel
theorem dX1_takeAtom_6 : decode cX1_takeAtom 6 = .ok (.aload_n 0, 1) := by decide +kernel
theorem dX1_takeAtom_7 : decode cX1_takeAtom 7 = .ok (.invokevirtual 79, 3) := by decide +kernel
theorem dX1_takeAtom_10 : decode cX1_takeAtom 10 = .ok (.ireturn, 1) := by decide +kernel
theorem dX1_takeAtom_11 : decode cX1_takeAtom 11 = .ok (.aload_n 0, 1) := by decide +kernel
theorem dX1_takeAtom_12 : decode cX1_takeAtom 12 = .ok (.getfield 20, 3) := by decide +kernel
theorem dX1_takeAtom_15 : decode cX1_takeAtom 15 = .ok (.lconst 0, 1) := by decide +kernel
theorem dX1_takeAtom_16 : decode cX1_takeAtom 16 = .ok (.invokestatic 82, 3) := by decide +kernel
theorem dX1_takeAtom_19 : decode cX1_takeAtom 19 = .ok (.iload_n 1, 1) := by decide +kernel
theorem dX1_takeAtom_20 : decode cX1_takeAtom 20 = .ok (.bipush 117, 2) := by decide +kernel
theorem dX1_takeAtom_22 : decode cX1_takeAtom 22 = .ok (.if_icmp .lt 22, 3) := by decide +kernel
theorem dX1_takeAtom_25 : decode cX1_takeAtom 25 = .ok (.iload_n 1, 1) := by decide +kernel
theorem dX1_takeAtom_26 : decode cX1_takeAtom 26 = .ok (.bipush 122, 2) := by decide +kernel
theorem dX1_takeAtom_28 : decode cX1_takeAtom 28 = .ok (.if_icmp .gt 16, 3) := by decide +kernel
theorem dX1_takeAtom_31 : decode cX1_takeAtom 31 = .ok (.aload_n 0, 1) := by decide +kernel
theorem dX1_takeAtom_32 : decode cX1_takeAtom 32 = .ok (.getfield 20, 3) := by decide +kernel
theorem dX1_takeAtom_35 : decode cX1_takeAtom 35 = .ok (.iload_n 1, 1) := by decide +kernel
theorem dX1_takeAtom_36 : decode cX1_takeAtom 36 = .ok (.bipush 117, 2) := by decide +kernel
theorem dX1_takeAtom_38 : decode cX1_takeAtom 38 = .ok (.isub, 1) := by decide +kernel
theorem dX1_takeAtom_39 : decode cX1_takeAtom 39 = .ok (.lconst 1, 1) := by decide +kernel
theorem dX1_takeAtom_40 : decode cX1_takeAtom 40 = .ok (.lastore, 1) := by decide +kernel
theorem dX1_takeAtom_41 : decode cX1_takeAtom 41 = .ok (.goto 39, 3) := by decide +kernel
theorem dX1_takeAtom_44 : decode cX1_takeAtom 44 = .ok (.iload_n 1, 1) := by decide +kernel
theorem dX1_takeAtom_45 : decode cX1_takeAtom 45 = .ok (.bipush 97, 2) := by decide +kernel
theorem dX1_takeAtom_47 : decode cX1_takeAtom 47 = .ok (.if_icmp .lt 25, 3) := by decide +kernel
theorem dX1_takeAtom_50 : decode cX1_takeAtom 50 = .ok (.iload_n 1, 1) := by decide +kernel
theorem dX1_takeAtom_51 : decode cX1_takeAtom 51 = .ok (.bipush 100, 2) := by decide +kernel
theorem dX1_takeAtom_53 : decode cX1_takeAtom 53 = .ok (.if_icmp .gt 19, 3) := by decide +kernel
theorem dX1_takeAtom_56 : decode cX1_takeAtom 56 = .ok (.aload_n 0, 1) := by decide +kernel
theorem dX1_takeAtom_57 : decode cX1_takeAtom 57 = .ok (.getfield 20, 3) := by decide +kernel
theorem dX1_takeAtom_60 : decode cX1_takeAtom 60 = .ok (.bipush 6, 2) := by decide +kernel
theorem dX1_takeAtom_62 : decode cX1_takeAtom 62 = .ok (.iload_n 1, 1) := by decide +kernel
theorem dX1_takeAtom_63 : decode cX1_takeAtom 63 = .ok (.iadd, 1) := by decide +kernel
theorem dX1_takeAtom_64 : decode cX1_takeAtom 64 = .ok (.bipush 97, 2) := by decide +kernel
theorem dX1_takeAtom_66 : decode cX1_takeAtom 66 = .ok (.isub, 1) := by decide +kernel
theorem dX1_takeAtom_67 : decode cX1_takeAtom 67 = .ok (.lconst 1, 1) := by decide +kernel
theorem dX1_takeAtom_68 : decode cX1_takeAtom 68 = .ok (.lastore, 1) := by decide +kernel
theorem dX1_takeAtom_69 : decode cX1_takeAtom 69 = .ok (.goto 11, 3) := by decide +kernel
theorem dX1_takeAtom_72 : decode cX1_takeAtom 72 = .ok (.iload_n 1, 1) := by decide +kernel
theorem dX1_takeAtom_73 : decode cX1_takeAtom 73 = .ok (.bipush 49, 2) := by decide +kernel
theorem dX1_takeAtom_75 : decode cX1_takeAtom 75 = .ok (.if_icmp .eq 5, 3) := by decide +kernel
theorem dX1_takeAtom_78 : decode cX1_takeAtom 78 = .ok (.iconst 1, 1) := by decide +kernel
theorem dX1_takeAtom_79 : decode cX1_takeAtom 79 = .ok (.ireturn, 1) := by decide +kernel
theorem dX1_takeAtom_80 : decode cX1_takeAtom 80 = .ok (.aload_n 0, 1) := by decide +kernel
theorem dX1_takeAtom_81 : decode cX1_takeAtom 81 = .ok (.iconst 1, 1) := by decide +kernel
theorem dX1_takeAtom_82 : decode cX1_takeAtom 82 = .ok (.putfield 53, 3) := by decide +kernel
theorem dX1_takeAtom_85 : decode cX1_takeAtom 85 = .ok (.iconst 0, 1) := by decide +kernel
theorem dX1_takeAtom_86 : decode cX1_takeAtom 86 = .ok (.ireturn, 1) := by decide +kernel
set_option maxRecDepth 20000 in
theorem ggX1_takeOpening_X1_startTotal : GoodIn wsX1_takeOpening wsX1_startTotal := goodIn_r _ [6, 7, 1, 8, 9, 10, 11, 12, 13, 14, 15, 16, 17, 18] (by decide +kernel) (by decide +kernel)
set_option maxRecDepth 20000 in
theorem gX1_takeOpening_X1_startTotal : GoodIn wsX1_takeOpening (wsV RX1 50 RX1 yX1_startTotal wsX1_startTotal) := goodIn_app (goodIn_of _ (by decide +kernel)) ggX1_takeOpening_X1_startTotal
theorem dX1_takeOpening_0 : decode cX1_takeOpening 0 = .ok (.aload_n 0, 1) := by decide +kernel
theorem dX1_takeOpening_1 : decode cX1_takeOpening 1 = .ok (.getfield 40, 3) := by decide +kernel
theorem dX1_takeOpening_4 : decode cX1_takeOpening 4 = .ok (.bipush 6, 2) := by decide +kernel
theorem dX1_takeOpening_6 : decode cX1_takeOpening 6 = .ok (.if_icmp .lt 5, 3) := by decide +kernel
theorem dX1_takeOpening_9 : decode cX1_takeOpening 9 = .ok (.iconst 2, 1) := by decide +kernel
theorem dX1_takeOpening_10 : decode cX1_takeOpening 10 = .ok (.ireturn, 1) := by decide +kernel
theorem dX1_takeOpening_11 : decode cX1_takeOpening 11 = .ok (.aload_n 0, 1) := by decide +kernel
theorem dX1_takeOpening_12 : decode cX1_takeOpening 12 = .ok (.dup, 1) := by decide +kernel
theorem dX1_takeOpening_13 : decode cX1_takeOpening 13 = .ok (.getfield 40, 3) := by decide +kernel
theorem dX1_takeOpening_16 : decode cX1_takeOpening 16 = .ok (.iconst 1, 1) := by decide +kernel
theorem dX1_takeOpening_17 : decode cX1_takeOpening 17 = .ok (.iadd, 1) := by decide +kernel
theorem dX1_takeOpening_18 : decode cX1_takeOpening 18 = .ok (.putfield 40, 3) := by decide +kernel
theorem dX1_takeOpening_21 : decode cX1_takeOpening 21 = .ok (.aload_n 0, 1) := by decide +kernel
theorem dX1_takeOpening_22 : decode cX1_takeOpening 22 = .ok (.invokevirtual 50, 3) := by decide +kernel
theorem dX1_takeOpening_25 : decode cX1_takeOpening 25 = .ok (.iconst 0, 1) := by decide +kernel
theorem dX1_takeOpening_26 : decode cX1_takeOpening 26 = .ok (.ireturn, 1) := by decide +kernel
theorem dX1_takeFigure_0 : decode cX1_takeFigure 0 = .ok (.iload_n 1, 1) := by decide +kernel
theorem dX1_takeFigure_1 : decode cX1_takeFigure 1 = .ok (.bipush 48, 2) := by decide +kernel
theorem dX1_takeFigure_3 : decode cX1_takeFigure 3 = .ok (.if_icmp .lt 9, 3) := by decide +kernel
theorem dX1_takeFigure_6 : decode cX1_takeFigure 6 = .ok (.iload_n 1, 1) := by decide +kernel
theorem dX1_takeFigure_7 : decode cX1_takeFigure 7 = .ok (.bipush 57, 2) := by decide +kernel
theorem dX1_takeFigure_9 : decode cX1_takeFigure 9 = .ok (.if_icmp .le 5, 3) := by decide +kernel
theorem dX1_takeFigure_12 : decode cX1_takeFigure 12 = .ok (.iconst 1, 1) := by decide +kernel
theorem dX1_takeFigure_13 : decode cX1_takeFigure 13 = .ok (.ireturn, 1) := by decide +kernel
theorem dX1_takeFigure_14 : decode cX1_takeFigure 14 = .ok (.iconst 0, 1) := by decide +kernel
theorem dX1_takeFigure_15 : decode cX1_takeFigure 15 = .ok (.istore_n 2, 1) := by decide +kernel
theorem dX1_takeFigure_16 : decode cX1_takeFigure 16 = .ok (.iload_n 2, 1) := by decide +kernel
theorem dX1_takeFigure_17 : decode cX1_takeFigure 17 = .ok (.bipush 10, 2) := by decide +kernel
theorem dX1_takeFigure_19 : decode cX1_takeFigure 19 = .ok (.if_icmp .ge 28, 3) := by decide +kernel
theorem dX1_takeFigure_22 : decode cX1_takeFigure 22 = .ok (.aload_n 0, 1) := by decide +kernel
theorem dX1_takeFigure_23 : decode cX1_takeFigure 23 = .ok (.getfield 20, 3) := by decide +kernel
theorem dX1_takeFigure_26 : decode cX1_takeFigure 26 = .ok (.iload_n 2, 1) := by decide +kernel
theorem dX1_takeFigure_27 : decode cX1_takeFigure 27 = .ok (.dup2, 1) := by decide +kernel
theorem dX1_takeFigure_28 : decode cX1_takeFigure 28 = .ok (.laload, 1) := by decide +kernel
theorem dX1_takeFigure_29 : decode cX1_takeFigure 29 = .ok (.aload_n 0, 1) := by decide +kernel
theorem dX1_takeFigure_30 : decode cX1_takeFigure 30 = .ok (.getfield 70, 3) := by decide +kernel
theorem dX1_takeFigure_33 : decode cX1_takeFigure 33 = .ok (.iload_n 1, 1) := by decide +kernel
theorem dX1_takeFigure_34 : decode cX1_takeFigure 34 = .ok (.bipush 48, 2) := by decide +kernel
theorem dX1_takeFigure_36 : decode cX1_takeFigure 36 = .ok (.isub, 1) := by decide +kernel
theorem dX1_takeFigure_37 : decode cX1_takeFigure 37 = .ok (.imul, 1) := by decide +kernel
theorem dX1_takeFigure_38 : decode cX1_takeFigure 38 = .ok (.i2l, 1) := by decide +kernel
theorem dX1_takeFigure_39 : decode cX1_takeFigure 39 = .ok (.lmul, 1) := by decide +kernel
theorem dX1_takeFigure_40 : decode cX1_takeFigure 40 = .ok (.lastore, 1) := by decide +kernel
theorem dX1_takeFigure_41 : decode cX1_takeFigure 41 = .ok (.iinc 2 1, 3) := by decide +kernel
theorem dX1_takeFigure_44 : decode cX1_takeFigure 44 = .ok (.goto (-28), 3) := by decide +kernel
theorem dX1_takeFigure_47 : decode cX1_takeFigure 47 = .ok (.aload_n 0, 1) := by decide +kernel
theorem dX1_takeFigure_48 : decode cX1_takeFigure 48 = .ok (.iconst 4, 1) := by decide +kernel
theorem dX1_takeFigure_49 : decode cX1_takeFigure 49 = .ok (.putfield 53, 3) := by decide +kernel
theorem dX1_takeFigure_52 : decode cX1_takeFigure 52 = .ok (.iconst 0, 1) := by decide +kernel
theorem dX1_takeFigure_53 : decode cX1_takeFigure 53 = .ok (.ireturn, 1) := by decide +kernel
set_option maxRecDepth 20000 in
theorem ggX1_takeJoint_X1_joinNext : GoodIn wsX1_takeJoint wsX1_joinNext := goodIn_r _ [8, 9, 1, 10, 11, 12, 13, 7, 14, 15, 16, 25, 26, 27, 28, 29, 30, 31, 32, 33] (by decide +kernel) (by decide +kernel)
set_option maxRecDepth 20000 in
theorem gX1_takeJoint_X1_joinNext : GoodIn wsX1_takeJoint (wsV RX1 88 RX1 yX1_joinNext wsX1_joinNext) := goodIn_app (goodIn_of _ (by decide +kernel)) ggX1_takeJoint_X1_joinNext
set_option maxRecDepth 20000 in
theorem ggX1_takeJoint_X1_takeClosing : GoodIn wsX1_takeJoint wsX1_takeClosing := goodIn_r _ [20, 15, 1, 16, 21, 22, 23, 24, 10, 11, 12, 13, 7, 14, 9, 25, 26, 27, 28, 29, 30, 31, 32, 33] (by decide +kernel) (by decide +kernel)
set_option maxRecDepth 20000 in
theorem gX1_takeJoint_X1_takeClosing : GoodIn wsX1_takeJoint (wsV RX1 92 RX1 yX1_takeClosing wsX1_takeClosing) := goodIn_app (goodIn_of _ (by decide +kernel)) ggX1_takeJoint_X1_takeClosing
theorem dX1_takeJoint_0 : decode cX1_takeJoint 0 = .ok (.aload_n 0, 1) := by decide +kernel
theorem dX1_takeJoint_1 : decode cX1_takeJoint 1 = .ok (.getfield 40, 3) := by decide +kernel
theorem dX1_takeJoint_4 : decode cX1_takeJoint 4 = .ok (.ifCond .ne 10, 3) := by decide +kernel
theorem dX1_takeJoint_7 : decode cX1_takeJoint 7 = .ok (.aload_n 0, 1) := by decide +kernel
theorem dX1_takeJoint_8 : decode cX1_takeJoint 8 = .ok (.getfield 43, 3) := by decide +kernel
theorem dX1_takeJoint_11 : decode cX1_takeJoint 11 = .ok (.goto 4, 3) := by decide +kernel
theorem dX1_takeJoint_14 : decode cX1_takeJoint 14 = .ok (.iconst 1, 1) := by decide +kernel
theorem dX1_takeJoint_15 : decode cX1_takeJoint 15 = .ok (.istore_n 2, 1) := by decide +kernel
theorem dX1_takeJoint_16 : decode cX1_takeJoint 16 = .ok (.iload_n 1, 1) := by decide +kernel
theorem dX1_takeJoint_17 : decode cX1_takeJoint 17 = .ok (.bipush 42, 2) := by decide +kernel
theorem dX1_takeJoint_19 : decode cX1_takeJoint 19 = .ok (.if_icmp .ne 11, 3) := by decide +kernel
theorem dX1_takeJoint_22 : decode cX1_takeJoint 22 = .ok (.aload_n 0, 1) := by decide +kernel
theorem dX1_takeJoint_23 : decode cX1_takeJoint 23 = .ok (.iload_n 2, 1) := by decide +kernel
theorem dX1_takeJoint_24 : decode cX1_takeJoint 24 = .ok (.invokevirtual 88, 3) := by decide +kernel
theorem dX1_takeJoint_27 : decode cX1_takeJoint 27 = .ok (.goto 81, 3) := by decide +kernel
theorem dX1_takeJoint_30 : decode cX1_takeJoint 30 = .ok (.iload_n 1, 1) := by decide +kernel
theorem dX1_takeJoint_31 : decode cX1_takeJoint 31 = .ok (.bipush 47, 2) := by decide +kernel
theorem dX1_takeJoint_33 : decode cX1_takeJoint 33 = .ok (.if_icmp .ne 12, 3) := by decide +kernel
theorem dX1_takeJoint_36 : decode cX1_takeJoint 36 = .ok (.aload_n 0, 1) := by decide +kernel
theorem dX1_takeJoint_37 : decode cX1_takeJoint 37 = .ok (.iload_n 2, 1) := by decide +kernel
theorem dX1_takeJoint_38 : decode cX1_takeJoint 38 = .ok (.ineg, 1) := by decide +kernel
theorem dX1_takeJoint_39 : decode cX1_takeJoint 39 = .ok (.invokevirtual 88, 3) := by decide +kernel
theorem dX1_takeJoint_42 : decode cX1_takeJoint 42 = .ok (.goto 66, 3) := by decide +kernel
theorem dX1_takeJoint_45 : decode cX1_takeJoint 45 = .ok (.iload_n 1, 1) := by decide +kernel
theorem dX1_takeJoint_46 : decode cX1_takeJoint 46 = .ok (.bipush 41, 2) := by decide +kernel
theorem dX1_takeJoint_48 : decode cX1_takeJoint 48 = .ok (.if_icmp .ne 17, 3) := by decide +kernel
theorem dX1_takeJoint_51 : decode cX1_takeJoint 51 = .ok (.aload_n 0, 1) := by decide +kernel
theorem dX1_takeJoint_52 : decode cX1_takeJoint 52 = .ok (.getfield 40, 3) := by decide +kernel
theorem dX1_takeJoint_55 : decode cX1_takeJoint 55 = .ok (.ifCond .le 10, 3) := by decide +kernel
theorem dX1_takeJoint_58 : decode cX1_takeJoint 58 = .ok (.aload_n 0, 1) := by decide +kernel
theorem dX1_takeJoint_59 : decode cX1_takeJoint 59 = .ok (.invokevirtual 92, 3) := by decide +kernel
theorem dX1_takeJoint_62 : decode cX1_takeJoint 62 = .ok (.goto 46, 3) := by decide +kernel
theorem dX1_takeJoint_65 : decode cX1_takeJoint 65 = .ok (.iload_n 1, 1) := by decide +kernel
theorem dX1_takeJoint_66 : decode cX1_takeJoint 66 = .ok (.bipush 61, 2) := by decide +kernel
theorem dX1_takeJoint_68 : decode cX1_takeJoint 68 = .ok (.if_icmp .ne 38, 3) := by decide +kernel
theorem dX1_takeJoint_71 : decode cX1_takeJoint 71 = .ok (.aload_n 0, 1) := by decide +kernel
theorem dX1_takeJoint_72 : decode cX1_takeJoint 72 = .ok (.getfield 40, 3) := by decide +kernel
theorem dX1_takeJoint_75 : decode cX1_takeJoint 75 = .ok (.ifCond .ne 31, 3) := by decide +kernel
theorem dX1_takeJoint_78 : decode cX1_takeJoint 78 = .ok (.aload_n 0, 1) := by decide +kernel
theorem dX1_takeJoint_79 : decode cX1_takeJoint 79 = .ok (.getfield 46, 3) := by decide +kernel
theorem dX1_takeJoint_82 : decode cX1_takeJoint 82 = .ok (.ifCond .eq 24, 3) := by decide +kernel
theorem dX1_takeJoint_85 : decode cX1_takeJoint 85 = .ok (.aload_n 0, 1) := by decide +kernel
theorem dX1_takeJoint_86 : decode cX1_takeJoint 86 = .ok (.iconst 0, 1) := by decide +kernel
theorem dX1_takeJoint_87 : decode cX1_takeJoint 87 = .ok (.putfield 46, 3) := by decide +kernel
theorem dX1_takeJoint_90 : decode cX1_takeJoint 90 = .ok (.aload_n 0, 1) := by decide +kernel
theorem dX1_takeJoint_91 : decode cX1_takeJoint 91 = .ok (.iconst (-1), 1) := by decide +kernel
theorem dX1_takeJoint_92 : decode cX1_takeJoint 92 = .ok (.putfield 43, 3) := by decide +kernel
theorem dX1_takeJoint_95 : decode cX1_takeJoint 95 = .ok (.aload_n 0, 1) := by decide +kernel
theorem dX1_takeJoint_96 : decode cX1_takeJoint 96 = .ok (.aload_n 0, 1) := by decide +kernel
theorem dX1_takeJoint_97 : decode cX1_takeJoint 97 = .ok (.getfield 43, 3) := by decide +kernel
theorem dX1_takeJoint_100 : decode cX1_takeJoint 100 = .ok (.invokevirtual 88, 3) := by decide +kernel
theorem dX1_takeJoint_103 : decode cX1_takeJoint 103 = .ok (.goto 5, 3) := by decide +kernel
theorem dX1_takeJoint_106 : decode cX1_takeJoint 106 = .ok (.iconst 1, 1) := by decide +kernel
theorem dX1_takeJoint_107 : decode cX1_takeJoint 107 = .ok (.ireturn, 1) := by decide +kernel
theorem dX1_takeJoint_108 : decode cX1_takeJoint 108 = .ok (.iconst 0, 1) := by decide +kernel
theorem dX1_takeJoint_109 : decode cX1_takeJoint 109 = .ok (.ireturn, 1) := by decide +kernel
set_option maxRecDepth 20000 in
theorem ggX1_joinNext_X1_putFactor : GoodIn wsX1_joinNext wsX1_putFactor := goodIn_r _ [8, 9, 2, 1, 10, 11, 12, 13, 14, 15, 16, 17, 18, 19] (by decide +kernel) (by decide +kernel)
set_option maxRecDepth 20000 in
theorem gX1_joinNext_X1_putFactor : GoodIn wsX1_joinNext (wsV RX1 56 RX1 yX1_putFactor wsX1_putFactor) := goodIn_app (goodIn_of _ (by decide +kernel)) ggX1_joinNext_X1_putFactor
theorem dX1_joinNext_0 : decode cX1_joinNext 0 = .ok (.aload_n 0, 1) := by decide +kernel
theorem dX1_joinNext_1 : decode cX1_joinNext 1 = .ok (.invokevirtual 56, 3) := by decide +kernel
theorem dX1_joinNext_4 : decode cX1_joinNext 4 = .ok (.aload_n 0, 1) := by decide +kernel
theorem dX1_joinNext_5 : decode cX1_joinNext 5 = .ok (.getfield 16, 3) := by decide +kernel
theorem dX1_joinNext_8 : decode cX1_joinNext 8 = .ok (.aload_n 0, 1) := by decide +kernel
theorem dX1_joinNext_9 : decode cX1_joinNext 9 = .ok (.getfield 40, 3) := by decide +kernel
theorem dX1_joinNext_12 : decode cX1_joinNext 12 = .ok (.iload_n 1, 1) := by decide +kernel
theorem dX1_joinNext_13 : decode cX1_joinNext 13 = .ok (.iastore, 1) := by decide +kernel
theorem dX1_joinNext_14 : decode cX1_joinNext 14 = .ok (.aload_n 0, 1) := by decide +kernel
theorem dX1_joinNext_15 : decode cX1_joinNext 15 = .ok (.iconst 0, 1) := by decide +kernel
theorem dX1_joinNext_16 : decode cX1_joinNext 16 = .ok (.putfield 53, 3) := by decide +kernel
theorem dX1_joinNext_19 : decode cX1_joinNext 19 = .ok (.return_, 1) := by decide +kernel
set_option maxRecDepth 20000 in
theorem ggX1_takeClosing_X1_putFactor : GoodIn wsX1_takeClosing wsX1_putFactor := goodIn_r _ [13, 1, 2, 14, 3, 15, 16, 17, 18, 19, 20, 21, 22, 23] (by decide +kernel) (by decide +kernel)
set_option maxRecDepth 20000 in
theorem gX1_takeClosing_X1_putFactor : GoodIn wsX1_takeClosing (wsV RX1 56 RX1 yX1_putFactor wsX1_putFactor) := goodIn_app (goodIn_of _ (by decide +kernel)) ggX1_takeClosing_X1_putFactor
theorem dX1_takeClosing_0 : decode cX1_takeClosing 0 = .ok (.aload_n 0, 1) := by decide +kernel
theorem dX1_takeClosing_1 : decode cX1_takeClosing 1 = .ok (.invokevirtual 56, 3) := by decide +kernel
theorem dX1_takeClosing_4 : decode cX1_takeClosing 4 = .ok (.aload_n 0, 1) := by decide +kernel
theorem dX1_takeClosing_5 : decode cX1_takeClosing 5 = .ok (.getfield 13, 3) := by decide +kernel
theorem dX1_takeClosing_8 : decode cX1_takeClosing 8 = .ok (.aload_n 0, 1) := by decide +kernel
theorem dX1_takeClosing_9 : decode cX1_takeClosing 9 = .ok (.getfield 40, 3) := by decide +kernel
theorem dX1_takeClosing_12 : decode cX1_takeClosing 12 = .ok (.aaload, 1) := by decide +kernel
theorem dX1_takeClosing_13 : decode cX1_takeClosing 13 = .ok (.iconst 0, 1) := by decide +kernel
theorem dX1_takeClosing_14 : decode cX1_takeClosing 14 = .ok (.aload_n 0, 1) := by decide +kernel
theorem dX1_takeClosing_15 : decode cX1_takeClosing 15 = .ok (.getfield 20, 3) := by decide +kernel
theorem dX1_takeClosing_18 : decode cX1_takeClosing 18 = .ok (.iconst 0, 1) := by decide +kernel
theorem dX1_takeClosing_19 : decode cX1_takeClosing 19 = .ok (.bipush 10, 2) := by decide +kernel
theorem dX1_takeClosing_21 : decode cX1_takeClosing 21 = .ok (.invokestatic 95, 3) := by decide +kernel
theorem dX1_takeClosing_24 : decode cX1_takeClosing 24 = .ok (.aload_n 0, 1) := by decide +kernel
theorem dX1_takeClosing_25 : decode cX1_takeClosing 25 = .ok (.dup, 1) := by decide +kernel
theorem dX1_takeClosing_26 : decode cX1_takeClosing 26 = .ok (.getfield 40, 3) := by decide +kernel
theorem dX1_takeClosing_29 : decode cX1_takeClosing 29 = .ok (.iconst 1, 1) := by decide +kernel
theorem dX1_takeClosing_30 : decode cX1_takeClosing 30 = .ok (.isub, 1) := by decide +kernel
theorem dX1_takeClosing_31 : decode cX1_takeClosing 31 = .ok (.putfield 40, 3) := by decide +kernel
theorem dX1_takeClosing_34 : decode cX1_takeClosing 34 = .ok (.aload_n 0, 1) := by decide +kernel
theorem dX1_takeClosing_35 : decode cX1_takeClosing 35 = .ok (.iconst 1, 1) := by decide +kernel
theorem dX1_takeClosing_36 : decode cX1_takeClosing 36 = .ok (.putfield 53, 3) := by decide +kernel
theorem dX1_takeClosing_39 : decode cX1_takeClosing 39 = .ok (.return_, 1) := by decide +kernel
theorem dX1_putFactor_0 : decode cX1_putFactor 0 = .ok (.iconst 0, 1) := by decide +kernel
theorem dX1_putFactor_1 : decode cX1_putFactor 1 = .ok (.istore_n 1, 1) := by decide +kernel
theorem dX1_putFactor_2 : decode cX1_putFactor 2 = .ok (.iload_n 1, 1) := by decide +kernel
theorem dX1_putFactor_3 : decode cX1_putFactor 3 = .ok (.bipush 10, 2) := by decide +kernel
theorem dX1_putFactor_5 : decode cX1_putFactor 5 = .ok (.if_icmp .ge 40, 3) := by decide +kernel
theorem dX1_putFactor_8 : decode cX1_putFactor 8 = .ok (.aload_n 0, 1) := by decide +kernel
theorem dX1_putFactor_9 : decode cX1_putFactor 9 = .ok (.getfield 13, 3) := by decide +kernel
theorem dX1_putFactor_12 : decode cX1_putFactor 12 = .ok (.aload_n 0, 1) := by decide +kernel
theorem dX1_putFactor_13 : decode cX1_putFactor 13 = .ok (.getfield 40, 3) := by decide +kernel
theorem dX1_putFactor_16 : decode cX1_putFactor 16 = .ok (.aaload, 1) := by decide +kernel
theorem dX1_putFactor_17 : decode cX1_putFactor 17 = .ok (.iload_n 1, 1) := by decide +kernel
theorem dX1_putFactor_18 : decode cX1_putFactor 18 = .ok (.dup2, 1) := by decide +kernel
theorem dX1_putFactor_19 : decode cX1_putFactor 19 = .ok (.laload, 1) := by decide +kernel
theorem dX1_putFactor_20 : decode cX1_putFactor 20 = .ok (.aload_n 0, 1) := by decide +kernel
theorem dX1_putFactor_21 : decode cX1_putFactor 21 = .ok (.getfield 16, 3) := by decide +kernel
theorem dX1_putFactor_24 : decode cX1_putFactor 24 = .ok (.aload_n 0, 1) := by decide +kernel
theorem dX1_putFactor_25 : decode cX1_putFactor 25 = .ok (.getfield 40, 3) := by decide +kernel
theorem dX1_putFactor_28 : decode cX1_putFactor 28 = .ok (.iaload, 1) := by decide +kernel
theorem dX1_putFactor_29 : decode cX1_putFactor 29 = .ok (.i2l, 1) := by decide +kernel
theorem dX1_putFactor_30 : decode cX1_putFactor 30 = .ok (.aload_n 0, 1) := by decide +kernel
theorem dX1_putFactor_31 : decode cX1_putFactor 31 = .ok (.getfield 20, 3) := by decide +kernel
theorem dX1_putFactor_34 : decode cX1_putFactor 34 = .ok (.iload_n 1, 1) := by decide +kernel
theorem dX1_putFactor_35 : decode cX1_putFactor 35 = .ok (.laload, 1) := by decide +kernel
theorem dX1_putFactor_36 : decode cX1_putFactor 36 = .ok (.lmul, 1) := by decide +kernel
theorem dX1_putFactor_37 : decode cX1_putFactor 37 = .ok (.ladd, 1) := by decide +kernel
theorem dX1_putFactor_38 : decode cX1_putFactor 38 = .ok (.lastore, 1) := by decide +kernel
theorem dX1_putFactor_39 : decode cX1_putFactor 39 = .ok (.iinc 1 1, 3) := by decide +kernel
theorem dX1_putFactor_42 : decode cX1_putFactor 42 = .ok (.goto (-40), 3) := by decide +kernel
theorem dX1_putFactor_45 : decode cX1_putFactor 45 = .ok (.return_, 1) := by decide +kernel
set_option maxRecDepth 20000 in
theorem ggX2_init_X2_clear : GoodIn wsX2_init wsX2_clear := goodIn_r _ [15, 16, 6, 7, 17, 18, 19, 20, 21, 22, 23, 24, 25, 26, 27] (by decide +kernel) (by decide +kernel)
set_option maxRecDepth 20000 in
theorem gX2_init_X2_clear : GoodIn wsX2_init (wsV RX2 29 RX2 yX2_clear wsX2_clear) := goodIn_app (goodIn_of _ (by decide +kernel)) ggX2_init_X2_clear
theorem dX2_init_0 : decode cX2_init 0 = .ok (.aload_n 0, 1) := by decide +kernel
theorem dX2_init_1 : decode cX2_init 1 = .ok (.invokespecial 3, 3) := by decide +kernel
theorem dX2_init_4 : decode cX2_init 4 = .ok (.aload_n 0, 1) := by decide +kernel
theorem dX2_init_5 : decode cX2_init 5 = .ok (.bipush 6, 2) := by decide +kernel
theorem dX2_init_7 : decode cX2_init 7 = .ok (.bipush 6, 2) := by decide +kernel
theorem dX2_init_9 : decode cX2_init 9 = .ok (.multianewarray 9 2, 4) := by decide +kernel
theorem dX2_init_13 : decode cX2_init 13 = .ok (.putfield 11, 3) := by decide +kernel
theorem dX2_init_16 : decode cX2_init 16 = .ok (.aload_n 0, 1) := by decide +kernel
theorem dX2_init_17 : decode cX2_init 17 = .ok (.iconst 4, 1) := by decide +kernel
theorem dX2_init_18 : decode cX2_init 18 = .ok (.bipush 6, 2) := by decide +kernel
theorem dX2_init_20 : decode cX2_init 20 = .ok (.multianewarray 9 2, 4) := by decide +kernel
theorem dX2_init_24 : decode cX2_init 24 = .ok (.putfield 16, 3) := by decide +kernel
theorem dX2_init_27 : decode cX2_init 27 = .ok (.aload_n 0, 1) := by decide +kernel
theorem dX2_init_28 : decode cX2_init 28 = .ok (.bipush 6, 2) := by decide +kernel
theorem dX2_init_30 : decode cX2_init 30 = .ok (.newarray .long, 2) := by decide +kernel
theorem dX2_init_32 : decode cX2_init 32 = .ok (.putfield 19, 3) := by decide +kernel
theorem dX2_init_35 : decode cX2_init 35 = .ok (.aload_n 0, 1) := by decide +kernel
theorem dX2_init_36 : decode cX2_init 36 = .ok (.iconst 4, 1) := by decide +kernel
theorem dX2_init_37 : decode cX2_init 37 = .ok (.newarray .long, 2) := by decide +kernel
theorem dX2_init_39 : decode cX2_init 39 = .ok (.putfield 23, 3) := by decide +kernel
theorem dX2_init_42 : decode cX2_init 42 = .ok (.aload_n 0, 1) := by decide +kernel
theorem dX2_init_43 : decode cX2_init 43 = .ok (.bipush 6, 2) := by decide +kernel
theorem dX2_init_45 : decode cX2_init 45 = .ok (.newarray .long, 2) := by decide +kernel
theorem dX2_init_47 : decode cX2_init 47 = .ok (.putfield 26, 3) := by decide +kernel
theorem dX2_init_50 : decode cX2_init 50 = .ok (.aload_n 0, 1) := by decide +kernel
theorem dX2_init_51 : decode cX2_init 51 = .ok (.invokevirtual 29, 3) := by decide +kernel
theorem dX2_init_54 : decode cX2_init 54 = .ok (.return_, 1) := by decide +kernel
set_option maxRecDepth 20000 in
theorem ggX2_clear_J7_fill_d0a16 : GoodIn wsX2_clear wsJ7_fill_d0a16 := goodIn_r _ [7] (by decide +kernel) (by decide +kernel)
set_option maxRecDepth 20000 in
theorem gX2_clear_J7_fill_d0a16 : GoodIn wsX2_clear (va_wsS RX2 36 yJ7_fill_d0a16 wsJ7_fill_d0a16) := goodIn_app (goodIn_of _ (by decide +kernel)) ggX2_clear_J7_fill_d0a16
theorem dX2_clear_0 : decode cX2_clear 0 = .ok (.aload_n 0, 1) := by decide +kernel
theorem dX2_clear_1 : decode cX2_clear 1 = .ok (.bipush 6, 2) := by decide +kernel
theorem dX2_clear_3 : decode cX2_clear 3 = .ok (.putfield 32, 3) := by decide +kernel
theorem dX2_clear_6 : decode cX2_clear 6 = .ok (.iconst 0, 1) := by decide +kernel
theorem dX2_clear_7 : decode cX2_clear 7 = .ok (.istore_n 1, 1) := by decide +kernel
theorem dX2_clear_8 : decode cX2_clear 8 = .ok (.iload_n 1, 1) := by decide +kernel
theorem dX2_clear_9 : decode cX2_clear 9 = .ok (.bipush 6, 2) := by decide +kernel
theorem dX2_clear_11 : decode cX2_clear 11 = .ok (.if_icmp .ge 28, 3) := by decide +kernel
theorem dX2_clear_14 : decode cX2_clear 14 = .ok (.aload_n 0, 1) := by decide +kernel
theorem dX2_clear_15 : decode cX2_clear 15 = .ok (.getfield 11, 3) := by decide +kernel
theorem dX2_clear_18 : decode cX2_clear 18 = .ok (.iload_n 1, 1) := by decide +kernel
theorem dX2_clear_19 : decode cX2_clear 19 = .ok (.aaload, 1) := by decide +kernel
theorem dX2_clear_20 : decode cX2_clear 20 = .ok (.lconst 0, 1) := by decide +kernel
theorem dX2_clear_21 : decode cX2_clear 21 = .ok (.invokestatic 36, 3) := by decide +kernel
theorem dX2_clear_24 : decode cX2_clear 24 = .ok (.aload_n 0, 1) := by decide +kernel
theorem dX2_clear_25 : decode cX2_clear 25 = .ok (.getfield 11, 3) := by decide +kernel
theorem dX2_clear_28 : decode cX2_clear 28 = .ok (.iload_n 1, 1) := by decide +kernel
theorem dX2_clear_29 : decode cX2_clear 29 = .ok (.aaload, 1) := by decide +kernel
theorem dX2_clear_30 : decode cX2_clear 30 = .ok (.iload_n 1, 1) := by decide +kernel
theorem dX2_clear_31 : decode cX2_clear 31 = .ok (.lconst 1, 1) := by decide +kernel
theorem dX2_clear_32 : decode cX2_clear 32 = .ok (.lastore, 1) := by decide +kernel
theorem dX2_clear_33 : decode cX2_clear 33 = .ok (.iinc 1 1, 3) := by decide +kernel
theorem dX2_clear_36 : decode cX2_clear 36 = .ok (.goto (-28), 3) := by decide +kernel
theorem dX2_clear_39 : decode cX2_clear 39 = .ok (.iconst 0, 1) := by decide +kernel
theorem dX2_clear_40 : decode cX2_clear 40 = .ok (.istore_n 1, 1) := by decide +kernel
theorem dX2_clear_41 : decode cX2_clear 41 = .ok (.iload_n 1, 1) := by decide +kernel
theorem dX2_clear_42 : decode cX2_clear 42 = .ok (.iconst 4, 1) := by decide +kernel
theorem dX2_clear_43 : decode cX2_clear 43 = .ok (.if_icmp .ge 19, 3) := by decide +kernel
theorem dX2_clear_46 : decode cX2_clear 46 = .ok (.aload_n 0, 1) := by decide +kernel
theorem dX2_clear_47 : decode cX2_clear 47 = .ok (.getfield 16, 3) := by decide +kernel
theorem dX2_clear_50 : decode cX2_clear 50 = .ok (.iload_n 1, 1) := by decide +kernel
theorem dX2_clear_51 : decode cX2_clear 51 = .ok (.aaload, 1) := by decide +kernel
theorem dX2_clear_52 : decode cX2_clear 52 = .ok (.lconst 0, 1) := by decide +kernel
theorem dX2_clear_53 : decode cX2_clear 53 = .ok (.invokestatic 36, 3) := by decide +kernel
theorem dX2_clear_56 : decode cX2_clear 56 = .ok (.iinc 1 1, 3) := by decide +kernel
theorem dX2_clear_59 : decode cX2_clear 59 = .ok (.goto (-18), 3) := by decide +kernel
theorem dX2_clear_62 : decode cX2_clear 62 = .ok (.return_, 1) := by decide +kernel
theorem dX2_isFixed_0 : decode cX2_isFixed 0 = .ok (.iconst 0, 1) := by decide +kernel
theorem dX2_isFixed_1 : decode cX2_isFixed 1 = .ok (.istore_n 2, 1) := by decide +kernel
theorem dX2_isFixed_2 : decode cX2_isFixed 2 = .ok (.iload_n 2, 1) := by decide +kernel
theorem dX2_isFixed_3 : decode cX2_isFixed 3 = .ok (.aload_n 0, 1) := by decide +kernel
theorem dX2_isFixed_4 : decode cX2_isFixed 4 = .ok (.getfield 32, 3) := by decide +kernel
theorem dX2_isFixed_7 : decode cX2_isFixed 7 = .ok (.if_icmp .ge 24, 3) := by decide +kernel
theorem dX2_isFixed_10 : decode cX2_isFixed 10 = .ok (.aload_n 0, 1) := by decide +kernel
theorem dX2_isFixed_11 : decode cX2_isFixed 11 = .ok (.getfield 11, 3) := by decide +kernel
theorem dX2_isFixed_14 : decode cX2_isFixed 14 = .ok (.iload_n 2, 1) := by decide +kernel
theorem dX2_isFixed_15 : decode cX2_isFixed 15 = .ok (.aaload, 1) := by decide +kernel
theorem dX2_isFixed_16 : decode cX2_isFixed 16 = .ok (.iload_n 1, 1) := by decide +kernel
theorem dX2_isFixed_17 : decode cX2_isFixed 17 = .ok (.laload, 1) := by decide +kernel
theorem dX2_isFixed_18 : decode cX2_isFixed 18 = .ok (.lconst 0, 1) := by decide +kernel
theorem dX2_isFixed_19 : decode cX2_isFixed 19 = .ok (.lcmp, 1) := by decide +kernel
theorem dX2_isFixed_20 : decode cX2_isFixed 20 = .ok (.ifCond .eq 5, 3) := by decide +kernel
theorem dX2_isFixed_23 : decode cX2_isFixed 23 = .ok (.iconst 0, 1) := by decide +kernel
theorem dX2_isFixed_24 : decode cX2_isFixed 24 = .ok (.ireturn, 1) := by decide +kernel
theorem dX2_isFixed_25 : decode cX2_isFixed 25 = .ok (.iinc 2 1, 3) := by decide +kernel
theorem dX2_isFixed_28 : decode cX2_isFixed 28 = .ok (.goto (-26), 3) := by decide +kernel
theorem dX2_isFixed_31 : decode cX2_isFixed 31 = .ok (.iconst 1, 1) := by decide +kernel
theorem dX2_isFixed_32 : decode cX2_isFixed 32 = .ok (.ireturn, 1) := by decide +kernel
set_option maxRecDepth 20000 in
theorem ggX2_powerOf_X2_product : GoodIn wsX2_powerOf wsX2_product := goodIn_r _ [5] (by decide +kernel) (by decide +kernel)
set_option maxRecDepth 20000 in
theorem gX2_powerOf_X2_product : GoodIn wsX2_powerOf (va_wsS RX2 42 yX2_product wsX2_product) := goodIn_app (goodIn_of _ (by decide +kernel)) ggX2_powerOf_X2_product
theorem dX2_powerOf_0 : decode cX2_powerOf 0 = .ok (.aload_n 1, 1) := by decide +kernel
theorem dX2_powerOf_1 : decode cX2_powerOf 1 = .ok (.bipush 6, 2) := by decide +kernel
theorem dX2_powerOf_3 : decode cX2_powerOf 3 = .ok (.iload_n 2, 1) := by decide +kernel
theorem dX2_powerOf_4 : decode cX2_powerOf 4 = .ok (.iadd, 1) := by decide +kernel
theorem dX2_powerOf_5 : decode cX2_powerOf 5 = .ok (.iaload, 1) := by decide +kernel
theorem dX2_powerOf_6 : decode cX2_powerOf 6 = .ok (.i2l, 1) := by decide +kernel
theorem dX2_powerOf_7 : decode cX2_powerOf 7 = .ok (.aload_n 1, 1) := by decide +kernel
theorem dX2_powerOf_8 : decode cX2_powerOf 8 = .ok (.aload_n 0, 1) := by decide +kernel
theorem dX2_powerOf_9 : decode cX2_powerOf 9 = .ok (.getfield 16, 3) := by decide +kernel
theorem dX2_powerOf_12 : decode cX2_powerOf 12 = .ok (.iload_n 2, 1) := by decide +kernel
theorem dX2_powerOf_13 : decode cX2_powerOf 13 = .ok (.aaload, 1) := by decide +kernel
theorem dX2_powerOf_14 : decode cX2_powerOf 14 = .ok (.invokestatic 42, 3) := by decide +kernel
theorem dX2_powerOf_17 : decode cX2_powerOf 17 = .ok (.ladd, 1) := by decide +kernel
theorem dX2_powerOf_18 : decode cX2_powerOf 18 = .ok (.lreturn, 1) := by decide +kernel
set_option maxRecDepth 20000 in
theorem ggX2_rise_X2_product : GoodIn wsX2_rise wsX2_product := goodIn_r _ [6] (by decide +kernel) (by decide +kernel)
set_option maxRecDepth 20000 in
theorem gX2_rise_X2_product : GoodIn wsX2_rise (va_wsS RX2 42 yX2_product wsX2_product) := goodIn_app (goodIn_of _ (by decide +kernel)) ggX2_rise_X2_product
theorem dX2_rise_0 : decode cX2_rise 0 = .ok (.iload_n 2, 1) := by decide +kernel
theorem dX2_rise_1 : decode cX2_rise 1 = .ok (.aload_n 0, 1) := by decide +kernel
theorem dX2_rise_2 : decode cX2_rise 2 = .ok (.getfield 32, 3) := by decide +kernel
theorem dX2_rise_5 : decode cX2_rise 5 = .ok (.if_icmp .ge 16, 3) := by decide +kernel
theorem dX2_rise_8 : decode cX2_rise 8 = .ok (.aload_n 1, 1) := by decide +kernel
theorem dX2_rise_9 : decode cX2_rise 9 = .ok (.aload_n 0, 1) := by decide +kernel
theorem dX2_rise_10 : decode cX2_rise 10 = .ok (.getfield 11, 3) := by decide +kernel
theorem dX2_rise_13 : decode cX2_rise 13 = .ok (.iload_n 2, 1) := by decide +kernel
theorem dX2_rise_14 : decode cX2_rise 14 = .ok (.aaload, 1) := by decide +kernel
theorem dX2_rise_15 : decode cX2_rise 15 = .ok (.invokestatic 42, 3) := by decide +kernel
theorem dX2_rise_18 : decode cX2_rise 18 = .ok (.goto 4, 3) := by decide +kernel
theorem dX2_rise_21 : decode cX2_rise 21 = .ok (.lconst 0, 1) := by decide +kernel
theorem dX2_rise_22 : decode cX2_rise 22 = .ok (.lreturn, 1) := by decide +kernel
set_option maxRecDepth 20000 in
theorem ggX2_imply_X2_weigh : GoodIn wsX2_imply wsX2_weigh := goodIn_r _ [5, 6, 7, 8, 9, 10, 11, 4, 12, 13, 14, 15, 16, 17, 33, 34, 35, 36, 37, 38, 39] (by decide +kernel) (by decide +kernel)
set_option maxRecDepth 20000 in
theorem gX2_imply_X2_weigh : GoodIn wsX2_imply (wsV RX2 46 RX2 yX2_weigh wsX2_weigh) := goodIn_app (goodIn_of _ (by decide +kernel)) ggX2_imply_X2_weigh
set_option maxRecDepth 20000 in
theorem ggX2_imply_X2_commonGain : GoodIn wsX2_imply wsX2_commonGain := goodIn_r _ [21, 6, 7, 22, 23, 4, 24, 25, 26, 27, 28, 33, 34, 35, 36, 37, 38, 39] (by decide +kernel) (by decide +kernel)
set_option maxRecDepth 20000 in
theorem gX2_imply_X2_commonGain : GoodIn wsX2_imply (wsV RX2 50 RX2 yX2_commonGain wsX2_commonGain) := goodIn_app (goodIn_of _ (by decide +kernel)) ggX2_imply_X2_commonGain
set_option maxRecDepth 20000 in
theorem ggX2_imply_X2_lacksAreTimes : GoodIn wsX2_imply wsX2_lacksAreTimes := goodIn_r _ [32, 9, 33, 34, 35, 36, 37, 38, 39] (by decide +kernel) (by decide +kernel)
set_option maxRecDepth 20000 in
theorem gX2_imply_X2_lacksAreTimes : GoodIn wsX2_imply (wsV RX2 54 RX2 yX2_lacksAreTimes wsX2_lacksAreTimes) := goodIn_app (goodIn_of _ (by decide +kernel)) ggX2_imply_X2_lacksAreTimes
theorem dX2_imply_0 : decode cX2_imply 0 = .ok (.aload_n 0, 1) := by decide +kernel
theorem dX2_imply_1 : decode cX2_imply 1 = .ok (.aload_n 1, 1) := by decide +kernel
theorem dX2_imply_2 : decode cX2_imply 2 = .ok (.invokevirtual 46, 3) := by decide +kernel
theorem dX2_imply_5 : decode cX2_imply 5 = .ok (.aload_n 0, 1) := by decide +kernel
theorem dX2_imply_6 : decode cX2_imply 6 = .ok (.invokevirtual 50, 3) := by decide +kernel
theorem dX2_imply_9 : decode cX2_imply 9 = .ok (.lconst 0, 1) := by decide +kernel
theorem dX2_imply_10 : decode cX2_imply 10 = .ok (.lcmp, 1) := by decide +kernel
theorem dX2_imply_11 : decode cX2_imply 11 = .ok (.ifCond .ne 15, 3) := by decide +kernel
theorem dX2_imply_14 : decode cX2_imply 14 = .ok (.aload_n 0, 1) := by decide +kernel
theorem dX2_imply_15 : decode cX2_imply 15 = .ok (.lconst 0, 1) := by decide +kernel
theorem dX2_imply_16 : decode cX2_imply 16 = .ok (.invokevirtual 54, 3) := by decide +kernel
theorem dX2_imply_19 : decode cX2_imply 19 = .ok (.ifCond .eq 7, 3) := by decide +kernel
theorem dX2_imply_22 : decode cX2_imply 22 = .ok (.iconst 1, 1) := by decide +kernel
theorem dX2_imply_23 : decode cX2_imply 23 = .ok (.goto 4, 3) := by decide +kernel
theorem dX2_imply_26 : decode cX2_imply 26 = .ok (.iconst 0, 1) := by decide +kernel
theorem dX2_imply_27 : decode cX2_imply 27 = .ok (.ireturn, 1) := by decide +kernel
set_option maxRecDepth 20000 in
theorem ggX2_agrees_X2_weigh : GoodIn wsX2_agrees wsX2_weigh := goodIn_r _ [5, 6, 7, 8, 9, 10, 11, 4, 12, 13, 14, 15, 16, 17, 33, 34, 35, 36, 37, 38, 39] (by decide +kernel) (by decide +kernel)
set_option maxRecDepth 20000 in
theorem gX2_agrees_X2_weigh : GoodIn wsX2_agrees (wsV RX2 46 RX2 yX2_weigh wsX2_weigh) := goodIn_app (goodIn_of _ (by decide +kernel)) ggX2_agrees_X2_weigh
set_option maxRecDepth 20000 in
theorem ggX2_agrees_X2_commonGain : GoodIn wsX2_agrees wsX2_commonGain := goodIn_r _ [21, 6, 7, 22, 23, 4, 24, 25, 26, 27, 28, 33, 34, 35, 36, 37, 38, 39] (by decide +kernel) (by decide +kernel)
set_option maxRecDepth 20000 in
theorem gX2_agrees_X2_commonGain : GoodIn wsX2_agrees (wsV RX2 50 RX2 yX2_commonGain wsX2_commonGain) := goodIn_app (goodIn_of _ (by decide +kernel)) ggX2_agrees_X2_commonGain
set_option maxRecDepth 20000 in
theorem ggX2_agrees_X2_lacksAreTimes : GoodIn wsX2_agrees wsX2_lacksAreTimes := goodIn_r _ [32, 9, 33, 34, 35, 36, 37, 38, 39] (by decide +kernel) (by decide +kernel)
set_option maxRecDepth 20000 in
theorem gX2_agrees_X2_lacksAreTimes : GoodIn wsX2_agrees (wsV RX2 54 RX2 yX2_lacksAreTimes wsX2_lacksAreTimes) := goodIn_app (goodIn_of _ (by decide +kernel)) ggX2_agrees_X2_lacksAreTimes
theorem dX2_agrees_0 : decode cX2_agrees 0 = .ok (.aload_n 0, 1) := by decide +kernel
theorem dX2_agrees_1 : decode cX2_agrees 1 = .ok (.aload_n 1, 1) := by decide +kernel
theorem dX2_agrees_2 : decode cX2_agrees 2 = .ok (.invokevirtual 46, 3) := by decide +kernel
theorem dX2_agrees_5 : decode cX2_agrees 5 = .ok (.aload_n 0, 1) := by decide +kernel
theorem dX2_agrees_6 : decode cX2_agrees 6 = .ok (.aload_n 0, 1) := by decide +kernel
theorem dX2_agrees_7 : decode cX2_agrees 7 = .ok (.invokevirtual 50, 3) := by decide +kernel
theorem dX2_agrees_10 : decode cX2_agrees 10 = .ok (.invokevirtual 54, 3) := by decide +kernel
theorem dX2_agrees_13 : decode cX2_agrees 13 = .ok (.ireturn, 1) := by decide +kernel
set_option maxRecDepth 20000 in
theorem ggX2_put_X2_weigh : GoodIn wsX2_put wsX2_weigh := goodIn_r _ [14, 1, 4, 2, 15, 16, 17, 13, 18, 19, 20, 21, 22, 23, 53, 54, 55, 56, 57, 58, 59] (by decide +kernel) (by decide +kernel)
set_option maxRecDepth 20000 in
theorem gX2_put_X2_weigh : GoodIn wsX2_put (wsV RX2 46 RX2 yX2_weigh wsX2_weigh) := goodIn_app (goodIn_of _ (by decide +kernel)) ggX2_put_X2_weigh
set_option maxRecDepth 20000 in
theorem ggX2_put_X2_divideToAndFro : GoodIn wsX2_put wsX2_divideToAndFro := goodIn_r _ [27, 4, 9, 3, 2, 28, 29, 13, 30, 53, 54, 55, 56, 57, 58, 59] (by decide +kernel) (by decide +kernel)
set_option maxRecDepth 20000 in
theorem gX2_put_X2_divideToAndFro : GoodIn wsX2_put (wsV RX2 58 RX2 yX2_divideToAndFro wsX2_divideToAndFro) := goodIn_app (goodIn_of _ (by decide +kernel)) ggX2_put_X2_divideToAndFro
set_option maxRecDepth 20000 in
theorem ggX2_put_X2_makeHeadPositive : GoodIn wsX2_put wsX2_makeHeadPositive := goodIn_r _ [33, 34, 35, 13, 36] (by decide +kernel) (by decide +kernel)
set_option maxRecDepth 20000 in
theorem gX2_put_X2_makeHeadPositive : GoodIn wsX2_put (va_wsS RX2 62 yX2_makeHeadPositive wsX2_makeHeadPositive) := goodIn_app (goodIn_of _ (by decide +kernel)) ggX2_put_X2_makeHeadPositive
set_option maxRecDepth 20000 in
theorem ggX2_put_X2_reduce : GoodIn wsX2_put wsX2_reduce := goodIn_r _ [40, 1, 2, 34, 35, 13, 36, 41, 42, 43, 44, 28, 29, 30, 53, 54, 55, 56, 57, 58, 59] (by decide +kernel) (by decide +kernel)
set_option maxRecDepth 20000 in
theorem gX2_put_X2_reduce : GoodIn wsX2_put (wsV RX2 66 RX2 yX2_reduce wsX2_reduce) := goodIn_app (goodIn_of _ (by decide +kernel)) ggX2_put_X2_reduce
set_option maxRecDepth 20000 in
theorem ggX2_put_X2_moveLowest : GoodIn wsX2_put wsX2_moveLowest := goodIn_r _ [48, 9, 23, 3, 15, 28, 29, 13, 30, 37, 38, 39, 40, 1, 2, 34, 35, 36, 41, 42, 43, 44, 53, 54, 55, 56, 57, 58, 59] (by decide +kernel) (by decide +kernel)
set_option maxRecDepth 20000 in
theorem gX2_put_X2_moveLowest : GoodIn wsX2_put (wsV RX2 80 RX2 yX2_moveLowest wsX2_moveLowest) := goodIn_app (goodIn_of _ (by decide +kernel)) ggX2_put_X2_moveLowest
set_option maxRecDepth 20000 in
theorem ggX2_put_X2_leaveOut : GoodIn wsX2_put wsX2_leaveOut := goodIn_r _ [52, 2, 1, 53, 54, 55, 56, 57, 58, 59] (by decide +kernel) (by decide +kernel)
set_option maxRecDepth 20000 in
theorem gX2_put_X2_leaveOut : GoodIn wsX2_put (wsV RX2 83 RX2 yX2_leaveOut wsX2_leaveOut) := goodIn_app (goodIn_of _ (by decide +kernel)) ggX2_put_X2_leaveOut
theorem dX2_put_0 : decode cX2_put 0 = .ok (.aload_n 0, 1) := by decide +kernel
theorem dX2_put_1 : decode cX2_put 1 = .ok (.aload_n 1, 1) := by decide +kernel
theorem dX2_put_2 : decode cX2_put 2 = .ok (.invokevirtual 46, 3) := by decide +kernel
theorem dX2_put_5 : decode cX2_put 5 = .ok (.iconst (-1), 1) := by decide +kernel
theorem dX2_put_6 : decode cX2_put 6 = .ok (.istore_n 2, 1) := by decide +kernel
theorem dX2_put_7 : decode cX2_put 7 = .ok (.aload_n 0, 1) := by decide +kernel
theorem dX2_put_8 : decode cX2_put 8 = .ok (.getfield 32, 3) := by decide +kernel
theorem dX2_put_11 : decode cX2_put 11 = .ok (.iconst 1, 1) := by decide +kernel
theorem dX2_put_12 : decode cX2_put 12 = .ok (.isub, 1) := by decide +kernel
theorem dX2_put_13 : decode cX2_put 13 = .ok (.istore_n 3, 1) := by decide +kernel
theorem dX2_put_14 : decode cX2_put 14 = .ok (.iload_n 3, 1) := by decide +kernel
theorem dX2_put_15 : decode cX2_put 15 = .ok (.ifCond .lt 95, 3) := by decide +kernel
theorem dX2_put_18 : decode cX2_put 18 = .ok (.iload_n 2, 1) := by decide +kernel
theorem dX2_put_19 : decode cX2_put 19 = .ok (.iconst (-1), 1) := by decide +kernel
theorem dX2_put_20 : decode cX2_put 20 = .ok (.if_icmp .eq 44, 3) := by decide +kernel
theorem dX2_put_23 : decode cX2_put 23 = .ok (.aload_n 0, 1) := by decide +kernel
theorem dX2_put_24 : decode cX2_put 24 = .ok (.iload_n 3, 1) := by decide +kernel
theorem dX2_put_25 : decode cX2_put 25 = .ok (.invokevirtual 58, 3) := by decide +kernel
theorem dX2_put_28 : decode cX2_put 28 = .ok (.aload_n 0, 1) := by decide +kernel
theorem dX2_put_29 : decode cX2_put 29 = .ok (.getfield 11, 3) := by decide +kernel
theorem dX2_put_32 : decode cX2_put 32 = .ok (.iload_n 3, 1) := by decide +kernel
theorem dX2_put_33 : decode cX2_put 33 = .ok (.aaload, 1) := by decide +kernel
theorem dX2_put_34 : decode cX2_put 34 = .ok (.invokestatic 62, 3) := by decide +kernel
theorem dX2_put_37 : decode cX2_put 37 = .ok (.aload_n 0, 1) := by decide +kernel
theorem dX2_put_38 : decode cX2_put 38 = .ok (.aload_n 0, 1) := by decide +kernel
theorem dX2_put_39 : decode cX2_put 39 = .ok (.getfield 11, 3) := by decide +kernel
theorem dX2_put_42 : decode cX2_put 42 = .ok (.iload_n 3, 1) := by decide +kernel
theorem dX2_put_43 : decode cX2_put 43 = .ok (.aaload, 1) := by decide +kernel
theorem dX2_put_44 : decode cX2_put 44 = .ok (.iload_n 3, 1) := by decide +kernel
theorem dX2_put_45 : decode cX2_put 45 = .ok (.iconst 1, 1) := by decide +kernel
theorem dX2_put_46 : decode cX2_put 46 = .ok (.iadd, 1) := by decide +kernel
theorem dX2_put_47 : decode cX2_put 47 = .ok (.iload_n 2, 1) := by decide +kernel
theorem dX2_put_48 : decode cX2_put 48 = .ok (.invokevirtual 66, 3) := by decide +kernel
theorem dX2_put_51 : decode cX2_put 51 = .ok (.aload_n 0, 1) := by decide +kernel
theorem dX2_put_52 : decode cX2_put 52 = .ok (.aload_n 0, 1) := by decide +kernel
theorem dX2_put_53 : decode cX2_put 53 = .ok (.getfield 26, 3) := by decide +kernel
theorem dX2_put_56 : decode cX2_put 56 = .ok (.iload_n 3, 1) := by decide +kernel
theorem dX2_put_57 : decode cX2_put 57 = .ok (.iload_n 2, 1) := by decide +kernel
theorem dX2_put_58 : decode cX2_put 58 = .ok (.invokevirtual 66, 3) := by decide +kernel
theorem dX2_put_61 : decode cX2_put 61 = .ok (.goto 43, 3) := by decide +kernel
theorem dX2_put_64 : decode cX2_put 64 = .ok (.aload_n 0, 1) := by decide +kernel
theorem dX2_put_65 : decode cX2_put 65 = .ok (.getfield 19, 3) := by decide +kernel
theorem dX2_put_68 : decode cX2_put 68 = .ok (.iload_n 3, 1) := by decide +kernel
theorem dX2_put_69 : decode cX2_put 69 = .ok (.laload, 1) := by decide +kernel
theorem dX2_put_70 : decode cX2_put 70 = .ok (.lconst 0, 1) := by decide +kernel
theorem dX2_put_71 : decode cX2_put 71 = .ok (.lcmp, 1) := by decide +kernel
theorem dX2_put_72 : decode cX2_put 72 = .ok (.ifCond .eq 32, 3) := by decide +kernel
theorem dX2_put_75 : decode cX2_put 75 = .ok (.iload_n 3, 1) := by decide +kernel
theorem dX2_put_76 : decode cX2_put 76 = .ok (.istore_n 2, 1) := by decide +kernel
theorem dX2_put_77 : decode cX2_put 77 = .ok (.aload_n 0, 1) := by decide +kernel
theorem dX2_put_78 : decode cX2_put 78 = .ok (.getfield 11, 3) := by decide +kernel
theorem dX2_put_81 : decode cX2_put 81 = .ok (.iload_n 3, 1) := by decide +kernel
theorem dX2_put_82 : decode cX2_put 82 = .ok (.aaload, 1) := by decide +kernel
theorem dX2_put_83 : decode cX2_put 83 = .ok (.iconst 0, 1) := by decide +kernel
theorem dX2_put_84 : decode cX2_put 84 = .ok (.aload_n 0, 1) := by decide +kernel
theorem dX2_put_85 : decode cX2_put 85 = .ok (.getfield 26, 3) := by decide +kernel
theorem dX2_put_88 : decode cX2_put 88 = .ok (.iconst 0, 1) := by decide +kernel
theorem dX2_put_89 : decode cX2_put 89 = .ok (.bipush 6, 2) := by decide +kernel
theorem dX2_put_91 : decode cX2_put 91 = .ok (.invokestatic 70, 3) := by decide +kernel
theorem dX2_put_94 : decode cX2_put 94 = .ok (.aload_n 0, 1) := by decide +kernel
theorem dX2_put_95 : decode cX2_put 95 = .ok (.aload_n 0, 1) := by decide +kernel
theorem dX2_put_96 : decode cX2_put 96 = .ok (.getfield 19, 3) := by decide +kernel
theorem dX2_put_99 : decode cX2_put 99 = .ok (.iload_n 3, 1) := by decide +kernel
theorem dX2_put_100 : decode cX2_put 100 = .ok (.laload, 1) := by decide +kernel
theorem dX2_put_101 : decode cX2_put 101 = .ok (.putfield 76, 3) := by decide +kernel
theorem dX2_put_104 : decode cX2_put 104 = .ok (.iinc 3 (-1), 3) := by decide +kernel
theorem dX2_put_107 : decode cX2_put 107 = .ok (.goto (-93), 3) := by decide +kernel
theorem dX2_put_110 : decode cX2_put 110 = .ok (.iload_n 2, 1) := by decide +kernel
theorem dX2_put_111 : decode cX2_put 111 = .ok (.iconst (-1), 1) := by decide +kernel
theorem dX2_put_112 : decode cX2_put 112 = .ok (.if_icmp .eq 13, 3) := by decide +kernel
theorem dX2_put_115 : decode cX2_put 115 = .ok (.aload_n 0, 1) := by decide +kernel
theorem dX2_put_116 : decode cX2_put 116 = .ok (.iload_n 2, 1) := by decide +kernel
theorem dX2_put_117 : decode cX2_put 117 = .ok (.invokevirtual 80, 3) := by decide +kernel
theorem dX2_put_120 : decode cX2_put 120 = .ok (.aload_n 0, 1) := by decide +kernel
theorem dX2_put_121 : decode cX2_put 121 = .ok (.iload_n 2, 1) := by decide +kernel
theorem dX2_put_122 : decode cX2_put 122 = .ok (.invokevirtual 83, 3) := by decide +kernel
theorem dX2_put_125 : decode cX2_put 125 = .ok (.return_, 1) := by decide +kernel
set_option maxRecDepth 20000 in
theorem ggX2_weigh_X2_product : GoodIn wsX2_weigh wsX2_product := goodIn_r _ [8] (by decide +kernel) (by decide +kernel)
set_option maxRecDepth 20000 in
theorem gX2_weigh_X2_product : GoodIn wsX2_weigh (va_wsS RX2 42 yX2_product wsX2_product) := goodIn_app (goodIn_of _ (by decide +kernel)) ggX2_weigh_X2_product
set_option maxRecDepth 20000 in
theorem ggX2_weigh_X2_powerOf : GoodIn wsX2_weigh wsX2_powerOf := goodIn_r _ [12, 13, 5, 6, 7, 8, 14, 15, 16, 17, 18, 19, 20] (by decide +kernel) (by decide +kernel)
set_option maxRecDepth 20000 in
theorem gX2_weigh_X2_powerOf : GoodIn wsX2_weigh (wsV RX2 86 RX2 yX2_powerOf wsX2_powerOf) := goodIn_app (goodIn_of _ (by decide +kernel)) ggX2_weigh_X2_powerOf
theorem dX2_weigh_0 : decode cX2_weigh 0 = .ok (.iconst 0, 1) := by decide +kernel
theorem dX2_weigh_1 : decode cX2_weigh 1 = .ok (.istore_n 2, 1) := by decide +kernel
theorem dX2_weigh_2 : decode cX2_weigh 2 = .ok (.iload_n 2, 1) := by decide +kernel
theorem dX2_weigh_3 : decode cX2_weigh 3 = .ok (.aload_n 0, 1) := by decide +kernel
theorem dX2_weigh_4 : decode cX2_weigh 4 = .ok (.getfield 32, 3) := by decide +kernel
theorem dX2_weigh_7 : decode cX2_weigh 7 = .ok (.if_icmp .ge 25, 3) := by decide +kernel
theorem dX2_weigh_10 : decode cX2_weigh 10 = .ok (.aload_n 0, 1) := by decide +kernel
theorem dX2_weigh_11 : decode cX2_weigh 11 = .ok (.getfield 19, 3) := by decide +kernel
theorem dX2_weigh_14 : decode cX2_weigh 14 = .ok (.iload_n 2, 1) := by decide +kernel
theorem dX2_weigh_15 : decode cX2_weigh 15 = .ok (.aload_n 1, 1) := by decide +kernel
theorem dX2_weigh_16 : decode cX2_weigh 16 = .ok (.aload_n 0, 1) := by decide +kernel
theorem dX2_weigh_17 : decode cX2_weigh 17 = .ok (.getfield 11, 3) := by decide +kernel
theorem dX2_weigh_20 : decode cX2_weigh 20 = .ok (.iload_n 2, 1) := by decide +kernel
theorem dX2_weigh_21 : decode cX2_weigh 21 = .ok (.aaload, 1) := by decide +kernel
theorem dX2_weigh_22 : decode cX2_weigh 22 = .ok (.invokestatic 42, 3) := by decide +kernel
theorem dX2_weigh_25 : decode cX2_weigh 25 = .ok (.lastore, 1) := by decide +kernel
theorem dX2_weigh_26 : decode cX2_weigh 26 = .ok (.iinc 2 1, 3) := by decide +kernel
theorem dX2_weigh_29 : decode cX2_weigh 29 = .ok (.goto (-27), 3) := by decide +kernel
theorem dX2_weigh_32 : decode cX2_weigh 32 = .ok (.iconst 0, 1) := by decide +kernel
theorem dX2_weigh_33 : decode cX2_weigh 33 = .ok (.istore_n 2, 1) := by decide +kernel
theorem dX2_weigh_34 : decode cX2_weigh 34 = .ok (.iload_n 2, 1) := by decide +kernel
theorem dX2_weigh_35 : decode cX2_weigh 35 = .ok (.iconst 4, 1) := by decide +kernel
theorem dX2_weigh_36 : decode cX2_weigh 36 = .ok (.if_icmp .ge 22, 3) := by decide +kernel
theorem dX2_weigh_39 : decode cX2_weigh 39 = .ok (.aload_n 0, 1) := by decide +kernel
theorem dX2_weigh_40 : decode cX2_weigh 40 = .ok (.getfield 23, 3) := by decide +kernel
theorem dX2_weigh_43 : decode cX2_weigh 43 = .ok (.iload_n 2, 1) := by decide +kernel
theorem dX2_weigh_44 : decode cX2_weigh 44 = .ok (.aload_n 0, 1) := by decide +kernel
theorem dX2_weigh_45 : decode cX2_weigh 45 = .ok (.aload_n 1, 1) := by decide +kernel
theorem dX2_weigh_46 : decode cX2_weigh 46 = .ok (.iload_n 2, 1) := by decide +kernel
theorem dX2_weigh_47 : decode cX2_weigh 47 = .ok (.invokevirtual 86, 3) := by decide +kernel
theorem dX2_weigh_50 : decode cX2_weigh 50 = .ok (.lneg, 1) := by decide +kernel
theorem dX2_weigh_51 : decode cX2_weigh 51 = .ok (.lastore, 1) := by decide +kernel
theorem dX2_weigh_52 : decode cX2_weigh 52 = .ok (.iinc 2 1, 3) := by decide +kernel
theorem dX2_weigh_55 : decode cX2_weigh 55 = .ok (.goto (-21), 3) := by decide +kernel
theorem dX2_weigh_58 : decode cX2_weigh 58 = .ok (.return_, 1) := by decide +kernel
set_option maxRecDepth 20000 in
theorem ggX2_commonGain_X2_commonDivisor : GoodIn wsX2_commonGain wsX2_commonDivisor := goodIn_r _ [6, 7, 8, 9, 10] (by decide +kernel) (by decide +kernel)
set_option maxRecDepth 20000 in
theorem gX2_commonGain_X2_commonDivisor : GoodIn wsX2_commonGain (va_wsS RX2 90 yX2_commonDivisor wsX2_commonDivisor) := goodIn_app (goodIn_of _ (by decide +kernel)) ggX2_commonGain_X2_commonDivisor
theorem dX2_commonGain_0 : decode cX2_commonGain 0 = .ok (.lconst 0, 1) := by decide +kernel
theorem dX2_commonGain_1 : decode cX2_commonGain 1 = .ok (.lstore_n 1, 1) := by decide +kernel
theorem dX2_commonGain_2 : decode cX2_commonGain 2 = .ok (.iconst 0, 1) := by decide +kernel
theorem dX2_commonGain_3 : decode cX2_commonGain 3 = .ok (.istore_n 3, 1) := by decide +kernel
theorem dX2_commonGain_4 : decode cX2_commonGain 4 = .ok (.iload_n 3, 1) := by decide +kernel
theorem dX2_commonGain_5 : decode cX2_commonGain 5 = .ok (.aload_n 0, 1) := by decide +kernel
theorem dX2_commonGain_6 : decode cX2_commonGain 6 = .ok (.getfield 32, 3) := by decide +kernel
theorem dX2_commonGain_9 : decode cX2_commonGain 9 = .ok (.if_icmp .ge 20, 3) := by decide +kernel
theorem dX2_commonGain_12 : decode cX2_commonGain 12 = .ok (.lload_n 1, 1) := by decide +kernel
theorem dX2_commonGain_13 : decode cX2_commonGain 13 = .ok (.aload_n 0, 1) := by decide +kernel
theorem dX2_commonGain_14 : decode cX2_commonGain 14 = .ok (.getfield 19, 3) := by decide +kernel
theorem dX2_commonGain_17 : decode cX2_commonGain 17 = .ok (.iload_n 3, 1) := by decide +kernel
theorem dX2_commonGain_18 : decode cX2_commonGain 18 = .ok (.laload, 1) := by decide +kernel
theorem dX2_commonGain_19 : decode cX2_commonGain 19 = .ok (.invokestatic 90, 3) := by decide +kernel
theorem dX2_commonGain_22 : decode cX2_commonGain 22 = .ok (.lstore_n 1, 1) := by decide +kernel
theorem dX2_commonGain_23 : decode cX2_commonGain 23 = .ok (.iinc 3 1, 3) := by decide +kernel
theorem dX2_commonGain_26 : decode cX2_commonGain 26 = .ok (.goto (-22), 3) := by decide +kernel
theorem dX2_commonGain_29 : decode cX2_commonGain 29 = .ok (.lload_n 1, 1) := by decide +kernel
theorem dX2_commonGain_30 : decode cX2_commonGain 30 = .ok (.lreturn, 1) := by decide +kernel
theorem dX2_lacksAreTimes_0 : decode cX2_lacksAreTimes 0 = .ok (.iconst 0, 1) := by decide +kernel
theorem dX2_lacksAreTimes_1 : decode cX2_lacksAreTimes 1 = .ok (.istore_n 3, 1) := by decide +kernel
theorem dX2_lacksAreTimes_2 : decode cX2_lacksAreTimes 2 = .ok (.iload_n 3, 1) := by decide +kernel
theorem dX2_lacksAreTimes_3 : decode cX2_lacksAreTimes 3 = .ok (.iconst 4, 1) := by decide +kernel
theorem dX2_lacksAreTimes_4 : decode cX2_lacksAreTimes 4 = .ok (.if_icmp .ge 43, 3) := by decide +kernel
theorem dX2_lacksAreTimes_7 : decode cX2_lacksAreTimes 7 = .ok (.lload_n 1, 1) := by decide +kernel
theorem dX2_lacksAreTimes_8 : decode cX2_lacksAreTimes 8 = .ok (.lconst 0, 1) := by decide +kernel
theorem dX2_lacksAreTimes_9 : decode cX2_lacksAreTimes 9 = .ok (.lcmp, 1) := by decide +kernel
theorem dX2_lacksAreTimes_10 : decode cX2_lacksAreTimes 10 = .ok (.ifCond .ne 12, 3) := by decide +kernel
theorem dX2_lacksAreTimes_13 : decode cX2_lacksAreTimes 13 = .ok (.aload_n 0, 1) := by decide +kernel
theorem dX2_lacksAreTimes_14 : decode cX2_lacksAreTimes 14 = .ok (.getfield 23, 3) := by decide +kernel
theorem dX2_lacksAreTimes_17 : decode cX2_lacksAreTimes 17 = .ok (.iload_n 3, 1) := by decide +kernel
theorem dX2_lacksAreTimes_18 : decode cX2_lacksAreTimes 18 = .ok (.laload, 1) := by decide +kernel
theorem dX2_lacksAreTimes_19 : decode cX2_lacksAreTimes 19 = .ok (.goto 11, 3) := by decide +kernel
theorem dX2_lacksAreTimes_22 : decode cX2_lacksAreTimes 22 = .ok (.aload_n 0, 1) := by decide +kernel
theorem dX2_lacksAreTimes_23 : decode cX2_lacksAreTimes 23 = .ok (.getfield 23, 3) := by decide +kernel
theorem dX2_lacksAreTimes_26 : decode cX2_lacksAreTimes 26 = .ok (.iload_n 3, 1) := by decide +kernel
theorem dX2_lacksAreTimes_27 : decode cX2_lacksAreTimes 27 = .ok (.laload, 1) := by decide +kernel
theorem dX2_lacksAreTimes_28 : decode cX2_lacksAreTimes 28 = .ok (.lload_n 1, 1) := by decide +kernel
theorem dX2_lacksAreTimes_29 : decode cX2_lacksAreTimes 29 = .ok (.lrem, 1) := by decide +kernel
theorem dX2_lacksAreTimes_30 : decode cX2_lacksAreTimes 30 = .ok (.lstore 4, 2) := by decide +kernel
theorem dX2_lacksAreTimes_32 : decode cX2_lacksAreTimes 32 = .ok (.lload 4, 2) := by decide +kernel
theorem dX2_lacksAreTimes_34 : decode cX2_lacksAreTimes 34 = .ok (.lconst 0, 1) := by decide +kernel
theorem dX2_lacksAreTimes_35 : decode cX2_lacksAreTimes 35 = .ok (.lcmp, 1) := by decide +kernel
theorem dX2_lacksAreTimes_36 : decode cX2_lacksAreTimes 36 = .ok (.ifCond .eq 5, 3) := by decide +kernel
theorem dX2_lacksAreTimes_39 : decode cX2_lacksAreTimes 39 = .ok (.iconst 0, 1) := by decide +kernel
theorem dX2_lacksAreTimes_40 : decode cX2_lacksAreTimes 40 = .ok (.ireturn, 1) := by decide +kernel
theorem dX2_lacksAreTimes_41 : decode cX2_lacksAreTimes 41 = .ok (.iinc 3 1, 3) := by decide +kernel
theorem dX2_lacksAreTimes_44 : decode cX2_lacksAreTimes 44 = .ok (.goto (-42), 3) := by decide +kernel
theorem dX2_lacksAreTimes_47 : decode cX2_lacksAreTimes 47 = .ok (.iconst 1, 1) := by decide +kernel
theorem dX2_lacksAreTimes_48 : decode cX2_lacksAreTimes 48 = .ok (.ireturn, 1) := by decide +kernel
set_option maxRecDepth 20000 in
theorem ggX2_divideToAndFro_X2_addTimes : GoodIn wsX2_divideToAndFro wsX2_addTimes := goodIn_r _ [8] (by decide +kernel) (by decide +kernel)
set_option maxRecDepth 20000 in
theorem gX2_divideToAndFro_X2_addTimes : GoodIn wsX2_divideToAndFro (va_wsS RX2 94 yX2_addTimes wsX2_addTimes) := goodIn_app (goodIn_of _ (by decide +kernel)) ggX2_divideToAndFro_X2_addTimes
theorem dX2_divideToAndFro_0 : decode cX2_divideToAndFro 0 = .ok (.aload_n 0, 1) := by decide +kernel
theorem dX2_divideToAndFro_1 : decode cX2_divideToAndFro 1 = .ok (.getfield 19, 3) := by decide +kernel
theorem dX2_divideToAndFro_4 : decode cX2_divideToAndFro 4 = .ok (.iload_n 1, 1) := by decide +kernel
theorem dX2_divideToAndFro_5 : decode cX2_divideToAndFro 5 = .ok (.laload, 1) := by decide +kernel
theorem dX2_divideToAndFro_6 : decode cX2_divideToAndFro 6 = .ok (.lstore_n 2, 1) := by decide +kernel
theorem dX2_divideToAndFro_7 : decode cX2_divideToAndFro 7 = .ok (.iconst 0, 1) := by decide +kernel
theorem dX2_divideToAndFro_8 : decode cX2_divideToAndFro 8 = .ok (.istore 4, 2) := by decide +kernel
theorem dX2_divideToAndFro_10 : decode cX2_divideToAndFro 10 = .ok (.iload 4, 2) := by decide +kernel
theorem dX2_divideToAndFro_12 : decode cX2_divideToAndFro 12 = .ok (.sipush 200, 3) := by decide +kernel
theorem dX2_divideToAndFro_15 : decode cX2_divideToAndFro 15 = .ok (.if_icmp .ge 82, 3) := by decide +kernel
theorem dX2_divideToAndFro_18 : decode cX2_divideToAndFro 18 = .ok (.lload_n 2, 1) := by decide +kernel
theorem dX2_divideToAndFro_19 : decode cX2_divideToAndFro 19 = .ok (.lconst 0, 1) := by decide +kernel
theorem dX2_divideToAndFro_20 : decode cX2_divideToAndFro 20 = .ok (.lcmp, 1) := by decide +kernel
theorem dX2_divideToAndFro_21 : decode cX2_divideToAndFro 21 = .ok (.ifCond .eq 76, 3) := by decide +kernel
theorem dX2_divideToAndFro_24 : decode cX2_divideToAndFro 24 = .ok (.aload_n 0, 1) := by decide +kernel
theorem dX2_divideToAndFro_25 : decode cX2_divideToAndFro 25 = .ok (.getfield 76, 3) := by decide +kernel
theorem dX2_divideToAndFro_28 : decode cX2_divideToAndFro 28 = .ok (.lload_n 2, 1) := by decide +kernel
theorem dX2_divideToAndFro_29 : decode cX2_divideToAndFro 29 = .ok (.ldiv, 1) := by decide +kernel
theorem dX2_divideToAndFro_30 : decode cX2_divideToAndFro 30 = .ok (.lstore 5, 2) := by decide +kernel
theorem dX2_divideToAndFro_32 : decode cX2_divideToAndFro 32 = .ok (.aload_n 0, 1) := by decide +kernel
theorem dX2_divideToAndFro_33 : decode cX2_divideToAndFro 33 = .ok (.getfield 26, 3) := by decide +kernel
theorem dX2_divideToAndFro_36 : decode cX2_divideToAndFro 36 = .ok (.aload_n 0, 1) := by decide +kernel
theorem dX2_divideToAndFro_37 : decode cX2_divideToAndFro 37 = .ok (.getfield 11, 3) := by decide +kernel
theorem dX2_divideToAndFro_40 : decode cX2_divideToAndFro 40 = .ok (.iload_n 1, 1) := by decide +kernel
theorem dX2_divideToAndFro_41 : decode cX2_divideToAndFro 41 = .ok (.aaload, 1) := by decide +kernel
theorem dX2_divideToAndFro_42 : decode cX2_divideToAndFro 42 = .ok (.lload 5, 2) := by decide +kernel
theorem dX2_divideToAndFro_44 : decode cX2_divideToAndFro 44 = .ok (.lneg, 1) := by decide +kernel
theorem dX2_divideToAndFro_45 : decode cX2_divideToAndFro 45 = .ok (.invokestatic 94, 3) := by decide +kernel
theorem dX2_divideToAndFro_48 : decode cX2_divideToAndFro 48 = .ok (.aload_n 0, 1) := by decide +kernel
theorem dX2_divideToAndFro_49 : decode cX2_divideToAndFro 49 = .ok (.getfield 76, 3) := by decide +kernel
theorem dX2_divideToAndFro_52 : decode cX2_divideToAndFro 52 = .ok (.lload 5, 2) := by decide +kernel
theorem dX2_divideToAndFro_54 : decode cX2_divideToAndFro 54 = .ok (.lload_n 2, 1) := by decide +kernel
theorem dX2_divideToAndFro_55 : decode cX2_divideToAndFro 55 = .ok (.lmul, 1) := by decide +kernel
theorem dX2_divideToAndFro_56 : decode cX2_divideToAndFro 56 = .ok (.lsub, 1) := by decide +kernel
theorem dX2_divideToAndFro_57 : decode cX2_divideToAndFro 57 = .ok (.lstore 7, 2) := by decide +kernel
theorem dX2_divideToAndFro_59 : decode cX2_divideToAndFro 59 = .ok (.aload_n 0, 1) := by decide +kernel
theorem dX2_divideToAndFro_60 : decode cX2_divideToAndFro 60 = .ok (.getfield 26, 3) := by decide +kernel
theorem dX2_divideToAndFro_63 : decode cX2_divideToAndFro 63 = .ok (.astore 9, 2) := by decide +kernel
theorem dX2_divideToAndFro_65 : decode cX2_divideToAndFro 65 = .ok (.aload_n 0, 1) := by decide +kernel
theorem dX2_divideToAndFro_66 : decode cX2_divideToAndFro 66 = .ok (.aload_n 0, 1) := by decide +kernel
theorem dX2_divideToAndFro_67 : decode cX2_divideToAndFro 67 = .ok (.getfield 11, 3) := by decide +kernel
theorem dX2_divideToAndFro_70 : decode cX2_divideToAndFro 70 = .ok (.iload_n 1, 1) := by decide +kernel
theorem dX2_divideToAndFro_71 : decode cX2_divideToAndFro 71 = .ok (.aaload, 1) := by decide +kernel
theorem dX2_divideToAndFro_72 : decode cX2_divideToAndFro 72 = .ok (.putfield 26, 3) := by decide +kernel
theorem dX2_divideToAndFro_75 : decode cX2_divideToAndFro 75 = .ok (.aload_n 0, 1) := by decide +kernel
theorem dX2_divideToAndFro_76 : decode cX2_divideToAndFro 76 = .ok (.getfield 11, 3) := by decide +kernel
theorem dX2_divideToAndFro_79 : decode cX2_divideToAndFro 79 = .ok (.iload_n 1, 1) := by decide +kernel
theorem dX2_divideToAndFro_80 : decode cX2_divideToAndFro 80 = .ok (.aload 9, 2) := by decide +kernel
theorem dX2_divideToAndFro_82 : decode cX2_divideToAndFro 82 = .ok (.aastore, 1) := by decide +kernel
theorem dX2_divideToAndFro_83 : decode cX2_divideToAndFro 83 = .ok (.aload_n 0, 1) := by decide +kernel
theorem dX2_divideToAndFro_84 : decode cX2_divideToAndFro 84 = .ok (.lload_n 2, 1) := by decide +kernel
theorem dX2_divideToAndFro_85 : decode cX2_divideToAndFro 85 = .ok (.putfield 76, 3) := by decide +kernel
theorem dX2_divideToAndFro_88 : decode cX2_divideToAndFro 88 = .ok (.lload 7, 2) := by decide +kernel
theorem dX2_divideToAndFro_90 : decode cX2_divideToAndFro 90 = .ok (.lstore_n 2, 1) := by decide +kernel
theorem dX2_divideToAndFro_91 : decode cX2_divideToAndFro 91 = .ok (.iinc 4 1, 3) := by decide +kernel
theorem dX2_divideToAndFro_94 : decode cX2_divideToAndFro 94 = .ok (.goto (-84), 3) := by decide +kernel
theorem dX2_divideToAndFro_97 : decode cX2_divideToAndFro 97 = .ok (.return_, 1) := by decide +kernel
set_option maxRecDepth 20000 in
theorem ggX2_reduce_X2_headOf : GoodIn wsX2_reduce wsX2_headOf := goodIn_r _ [6] (by decide +kernel) (by decide +kernel)
set_option maxRecDepth 20000 in
theorem gX2_reduce_X2_headOf : GoodIn wsX2_reduce (va_wsS RX2 98 yX2_headOf wsX2_headOf) := goodIn_app (goodIn_of _ (by decide +kernel)) ggX2_reduce_X2_headOf
set_option maxRecDepth 20000 in
theorem ggX2_reduce_J9_floorDiv_f86c9 : GoodIn wsX2_reduce wsJ9_floorDiv_f86c9 := goodIn_r _ [10] (by decide +kernel) (by decide +kernel)
set_option maxRecDepth 20000 in
theorem gX2_reduce_J9_floorDiv_f86c9 : GoodIn wsX2_reduce (va_wsS RX2 102 yJ9_floorDiv_f86c9 wsJ9_floorDiv_f86c9) := goodIn_app (goodIn_of _ (by decide +kernel)) ggX2_reduce_J9_floorDiv_f86c9
set_option maxRecDepth 20000 in
theorem ggX2_reduce_X2_addTimes : GoodIn wsX2_reduce wsX2_addTimes := goodIn_r _ [13] (by decide +kernel) (by decide +kernel)
set_option maxRecDepth 20000 in
theorem gX2_reduce_X2_addTimes : GoodIn wsX2_reduce (va_wsS RX2 94 yX2_addTimes wsX2_addTimes) := goodIn_app (goodIn_of _ (by decide +kernel)) ggX2_reduce_X2_addTimes
theorem dX2_reduce_0 : decode cX2_reduce 0 = .ok (.iload_n 2, 1) := by decide +kernel
theorem dX2_reduce_1 : decode cX2_reduce 1 = .ok (.istore 4, 2) := by decide +kernel
theorem dX2_reduce_3 : decode cX2_reduce 3 = .ok (.iload 4, 2) := by decide +kernel
theorem dX2_reduce_5 : decode cX2_reduce 5 = .ok (.aload_n 0, 1) := by decide +kernel
theorem dX2_reduce_6 : decode cX2_reduce 6 = .ok (.getfield 32, 3) := by decide +kernel
theorem dX2_reduce_9 : decode cX2_reduce 9 = .ok (.if_icmp .ge 77, 3) := by decide +kernel
theorem dX2_reduce_12 : decode cX2_reduce 12 = .ok (.aload_n 0, 1) := by decide +kernel
theorem dX2_reduce_13 : decode cX2_reduce 13 = .ok (.getfield 11, 3) := by decide +kernel
theorem dX2_reduce_16 : decode cX2_reduce 16 = .ok (.iload 4, 2) := by decide +kernel
theorem dX2_reduce_18 : decode cX2_reduce 18 = .ok (.aaload, 1) := by decide +kernel
theorem dX2_reduce_19 : decode cX2_reduce 19 = .ok (.invokestatic 98, 3) := by decide +kernel
theorem dX2_reduce_22 : decode cX2_reduce 22 = .ok (.istore 5, 2) := by decide +kernel
theorem dX2_reduce_24 : decode cX2_reduce 24 = .ok (.iload 4, 2) := by decide +kernel
theorem dX2_reduce_26 : decode cX2_reduce 26 = .ok (.iload_n 3, 1) := by decide +kernel
theorem dX2_reduce_27 : decode cX2_reduce 27 = .ok (.if_icmp .eq 53, 3) := by decide +kernel
theorem dX2_reduce_30 : decode cX2_reduce 30 = .ok (.iload 5, 2) := by decide +kernel
theorem dX2_reduce_32 : decode cX2_reduce 32 = .ok (.iconst (-1), 1) := by decide +kernel
theorem dX2_reduce_33 : decode cX2_reduce 33 = .ok (.if_icmp .eq 47, 3) := by decide +kernel
theorem dX2_reduce_36 : decode cX2_reduce 36 = .ok (.aload_n 0, 1) := by decide +kernel
theorem dX2_reduce_37 : decode cX2_reduce 37 = .ok (.getfield 11, 3) := by decide +kernel
theorem dX2_reduce_40 : decode cX2_reduce 40 = .ok (.iload 4, 2) := by decide +kernel
theorem dX2_reduce_42 : decode cX2_reduce 42 = .ok (.aaload, 1) := by decide +kernel
theorem dX2_reduce_43 : decode cX2_reduce 43 = .ok (.iload 5, 2) := by decide +kernel
theorem dX2_reduce_45 : decode cX2_reduce 45 = .ok (.laload, 1) := by decide +kernel
theorem dX2_reduce_46 : decode cX2_reduce 46 = .ok (.lconst 0, 1) := by decide +kernel
theorem dX2_reduce_47 : decode cX2_reduce 47 = .ok (.lcmp, 1) := by decide +kernel
theorem dX2_reduce_48 : decode cX2_reduce 48 = .ok (.ifCond .eq 32, 3) := by decide +kernel
theorem dX2_reduce_51 : decode cX2_reduce 51 = .ok (.aload_n 1, 1) := by decide +kernel
theorem dX2_reduce_52 : decode cX2_reduce 52 = .ok (.aload_n 0, 1) := by decide +kernel
theorem dX2_reduce_53 : decode cX2_reduce 53 = .ok (.getfield 11, 3) := by decide +kernel
theorem dX2_reduce_56 : decode cX2_reduce 56 = .ok (.iload 4, 2) := by decide +kernel
theorem dX2_reduce_58 : decode cX2_reduce 58 = .ok (.aaload, 1) := by decide +kernel
theorem dX2_reduce_59 : decode cX2_reduce 59 = .ok (.aload_n 1, 1) := by decide +kernel
theorem dX2_reduce_60 : decode cX2_reduce 60 = .ok (.iload 5, 2) := by decide +kernel
theorem dX2_reduce_62 : decode cX2_reduce 62 = .ok (.laload, 1) := by decide +kernel
theorem dX2_reduce_63 : decode cX2_reduce 63 = .ok (.aload_n 0, 1) := by decide +kernel
theorem dX2_reduce_64 : decode cX2_reduce 64 = .ok (.getfield 11, 3) := by decide +kernel
theorem dX2_reduce_67 : decode cX2_reduce 67 = .ok (.iload 4, 2) := by decide +kernel
theorem dX2_reduce_69 : decode cX2_reduce 69 = .ok (.aaload, 1) := by decide +kernel
theorem dX2_reduce_70 : decode cX2_reduce 70 = .ok (.iload 5, 2) := by decide +kernel
theorem dX2_reduce_72 : decode cX2_reduce 72 = .ok (.laload, 1) := by decide +kernel
theorem dX2_reduce_73 : decode cX2_reduce 73 = .ok (.invokestatic 102, 3) := by decide +kernel
theorem dX2_reduce_76 : decode cX2_reduce 76 = .ok (.lneg, 1) := by decide +kernel
theorem dX2_reduce_77 : decode cX2_reduce 77 = .ok (.invokestatic 94, 3) := by decide +kernel
theorem dX2_reduce_80 : decode cX2_reduce 80 = .ok (.iinc 4 1, 3) := by decide +kernel
theorem dX2_reduce_83 : decode cX2_reduce 83 = .ok (.goto (-80), 3) := by decide +kernel
theorem dX2_reduce_86 : decode cX2_reduce 86 = .ok (.return_, 1) := by decide +kernel
set_option maxRecDepth 20000 in
theorem ggX2_moveLowest_X2_addTimes : GoodIn wsX2_moveLowest wsX2_addTimes := goodIn_r _ [8] (by decide +kernel) (by decide +kernel)
set_option maxRecDepth 20000 in
theorem gX2_moveLowest_X2_addTimes : GoodIn wsX2_moveLowest (va_wsS RX2 94 yX2_addTimes wsX2_addTimes) := goodIn_app (goodIn_of _ (by decide +kernel)) ggX2_moveLowest_X2_addTimes
set_option maxRecDepth 20000 in
theorem ggX2_moveLowest_X2_reduce : GoodIn wsX2_moveLowest wsX2_reduce := goodIn_r _ [12, 13, 14, 15, 16, 7, 17, 18, 19, 20, 21, 5, 6, 8, 22, 23, 24, 25, 26, 27, 28] (by decide +kernel) (by decide +kernel)
set_option maxRecDepth 20000 in
theorem gX2_moveLowest_X2_reduce : GoodIn wsX2_moveLowest (wsV RX2 66 RX2 yX2_reduce wsX2_reduce) := goodIn_app (goodIn_of _ (by decide +kernel)) ggX2_moveLowest_X2_reduce
theorem dX2_moveLowest_0 : decode cX2_moveLowest 0 = .ok (.iconst 0, 1) := by decide +kernel
theorem dX2_moveLowest_1 : decode cX2_moveLowest 1 = .ok (.istore_n 2, 1) := by decide +kernel
theorem dX2_moveLowest_2 : decode cX2_moveLowest 2 = .ok (.iload_n 2, 1) := by decide +kernel
theorem dX2_moveLowest_3 : decode cX2_moveLowest 3 = .ok (.iconst 4, 1) := by decide +kernel
theorem dX2_moveLowest_4 : decode cX2_moveLowest 4 = .ok (.if_icmp .ge 54, 3) := by decide +kernel
theorem dX2_moveLowest_7 : decode cX2_moveLowest 7 = .ok (.aload_n 0, 1) := by decide +kernel
theorem dX2_moveLowest_8 : decode cX2_moveLowest 8 = .ok (.getfield 76, 3) := by decide +kernel
theorem dX2_moveLowest_11 : decode cX2_moveLowest 11 = .ok (.lconst 0, 1) := by decide +kernel
theorem dX2_moveLowest_12 : decode cX2_moveLowest 12 = .ok (.lcmp, 1) := by decide +kernel
theorem dX2_moveLowest_13 : decode cX2_moveLowest 13 = .ok (.ifCond .eq 27, 3) := by decide +kernel
theorem dX2_moveLowest_16 : decode cX2_moveLowest 16 = .ok (.aload_n 0, 1) := by decide +kernel
theorem dX2_moveLowest_17 : decode cX2_moveLowest 17 = .ok (.getfield 16, 3) := by decide +kernel
theorem dX2_moveLowest_20 : decode cX2_moveLowest 20 = .ok (.iload_n 2, 1) := by decide +kernel
theorem dX2_moveLowest_21 : decode cX2_moveLowest 21 = .ok (.aaload, 1) := by decide +kernel
theorem dX2_moveLowest_22 : decode cX2_moveLowest 22 = .ok (.aload_n 0, 1) := by decide +kernel
theorem dX2_moveLowest_23 : decode cX2_moveLowest 23 = .ok (.getfield 26, 3) := by decide +kernel
theorem dX2_moveLowest_26 : decode cX2_moveLowest 26 = .ok (.aload_n 0, 1) := by decide +kernel
theorem dX2_moveLowest_27 : decode cX2_moveLowest 27 = .ok (.getfield 23, 3) := by decide +kernel
theorem dX2_moveLowest_30 : decode cX2_moveLowest 30 = .ok (.iload_n 2, 1) := by decide +kernel
theorem dX2_moveLowest_31 : decode cX2_moveLowest 31 = .ok (.laload, 1) := by decide +kernel
theorem dX2_moveLowest_32 : decode cX2_moveLowest 32 = .ok (.aload_n 0, 1) := by decide +kernel
theorem dX2_moveLowest_33 : decode cX2_moveLowest 33 = .ok (.getfield 76, 3) := by decide +kernel
theorem dX2_moveLowest_36 : decode cX2_moveLowest 36 = .ok (.ldiv, 1) := by decide +kernel
theorem dX2_moveLowest_37 : decode cX2_moveLowest 37 = .ok (.invokestatic 94, 3) := by decide +kernel
theorem dX2_moveLowest_40 : decode cX2_moveLowest 40 = .ok (.aload_n 0, 1) := by decide +kernel
theorem dX2_moveLowest_41 : decode cX2_moveLowest 41 = .ok (.aload_n 0, 1) := by decide +kernel
theorem dX2_moveLowest_42 : decode cX2_moveLowest 42 = .ok (.getfield 16, 3) := by decide +kernel
theorem dX2_moveLowest_45 : decode cX2_moveLowest 45 = .ok (.iload_n 2, 1) := by decide +kernel
theorem dX2_moveLowest_46 : decode cX2_moveLowest 46 = .ok (.aaload, 1) := by decide +kernel
theorem dX2_moveLowest_47 : decode cX2_moveLowest 47 = .ok (.iconst 0, 1) := by decide +kernel
theorem dX2_moveLowest_48 : decode cX2_moveLowest 48 = .ok (.iload_n 1, 1) := by decide +kernel
theorem dX2_moveLowest_49 : decode cX2_moveLowest 49 = .ok (.invokevirtual 66, 3) := by decide +kernel
theorem dX2_moveLowest_52 : decode cX2_moveLowest 52 = .ok (.iinc 2 1, 3) := by decide +kernel
theorem dX2_moveLowest_55 : decode cX2_moveLowest 55 = .ok (.goto (-53), 3) := by decide +kernel
theorem dX2_moveLowest_58 : decode cX2_moveLowest 58 = .ok (.return_, 1) := by decide +kernel
theorem dX2_leaveOut_0 : decode cX2_leaveOut 0 = .ok (.aload_n 0, 1) := by decide +kernel
theorem dX2_leaveOut_1 : decode cX2_leaveOut 1 = .ok (.getfield 11, 3) := by decide +kernel
theorem dX2_leaveOut_4 : decode cX2_leaveOut 4 = .ok (.iload_n 1, 1) := by decide +kernel
theorem dX2_leaveOut_5 : decode cX2_leaveOut 5 = .ok (.aaload, 1) := by decide +kernel
theorem dX2_leaveOut_6 : decode cX2_leaveOut 6 = .ok (.astore_n 2, 1) := by decide +kernel
theorem dX2_leaveOut_7 : decode cX2_leaveOut 7 = .ok (.iload_n 1, 1) := by decide +kernel
theorem dX2_leaveOut_8 : decode cX2_leaveOut 8 = .ok (.istore_n 3, 1) := by decide +kernel
theorem dX2_leaveOut_9 : decode cX2_leaveOut 9 = .ok (.iload_n 3, 1) := by decide +kernel
theorem dX2_leaveOut_10 : decode cX2_leaveOut 10 = .ok (.aload_n 0, 1) := by decide +kernel
theorem dX2_leaveOut_11 : decode cX2_leaveOut 11 = .ok (.getfield 32, 3) := by decide +kernel
theorem dX2_leaveOut_14 : decode cX2_leaveOut 14 = .ok (.iconst 1, 1) := by decide +kernel
theorem dX2_leaveOut_15 : decode cX2_leaveOut 15 = .ok (.isub, 1) := by decide +kernel
theorem dX2_leaveOut_16 : decode cX2_leaveOut 16 = .ok (.if_icmp .ge 23, 3) := by decide +kernel
theorem dX2_leaveOut_19 : decode cX2_leaveOut 19 = .ok (.aload_n 0, 1) := by decide +kernel
theorem dX2_leaveOut_20 : decode cX2_leaveOut 20 = .ok (.getfield 11, 3) := by decide +kernel
theorem dX2_leaveOut_23 : decode cX2_leaveOut 23 = .ok (.iload_n 3, 1) := by decide +kernel
theorem dX2_leaveOut_24 : decode cX2_leaveOut 24 = .ok (.aload_n 0, 1) := by decide +kernel
theorem dX2_leaveOut_25 : decode cX2_leaveOut 25 = .ok (.getfield 11, 3) := by decide +kernel
theorem dX2_leaveOut_28 : decode cX2_leaveOut 28 = .ok (.iload_n 3, 1) := by decide +kernel
theorem dX2_leaveOut_29 : decode cX2_leaveOut 29 = .ok (.iconst 1, 1) := by decide +kernel
theorem dX2_leaveOut_30 : decode cX2_leaveOut 30 = .ok (.iadd, 1) := by decide +kernel
theorem dX2_leaveOut_31 : decode cX2_leaveOut 31 = .ok (.aaload, 1) := by decide +kernel
theorem dX2_leaveOut_32 : decode cX2_leaveOut 32 = .ok (.aastore, 1) := by decide +kernel
theorem dX2_leaveOut_33 : decode cX2_leaveOut 33 = .ok (.iinc 3 1, 3) := by decide +kernel
theorem dX2_leaveOut_36 : decode cX2_leaveOut 36 = .ok (.goto (-27), 3) := by decide +kernel
theorem dX2_leaveOut_39 : decode cX2_leaveOut 39 = .ok (.aload_n 0, 1) := by decide +kernel
theorem dX2_leaveOut_40 : decode cX2_leaveOut 40 = .ok (.getfield 11, 3) := by decide +kernel
theorem dX2_leaveOut_43 : decode cX2_leaveOut 43 = .ok (.aload_n 0, 1) := by decide +kernel
theorem dX2_leaveOut_44 : decode cX2_leaveOut 44 = .ok (.getfield 32, 3) := by decide +kernel
theorem dX2_leaveOut_47 : decode cX2_leaveOut 47 = .ok (.iconst 1, 1) := by decide +kernel
theorem dX2_leaveOut_48 : decode cX2_leaveOut 48 = .ok (.isub, 1) := by decide +kernel
theorem dX2_leaveOut_49 : decode cX2_leaveOut 49 = .ok (.aload_n 2, 1) := by decide +kernel
theorem dX2_leaveOut_50 : decode cX2_leaveOut 50 = .ok (.aastore, 1) := by decide +kernel
theorem dX2_leaveOut_51 : decode cX2_leaveOut 51 = .ok (.aload_n 0, 1) := by decide +kernel
theorem dX2_leaveOut_52 : decode cX2_leaveOut 52 = .ok (.dup, 1) := by decide +kernel
theorem dX2_leaveOut_53 : decode cX2_leaveOut 53 = .ok (.getfield 32, 3) := by decide +kernel
theorem dX2_leaveOut_56 : decode cX2_leaveOut 56 = .ok (.iconst 1, 1) := by decide +kernel
theorem dX2_leaveOut_57 : decode cX2_leaveOut 57 = .ok (.isub, 1) := by decide +kernel
theorem dX2_leaveOut_58 : decode cX2_leaveOut 58 = .ok (.putfield 32, 3) := by decide +kernel
theorem dX2_leaveOut_61 : decode cX2_leaveOut 61 = .ok (.return_, 1) := by decide +kernel
set_option maxRecDepth 20000 in
theorem ggX2_makeHeadPositive_X2_headOf : GoodIn wsX2_makeHeadPositive wsX2_headOf := goodIn_r _ [4] (by decide +kernel) (by decide +kernel)
set_option maxRecDepth 20000 in
theorem gX2_makeHeadPositive_X2_headOf : GoodIn wsX2_makeHeadPositive (va_wsS RX2 98 yX2_headOf wsX2_headOf) := goodIn_app (goodIn_of _ (by decide +kernel)) ggX2_makeHeadPositive_X2_headOf
theorem dX2_makeHeadPositive_0 : decode cX2_makeHeadPositive 0 = .ok (.aload_n 0, 1) := by decide +kernel
theorem dX2_makeHeadPositive_1 : decode cX2_makeHeadPositive 1 = .ok (.invokestatic 98, 3) := by decide +kernel
theorem dX2_makeHeadPositive_4 : decode cX2_makeHeadPositive 4 = .ok (.istore_n 1, 1) := by decide +kernel
theorem dX2_makeHeadPositive_5 : decode cX2_makeHeadPositive 5 = .ok (.iload_n 1, 1) := by decide +kernel
theorem dX2_makeHeadPositive_6 : decode cX2_makeHeadPositive 6 = .ok (.iconst (-1), 1) := by decide +kernel
theorem dX2_makeHeadPositive_7 : decode cX2_makeHeadPositive 7 = .ok (.if_icmp .eq 32, 3) := by decide +kernel
theorem dX2_makeHeadPositive_10 : decode cX2_makeHeadPositive 10 = .ok (.aload_n 0, 1) := by decide +kernel
theorem dX2_makeHeadPositive_11 : decode cX2_makeHeadPositive 11 = .ok (.iload_n 1, 1) := by decide +kernel
theorem dX2_makeHeadPositive_12 : decode cX2_makeHeadPositive 12 = .ok (.laload, 1) := by decide +kernel
theorem dX2_makeHeadPositive_13 : decode cX2_makeHeadPositive 13 = .ok (.lconst 0, 1) := by decide +kernel
theorem dX2_makeHeadPositive_14 : decode cX2_makeHeadPositive 14 = .ok (.lcmp, 1) := by decide +kernel
theorem dX2_makeHeadPositive_15 : decode cX2_makeHeadPositive 15 = .ok (.ifCond .ge 24, 3) := by decide +kernel
theorem dX2_makeHeadPositive_18 : decode cX2_makeHeadPositive 18 = .ok (.iload_n 1, 1) := by decide +kernel
theorem dX2_makeHeadPositive_19 : decode cX2_makeHeadPositive 19 = .ok (.istore_n 2, 1) := by decide +kernel
theorem dX2_makeHeadPositive_20 : decode cX2_makeHeadPositive 20 = .ok (.iload_n 2, 1) := by decide +kernel
theorem dX2_makeHeadPositive_21 : decode cX2_makeHeadPositive 21 = .ok (.bipush 6, 2) := by decide +kernel
theorem dX2_makeHeadPositive_23 : decode cX2_makeHeadPositive 23 = .ok (.if_icmp .ge 16, 3) := by decide +kernel
theorem dX2_makeHeadPositive_26 : decode cX2_makeHeadPositive 26 = .ok (.aload_n 0, 1) := by decide +kernel
theorem dX2_makeHeadPositive_27 : decode cX2_makeHeadPositive 27 = .ok (.iload_n 2, 1) := by decide +kernel
theorem dX2_makeHeadPositive_28 : decode cX2_makeHeadPositive 28 = .ok (.aload_n 0, 1) := by decide +kernel
theorem dX2_makeHeadPositive_29 : decode cX2_makeHeadPositive 29 = .ok (.iload_n 2, 1) := by decide +kernel
theorem dX2_makeHeadPositive_30 : decode cX2_makeHeadPositive 30 = .ok (.laload, 1) := by decide +kernel
theorem dX2_makeHeadPositive_31 : decode cX2_makeHeadPositive 31 = .ok (.lneg, 1) := by decide +kernel
theorem dX2_makeHeadPositive_32 : decode cX2_makeHeadPositive 32 = .ok (.lastore, 1) := by decide +kernel
theorem dX2_makeHeadPositive_33 : decode cX2_makeHeadPositive 33 = .ok (.iinc 2 1, 3) := by decide +kernel
theorem dX2_makeHeadPositive_36 : decode cX2_makeHeadPositive 36 = .ok (.goto (-16), 3) := by decide +kernel
theorem dX2_makeHeadPositive_39 : decode cX2_makeHeadPositive 39 = .ok (.return_, 1) := by decide +kernel
theorem dX2_headOf_0 : decode cX2_headOf 0 = .ok (.iconst 0, 1) := by decide +kernel
theorem dX2_headOf_1 : decode cX2_headOf 1 = .ok (.istore_n 1, 1) := by decide +kernel
theorem dX2_headOf_2 : decode cX2_headOf 2 = .ok (.iload_n 1, 1) := by decide +kernel
theorem dX2_headOf_3 : decode cX2_headOf 3 = .ok (.bipush 6, 2) := by decide +kernel
theorem dX2_headOf_5 : decode cX2_headOf 5 = .ok (.if_icmp .ge 19, 3) := by decide +kernel
theorem dX2_headOf_8 : decode cX2_headOf 8 = .ok (.aload_n 0, 1) := by decide +kernel
theorem dX2_headOf_9 : decode cX2_headOf 9 = .ok (.iload_n 1, 1) := by decide +kernel
theorem dX2_headOf_10 : decode cX2_headOf 10 = .ok (.laload, 1) := by decide +kernel
theorem dX2_headOf_11 : decode cX2_headOf 11 = .ok (.lconst 0, 1) := by decide +kernel
theorem dX2_headOf_12 : decode cX2_headOf 12 = .ok (.lcmp, 1) := by decide +kernel
theorem dX2_headOf_13 : decode cX2_headOf 13 = .ok (.ifCond .eq 5, 3) := by decide +kernel
theorem dX2_headOf_16 : decode cX2_headOf 16 = .ok (.iload_n 1, 1) := by decide +kernel
theorem dX2_headOf_17 : decode cX2_headOf 17 = .ok (.ireturn, 1) := by decide +kernel
theorem dX2_headOf_18 : decode cX2_headOf 18 = .ok (.iinc 1 1, 3) := by decide +kernel
theorem dX2_headOf_21 : decode cX2_headOf 21 = .ok (.goto (-19), 3) := by decide +kernel
theorem dX2_headOf_24 : decode cX2_headOf 24 = .ok (.iconst (-1), 1) := by decide +kernel
theorem dX2_headOf_25 : decode cX2_headOf 25 = .ok (.ireturn, 1) := by decide +kernel
theorem dX2_addTimes_0 : decode cX2_addTimes 0 = .ok (.iconst 0, 1) := by decide +kernel
theorem dX2_addTimes_1 : decode cX2_addTimes 1 = .ok (.istore 4, 2) := by decide +kernel
theorem dX2_addTimes_3 : decode cX2_addTimes 3 = .ok (.iload 4, 2) := by decide +kernel
theorem dX2_addTimes_5 : decode cX2_addTimes 5 = .ok (.bipush 6, 2) := by decide +kernel
theorem dX2_addTimes_7 : decode cX2_addTimes 7 = .ok (.if_icmp .ge 28, 3) := by decide +kernel
theorem dX2_addTimes_10 : decode cX2_addTimes 10 = .ok (.lload_n 2, 1) := by decide +kernel
theorem dX2_addTimes_11 : decode cX2_addTimes 11 = .ok (.lconst 0, 1) := by decide +kernel
theorem dX2_addTimes_12 : decode cX2_addTimes 12 = .ok (.lcmp, 1) := by decide +kernel
theorem dX2_addTimes_13 : decode cX2_addTimes 13 = .ok (.ifCond .eq 22, 3) := by decide +kernel
theorem dX2_addTimes_16 : decode cX2_addTimes 16 = .ok (.aload_n 0, 1) := by decide +kernel
theorem dX2_addTimes_17 : decode cX2_addTimes 17 = .ok (.iload 4, 2) := by decide +kernel
theorem dX2_addTimes_19 : decode cX2_addTimes 19 = .ok (.dup2, 1) := by decide +kernel
theorem dX2_addTimes_20 : decode cX2_addTimes 20 = .ok (.laload, 1) := by decide +kernel
theorem dX2_addTimes_21 : decode cX2_addTimes 21 = .ok (.lload_n 2, 1) := by decide +kernel
theorem dX2_addTimes_22 : decode cX2_addTimes 22 = .ok (.aload_n 1, 1) := by decide +kernel
theorem dX2_addTimes_23 : decode cX2_addTimes 23 = .ok (.iload 4, 2) := by decide +kernel
theorem dX2_addTimes_25 : decode cX2_addTimes 25 = .ok (.laload, 1) := by decide +kernel
theorem dX2_addTimes_26 : decode cX2_addTimes 26 = .ok (.lmul, 1) := by decide +kernel
theorem dX2_addTimes_27 : decode cX2_addTimes 27 = .ok (.ladd, 1) := by decide +kernel
theorem dX2_addTimes_28 : decode cX2_addTimes 28 = .ok (.lastore, 1) := by decide +kernel
theorem dX2_addTimes_29 : decode cX2_addTimes 29 = .ok (.iinc 4 1, 3) := by decide +kernel
theorem dX2_addTimes_32 : decode cX2_addTimes 32 = .ok (.goto (-29), 3) := by decide +kernel
theorem dX2_addTimes_35 : decode cX2_addTimes 35 = .ok (.return_, 1) := by decide +kernel
theorem dX2_product_0 : decode cX2_product 0 = .ok (.lconst 0, 1) := by decide +kernel
theorem dX2_product_1 : decode cX2_product 1 = .ok (.lstore_n 2, 1) := by decide +kernel
theorem dX2_product_2 : decode cX2_product 2 = .ok (.iconst 0, 1) := by decide +kernel
theorem dX2_product_3 : decode cX2_product 3 = .ok (.istore 4, 2) := by decide +kernel
theorem dX2_product_5 : decode cX2_product 5 = .ok (.iload 4, 2) := by decide +kernel
theorem dX2_product_7 : decode cX2_product 7 = .ok (.bipush 6, 2) := by decide +kernel
theorem dX2_product_9 : decode cX2_product 9 = .ok (.if_icmp .ge 22, 3) := by decide +kernel
theorem dX2_product_12 : decode cX2_product 12 = .ok (.lload_n 2, 1) := by decide +kernel
theorem dX2_product_13 : decode cX2_product 13 = .ok (.aload_n 0, 1) := by decide +kernel
theorem dX2_product_14 : decode cX2_product 14 = .ok (.iload 4, 2) := by decide +kernel
theorem dX2_product_16 : decode cX2_product 16 = .ok (.iaload, 1) := by decide +kernel
theorem dX2_product_17 : decode cX2_product 17 = .ok (.i2l, 1) := by decide +kernel
theorem dX2_product_18 : decode cX2_product 18 = .ok (.aload_n 1, 1) := by decide +kernel
theorem dX2_product_19 : decode cX2_product 19 = .ok (.iload 4, 2) := by decide +kernel
theorem dX2_product_21 : decode cX2_product 21 = .ok (.laload, 1) := by decide +kernel
theorem dX2_product_22 : decode cX2_product 22 = .ok (.lmul, 1) := by decide +kernel
theorem dX2_product_23 : decode cX2_product 23 = .ok (.ladd, 1) := by decide +kernel
theorem dX2_product_24 : decode cX2_product 24 = .ok (.lstore_n 2, 1) := by decide +kernel
theorem dX2_product_25 : decode cX2_product 25 = .ok (.iinc 4 1, 3) := by decide +kernel
theorem dX2_product_28 : decode cX2_product 28 = .ok (.goto (-23), 3) := by decide +kernel
theorem dX2_product_31 : decode cX2_product 31 = .ok (.lload_n 2, 1) := by decide +kernel
theorem dX2_product_32 : decode cX2_product 32 = .ok (.lreturn, 1) := by decide +kernel
theorem dX2_commonDivisor_0 : decode cX2_commonDivisor 0 = .ok (.lload_n 0, 1) := by decide +kernel
theorem dX2_commonDivisor_1 : decode cX2_commonDivisor 1 = .ok (.invokestatic 107, 3) := by decide +kernel
theorem dX2_commonDivisor_4 : decode cX2_commonDivisor 4 = .ok (.lstore 4, 2) := by decide +kernel
theorem dX2_commonDivisor_6 : decode cX2_commonDivisor 6 = .ok (.lload_n 2, 1) := by decide +kernel
theorem dX2_commonDivisor_7 : decode cX2_commonDivisor 7 = .ok (.invokestatic 107, 3) := by decide +kernel
theorem dX2_commonDivisor_10 : decode cX2_commonDivisor 10 = .ok (.lstore 6, 2) := by decide +kernel
theorem dX2_commonDivisor_12 : decode cX2_commonDivisor 12 = .ok (.iconst 0, 1) := by decide +kernel
theorem dX2_commonDivisor_13 : decode cX2_commonDivisor 13 = .ok (.istore 8, 2) := by decide +kernel
theorem dX2_commonDivisor_15 : decode cX2_commonDivisor 15 = .ok (.iload 8, 2) := by decide +kernel
theorem dX2_commonDivisor_17 : decode cX2_commonDivisor 17 = .ok (.sipush 200, 3) := by decide +kernel
theorem dX2_commonDivisor_20 : decode cX2_commonDivisor 20 = .ok (.if_icmp .ge 31, 3) := by decide +kernel
theorem dX2_commonDivisor_23 : decode cX2_commonDivisor 23 = .ok (.lload 6, 2) := by decide +kernel
theorem dX2_commonDivisor_25 : decode cX2_commonDivisor 25 = .ok (.lconst 0, 1) := by decide +kernel
theorem dX2_commonDivisor_26 : decode cX2_commonDivisor 26 = .ok (.lcmp, 1) := by decide +kernel
theorem dX2_commonDivisor_27 : decode cX2_commonDivisor 27 = .ok (.ifCond .eq 24, 3) := by decide +kernel
theorem dX2_commonDivisor_30 : decode cX2_commonDivisor 30 = .ok (.lload 4, 2) := by decide +kernel
theorem dX2_commonDivisor_32 : decode cX2_commonDivisor 32 = .ok (.lload 6, 2) := by decide +kernel
theorem dX2_commonDivisor_34 : decode cX2_commonDivisor 34 = .ok (.lrem, 1) := by decide +kernel
theorem dX2_commonDivisor_35 : decode cX2_commonDivisor 35 = .ok (.lstore 9, 2) := by decide +kernel
theorem dX2_commonDivisor_37 : decode cX2_commonDivisor 37 = .ok (.lload 6, 2) := by decide +kernel
theorem dX2_commonDivisor_39 : decode cX2_commonDivisor 39 = .ok (.lstore 4, 2) := by decide +kernel
theorem dX2_commonDivisor_41 : decode cX2_commonDivisor 41 = .ok (.lload 9, 2) := by decide +kernel
theorem dX2_commonDivisor_43 : decode cX2_commonDivisor 43 = .ok (.lstore 6, 2) := by decide +kernel
theorem dX2_commonDivisor_45 : decode cX2_commonDivisor 45 = .ok (.iinc 8 1, 3) := by decide +kernel
theorem dX2_commonDivisor_48 : decode cX2_commonDivisor 48 = .ok (.goto (-33), 3) := by decide +kernel
theorem dX2_commonDivisor_51 : decode cX2_commonDivisor 51 = .ok (.lload 4, 2) := by decide +kernel
theorem dX2_commonDivisor_53 : decode cX2_commonDivisor 53 = .ok (.lreturn, 1) := by decide +kernel
set_option maxRecDepth 20000 in
theorem ggX3_init_J7_fill_53178 : GoodIn wsX3_init wsJ7_fill_53178 := goodIn_r _ [12] (by decide +kernel) (by decide +kernel)
set_option maxRecDepth 20000 in
theorem gX3_init_J7_fill_53178 : GoodIn wsX3_init (va_wsS RX3 23 yJ7_fill_53178 wsJ7_fill_53178) := goodIn_app (goodIn_of _ (by decide +kernel)) ggX3_init_J7_fill_53178
theorem dX3_init_0 : decode cX3_init 0 = .ok (.aload_n 0, 1) := by decide +kernel
theorem dX3_init_1 : decode cX3_init 1 = .ok (.invokespecial 3, 3) := by decide +kernel
theorem dX3_init_4 : decode cX3_init 4 = .ok (.aload_n 0, 1) := by decide +kernel
theorem dX3_init_5 : decode cX3_init 5 = .ok (.bipush 6, 2) := by decide +kernel
theorem dX3_init_7 : decode cX3_init 7 = .ok (.bipush 10, 2) := by decide +kernel
theorem dX3_init_9 : decode cX3_init 9 = .ok (.multianewarray 9 2, 4) := by decide +kernel
theorem dX3_init_13 : decode cX3_init 13 = .ok (.putfield 11, 3) := by decide +kernel
theorem dX3_init_16 : decode cX3_init 16 = .ok (.aload_n 0, 1) := by decide +kernel
theorem dX3_init_17 : decode cX3_init 17 = .ok (.iconst 4, 1) := by decide +kernel
theorem dX3_init_18 : decode cX3_init 18 = .ok (.newarray .int, 2) := by decide +kernel
theorem dX3_init_20 : decode cX3_init 20 = .ok (.putfield 16, 3) := by decide +kernel
theorem dX3_init_23 : decode cX3_init 23 = .ok (.aload_n 0, 1) := by decide +kernel
theorem dX3_init_24 : decode cX3_init 24 = .ok (.iconst 4, 1) := by decide +kernel
theorem dX3_init_25 : decode cX3_init 25 = .ok (.newarray .int, 2) := by decide +kernel
theorem dX3_init_27 : decode cX3_init 27 = .ok (.putfield 20, 3) := by decide +kernel
theorem dX3_init_30 : decode cX3_init 30 = .ok (.aload_n 0, 1) := by decide +kernel
theorem dX3_init_31 : decode cX3_init 31 = .ok (.getfield 16, 3) := by decide +kernel
theorem dX3_init_34 : decode cX3_init 34 = .ok (.iconst 1, 1) := by decide +kernel
theorem dX3_init_35 : decode cX3_init 35 = .ok (.invokestatic 23, 3) := by decide +kernel
theorem dX3_init_38 : decode cX3_init 38 = .ok (.aload_n 0, 1) := by decide +kernel
theorem dX3_init_39 : decode cX3_init 39 = .ok (.getfield 20, 3) := by decide +kernel
theorem dX3_init_42 : decode cX3_init 42 = .ok (.iconst 1, 1) := by decide +kernel
theorem dX3_init_43 : decode cX3_init 43 = .ok (.invokestatic 23, 3) := by decide +kernel
theorem dX3_init_46 : decode cX3_init 46 = .ok (.return_, 1) := by decide +kernel
theorem dX3_copyDeeds_0 : decode cX3_copyDeeds 0 = .ok (.aload_n 0, 1) := by decide +kernel
theorem dX3_copyDeeds_1 : decode cX3_copyDeeds 1 = .ok (.aload_n 1, 1) := by decide +kernel
theorem dX3_copyDeeds_2 : decode cX3_copyDeeds 2 = .ok (.getfield 29, 3) := by decide +kernel
theorem dX3_copyDeeds_5 : decode cX3_copyDeeds 5 = .ok (.putfield 29, 3) := by decide +kernel
theorem dX3_copyDeeds_8 : decode cX3_copyDeeds 8 = .ok (.iconst 0, 1) := by decide +kernel
theorem dX3_copyDeeds_9 : decode cX3_copyDeeds 9 = .ok (.istore_n 2, 1) := by decide +kernel
theorem dX3_copyDeeds_10 : decode cX3_copyDeeds 10 = .ok (.iload_n 2, 1) := by decide +kernel
theorem dX3_copyDeeds_11 : decode cX3_copyDeeds 11 = .ok (.bipush 6, 2) := by decide +kernel
theorem dX3_copyDeeds_13 : decode cX3_copyDeeds 13 = .ok (.if_icmp .ge 28, 3) := by decide +kernel
theorem dX3_copyDeeds_16 : decode cX3_copyDeeds 16 = .ok (.aload_n 1, 1) := by decide +kernel
theorem dX3_copyDeeds_17 : decode cX3_copyDeeds 17 = .ok (.getfield 11, 3) := by decide +kernel
theorem dX3_copyDeeds_20 : decode cX3_copyDeeds 20 = .ok (.iload_n 2, 1) := by decide +kernel
theorem dX3_copyDeeds_21 : decode cX3_copyDeeds 21 = .ok (.aaload, 1) := by decide +kernel
theorem dX3_copyDeeds_22 : decode cX3_copyDeeds 22 = .ok (.iconst 0, 1) := by decide +kernel
theorem dX3_copyDeeds_23 : decode cX3_copyDeeds 23 = .ok (.aload_n 0, 1) := by decide +kernel
theorem dX3_copyDeeds_24 : decode cX3_copyDeeds 24 = .ok (.getfield 11, 3) := by decide +kernel
theorem dX3_copyDeeds_27 : decode cX3_copyDeeds 27 = .ok (.iload_n 2, 1) := by decide +kernel
theorem dX3_copyDeeds_28 : decode cX3_copyDeeds 28 = .ok (.aaload, 1) := by decide +kernel
theorem dX3_copyDeeds_29 : decode cX3_copyDeeds 29 = .ok (.iconst 0, 1) := by decide +kernel
theorem dX3_copyDeeds_30 : decode cX3_copyDeeds 30 = .ok (.bipush 10, 2) := by decide +kernel
theorem dX3_copyDeeds_32 : decode cX3_copyDeeds 32 = .ok (.invokestatic 33, 3) := by decide +kernel
theorem dX3_copyDeeds_35 : decode cX3_copyDeeds 35 = .ok (.iinc 2 1, 3) := by decide +kernel
theorem dX3_copyDeeds_38 : decode cX3_copyDeeds 38 = .ok (.goto (-28), 3) := by decide +kernel
theorem dX3_copyDeeds_41 : decode cX3_copyDeeds 41 = .ok (.aload_n 1, 1) := by decide +kernel
theorem dX3_copyDeeds_42 : decode cX3_copyDeeds 42 = .ok (.getfield 16, 3) := by decide +kernel
theorem dX3_copyDeeds_45 : decode cX3_copyDeeds 45 = .ok (.iconst 0, 1) := by decide +kernel
theorem dX3_copyDeeds_46 : decode cX3_copyDeeds 46 = .ok (.aload_n 0, 1) := by decide +kernel
theorem dX3_copyDeeds_47 : decode cX3_copyDeeds 47 = .ok (.getfield 16, 3) := by decide +kernel
theorem dX3_copyDeeds_50 : decode cX3_copyDeeds 50 = .ok (.iconst 0, 1) := by decide +kernel
theorem dX3_copyDeeds_51 : decode cX3_copyDeeds 51 = .ok (.iconst 4, 1) := by decide +kernel
theorem dX3_copyDeeds_52 : decode cX3_copyDeeds 52 = .ok (.invokestatic 33, 3) := by decide +kernel
theorem dX3_copyDeeds_55 : decode cX3_copyDeeds 55 = .ok (.aload_n 1, 1) := by decide +kernel
theorem dX3_copyDeeds_56 : decode cX3_copyDeeds 56 = .ok (.getfield 20, 3) := by decide +kernel
theorem dX3_copyDeeds_59 : decode cX3_copyDeeds 59 = .ok (.iconst 0, 1) := by decide +kernel
theorem dX3_copyDeeds_60 : decode cX3_copyDeeds 60 = .ok (.aload_n 0, 1) := by decide +kernel
theorem dX3_copyDeeds_61 : decode cX3_copyDeeds 61 = .ok (.getfield 20, 3) := by decide +kernel
theorem dX3_copyDeeds_64 : decode cX3_copyDeeds 64 = .ok (.iconst 0, 1) := by decide +kernel
theorem dX3_copyDeeds_65 : decode cX3_copyDeeds 65 = .ok (.iconst 4, 1) := by decide +kernel
theorem dX3_copyDeeds_66 : decode cX3_copyDeeds 66 = .ok (.invokestatic 33, 3) := by decide +kernel
theorem dX3_copyDeeds_69 : decode cX3_copyDeeds 69 = .ok (.return_, 1) := by decide +kernel
theorem dX3_put_0 : decode cX3_put 0 = .ok (.aload_n 0, 1) := by decide +kernel
theorem dX3_put_1 : decode cX3_put 1 = .ok (.getfield 29, 3) := by decide +kernel
theorem dX3_put_4 : decode cX3_put 4 = .ok (.bipush 6, 2) := by decide +kernel
theorem dX3_put_6 : decode cX3_put 6 = .ok (.if_icmp .ge 30, 3) := by decide +kernel
theorem dX3_put_9 : decode cX3_put 9 = .ok (.aload_n 1, 1) := by decide +kernel
theorem dX3_put_10 : decode cX3_put 10 = .ok (.iconst 0, 1) := by decide +kernel
theorem dX3_put_11 : decode cX3_put 11 = .ok (.aload_n 0, 1) := by decide +kernel
theorem dX3_put_12 : decode cX3_put 12 = .ok (.getfield 11, 3) := by decide +kernel
theorem dX3_put_15 : decode cX3_put 15 = .ok (.aload_n 0, 1) := by decide +kernel
theorem dX3_put_16 : decode cX3_put 16 = .ok (.getfield 29, 3) := by decide +kernel
theorem dX3_put_19 : decode cX3_put 19 = .ok (.aaload, 1) := by decide +kernel
theorem dX3_put_20 : decode cX3_put 20 = .ok (.iconst 0, 1) := by decide +kernel
theorem dX3_put_21 : decode cX3_put 21 = .ok (.bipush 10, 2) := by decide +kernel
theorem dX3_put_23 : decode cX3_put 23 = .ok (.invokestatic 33, 3) := by decide +kernel
theorem dX3_put_26 : decode cX3_put 26 = .ok (.aload_n 0, 1) := by decide +kernel
theorem dX3_put_27 : decode cX3_put 27 = .ok (.dup, 1) := by decide +kernel
theorem dX3_put_28 : decode cX3_put 28 = .ok (.getfield 29, 3) := by decide +kernel
theorem dX3_put_31 : decode cX3_put 31 = .ok (.iconst 1, 1) := by decide +kernel
theorem dX3_put_32 : decode cX3_put 32 = .ok (.iadd, 1) := by decide +kernel
theorem dX3_put_33 : decode cX3_put 33 = .ok (.putfield 29, 3) := by decide +kernel
theorem dX3_put_36 : decode cX3_put 36 = .ok (.return_, 1) := by decide +kernel
theorem dX3_remove_0 : decode cX3_remove 0 = .ok (.iload_n 1, 1) := by decide +kernel
theorem dX3_remove_1 : decode cX3_remove 1 = .ok (.istore_n 2, 1) := by decide +kernel
theorem dX3_remove_2 : decode cX3_remove 2 = .ok (.iload_n 2, 1) := by decide +kernel
theorem dX3_remove_3 : decode cX3_remove 3 = .ok (.aload_n 0, 1) := by decide +kernel
theorem dX3_remove_4 : decode cX3_remove 4 = .ok (.getfield 29, 3) := by decide +kernel
theorem dX3_remove_7 : decode cX3_remove 7 = .ok (.iconst 1, 1) := by decide +kernel
theorem dX3_remove_8 : decode cX3_remove 8 = .ok (.isub, 1) := by decide +kernel
theorem dX3_remove_9 : decode cX3_remove 9 = .ok (.if_icmp .ge 30, 3) := by decide +kernel
theorem dX3_remove_12 : decode cX3_remove 12 = .ok (.aload_n 0, 1) := by decide +kernel
theorem dX3_remove_13 : decode cX3_remove 13 = .ok (.getfield 11, 3) := by decide +kernel
theorem dX3_remove_16 : decode cX3_remove 16 = .ok (.iload_n 2, 1) := by decide +kernel
theorem dX3_remove_17 : decode cX3_remove 17 = .ok (.iconst 1, 1) := by decide +kernel
theorem dX3_remove_18 : decode cX3_remove 18 = .ok (.iadd, 1) := by decide +kernel
theorem dX3_remove_19 : decode cX3_remove 19 = .ok (.aaload, 1) := by decide +kernel
theorem dX3_remove_20 : decode cX3_remove 20 = .ok (.iconst 0, 1) := by decide +kernel
theorem dX3_remove_21 : decode cX3_remove 21 = .ok (.aload_n 0, 1) := by decide +kernel
theorem dX3_remove_22 : decode cX3_remove 22 = .ok (.getfield 11, 3) := by decide +kernel
theorem dX3_remove_25 : decode cX3_remove 25 = .ok (.iload_n 2, 1) := by decide +kernel
theorem dX3_remove_26 : decode cX3_remove 26 = .ok (.aaload, 1) := by decide +kernel
theorem dX3_remove_27 : decode cX3_remove 27 = .ok (.iconst 0, 1) := by decide +kernel
theorem dX3_remove_28 : decode cX3_remove 28 = .ok (.bipush 10, 2) := by decide +kernel
theorem dX3_remove_30 : decode cX3_remove 30 = .ok (.invokestatic 33, 3) := by decide +kernel
theorem dX3_remove_33 : decode cX3_remove 33 = .ok (.iinc 2 1, 3) := by decide +kernel
theorem dX3_remove_36 : decode cX3_remove 36 = .ok (.goto (-34), 3) := by decide +kernel
theorem dX3_remove_39 : decode cX3_remove 39 = .ok (.aload_n 0, 1) := by decide +kernel
theorem dX3_remove_40 : decode cX3_remove 40 = .ok (.dup, 1) := by decide +kernel
theorem dX3_remove_41 : decode cX3_remove 41 = .ok (.getfield 29, 3) := by decide +kernel
theorem dX3_remove_44 : decode cX3_remove 44 = .ok (.iconst 1, 1) := by decide +kernel
theorem dX3_remove_45 : decode cX3_remove 45 = .ok (.isub, 1) := by decide +kernel
theorem dX3_remove_46 : decode cX3_remove 46 = .ok (.putfield 29, 3) := by decide +kernel
theorem dX3_remove_49 : decode cX3_remove 49 = .ok (.return_, 1) := by decide +kernel
theorem dX3_countScaled_0 : decode cX3_countScaled 0 = .ok (.iconst 0, 1) := by decide +kernel
theorem dX3_countScaled_1 : decode cX3_countScaled 1 = .ok (.istore_n 1, 1) := by decide +kernel
theorem dX3_countScaled_2 : decode cX3_countScaled 2 = .ok (.iconst 0, 1) := by decide +kernel
theorem dX3_countScaled_3 : decode cX3_countScaled 3 = .ok (.istore_n 2, 1) := by decide +kernel
theorem dX3_countScaled_4 : decode cX3_countScaled 4 = .ok (.iload_n 2, 1) := by decide +kernel
theorem dX3_countScaled_5 : decode cX3_countScaled 5 = .ok (.iconst 4, 1) := by decide +kernel
theorem dX3_countScaled_6 : decode cX3_countScaled 6 = .ok (.if_icmp .ge 27, 3) := by decide +kernel
theorem dX3_countScaled_9 : decode cX3_countScaled 9 = .ok (.aload_n 0, 1) := by decide +kernel
theorem dX3_countScaled_10 : decode cX3_countScaled 10 = .ok (.getfield 16, 3) := by decide +kernel
theorem dX3_countScaled_13 : decode cX3_countScaled 13 = .ok (.iload_n 2, 1) := by decide +kernel
theorem dX3_countScaled_14 : decode cX3_countScaled 14 = .ok (.iaload, 1) := by decide +kernel
theorem dX3_countScaled_15 : decode cX3_countScaled 15 = .ok (.aload_n 0, 1) := by decide +kernel
theorem dX3_countScaled_16 : decode cX3_countScaled 16 = .ok (.getfield 20, 3) := by decide +kernel
theorem dX3_countScaled_19 : decode cX3_countScaled 19 = .ok (.iload_n 2, 1) := by decide +kernel
theorem dX3_countScaled_20 : decode cX3_countScaled 20 = .ok (.iaload, 1) := by decide +kernel
theorem dX3_countScaled_21 : decode cX3_countScaled 21 = .ok (.if_icmp .eq 6, 3) := by decide +kernel
theorem dX3_countScaled_24 : decode cX3_countScaled 24 = .ok (.iinc 1 1, 3) := by decide +kernel
theorem dX3_countScaled_27 : decode cX3_countScaled 27 = .ok (.iinc 2 1, 3) := by decide +kernel
theorem dX3_countScaled_30 : decode cX3_countScaled 30 = .ok (.goto (-26), 3) := by decide +kernel
theorem dX3_countScaled_33 : decode cX3_countScaled 33 = .ok (.iload_n 1, 1) := by decide +kernel
theorem dX3_countScaled_34 : decode cX3_countScaled 34 = .ok (.ireturn, 1) := by decide +kernel
theorem dX3_draw_0 : decode cX3_draw 0 = .ok (.aload_n 0, 1) := by decide +kernel
theorem dX3_draw_1 : decode cX3_draw 1 = .ok (.aload_n 0, 1) := by decide +kernel
theorem dX3_draw_2 : decode cX3_draw 2 = .ok (.getfield 39, 3) := by decide +kernel
theorem dX3_draw_5 : decode cX3_draw 5 = .ok (.i2l, 1) := by decide +kernel
theorem dX3_draw_6 : decode cX3_draw 6 = .ok (.ldc2_w 42, 3) := by decide +kernel
theorem dX3_draw_9 : decode cX3_draw 9 = .ok (.lmul, 1) := by decide +kernel
theorem dX3_draw_10 : decode cX3_draw 10 = .ok (.ldc2_w 44, 3) := by decide +kernel
theorem dX3_draw_13 : decode cX3_draw 13 = .ok (.ladd, 1) := by decide +kernel
theorem dX3_draw_14 : decode cX3_draw 14 = .ok (.ldc2_w 46, 3) := by decide +kernel
theorem dX3_draw_17 : decode cX3_draw 17 = .ok (.land, 1) := by decide +kernel
theorem dX3_draw_18 : decode cX3_draw 18 = .ok (.l2i, 1) := by decide +kernel
theorem dX3_draw_19 : decode cX3_draw 19 = .ok (.putfield 39, 3) := by decide +kernel
theorem dX3_draw_22 : decode cX3_draw 22 = .ok (.iload_n 1, 1) := by decide +kernel
theorem dX3_draw_23 : decode cX3_draw 23 = .ok (.ifCond .le 15, 3) := by decide +kernel
theorem dX3_draw_26 : decode cX3_draw 26 = .ok (.aload_n 0, 1) := by decide +kernel
theorem dX3_draw_27 : decode cX3_draw 27 = .ok (.getfield 39, 3) := by decide +kernel
theorem dX3_draw_30 : decode cX3_draw 30 = .ok (.ldc 48, 2) := by decide +kernel
theorem dX3_draw_32 : decode cX3_draw 32 = .ok (.idiv, 1) := by decide +kernel
theorem dX3_draw_33 : decode cX3_draw 33 = .ok (.iload_n 1, 1) := by decide +kernel
theorem dX3_draw_34 : decode cX3_draw 34 = .ok (.irem, 1) := by decide +kernel
theorem dX3_draw_35 : decode cX3_draw 35 = .ok (.goto 4, 3) := by decide +kernel
theorem dX3_draw_38 : decode cX3_draw 38 = .ok (.iconst 0, 1) := by decide +kernel
theorem dX3_draw_39 : decode cX3_draw 39 = .ok (.ireturn, 1) := by decide +kernel
set_option maxRecDepth 20000 in
theorem ggX4_init_X1_init : GoodIn wsX4_init wsX1_init := goodIn_r _ [27, 28, 2, 3, 29, 30, 31, 4, 32, 33, 34, 82, 83, 84, 85, 86, 87, 88, 89, 90] (by decide +kernel) (by decide +kernel)
set_option maxRecDepth 20000 in
theorem gX4_init_X1_init_n19 : GoodIn wsX4_init (wsX1_init) := ggX4_init_X1_init
set_option maxRecDepth 20000 in
theorem ggX4_init_X3_init : GoodIn wsX4_init wsX3_init := goodIn_r _ [37, 38, 2, 3, 39, 4, 40, 41, 42, 43, 44, 45, 46, 91, 92, 93, 94, 95, 96] (by decide +kernel) (by decide +kernel)
set_option maxRecDepth 20000 in
theorem gX4_init_X3_init : GoodIn wsX4_init (wsX3_init) := ggX4_init_X3_init
set_option maxRecDepth 20000 in
theorem ggX4_init_X0_init : GoodIn wsX4_init wsX0_init := goodIn_r _ [49, 50, 2, 3, 51, 52, 13, 14, 53, 36, 37, 38, 39, 4, 40, 41, 42, 43, 44, 45, 46, 97, 98, 99, 91, 92, 93, 94, 95, 96] (by decide +kernel) (by decide +kernel)
set_option maxRecDepth 20000 in
theorem gX4_init_X0_init : GoodIn wsX4_init (wsX0_init) := ggX4_init_X0_init
set_option maxRecDepth 20000 in
theorem ggX4_init_X2_init : GoodIn wsX4_init wsX2_init := goodIn_r _ [56, 57, 2, 3, 58, 30, 59, 60, 61, 62, 63, 64, 65, 66, 23, 67, 68, 69, 70, 45, 71, 100, 101, 102, 103, 104, 105, 106] (by decide +kernel) (by decide +kernel)
set_option maxRecDepth 20000 in
theorem gX4_init_X2_init : GoodIn wsX4_init (wsX2_init) := ggX4_init_X2_init
theorem dX4_init_0 : decode cX4_init 0 = .ok (.aload_n 0, 1) := by decide +kernel
theorem dX4_init_1 : decode cX4_init 1 = .ok (.invokespecial 3, 3) := by decide +kernel
theorem dX4_init_4 : decode cX4_init 4 = .ok (.aload_n 0, 1) := by decide +kernel
theorem dX4_init_5 : decode cX4_init 5 = .ok (.bipush 60, 2) := by decide +kernel
theorem dX4_init_7 : decode cX4_init 7 = .ok (.newarray .int, 2) := by decide +kernel
theorem dX4_init_9 : decode cX4_init 9 = .ok (.putfield 9, 3) := by decide +kernel
theorem dX4_init_12 : decode cX4_init 12 = .ok (.aload_n 0, 1) := by decide +kernel
theorem dX4_init_13 : decode cX4_init 13 = .ok (.iconst (-1), 1) := by decide +kernel
theorem dX4_init_14 : decode cX4_init 14 = .ok (.putfield 13, 3) := by decide +kernel
theorem dX4_init_17 : decode cX4_init 17 = .ok (.aload_n 0, 1) := by decide +kernel
theorem dX4_init_18 : decode cX4_init 18 = .ok (.new 17, 3) := by decide +kernel
theorem dX4_init_21 : decode cX4_init 21 = .ok (.dup, 1) := by decide +kernel
theorem dX4_init_22 : decode cX4_init 22 = .ok (.invokespecial 19, 3) := by decide +kernel
theorem dX4_init_25 : decode cX4_init 25 = .ok (.putfield 20, 3) := by decide +kernel
theorem dX4_init_28 : decode cX4_init 28 = .ok (.aload_n 0, 1) := by decide +kernel
theorem dX4_init_29 : decode cX4_init 29 = .ok (.bipush 10, 2) := by decide +kernel
theorem dX4_init_31 : decode cX4_init 31 = .ok (.newarray .int, 2) := by decide +kernel
theorem dX4_init_33 : decode cX4_init 33 = .ok (.putfield 24, 3) := by decide +kernel
theorem dX4_init_36 : decode cX4_init 36 = .ok (.aload_n 0, 1) := by decide +kernel
theorem dX4_init_37 : decode cX4_init 37 = .ok (.new 27, 3) := by decide +kernel
theorem dX4_init_40 : decode cX4_init 40 = .ok (.dup, 1) := by decide +kernel
theorem dX4_init_41 : decode cX4_init 41 = .ok (.invokespecial 29, 3) := by decide +kernel
theorem dX4_init_44 : decode cX4_init 44 = .ok (.putfield 30, 3) := by decide +kernel
theorem dX4_init_47 : decode cX4_init 47 = .ok (.aload_n 0, 1) := by decide +kernel
theorem dX4_init_48 : decode cX4_init 48 = .ok (.iconst 2, 1) := by decide +kernel
theorem dX4_init_49 : decode cX4_init 49 = .ok (.anewarray 27, 3) := by decide +kernel
theorem dX4_init_52 : decode cX4_init 52 = .ok (.putfield 34, 3) := by decide +kernel
theorem dX4_init_55 : decode cX4_init 55 = .ok (.aload_n 0, 1) := by decide +kernel
theorem dX4_init_56 : decode cX4_init 56 = .ok (.new 38, 3) := by decide +kernel
theorem dX4_init_59 : decode cX4_init 59 = .ok (.dup, 1) := by decide +kernel
theorem dX4_init_60 : decode cX4_init 60 = .ok (.invokespecial 40, 3) := by decide +kernel
theorem dX4_init_63 : decode cX4_init 63 = .ok (.putfield 41, 3) := by decide +kernel
theorem dX4_init_66 : decode cX4_init 66 = .ok (.aload_n 0, 1) := by decide +kernel
theorem dX4_init_67 : decode cX4_init 67 = .ok (.new 45, 3) := by decide +kernel
theorem dX4_init_70 : decode cX4_init 70 = .ok (.dup, 1) := by decide +kernel
theorem dX4_init_71 : decode cX4_init 71 = .ok (.invokespecial 47, 3) := by decide +kernel
theorem dX4_init_74 : decode cX4_init 74 = .ok (.putfield 48, 3) := by decide +kernel
theorem dX4_init_77 : decode cX4_init 77 = .ok (.aload_n 0, 1) := by decide +kernel
theorem dX4_init_78 : decode cX4_init 78 = .ok (.new 45, 3) := by decide +kernel
theorem dX4_init_81 : decode cX4_init 81 = .ok (.dup, 1) := by decide +kernel
theorem dX4_init_82 : decode cX4_init 82 = .ok (.invokespecial 47, 3) := by decide +kernel
theorem dX4_init_85 : decode cX4_init 85 = .ok (.putfield 52, 3) := by decide +kernel
theorem dX4_init_88 : decode cX4_init 88 = .ok (.iconst 0, 1) := by decide +kernel
theorem dX4_init_89 : decode cX4_init 89 = .ok (.istore_n 1, 1) := by decide +kernel
theorem dX4_init_90 : decode cX4_init 90 = .ok (.iload_n 1, 1) := by decide +kernel
theorem dX4_init_91 : decode cX4_init 91 = .ok (.iconst 2, 1) := by decide +kernel
theorem dX4_init_92 : decode cX4_init 92 = .ok (.if_icmp .ge 22, 3) := by decide +kernel
theorem dX4_init_95 : decode cX4_init 95 = .ok (.aload_n 0, 1) := by decide +kernel
theorem dX4_init_96 : decode cX4_init 96 = .ok (.getfield 34, 3) := by decide +kernel
theorem dX4_init_99 : decode cX4_init 99 = .ok (.iload_n 1, 1) := by decide +kernel
theorem dX4_init_100 : decode cX4_init 100 = .ok (.new 27, 3) := by decide +kernel
theorem dX4_init_103 : decode cX4_init 103 = .ok (.dup, 1) := by decide +kernel
theorem dX4_init_104 : decode cX4_init 104 = .ok (.invokespecial 29, 3) := by decide +kernel
theorem dX4_init_107 : decode cX4_init 107 = .ok (.aastore, 1) := by decide +kernel
theorem dX4_init_108 : decode cX4_init 108 = .ok (.iinc 1 1, 3) := by decide +kernel
theorem dX4_init_111 : decode cX4_init 111 = .ok (.goto (-21), 3) := by decide +kernel
theorem dX4_init_114 : decode cX4_init 114 = .ok (.return_, 1) := by decide +kernel
theorem dX4_feed_0 : decode cX4_feed 0 = .ok (.iload_n 1, 1) := by decide +kernel
theorem dX4_feed_1 : decode cX4_feed 1 = .ok (.ifCond .lt 10, 3) := by decide +kernel
theorem dX4_feed_4 : decode cX4_feed 4 = .ok (.iload_n 1, 1) := by decide +kernel
theorem dX4_feed_5 : decode cX4_feed 5 = .ok (.sipush 255, 3) := by decide +kernel
theorem dX4_feed_8 : decode cX4_feed 8 = .ok (.if_icmp .le 6, 3) := by decide +kernel
theorem dX4_feed_11 : decode cX4_feed 11 = .ok (.ldc 55, 2) := by decide +kernel
theorem dX4_feed_13 : decode cX4_feed 13 = .ok (.ireturn, 1) := by decide +kernel
theorem dX4_feed_14 : decode cX4_feed 14 = .ok (.aload_n 0, 1) := by decide +kernel
theorem dX4_feed_15 : decode cX4_feed 15 = .ok (.getfield 56, 3) := by decide +kernel
theorem dX4_feed_18 : decode cX4_feed 18 = .ok (.bipush 60, 2) := by decide +kernel
theorem dX4_feed_20 : decode cX4_feed 20 = .ok (.if_icmp .lt 6, 3) := by decide +kernel
theorem dX4_feed_23 : decode cX4_feed 23 = .ok (.ldc 59, 2) := by decide +kernel
theorem dX4_feed_25 : decode cX4_feed 25 = .ok (.ireturn, 1) := by decide +kernel
theorem dX4_feed_26 : decode cX4_feed 26 = .ok (.aload_n 0, 1) := by decide +kernel
theorem dX4_feed_27 : decode cX4_feed 27 = .ok (.getfield 9, 3) := by decide +kernel
theorem dX4_feed_30 : decode cX4_feed 30 = .ok (.aload_n 0, 1) := by decide +kernel
theorem dX4_feed_31 : decode cX4_feed 31 = .ok (.getfield 56, 3) := by decide +kernel
theorem dX4_feed_34 : decode cX4_feed 34 = .ok (.iload_n 1, 1) := by decide +kernel
theorem dX4_feed_35 : decode cX4_feed 35 = .ok (.iastore, 1) := by decide +kernel
theorem dX4_feed_36 : decode cX4_feed 36 = .ok (.aload_n 0, 1) := by decide +kernel
theorem dX4_feed_37 : decode cX4_feed 37 = .ok (.dup, 1) := by decide +kernel
theorem dX4_feed_38 : decode cX4_feed 38 = .ok (.getfield 56, 3) := by decide +kernel
theorem dX4_feed_41 : decode cX4_feed 41 = .ok (.iconst 1, 1) := by decide +kernel
theorem dX4_feed_42 : decode cX4_feed 42 = .ok (.iadd, 1) := by decide +kernel
theorem dX4_feed_43 : decode cX4_feed 43 = .ok (.putfield 56, 3) := by decide +kernel
theorem dX4_feed_46 : decode cX4_feed 46 = .ok (.aload_n 0, 1) := by decide +kernel
theorem dX4_feed_47 : decode cX4_feed 47 = .ok (.getfield 56, 3) := by decide +kernel
theorem dX4_feed_50 : decode cX4_feed 50 = .ok (.ireturn, 1) := by decide +kernel
theorem dX4_wipe_0 : decode cX4_wipe 0 = .ok (.aload_n 0, 1) := by decide +kernel
theorem dX4_wipe_1 : decode cX4_wipe 1 = .ok (.getfield 56, 3) := by decide +kernel
theorem dX4_wipe_4 : decode cX4_wipe 4 = .ok (.istore_n 1, 1) := by decide +kernel
theorem dX4_wipe_5 : decode cX4_wipe 5 = .ok (.aload_n 0, 1) := by decide +kernel
theorem dX4_wipe_6 : decode cX4_wipe 6 = .ok (.iconst 0, 1) := by decide +kernel
theorem dX4_wipe_7 : decode cX4_wipe 7 = .ok (.putfield 56, 3) := by decide +kernel
theorem dX4_wipe_10 : decode cX4_wipe 10 = .ok (.iload_n 1, 1) := by decide +kernel
theorem dX4_wipe_11 : decode cX4_wipe 11 = .ok (.ireturn, 1) := by decide +kernel
theorem dX4_fault_0 : decode cX4_fault 0 = .ok (.aload_n 0, 1) := by decide +kernel
theorem dX4_fault_1 : decode cX4_fault 1 = .ok (.getfield 13, 3) := by decide +kernel
theorem dX4_fault_4 : decode cX4_fault 4 = .ok (.ireturn, 1) := by decide +kernel
set_option maxRecDepth 20000 in
theorem ggX4_told_X4_countFixed : GoodIn wsX4_told wsX4_countFixed := goodIn_r _ [10, 3, 11, 12, 13, 14, 15, 16, 17, 118, 119, 120, 121, 122, 123, 124, 125, 126, 127, 134, 135, 136, 137, 138, 139, 140] (by decide +kernel) (by decide +kernel)
set_option maxRecDepth 20000 in
theorem gX4_told_X4_countFixed : GoodIn wsX4_told (wsV RX4 64 RX4 yX4_countFixed wsX4_countFixed) := goodIn_app (goodIn_of _ (by decide +kernel)) ggX4_told_X4_countFixed
set_option maxRecDepth 20000 in
theorem ggX4_told_X4_countSpare : GoodIn wsX4_told wsX4_countSpare := goodIn_r _ [21, 2, 22, 23, 24, 9, 25, 26, 27, 28, 29, 14, 30, 16, 17, 31, 32, 33, 34, 35, 36, 37, 38, 39, 40, 41, 42, 43, 44, 45, 46, 47, 48, 49, 50, 51, 52, 53, 54, 55, 56, 57, 58, 59, 60, 61, 62, 63, 64, 65, 66, 67, 68, 69, 70, 71, 72, 73, 74, 75, 76, 77, 78, 79, 80, 81, 82, 83, 84, 85, 86, 87, 88, 89, 90, 91, 92, 93, 94, 95, 96, 97, 98, 99, 100, 101, 102, 103, 104, 105, 106, 118, 119, 120, 121, 122, 123, 124, 125, 126, 127, 128, 129, 130, 131, 132, 133, 134, 135, 136, 137, 138, 139, 140] (by decide +kernel) (by decide +kernel)
set_option maxRecDepth 20000 in
theorem gX4_told_X4_countSpare : GoodIn wsX4_told (wsV RX4 68 RX4 yX4_countSpare wsX4_countSpare) := goodIn_app (goodIn_of _ (by decide +kernel)) ggX4_told_X4_countSpare
set_option maxRecDepth 20000 in
theorem ggX4_told_X4_neededSet : GoodIn wsX4_told wsX4_neededSet := goodIn_r _ [110, 26, 2, 27, 28, 29, 14, 30, 16, 17, 31, 32, 33, 34, 35, 88, 89, 90, 91, 47, 48, 49, 50, 41, 51, 52, 53, 54, 55, 56, 57, 58, 92, 93, 94, 95, 96, 97, 98, 99, 100, 101, 102, 103, 104, 105, 106, 36, 37, 38, 39, 40, 42, 43, 44, 45, 46, 59, 60, 61, 62, 63, 64, 65, 66, 67, 68, 69, 70, 71, 72, 73, 74, 75, 76, 77, 78, 79, 80, 81, 82, 83, 84, 85, 86, 87, 118, 119, 120, 121, 122, 123, 124, 125, 126, 127, 128, 129, 130, 131, 132, 133, 134, 135, 136, 137, 138, 139, 140] (by decide +kernel) (by decide +kernel)
set_option maxRecDepth 20000 in
theorem gX4_told_X4_neededSet : GoodIn wsX4_told (wsV RX4 71 RX4 yX4_neededSet wsX4_neededSet) := goodIn_app (goodIn_of _ (by decide +kernel)) ggX4_told_X4_neededSet
set_option maxRecDepth 20000 in
theorem ggX4_told_J6_bitCount_0f7a4 : GoodIn wsX4_told wsJ6_bitCount_0f7a4 := goodIn_r _ [114, 115, 116, 117] (by decide +kernel) (by decide +kernel)
set_option maxRecDepth 20000 in
theorem gX4_told_J6_bitCount_0f7a4 : GoodIn wsX4_told (va_wsS RX4 74 yJ6_bitCount_0f7a4 wsJ6_bitCount_0f7a4) := goodIn_app (goodIn_of _ (by decide +kernel)) ggX4_told_J6_bitCount_0f7a4
theorem dX4_told_0 : decode cX4_told 0 = .ok (.iload_n 1, 1) := by decide +kernel
theorem dX4_told_1 : decode cX4_told 1 = .ok (.ifCond .lt 9, 3) := by decide +kernel
theorem dX4_told_4 : decode cX4_told 4 = .ok (.iload_n 1, 1) := by decide +kernel
theorem dX4_told_5 : decode cX4_told 5 = .ok (.bipush 9, 2) := by decide +kernel
