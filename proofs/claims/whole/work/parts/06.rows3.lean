set_option maxRecDepth 20000 in
theorem ggX5_closes_X5_bring : GoodIn wsX5_closes wsX5_bring := goodIn_r _ [31] (by decide +kernel) (by decide +kernel)
set_option maxRecDepth 20000 in
theorem gX5_closes_X5_bring : GoodIn wsX5_closes (va_wsS RX5 90 yX5_bring wsX5_bring) := goodIn_app (goodIn_of _ (by decide +kernel)) ggX5_closes_X5_bring
theorem dX5_closes_0 : decode cX5_closes 0 = .ok (.aload_n 0, 1) := by decide +kernel
theorem dX5_closes_1 : decode cX5_closes 1 = .ok (.invokevirtual 84, 3) := by decide +kernel
theorem dX5_closes_4 : decode cX5_closes 4 = .ok (.aload_n 0, 1) := by decide +kernel
theorem dX5_closes_5 : decode cX5_closes 5 = .ok (.getfield 67, 3) := by decide +kernel
theorem dX5_closes_8 : decode cX5_closes 8 = .ok (.ifCond .ne 71, 3) := by decide +kernel
theorem dX5_closes_11 : decode cX5_closes 11 = .ok (.aload_n 0, 1) := by decide +kernel
theorem dX5_closes_12 : decode cX5_closes 12 = .ok (.getfield 70, 3) := by decide +kernel
theorem dX5_closes_15 : decode cX5_closes 15 = .ok (.ifCond .le 64, 3) := by decide +kernel
theorem dX5_closes_18 : decode cX5_closes 18 = .ok (.aload_n 0, 1) := by decide +kernel
theorem dX5_closes_19 : decode cX5_closes 19 = .ok (.invokevirtual 73, 3) := by decide +kernel
theorem dX5_closes_22 : decode cX5_closes 22 = .ok (.bipush 41, 2) := by decide +kernel
theorem dX5_closes_24 : decode cX5_closes 24 = .ok (.if_icmp .ne 55, 3) := by decide +kernel
theorem dX5_closes_27 : decode cX5_closes 27 = .ok (.aload_n 0, 1) := by decide +kernel
theorem dX5_closes_28 : decode cX5_closes 28 = .ok (.dup, 1) := by decide +kernel
theorem dX5_closes_29 : decode cX5_closes 29 = .ok (.getfield 64, 3) := by decide +kernel
theorem dX5_closes_32 : decode cX5_closes 32 = .ok (.iconst 1, 1) := by decide +kernel
theorem dX5_closes_33 : decode cX5_closes 33 = .ok (.iadd, 1) := by decide +kernel
theorem dX5_closes_34 : decode cX5_closes 34 = .ok (.putfield 64, 3) := by decide +kernel
theorem dX5_closes_37 : decode cX5_closes 37 = .ok (.aload_n 0, 1) := by decide +kernel
theorem dX5_closes_38 : decode cX5_closes 38 = .ok (.invokevirtual 87, 3) := by decide +kernel
theorem dX5_closes_41 : decode cX5_closes 41 = .ok (.aload_n 0, 1) := by decide +kernel
theorem dX5_closes_42 : decode cX5_closes 42 = .ok (.getfield 34, 3) := by decide +kernel
theorem dX5_closes_45 : decode cX5_closes 45 = .ok (.bipush 10, 2) := by decide +kernel
theorem dX5_closes_47 : decode cX5_closes 47 = .ok (.aload_n 0, 1) := by decide +kernel
theorem dX5_closes_48 : decode cX5_closes 48 = .ok (.getfield 70, 3) := by decide +kernel
theorem dX5_closes_51 : decode cX5_closes 51 = .ok (.imul, 1) := by decide +kernel
theorem dX5_closes_52 : decode cX5_closes 52 = .ok (.aload_n 0, 1) := by decide +kernel
theorem dX5_closes_53 : decode cX5_closes 53 = .ok (.getfield 40, 3) := by decide +kernel
theorem dX5_closes_56 : decode cX5_closes 56 = .ok (.iconst 0, 1) := by decide +kernel
theorem dX5_closes_57 : decode cX5_closes 57 = .ok (.bipush 10, 2) := by decide +kernel
theorem dX5_closes_59 : decode cX5_closes 59 = .ok (.invokestatic 90, 3) := by decide +kernel
theorem dX5_closes_62 : decode cX5_closes 62 = .ok (.aload_n 0, 1) := by decide +kernel
theorem dX5_closes_63 : decode cX5_closes 63 = .ok (.dup, 1) := by decide +kernel
theorem dX5_closes_64 : decode cX5_closes 64 = .ok (.getfield 70, 3) := by decide +kernel
theorem dX5_closes_67 : decode cX5_closes 67 = .ok (.iconst 1, 1) := by decide +kernel
theorem dX5_closes_68 : decode cX5_closes 68 = .ok (.isub, 1) := by decide +kernel
theorem dX5_closes_69 : decode cX5_closes 69 = .ok (.putfield 70, 3) := by decide +kernel
theorem dX5_closes_72 : decode cX5_closes 72 = .ok (.aload_n 0, 1) := by decide +kernel
theorem dX5_closes_73 : decode cX5_closes 73 = .ok (.invokevirtual 84, 3) := by decide +kernel
theorem dX5_closes_76 : decode cX5_closes 76 = .ok (.goto (-72), 3) := by decide +kernel
theorem dX5_closes_79 : decode cX5_closes 79 = .ok (.aload_n 0, 1) := by decide +kernel
theorem dX5_closes_80 : decode cX5_closes 80 = .ok (.getfield 67, 3) := by decide +kernel
theorem dX5_closes_83 : decode cX5_closes 83 = .ok (.ifCond .ne 7, 3) := by decide +kernel
theorem dX5_closes_86 : decode cX5_closes 86 = .ok (.aload_n 0, 1) := by decide +kernel
theorem dX5_closes_87 : decode cX5_closes 87 = .ok (.invokevirtual 87, 3) := by decide +kernel
theorem dX5_closes_90 : decode cX5_closes 90 = .ok (.return_, 1) := by decide +kernel
set_option maxRecDepth 20000 in
theorem ggX5_readsSide_X5_opens : GoodIn wsX5_readsSide wsX5_opens := goodIn_r _ [9, 4, 3, 10, 44, 45, 46, 47, 48, 49, 50, 51, 52, 53, 54, 55, 56, 57, 58, 59, 60, 61, 62, 63, 64] (by decide +kernel) (by decide +kernel)
set_option maxRecDepth 20000 in
theorem gX5_readsSide_X5_opens : GoodIn wsX5_readsSide (wsV RX5 81 RX5 yX5_opens wsX5_opens) := goodIn_app (goodIn_of _ (by decide +kernel)) ggX5_readsSide_X5_opens
set_option maxRecDepth 20000 in
theorem ggX5_readsSide_X5_readsLetter : GoodIn wsX5_readsSide wsX5_readsLetter := goodIn_r _ [14, 15, 4, 2, 16, 17, 18, 8, 19, 20, 21, 22, 23, 24, 25, 26, 27, 28, 1, 5, 6, 7, 9, 3, 10, 44, 45, 46, 47, 48, 49, 50, 51, 52, 53, 54, 55, 56, 57, 58, 59, 60, 61, 62, 63, 64] (by decide +kernel) (by decide +kernel)
set_option maxRecDepth 20000 in
theorem gX5_readsSide_X5_readsLetter : GoodIn wsX5_readsSide (wsV RX5 94 RX5 yX5_readsLetter wsX5_readsLetter) := goodIn_app (goodIn_of _ (by decide +kernel)) ggX5_readsSide_X5_readsLetter
set_option maxRecDepth 20000 in
theorem ggX5_readsSide_X5_closes : GoodIn wsX5_readsSide wsX5_closes := goodIn_r _ [32, 1, 4, 2, 10, 15, 33, 34, 35, 8, 36, 16, 17, 18, 19, 20, 21, 22, 23, 24, 25, 26, 27, 28, 37, 38, 39, 40, 3, 41, 42, 43, 44, 45, 46, 47, 48, 49, 50, 51, 52, 53, 54, 55, 56, 57, 58, 59, 60, 61, 62, 63, 64] (by decide +kernel) (by decide +kernel)
set_option maxRecDepth 20000 in
theorem gX5_readsSide_X5_closes : GoodIn wsX5_readsSide (wsV RX5 98 RX5 yX5_closes wsX5_closes) := goodIn_app (goodIn_of _ (by decide +kernel)) ggX5_readsSide_X5_closes
set_option maxRecDepth 20000 in
theorem ggX5_readsSide_X5_here : GoodIn wsX5_readsSide wsX5_here := goodIn_r _ [19, 2, 20, 21, 44, 45, 46, 47, 48, 49, 50, 51, 52, 53, 54, 55, 56, 57, 58, 59, 60, 61, 62, 63, 64] (by decide +kernel) (by decide +kernel)
set_option maxRecDepth 20000 in
theorem gX5_readsSide_X5_here : GoodIn wsX5_readsSide (wsV RX5 73 RX5 yX5_here wsX5_here) := goodIn_app (goodIn_of _ (by decide +kernel)) ggX5_readsSide_X5_here
set_option maxRecDepth 20000 in
theorem ggX5_readsSide_X5_fails : GoodIn wsX5_readsSide wsX5_fails := goodIn_r _ [28, 1, 44, 45, 46, 47, 48, 49, 50, 51, 52, 53, 54, 55, 56, 57, 58, 59, 60, 61, 62, 63, 64] (by decide +kernel) (by decide +kernel)
set_option maxRecDepth 20000 in
theorem gX5_readsSide_X5_fails : GoodIn wsX5_readsSide (wsV RX5 77 RX5 yX5_fails wsX5_fails) := goodIn_app (goodIn_of _ (by decide +kernel)) ggX5_readsSide_X5_fails
theorem dX5_readsSide_0 : decode cX5_readsSide 0 = .ok (.aload_n 0, 1) := by decide +kernel
theorem dX5_readsSide_1 : decode cX5_readsSide 1 = .ok (.iconst 0, 1) := by decide +kernel
theorem dX5_readsSide_2 : decode cX5_readsSide 2 = .ok (.invokevirtual 81, 3) := by decide +kernel
theorem dX5_readsSide_5 : decode cX5_readsSide 5 = .ok (.aload_n 0, 1) := by decide +kernel
theorem dX5_readsSide_6 : decode cX5_readsSide 6 = .ok (.getfield 67, 3) := by decide +kernel
theorem dX5_readsSide_9 : decode cX5_readsSide 9 = .ok (.ifCond .ne 74, 3) := by decide +kernel
theorem dX5_readsSide_12 : decode cX5_readsSide 12 = .ok (.aload_n 0, 1) := by decide +kernel
theorem dX5_readsSide_13 : decode cX5_readsSide 13 = .ok (.invokevirtual 94, 3) := by decide +kernel
theorem dX5_readsSide_16 : decode cX5_readsSide 16 = .ok (.ifCond .eq (-11), 3) := by decide +kernel
theorem dX5_readsSide_19 : decode cX5_readsSide 19 = .ok (.aload_n 0, 1) := by decide +kernel
theorem dX5_readsSide_20 : decode cX5_readsSide 20 = .ok (.invokevirtual 98, 3) := by decide +kernel
theorem dX5_readsSide_23 : decode cX5_readsSide 23 = .ok (.aload_n 0, 1) := by decide +kernel
theorem dX5_readsSide_24 : decode cX5_readsSide 24 = .ok (.invokevirtual 73, 3) := by decide +kernel
theorem dX5_readsSide_27 : decode cX5_readsSide 27 = .ok (.istore_n 1, 1) := by decide +kernel
theorem dX5_readsSide_28 : decode cX5_readsSide 28 = .ok (.aload_n 0, 1) := by decide +kernel
theorem dX5_readsSide_29 : decode cX5_readsSide 29 = .ok (.getfield 67, 3) := by decide +kernel
theorem dX5_readsSide_32 : decode cX5_readsSide 32 = .ok (.ifCond .ne 51, 3) := by decide +kernel
theorem dX5_readsSide_35 : decode cX5_readsSide 35 = .ok (.iload_n 1, 1) := by decide +kernel
theorem dX5_readsSide_36 : decode cX5_readsSide 36 = .ok (.bipush 42, 2) := by decide +kernel
theorem dX5_readsSide_38 : decode cX5_readsSide 38 = .ok (.if_icmp .eq 12, 3) := by decide +kernel
theorem dX5_readsSide_41 : decode cX5_readsSide 41 = .ok (.iload_n 1, 1) := by decide +kernel
theorem dX5_readsSide_42 : decode cX5_readsSide 42 = .ok (.bipush 47, 2) := by decide +kernel
theorem dX5_readsSide_44 : decode cX5_readsSide 44 = .ok (.if_icmp .eq 6, 3) := by decide +kernel
theorem dX5_readsSide_47 : decode cX5_readsSide 47 = .ok (.goto 36, 3) := by decide +kernel
theorem dX5_readsSide_50 : decode cX5_readsSide 50 = .ok (.aload_n 0, 1) := by decide +kernel
theorem dX5_readsSide_51 : decode cX5_readsSide 51 = .ok (.dup, 1) := by decide +kernel
theorem dX5_readsSide_52 : decode cX5_readsSide 52 = .ok (.getfield 64, 3) := by decide +kernel
theorem dX5_readsSide_55 : decode cX5_readsSide 55 = .ok (.iconst 1, 1) := by decide +kernel
theorem dX5_readsSide_56 : decode cX5_readsSide 56 = .ok (.iadd, 1) := by decide +kernel
theorem dX5_readsSide_57 : decode cX5_readsSide 57 = .ok (.putfield 64, 3) := by decide +kernel
theorem dX5_readsSide_60 : decode cX5_readsSide 60 = .ok (.aload_n 0, 1) := by decide +kernel
theorem dX5_readsSide_61 : decode cX5_readsSide 61 = .ok (.getfield 37, 3) := by decide +kernel
theorem dX5_readsSide_64 : decode cX5_readsSide 64 = .ok (.aload_n 0, 1) := by decide +kernel
theorem dX5_readsSide_65 : decode cX5_readsSide 65 = .ok (.getfield 70, 3) := by decide +kernel
theorem dX5_readsSide_68 : decode cX5_readsSide 68 = .ok (.iload_n 1, 1) := by decide +kernel
theorem dX5_readsSide_69 : decode cX5_readsSide 69 = .ok (.bipush 42, 2) := by decide +kernel
theorem dX5_readsSide_71 : decode cX5_readsSide 71 = .ok (.if_icmp .ne 7, 3) := by decide +kernel
theorem dX5_readsSide_74 : decode cX5_readsSide 74 = .ok (.iconst 1, 1) := by decide +kernel
theorem dX5_readsSide_75 : decode cX5_readsSide 75 = .ok (.goto 4, 3) := by decide +kernel
theorem dX5_readsSide_78 : decode cX5_readsSide 78 = .ok (.iconst (-1), 1) := by decide +kernel
theorem dX5_readsSide_79 : decode cX5_readsSide 79 = .ok (.iastore, 1) := by decide +kernel
theorem dX5_readsSide_80 : decode cX5_readsSide 80 = .ok (.goto (-75), 3) := by decide +kernel
theorem dX5_readsSide_83 : decode cX5_readsSide 83 = .ok (.aload_n 0, 1) := by decide +kernel
theorem dX5_readsSide_84 : decode cX5_readsSide 84 = .ok (.getfield 67, 3) := by decide +kernel
theorem dX5_readsSide_87 : decode cX5_readsSide 87 = .ok (.ifCond .ne 15, 3) := by decide +kernel
theorem dX5_readsSide_90 : decode cX5_readsSide 90 = .ok (.aload_n 0, 1) := by decide +kernel
theorem dX5_readsSide_91 : decode cX5_readsSide 91 = .ok (.getfield 70, 3) := by decide +kernel
theorem dX5_readsSide_94 : decode cX5_readsSide 94 = .ok (.ifCond .le 8, 3) := by decide +kernel
theorem dX5_readsSide_97 : decode cX5_readsSide 97 = .ok (.aload_n 0, 1) := by decide +kernel
theorem dX5_readsSide_98 : decode cX5_readsSide 98 = .ok (.iconst 1, 1) := by decide +kernel
theorem dX5_readsSide_99 : decode cX5_readsSide 99 = .ok (.invokevirtual 77, 3) := by decide +kernel
theorem dX5_readsSide_102 : decode cX5_readsSide 102 = .ok (.aload_n 0, 1) := by decide +kernel
theorem dX5_readsSide_103 : decode cX5_readsSide 103 = .ok (.invokevirtual 73, 3) := by decide +kernel
theorem dX5_readsSide_106 : decode cX5_readsSide 106 = .ok (.ireturn, 1) := by decide +kernel
set_option maxRecDepth 20000 in
theorem ggX5_reads_X5_readsSide : GoodIn wsX5_reads wsX5_readsSide := goodIn_r _ [11, 2, 1, 12, 13, 14, 15, 16, 10, 17, 3, 18, 19, 20, 21, 22, 23, 24, 25, 26, 5, 27, 28, 29, 30, 31, 32, 33, 34, 35, 36, 37, 38, 39, 40, 41, 42, 43, 44, 45, 46, 47, 48, 49, 50, 51, 52, 53, 54, 55, 56, 57, 58, 59, 60, 61, 62, 63, 64, 65, 66, 67, 68, 69, 70] (by decide +kernel) (by decide +kernel)
set_option maxRecDepth 20000 in
theorem gX5_reads_X5_readsSide : GoodIn wsX5_reads (wsV RX5 101 RX5 yX5_readsSide wsX5_readsSide) := goodIn_app (goodIn_of _ (by decide +kernel)) ggX5_reads_X5_readsSide
set_option maxRecDepth 20000 in
theorem ggX5_reads_X5_bring : GoodIn wsX5_reads wsX5_bring := goodIn_r _ [49] (by decide +kernel) (by decide +kernel)
set_option maxRecDepth 20000 in
theorem gX5_reads_X5_bring : GoodIn wsX5_reads (va_wsS RX5 90 yX5_bring wsX5_bring) := goodIn_app (goodIn_of _ (by decide +kernel)) ggX5_reads_X5_bring
set_option maxRecDepth 20000 in
theorem ggX5_reads_X5_fails : GoodIn wsX5_reads wsX5_fails := goodIn_r _ [34, 2, 50, 51, 52, 53, 54, 55, 56, 57, 58, 59, 60, 61, 62, 63, 64, 65, 66, 67, 68, 69, 70] (by decide +kernel) (by decide +kernel)
set_option maxRecDepth 20000 in
theorem gX5_reads_X5_fails : GoodIn wsX5_reads (wsV RX5 77 RX5 yX5_fails wsX5_fails) := goodIn_app (goodIn_of _ (by decide +kernel)) ggX5_reads_X5_fails
set_option maxRecDepth 20000 in
theorem ggX5_reads_X5_in : GoodIn wsX5_reads wsX5_in := goodIn_r _ [30] (by decide +kernel) (by decide +kernel)
set_option maxRecDepth 20000 in
theorem gX5_reads_X5_in : GoodIn wsX5_reads (va_wsS RX5 55 yX5_in wsX5_in) := goodIn_app (goodIn_of _ (by decide +kernel)) ggX5_reads_X5_in
theorem dX5_reads_0 : decode cX5_reads 0 = .ok (.aload_n 0, 1) := by decide +kernel
theorem dX5_reads_1 : decode cX5_reads 1 = .ok (.iconst 0, 1) := by decide +kernel
theorem dX5_reads_2 : decode cX5_reads 2 = .ok (.putfield 64, 3) := by decide +kernel
theorem dX5_reads_5 : decode cX5_reads 5 = .ok (.aload_n 0, 1) := by decide +kernel
theorem dX5_reads_6 : decode cX5_reads 6 = .ok (.iconst 0, 1) := by decide +kernel
theorem dX5_reads_7 : decode cX5_reads 7 = .ok (.putfield 67, 3) := by decide +kernel
theorem dX5_reads_10 : decode cX5_reads 10 = .ok (.aload_n 0, 1) := by decide +kernel
theorem dX5_reads_11 : decode cX5_reads 11 = .ok (.invokevirtual 101, 3) := by decide +kernel
theorem dX5_reads_14 : decode cX5_reads 14 = .ok (.istore_n 2, 1) := by decide +kernel
theorem dX5_reads_15 : decode cX5_reads 15 = .ok (.aload_n 0, 1) := by decide +kernel
theorem dX5_reads_16 : decode cX5_reads 16 = .ok (.getfield 34, 3) := by decide +kernel
theorem dX5_reads_19 : decode cX5_reads 19 = .ok (.iconst 0, 1) := by decide +kernel
theorem dX5_reads_20 : decode cX5_reads 20 = .ok (.aload_n 0, 1) := by decide +kernel
theorem dX5_reads_21 : decode cX5_reads 21 = .ok (.getfield 43, 3) := by decide +kernel
theorem dX5_reads_24 : decode cX5_reads 24 = .ok (.iconst 0, 1) := by decide +kernel
theorem dX5_reads_25 : decode cX5_reads 25 = .ok (.bipush 10, 2) := by decide +kernel
theorem dX5_reads_27 : decode cX5_reads 27 = .ok (.invokestatic 90, 3) := by decide +kernel
theorem dX5_reads_30 : decode cX5_reads 30 = .ok (.aload_n 0, 1) := by decide +kernel
theorem dX5_reads_31 : decode cX5_reads 31 = .ok (.getfield 67, 3) := by decide +kernel
theorem dX5_reads_34 : decode cX5_reads 34 = .ok (.ifCond .ne 65, 3) := by decide +kernel
theorem dX5_reads_37 : decode cX5_reads 37 = .ok (.iload_n 1, 1) := by decide +kernel
theorem dX5_reads_38 : decode cX5_reads 38 = .ok (.ifCond .eq 61, 3) := by decide +kernel
theorem dX5_reads_41 : decode cX5_reads 41 = .ok (.iload_n 2, 1) := by decide +kernel
theorem dX5_reads_42 : decode cX5_reads 42 = .ok (.bipush 61, 2) := by decide +kernel
theorem dX5_reads_44 : decode cX5_reads 44 = .ok (.if_icmp .ne 50, 3) := by decide +kernel
theorem dX5_reads_47 : decode cX5_reads 47 = .ok (.aload_n 0, 1) := by decide +kernel
theorem dX5_reads_48 : decode cX5_reads 48 = .ok (.dup, 1) := by decide +kernel
theorem dX5_reads_49 : decode cX5_reads 49 = .ok (.getfield 64, 3) := by decide +kernel
theorem dX5_reads_52 : decode cX5_reads 52 = .ok (.iconst 1, 1) := by decide +kernel
theorem dX5_reads_53 : decode cX5_reads 53 = .ok (.iadd, 1) := by decide +kernel
theorem dX5_reads_54 : decode cX5_reads 54 = .ok (.putfield 64, 3) := by decide +kernel
theorem dX5_reads_57 : decode cX5_reads 57 = .ok (.aload_n 0, 1) := by decide +kernel
theorem dX5_reads_58 : decode cX5_reads 58 = .ok (.invokevirtual 101, 3) := by decide +kernel
theorem dX5_reads_61 : decode cX5_reads 61 = .ok (.istore_n 2, 1) := by decide +kernel
theorem dX5_reads_62 : decode cX5_reads 62 = .ok (.iconst 0, 1) := by decide +kernel
theorem dX5_reads_63 : decode cX5_reads 63 = .ok (.istore_n 3, 1) := by decide +kernel
theorem dX5_reads_64 : decode cX5_reads 64 = .ok (.iload_n 3, 1) := by decide +kernel
theorem dX5_reads_65 : decode cX5_reads 65 = .ok (.bipush 10, 2) := by decide +kernel
theorem dX5_reads_67 : decode cX5_reads 67 = .ok (.if_icmp .ge 24, 3) := by decide +kernel
theorem dX5_reads_70 : decode cX5_reads 70 = .ok (.aload_n 0, 1) := by decide +kernel
theorem dX5_reads_71 : decode cX5_reads 71 = .ok (.getfield 43, 3) := by decide +kernel
theorem dX5_reads_74 : decode cX5_reads 74 = .ok (.iload_n 3, 1) := by decide +kernel
theorem dX5_reads_75 : decode cX5_reads 75 = .ok (.dup2, 1) := by decide +kernel
theorem dX5_reads_76 : decode cX5_reads 76 = .ok (.iaload, 1) := by decide +kernel
theorem dX5_reads_77 : decode cX5_reads 77 = .ok (.aload_n 0, 1) := by decide +kernel
theorem dX5_reads_78 : decode cX5_reads 78 = .ok (.getfield 34, 3) := by decide +kernel
theorem dX5_reads_81 : decode cX5_reads 81 = .ok (.iload_n 3, 1) := by decide +kernel
theorem dX5_reads_82 : decode cX5_reads 82 = .ok (.iaload, 1) := by decide +kernel
theorem dX5_reads_83 : decode cX5_reads 83 = .ok (.isub, 1) := by decide +kernel
theorem dX5_reads_84 : decode cX5_reads 84 = .ok (.iastore, 1) := by decide +kernel
theorem dX5_reads_85 : decode cX5_reads 85 = .ok (.iinc 3 1, 3) := by decide +kernel
theorem dX5_reads_88 : decode cX5_reads 88 = .ok (.goto (-24), 3) := by decide +kernel
theorem dX5_reads_91 : decode cX5_reads 91 = .ok (.goto 8, 3) := by decide +kernel
theorem dX5_reads_94 : decode cX5_reads 94 = .ok (.aload_n 0, 1) := by decide +kernel
theorem dX5_reads_95 : decode cX5_reads 95 = .ok (.iconst 1, 1) := by decide +kernel
theorem dX5_reads_96 : decode cX5_reads 96 = .ok (.invokevirtual 77, 3) := by decide +kernel
theorem dX5_reads_99 : decode cX5_reads 99 = .ok (.aload_n 0, 1) := by decide +kernel
theorem dX5_reads_100 : decode cX5_reads 100 = .ok (.getfield 67, 3) := by decide +kernel
theorem dX5_reads_103 : decode cX5_reads 103 = .ok (.ifCond .ne 13, 3) := by decide +kernel
theorem dX5_reads_106 : decode cX5_reads 106 = .ok (.iload_n 2, 1) := by decide +kernel
theorem dX5_reads_107 : decode cX5_reads 107 = .ok (.iconst (-1), 1) := by decide +kernel
theorem dX5_reads_108 : decode cX5_reads 108 = .ok (.if_icmp .eq 8, 3) := by decide +kernel
theorem dX5_reads_111 : decode cX5_reads 111 = .ok (.aload_n 0, 1) := by decide +kernel
theorem dX5_reads_112 : decode cX5_reads 112 = .ok (.iconst 1, 1) := by decide +kernel
theorem dX5_reads_113 : decode cX5_reads 113 = .ok (.invokevirtual 77, 3) := by decide +kernel
theorem dX5_reads_116 : decode cX5_reads 116 = .ok (.iconst 0, 1) := by decide +kernel
theorem dX5_reads_117 : decode cX5_reads 117 = .ok (.istore_n 3, 1) := by decide +kernel
theorem dX5_reads_118 : decode cX5_reads 118 = .ok (.iload_n 3, 1) := by decide +kernel
theorem dX5_reads_119 : decode cX5_reads 119 = .ok (.bipush 10, 2) := by decide +kernel
theorem dX5_reads_121 : decode cX5_reads 121 = .ok (.if_icmp .ge 41, 3) := by decide +kernel
theorem dX5_reads_124 : decode cX5_reads 124 = .ok (.aload_n 0, 1) := by decide +kernel
theorem dX5_reads_125 : decode cX5_reads 125 = .ok (.getfield 67, 3) := by decide +kernel
theorem dX5_reads_128 : decode cX5_reads 128 = .ok (.ifCond .ne 34, 3) := by decide +kernel
theorem dX5_reads_131 : decode cX5_reads 131 = .ok (.aload_n 0, 1) := by decide +kernel
theorem dX5_reads_132 : decode cX5_reads 132 = .ok (.aload_n 0, 1) := by decide +kernel
theorem dX5_reads_133 : decode cX5_reads 133 = .ok (.getfield 43, 3) := by decide +kernel
theorem dX5_reads_136 : decode cX5_reads 136 = .ok (.iload_n 3, 1) := by decide +kernel
theorem dX5_reads_137 : decode cX5_reads 137 = .ok (.iaload, 1) := by decide +kernel
theorem dX5_reads_138 : decode cX5_reads 138 = .ok (.bipush (-9), 2) := by decide +kernel
theorem dX5_reads_140 : decode cX5_reads 140 = .ok (.bipush 9, 2) := by decide +kernel
theorem dX5_reads_142 : decode cX5_reads 142 = .ok (.invokestatic 55, 3) := by decide +kernel
theorem dX5_reads_145 : decode cX5_reads 145 = .ok (.ifCond .eq 7, 3) := by decide +kernel
theorem dX5_reads_148 : decode cX5_reads 148 = .ok (.iconst 0, 1) := by decide +kernel
theorem dX5_reads_149 : decode cX5_reads 149 = .ok (.goto 4, 3) := by decide +kernel
theorem dX5_reads_152 : decode cX5_reads 152 = .ok (.iconst 3, 1) := by decide +kernel
theorem dX5_reads_153 : decode cX5_reads 153 = .ok (.putfield 67, 3) := by decide +kernel
theorem dX5_reads_156 : decode cX5_reads 156 = .ok (.iinc 3 1, 3) := by decide +kernel
theorem dX5_reads_159 : decode cX5_reads 159 = .ok (.goto (-41), 3) := by decide +kernel
theorem dX5_reads_162 : decode cX5_reads 162 = .ok (.aload_n 0, 1) := by decide +kernel
theorem dX5_reads_163 : decode cX5_reads 163 = .ok (.aload_n 0, 1) := by decide +kernel
theorem dX5_reads_164 : decode cX5_reads 164 = .ok (.getfield 67, 3) := by decide +kernel
theorem dX5_reads_167 : decode cX5_reads 167 = .ok (.ifCond .ne 7, 3) := by decide +kernel
theorem dX5_reads_170 : decode cX5_reads 170 = .ok (.iconst (-1), 1) := by decide +kernel
theorem dX5_reads_171 : decode cX5_reads 171 = .ok (.goto 22, 3) := by decide +kernel
theorem dX5_reads_174 : decode cX5_reads 174 = .ok (.aload_n 0, 1) := by decide +kernel
theorem dX5_reads_175 : decode cX5_reads 175 = .ok (.getfield 67, 3) := by decide +kernel
theorem dX5_reads_178 : decode cX5_reads 178 = .ok (.iconst 3, 1) := by decide +kernel
theorem dX5_reads_179 : decode cX5_reads 179 = .ok (.if_icmp .ne 10, 3) := by decide +kernel
theorem dX5_reads_182 : decode cX5_reads 182 = .ok (.aload_n 0, 1) := by decide +kernel
theorem dX5_reads_183 : decode cX5_reads 183 = .ok (.getfield 60, 3) := by decide +kernel
theorem dX5_reads_186 : decode cX5_reads 186 = .ok (.goto 7, 3) := by decide +kernel
theorem dX5_reads_189 : decode cX5_reads 189 = .ok (.aload_n 0, 1) := by decide +kernel
theorem dX5_reads_190 : decode cX5_reads 190 = .ok (.getfield 64, 3) := by decide +kernel
theorem dX5_reads_193 : decode cX5_reads 193 = .ok (.putfield 13, 3) := by decide +kernel
theorem dX5_reads_196 : decode cX5_reads 196 = .ok (.aload_n 0, 1) := by decide +kernel
theorem dX5_reads_197 : decode cX5_reads 197 = .ok (.iconst 0, 1) := by decide +kernel
theorem dX5_reads_198 : decode cX5_reads 198 = .ok (.putfield 60, 3) := by decide +kernel
theorem dX5_reads_201 : decode cX5_reads 201 = .ok (.aload_n 0, 1) := by decide +kernel
theorem dX5_reads_202 : decode cX5_reads 202 = .ok (.getfield 67, 3) := by decide +kernel
theorem dX5_reads_205 : decode cX5_reads 205 = .ok (.ireturn, 1) := by decide +kernel
theorem dX5_startsFree_0 : decode cX5_startsFree 0 = .ok (.aload_n 0, 1) := by decide +kernel
theorem dX5_startsFree_1 : decode cX5_startsFree 1 = .ok (.bipush 6, 2) := by decide +kernel
theorem dX5_startsFree_3 : decode cX5_startsFree 3 = .ok (.putfield 104, 3) := by decide +kernel
theorem dX5_startsFree_6 : decode cX5_startsFree 6 = .ok (.iconst 0, 1) := by decide +kernel
theorem dX5_startsFree_7 : decode cX5_startsFree 7 = .ok (.istore_n 1, 1) := by decide +kernel
theorem dX5_startsFree_8 : decode cX5_startsFree 8 = .ok (.iload_n 1, 1) := by decide +kernel
theorem dX5_startsFree_9 : decode cX5_startsFree 9 = .ok (.bipush 36, 2) := by decide +kernel
theorem dX5_startsFree_11 : decode cX5_startsFree 11 = .ok (.if_icmp .ge 27, 3) := by decide +kernel
theorem dX5_startsFree_14 : decode cX5_startsFree 14 = .ok (.aload_n 0, 1) := by decide +kernel
theorem dX5_startsFree_15 : decode cX5_startsFree 15 = .ok (.getfield 46, 3) := by decide +kernel
theorem dX5_startsFree_18 : decode cX5_startsFree 18 = .ok (.iload_n 1, 1) := by decide +kernel
theorem dX5_startsFree_19 : decode cX5_startsFree 19 = .ok (.iload_n 1, 1) := by decide +kernel
theorem dX5_startsFree_20 : decode cX5_startsFree 20 = .ok (.bipush 7, 2) := by decide +kernel
theorem dX5_startsFree_22 : decode cX5_startsFree 22 = .ok (.irem, 1) := by decide +kernel
theorem dX5_startsFree_23 : decode cX5_startsFree 23 = .ok (.ifCond .ne 7, 3) := by decide +kernel
theorem dX5_startsFree_26 : decode cX5_startsFree 26 = .ok (.lconst 1, 1) := by decide +kernel
theorem dX5_startsFree_27 : decode cX5_startsFree 27 = .ok (.goto 4, 3) := by decide +kernel
theorem dX5_startsFree_30 : decode cX5_startsFree 30 = .ok (.lconst 0, 1) := by decide +kernel
theorem dX5_startsFree_31 : decode cX5_startsFree 31 = .ok (.lastore, 1) := by decide +kernel
theorem dX5_startsFree_32 : decode cX5_startsFree 32 = .ok (.iinc 1 1, 3) := by decide +kernel
theorem dX5_startsFree_35 : decode cX5_startsFree 35 = .ok (.goto (-27), 3) := by decide +kernel
theorem dX5_startsFree_38 : decode cX5_startsFree 38 = .ok (.iconst 0, 1) := by decide +kernel
theorem dX5_startsFree_39 : decode cX5_startsFree 39 = .ok (.istore_n 1, 1) := by decide +kernel
theorem dX5_startsFree_40 : decode cX5_startsFree 40 = .ok (.iload_n 1, 1) := by decide +kernel
theorem dX5_startsFree_41 : decode cX5_startsFree 41 = .ok (.bipush 24, 2) := by decide +kernel
theorem dX5_startsFree_43 : decode cX5_startsFree 43 = .ok (.if_icmp .ge 16, 3) := by decide +kernel
theorem dX5_startsFree_46 : decode cX5_startsFree 46 = .ok (.aload_n 0, 1) := by decide +kernel
theorem dX5_startsFree_47 : decode cX5_startsFree 47 = .ok (.getfield 49, 3) := by decide +kernel
theorem dX5_startsFree_50 : decode cX5_startsFree 50 = .ok (.iload_n 1, 1) := by decide +kernel
theorem dX5_startsFree_51 : decode cX5_startsFree 51 = .ok (.lconst 0, 1) := by decide +kernel
theorem dX5_startsFree_52 : decode cX5_startsFree 52 = .ok (.lastore, 1) := by decide +kernel
theorem dX5_startsFree_53 : decode cX5_startsFree 53 = .ok (.iinc 1 1, 3) := by decide +kernel
theorem dX5_startsFree_56 : decode cX5_startsFree 56 = .ok (.goto (-16), 3) := by decide +kernel
theorem dX5_startsFree_59 : decode cX5_startsFree 59 = .ok (.return_, 1) := by decide +kernel
theorem dX5_takes_0 : decode cX5_takes 0 = .ok (.iconst 0, 1) := by decide +kernel
theorem dX5_takes_1 : decode cX5_takes 1 = .ok (.istore 5, 2) := by decide +kernel
theorem dX5_takes_3 : decode cX5_takes 3 = .ok (.iload 5, 2) := by decide +kernel
theorem dX5_takes_5 : decode cX5_takes 5 = .ok (.bipush 6, 2) := by decide +kernel
theorem dX5_takes_7 : decode cX5_takes 7 = .ok (.if_icmp .ge 38, 3) := by decide +kernel
theorem dX5_takes_10 : decode cX5_takes 10 = .ok (.aload_n 0, 1) := by decide +kernel
theorem dX5_takes_11 : decode cX5_takes 11 = .ok (.getfield 46, 3) := by decide +kernel
theorem dX5_takes_14 : decode cX5_takes 14 = .ok (.bipush 6, 2) := by decide +kernel
theorem dX5_takes_16 : decode cX5_takes 16 = .ok (.iload_n 1, 1) := by decide +kernel
theorem dX5_takes_17 : decode cX5_takes 17 = .ok (.imul, 1) := by decide +kernel
theorem dX5_takes_18 : decode cX5_takes 18 = .ok (.iload 5, 2) := by decide +kernel
theorem dX5_takes_20 : decode cX5_takes 20 = .ok (.iadd, 1) := by decide +kernel
theorem dX5_takes_21 : decode cX5_takes 21 = .ok (.dup2, 1) := by decide +kernel
theorem dX5_takes_22 : decode cX5_takes 22 = .ok (.laload, 1) := by decide +kernel
theorem dX5_takes_23 : decode cX5_takes 23 = .ok (.lload_n 3, 1) := by decide +kernel
theorem dX5_takes_24 : decode cX5_takes 24 = .ok (.aload_n 0, 1) := by decide +kernel
theorem dX5_takes_25 : decode cX5_takes 25 = .ok (.getfield 46, 3) := by decide +kernel
theorem dX5_takes_28 : decode cX5_takes 28 = .ok (.bipush 6, 2) := by decide +kernel
theorem dX5_takes_30 : decode cX5_takes 30 = .ok (.iload_n 2, 1) := by decide +kernel
theorem dX5_takes_31 : decode cX5_takes 31 = .ok (.imul, 1) := by decide +kernel
theorem dX5_takes_32 : decode cX5_takes 32 = .ok (.iload 5, 2) := by decide +kernel
theorem dX5_takes_34 : decode cX5_takes 34 = .ok (.iadd, 1) := by decide +kernel
theorem dX5_takes_35 : decode cX5_takes 35 = .ok (.laload, 1) := by decide +kernel
theorem dX5_takes_36 : decode cX5_takes 36 = .ok (.lmul, 1) := by decide +kernel
theorem dX5_takes_37 : decode cX5_takes 37 = .ok (.lsub, 1) := by decide +kernel
theorem dX5_takes_38 : decode cX5_takes 38 = .ok (.lastore, 1) := by decide +kernel
theorem dX5_takes_39 : decode cX5_takes 39 = .ok (.iinc 5 1, 3) := by decide +kernel
theorem dX5_takes_42 : decode cX5_takes 42 = .ok (.goto (-39), 3) := by decide +kernel
theorem dX5_takes_45 : decode cX5_takes 45 = .ok (.aload_n 0, 1) := by decide +kernel
theorem dX5_takes_46 : decode cX5_takes 46 = .ok (.getfield 52, 3) := by decide +kernel
theorem dX5_takes_49 : decode cX5_takes 49 = .ok (.iload_n 1, 1) := by decide +kernel
theorem dX5_takes_50 : decode cX5_takes 50 = .ok (.dup2, 1) := by decide +kernel
theorem dX5_takes_51 : decode cX5_takes 51 = .ok (.laload, 1) := by decide +kernel
theorem dX5_takes_52 : decode cX5_takes 52 = .ok (.lload_n 3, 1) := by decide +kernel
theorem dX5_takes_53 : decode cX5_takes 53 = .ok (.aload_n 0, 1) := by decide +kernel
theorem dX5_takes_54 : decode cX5_takes 54 = .ok (.getfield 52, 3) := by decide +kernel
theorem dX5_takes_57 : decode cX5_takes 57 = .ok (.iload_n 2, 1) := by decide +kernel
theorem dX5_takes_58 : decode cX5_takes 58 = .ok (.laload, 1) := by decide +kernel
theorem dX5_takes_59 : decode cX5_takes 59 = .ok (.lmul, 1) := by decide +kernel
theorem dX5_takes_60 : decode cX5_takes 60 = .ok (.lsub, 1) := by decide +kernel
theorem dX5_takes_61 : decode cX5_takes 61 = .ok (.lastore, 1) := by decide +kernel
theorem dX5_takes_62 : decode cX5_takes 62 = .ok (.return_, 1) := by decide +kernel
theorem dX5_swaps_0 : decode cX5_swaps 0 = .ok (.iconst 0, 1) := by decide +kernel
theorem dX5_swaps_1 : decode cX5_swaps 1 = .ok (.istore_n 3, 1) := by decide +kernel
theorem dX5_swaps_2 : decode cX5_swaps 2 = .ok (.iload_n 3, 1) := by decide +kernel
theorem dX5_swaps_3 : decode cX5_swaps 3 = .ok (.bipush 6, 2) := by decide +kernel
theorem dX5_swaps_5 : decode cX5_swaps 5 = .ok (.if_icmp .ge 57, 3) := by decide +kernel
theorem dX5_swaps_8 : decode cX5_swaps 8 = .ok (.aload_n 0, 1) := by decide +kernel
theorem dX5_swaps_9 : decode cX5_swaps 9 = .ok (.getfield 46, 3) := by decide +kernel
theorem dX5_swaps_12 : decode cX5_swaps 12 = .ok (.bipush 6, 2) := by decide +kernel
theorem dX5_swaps_14 : decode cX5_swaps 14 = .ok (.iload_n 1, 1) := by decide +kernel
theorem dX5_swaps_15 : decode cX5_swaps 15 = .ok (.imul, 1) := by decide +kernel
theorem dX5_swaps_16 : decode cX5_swaps 16 = .ok (.iload_n 3, 1) := by decide +kernel
theorem dX5_swaps_17 : decode cX5_swaps 17 = .ok (.iadd, 1) := by decide +kernel
theorem dX5_swaps_18 : decode cX5_swaps 18 = .ok (.laload, 1) := by decide +kernel
theorem dX5_swaps_19 : decode cX5_swaps 19 = .ok (.lstore 4, 2) := by decide +kernel
theorem dX5_swaps_21 : decode cX5_swaps 21 = .ok (.aload_n 0, 1) := by decide +kernel
theorem dX5_swaps_22 : decode cX5_swaps 22 = .ok (.getfield 46, 3) := by decide +kernel
theorem dX5_swaps_25 : decode cX5_swaps 25 = .ok (.bipush 6, 2) := by decide +kernel
theorem dX5_swaps_27 : decode cX5_swaps 27 = .ok (.iload_n 1, 1) := by decide +kernel
theorem dX5_swaps_28 : decode cX5_swaps 28 = .ok (.imul, 1) := by decide +kernel
theorem dX5_swaps_29 : decode cX5_swaps 29 = .ok (.iload_n 3, 1) := by decide +kernel
theorem dX5_swaps_30 : decode cX5_swaps 30 = .ok (.iadd, 1) := by decide +kernel
theorem dX5_swaps_31 : decode cX5_swaps 31 = .ok (.aload_n 0, 1) := by decide +kernel
theorem dX5_swaps_32 : decode cX5_swaps 32 = .ok (.getfield 46, 3) := by decide +kernel
theorem dX5_swaps_35 : decode cX5_swaps 35 = .ok (.bipush 6, 2) := by decide +kernel
theorem dX5_swaps_37 : decode cX5_swaps 37 = .ok (.iload_n 2, 1) := by decide +kernel
theorem dX5_swaps_38 : decode cX5_swaps 38 = .ok (.imul, 1) := by decide +kernel
theorem dX5_swaps_39 : decode cX5_swaps 39 = .ok (.iload_n 3, 1) := by decide +kernel
theorem dX5_swaps_40 : decode cX5_swaps 40 = .ok (.iadd, 1) := by decide +kernel
theorem dX5_swaps_41 : decode cX5_swaps 41 = .ok (.laload, 1) := by decide +kernel
theorem dX5_swaps_42 : decode cX5_swaps 42 = .ok (.lastore, 1) := by decide +kernel
theorem dX5_swaps_43 : decode cX5_swaps 43 = .ok (.aload_n 0, 1) := by decide +kernel
theorem dX5_swaps_44 : decode cX5_swaps 44 = .ok (.getfield 46, 3) := by decide +kernel
theorem dX5_swaps_47 : decode cX5_swaps 47 = .ok (.bipush 6, 2) := by decide +kernel
theorem dX5_swaps_49 : decode cX5_swaps 49 = .ok (.iload_n 2, 1) := by decide +kernel
theorem dX5_swaps_50 : decode cX5_swaps 50 = .ok (.imul, 1) := by decide +kernel
theorem dX5_swaps_51 : decode cX5_swaps 51 = .ok (.iload_n 3, 1) := by decide +kernel
theorem dX5_swaps_52 : decode cX5_swaps 52 = .ok (.iadd, 1) := by decide +kernel
theorem dX5_swaps_53 : decode cX5_swaps 53 = .ok (.lload 4, 2) := by decide +kernel
theorem dX5_swaps_55 : decode cX5_swaps 55 = .ok (.lastore, 1) := by decide +kernel
theorem dX5_swaps_56 : decode cX5_swaps 56 = .ok (.iinc 3 1, 3) := by decide +kernel
theorem dX5_swaps_59 : decode cX5_swaps 59 = .ok (.goto (-57), 3) := by decide +kernel
theorem dX5_swaps_62 : decode cX5_swaps 62 = .ok (.aload_n 0, 1) := by decide +kernel
theorem dX5_swaps_63 : decode cX5_swaps 63 = .ok (.getfield 52, 3) := by decide +kernel
theorem dX5_swaps_66 : decode cX5_swaps 66 = .ok (.iload_n 1, 1) := by decide +kernel
theorem dX5_swaps_67 : decode cX5_swaps 67 = .ok (.laload, 1) := by decide +kernel
theorem dX5_swaps_68 : decode cX5_swaps 68 = .ok (.lstore_n 3, 1) := by decide +kernel
theorem dX5_swaps_69 : decode cX5_swaps 69 = .ok (.aload_n 0, 1) := by decide +kernel
theorem dX5_swaps_70 : decode cX5_swaps 70 = .ok (.getfield 52, 3) := by decide +kernel
theorem dX5_swaps_73 : decode cX5_swaps 73 = .ok (.iload_n 1, 1) := by decide +kernel
theorem dX5_swaps_74 : decode cX5_swaps 74 = .ok (.aload_n 0, 1) := by decide +kernel
theorem dX5_swaps_75 : decode cX5_swaps 75 = .ok (.getfield 52, 3) := by decide +kernel
theorem dX5_swaps_78 : decode cX5_swaps 78 = .ok (.iload_n 2, 1) := by decide +kernel
theorem dX5_swaps_79 : decode cX5_swaps 79 = .ok (.laload, 1) := by decide +kernel
theorem dX5_swaps_80 : decode cX5_swaps 80 = .ok (.lastore, 1) := by decide +kernel
theorem dX5_swaps_81 : decode cX5_swaps 81 = .ok (.aload_n 0, 1) := by decide +kernel
theorem dX5_swaps_82 : decode cX5_swaps 82 = .ok (.getfield 52, 3) := by decide +kernel
theorem dX5_swaps_85 : decode cX5_swaps 85 = .ok (.iload_n 2, 1) := by decide +kernel
theorem dX5_swaps_86 : decode cX5_swaps 86 = .ok (.lload_n 3, 1) := by decide +kernel
theorem dX5_swaps_87 : decode cX5_swaps 87 = .ok (.lastore, 1) := by decide +kernel
theorem dX5_swaps_88 : decode cX5_swaps 88 = .ok (.return_, 1) := by decide +kernel
theorem dX5_floor_0 : decode cX5_floor 0 = .ok (.lload_n 0, 1) := by decide +kernel
theorem dX5_floor_1 : decode cX5_floor 1 = .ok (.lload_n 2, 1) := by decide +kernel
theorem dX5_floor_2 : decode cX5_floor 2 = .ok (.ldiv, 1) := by decide +kernel
theorem dX5_floor_3 : decode cX5_floor 3 = .ok (.lstore 4, 2) := by decide +kernel
theorem dX5_floor_5 : decode cX5_floor 5 = .ok (.lload_n 0, 1) := by decide +kernel
theorem dX5_floor_6 : decode cX5_floor 6 = .ok (.lload_n 2, 1) := by decide +kernel
theorem dX5_floor_7 : decode cX5_floor 7 = .ok (.lrem, 1) := by decide +kernel
theorem dX5_floor_8 : decode cX5_floor 8 = .ok (.lconst 0, 1) := by decide +kernel
theorem dX5_floor_9 : decode cX5_floor 9 = .ok (.lcmp, 1) := by decide +kernel
theorem dX5_floor_10 : decode cX5_floor 10 = .ok (.ifCond .eq 35, 3) := by decide +kernel
theorem dX5_floor_13 : decode cX5_floor 13 = .ok (.lload_n 0, 1) := by decide +kernel
theorem dX5_floor_14 : decode cX5_floor 14 = .ok (.lconst 0, 1) := by decide +kernel
theorem dX5_floor_15 : decode cX5_floor 15 = .ok (.lcmp, 1) := by decide +kernel
theorem dX5_floor_16 : decode cX5_floor 16 = .ok (.ifCond .ge 7, 3) := by decide +kernel
theorem dX5_floor_19 : decode cX5_floor 19 = .ok (.iconst 1, 1) := by decide +kernel
theorem dX5_floor_20 : decode cX5_floor 20 = .ok (.goto 4, 3) := by decide +kernel
theorem dX5_floor_23 : decode cX5_floor 23 = .ok (.iconst 0, 1) := by decide +kernel
theorem dX5_floor_24 : decode cX5_floor 24 = .ok (.lload_n 2, 1) := by decide +kernel
theorem dX5_floor_25 : decode cX5_floor 25 = .ok (.lconst 0, 1) := by decide +kernel
theorem dX5_floor_26 : decode cX5_floor 26 = .ok (.lcmp, 1) := by decide +kernel
theorem dX5_floor_27 : decode cX5_floor 27 = .ok (.ifCond .ge 7, 3) := by decide +kernel
theorem dX5_floor_30 : decode cX5_floor 30 = .ok (.iconst 1, 1) := by decide +kernel
theorem dX5_floor_31 : decode cX5_floor 31 = .ok (.goto 4, 3) := by decide +kernel
theorem dX5_floor_34 : decode cX5_floor 34 = .ok (.iconst 0, 1) := by decide +kernel
theorem dX5_floor_35 : decode cX5_floor 35 = .ok (.if_icmp .eq 10, 3) := by decide +kernel
theorem dX5_floor_38 : decode cX5_floor 38 = .ok (.lload 4, 2) := by decide +kernel
theorem dX5_floor_40 : decode cX5_floor 40 = .ok (.lconst 1, 1) := by decide +kernel
theorem dX5_floor_41 : decode cX5_floor 41 = .ok (.lsub, 1) := by decide +kernel
theorem dX5_floor_42 : decode cX5_floor 42 = .ok (.goto 5, 3) := by decide +kernel
theorem dX5_floor_45 : decode cX5_floor 45 = .ok (.lload 4, 2) := by decide +kernel
theorem dX5_floor_47 : decode cX5_floor 47 = .ok (.lreturn, 1) := by decide +kernel
set_option maxRecDepth 20000 in
theorem ggX5_gathers_X5_sizeOf : GoodIn wsX5_gathers wsX5_sizeOf := goodIn_r _ [5] (by decide +kernel) (by decide +kernel)
set_option maxRecDepth 20000 in
theorem gX5_gathers_X5_sizeOf : GoodIn wsX5_gathers (va_wsS RX5 107 yX5_sizeOf wsX5_sizeOf) := goodIn_app (goodIn_of _ (by decide +kernel)) ggX5_gathers_X5_sizeOf
set_option maxRecDepth 20000 in
theorem ggX5_gathers_X5_swaps : GoodIn wsX5_gathers wsX5_swaps := goodIn_r _ [9, 10, 1, 15, 16, 17, 18, 19, 20, 21, 22, 23, 24, 25, 26, 27, 28, 29, 30, 31, 32, 33, 34, 35] (by decide +kernel) (by decide +kernel)
set_option maxRecDepth 20000 in
theorem gX5_gathers_X5_swaps : GoodIn wsX5_gathers (wsV RX5 111 RX5 yX5_swaps wsX5_swaps) := goodIn_app (goodIn_of _ (by decide +kernel)) ggX5_gathers_X5_swaps
set_option maxRecDepth 20000 in
theorem ggX5_gathers_X5_takes : GoodIn wsX5_gathers wsX5_takes := goodIn_r _ [14, 10, 1, 15, 16, 17, 18, 19, 20, 21, 22, 23, 24, 25, 26, 27, 28, 29, 30, 31, 32, 33, 34, 35] (by decide +kernel) (by decide +kernel)
set_option maxRecDepth 20000 in
theorem gX5_gathers_X5_takes : GoodIn wsX5_gathers (wsV RX5 115 RX5 yX5_takes wsX5_takes) := goodIn_app (goodIn_of _ (by decide +kernel)) ggX5_gathers_X5_takes
theorem dX5_gathers_0 : decode cX5_gathers 0 = .ok (.iconst 1, 1) := by decide +kernel
theorem dX5_gathers_1 : decode cX5_gathers 1 = .ok (.istore_n 3, 1) := by decide +kernel
theorem dX5_gathers_2 : decode cX5_gathers 2 = .ok (.iload_n 3, 1) := by decide +kernel
theorem dX5_gathers_3 : decode cX5_gathers 3 = .ok (.ifCond .eq 149, 3) := by decide +kernel
theorem dX5_gathers_6 : decode cX5_gathers 6 = .ok (.iconst (-1), 1) := by decide +kernel
theorem dX5_gathers_7 : decode cX5_gathers 7 = .ok (.istore 4, 2) := by decide +kernel
theorem dX5_gathers_9 : decode cX5_gathers 9 = .ok (.iload_n 1, 1) := by decide +kernel
theorem dX5_gathers_10 : decode cX5_gathers 10 = .ok (.istore 5, 2) := by decide +kernel
theorem dX5_gathers_12 : decode cX5_gathers 12 = .ok (.iload 5, 2) := by decide +kernel
theorem dX5_gathers_14 : decode cX5_gathers 14 = .ok (.iload_n 1, 1) := by decide +kernel
theorem dX5_gathers_15 : decode cX5_gathers 15 = .ok (.iload_n 2, 1) := by decide +kernel
theorem dX5_gathers_16 : decode cX5_gathers 16 = .ok (.iadd, 1) := by decide +kernel
theorem dX5_gathers_17 : decode cX5_gathers 17 = .ok (.if_icmp .ge 54, 3) := by decide +kernel
theorem dX5_gathers_20 : decode cX5_gathers 20 = .ok (.aload_n 0, 1) := by decide +kernel
theorem dX5_gathers_21 : decode cX5_gathers 21 = .ok (.getfield 52, 3) := by decide +kernel
theorem dX5_gathers_24 : decode cX5_gathers 24 = .ok (.iload 5, 2) := by decide +kernel
theorem dX5_gathers_26 : decode cX5_gathers 26 = .ok (.laload, 1) := by decide +kernel
theorem dX5_gathers_27 : decode cX5_gathers 27 = .ok (.lconst 0, 1) := by decide +kernel
theorem dX5_gathers_28 : decode cX5_gathers 28 = .ok (.lcmp, 1) := by decide +kernel
theorem dX5_gathers_29 : decode cX5_gathers 29 = .ok (.ifCond .eq 36, 3) := by decide +kernel
theorem dX5_gathers_32 : decode cX5_gathers 32 = .ok (.iload 4, 2) := by decide +kernel
theorem dX5_gathers_34 : decode cX5_gathers 34 = .ok (.ifCond .lt 27, 3) := by decide +kernel
theorem dX5_gathers_37 : decode cX5_gathers 37 = .ok (.aload_n 0, 1) := by decide +kernel
theorem dX5_gathers_38 : decode cX5_gathers 38 = .ok (.getfield 52, 3) := by decide +kernel
theorem dX5_gathers_41 : decode cX5_gathers 41 = .ok (.iload 5, 2) := by decide +kernel
theorem dX5_gathers_43 : decode cX5_gathers 43 = .ok (.laload, 1) := by decide +kernel
theorem dX5_gathers_44 : decode cX5_gathers 44 = .ok (.invokestatic 107, 3) := by decide +kernel
theorem dX5_gathers_47 : decode cX5_gathers 47 = .ok (.aload_n 0, 1) := by decide +kernel
theorem dX5_gathers_48 : decode cX5_gathers 48 = .ok (.getfield 52, 3) := by decide +kernel
theorem dX5_gathers_51 : decode cX5_gathers 51 = .ok (.iload 4, 2) := by decide +kernel
theorem dX5_gathers_53 : decode cX5_gathers 53 = .ok (.laload, 1) := by decide +kernel
theorem dX5_gathers_54 : decode cX5_gathers 54 = .ok (.invokestatic 107, 3) := by decide +kernel
theorem dX5_gathers_57 : decode cX5_gathers 57 = .ok (.lcmp, 1) := by decide +kernel
theorem dX5_gathers_58 : decode cX5_gathers 58 = .ok (.ifCond .ge 7, 3) := by decide +kernel
theorem dX5_gathers_61 : decode cX5_gathers 61 = .ok (.iload 5, 2) := by decide +kernel
theorem dX5_gathers_63 : decode cX5_gathers 63 = .ok (.istore 4, 2) := by decide +kernel
theorem dX5_gathers_65 : decode cX5_gathers 65 = .ok (.iinc 5 1, 3) := by decide +kernel
theorem dX5_gathers_68 : decode cX5_gathers 68 = .ok (.goto (-56), 3) := by decide +kernel
theorem dX5_gathers_71 : decode cX5_gathers 71 = .ok (.iload 4, 2) := by decide +kernel
theorem dX5_gathers_73 : decode cX5_gathers 73 = .ok (.ifCond .ge 5, 3) := by decide +kernel
theorem dX5_gathers_76 : decode cX5_gathers 76 = .ok (.iconst 0, 1) := by decide +kernel
theorem dX5_gathers_77 : decode cX5_gathers 77 = .ok (.ireturn, 1) := by decide +kernel
theorem dX5_gathers_78 : decode cX5_gathers 78 = .ok (.aload_n 0, 1) := by decide +kernel
theorem dX5_gathers_79 : decode cX5_gathers 79 = .ok (.iload_n 1, 1) := by decide +kernel
theorem dX5_gathers_80 : decode cX5_gathers 80 = .ok (.iload 4, 2) := by decide +kernel
theorem dX5_gathers_82 : decode cX5_gathers 82 = .ok (.invokevirtual 111, 3) := by decide +kernel
theorem dX5_gathers_85 : decode cX5_gathers 85 = .ok (.iconst 0, 1) := by decide +kernel
theorem dX5_gathers_86 : decode cX5_gathers 86 = .ok (.istore_n 3, 1) := by decide +kernel
theorem dX5_gathers_87 : decode cX5_gathers 87 = .ok (.iload_n 1, 1) := by decide +kernel
theorem dX5_gathers_88 : decode cX5_gathers 88 = .ok (.iconst 1, 1) := by decide +kernel
theorem dX5_gathers_89 : decode cX5_gathers 89 = .ok (.iadd, 1) := by decide +kernel
theorem dX5_gathers_90 : decode cX5_gathers 90 = .ok (.istore 5, 2) := by decide +kernel
theorem dX5_gathers_92 : decode cX5_gathers 92 = .ok (.iload 5, 2) := by decide +kernel
theorem dX5_gathers_94 : decode cX5_gathers 94 = .ok (.iload_n 1, 1) := by decide +kernel
theorem dX5_gathers_95 : decode cX5_gathers 95 = .ok (.iload_n 2, 1) := by decide +kernel
theorem dX5_gathers_96 : decode cX5_gathers 96 = .ok (.iadd, 1) := by decide +kernel
theorem dX5_gathers_97 : decode cX5_gathers 97 = .ok (.if_icmp .ge 52, 3) := by decide +kernel
theorem dX5_gathers_100 : decode cX5_gathers 100 = .ok (.aload_n 0, 1) := by decide +kernel
theorem dX5_gathers_101 : decode cX5_gathers 101 = .ok (.iload 5, 2) := by decide +kernel
theorem dX5_gathers_103 : decode cX5_gathers 103 = .ok (.iload_n 1, 1) := by decide +kernel
theorem dX5_gathers_104 : decode cX5_gathers 104 = .ok (.aload_n 0, 1) := by decide +kernel
theorem dX5_gathers_105 : decode cX5_gathers 105 = .ok (.getfield 52, 3) := by decide +kernel
theorem dX5_gathers_108 : decode cX5_gathers 108 = .ok (.iload 5, 2) := by decide +kernel
theorem dX5_gathers_110 : decode cX5_gathers 110 = .ok (.laload, 1) := by decide +kernel
theorem dX5_gathers_111 : decode cX5_gathers 111 = .ok (.aload_n 0, 1) := by decide +kernel
theorem dX5_gathers_112 : decode cX5_gathers 112 = .ok (.getfield 52, 3) := by decide +kernel
theorem dX5_gathers_115 : decode cX5_gathers 115 = .ok (.iload_n 1, 1) := by decide +kernel
theorem dX5_gathers_116 : decode cX5_gathers 116 = .ok (.laload, 1) := by decide +kernel
theorem dX5_gathers_117 : decode cX5_gathers 117 = .ok (.ldiv, 1) := by decide +kernel
theorem dX5_gathers_118 : decode cX5_gathers 118 = .ok (.invokevirtual 115, 3) := by decide +kernel
theorem dX5_gathers_121 : decode cX5_gathers 121 = .ok (.iload_n 3, 1) := by decide +kernel
theorem dX5_gathers_122 : decode cX5_gathers 122 = .ok (.ifCond .ne 15, 3) := by decide +kernel
theorem dX5_gathers_125 : decode cX5_gathers 125 = .ok (.aload_n 0, 1) := by decide +kernel
theorem dX5_gathers_126 : decode cX5_gathers 126 = .ok (.getfield 52, 3) := by decide +kernel
theorem dX5_gathers_129 : decode cX5_gathers 129 = .ok (.iload 5, 2) := by decide +kernel
theorem dX5_gathers_131 : decode cX5_gathers 131 = .ok (.laload, 1) := by decide +kernel
theorem dX5_gathers_132 : decode cX5_gathers 132 = .ok (.lconst 0, 1) := by decide +kernel
theorem dX5_gathers_133 : decode cX5_gathers 133 = .ok (.lcmp, 1) := by decide +kernel
theorem dX5_gathers_134 : decode cX5_gathers 134 = .ok (.ifCond .eq 7, 3) := by decide +kernel
theorem dX5_gathers_137 : decode cX5_gathers 137 = .ok (.iconst 1, 1) := by decide +kernel
theorem dX5_gathers_138 : decode cX5_gathers 138 = .ok (.goto 4, 3) := by decide +kernel
theorem dX5_gathers_141 : decode cX5_gathers 141 = .ok (.iconst 0, 1) := by decide +kernel
theorem dX5_gathers_142 : decode cX5_gathers 142 = .ok (.istore_n 3, 1) := by decide +kernel
theorem dX5_gathers_143 : decode cX5_gathers 143 = .ok (.iinc 5 1, 3) := by decide +kernel
theorem dX5_gathers_146 : decode cX5_gathers 146 = .ok (.goto (-54), 3) := by decide +kernel
theorem dX5_gathers_149 : decode cX5_gathers 149 = .ok (.goto (-147), 3) := by decide +kernel
theorem dX5_gathers_152 : decode cX5_gathers 152 = .ok (.iconst 1, 1) := by decide +kernel
theorem dX5_gathers_153 : decode cX5_gathers 153 = .ok (.ireturn, 1) := by decide +kernel
theorem dX5_sizeOf_0 : decode cX5_sizeOf 0 = .ok (.lload_n 0, 1) := by decide +kernel
theorem dX5_sizeOf_1 : decode cX5_sizeOf 1 = .ok (.lconst 0, 1) := by decide +kernel
theorem dX5_sizeOf_2 : decode cX5_sizeOf 2 = .ok (.lcmp, 1) := by decide +kernel
theorem dX5_sizeOf_3 : decode cX5_sizeOf 3 = .ok (.ifCond .ge 8, 3) := by decide +kernel
theorem dX5_sizeOf_6 : decode cX5_sizeOf 6 = .ok (.lload_n 0, 1) := by decide +kernel
theorem dX5_sizeOf_7 : decode cX5_sizeOf 7 = .ok (.lneg, 1) := by decide +kernel
theorem dX5_sizeOf_8 : decode cX5_sizeOf 8 = .ok (.goto 4, 3) := by decide +kernel
theorem dX5_sizeOf_11 : decode cX5_sizeOf 11 = .ok (.lload_n 0, 1) := by decide +kernel
theorem dX5_sizeOf_12 : decode cX5_sizeOf 12 = .ok (.lreturn, 1) := by decide +kernel
theorem dX5_sumOf_0 : decode cX5_sumOf 0 = .ok (.lconst 0, 1) := by decide +kernel
theorem dX5_sumOf_1 : decode cX5_sumOf 1 = .ok (.lstore 4, 2) := by decide +kernel
theorem dX5_sumOf_3 : decode cX5_sumOf 3 = .ok (.iconst 0, 1) := by decide +kernel
theorem dX5_sumOf_4 : decode cX5_sumOf 4 = .ok (.istore 6, 2) := by decide +kernel
theorem dX5_sumOf_6 : decode cX5_sumOf 6 = .ok (.iload 6, 2) := by decide +kernel
theorem dX5_sumOf_8 : decode cX5_sumOf 8 = .ok (.bipush 6, 2) := by decide +kernel
theorem dX5_sumOf_10 : decode cX5_sumOf 10 = .ok (.if_icmp .ge 34, 3) := by decide +kernel
theorem dX5_sumOf_13 : decode cX5_sumOf 13 = .ok (.lload 4, 2) := by decide +kernel
theorem dX5_sumOf_15 : decode cX5_sumOf 15 = .ok (.aload_n 1, 1) := by decide +kernel
theorem dX5_sumOf_16 : decode cX5_sumOf 16 = .ok (.iload_n 2, 1) := by decide +kernel
theorem dX5_sumOf_17 : decode cX5_sumOf 17 = .ok (.iload 6, 2) := by decide +kernel
theorem dX5_sumOf_19 : decode cX5_sumOf 19 = .ok (.iadd, 1) := by decide +kernel
theorem dX5_sumOf_20 : decode cX5_sumOf 20 = .ok (.iaload, 1) := by decide +kernel
theorem dX5_sumOf_21 : decode cX5_sumOf 21 = .ok (.i2l, 1) := by decide +kernel
theorem dX5_sumOf_22 : decode cX5_sumOf 22 = .ok (.aload_n 0, 1) := by decide +kernel
theorem dX5_sumOf_23 : decode cX5_sumOf 23 = .ok (.getfield 46, 3) := by decide +kernel
theorem dX5_sumOf_26 : decode cX5_sumOf 26 = .ok (.bipush 6, 2) := by decide +kernel
theorem dX5_sumOf_28 : decode cX5_sumOf 28 = .ok (.iload_n 3, 1) := by decide +kernel
theorem dX5_sumOf_29 : decode cX5_sumOf 29 = .ok (.imul, 1) := by decide +kernel
theorem dX5_sumOf_30 : decode cX5_sumOf 30 = .ok (.iload 6, 2) := by decide +kernel
theorem dX5_sumOf_32 : decode cX5_sumOf 32 = .ok (.iadd, 1) := by decide +kernel
theorem dX5_sumOf_33 : decode cX5_sumOf 33 = .ok (.laload, 1) := by decide +kernel
theorem dX5_sumOf_34 : decode cX5_sumOf 34 = .ok (.lmul, 1) := by decide +kernel
theorem dX5_sumOf_35 : decode cX5_sumOf 35 = .ok (.ladd, 1) := by decide +kernel
theorem dX5_sumOf_36 : decode cX5_sumOf 36 = .ok (.lstore 4, 2) := by decide +kernel
theorem dX5_sumOf_38 : decode cX5_sumOf 38 = .ok (.iinc 6 1, 3) := by decide +kernel
theorem dX5_sumOf_41 : decode cX5_sumOf 41 = .ok (.goto (-35), 3) := by decide +kernel
theorem dX5_sumOf_44 : decode cX5_sumOf 44 = .ok (.lload 4, 2) := by decide +kernel
theorem dX5_sumOf_46 : decode cX5_sumOf 46 = .ok (.lreturn, 1) := by decide +kernel
theorem dX5_restOf_0 : decode cX5_restOf 0 = .ok (.aload_n 1, 1) := by decide +kernel
theorem dX5_restOf_1 : decode cX5_restOf 1 = .ok (.iload_n 2, 1) := by decide +kernel
theorem dX5_restOf_2 : decode cX5_restOf 2 = .ok (.bipush 6, 2) := by decide +kernel
theorem dX5_restOf_4 : decode cX5_restOf 4 = .ok (.iadd, 1) := by decide +kernel
theorem dX5_restOf_5 : decode cX5_restOf 5 = .ok (.iload_n 3, 1) := by decide +kernel
theorem dX5_restOf_6 : decode cX5_restOf 6 = .ok (.iadd, 1) := by decide +kernel
theorem dX5_restOf_7 : decode cX5_restOf 7 = .ok (.iaload, 1) := by decide +kernel
theorem dX5_restOf_8 : decode cX5_restOf 8 = .ok (.i2l, 1) := by decide +kernel
theorem dX5_restOf_9 : decode cX5_restOf 9 = .ok (.lstore 4, 2) := by decide +kernel
theorem dX5_restOf_11 : decode cX5_restOf 11 = .ok (.iconst 0, 1) := by decide +kernel
theorem dX5_restOf_12 : decode cX5_restOf 12 = .ok (.istore 6, 2) := by decide +kernel
theorem dX5_restOf_14 : decode cX5_restOf 14 = .ok (.iload 6, 2) := by decide +kernel
theorem dX5_restOf_16 : decode cX5_restOf 16 = .ok (.bipush 6, 2) := by decide +kernel
theorem dX5_restOf_18 : decode cX5_restOf 18 = .ok (.if_icmp .ge 34, 3) := by decide +kernel
theorem dX5_restOf_21 : decode cX5_restOf 21 = .ok (.lload 4, 2) := by decide +kernel
theorem dX5_restOf_23 : decode cX5_restOf 23 = .ok (.aload_n 1, 1) := by decide +kernel
theorem dX5_restOf_24 : decode cX5_restOf 24 = .ok (.iload_n 2, 1) := by decide +kernel
theorem dX5_restOf_25 : decode cX5_restOf 25 = .ok (.iload 6, 2) := by decide +kernel
theorem dX5_restOf_27 : decode cX5_restOf 27 = .ok (.iadd, 1) := by decide +kernel
theorem dX5_restOf_28 : decode cX5_restOf 28 = .ok (.iaload, 1) := by decide +kernel
theorem dX5_restOf_29 : decode cX5_restOf 29 = .ok (.i2l, 1) := by decide +kernel
theorem dX5_restOf_30 : decode cX5_restOf 30 = .ok (.aload_n 0, 1) := by decide +kernel
theorem dX5_restOf_31 : decode cX5_restOf 31 = .ok (.getfield 49, 3) := by decide +kernel
theorem dX5_restOf_34 : decode cX5_restOf 34 = .ok (.bipush 6, 2) := by decide +kernel
theorem dX5_restOf_36 : decode cX5_restOf 36 = .ok (.iload_n 3, 1) := by decide +kernel
theorem dX5_restOf_37 : decode cX5_restOf 37 = .ok (.imul, 1) := by decide +kernel
theorem dX5_restOf_38 : decode cX5_restOf 38 = .ok (.iload 6, 2) := by decide +kernel
theorem dX5_restOf_40 : decode cX5_restOf 40 = .ok (.iadd, 1) := by decide +kernel
theorem dX5_restOf_41 : decode cX5_restOf 41 = .ok (.laload, 1) := by decide +kernel
theorem dX5_restOf_42 : decode cX5_restOf 42 = .ok (.lmul, 1) := by decide +kernel
theorem dX5_restOf_43 : decode cX5_restOf 43 = .ok (.ladd, 1) := by decide +kernel
theorem dX5_restOf_44 : decode cX5_restOf 44 = .ok (.lstore 4, 2) := by decide +kernel
theorem dX5_restOf_46 : decode cX5_restOf 46 = .ok (.iinc 6 1, 3) := by decide +kernel
theorem dX5_restOf_49 : decode cX5_restOf 49 = .ok (.goto (-35), 3) := by decide +kernel
theorem dX5_restOf_52 : decode cX5_restOf 52 = .ok (.lload 4, 2) := by decide +kernel
theorem dX5_restOf_54 : decode cX5_restOf 54 = .ok (.lreturn, 1) := by decide +kernel
set_option maxRecDepth 20000 in
theorem ggX5_adds_X5_sumOf : GoodIn wsX5_adds wsX5_sumOf := goodIn_r _ [9, 4, 41, 42, 43, 44, 45, 46, 47, 48, 49, 50, 51, 52, 53, 54, 55, 56, 57, 58, 59, 60, 61] (by decide +kernel) (by decide +kernel)
set_option maxRecDepth 20000 in
theorem gX5_adds_X5_sumOf : GoodIn wsX5_adds (wsV RX5 119 RX5 yX5_sumOf wsX5_sumOf) := goodIn_app (goodIn_of _ (by decide +kernel)) ggX5_adds_X5_sumOf
set_option maxRecDepth 20000 in
theorem ggX5_adds_X5_gathers : GoodIn wsX5_adds wsX5_gathers := goodIn_r _ [13, 2, 14, 15, 8, 16, 17, 18, 19, 20, 4, 21, 22, 23, 24, 41, 42, 43, 44, 45, 46, 47, 48, 49, 50, 51, 52, 53, 54, 55, 56, 57, 58, 59, 60, 61] (by decide +kernel) (by decide +kernel)
set_option maxRecDepth 20000 in
theorem gX5_adds_X5_gathers : GoodIn wsX5_adds (wsV RX5 123 RX5 yX5_gathers wsX5_gathers) := goodIn_app (goodIn_of _ (by decide +kernel)) ggX5_adds_X5_gathers
set_option maxRecDepth 20000 in
theorem ggX5_adds_X5_restOf : GoodIn wsX5_adds wsX5_restOf := goodIn_r _ [28, 3, 41, 42, 43, 44, 45, 46, 47, 48, 49, 50, 51, 52, 53, 54, 55, 56, 57, 58, 59, 60, 61] (by decide +kernel) (by decide +kernel)
set_option maxRecDepth 20000 in
theorem gX5_adds_X5_restOf : GoodIn wsX5_adds (wsV RX5 127 RX5 yX5_restOf wsX5_restOf) := goodIn_app (goodIn_of _ (by decide +kernel)) ggX5_adds_X5_restOf
set_option maxRecDepth 20000 in
theorem ggX5_adds_X5_orders : GoodIn wsX5_adds wsX5_orders := goodIn_r _ [32, 1, 2, 4, 33, 3, 10, 11, 12, 8, 13, 14, 15, 16, 17, 18, 19, 20, 21, 22, 23, 24, 34, 35, 36, 37, 38, 39, 40, 41, 42, 43, 44, 45, 46, 47, 48, 49, 50, 51, 52, 53, 54, 55, 56, 57, 58, 59, 60, 61] (by decide +kernel) (by decide +kernel)
set_option maxRecDepth 20000 in
theorem gX5_adds_X5_orders : GoodIn wsX5_adds (wsV RX5 130 RX5 yX5_orders wsX5_orders) := goodIn_app (goodIn_of _ (by decide +kernel)) ggX5_adds_X5_orders
theorem dX5_adds_0 : decode cX5_adds 0 = .ok (.iconst 0, 1) := by decide +kernel
theorem dX5_adds_1 : decode cX5_adds 1 = .ok (.istore_n 3, 1) := by decide +kernel
theorem dX5_adds_2 : decode cX5_adds 2 = .ok (.iload_n 3, 1) := by decide +kernel
theorem dX5_adds_3 : decode cX5_adds 3 = .ok (.aload_n 0, 1) := by decide +kernel
theorem dX5_adds_4 : decode cX5_adds 4 = .ok (.getfield 104, 3) := by decide +kernel
theorem dX5_adds_7 : decode cX5_adds 7 = .ok (.if_icmp .ge 22, 3) := by decide +kernel
theorem dX5_adds_10 : decode cX5_adds 10 = .ok (.aload_n 0, 1) := by decide +kernel
theorem dX5_adds_11 : decode cX5_adds 11 = .ok (.getfield 52, 3) := by decide +kernel
theorem dX5_adds_14 : decode cX5_adds 14 = .ok (.iload_n 3, 1) := by decide +kernel
theorem dX5_adds_15 : decode cX5_adds 15 = .ok (.aload_n 0, 1) := by decide +kernel
theorem dX5_adds_16 : decode cX5_adds 16 = .ok (.aload_n 1, 1) := by decide +kernel
theorem dX5_adds_17 : decode cX5_adds 17 = .ok (.iload_n 2, 1) := by decide +kernel
theorem dX5_adds_18 : decode cX5_adds 18 = .ok (.iload_n 3, 1) := by decide +kernel
theorem dX5_adds_19 : decode cX5_adds 19 = .ok (.invokevirtual 119, 3) := by decide +kernel
theorem dX5_adds_22 : decode cX5_adds 22 = .ok (.lastore, 1) := by decide +kernel
theorem dX5_adds_23 : decode cX5_adds 23 = .ok (.iinc 3 1, 3) := by decide +kernel
theorem dX5_adds_26 : decode cX5_adds 26 = .ok (.goto (-24), 3) := by decide +kernel
theorem dX5_adds_29 : decode cX5_adds 29 = .ok (.aload_n 0, 1) := by decide +kernel
theorem dX5_adds_30 : decode cX5_adds 30 = .ok (.getfield 104, 3) := by decide +kernel
theorem dX5_adds_33 : decode cX5_adds 33 = .ok (.ifCond .le 19, 3) := by decide +kernel
theorem dX5_adds_36 : decode cX5_adds 36 = .ok (.aload_n 0, 1) := by decide +kernel
theorem dX5_adds_37 : decode cX5_adds 37 = .ok (.iconst 0, 1) := by decide +kernel
theorem dX5_adds_38 : decode cX5_adds 38 = .ok (.aload_n 0, 1) := by decide +kernel
theorem dX5_adds_39 : decode cX5_adds 39 = .ok (.getfield 104, 3) := by decide +kernel
theorem dX5_adds_42 : decode cX5_adds 42 = .ok (.invokevirtual 123, 3) := by decide +kernel
theorem dX5_adds_45 : decode cX5_adds 45 = .ok (.ifCond .eq 7, 3) := by decide +kernel
theorem dX5_adds_48 : decode cX5_adds 48 = .ok (.iconst 1, 1) := by decide +kernel
theorem dX5_adds_49 : decode cX5_adds 49 = .ok (.goto 4, 3) := by decide +kernel
theorem dX5_adds_52 : decode cX5_adds 52 = .ok (.iconst 0, 1) := by decide +kernel
theorem dX5_adds_53 : decode cX5_adds 53 = .ok (.istore_n 3, 1) := by decide +kernel
theorem dX5_adds_54 : decode cX5_adds 54 = .ok (.iconst 1, 1) := by decide +kernel
theorem dX5_adds_55 : decode cX5_adds 55 = .ok (.istore 4, 2) := by decide +kernel
theorem dX5_adds_57 : decode cX5_adds 57 = .ok (.iconst 0, 1) := by decide +kernel
theorem dX5_adds_58 : decode cX5_adds 58 = .ok (.istore 5, 2) := by decide +kernel
theorem dX5_adds_60 : decode cX5_adds 60 = .ok (.iload 5, 2) := by decide +kernel
theorem dX5_adds_62 : decode cX5_adds 62 = .ok (.iconst 4, 1) := by decide +kernel
theorem dX5_adds_63 : decode cX5_adds 63 = .ok (.if_icmp .ge 117, 3) := by decide +kernel
theorem dX5_adds_66 : decode cX5_adds 66 = .ok (.aload_n 0, 1) := by decide +kernel
theorem dX5_adds_67 : decode cX5_adds 67 = .ok (.aload_n 1, 1) := by decide +kernel
theorem dX5_adds_68 : decode cX5_adds 68 = .ok (.iload_n 2, 1) := by decide +kernel
theorem dX5_adds_69 : decode cX5_adds 69 = .ok (.iload 5, 2) := by decide +kernel
theorem dX5_adds_71 : decode cX5_adds 71 = .ok (.invokevirtual 127, 3) := by decide +kernel
theorem dX5_adds_74 : decode cX5_adds 74 = .ok (.lstore 6, 2) := by decide +kernel
theorem dX5_adds_76 : decode cX5_adds 76 = .ok (.iload 4, 2) := by decide +kernel
theorem dX5_adds_78 : decode cX5_adds 78 = .ok (.ifCond .eq 35, 3) := by decide +kernel
theorem dX5_adds_81 : decode cX5_adds 81 = .ok (.iload_n 3, 1) := by decide +kernel
theorem dX5_adds_82 : decode cX5_adds 82 = .ok (.ifCond .eq 20, 3) := by decide +kernel
theorem dX5_adds_85 : decode cX5_adds 85 = .ok (.lload 6, 2) := by decide +kernel
theorem dX5_adds_87 : decode cX5_adds 87 = .ok (.aload_n 0, 1) := by decide +kernel
theorem dX5_adds_88 : decode cX5_adds 88 = .ok (.getfield 52, 3) := by decide +kernel
theorem dX5_adds_91 : decode cX5_adds 91 = .ok (.iconst 0, 1) := by decide +kernel
theorem dX5_adds_92 : decode cX5_adds 92 = .ok (.laload, 1) := by decide +kernel
theorem dX5_adds_93 : decode cX5_adds 93 = .ok (.lrem, 1) := by decide +kernel
theorem dX5_adds_94 : decode cX5_adds 94 = .ok (.lconst 0, 1) := by decide +kernel
theorem dX5_adds_95 : decode cX5_adds 95 = .ok (.lcmp, 1) := by decide +kernel
theorem dX5_adds_96 : decode cX5_adds 96 = .ok (.ifCond .ne 17, 3) := by decide +kernel
theorem dX5_adds_99 : decode cX5_adds 99 = .ok (.goto 10, 3) := by decide +kernel
theorem dX5_adds_102 : decode cX5_adds 102 = .ok (.lload 6, 2) := by decide +kernel
theorem dX5_adds_104 : decode cX5_adds 104 = .ok (.lconst 0, 1) := by decide +kernel
theorem dX5_adds_105 : decode cX5_adds 105 = .ok (.lcmp, 1) := by decide +kernel
theorem dX5_adds_106 : decode cX5_adds 106 = .ok (.ifCond .ne 7, 3) := by decide +kernel
theorem dX5_adds_109 : decode cX5_adds 109 = .ok (.iconst 1, 1) := by decide +kernel
theorem dX5_adds_110 : decode cX5_adds 110 = .ok (.goto 4, 3) := by decide +kernel
theorem dX5_adds_113 : decode cX5_adds 113 = .ok (.iconst 0, 1) := by decide +kernel
theorem dX5_adds_114 : decode cX5_adds 114 = .ok (.istore 4, 2) := by decide +kernel
theorem dX5_adds_116 : decode cX5_adds 116 = .ok (.iconst 0, 1) := by decide +kernel
theorem dX5_adds_117 : decode cX5_adds 117 = .ok (.istore 8, 2) := by decide +kernel
theorem dX5_adds_119 : decode cX5_adds 119 = .ok (.iload 8, 2) := by decide +kernel
theorem dX5_adds_121 : decode cX5_adds 121 = .ok (.bipush 6, 2) := by decide +kernel
theorem dX5_adds_123 : decode cX5_adds 123 = .ok (.if_icmp .ge 51, 3) := by decide +kernel
theorem dX5_adds_126 : decode cX5_adds 126 = .ok (.iload 4, 2) := by decide +kernel
theorem dX5_adds_128 : decode cX5_adds 128 = .ok (.ifCond .eq 46, 3) := by decide +kernel
theorem dX5_adds_131 : decode cX5_adds 131 = .ok (.iload_n 3, 1) := by decide +kernel
theorem dX5_adds_132 : decode cX5_adds 132 = .ok (.ifCond .eq 42, 3) := by decide +kernel
theorem dX5_adds_135 : decode cX5_adds 135 = .ok (.aload_n 0, 1) := by decide +kernel
theorem dX5_adds_136 : decode cX5_adds 136 = .ok (.getfield 49, 3) := by decide +kernel
theorem dX5_adds_139 : decode cX5_adds 139 = .ok (.bipush 6, 2) := by decide +kernel
theorem dX5_adds_141 : decode cX5_adds 141 = .ok (.iload 5, 2) := by decide +kernel
theorem dX5_adds_143 : decode cX5_adds 143 = .ok (.imul, 1) := by decide +kernel
theorem dX5_adds_144 : decode cX5_adds 144 = .ok (.iload 8, 2) := by decide +kernel
theorem dX5_adds_146 : decode cX5_adds 146 = .ok (.iadd, 1) := by decide +kernel
theorem dX5_adds_147 : decode cX5_adds 147 = .ok (.dup2, 1) := by decide +kernel
theorem dX5_adds_148 : decode cX5_adds 148 = .ok (.laload, 1) := by decide +kernel
theorem dX5_adds_149 : decode cX5_adds 149 = .ok (.lload 6, 2) := by decide +kernel
theorem dX5_adds_151 : decode cX5_adds 151 = .ok (.aload_n 0, 1) := by decide +kernel
theorem dX5_adds_152 : decode cX5_adds 152 = .ok (.getfield 52, 3) := by decide +kernel
theorem dX5_adds_155 : decode cX5_adds 155 = .ok (.iconst 0, 1) := by decide +kernel
theorem dX5_adds_156 : decode cX5_adds 156 = .ok (.laload, 1) := by decide +kernel
theorem dX5_adds_157 : decode cX5_adds 157 = .ok (.ldiv, 1) := by decide +kernel
theorem dX5_adds_158 : decode cX5_adds 158 = .ok (.aload_n 0, 1) := by decide +kernel
theorem dX5_adds_159 : decode cX5_adds 159 = .ok (.getfield 46, 3) := by decide +kernel
theorem dX5_adds_162 : decode cX5_adds 162 = .ok (.iload 8, 2) := by decide +kernel
theorem dX5_adds_164 : decode cX5_adds 164 = .ok (.laload, 1) := by decide +kernel
theorem dX5_adds_165 : decode cX5_adds 165 = .ok (.lmul, 1) := by decide +kernel
theorem dX5_adds_166 : decode cX5_adds 166 = .ok (.lsub, 1) := by decide +kernel
theorem dX5_adds_167 : decode cX5_adds 167 = .ok (.lastore, 1) := by decide +kernel
theorem dX5_adds_168 : decode cX5_adds 168 = .ok (.iinc 8 1, 3) := by decide +kernel
theorem dX5_adds_171 : decode cX5_adds 171 = .ok (.goto (-52), 3) := by decide +kernel
theorem dX5_adds_174 : decode cX5_adds 174 = .ok (.iinc 5 1, 3) := by decide +kernel
theorem dX5_adds_177 : decode cX5_adds 177 = .ok (.goto (-117), 3) := by decide +kernel
theorem dX5_adds_180 : decode cX5_adds 180 = .ok (.iload_n 3, 1) := by decide +kernel
theorem dX5_adds_181 : decode cX5_adds 181 = .ok (.ifCond .eq 51, 3) := by decide +kernel
theorem dX5_adds_184 : decode cX5_adds 184 = .ok (.aload_n 0, 1) := by decide +kernel
theorem dX5_adds_185 : decode cX5_adds 185 = .ok (.dup, 1) := by decide +kernel
theorem dX5_adds_186 : decode cX5_adds 186 = .ok (.getfield 104, 3) := by decide +kernel
theorem dX5_adds_189 : decode cX5_adds 189 = .ok (.iconst 1, 1) := by decide +kernel
theorem dX5_adds_190 : decode cX5_adds 190 = .ok (.isub, 1) := by decide +kernel
theorem dX5_adds_191 : decode cX5_adds 191 = .ok (.putfield 104, 3) := by decide +kernel
theorem dX5_adds_194 : decode cX5_adds 194 = .ok (.iconst 0, 1) := by decide +kernel
theorem dX5_adds_195 : decode cX5_adds 195 = .ok (.istore 5, 2) := by decide +kernel
theorem dX5_adds_197 : decode cX5_adds 197 = .ok (.iload 5, 2) := by decide +kernel
theorem dX5_adds_199 : decode cX5_adds 199 = .ok (.bipush 6, 2) := by decide +kernel
theorem dX5_adds_201 : decode cX5_adds 201 = .ok (.aload_n 0, 1) := by decide +kernel
theorem dX5_adds_202 : decode cX5_adds 202 = .ok (.getfield 104, 3) := by decide +kernel
theorem dX5_adds_205 : decode cX5_adds 205 = .ok (.imul, 1) := by decide +kernel
theorem dX5_adds_206 : decode cX5_adds 206 = .ok (.if_icmp .ge 26, 3) := by decide +kernel
theorem dX5_adds_209 : decode cX5_adds 209 = .ok (.aload_n 0, 1) := by decide +kernel
theorem dX5_adds_210 : decode cX5_adds 210 = .ok (.getfield 46, 3) := by decide +kernel
theorem dX5_adds_213 : decode cX5_adds 213 = .ok (.iload 5, 2) := by decide +kernel
theorem dX5_adds_215 : decode cX5_adds 215 = .ok (.aload_n 0, 1) := by decide +kernel
theorem dX5_adds_216 : decode cX5_adds 216 = .ok (.getfield 46, 3) := by decide +kernel
theorem dX5_adds_219 : decode cX5_adds 219 = .ok (.iload 5, 2) := by decide +kernel
theorem dX5_adds_221 : decode cX5_adds 221 = .ok (.bipush 6, 2) := by decide +kernel
theorem dX5_adds_223 : decode cX5_adds 223 = .ok (.iadd, 1) := by decide +kernel
theorem dX5_adds_224 : decode cX5_adds 224 = .ok (.laload, 1) := by decide +kernel
theorem dX5_adds_225 : decode cX5_adds 225 = .ok (.lastore, 1) := by decide +kernel
theorem dX5_adds_226 : decode cX5_adds 226 = .ok (.iinc 5 1, 3) := by decide +kernel
theorem dX5_adds_229 : decode cX5_adds 229 = .ok (.goto (-32), 3) := by decide +kernel
theorem dX5_adds_232 : decode cX5_adds 232 = .ok (.aload_n 0, 1) := by decide +kernel
theorem dX5_adds_233 : decode cX5_adds 233 = .ok (.invokevirtual 130, 3) := by decide +kernel
theorem dX5_adds_236 : decode cX5_adds 236 = .ok (.iload 4, 2) := by decide +kernel
theorem dX5_adds_238 : decode cX5_adds 238 = .ok (.ireturn, 1) := by decide +kernel
theorem dX5_headOf_0 : decode cX5_headOf 0 = .ok (.iconst 0, 1) := by decide +kernel
theorem dX5_headOf_1 : decode cX5_headOf 1 = .ok (.istore_n 2, 1) := by decide +kernel
theorem dX5_headOf_2 : decode cX5_headOf 2 = .ok (.iload_n 2, 1) := by decide +kernel
theorem dX5_headOf_3 : decode cX5_headOf 3 = .ok (.bipush 6, 2) := by decide +kernel
theorem dX5_headOf_5 : decode cX5_headOf 5 = .ok (.if_icmp .ge 25, 3) := by decide +kernel
theorem dX5_headOf_8 : decode cX5_headOf 8 = .ok (.aload_n 0, 1) := by decide +kernel
theorem dX5_headOf_9 : decode cX5_headOf 9 = .ok (.getfield 46, 3) := by decide +kernel
theorem dX5_headOf_12 : decode cX5_headOf 12 = .ok (.bipush 6, 2) := by decide +kernel
theorem dX5_headOf_14 : decode cX5_headOf 14 = .ok (.iload_n 1, 1) := by decide +kernel
theorem dX5_headOf_15 : decode cX5_headOf 15 = .ok (.imul, 1) := by decide +kernel
theorem dX5_headOf_16 : decode cX5_headOf 16 = .ok (.iload_n 2, 1) := by decide +kernel
theorem dX5_headOf_17 : decode cX5_headOf 17 = .ok (.iadd, 1) := by decide +kernel
theorem dX5_headOf_18 : decode cX5_headOf 18 = .ok (.laload, 1) := by decide +kernel
theorem dX5_headOf_19 : decode cX5_headOf 19 = .ok (.lconst 0, 1) := by decide +kernel
theorem dX5_headOf_20 : decode cX5_headOf 20 = .ok (.lcmp, 1) := by decide +kernel
theorem dX5_headOf_21 : decode cX5_headOf 21 = .ok (.ifCond .ne 9, 3) := by decide +kernel
theorem dX5_headOf_24 : decode cX5_headOf 24 = .ok (.iinc 2 1, 3) := by decide +kernel
theorem dX5_headOf_27 : decode cX5_headOf 27 = .ok (.goto (-25), 3) := by decide +kernel
theorem dX5_headOf_30 : decode cX5_headOf 30 = .ok (.iload_n 2, 1) := by decide +kernel
theorem dX5_headOf_31 : decode cX5_headOf 31 = .ok (.ireturn, 1) := by decide +kernel
set_option maxRecDepth 20000 in
theorem ggX5_orders_X5_gathers : GoodIn wsX5_orders wsX5_gathers := goodIn_r _ [10, 2, 11, 12, 9, 13, 14, 15, 16, 17, 3, 18, 19, 20, 21, 29, 30, 31, 32, 33, 34, 35, 36, 37, 38, 39, 40, 41, 42, 43, 44, 45, 46, 47, 48, 49] (by decide +kernel) (by decide +kernel)
set_option maxRecDepth 20000 in
theorem gX5_orders_X5_gathers : GoodIn wsX5_orders (wsV RX5 123 RX5 yX5_gathers wsX5_gathers) := goodIn_app (goodIn_of _ (by decide +kernel)) ggX5_orders_X5_gathers
set_option maxRecDepth 20000 in
theorem ggX5_orders_X5_takes : GoodIn wsX5_orders wsX5_takes := goodIn_r _ [21, 3, 2, 29, 30, 31, 32, 33, 34, 35, 36, 37, 38, 39, 40, 41, 42, 43, 44, 45, 46, 47, 48, 49] (by decide +kernel) (by decide +kernel)
set_option maxRecDepth 20000 in
theorem gX5_orders_X5_takes : GoodIn wsX5_orders (wsV RX5 115 RX5 yX5_takes wsX5_takes) := goodIn_app (goodIn_of _ (by decide +kernel)) ggX5_orders_X5_takes
set_option maxRecDepth 20000 in
theorem ggX5_orders_X5_floor : GoodIn wsX5_orders wsX5_floor := goodIn_r _ [24] (by decide +kernel) (by decide +kernel)
set_option maxRecDepth 20000 in
theorem gX5_orders_X5_floor : GoodIn wsX5_orders (va_wsS RX5 135 yX5_floor wsX5_floor) := goodIn_app (goodIn_of _ (by decide +kernel)) ggX5_orders_X5_floor
set_option maxRecDepth 20000 in
theorem ggX5_orders_X5_headOf : GoodIn wsX5_orders wsX5_headOf := goodIn_r _ [28, 3, 29, 30, 31, 32, 33, 34, 35, 36, 37, 38, 39, 40, 41, 42, 43, 44, 45, 46, 47, 48, 49] (by decide +kernel) (by decide +kernel)
set_option maxRecDepth 20000 in
theorem gX5_orders_X5_headOf : GoodIn wsX5_orders (wsV RX5 139 RX5 yX5_headOf wsX5_headOf) := goodIn_app (goodIn_of _ (by decide +kernel)) ggX5_orders_X5_headOf
theorem dX5_orders_0 : decode cX5_orders 0 = .ok (.iconst 0, 1) := by decide +kernel
theorem dX5_orders_1 : decode cX5_orders 1 = .ok (.istore_n 1, 1) := by decide +kernel
theorem dX5_orders_2 : decode cX5_orders 2 = .ok (.iconst 0, 1) := by decide +kernel
theorem dX5_orders_3 : decode cX5_orders 3 = .ok (.istore_n 2, 1) := by decide +kernel
theorem dX5_orders_4 : decode cX5_orders 4 = .ok (.iload_n 2, 1) := by decide +kernel
theorem dX5_orders_5 : decode cX5_orders 5 = .ok (.bipush 6, 2) := by decide +kernel
theorem dX5_orders_7 : decode cX5_orders 7 = .ok (.if_icmp .ge 121, 3) := by decide +kernel
theorem dX5_orders_10 : decode cX5_orders 10 = .ok (.iload_n 1, 1) := by decide +kernel
theorem dX5_orders_11 : decode cX5_orders 11 = .ok (.aload_n 0, 1) := by decide +kernel
theorem dX5_orders_12 : decode cX5_orders 12 = .ok (.getfield 104, 3) := by decide +kernel
theorem dX5_orders_15 : decode cX5_orders 15 = .ok (.if_icmp .ge 113, 3) := by decide +kernel
theorem dX5_orders_18 : decode cX5_orders 18 = .ok (.iconst 0, 1) := by decide +kernel
theorem dX5_orders_19 : decode cX5_orders 19 = .ok (.istore_n 3, 1) := by decide +kernel
theorem dX5_orders_20 : decode cX5_orders 20 = .ok (.iload_n 3, 1) := by decide +kernel
theorem dX5_orders_21 : decode cX5_orders 21 = .ok (.aload_n 0, 1) := by decide +kernel
theorem dX5_orders_22 : decode cX5_orders 22 = .ok (.getfield 104, 3) := by decide +kernel
theorem dX5_orders_25 : decode cX5_orders 25 = .ok (.if_icmp .ge 26, 3) := by decide +kernel
theorem dX5_orders_28 : decode cX5_orders 28 = .ok (.aload_n 0, 1) := by decide +kernel
theorem dX5_orders_29 : decode cX5_orders 29 = .ok (.getfield 52, 3) := by decide +kernel
theorem dX5_orders_32 : decode cX5_orders 32 = .ok (.iload_n 3, 1) := by decide +kernel
theorem dX5_orders_33 : decode cX5_orders 33 = .ok (.aload_n 0, 1) := by decide +kernel
theorem dX5_orders_34 : decode cX5_orders 34 = .ok (.getfield 46, 3) := by decide +kernel
theorem dX5_orders_37 : decode cX5_orders 37 = .ok (.bipush 6, 2) := by decide +kernel
theorem dX5_orders_39 : decode cX5_orders 39 = .ok (.iload_n 3, 1) := by decide +kernel
theorem dX5_orders_40 : decode cX5_orders 40 = .ok (.imul, 1) := by decide +kernel
theorem dX5_orders_41 : decode cX5_orders 41 = .ok (.iload_n 2, 1) := by decide +kernel
theorem dX5_orders_42 : decode cX5_orders 42 = .ok (.iadd, 1) := by decide +kernel
theorem dX5_orders_43 : decode cX5_orders 43 = .ok (.laload, 1) := by decide +kernel
theorem dX5_orders_44 : decode cX5_orders 44 = .ok (.lastore, 1) := by decide +kernel
theorem dX5_orders_45 : decode cX5_orders 45 = .ok (.iinc 3 1, 3) := by decide +kernel
theorem dX5_orders_48 : decode cX5_orders 48 = .ok (.goto (-28), 3) := by decide +kernel
theorem dX5_orders_51 : decode cX5_orders 51 = .ok (.aload_n 0, 1) := by decide +kernel
theorem dX5_orders_52 : decode cX5_orders 52 = .ok (.iload_n 1, 1) := by decide +kernel
theorem dX5_orders_53 : decode cX5_orders 53 = .ok (.aload_n 0, 1) := by decide +kernel
theorem dX5_orders_54 : decode cX5_orders 54 = .ok (.getfield 104, 3) := by decide +kernel
theorem dX5_orders_57 : decode cX5_orders 57 = .ok (.iload_n 1, 1) := by decide +kernel
theorem dX5_orders_58 : decode cX5_orders 58 = .ok (.isub, 1) := by decide +kernel
theorem dX5_orders_59 : decode cX5_orders 59 = .ok (.invokevirtual 123, 3) := by decide +kernel
theorem dX5_orders_62 : decode cX5_orders 62 = .ok (.ifCond .eq 60, 3) := by decide +kernel
theorem dX5_orders_65 : decode cX5_orders 65 = .ok (.aload_n 0, 1) := by decide +kernel
theorem dX5_orders_66 : decode cX5_orders 66 = .ok (.getfield 52, 3) := by decide +kernel
theorem dX5_orders_69 : decode cX5_orders 69 = .ok (.iload_n 1, 1) := by decide +kernel
theorem dX5_orders_70 : decode cX5_orders 70 = .ok (.laload, 1) := by decide +kernel
theorem dX5_orders_71 : decode cX5_orders 71 = .ok (.lconst 0, 1) := by decide +kernel
theorem dX5_orders_72 : decode cX5_orders 72 = .ok (.lcmp, 1) := by decide +kernel
theorem dX5_orders_73 : decode cX5_orders 73 = .ok (.ifCond .ge 12, 3) := by decide +kernel
theorem dX5_orders_76 : decode cX5_orders 76 = .ok (.aload_n 0, 1) := by decide +kernel
theorem dX5_orders_77 : decode cX5_orders 77 = .ok (.iload_n 1, 1) := by decide +kernel
theorem dX5_orders_78 : decode cX5_orders 78 = .ok (.iload_n 1, 1) := by decide +kernel
theorem dX5_orders_79 : decode cX5_orders 79 = .ok (.ldc2_w 133, 3) := by decide +kernel
theorem dX5_orders_82 : decode cX5_orders 82 = .ok (.invokevirtual 115, 3) := by decide +kernel
theorem dX5_orders_85 : decode cX5_orders 85 = .ok (.iconst 0, 1) := by decide +kernel
theorem dX5_orders_86 : decode cX5_orders 86 = .ok (.istore_n 3, 1) := by decide +kernel
theorem dX5_orders_87 : decode cX5_orders 87 = .ok (.iload_n 3, 1) := by decide +kernel
theorem dX5_orders_88 : decode cX5_orders 88 = .ok (.iload_n 1, 1) := by decide +kernel
theorem dX5_orders_89 : decode cX5_orders 89 = .ok (.if_icmp .ge 30, 3) := by decide +kernel
theorem dX5_orders_92 : decode cX5_orders 92 = .ok (.aload_n 0, 1) := by decide +kernel
theorem dX5_orders_93 : decode cX5_orders 93 = .ok (.iload_n 3, 1) := by decide +kernel
theorem dX5_orders_94 : decode cX5_orders 94 = .ok (.iload_n 1, 1) := by decide +kernel
theorem dX5_orders_95 : decode cX5_orders 95 = .ok (.aload_n 0, 1) := by decide +kernel
theorem dX5_orders_96 : decode cX5_orders 96 = .ok (.getfield 52, 3) := by decide +kernel
theorem dX5_orders_99 : decode cX5_orders 99 = .ok (.iload_n 3, 1) := by decide +kernel
theorem dX5_orders_100 : decode cX5_orders 100 = .ok (.laload, 1) := by decide +kernel
theorem dX5_orders_101 : decode cX5_orders 101 = .ok (.aload_n 0, 1) := by decide +kernel
theorem dX5_orders_102 : decode cX5_orders 102 = .ok (.getfield 52, 3) := by decide +kernel
theorem dX5_orders_105 : decode cX5_orders 105 = .ok (.iload_n 1, 1) := by decide +kernel
theorem dX5_orders_106 : decode cX5_orders 106 = .ok (.laload, 1) := by decide +kernel
theorem dX5_orders_107 : decode cX5_orders 107 = .ok (.invokestatic 135, 3) := by decide +kernel
theorem dX5_orders_110 : decode cX5_orders 110 = .ok (.invokevirtual 115, 3) := by decide +kernel
theorem dX5_orders_113 : decode cX5_orders 113 = .ok (.iinc 3 1, 3) := by decide +kernel
theorem dX5_orders_116 : decode cX5_orders 116 = .ok (.goto (-29), 3) := by decide +kernel
theorem dX5_orders_119 : decode cX5_orders 119 = .ok (.iinc 1 1, 3) := by decide +kernel
theorem dX5_orders_122 : decode cX5_orders 122 = .ok (.iinc 2 1, 3) := by decide +kernel
theorem dX5_orders_125 : decode cX5_orders 125 = .ok (.goto (-121), 3) := by decide +kernel
theorem dX5_orders_128 : decode cX5_orders 128 = .ok (.iconst 0, 1) := by decide +kernel
theorem dX5_orders_129 : decode cX5_orders 129 = .ok (.istore_n 2, 1) := by decide +kernel
theorem dX5_orders_130 : decode cX5_orders 130 = .ok (.iload_n 2, 1) := by decide +kernel
theorem dX5_orders_131 : decode cX5_orders 131 = .ok (.aload_n 0, 1) := by decide +kernel
theorem dX5_orders_132 : decode cX5_orders 132 = .ok (.getfield 104, 3) := by decide +kernel
theorem dX5_orders_135 : decode cX5_orders 135 = .ok (.if_icmp .ge 105, 3) := by decide +kernel
theorem dX5_orders_138 : decode cX5_orders 138 = .ok (.aload_n 0, 1) := by decide +kernel
theorem dX5_orders_139 : decode cX5_orders 139 = .ok (.iload_n 2, 1) := by decide +kernel
theorem dX5_orders_140 : decode cX5_orders 140 = .ok (.invokevirtual 139, 3) := by decide +kernel
theorem dX5_orders_143 : decode cX5_orders 143 = .ok (.istore_n 3, 1) := by decide +kernel
theorem dX5_orders_144 : decode cX5_orders 144 = .ok (.iconst 0, 1) := by decide +kernel
theorem dX5_orders_145 : decode cX5_orders 145 = .ok (.istore 4, 2) := by decide +kernel
theorem dX5_orders_147 : decode cX5_orders 147 = .ok (.iload 4, 2) := by decide +kernel
theorem dX5_orders_149 : decode cX5_orders 149 = .ok (.iconst 4, 1) := by decide +kernel
theorem dX5_orders_150 : decode cX5_orders 150 = .ok (.if_icmp .ge 84, 3) := by decide +kernel
theorem dX5_orders_153 : decode cX5_orders 153 = .ok (.aload_n 0, 1) := by decide +kernel
theorem dX5_orders_154 : decode cX5_orders 154 = .ok (.getfield 49, 3) := by decide +kernel
theorem dX5_orders_157 : decode cX5_orders 157 = .ok (.bipush 6, 2) := by decide +kernel
theorem dX5_orders_159 : decode cX5_orders 159 = .ok (.iload 4, 2) := by decide +kernel
theorem dX5_orders_161 : decode cX5_orders 161 = .ok (.imul, 1) := by decide +kernel
theorem dX5_orders_162 : decode cX5_orders 162 = .ok (.iload_n 3, 1) := by decide +kernel
theorem dX5_orders_163 : decode cX5_orders 163 = .ok (.iadd, 1) := by decide +kernel
theorem dX5_orders_164 : decode cX5_orders 164 = .ok (.laload, 1) := by decide +kernel
theorem dX5_orders_165 : decode cX5_orders 165 = .ok (.aload_n 0, 1) := by decide +kernel
theorem dX5_orders_166 : decode cX5_orders 166 = .ok (.getfield 46, 3) := by decide +kernel
theorem dX5_orders_169 : decode cX5_orders 169 = .ok (.bipush 6, 2) := by decide +kernel
theorem dX5_orders_171 : decode cX5_orders 171 = .ok (.iload_n 2, 1) := by decide +kernel
theorem dX5_orders_172 : decode cX5_orders 172 = .ok (.imul, 1) := by decide +kernel
theorem dX5_orders_173 : decode cX5_orders 173 = .ok (.iload_n 3, 1) := by decide +kernel
theorem dX5_orders_174 : decode cX5_orders 174 = .ok (.iadd, 1) := by decide +kernel
theorem dX5_orders_175 : decode cX5_orders 175 = .ok (.laload, 1) := by decide +kernel
theorem dX5_orders_176 : decode cX5_orders 176 = .ok (.invokestatic 135, 3) := by decide +kernel
theorem dX5_orders_179 : decode cX5_orders 179 = .ok (.lstore 5, 2) := by decide +kernel
theorem dX5_orders_181 : decode cX5_orders 181 = .ok (.iconst 0, 1) := by decide +kernel
theorem dX5_orders_182 : decode cX5_orders 182 = .ok (.istore 7, 2) := by decide +kernel
theorem dX5_orders_184 : decode cX5_orders 184 = .ok (.iload 7, 2) := by decide +kernel
theorem dX5_orders_186 : decode cX5_orders 186 = .ok (.bipush 6, 2) := by decide +kernel
theorem dX5_orders_188 : decode cX5_orders 188 = .ok (.if_icmp .ge 40, 3) := by decide +kernel
theorem dX5_orders_191 : decode cX5_orders 191 = .ok (.aload_n 0, 1) := by decide +kernel
theorem dX5_orders_192 : decode cX5_orders 192 = .ok (.getfield 49, 3) := by decide +kernel
theorem dX5_orders_195 : decode cX5_orders 195 = .ok (.bipush 6, 2) := by decide +kernel
theorem dX5_orders_197 : decode cX5_orders 197 = .ok (.iload 4, 2) := by decide +kernel
theorem dX5_orders_199 : decode cX5_orders 199 = .ok (.imul, 1) := by decide +kernel
theorem dX5_orders_200 : decode cX5_orders 200 = .ok (.iload 7, 2) := by decide +kernel
theorem dX5_orders_202 : decode cX5_orders 202 = .ok (.iadd, 1) := by decide +kernel
theorem dX5_orders_203 : decode cX5_orders 203 = .ok (.dup2, 1) := by decide +kernel
theorem dX5_orders_204 : decode cX5_orders 204 = .ok (.laload, 1) := by decide +kernel
theorem dX5_orders_205 : decode cX5_orders 205 = .ok (.lload 5, 2) := by decide +kernel
theorem dX5_orders_207 : decode cX5_orders 207 = .ok (.aload_n 0, 1) := by decide +kernel
theorem dX5_orders_208 : decode cX5_orders 208 = .ok (.getfield 46, 3) := by decide +kernel
theorem dX5_orders_211 : decode cX5_orders 211 = .ok (.bipush 6, 2) := by decide +kernel
theorem dX5_orders_213 : decode cX5_orders 213 = .ok (.iload_n 2, 1) := by decide +kernel
theorem dX5_orders_214 : decode cX5_orders 214 = .ok (.imul, 1) := by decide +kernel
theorem dX5_orders_215 : decode cX5_orders 215 = .ok (.iload 7, 2) := by decide +kernel
theorem dX5_orders_217 : decode cX5_orders 217 = .ok (.iadd, 1) := by decide +kernel
theorem dX5_orders_218 : decode cX5_orders 218 = .ok (.laload, 1) := by decide +kernel
theorem dX5_orders_219 : decode cX5_orders 219 = .ok (.lmul, 1) := by decide +kernel
theorem dX5_orders_220 : decode cX5_orders 220 = .ok (.lsub, 1) := by decide +kernel
theorem dX5_orders_221 : decode cX5_orders 221 = .ok (.lastore, 1) := by decide +kernel
theorem dX5_orders_222 : decode cX5_orders 222 = .ok (.iinc 7 1, 3) := by decide +kernel
theorem dX5_orders_225 : decode cX5_orders 225 = .ok (.goto (-41), 3) := by decide +kernel
theorem dX5_orders_228 : decode cX5_orders 228 = .ok (.iinc 4 1, 3) := by decide +kernel
theorem dX5_orders_231 : decode cX5_orders 231 = .ok (.goto (-84), 3) := by decide +kernel
theorem dX5_orders_234 : decode cX5_orders 234 = .ok (.iinc 2 1, 3) := by decide +kernel
theorem dX5_orders_237 : decode cX5_orders 237 = .ok (.goto (-107), 3) := by decide +kernel
theorem dX5_orders_240 : decode cX5_orders 240 = .ok (.return_, 1) := by decide +kernel
set_option maxRecDepth 20000 in
theorem ggX5_solves_X5_startsFree : GoodIn wsX5_solves wsX5_startsFree := goodIn_r _ [6, 7, 8, 9, 53, 54, 55, 56, 57, 58, 59, 60, 61, 62, 63, 64, 65, 66, 67, 68, 69, 70, 71, 72, 73] (by decide +kernel) (by decide +kernel)
set_option maxRecDepth 20000 in
theorem gX5_solves_X5_startsFree : GoodIn wsX5_solves (wsV RX5 143 RX5 yX5_startsFree wsX5_startsFree) := goodIn_app (goodIn_of _ (by decide +kernel)) ggX5_solves_X5_startsFree
set_option maxRecDepth 20000 in
theorem ggX5_solves_X5_has : GoodIn wsX5_solves wsX5_has := goodIn_r _ [12] (by decide +kernel) (by decide +kernel)
set_option maxRecDepth 20000 in
theorem gX5_solves_X5_has : GoodIn wsX5_solves (va_wsS RX5 146 yX5_has wsX5_has) := goodIn_app (goodIn_of _ (by decide +kernel)) ggX5_solves_X5_has
set_option maxRecDepth 20000 in
theorem ggX5_solves_X5_adds : GoodIn wsX5_solves wsX5_adds := goodIn_r _ [16, 7, 17, 9, 8, 18, 19, 20, 5, 21, 22, 23, 24, 25, 26, 27, 28, 29, 30, 31, 32, 33, 34, 35, 36, 37, 38, 39, 40, 41, 42, 43, 44, 45, 46, 47, 48, 49, 50, 51, 52, 53, 54, 55, 56, 57, 58, 59, 60, 61, 62, 63, 64, 65, 66, 67, 68, 69, 70, 71, 72, 73] (by decide +kernel) (by decide +kernel)
set_option maxRecDepth 20000 in
theorem gX5_solves_X5_adds : GoodIn wsX5_solves (wsV RX5 149 RX5 yX5_adds wsX5_adds) := goodIn_app (goodIn_of _ (by decide +kernel)) ggX5_solves_X5_adds
theorem dX5_solves_0 : decode cX5_solves 0 = .ok (.aload_n 0, 1) := by decide +kernel
theorem dX5_solves_1 : decode cX5_solves 1 = .ok (.invokevirtual 143, 3) := by decide +kernel
theorem dX5_solves_4 : decode cX5_solves 4 = .ok (.iconst 0, 1) := by decide +kernel
theorem dX5_solves_5 : decode cX5_solves 5 = .ok (.istore_n 2, 1) := by decide +kernel
theorem dX5_solves_6 : decode cX5_solves 6 = .ok (.iload_n 2, 1) := by decide +kernel
theorem dX5_solves_7 : decode cX5_solves 7 = .ok (.aload_n 0, 1) := by decide +kernel
theorem dX5_solves_8 : decode cX5_solves 8 = .ok (.getfield 17, 3) := by decide +kernel
theorem dX5_solves_11 : decode cX5_solves 11 = .ok (.iconst 0, 1) := by decide +kernel
theorem dX5_solves_12 : decode cX5_solves 12 = .ok (.iaload, 1) := by decide +kernel
theorem dX5_solves_13 : decode cX5_solves 13 = .ok (.if_icmp .ge 32, 3) := by decide +kernel
theorem dX5_solves_16 : decode cX5_solves 16 = .ok (.iload_n 1, 1) := by decide +kernel
theorem dX5_solves_17 : decode cX5_solves 17 = .ok (.iload_n 2, 1) := by decide +kernel
theorem dX5_solves_18 : decode cX5_solves 18 = .ok (.invokestatic 146, 3) := by decide +kernel
theorem dX5_solves_21 : decode cX5_solves 21 = .ok (.ifCond .eq 18, 3) := by decide +kernel
theorem dX5_solves_24 : decode cX5_solves 24 = .ok (.aload_n 0, 1) := by decide +kernel
theorem dX5_solves_25 : decode cX5_solves 25 = .ok (.aload_n 0, 1) := by decide +kernel
theorem dX5_solves_26 : decode cX5_solves 26 = .ok (.getfield 17, 3) := by decide +kernel
theorem dX5_solves_29 : decode cX5_solves 29 = .ok (.iconst 1, 1) := by decide +kernel
theorem dX5_solves_30 : decode cX5_solves 30 = .ok (.bipush 10, 2) := by decide +kernel
theorem dX5_solves_32 : decode cX5_solves 32 = .ok (.iload_n 2, 1) := by decide +kernel
theorem dX5_solves_33 : decode cX5_solves 33 = .ok (.imul, 1) := by decide +kernel
theorem dX5_solves_34 : decode cX5_solves 34 = .ok (.iadd, 1) := by decide +kernel
theorem dX5_solves_35 : decode cX5_solves 35 = .ok (.invokevirtual 149, 3) := by decide +kernel
theorem dX5_solves_38 : decode cX5_solves 38 = .ok (.pop, 1) := by decide +kernel
theorem dX5_solves_39 : decode cX5_solves 39 = .ok (.iinc 2 1, 3) := by decide +kernel
theorem dX5_solves_42 : decode cX5_solves 42 = .ok (.goto (-36), 3) := by decide +kernel
theorem dX5_solves_45 : decode cX5_solves 45 = .ok (.return_, 1) := by decide +kernel
theorem dX5_allOf_0 : decode cX5_allOf 0 = .ok (.iconst 1, 1) := by decide +kernel
theorem dX5_allOf_1 : decode cX5_allOf 1 = .ok (.aload_n 0, 1) := by decide +kernel
theorem dX5_allOf_2 : decode cX5_allOf 2 = .ok (.getfield 17, 3) := by decide +kernel
theorem dX5_allOf_5 : decode cX5_allOf 5 = .ok (.iconst 0, 1) := by decide +kernel
theorem dX5_allOf_6 : decode cX5_allOf 6 = .ok (.iaload, 1) := by decide +kernel
theorem dX5_allOf_7 : decode cX5_allOf 7 = .ok (.ishl, 1) := by decide +kernel
theorem dX5_allOf_8 : decode cX5_allOf 8 = .ok (.iconst 1, 1) := by decide +kernel
theorem dX5_allOf_9 : decode cX5_allOf 9 = .ok (.isub, 1) := by decide +kernel
theorem dX5_allOf_10 : decode cX5_allOf 10 = .ok (.ireturn, 1) := by decide +kernel
set_option maxRecDepth 20000 in
theorem ggX5_isTrue_X5_sumOf : GoodIn wsX5_isTrue wsX5_sumOf := goodIn_r _ [6, 7, 13, 14, 15, 16, 17, 18, 19, 20, 21, 22, 23, 24, 25, 26, 27, 28, 29, 30, 31, 32, 33] (by decide +kernel) (by decide +kernel)
set_option maxRecDepth 20000 in
theorem gX5_isTrue_X5_sumOf : GoodIn wsX5_isTrue (wsV RX5 119 RX5 yX5_sumOf wsX5_sumOf) := goodIn_app (goodIn_of _ (by decide +kernel)) ggX5_isTrue_X5_sumOf
set_option maxRecDepth 20000 in
theorem ggX5_isTrue_X5_restOf : GoodIn wsX5_isTrue wsX5_restOf := goodIn_r _ [11, 12, 13, 14, 15, 16, 17, 18, 19, 20, 21, 22, 23, 24, 25, 26, 27, 28, 29, 30, 31, 32, 33] (by decide +kernel) (by decide +kernel)
set_option maxRecDepth 20000 in
theorem gX5_isTrue_X5_restOf : GoodIn wsX5_isTrue (wsV RX5 127 RX5 yX5_restOf wsX5_restOf) := goodIn_app (goodIn_of _ (by decide +kernel)) ggX5_isTrue_X5_restOf
theorem dX5_isTrue_0 : decode cX5_isTrue 0 = .ok (.iconst 1, 1) := by decide +kernel
theorem dX5_isTrue_1 : decode cX5_isTrue 1 = .ok (.istore_n 3, 1) := by decide +kernel
theorem dX5_isTrue_2 : decode cX5_isTrue 2 = .ok (.iconst 0, 1) := by decide +kernel
theorem dX5_isTrue_3 : decode cX5_isTrue 3 = .ok (.istore 4, 2) := by decide +kernel
theorem dX5_isTrue_5 : decode cX5_isTrue 5 = .ok (.iload 4, 2) := by decide +kernel
theorem dX5_isTrue_7 : decode cX5_isTrue 7 = .ok (.aload_n 0, 1) := by decide +kernel
theorem dX5_isTrue_8 : decode cX5_isTrue 8 = .ok (.getfield 104, 3) := by decide +kernel
theorem dX5_isTrue_11 : decode cX5_isTrue 11 = .ok (.if_icmp .ge 32, 3) := by decide +kernel
theorem dX5_isTrue_14 : decode cX5_isTrue 14 = .ok (.iload_n 3, 1) := by decide +kernel
theorem dX5_isTrue_15 : decode cX5_isTrue 15 = .ok (.ifCond .eq 20, 3) := by decide +kernel
theorem dX5_isTrue_18 : decode cX5_isTrue 18 = .ok (.aload_n 0, 1) := by decide +kernel
theorem dX5_isTrue_19 : decode cX5_isTrue 19 = .ok (.aload_n 1, 1) := by decide +kernel
theorem dX5_isTrue_20 : decode cX5_isTrue 20 = .ok (.iload_n 2, 1) := by decide +kernel
theorem dX5_isTrue_21 : decode cX5_isTrue 21 = .ok (.iload 4, 2) := by decide +kernel
theorem dX5_isTrue_23 : decode cX5_isTrue 23 = .ok (.invokevirtual 119, 3) := by decide +kernel
theorem dX5_isTrue_26 : decode cX5_isTrue 26 = .ok (.lconst 0, 1) := by decide +kernel
theorem dX5_isTrue_27 : decode cX5_isTrue 27 = .ok (.lcmp, 1) := by decide +kernel
theorem dX5_isTrue_28 : decode cX5_isTrue 28 = .ok (.ifCond .ne 7, 3) := by decide +kernel
theorem dX5_isTrue_31 : decode cX5_isTrue 31 = .ok (.iconst 1, 1) := by decide +kernel
theorem dX5_isTrue_32 : decode cX5_isTrue 32 = .ok (.goto 4, 3) := by decide +kernel
theorem dX5_isTrue_35 : decode cX5_isTrue 35 = .ok (.iconst 0, 1) := by decide +kernel
theorem dX5_isTrue_36 : decode cX5_isTrue 36 = .ok (.istore_n 3, 1) := by decide +kernel
theorem dX5_isTrue_37 : decode cX5_isTrue 37 = .ok (.iinc 4 1, 3) := by decide +kernel
theorem dX5_isTrue_40 : decode cX5_isTrue 40 = .ok (.goto (-35), 3) := by decide +kernel
theorem dX5_isTrue_43 : decode cX5_isTrue 43 = .ok (.iconst 0, 1) := by decide +kernel
theorem dX5_isTrue_44 : decode cX5_isTrue 44 = .ok (.istore 4, 2) := by decide +kernel
theorem dX5_isTrue_46 : decode cX5_isTrue 46 = .ok (.iload 4, 2) := by decide +kernel
theorem dX5_isTrue_48 : decode cX5_isTrue 48 = .ok (.iconst 4, 1) := by decide +kernel
theorem dX5_isTrue_49 : decode cX5_isTrue 49 = .ok (.if_icmp .ge 32, 3) := by decide +kernel
theorem dX5_isTrue_52 : decode cX5_isTrue 52 = .ok (.iload_n 3, 1) := by decide +kernel
theorem dX5_isTrue_53 : decode cX5_isTrue 53 = .ok (.ifCond .eq 20, 3) := by decide +kernel
theorem dX5_isTrue_56 : decode cX5_isTrue 56 = .ok (.aload_n 0, 1) := by decide +kernel
theorem dX5_isTrue_57 : decode cX5_isTrue 57 = .ok (.aload_n 1, 1) := by decide +kernel
theorem dX5_isTrue_58 : decode cX5_isTrue 58 = .ok (.iload_n 2, 1) := by decide +kernel
theorem dX5_isTrue_59 : decode cX5_isTrue 59 = .ok (.iload 4, 2) := by decide +kernel
theorem dX5_isTrue_61 : decode cX5_isTrue 61 = .ok (.invokevirtual 127, 3) := by decide +kernel
theorem dX5_isTrue_64 : decode cX5_isTrue 64 = .ok (.lconst 0, 1) := by decide +kernel
theorem dX5_isTrue_65 : decode cX5_isTrue 65 = .ok (.lcmp, 1) := by decide +kernel
theorem dX5_isTrue_66 : decode cX5_isTrue 66 = .ok (.ifCond .ne 7, 3) := by decide +kernel
theorem dX5_isTrue_69 : decode cX5_isTrue 69 = .ok (.iconst 1, 1) := by decide +kernel
theorem dX5_isTrue_70 : decode cX5_isTrue 70 = .ok (.goto 4, 3) := by decide +kernel
theorem dX5_isTrue_73 : decode cX5_isTrue 73 = .ok (.iconst 0, 1) := by decide +kernel
theorem dX5_isTrue_74 : decode cX5_isTrue 74 = .ok (.istore_n 3, 1) := by decide +kernel
theorem dX5_isTrue_75 : decode cX5_isTrue 75 = .ok (.iinc 4 1, 3) := by decide +kernel
theorem dX5_isTrue_78 : decode cX5_isTrue 78 = .ok (.goto (-32), 3) := by decide +kernel
theorem dX5_isTrue_81 : decode cX5_isTrue 81 = .ok (.iload_n 3, 1) := by decide +kernel
theorem dX5_isTrue_82 : decode cX5_isTrue 82 = .ok (.ireturn, 1) := by decide +kernel
set_option maxRecDepth 20000 in
theorem ggX5_isSpare_X5_allOf : GoodIn wsX5_isSpare wsX5_allOf := goodIn_r _ [6, 1, 65, 66, 67, 68, 69, 70, 71, 72, 73, 74, 75, 76, 77, 78, 79, 80, 81, 82, 83, 84, 85] (by decide +kernel) (by decide +kernel)
set_option maxRecDepth 20000 in
theorem gX5_isSpare_X5_allOf : GoodIn wsX5_isSpare (wsV RX5 153 RX5 yX5_allOf wsX5_allOf) := goodIn_app (goodIn_of _ (by decide +kernel)) ggX5_isSpare_X5_allOf
set_option maxRecDepth 20000 in
theorem ggX5_isSpare_X5_solves : GoodIn wsX5_isSpare wsX5_solves := goodIn_r _ [10, 1, 11, 12, 13, 5, 14, 15, 16, 17, 18, 19, 20, 21, 22, 23, 24, 25, 26, 27, 28, 29, 30, 31, 32, 33, 34, 35, 36, 37, 38, 39, 40, 41, 42, 43, 44, 45, 46, 47, 48, 49, 50, 51, 52, 53, 54, 55, 56, 57, 58, 59, 60, 65, 66, 67, 68, 69, 70, 71, 72, 73, 74, 75, 76, 77, 78, 79, 80, 81, 82, 83, 84, 85] (by decide +kernel) (by decide +kernel)
set_option maxRecDepth 20000 in
theorem gX5_isSpare_X5_solves : GoodIn wsX5_isSpare (wsV RX5 156 RX5 yX5_solves wsX5_solves) := goodIn_app (goodIn_of _ (by decide +kernel)) ggX5_isSpare_X5_solves
set_option maxRecDepth 20000 in
theorem ggX5_isSpare_X5_isTrue : GoodIn wsX5_isSpare wsX5_isTrue := goodIn_r _ [64, 15, 26, 27, 28, 5, 29, 16, 45, 46, 47, 48, 17, 65, 66, 67, 68, 69, 70, 71, 72, 73, 74, 75, 76, 77, 78, 79, 80, 81, 82, 83, 84, 85] (by decide +kernel) (by decide +kernel)
set_option maxRecDepth 20000 in
theorem gX5_isSpare_X5_isTrue : GoodIn wsX5_isSpare (wsV RX5 159 RX5 yX5_isTrue wsX5_isTrue) := goodIn_app (goodIn_of _ (by decide +kernel)) ggX5_isSpare_X5_isTrue
theorem dX5_isSpare_0 : decode cX5_isSpare 0 = .ok (.aload_n 0, 1) := by decide +kernel
theorem dX5_isSpare_1 : decode cX5_isSpare 1 = .ok (.aload_n 0, 1) := by decide +kernel
theorem dX5_isSpare_2 : decode cX5_isSpare 2 = .ok (.invokevirtual 153, 3) := by decide +kernel
theorem dX5_isSpare_5 : decode cX5_isSpare 5 = .ok (.iconst 1, 1) := by decide +kernel
theorem dX5_isSpare_6 : decode cX5_isSpare 6 = .ok (.iload_n 1, 1) := by decide +kernel
theorem dX5_isSpare_7 : decode cX5_isSpare 7 = .ok (.ishl, 1) := by decide +kernel
theorem dX5_isSpare_8 : decode cX5_isSpare 8 = .ok (.iconst (-1), 1) := by decide +kernel
theorem dX5_isSpare_9 : decode cX5_isSpare 9 = .ok (.ixor, 1) := by decide +kernel
theorem dX5_isSpare_10 : decode cX5_isSpare 10 = .ok (.iand, 1) := by decide +kernel
theorem dX5_isSpare_11 : decode cX5_isSpare 11 = .ok (.invokevirtual 156, 3) := by decide +kernel
theorem dX5_isSpare_14 : decode cX5_isSpare 14 = .ok (.aload_n 0, 1) := by decide +kernel
theorem dX5_isSpare_15 : decode cX5_isSpare 15 = .ok (.aload_n 0, 1) := by decide +kernel
theorem dX5_isSpare_16 : decode cX5_isSpare 16 = .ok (.getfield 17, 3) := by decide +kernel
theorem dX5_isSpare_19 : decode cX5_isSpare 19 = .ok (.iconst 1, 1) := by decide +kernel
theorem dX5_isSpare_20 : decode cX5_isSpare 20 = .ok (.bipush 10, 2) := by decide +kernel
theorem dX5_isSpare_22 : decode cX5_isSpare 22 = .ok (.iload_n 1, 1) := by decide +kernel
theorem dX5_isSpare_23 : decode cX5_isSpare 23 = .ok (.imul, 1) := by decide +kernel
theorem dX5_isSpare_24 : decode cX5_isSpare 24 = .ok (.iadd, 1) := by decide +kernel
theorem dX5_isSpare_25 : decode cX5_isSpare 25 = .ok (.invokevirtual 159, 3) := by decide +kernel
theorem dX5_isSpare_28 : decode cX5_isSpare 28 = .ok (.ireturn, 1) := by decide +kernel
set_option maxRecDepth 20000 in
theorem ggX5_spareMany_X5_isSpare : GoodIn wsX5_spareMany wsX5_isSpare := goodIn_r _ [6, 1, 7, 8, 9, 5, 10, 11, 12, 13, 14, 15, 16, 17, 18, 19, 20, 21, 22, 23, 24, 25, 26, 27, 28, 29, 30, 31, 32, 33, 34, 35, 36, 37, 38, 39, 40, 41, 42, 43, 44, 45, 46, 47, 48, 49, 50, 51, 52, 53, 54, 55, 56, 57, 58, 59, 60, 61, 62, 63, 64, 65, 66, 67, 68, 69, 70, 71, 72, 73, 74, 75, 76, 77, 78, 79, 80, 81, 82, 83, 84, 85, 86, 87, 88, 89] (by decide +kernel) (by decide +kernel)
set_option maxRecDepth 20000 in
theorem gX5_spareMany_X5_isSpare : GoodIn wsX5_spareMany (wsV RX5 162 RX5 yX5_isSpare wsX5_isSpare) := goodIn_app (goodIn_of _ (by decide +kernel)) ggX5_spareMany_X5_isSpare
theorem dX5_spareMany_0 : decode cX5_spareMany 0 = .ok (.iconst 0, 1) := by decide +kernel
theorem dX5_spareMany_1 : decode cX5_spareMany 1 = .ok (.istore_n 1, 1) := by decide +kernel
theorem dX5_spareMany_2 : decode cX5_spareMany 2 = .ok (.iconst 0, 1) := by decide +kernel
theorem dX5_spareMany_3 : decode cX5_spareMany 3 = .ok (.istore_n 2, 1) := by decide +kernel
theorem dX5_spareMany_4 : decode cX5_spareMany 4 = .ok (.iload_n 2, 1) := by decide +kernel
theorem dX5_spareMany_5 : decode cX5_spareMany 5 = .ok (.aload_n 0, 1) := by decide +kernel
theorem dX5_spareMany_6 : decode cX5_spareMany 6 = .ok (.getfield 17, 3) := by decide +kernel
theorem dX5_spareMany_9 : decode cX5_spareMany 9 = .ok (.iconst 0, 1) := by decide +kernel
theorem dX5_spareMany_10 : decode cX5_spareMany 10 = .ok (.iaload, 1) := by decide +kernel
theorem dX5_spareMany_11 : decode cX5_spareMany 11 = .ok (.if_icmp .ge 25, 3) := by decide +kernel
theorem dX5_spareMany_14 : decode cX5_spareMany 14 = .ok (.iload_n 1, 1) := by decide +kernel
theorem dX5_spareMany_15 : decode cX5_spareMany 15 = .ok (.aload_n 0, 1) := by decide +kernel
theorem dX5_spareMany_16 : decode cX5_spareMany 16 = .ok (.iload_n 2, 1) := by decide +kernel
theorem dX5_spareMany_17 : decode cX5_spareMany 17 = .ok (.invokevirtual 162, 3) := by decide +kernel
theorem dX5_spareMany_20 : decode cX5_spareMany 20 = .ok (.ifCond .eq 7, 3) := by decide +kernel
theorem dX5_spareMany_23 : decode cX5_spareMany 23 = .ok (.iconst 1, 1) := by decide +kernel
theorem dX5_spareMany_24 : decode cX5_spareMany 24 = .ok (.goto 4, 3) := by decide +kernel
theorem dX5_spareMany_27 : decode cX5_spareMany 27 = .ok (.iconst 0, 1) := by decide +kernel
theorem dX5_spareMany_28 : decode cX5_spareMany 28 = .ok (.iadd, 1) := by decide +kernel
theorem dX5_spareMany_29 : decode cX5_spareMany 29 = .ok (.istore_n 1, 1) := by decide +kernel
theorem dX5_spareMany_30 : decode cX5_spareMany 30 = .ok (.iinc 2 1, 3) := by decide +kernel
theorem dX5_spareMany_33 : decode cX5_spareMany 33 = .ok (.goto (-29), 3) := by decide +kernel
theorem dX5_spareMany_36 : decode cX5_spareMany 36 = .ok (.iload_n 1, 1) := by decide +kernel
theorem dX5_spareMany_37 : decode cX5_spareMany 37 = .ok (.ireturn, 1) := by decide +kernel
set_option maxRecDepth 20000 in
theorem ggX5_fewestOf_X5_allOf : GoodIn wsX5_fewestOf wsX5_allOf := goodIn_r _ [6, 1, 68, 69, 70, 71, 72, 73, 74, 75, 76, 77, 78, 79, 80, 81, 82, 83, 84, 85, 86, 87, 88] (by decide +kernel) (by decide +kernel)
set_option maxRecDepth 20000 in
theorem gX5_fewestOf_X5_allOf : GoodIn wsX5_fewestOf (wsV RX5 153 RX5 yX5_allOf wsX5_allOf) := goodIn_app (goodIn_of _ (by decide +kernel)) ggX5_fewestOf_X5_allOf
set_option maxRecDepth 20000 in
theorem ggX5_fewestOf_X5_bits : GoodIn wsX5_fewestOf wsX5_bits := goodIn_r _ [9] (by decide +kernel) (by decide +kernel)
set_option maxRecDepth 20000 in
theorem gX5_fewestOf_X5_bits : GoodIn wsX5_fewestOf (va_wsS RX5 166 yX5_bits wsX5_bits) := goodIn_app (goodIn_of _ (by decide +kernel)) ggX5_fewestOf_X5_bits
set_option maxRecDepth 20000 in
theorem ggX5_fewestOf_X5_solves : GoodIn wsX5_fewestOf wsX5_solves := goodIn_r _ [13, 1, 14, 15, 16, 5, 17, 18, 19, 20, 21, 22, 23, 24, 25, 26, 27, 28, 29, 30, 31, 32, 33, 34, 35, 36, 37, 38, 39, 40, 41, 42, 43, 44, 45, 46, 47, 48, 49, 50, 51, 52, 53, 54, 55, 56, 57, 58, 59, 60, 61, 62, 63, 68, 69, 70, 71, 72, 73, 74, 75, 76, 77, 78, 79, 80, 81, 82, 83, 84, 85, 86, 87, 88] (by decide +kernel) (by decide +kernel)
set_option maxRecDepth 20000 in
theorem gX5_fewestOf_X5_solves : GoodIn wsX5_fewestOf (wsV RX5 156 RX5 yX5_solves wsX5_solves) := goodIn_app (goodIn_of _ (by decide +kernel)) ggX5_fewestOf_X5_solves
set_option maxRecDepth 20000 in
theorem ggX5_fewestOf_X5_isTrue : GoodIn wsX5_fewestOf wsX5_isTrue := goodIn_r _ [67, 18, 29, 30, 31, 5, 32, 19, 48, 49, 50, 51, 20, 68, 69, 70, 71, 72, 73, 74, 75, 76, 77, 78, 79, 80, 81, 82, 83, 84, 85, 86, 87, 88] (by decide +kernel) (by decide +kernel)
set_option maxRecDepth 20000 in
theorem gX5_fewestOf_X5_isTrue : GoodIn wsX5_fewestOf (wsV RX5 159 RX5 yX5_isTrue wsX5_isTrue) := goodIn_app (goodIn_of _ (by decide +kernel)) ggX5_fewestOf_X5_isTrue
theorem dX5_fewestOf_0 : decode cX5_fewestOf 0 = .ok (.aload_n 0, 1) := by decide +kernel
theorem dX5_fewestOf_1 : decode cX5_fewestOf 1 = .ok (.invokevirtual 153, 3) := by decide +kernel
theorem dX5_fewestOf_4 : decode cX5_fewestOf 4 = .ok (.istore_n 1, 1) := by decide +kernel
theorem dX5_fewestOf_5 : decode cX5_fewestOf 5 = .ok (.aload_n 0, 1) := by decide +kernel
theorem dX5_fewestOf_6 : decode cX5_fewestOf 6 = .ok (.invokevirtual 153, 3) := by decide +kernel
theorem dX5_fewestOf_9 : decode cX5_fewestOf 9 = .ok (.istore_n 2, 1) := by decide +kernel
theorem dX5_fewestOf_10 : decode cX5_fewestOf 10 = .ok (.iload_n 2, 1) := by decide +kernel
theorem dX5_fewestOf_11 : decode cX5_fewestOf 11 = .ok (.ifCond .lt 85, 3) := by decide +kernel
theorem dX5_fewestOf_14 : decode cX5_fewestOf 14 = .ok (.iload_n 2, 1) := by decide +kernel
theorem dX5_fewestOf_15 : decode cX5_fewestOf 15 = .ok (.invokestatic 166, 3) := by decide +kernel
theorem dX5_fewestOf_18 : decode cX5_fewestOf 18 = .ok (.iload_n 1, 1) := by decide +kernel
theorem dX5_fewestOf_19 : decode cX5_fewestOf 19 = .ok (.invokestatic 166, 3) := by decide +kernel
theorem dX5_fewestOf_22 : decode cX5_fewestOf 22 = .ok (.if_icmp .gt 7, 3) := by decide +kernel
theorem dX5_fewestOf_25 : decode cX5_fewestOf 25 = .ok (.iconst 1, 1) := by decide +kernel
theorem dX5_fewestOf_26 : decode cX5_fewestOf 26 = .ok (.goto 4, 3) := by decide +kernel
theorem dX5_fewestOf_29 : decode cX5_fewestOf 29 = .ok (.iconst 0, 1) := by decide +kernel
theorem dX5_fewestOf_30 : decode cX5_fewestOf 30 = .ok (.istore_n 3, 1) := by decide +kernel
theorem dX5_fewestOf_31 : decode cX5_fewestOf 31 = .ok (.iload_n 3, 1) := by decide +kernel
theorem dX5_fewestOf_32 : decode cX5_fewestOf 32 = .ok (.ifCond .eq 8, 3) := by decide +kernel
theorem dX5_fewestOf_35 : decode cX5_fewestOf 35 = .ok (.aload_n 0, 1) := by decide +kernel
theorem dX5_fewestOf_36 : decode cX5_fewestOf 36 = .ok (.iload_n 2, 1) := by decide +kernel
theorem dX5_fewestOf_37 : decode cX5_fewestOf 37 = .ok (.invokevirtual 156, 3) := by decide +kernel
theorem dX5_fewestOf_40 : decode cX5_fewestOf 40 = .ok (.iconst 0, 1) := by decide +kernel
theorem dX5_fewestOf_41 : decode cX5_fewestOf 41 = .ok (.istore 4, 2) := by decide +kernel
theorem dX5_fewestOf_43 : decode cX5_fewestOf 43 = .ok (.iload 4, 2) := by decide +kernel
theorem dX5_fewestOf_45 : decode cX5_fewestOf 45 = .ok (.aload_n 0, 1) := by decide +kernel
theorem dX5_fewestOf_46 : decode cX5_fewestOf 46 = .ok (.getfield 17, 3) := by decide +kernel
theorem dX5_fewestOf_49 : decode cX5_fewestOf 49 = .ok (.iconst 0, 1) := by decide +kernel
theorem dX5_fewestOf_50 : decode cX5_fewestOf 50 = .ok (.iaload, 1) := by decide +kernel
theorem dX5_fewestOf_51 : decode cX5_fewestOf 51 = .ok (.if_icmp .ge 29, 3) := by decide +kernel
theorem dX5_fewestOf_54 : decode cX5_fewestOf 54 = .ok (.iload_n 3, 1) := by decide +kernel
theorem dX5_fewestOf_55 : decode cX5_fewestOf 55 = .ok (.ifCond .eq 25, 3) := by decide +kernel
theorem dX5_fewestOf_58 : decode cX5_fewestOf 58 = .ok (.aload_n 0, 1) := by decide +kernel
theorem dX5_fewestOf_59 : decode cX5_fewestOf 59 = .ok (.aload_n 0, 1) := by decide +kernel
theorem dX5_fewestOf_60 : decode cX5_fewestOf 60 = .ok (.getfield 17, 3) := by decide +kernel
theorem dX5_fewestOf_63 : decode cX5_fewestOf 63 = .ok (.iconst 1, 1) := by decide +kernel
theorem dX5_fewestOf_64 : decode cX5_fewestOf 64 = .ok (.bipush 10, 2) := by decide +kernel
theorem dX5_fewestOf_66 : decode cX5_fewestOf 66 = .ok (.iload 4, 2) := by decide +kernel
theorem dX5_fewestOf_68 : decode cX5_fewestOf 68 = .ok (.imul, 1) := by decide +kernel
theorem dX5_fewestOf_69 : decode cX5_fewestOf 69 = .ok (.iadd, 1) := by decide +kernel
theorem dX5_fewestOf_70 : decode cX5_fewestOf 70 = .ok (.invokevirtual 159, 3) := by decide +kernel
theorem dX5_fewestOf_73 : decode cX5_fewestOf 73 = .ok (.istore_n 3, 1) := by decide +kernel
theorem dX5_fewestOf_74 : decode cX5_fewestOf 74 = .ok (.iinc 4 1, 3) := by decide +kernel
theorem dX5_fewestOf_77 : decode cX5_fewestOf 77 = .ok (.goto (-34), 3) := by decide +kernel
theorem dX5_fewestOf_80 : decode cX5_fewestOf 80 = .ok (.iload_n 3, 1) := by decide +kernel
theorem dX5_fewestOf_81 : decode cX5_fewestOf 81 = .ok (.ifCond .eq 7, 3) := by decide +kernel
theorem dX5_fewestOf_84 : decode cX5_fewestOf 84 = .ok (.iload_n 2, 1) := by decide +kernel
theorem dX5_fewestOf_85 : decode cX5_fewestOf 85 = .ok (.goto 4, 3) := by decide +kernel
theorem dX5_fewestOf_88 : decode cX5_fewestOf 88 = .ok (.iload_n 1, 1) := by decide +kernel
theorem dX5_fewestOf_89 : decode cX5_fewestOf 89 = .ok (.istore_n 1, 1) := by decide +kernel
theorem dX5_fewestOf_90 : decode cX5_fewestOf 90 = .ok (.iinc 2 (-1), 3) := by decide +kernel
theorem dX5_fewestOf_93 : decode cX5_fewestOf 93 = .ok (.goto (-83), 3) := by decide +kernel
theorem dX5_fewestOf_96 : decode cX5_fewestOf 96 = .ok (.iload_n 1, 1) := by decide +kernel
theorem dX5_fewestOf_97 : decode cX5_fewestOf 97 = .ok (.ireturn, 1) := by decide +kernel
theorem dX5_isSure_0 : decode cX5_isSure 0 = .ok (.iconst 1, 1) := by decide +kernel
theorem dX5_isSure_1 : decode cX5_isSure 1 = .ok (.istore_n 2, 1) := by decide +kernel
theorem dX5_isSure_2 : decode cX5_isSure 2 = .ok (.iconst 0, 1) := by decide +kernel
theorem dX5_isSure_3 : decode cX5_isSure 3 = .ok (.istore_n 3, 1) := by decide +kernel
theorem dX5_isSure_4 : decode cX5_isSure 4 = .ok (.iload_n 3, 1) := by decide +kernel
theorem dX5_isSure_5 : decode cX5_isSure 5 = .ok (.aload_n 0, 1) := by decide +kernel
theorem dX5_isSure_6 : decode cX5_isSure 6 = .ok (.getfield 104, 3) := by decide +kernel
theorem dX5_isSure_9 : decode cX5_isSure 9 = .ok (.if_icmp .ge 35, 3) := by decide +kernel
theorem dX5_isSure_12 : decode cX5_isSure 12 = .ok (.iload_n 2, 1) := by decide +kernel
theorem dX5_isSure_13 : decode cX5_isSure 13 = .ok (.ifCond .eq 23, 3) := by decide +kernel
theorem dX5_isSure_16 : decode cX5_isSure 16 = .ok (.aload_n 0, 1) := by decide +kernel
theorem dX5_isSure_17 : decode cX5_isSure 17 = .ok (.getfield 46, 3) := by decide +kernel
theorem dX5_isSure_20 : decode cX5_isSure 20 = .ok (.bipush 6, 2) := by decide +kernel
theorem dX5_isSure_22 : decode cX5_isSure 22 = .ok (.iload_n 3, 1) := by decide +kernel
theorem dX5_isSure_23 : decode cX5_isSure 23 = .ok (.imul, 1) := by decide +kernel
theorem dX5_isSure_24 : decode cX5_isSure 24 = .ok (.iload_n 1, 1) := by decide +kernel
theorem dX5_isSure_25 : decode cX5_isSure 25 = .ok (.iadd, 1) := by decide +kernel
theorem dX5_isSure_26 : decode cX5_isSure 26 = .ok (.laload, 1) := by decide +kernel
theorem dX5_isSure_27 : decode cX5_isSure 27 = .ok (.lconst 0, 1) := by decide +kernel
theorem dX5_isSure_28 : decode cX5_isSure 28 = .ok (.lcmp, 1) := by decide +kernel
theorem dX5_isSure_29 : decode cX5_isSure 29 = .ok (.ifCond .ne 7, 3) := by decide +kernel
theorem dX5_isSure_32 : decode cX5_isSure 32 = .ok (.iconst 1, 1) := by decide +kernel
theorem dX5_isSure_33 : decode cX5_isSure 33 = .ok (.goto 4, 3) := by decide +kernel
theorem dX5_isSure_36 : decode cX5_isSure 36 = .ok (.iconst 0, 1) := by decide +kernel
theorem dX5_isSure_37 : decode cX5_isSure 37 = .ok (.istore_n 2, 1) := by decide +kernel
theorem dX5_isSure_38 : decode cX5_isSure 38 = .ok (.iinc 3 1, 3) := by decide +kernel
theorem dX5_isSure_41 : decode cX5_isSure 41 = .ok (.goto (-37), 3) := by decide +kernel
theorem dX5_isSure_44 : decode cX5_isSure 44 = .ok (.iload_n 2, 1) := by decide +kernel
theorem dX5_isSure_45 : decode cX5_isSure 45 = .ok (.ireturn, 1) := by decide +kernel
set_option maxRecDepth 20000 in
theorem ggX5_toldMany_X5_isSure : GoodIn wsX5_toldMany wsX5_isSure := goodIn_r _ [5, 6, 7, 8, 9, 10, 11, 12, 13, 14, 15, 16, 17, 18, 19, 20, 21, 22, 23, 24, 25, 26, 27, 28] (by decide +kernel) (by decide +kernel)
set_option maxRecDepth 20000 in
theorem gX5_toldMany_X5_isSure : GoodIn wsX5_toldMany (wsV RX5 169 RX5 yX5_isSure wsX5_isSure) := goodIn_app (goodIn_of _ (by decide +kernel)) ggX5_toldMany_X5_isSure
theorem dX5_toldMany_0 : decode cX5_toldMany 0 = .ok (.iconst 0, 1) := by decide +kernel
theorem dX5_toldMany_1 : decode cX5_toldMany 1 = .ok (.istore_n 1, 1) := by decide +kernel
theorem dX5_toldMany_2 : decode cX5_toldMany 2 = .ok (.iconst 0, 1) := by decide +kernel
theorem dX5_toldMany_3 : decode cX5_toldMany 3 = .ok (.istore_n 2, 1) := by decide +kernel
theorem dX5_toldMany_4 : decode cX5_toldMany 4 = .ok (.iload_n 2, 1) := by decide +kernel
theorem dX5_toldMany_5 : decode cX5_toldMany 5 = .ok (.bipush 6, 2) := by decide +kernel
theorem dX5_toldMany_7 : decode cX5_toldMany 7 = .ok (.if_icmp .ge 25, 3) := by decide +kernel
theorem dX5_toldMany_10 : decode cX5_toldMany 10 = .ok (.iload_n 1, 1) := by decide +kernel
theorem dX5_toldMany_11 : decode cX5_toldMany 11 = .ok (.aload_n 0, 1) := by decide +kernel
theorem dX5_toldMany_12 : decode cX5_toldMany 12 = .ok (.iload_n 2, 1) := by decide +kernel
theorem dX5_toldMany_13 : decode cX5_toldMany 13 = .ok (.invokevirtual 169, 3) := by decide +kernel
theorem dX5_toldMany_16 : decode cX5_toldMany 16 = .ok (.ifCond .eq 7, 3) := by decide +kernel
theorem dX5_toldMany_19 : decode cX5_toldMany 19 = .ok (.iconst 1, 1) := by decide +kernel
theorem dX5_toldMany_20 : decode cX5_toldMany 20 = .ok (.goto 4, 3) := by decide +kernel
theorem dX5_toldMany_23 : decode cX5_toldMany 23 = .ok (.iconst 0, 1) := by decide +kernel
theorem dX5_toldMany_24 : decode cX5_toldMany 24 = .ok (.iadd, 1) := by decide +kernel
theorem dX5_toldMany_25 : decode cX5_toldMany 25 = .ok (.istore_n 1, 1) := by decide +kernel
theorem dX5_toldMany_26 : decode cX5_toldMany 26 = .ok (.iinc 2 1, 3) := by decide +kernel
theorem dX5_toldMany_29 : decode cX5_toldMany 29 = .ok (.goto (-25), 3) := by decide +kernel
theorem dX5_toldMany_32 : decode cX5_toldMany 32 = .ok (.iload_n 1, 1) := by decide +kernel
theorem dX5_toldMany_33 : decode cX5_toldMany 33 = .ok (.ireturn, 1) := by decide +kernel
set_option maxRecDepth 20000 in
theorem ggX5_told_X5_allOf : GoodIn wsX5_told wsX5_allOf := goodIn_r _ [10, 1, 91, 92, 93, 94, 95, 96, 97, 98, 99, 100, 101, 102, 103, 104, 105, 106, 107, 108, 109, 110, 111] (by decide +kernel) (by decide +kernel)
set_option maxRecDepth 20000 in
theorem gX5_told_X5_allOf : GoodIn wsX5_told (wsV RX5 153 RX5 yX5_allOf wsX5_allOf) := goodIn_app (goodIn_of _ (by decide +kernel)) ggX5_told_X5_allOf
set_option maxRecDepth 20000 in
theorem ggX5_told_X5_solves : GoodIn wsX5_told wsX5_solves := goodIn_r _ [14, 1, 15, 16, 17, 9, 18, 2, 19, 20, 21, 22, 23, 24, 25, 26, 27, 28, 29, 30, 31, 32, 33, 34, 35, 36, 37, 38, 39, 40, 41, 42, 43, 44, 45, 46, 47, 48, 49, 50, 51, 52, 53, 54, 55, 56, 57, 58, 59, 60, 61, 62, 63, 91, 92, 93, 94, 95, 96, 97, 98, 99, 100, 101, 102, 103, 104, 105, 106, 107, 108, 109, 110, 111] (by decide +kernel) (by decide +kernel)
set_option maxRecDepth 20000 in
theorem gX5_told_X5_solves : GoodIn wsX5_told (wsV RX5 156 RX5 yX5_solves wsX5_solves) := goodIn_app (goodIn_of _ (by decide +kernel)) ggX5_told_X5_solves
set_option maxRecDepth 20000 in
theorem ggX5_told_X5_toldMany : GoodIn wsX5_told wsX5_toldMany := goodIn_r _ [67, 68, 69, 70, 9, 71, 2, 19, 91, 92, 93, 94, 95, 96, 97, 98, 99, 100, 101, 102, 103, 104, 105, 106, 107, 108, 109, 110, 111] (by decide +kernel) (by decide +kernel)
set_option maxRecDepth 20000 in
theorem gX5_told_X5_toldMany : GoodIn wsX5_told (wsV RX5 172 RX5 yX5_toldMany wsX5_toldMany) := goodIn_app (goodIn_of _ (by decide +kernel)) ggX5_told_X5_toldMany
set_option maxRecDepth 20000 in
theorem ggX5_told_X5_spareMany : GoodIn wsX5_told wsX5_spareMany := goodIn_r _ [75, 1, 76, 77, 78, 9, 79, 6, 7, 8, 10, 11, 12, 13, 14, 15, 16, 17, 18, 2, 19, 20, 21, 22, 23, 24, 25, 26, 27, 28, 29, 30, 31, 32, 33, 34, 35, 36, 37, 38, 39, 40, 41, 42, 43, 44, 45, 46, 47, 48, 49, 50, 51, 52, 53, 54, 55, 56, 57, 58, 59, 60, 61, 62, 63, 80, 81, 82, 83, 91, 92, 93, 94, 95, 96, 97, 98, 99, 100, 101, 102, 103, 104, 105, 106, 107, 108, 109, 110, 111] (by decide +kernel) (by decide +kernel)
set_option maxRecDepth 20000 in
theorem gX5_told_X5_spareMany : GoodIn wsX5_told (wsV RX5 175 RX5 yX5_spareMany wsX5_spareMany) := goodIn_app (goodIn_of _ (by decide +kernel)) ggX5_told_X5_spareMany
set_option maxRecDepth 20000 in
theorem ggX5_told_X5_fewestOf : GoodIn wsX5_told wsX5_fewestOf := goodIn_r _ [87, 1, 6, 7, 8, 9, 10, 88, 89, 90, 11, 12, 13, 14, 15, 16, 17, 18, 2, 19, 20, 21, 22, 23, 24, 25, 26, 27, 28, 29, 30, 31, 32, 33, 34, 35, 36, 37, 38, 39, 40, 41, 42, 43, 44, 45, 46, 47, 48, 49, 50, 51, 52, 53, 54, 55, 56, 57, 58, 59, 60, 61, 62, 63, 80, 81, 82, 83, 91, 92, 93, 94, 95, 96, 97, 98, 99, 100, 101, 102, 103, 104, 105, 106, 107, 108, 109, 110, 111] (by decide +kernel) (by decide +kernel)
set_option maxRecDepth 20000 in
theorem gX5_told_X5_fewestOf : GoodIn wsX5_told (wsV RX5 178 RX5 yX5_fewestOf wsX5_fewestOf) := goodIn_app (goodIn_of _ (by decide +kernel)) ggX5_told_X5_fewestOf
set_option maxRecDepth 20000 in
theorem ggX5_told_X5_bits : GoodIn wsX5_told wsX5_bits := goodIn_r _ [90] (by decide +kernel) (by decide +kernel)
set_option maxRecDepth 20000 in
theorem gX5_told_X5_bits : GoodIn wsX5_told (va_wsS RX5 166 yX5_bits wsX5_bits) := goodIn_app (goodIn_of _ (by decide +kernel)) ggX5_told_X5_bits
theorem dX5_told_0 : decode cX5_told 0 = .ok (.aload_n 0, 1) := by decide +kernel
theorem dX5_told_1 : decode cX5_told 1 = .ok (.aload_n 0, 1) := by decide +kernel
theorem dX5_told_2 : decode cX5_told 2 = .ok (.invokevirtual 153, 3) := by decide +kernel
theorem dX5_told_5 : decode cX5_told 5 = .ok (.invokevirtual 156, 3) := by decide +kernel
theorem dX5_told_8 : decode cX5_told 8 = .ok (.iload_n 1, 1) := by decide +kernel
theorem dX5_told_9 : decode cX5_told 9 = .ok (.tableswitch 104 0 8 #[51, 58, 66, 71, 76, 81, 86, 94, 99], 51) := by decide +kernel
theorem dX5_told_60 : decode cX5_told 60 = .ok (.aload_n 0, 1) := by decide +kernel
theorem dX5_told_61 : decode cX5_told 61 = .ok (.getfield 17, 3) := by decide +kernel
theorem dX5_told_64 : decode cX5_told 64 = .ok (.iconst 0, 1) := by decide +kernel
theorem dX5_told_65 : decode cX5_told 65 = .ok (.iaload, 1) := by decide +kernel
theorem dX5_told_66 : decode cX5_told 66 = .ok (.ireturn, 1) := by decide +kernel
theorem dX5_told_67 : decode cX5_told 67 = .ok (.bipush 6, 2) := by decide +kernel
theorem dX5_told_69 : decode cX5_told 69 = .ok (.aload_n 0, 1) := by decide +kernel
theorem dX5_told_70 : decode cX5_told 70 = .ok (.getfield 104, 3) := by decide +kernel
theorem dX5_told_73 : decode cX5_told 73 = .ok (.isub, 1) := by decide +kernel
theorem dX5_told_74 : decode cX5_told 74 = .ok (.ireturn, 1) := by decide +kernel
theorem dX5_told_75 : decode cX5_told 75 = .ok (.aload_n 0, 1) := by decide +kernel
theorem dX5_told_76 : decode cX5_told 76 = .ok (.getfield 104, 3) := by decide +kernel
theorem dX5_told_79 : decode cX5_told 79 = .ok (.ireturn, 1) := by decide +kernel
theorem dX5_told_80 : decode cX5_told 80 = .ok (.aload_n 0, 1) := by decide +kernel
theorem dX5_told_81 : decode cX5_told 81 = .ok (.invokevirtual 172, 3) := by decide +kernel
theorem dX5_told_84 : decode cX5_told 84 = .ok (.ireturn, 1) := by decide +kernel
theorem dX5_told_85 : decode cX5_told 85 = .ok (.aload_n 0, 1) := by decide +kernel
theorem dX5_told_86 : decode cX5_told 86 = .ok (.getfield 60, 3) := by decide +kernel
theorem dX5_told_89 : decode cX5_told 89 = .ok (.ireturn, 1) := by decide +kernel
theorem dX5_told_90 : decode cX5_told 90 = .ok (.aload_n 0, 1) := by decide +kernel
theorem dX5_told_91 : decode cX5_told 91 = .ok (.invokevirtual 175, 3) := by decide +kernel
theorem dX5_told_94 : decode cX5_told 94 = .ok (.ireturn, 1) := by decide +kernel
theorem dX5_told_95 : decode cX5_told 95 = .ok (.aload_n 0, 1) := by decide +kernel
theorem dX5_told_96 : decode cX5_told 96 = .ok (.invokevirtual 178, 3) := by decide +kernel
theorem dX5_told_99 : decode cX5_told 99 = .ok (.invokestatic 166, 3) := by decide +kernel
theorem dX5_told_102 : decode cX5_told 102 = .ok (.ireturn, 1) := by decide +kernel
theorem dX5_told_103 : decode cX5_told 103 = .ok (.aload_n 0, 1) := by decide +kernel
theorem dX5_told_104 : decode cX5_told 104 = .ok (.invokevirtual 178, 3) := by decide +kernel
theorem dX5_told_107 : decode cX5_told 107 = .ok (.ireturn, 1) := by decide +kernel
theorem dX5_told_108 : decode cX5_told 108 = .ok (.aload_n 0, 1) := by decide +kernel
theorem dX5_told_109 : decode cX5_told 109 = .ok (.getfield 181, 3) := by decide +kernel
theorem dX5_told_112 : decode cX5_told 112 = .ok (.ireturn, 1) := by decide +kernel
theorem dX5_told_113 : decode cX5_told 113 = .ok (.ldc 59, 2) := by decide +kernel
theorem dX5_told_115 : decode cX5_told 115 = .ok (.ireturn, 1) := by decide +kernel
set_option maxRecDepth 20000 in
theorem ggX5_notes_X5_bring : GoodIn wsX5_notes wsX5_bring := goodIn_r _ [7] (by decide +kernel) (by decide +kernel)
set_option maxRecDepth 20000 in
theorem gX5_notes_X5_bring : GoodIn wsX5_notes (va_wsS RX5 90 yX5_bring wsX5_bring) := goodIn_app (goodIn_of _ (by decide +kernel)) ggX5_notes_X5_bring
theorem dX5_notes_0 : decode cX5_notes 0 = .ok (.aload_n 0, 1) := by decide +kernel
theorem dX5_notes_1 : decode cX5_notes 1 = .ok (.getfield 181, 3) := by decide +kernel
theorem dX5_notes_4 : decode cX5_notes 4 = .ok (.bipush 20, 2) := by decide +kernel
theorem dX5_notes_6 : decode cX5_notes 6 = .ok (.if_icmp .ne 30, 3) := by decide +kernel
theorem dX5_notes_9 : decode cX5_notes 9 = .ok (.aload_n 0, 1) := by decide +kernel
theorem dX5_notes_10 : decode cX5_notes 10 = .ok (.getfield 20, 3) := by decide +kernel
theorem dX5_notes_13 : decode cX5_notes 13 = .ok (.bipush 69, 2) := by decide +kernel
theorem dX5_notes_15 : decode cX5_notes 15 = .ok (.aload_n 0, 1) := by decide +kernel
theorem dX5_notes_16 : decode cX5_notes 16 = .ok (.getfield 20, 3) := by decide +kernel
theorem dX5_notes_19 : decode cX5_notes 19 = .ok (.iconst 0, 1) := by decide +kernel
theorem dX5_notes_20 : decode cX5_notes 20 = .ok (.sipush 1311, 3) := by decide +kernel
theorem dX5_notes_23 : decode cX5_notes 23 = .ok (.invokestatic 90, 3) := by decide +kernel
theorem dX5_notes_26 : decode cX5_notes 26 = .ok (.aload_n 0, 1) := by decide +kernel
theorem dX5_notes_27 : decode cX5_notes 27 = .ok (.dup, 1) := by decide +kernel
theorem dX5_notes_28 : decode cX5_notes 28 = .ok (.getfield 181, 3) := by decide +kernel
theorem dX5_notes_31 : decode cX5_notes 31 = .ok (.iconst 1, 1) := by decide +kernel
theorem dX5_notes_32 : decode cX5_notes 32 = .ok (.isub, 1) := by decide +kernel
theorem dX5_notes_33 : decode cX5_notes 33 = .ok (.putfield 181, 3) := by decide +kernel
theorem dX5_notes_36 : decode cX5_notes 36 = .ok (.aload_n 0, 1) := by decide +kernel
theorem dX5_notes_37 : decode cX5_notes 37 = .ok (.getfield 17, 3) := by decide +kernel
theorem dX5_notes_40 : decode cX5_notes 40 = .ok (.iconst 0, 1) := by decide +kernel
theorem dX5_notes_41 : decode cX5_notes 41 = .ok (.aload_n 0, 1) := by decide +kernel
theorem dX5_notes_42 : decode cX5_notes 42 = .ok (.getfield 20, 3) := by decide +kernel
theorem dX5_notes_45 : decode cX5_notes 45 = .ok (.bipush 69, 2) := by decide +kernel
theorem dX5_notes_47 : decode cX5_notes 47 = .ok (.aload_n 0, 1) := by decide +kernel
theorem dX5_notes_48 : decode cX5_notes 48 = .ok (.getfield 181, 3) := by decide +kernel
theorem dX5_notes_51 : decode cX5_notes 51 = .ok (.imul, 1) := by decide +kernel
theorem dX5_notes_52 : decode cX5_notes 52 = .ok (.bipush 69, 2) := by decide +kernel
theorem dX5_notes_54 : decode cX5_notes 54 = .ok (.invokestatic 90, 3) := by decide +kernel
theorem dX5_notes_57 : decode cX5_notes 57 = .ok (.aload_n 0, 1) := by decide +kernel
theorem dX5_notes_58 : decode cX5_notes 58 = .ok (.dup, 1) := by decide +kernel
theorem dX5_notes_59 : decode cX5_notes 59 = .ok (.getfield 181, 3) := by decide +kernel
theorem dX5_notes_62 : decode cX5_notes 62 = .ok (.iconst 1, 1) := by decide +kernel
theorem dX5_notes_63 : decode cX5_notes 63 = .ok (.iadd, 1) := by decide +kernel
theorem dX5_notes_64 : decode cX5_notes 64 = .ok (.putfield 181, 3) := by decide +kernel
theorem dX5_notes_67 : decode cX5_notes 67 = .ok (.return_, 1) := by decide +kernel
set_option maxRecDepth 20000 in
theorem ggX5_mayBe_X5_allOf : GoodIn wsX5_mayBe wsX5_allOf := goodIn_r _ [6, 7, 62, 63, 64, 65, 66, 67, 68, 69, 70, 71, 72, 73, 74, 75, 76, 77, 78, 79, 80, 81, 82] (by decide +kernel) (by decide +kernel)
set_option maxRecDepth 20000 in
theorem gX5_mayBe_X5_allOf : GoodIn wsX5_mayBe (wsV RX5 153 RX5 yX5_allOf wsX5_allOf) := goodIn_app (goodIn_of _ (by decide +kernel)) ggX5_mayBe_X5_allOf
set_option maxRecDepth 20000 in
theorem ggX5_mayBe_X5_solves : GoodIn wsX5_mayBe wsX5_solves := goodIn_r _ [11, 7, 12, 13, 14, 5, 15, 16, 17, 18, 19, 20, 21, 22, 23, 24, 25, 26, 27, 28, 29, 30, 31, 32, 33, 34, 35, 36, 37, 38, 39, 40, 41, 42, 43, 44, 45, 46, 47, 48, 49, 50, 51, 52, 53, 54, 55, 56, 57, 58, 59, 60, 61, 62, 63, 64, 65, 66, 67, 68, 69, 70, 71, 72, 73, 74, 75, 76, 77, 78, 79, 80, 81, 82] (by decide +kernel) (by decide +kernel)
set_option maxRecDepth 20000 in
theorem gX5_mayBe_X5_solves : GoodIn wsX5_mayBe (wsV RX5 156 RX5 yX5_solves wsX5_solves) := goodIn_app (goodIn_of _ (by decide +kernel)) ggX5_mayBe_X5_solves
set_option maxRecDepth 20000 in
theorem ggX5_mayBe_X5_adds : GoodIn wsX5_mayBe wsX5_adds := goodIn_r _ [25, 16, 26, 18, 17, 27, 28, 29, 5, 30, 31, 32, 33, 34, 35, 36, 37, 38, 39, 40, 41, 42, 43, 44, 45, 46, 47, 48, 49, 50, 51, 52, 53, 54, 55, 56, 57, 58, 59, 60, 61, 62, 63, 64, 65, 66, 67, 68, 69, 70, 71, 72, 73, 74, 75, 76, 77, 78, 79, 80, 81, 82] (by decide +kernel) (by decide +kernel)
set_option maxRecDepth 20000 in
theorem gX5_mayBe_X5_adds : GoodIn wsX5_mayBe (wsV RX5 149 RX5 yX5_adds wsX5_adds) := goodIn_app (goodIn_of _ (by decide +kernel)) ggX5_mayBe_X5_adds
theorem dX5_mayBe_0 : decode cX5_mayBe 0 = .ok (.aload_n 0, 1) := by decide +kernel
theorem dX5_mayBe_1 : decode cX5_mayBe 1 = .ok (.aload_n 0, 1) := by decide +kernel
theorem dX5_mayBe_2 : decode cX5_mayBe 2 = .ok (.invokevirtual 153, 3) := by decide +kernel
theorem dX5_mayBe_5 : decode cX5_mayBe 5 = .ok (.invokevirtual 156, 3) := by decide +kernel
theorem dX5_mayBe_8 : decode cX5_mayBe 8 = .ok (.aload_n 0, 1) := by decide +kernel
theorem dX5_mayBe_9 : decode cX5_mayBe 9 = .ok (.aload_n 0, 1) := by decide +kernel
theorem dX5_mayBe_10 : decode cX5_mayBe 10 = .ok (.getfield 43, 3) := by decide +kernel
theorem dX5_mayBe_13 : decode cX5_mayBe 13 = .ok (.iconst 0, 1) := by decide +kernel
theorem dX5_mayBe_14 : decode cX5_mayBe 14 = .ok (.invokevirtual 149, 3) := by decide +kernel
theorem dX5_mayBe_17 : decode cX5_mayBe 17 = .ok (.ireturn, 1) := by decide +kernel
set_option maxRecDepth 20000 in
theorem ggX5_says_X5_bring : GoodIn wsX5_says wsX5_bring := goodIn_r _ [6] (by decide +kernel) (by decide +kernel)
set_option maxRecDepth 20000 in
theorem gX5_says_X5_bring : GoodIn wsX5_says (va_wsS RX5 90 yX5_bring wsX5_bring) := goodIn_app (goodIn_of _ (by decide +kernel)) ggX5_says_X5_bring
theorem dX5_says_0 : decode cX5_says 0 = .ok (.aload_n 0, 1) := by decide +kernel
theorem dX5_says_1 : decode cX5_says 1 = .ok (.getfield 43, 3) := by decide +kernel
theorem dX5_says_4 : decode cX5_says 4 = .ok (.iconst 0, 1) := by decide +kernel
theorem dX5_says_5 : decode cX5_says 5 = .ok (.aload_n 0, 1) := by decide +kernel
theorem dX5_says_6 : decode cX5_says 6 = .ok (.getfield 17, 3) := by decide +kernel
theorem dX5_says_9 : decode cX5_says 9 = .ok (.iconst 1, 1) := by decide +kernel
theorem dX5_says_10 : decode cX5_says 10 = .ok (.bipush 10, 2) := by decide +kernel
theorem dX5_says_12 : decode cX5_says 12 = .ok (.aload_n 0, 1) := by decide +kernel
theorem dX5_says_13 : decode cX5_says 13 = .ok (.getfield 17, 3) := by decide +kernel
theorem dX5_says_16 : decode cX5_says 16 = .ok (.iconst 0, 1) := by decide +kernel
theorem dX5_says_17 : decode cX5_says 17 = .ok (.iaload, 1) := by decide +kernel
theorem dX5_says_18 : decode cX5_says 18 = .ok (.imul, 1) := by decide +kernel
theorem dX5_says_19 : decode cX5_says 19 = .ok (.iadd, 1) := by decide +kernel
theorem dX5_says_20 : decode cX5_says 20 = .ok (.bipush 10, 2) := by decide +kernel
theorem dX5_says_22 : decode cX5_says 22 = .ok (.invokestatic 90, 3) := by decide +kernel
theorem dX5_says_25 : decode cX5_says 25 = .ok (.aload_n 0, 1) := by decide +kernel
theorem dX5_says_26 : decode cX5_says 26 = .ok (.getfield 17, 3) := by decide +kernel
theorem dX5_says_29 : decode cX5_says 29 = .ok (.iconst 0, 1) := by decide +kernel
theorem dX5_says_30 : decode cX5_says 30 = .ok (.dup2, 1) := by decide +kernel
theorem dX5_says_31 : decode cX5_says 31 = .ok (.iaload, 1) := by decide +kernel
theorem dX5_says_32 : decode cX5_says 32 = .ok (.iconst 1, 1) := by decide +kernel
theorem dX5_says_33 : decode cX5_says 33 = .ok (.iadd, 1) := by decide +kernel
theorem dX5_says_34 : decode cX5_says 34 = .ok (.iastore, 1) := by decide +kernel
theorem dX5_says_35 : decode cX5_says 35 = .ok (.return_, 1) := by decide +kernel
set_option maxRecDepth 20000 in
theorem ggX5_say_X5_reads : GoodIn wsX5_say wsX5_reads := goodIn_r _ [8, 9, 10, 11, 12, 13, 14, 15, 16, 17, 7, 18, 19, 20, 21, 22, 23, 24, 25, 26, 27, 28, 29, 30, 31, 32, 33, 34, 35, 36, 37, 38, 39, 40, 41, 42, 43, 44, 45, 46, 47, 48, 49, 50, 51, 52, 53, 54, 55, 56, 129, 130, 131, 132, 133, 134, 135, 136, 137, 138, 139, 140, 141, 142, 143, 144, 145, 146, 147, 148, 149] (by decide +kernel) (by decide +kernel)
set_option maxRecDepth 20000 in
theorem gX5_say_X5_reads : GoodIn wsX5_say (wsV RX5 184 RX5 yX5_reads wsX5_reads) := goodIn_app (goodIn_of _ (by decide +kernel)) ggX5_say_X5_reads
set_option maxRecDepth 20000 in
theorem ggX5_say_X5_mayBe : GoodIn wsX5_say wsX5_mayBe := goodIn_r _ [60, 12, 61, 62, 63, 7, 64, 1, 65, 66, 67, 68, 69, 70, 71, 72, 73, 74, 75, 76, 77, 78, 79, 80, 81, 82, 83, 84, 85, 86, 87, 88, 89, 90, 91, 92, 93, 94, 95, 96, 97, 98, 99, 100, 101, 102, 103, 104, 105, 106, 107, 108, 109, 110, 111, 112, 113, 114, 115, 116, 117, 118, 129, 130, 131, 132, 133, 134, 135, 136, 137, 138, 139, 140, 141, 142, 143, 144, 145, 146, 147, 148, 149] (by decide +kernel) (by decide +kernel)
set_option maxRecDepth 20000 in
theorem gX5_say_X5_mayBe : GoodIn wsX5_say (wsV RX5 188 RX5 yX5_mayBe wsX5_mayBe) := goodIn_app (goodIn_of _ (by decide +kernel)) ggX5_say_X5_mayBe
set_option maxRecDepth 20000 in
theorem ggX5_say_X5_notes : GoodIn wsX5_say wsX5_notes := goodIn_r _ [122, 123, 124, 1, 54, 55, 7, 56, 129, 130, 131, 132, 133, 134, 135, 136, 137, 138, 139, 140, 141, 142, 143, 144, 145, 146, 147, 148, 149] (by decide +kernel) (by decide +kernel)
set_option maxRecDepth 20000 in
theorem gX5_say_X5_notes : GoodIn wsX5_say (wsV RX5 192 RX5 yX5_notes wsX5_notes) := goodIn_app (goodIn_of _ (by decide +kernel)) ggX5_say_X5_notes
set_option maxRecDepth 20000 in
theorem ggX5_say_X5_says : GoodIn wsX5_say wsX5_says := goodIn_r _ [128, 12, 1, 54, 55, 7, 56, 129, 130, 131, 132, 133, 134, 135, 136, 137, 138, 139, 140, 141, 142, 143, 144, 145, 146, 147, 148, 149] (by decide +kernel) (by decide +kernel)
set_option maxRecDepth 20000 in
theorem gX5_say_X5_says : GoodIn wsX5_say (wsV RX5 195 RX5 yX5_says wsX5_says) := goodIn_app (goodIn_of _ (by decide +kernel)) ggX5_say_X5_says
theorem dX5_say_0 : decode cX5_say 0 = .ok (.aload_n 0, 1) := by decide +kernel
theorem dX5_say_1 : decode cX5_say 1 = .ok (.iconst 1, 1) := by decide +kernel
theorem dX5_say_2 : decode cX5_say 2 = .ok (.invokevirtual 184, 3) := by decide +kernel
theorem dX5_say_5 : decode cX5_say 5 = .ok (.istore_n 1, 1) := by decide +kernel
theorem dX5_say_6 : decode cX5_say 6 = .ok (.iload_n 1, 1) := by decide +kernel
theorem dX5_say_7 : decode cX5_say 7 = .ok (.ifCond .eq 8, 3) := by decide +kernel
theorem dX5_say_10 : decode cX5_say 10 = .ok (.bipush (-10), 2) := by decide +kernel
theorem dX5_say_12 : decode cX5_say 12 = .ok (.iload_n 1, 1) := by decide +kernel
theorem dX5_say_13 : decode cX5_say 13 = .ok (.isub, 1) := by decide +kernel
theorem dX5_say_14 : decode cX5_say 14 = .ok (.ireturn, 1) := by decide +kernel
theorem dX5_say_15 : decode cX5_say 15 = .ok (.aload_n 0, 1) := by decide +kernel
theorem dX5_say_16 : decode cX5_say 16 = .ok (.getfield 17, 3) := by decide +kernel
theorem dX5_say_19 : decode cX5_say 19 = .ok (.iconst 0, 1) := by decide +kernel
theorem dX5_say_20 : decode cX5_say 20 = .ok (.iaload, 1) := by decide +kernel
theorem dX5_say_21 : decode cX5_say 21 = .ok (.bipush 6, 2) := by decide +kernel
theorem dX5_say_23 : decode cX5_say 23 = .ok (.if_icmp .ne 6, 3) := by decide +kernel
theorem dX5_say_26 : decode cX5_say 26 = .ok (.ldc 63, 2) := by decide +kernel
theorem dX5_say_28 : decode cX5_say 28 = .ok (.ireturn, 1) := by decide +kernel
theorem dX5_say_29 : decode cX5_say 29 = .ok (.aload_n 0, 1) := by decide +kernel
theorem dX5_say_30 : decode cX5_say 30 = .ok (.invokevirtual 188, 3) := by decide +kernel
theorem dX5_say_33 : decode cX5_say 33 = .ok (.ifCond .ne 6, 3) := by decide +kernel
theorem dX5_say_36 : decode cX5_say 36 = .ok (.ldc 191, 2) := by decide +kernel
theorem dX5_say_38 : decode cX5_say 38 = .ok (.ireturn, 1) := by decide +kernel
theorem dX5_say_39 : decode cX5_say 39 = .ok (.aload_n 0, 1) := by decide +kernel
theorem dX5_say_40 : decode cX5_say 40 = .ok (.invokevirtual 192, 3) := by decide +kernel
theorem dX5_say_43 : decode cX5_say 43 = .ok (.aload_n 0, 1) := by decide +kernel
theorem dX5_say_44 : decode cX5_say 44 = .ok (.invokevirtual 195, 3) := by decide +kernel
theorem dX5_say_47 : decode cX5_say 47 = .ok (.aload_n 0, 1) := by decide +kernel
theorem dX5_say_48 : decode cX5_say 48 = .ok (.getfield 17, 3) := by decide +kernel
theorem dX5_say_51 : decode cX5_say 51 = .ok (.iconst 0, 1) := by decide +kernel
theorem dX5_say_52 : decode cX5_say 52 = .ok (.iaload, 1) := by decide +kernel
theorem dX5_say_53 : decode cX5_say 53 = .ok (.ireturn, 1) := by decide +kernel
set_option maxRecDepth 20000 in
theorem ggX5_back_X5_in : GoodIn wsX5_back wsX5_in := goodIn_r _ [6] (by decide +kernel) (by decide +kernel)
set_option maxRecDepth 20000 in
theorem gX5_back_X5_in : GoodIn wsX5_back (va_wsS RX5 55 yX5_in wsX5_in) := goodIn_app (goodIn_of _ (by decide +kernel)) ggX5_back_X5_in
set_option maxRecDepth 20000 in
theorem ggX5_back_X5_notes : GoodIn wsX5_back wsX5_notes := goodIn_r _ [10, 11, 12, 1, 13, 14, 5, 15, 16, 17, 18, 19, 20, 21, 22, 23, 24, 25, 26, 27, 28, 29, 30, 31, 32, 33, 34, 35, 36] (by decide +kernel) (by decide +kernel)
set_option maxRecDepth 20000 in
theorem gX5_back_X5_notes : GoodIn wsX5_back (wsV RX5 192 RX5 yX5_notes wsX5_notes) := goodIn_app (goodIn_of _ (by decide +kernel)) ggX5_back_X5_notes
set_option maxRecDepth 20000 in
theorem ggX5_back_X5_bring : GoodIn wsX5_back wsX5_bring := goodIn_r _ [15] (by decide +kernel) (by decide +kernel)
set_option maxRecDepth 20000 in
theorem gX5_back_X5_bring : GoodIn wsX5_back (va_wsS RX5 90 yX5_bring wsX5_bring) := goodIn_app (goodIn_of _ (by decide +kernel)) ggX5_back_X5_bring
theorem dX5_back_0 : decode cX5_back 0 = .ok (.iload_n 1, 1) := by decide +kernel
theorem dX5_back_1 : decode cX5_back 1 = .ok (.iconst 0, 1) := by decide +kernel
theorem dX5_back_2 : decode cX5_back 2 = .ok (.aload_n 0, 1) := by decide +kernel
theorem dX5_back_3 : decode cX5_back 3 = .ok (.getfield 17, 3) := by decide +kernel
theorem dX5_back_6 : decode cX5_back 6 = .ok (.iconst 0, 1) := by decide +kernel
theorem dX5_back_7 : decode cX5_back 7 = .ok (.iaload, 1) := by decide +kernel
theorem dX5_back_8 : decode cX5_back 8 = .ok (.iconst 1, 1) := by decide +kernel
theorem dX5_back_9 : decode cX5_back 9 = .ok (.isub, 1) := by decide +kernel
theorem dX5_back_10 : decode cX5_back 10 = .ok (.invokestatic 55, 3) := by decide +kernel
theorem dX5_back_13 : decode cX5_back 13 = .ok (.ifCond .ne 6, 3) := by decide +kernel
theorem dX5_back_16 : decode cX5_back 16 = .ok (.ldc 198, 2) := by decide +kernel
theorem dX5_back_18 : decode cX5_back 18 = .ok (.ireturn, 1) := by decide +kernel
theorem dX5_back_19 : decode cX5_back 19 = .ok (.aload_n 0, 1) := by decide +kernel
theorem dX5_back_20 : decode cX5_back 20 = .ok (.invokevirtual 192, 3) := by decide +kernel
theorem dX5_back_23 : decode cX5_back 23 = .ok (.aload_n 0, 1) := by decide +kernel
theorem dX5_back_24 : decode cX5_back 24 = .ok (.getfield 17, 3) := by decide +kernel
theorem dX5_back_27 : decode cX5_back 27 = .ok (.iconst 0, 1) := by decide +kernel
theorem dX5_back_28 : decode cX5_back 28 = .ok (.dup2, 1) := by decide +kernel
theorem dX5_back_29 : decode cX5_back 29 = .ok (.iaload, 1) := by decide +kernel
theorem dX5_back_30 : decode cX5_back 30 = .ok (.iconst 1, 1) := by decide +kernel
theorem dX5_back_31 : decode cX5_back 31 = .ok (.isub, 1) := by decide +kernel
theorem dX5_back_32 : decode cX5_back 32 = .ok (.iastore, 1) := by decide +kernel
theorem dX5_back_33 : decode cX5_back 33 = .ok (.aload_n 0, 1) := by decide +kernel
theorem dX5_back_34 : decode cX5_back 34 = .ok (.getfield 17, 3) := by decide +kernel
theorem dX5_back_37 : decode cX5_back 37 = .ok (.iconst 1, 1) := by decide +kernel
theorem dX5_back_38 : decode cX5_back 38 = .ok (.bipush 10, 2) := by decide +kernel
theorem dX5_back_40 : decode cX5_back 40 = .ok (.iload_n 1, 1) := by decide +kernel
theorem dX5_back_41 : decode cX5_back 41 = .ok (.iconst 1, 1) := by decide +kernel
theorem dX5_back_42 : decode cX5_back 42 = .ok (.iadd, 1) := by decide +kernel
theorem dX5_back_43 : decode cX5_back 43 = .ok (.imul, 1) := by decide +kernel
theorem dX5_back_44 : decode cX5_back 44 = .ok (.iadd, 1) := by decide +kernel
theorem dX5_back_45 : decode cX5_back 45 = .ok (.aload_n 0, 1) := by decide +kernel
theorem dX5_back_46 : decode cX5_back 46 = .ok (.getfield 17, 3) := by decide +kernel
theorem dX5_back_49 : decode cX5_back 49 = .ok (.iconst 1, 1) := by decide +kernel
theorem dX5_back_50 : decode cX5_back 50 = .ok (.bipush 10, 2) := by decide +kernel
theorem dX5_back_52 : decode cX5_back 52 = .ok (.iload_n 1, 1) := by decide +kernel
theorem dX5_back_53 : decode cX5_back 53 = .ok (.imul, 1) := by decide +kernel
theorem dX5_back_54 : decode cX5_back 54 = .ok (.iadd, 1) := by decide +kernel
theorem dX5_back_55 : decode cX5_back 55 = .ok (.bipush 10, 2) := by decide +kernel
theorem dX5_back_57 : decode cX5_back 57 = .ok (.aload_n 0, 1) := by decide +kernel
theorem dX5_back_58 : decode cX5_back 58 = .ok (.getfield 17, 3) := by decide +kernel
theorem dX5_back_61 : decode cX5_back 61 = .ok (.iconst 0, 1) := by decide +kernel
theorem dX5_back_62 : decode cX5_back 62 = .ok (.iaload, 1) := by decide +kernel
theorem dX5_back_63 : decode cX5_back 63 = .ok (.iload_n 1, 1) := by decide +kernel
theorem dX5_back_64 : decode cX5_back 64 = .ok (.isub, 1) := by decide +kernel
theorem dX5_back_65 : decode cX5_back 65 = .ok (.imul, 1) := by decide +kernel
theorem dX5_back_66 : decode cX5_back 66 = .ok (.invokestatic 90, 3) := by decide +kernel
theorem dX5_back_69 : decode cX5_back 69 = .ok (.aload_n 0, 1) := by decide +kernel
theorem dX5_back_70 : decode cX5_back 70 = .ok (.getfield 17, 3) := by decide +kernel
theorem dX5_back_73 : decode cX5_back 73 = .ok (.iconst 0, 1) := by decide +kernel
theorem dX5_back_74 : decode cX5_back 74 = .ok (.iaload, 1) := by decide +kernel
theorem dX5_back_75 : decode cX5_back 75 = .ok (.ireturn, 1) := by decide +kernel
set_option maxRecDepth 20000 in
theorem ggX5_isBase_X5_in : GoodIn wsX5_isBase wsX5_in := goodIn_r _ [4] (by decide +kernel) (by decide +kernel)
set_option maxRecDepth 20000 in
theorem gX5_isBase_X5_in : GoodIn wsX5_isBase (va_wsS RX5 55 yX5_in wsX5_in) := goodIn_app (goodIn_of _ (by decide +kernel)) ggX5_isBase_X5_in
theorem dX5_isBase_0 : decode cX5_isBase 0 = .ok (.iload_n 0, 1) := by decide +kernel
theorem dX5_isBase_1 : decode cX5_isBase 1 = .ok (.iconst 0, 1) := by decide +kernel
theorem dX5_isBase_2 : decode cX5_isBase 2 = .ok (.iconst 3, 1) := by decide +kernel
theorem dX5_isBase_3 : decode cX5_isBase 3 = .ok (.invokestatic 55, 3) := by decide +kernel
theorem dX5_isBase_6 : decode cX5_isBase 6 = .ok (.ireturn, 1) := by decide +kernel
set_option maxRecDepth 20000 in
theorem ggX5_scale_X5_isBase : GoodIn wsX5_scale wsX5_isBase := goodIn_r _ [7, 8, 9, 6, 10] (by decide +kernel) (by decide +kernel)
set_option maxRecDepth 20000 in
theorem gX5_scale_X5_isBase : GoodIn wsX5_scale (va_wsS RX5 199 yX5_isBase wsX5_isBase) := goodIn_app (goodIn_of _ (by decide +kernel)) ggX5_scale_X5_isBase
set_option maxRecDepth 20000 in
theorem ggX5_scale_X5_in : GoodIn wsX5_scale wsX5_in := goodIn_r _ [10] (by decide +kernel) (by decide +kernel)
set_option maxRecDepth 20000 in
theorem gX5_scale_X5_in : GoodIn wsX5_scale (va_wsS RX5 55 yX5_in wsX5_in) := goodIn_app (goodIn_of _ (by decide +kernel)) ggX5_scale_X5_in
set_option maxRecDepth 20000 in
theorem ggX5_scale_X5_notes : GoodIn wsX5_scale wsX5_notes := goodIn_r _ [14, 15, 16, 3, 17, 18, 6, 19, 20, 21, 22, 23, 24, 25, 26, 27, 28, 29, 30, 31, 32, 33, 34, 35, 36, 37, 38, 39, 40] (by decide +kernel) (by decide +kernel)
set_option maxRecDepth 20000 in
theorem gX5_scale_X5_notes : GoodIn wsX5_scale (wsV RX5 192 RX5 yX5_notes wsX5_notes) := goodIn_app (goodIn_of _ (by decide +kernel)) ggX5_scale_X5_notes
theorem dX5_scale_0 : decode cX5_scale 0 = .ok (.iload_n 1, 1) := by decide +kernel
theorem dX5_scale_1 : decode cX5_scale 1 = .ok (.invokestatic 199, 3) := by decide +kernel
theorem dX5_scale_4 : decode cX5_scale 4 = .ok (.ifCond .ne 6, 3) := by decide +kernel
theorem dX5_scale_7 : decode cX5_scale 7 = .ok (.ldc 198, 2) := by decide +kernel
theorem dX5_scale_9 : decode cX5_scale 9 = .ok (.ireturn, 1) := by decide +kernel
theorem dX5_scale_10 : decode cX5_scale 10 = .ok (.iload_n 2, 1) := by decide +kernel
theorem dX5_scale_11 : decode cX5_scale 11 = .ok (.iconst 1, 1) := by decide +kernel
theorem dX5_scale_12 : decode cX5_scale 12 = .ok (.bipush 12, 2) := by decide +kernel
theorem dX5_scale_14 : decode cX5_scale 14 = .ok (.invokestatic 55, 3) := by decide +kernel
theorem dX5_scale_17 : decode cX5_scale 17 = .ok (.ifCond .eq 13, 3) := by decide +kernel
theorem dX5_scale_20 : decode cX5_scale 20 = .ok (.iload_n 3, 1) := by decide +kernel
theorem dX5_scale_21 : decode cX5_scale 21 = .ok (.iconst 1, 1) := by decide +kernel
theorem dX5_scale_22 : decode cX5_scale 22 = .ok (.bipush 12, 2) := by decide +kernel
theorem dX5_scale_24 : decode cX5_scale 24 = .ok (.invokestatic 55, 3) := by decide +kernel
theorem dX5_scale_27 : decode cX5_scale 27 = .ok (.ifCond .ne 6, 3) := by decide +kernel
theorem dX5_scale_30 : decode cX5_scale 30 = .ok (.ldc 59, 2) := by decide +kernel
theorem dX5_scale_32 : decode cX5_scale 32 = .ok (.ireturn, 1) := by decide +kernel
theorem dX5_scale_33 : decode cX5_scale 33 = .ok (.aload_n 0, 1) := by decide +kernel
theorem dX5_scale_34 : decode cX5_scale 34 = .ok (.invokevirtual 192, 3) := by decide +kernel
theorem dX5_scale_37 : decode cX5_scale 37 = .ok (.aload_n 0, 1) := by decide +kernel
theorem dX5_scale_38 : decode cX5_scale 38 = .ok (.getfield 17, 3) := by decide +kernel
theorem dX5_scale_41 : decode cX5_scale 41 = .ok (.bipush 61, 2) := by decide +kernel
theorem dX5_scale_43 : decode cX5_scale 43 = .ok (.iload_n 1, 1) := by decide +kernel
theorem dX5_scale_44 : decode cX5_scale 44 = .ok (.iadd, 1) := by decide +kernel
theorem dX5_scale_45 : decode cX5_scale 45 = .ok (.iload_n 2, 1) := by decide +kernel
theorem dX5_scale_46 : decode cX5_scale 46 = .ok (.iastore, 1) := by decide +kernel
theorem dX5_scale_47 : decode cX5_scale 47 = .ok (.aload_n 0, 1) := by decide +kernel
theorem dX5_scale_48 : decode cX5_scale 48 = .ok (.getfield 17, 3) := by decide +kernel
theorem dX5_scale_51 : decode cX5_scale 51 = .ok (.bipush 65, 2) := by decide +kernel
theorem dX5_scale_53 : decode cX5_scale 53 = .ok (.iload_n 1, 1) := by decide +kernel
theorem dX5_scale_54 : decode cX5_scale 54 = .ok (.iadd, 1) := by decide +kernel
theorem dX5_scale_55 : decode cX5_scale 55 = .ok (.iload_n 3, 1) := by decide +kernel
theorem dX5_scale_56 : decode cX5_scale 56 = .ok (.iastore, 1) := by decide +kernel
theorem dX5_scale_57 : decode cX5_scale 57 = .ok (.iconst 0, 1) := by decide +kernel
theorem dX5_scale_58 : decode cX5_scale 58 = .ok (.istore 4, 2) := by decide +kernel
theorem dX5_scale_60 : decode cX5_scale 60 = .ok (.iconst 0, 1) := by decide +kernel
theorem dX5_scale_61 : decode cX5_scale 61 = .ok (.istore 5, 2) := by decide +kernel
theorem dX5_scale_63 : decode cX5_scale 63 = .ok (.iload 5, 2) := by decide +kernel
theorem dX5_scale_65 : decode cX5_scale 65 = .ok (.iconst 4, 1) := by decide +kernel
theorem dX5_scale_66 : decode cX5_scale 66 = .ok (.if_icmp .ge 42, 3) := by decide +kernel
theorem dX5_scale_69 : decode cX5_scale 69 = .ok (.iload 4, 2) := by decide +kernel
theorem dX5_scale_71 : decode cX5_scale 71 = .ok (.aload_n 0, 1) := by decide +kernel
theorem dX5_scale_72 : decode cX5_scale 72 = .ok (.getfield 17, 3) := by decide +kernel
theorem dX5_scale_75 : decode cX5_scale 75 = .ok (.bipush 61, 2) := by decide +kernel
theorem dX5_scale_77 : decode cX5_scale 77 = .ok (.iload 5, 2) := by decide +kernel
theorem dX5_scale_79 : decode cX5_scale 79 = .ok (.iadd, 1) := by decide +kernel
theorem dX5_scale_80 : decode cX5_scale 80 = .ok (.iaload, 1) := by decide +kernel
theorem dX5_scale_81 : decode cX5_scale 81 = .ok (.aload_n 0, 1) := by decide +kernel
theorem dX5_scale_82 : decode cX5_scale 82 = .ok (.getfield 17, 3) := by decide +kernel
theorem dX5_scale_85 : decode cX5_scale 85 = .ok (.bipush 65, 2) := by decide +kernel
theorem dX5_scale_87 : decode cX5_scale 87 = .ok (.iload 5, 2) := by decide +kernel
theorem dX5_scale_89 : decode cX5_scale 89 = .ok (.iadd, 1) := by decide +kernel
theorem dX5_scale_90 : decode cX5_scale 90 = .ok (.iaload, 1) := by decide +kernel
theorem dX5_scale_91 : decode cX5_scale 91 = .ok (.if_icmp .ne 7, 3) := by decide +kernel
theorem dX5_scale_94 : decode cX5_scale 94 = .ok (.iconst 0, 1) := by decide +kernel
theorem dX5_scale_95 : decode cX5_scale 95 = .ok (.goto 4, 3) := by decide +kernel
theorem dX5_scale_98 : decode cX5_scale 98 = .ok (.iconst 1, 1) := by decide +kernel
theorem dX5_scale_99 : decode cX5_scale 99 = .ok (.iadd, 1) := by decide +kernel
theorem dX5_scale_100 : decode cX5_scale 100 = .ok (.istore 4, 2) := by decide +kernel
theorem dX5_scale_102 : decode cX5_scale 102 = .ok (.iinc 5 1, 3) := by decide +kernel
theorem dX5_scale_105 : decode cX5_scale 105 = .ok (.goto (-42), 3) := by decide +kernel
