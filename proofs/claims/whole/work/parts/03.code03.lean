theorem dX4_twoDigits_25 : decode cX4_twoDigits 25 = .ok (.istore 4, 2) := by decide +kernel
theorem dX4_twoDigits_27 : decode cX4_twoDigits 27 = .ok (.iload 4, 2) := by decide +kernel
theorem dX4_twoDigits_29 : decode cX4_twoDigits 29 = .ok (.bipush (-9), 2) := by decide +kernel
theorem dX4_twoDigits_31 : decode cX4_twoDigits 31 = .ok (.if_icmp .ne 8, 3) := by decide +kernel
theorem dX4_twoDigits_34 : decode cX4_twoDigits 34 = .ok (.bipush (-9), 2) := by decide +kernel
theorem dX4_twoDigits_36 : decode cX4_twoDigits 36 = .ok (.goto 10, 3) := by decide +kernel
theorem dX4_twoDigits_39 : decode cX4_twoDigits 39 = .ok (.bipush 10, 2) := by decide +kernel
theorem dX4_twoDigits_41 : decode cX4_twoDigits 41 = .ok (.iload_n 3, 1) := by decide +kernel
theorem dX4_twoDigits_42 : decode cX4_twoDigits 42 = .ok (.imul, 1) := by decide +kernel
theorem dX4_twoDigits_43 : decode cX4_twoDigits 43 = .ok (.iload 4, 2) := by decide +kernel
theorem dX4_twoDigits_45 : decode cX4_twoDigits 45 = .ok (.iadd, 1) := by decide +kernel
theorem dX4_twoDigits_46 : decode cX4_twoDigits 46 = .ok (.ireturn, 1) := by decide +kernel
theorem dX4_isSign_0 : decode cX4_isSign 0 = .ok (.aload_n 0, 1) := by decide +kernel
theorem dX4_isSign_1 : decode cX4_isSign 1 = .ok (.getfield 59, 3) := by decide +kernel
theorem dX4_isSign_4 : decode cX4_isSign 4 = .ok (.iload_n 1, 1) := by decide +kernel
theorem dX4_isSign_5 : decode cX4_isSign 5 = .ok (.if_icmp .ge 16, 3) := by decide +kernel
theorem dX4_isSign_8 : decode cX4_isSign 8 = .ok (.aload_n 0, 1) := by decide +kernel
theorem dX4_isSign_9 : decode cX4_isSign 9 = .ok (.getfield 16, 3) := by decide +kernel
theorem dX4_isSign_12 : decode cX4_isSign 12 = .ok (.aload_n 0, 1) := by decide +kernel
theorem dX4_isSign_13 : decode cX4_isSign 13 = .ok (.getfield 59, 3) := by decide +kernel
theorem dX4_isSign_16 : decode cX4_isSign 16 = .ok (.iaload, 1) := by decide +kernel
theorem dX4_isSign_17 : decode cX4_isSign 17 = .ok (.iload_n 2, 1) := by decide +kernel
theorem dX4_isSign_18 : decode cX4_isSign 18 = .ok (.if_icmp .eq 5, 3) := by decide +kernel
theorem dX4_isSign_21 : decode cX4_isSign 21 = .ok (.iconst 0, 1) := by decide +kernel
theorem dX4_isSign_22 : decode cX4_isSign 22 = .ok (.ireturn, 1) := by decide +kernel
theorem dX4_isSign_23 : decode cX4_isSign 23 = .ok (.aload_n 0, 1) := by decide +kernel
theorem dX4_isSign_24 : decode cX4_isSign 24 = .ok (.dup, 1) := by decide +kernel
theorem dX4_isSign_25 : decode cX4_isSign 25 = .ok (.getfield 59, 3) := by decide +kernel
theorem dX4_isSign_28 : decode cX4_isSign 28 = .ok (.iconst 1, 1) := by decide +kernel
theorem dX4_isSign_29 : decode cX4_isSign 29 = .ok (.iadd, 1) := by decide +kernel
theorem dX4_isSign_30 : decode cX4_isSign 30 = .ok (.putfield 59, 3) := by decide +kernel
theorem dX4_isSign_33 : decode cX4_isSign 33 = .ok (.iconst 1, 1) := by decide +kernel
theorem dX4_isSign_34 : decode cX4_isSign 34 = .ok (.ireturn, 1) := by decide +kernel
set_option maxRecDepth 20000 in
theorem ggX4_town_X4_isSheet : GoodIn wsX4_town wsX4_isSheet := goodIn_r _ [7, 8, 9, 6, 10] (by decide +kernel) (by decide +kernel)
set_option maxRecDepth 20000 in
theorem gX4_town_X4_isSheet : GoodIn wsX4_town (va_wsS RX4 66 yX4_isSheet wsX4_isSheet) := goodIn_app (goodIn_of _ (by decide +kernel)) ggX4_town_X4_isSheet
set_option maxRecDepth 20000 in
theorem ggX4_town_X4_isSort : GoodIn wsX4_town wsX4_isSort := goodIn_r _ [13, 8, 9, 6, 10] (by decide +kernel) (by decide +kernel)
set_option maxRecDepth 20000 in
theorem gX4_town_X4_isSort : GoodIn wsX4_town (va_wsS RX4 70 yX4_isSort wsX4_isSort) := goodIn_app (goodIn_of _ (by decide +kernel)) ggX4_town_X4_isSort
set_option maxRecDepth 20000 in
theorem ggX4_town_X4_against : GoodIn wsX4_town wsX4_against := goodIn_r _ [17, 18, 19, 59, 60, 61, 62, 63, 64, 65, 66, 67, 68, 69, 70, 71, 72, 73, 74, 75, 76, 77, 78, 79, 80, 81, 82] (by decide +kernel) (by decide +kernel)
set_option maxRecDepth 20000 in
theorem gX4_town_X4_against : GoodIn wsX4_town (wsV RX4 73 RX4 yX4_against wsX4_against) := goodIn_app (goodIn_of _ (by decide +kernel)) ggX4_town_X4_against
set_option maxRecDepth 20000 in
theorem ggX4_town_X4_fails : GoodIn wsX4_town wsX4_fails := goodIn_r _ [23, 1, 59, 60, 61, 62, 63, 64, 65, 66, 67, 68, 69, 70, 71, 72, 73, 74, 75, 76, 77, 78, 79, 80, 81, 82] (by decide +kernel) (by decide +kernel)
set_option maxRecDepth 20000 in
theorem gX4_town_X4_fails : GoodIn wsX4_town (wsV RX4 77 RX4 yX4_fails wsX4_fails) := goodIn_app (goodIn_of _ (by decide +kernel)) ggX4_town_X4_fails
set_option maxRecDepth 20000 in
theorem ggX4_town_X4_readTown : GoodIn wsX4_town wsX4_readTown := goodIn_r _ [27, 28, 29, 2, 30, 31, 32, 6, 33, 34, 35, 36, 37, 38, 39, 40, 41, 42, 8, 9, 10, 43, 44, 45, 46, 47, 59, 60, 61, 62, 63, 64, 65, 66, 67, 68, 69, 70, 71, 72, 73, 74, 75, 76, 77, 78, 79, 80, 81, 82] (by decide +kernel) (by decide +kernel)
set_option maxRecDepth 20000 in
theorem gX4_town_X4_readTown : GoodIn wsX4_town (wsV RX4 81 RX4 yX4_readTown wsX4_readTown) := goodIn_app (goodIn_of _ (by decide +kernel)) ggX4_town_X4_readTown
set_option maxRecDepth 20000 in
theorem ggX4_town_X4_takeTown : GoodIn wsX4_town wsX4_takeTown := goodIn_r _ [51, 29, 52, 28, 3, 53, 54, 47, 55, 56, 57, 58, 59, 60, 61, 62, 63, 64, 65, 66, 67, 68, 69, 70, 71, 72, 73, 74, 75, 76, 77, 78, 79, 80, 81, 82] (by decide +kernel) (by decide +kernel)
set_option maxRecDepth 20000 in
theorem gX4_town_X4_takeTown : GoodIn wsX4_town (wsV RX4 84 RX4 yX4_takeTown wsX4_takeTown) := goodIn_app (goodIn_of _ (by decide +kernel)) ggX4_town_X4_takeTown
theorem dX4_town_0 : decode cX4_town 0 = .ok (.aload_n 0, 1) := by decide +kernel
theorem dX4_town_1 : decode cX4_town 1 = .ok (.iconst 0, 1) := by decide +kernel
theorem dX4_town_2 : decode cX4_town 2 = .ok (.putfield 46, 3) := by decide +kernel
theorem dX4_town_5 : decode cX4_town 5 = .ok (.iload_n 1, 1) := by decide +kernel
theorem dX4_town_6 : decode cX4_town 6 = .ok (.invokestatic 66, 3) := by decide +kernel
theorem dX4_town_9 : decode cX4_town 9 = .ok (.ifCond .ne 5, 3) := by decide +kernel
theorem dX4_town_12 : decode cX4_town 12 = .ok (.iconst (-1), 1) := by decide +kernel
theorem dX4_town_13 : decode cX4_town 13 = .ok (.ireturn, 1) := by decide +kernel
theorem dX4_town_14 : decode cX4_town 14 = .ok (.iload_n 2, 1) := by decide +kernel
theorem dX4_town_15 : decode cX4_town 15 = .ok (.invokestatic 70, 3) := by decide +kernel
theorem dX4_town_18 : decode cX4_town 18 = .ok (.ifCond .ne 6, 3) := by decide +kernel
theorem dX4_town_21 : decode cX4_town 21 = .ok (.bipush (-2), 2) := by decide +kernel
theorem dX4_town_23 : decode cX4_town 23 = .ok (.ireturn, 1) := by decide +kernel
theorem dX4_town_24 : decode cX4_town 24 = .ok (.aload_n 0, 1) := by decide +kernel
theorem dX4_town_25 : decode cX4_town 25 = .ok (.iload_n 1, 1) := by decide +kernel
theorem dX4_town_26 : decode cX4_town 26 = .ok (.iload_n 2, 1) := by decide +kernel
theorem dX4_town_27 : decode cX4_town 27 = .ok (.iload_n 3, 1) := by decide +kernel
theorem dX4_town_28 : decode cX4_town 28 = .ok (.iload 4, 2) := by decide +kernel
theorem dX4_town_30 : decode cX4_town 30 = .ok (.invokevirtual 73, 3) := by decide +kernel
theorem dX4_town_33 : decode cX4_town 33 = .ok (.istore 5, 2) := by decide +kernel
theorem dX4_town_35 : decode cX4_town 35 = .ok (.iload 5, 2) := by decide +kernel
theorem dX4_town_37 : decode cX4_town 37 = .ok (.ifCond .eq 10, 3) := by decide +kernel
theorem dX4_town_40 : decode cX4_town 40 = .ok (.aload_n 0, 1) := by decide +kernel
theorem dX4_town_41 : decode cX4_town 41 = .ok (.iload 5, 2) := by decide +kernel
theorem dX4_town_43 : decode cX4_town 43 = .ok (.invokevirtual 77, 3) := by decide +kernel
theorem dX4_town_46 : decode cX4_town 46 = .ok (.ireturn, 1) := by decide +kernel
theorem dX4_town_47 : decode cX4_town 47 = .ok (.bipush 60, 2) := by decide +kernel
theorem dX4_town_49 : decode cX4_town 49 = .ok (.iload_n 1, 1) := by decide +kernel
theorem dX4_town_50 : decode cX4_town 50 = .ok (.imul, 1) := by decide +kernel
theorem dX4_town_51 : decode cX4_town 51 = .ok (.iload_n 3, 1) := by decide +kernel
theorem dX4_town_52 : decode cX4_town 52 = .ok (.iadd, 1) := by decide +kernel
theorem dX4_town_53 : decode cX4_town 53 = .ok (.istore 6, 2) := by decide +kernel
theorem dX4_town_55 : decode cX4_town 55 = .ok (.aload_n 0, 1) := by decide +kernel
theorem dX4_town_56 : decode cX4_town 56 = .ok (.iload 6, 2) := by decide +kernel
theorem dX4_town_58 : decode cX4_town 58 = .ok (.putfield 59, 3) := by decide +kernel
theorem dX4_town_61 : decode cX4_town 61 = .ok (.aload_n 0, 1) := by decide +kernel
theorem dX4_town_62 : decode cX4_town 62 = .ok (.iload 6, 2) := by decide +kernel
theorem dX4_town_64 : decode cX4_town 64 = .ok (.iload 4, 2) := by decide +kernel
theorem dX4_town_66 : decode cX4_town 66 = .ok (.iadd, 1) := by decide +kernel
theorem dX4_town_67 : decode cX4_town 67 = .ok (.invokevirtual 81, 3) := by decide +kernel
theorem dX4_town_70 : decode cX4_town 70 = .ok (.ifCond .ne 14, 3) := by decide +kernel
theorem dX4_town_73 : decode cX4_town 73 = .ok (.bipush (-100), 2) := by decide +kernel
theorem dX4_town_75 : decode cX4_town 75 = .ok (.aload_n 0, 1) := by decide +kernel
theorem dX4_town_76 : decode cX4_town 76 = .ok (.getfield 59, 3) := by decide +kernel
theorem dX4_town_79 : decode cX4_town 79 = .ok (.iload 6, 2) := by decide +kernel
theorem dX4_town_81 : decode cX4_town 81 = .ok (.isub, 1) := by decide +kernel
theorem dX4_town_82 : decode cX4_town 82 = .ok (.isub, 1) := by decide +kernel
theorem dX4_town_83 : decode cX4_town 83 = .ok (.ireturn, 1) := by decide +kernel
theorem dX4_town_84 : decode cX4_town 84 = .ok (.aload_n 0, 1) := by decide +kernel
theorem dX4_town_85 : decode cX4_town 85 = .ok (.invokevirtual 84, 3) := by decide +kernel
theorem dX4_town_88 : decode cX4_town 88 = .ok (.aload_n 0, 1) := by decide +kernel
theorem dX4_town_89 : decode cX4_town 89 = .ok (.getfield 56, 3) := by decide +kernel
theorem dX4_town_92 : decode cX4_town 92 = .ok (.ireturn, 1) := by decide +kernel
theorem dX4_takeTown_0 : decode cX4_takeTown 0 = .ok (.aload_n 0, 1) := by decide +kernel
theorem dX4_takeTown_1 : decode cX4_takeTown 1 = .ok (.aload_n 0, 1) := by decide +kernel
theorem dX4_takeTown_2 : decode cX4_takeTown 2 = .ok (.getfield 87, 3) := by decide +kernel
theorem dX4_takeTown_5 : decode cX4_takeTown 5 = .ok (.putfield 90, 3) := by decide +kernel
theorem dX4_takeTown_8 : decode cX4_takeTown 8 = .ok (.aload_n 0, 1) := by decide +kernel
theorem dX4_takeTown_9 : decode cX4_takeTown 9 = .ok (.aload_n 0, 1) := by decide +kernel
theorem dX4_takeTown_10 : decode cX4_takeTown 10 = .ok (.getfield 93, 3) := by decide +kernel
theorem dX4_takeTown_13 : decode cX4_takeTown 13 = .ok (.putfield 56, 3) := by decide +kernel
theorem dX4_takeTown_16 : decode cX4_takeTown 16 = .ok (.aload_n 0, 1) := by decide +kernel
theorem dX4_takeTown_17 : decode cX4_takeTown 17 = .ok (.iconst 0, 1) := by decide +kernel
theorem dX4_takeTown_18 : decode cX4_takeTown 18 = .ok (.putfield 96, 3) := by decide +kernel
theorem dX4_takeTown_21 : decode cX4_takeTown 21 = .ok (.iconst 0, 1) := by decide +kernel
theorem dX4_takeTown_22 : decode cX4_takeTown 22 = .ok (.istore_n 1, 1) := by decide +kernel
theorem dX4_takeTown_23 : decode cX4_takeTown 23 = .ok (.iload_n 1, 1) := by decide +kernel
theorem dX4_takeTown_24 : decode cX4_takeTown 24 = .ok (.aload_n 0, 1) := by decide +kernel
theorem dX4_takeTown_25 : decode cX4_takeTown 25 = .ok (.getfield 56, 3) := by decide +kernel
theorem dX4_takeTown_28 : decode cX4_takeTown 28 = .ok (.if_icmp .ge 76, 3) := by decide +kernel
theorem dX4_takeTown_31 : decode cX4_takeTown 31 = .ok (.aload_n 0, 1) := by decide +kernel
theorem dX4_takeTown_32 : decode cX4_takeTown 32 = .ok (.getfield 19, 3) := by decide +kernel
theorem dX4_takeTown_35 : decode cX4_takeTown 35 = .ok (.iload_n 1, 1) := by decide +kernel
theorem dX4_takeTown_36 : decode cX4_takeTown 36 = .ok (.aload_n 0, 1) := by decide +kernel
theorem dX4_takeTown_37 : decode cX4_takeTown 37 = .ok (.getfield 28, 3) := by decide +kernel
theorem dX4_takeTown_40 : decode cX4_takeTown 40 = .ok (.iconst 4, 1) := by decide +kernel
theorem dX4_takeTown_41 : decode cX4_takeTown 41 = .ok (.iload_n 1, 1) := by decide +kernel
theorem dX4_takeTown_42 : decode cX4_takeTown 42 = .ok (.imul, 1) := by decide +kernel
theorem dX4_takeTown_43 : decode cX4_takeTown 43 = .ok (.iaload, 1) := by decide +kernel
theorem dX4_takeTown_44 : decode cX4_takeTown 44 = .ok (.iastore, 1) := by decide +kernel
theorem dX4_takeTown_45 : decode cX4_takeTown 45 = .ok (.aload_n 0, 1) := by decide +kernel
theorem dX4_takeTown_46 : decode cX4_takeTown 46 = .ok (.getfield 22, 3) := by decide +kernel
theorem dX4_takeTown_49 : decode cX4_takeTown 49 = .ok (.iload_n 1, 1) := by decide +kernel
theorem dX4_takeTown_50 : decode cX4_takeTown 50 = .ok (.aload_n 0, 1) := by decide +kernel
theorem dX4_takeTown_51 : decode cX4_takeTown 51 = .ok (.getfield 28, 3) := by decide +kernel
theorem dX4_takeTown_54 : decode cX4_takeTown 54 = .ok (.iconst 4, 1) := by decide +kernel
theorem dX4_takeTown_55 : decode cX4_takeTown 55 = .ok (.iload_n 1, 1) := by decide +kernel
theorem dX4_takeTown_56 : decode cX4_takeTown 56 = .ok (.imul, 1) := by decide +kernel
theorem dX4_takeTown_57 : decode cX4_takeTown 57 = .ok (.iconst 1, 1) := by decide +kernel
theorem dX4_takeTown_58 : decode cX4_takeTown 58 = .ok (.iadd, 1) := by decide +kernel
theorem dX4_takeTown_59 : decode cX4_takeTown 59 = .ok (.iaload, 1) := by decide +kernel
theorem dX4_takeTown_60 : decode cX4_takeTown 60 = .ok (.iastore, 1) := by decide +kernel
theorem dX4_takeTown_61 : decode cX4_takeTown 61 = .ok (.aload_n 0, 1) := by decide +kernel
theorem dX4_takeTown_62 : decode cX4_takeTown 62 = .ok (.getfield 25, 3) := by decide +kernel
theorem dX4_takeTown_65 : decode cX4_takeTown 65 = .ok (.iload_n 1, 1) := by decide +kernel
theorem dX4_takeTown_66 : decode cX4_takeTown 66 = .ok (.aload_n 0, 1) := by decide +kernel
theorem dX4_takeTown_67 : decode cX4_takeTown 67 = .ok (.getfield 28, 3) := by decide +kernel
theorem dX4_takeTown_70 : decode cX4_takeTown 70 = .ok (.iconst 4, 1) := by decide +kernel
theorem dX4_takeTown_71 : decode cX4_takeTown 71 = .ok (.iload_n 1, 1) := by decide +kernel
theorem dX4_takeTown_72 : decode cX4_takeTown 72 = .ok (.imul, 1) := by decide +kernel
theorem dX4_takeTown_73 : decode cX4_takeTown 73 = .ok (.iconst 2, 1) := by decide +kernel
theorem dX4_takeTown_74 : decode cX4_takeTown 74 = .ok (.iadd, 1) := by decide +kernel
theorem dX4_takeTown_75 : decode cX4_takeTown 75 = .ok (.iaload, 1) := by decide +kernel
theorem dX4_takeTown_76 : decode cX4_takeTown 76 = .ok (.iastore, 1) := by decide +kernel
theorem dX4_takeTown_77 : decode cX4_takeTown 77 = .ok (.aload_n 0, 1) := by decide +kernel
theorem dX4_takeTown_78 : decode cX4_takeTown 78 = .ok (.dup, 1) := by decide +kernel
theorem dX4_takeTown_79 : decode cX4_takeTown 79 = .ok (.getfield 96, 3) := by decide +kernel
theorem dX4_takeTown_82 : decode cX4_takeTown 82 = .ok (.aload_n 0, 1) := by decide +kernel
theorem dX4_takeTown_83 : decode cX4_takeTown 83 = .ok (.getfield 28, 3) := by decide +kernel
theorem dX4_takeTown_86 : decode cX4_takeTown 86 = .ok (.iconst 4, 1) := by decide +kernel
theorem dX4_takeTown_87 : decode cX4_takeTown 87 = .ok (.iload_n 1, 1) := by decide +kernel
theorem dX4_takeTown_88 : decode cX4_takeTown 88 = .ok (.imul, 1) := by decide +kernel
theorem dX4_takeTown_89 : decode cX4_takeTown 89 = .ok (.iconst 3, 1) := by decide +kernel
theorem dX4_takeTown_90 : decode cX4_takeTown 90 = .ok (.iadd, 1) := by decide +kernel
theorem dX4_takeTown_91 : decode cX4_takeTown 91 = .ok (.iaload, 1) := by decide +kernel
theorem dX4_takeTown_92 : decode cX4_takeTown 92 = .ok (.iload_n 1, 1) := by decide +kernel
theorem dX4_takeTown_93 : decode cX4_takeTown 93 = .ok (.ishl, 1) := by decide +kernel
theorem dX4_takeTown_94 : decode cX4_takeTown 94 = .ok (.ior, 1) := by decide +kernel
theorem dX4_takeTown_95 : decode cX4_takeTown 95 = .ok (.putfield 96, 3) := by decide +kernel
theorem dX4_takeTown_98 : decode cX4_takeTown 98 = .ok (.iinc 1 1, 3) := by decide +kernel
theorem dX4_takeTown_101 : decode cX4_takeTown 101 = .ok (.goto (-78), 3) := by decide +kernel
theorem dX4_takeTown_104 : decode cX4_takeTown 104 = .ok (.aload_n 0, 1) := by decide +kernel
theorem dX4_takeTown_105 : decode cX4_takeTown 105 = .ok (.iconst 0, 1) := by decide +kernel
theorem dX4_takeTown_106 : decode cX4_takeTown 106 = .ok (.putfield 99, 3) := by decide +kernel
theorem dX4_takeTown_109 : decode cX4_takeTown 109 = .ok (.aload_n 0, 1) := by decide +kernel
theorem dX4_takeTown_110 : decode cX4_takeTown 110 = .ok (.iconst 0, 1) := by decide +kernel
theorem dX4_takeTown_111 : decode cX4_takeTown 111 = .ok (.putfield 102, 3) := by decide +kernel
theorem dX4_takeTown_114 : decode cX4_takeTown 114 = .ok (.return_, 1) := by decide +kernel
set_option maxRecDepth 20000 in
theorem ggX4_readTown_X4_isSign : GoodIn wsX4_readTown wsX4_isSign := goodIn_r _ [8, 3, 9, 26, 27, 28, 29, 30, 31, 32, 33, 34, 35, 36, 37, 38, 39, 40, 41, 42, 43, 44, 45, 46, 47, 48, 49] (by decide +kernel) (by decide +kernel)
set_option maxRecDepth 20000 in
theorem gX4_readTown_X4_isSign : GoodIn wsX4_readTown (wsV RX4 105 RX4 yX4_isSign wsX4_isSign) := goodIn_app (goodIn_of _ (by decide +kernel)) ggX4_readTown_X4_isSign
set_option maxRecDepth 20000 in
theorem ggX4_readTown_X4_twoDigits : GoodIn wsX4_readTown wsX4_twoDigits := goodIn_r _ [13, 14, 15, 16, 7, 17, 3, 9, 18, 19, 20, 26, 27, 28, 29, 30, 31, 32, 33, 34, 35, 36, 37, 38, 39, 40, 41, 42, 43, 44, 45, 46, 47, 48, 49] (by decide +kernel) (by decide +kernel)
set_option maxRecDepth 20000 in
theorem gX4_readTown_X4_twoDigits : GoodIn wsX4_readTown (wsV RX4 109 RX4 yX4_twoDigits wsX4_twoDigits) := goodIn_app (goodIn_of _ (by decide +kernel)) ggX4_readTown_X4_twoDigits
set_option maxRecDepth 20000 in
theorem ggX4_readTown_X4_readPerson : GoodIn wsX4_readTown wsX4_readPerson := goodIn_r _ [24, 3, 9, 1, 25, 10, 11, 12, 7, 13, 14, 15, 16, 17, 18, 19, 20, 26, 27, 28, 29, 30, 31, 32, 33, 34, 35, 36, 37, 38, 39, 40, 41, 42, 43, 44, 45, 46, 47, 48, 49] (by decide +kernel) (by decide +kernel)
set_option maxRecDepth 20000 in
theorem gX4_readTown_X4_readPerson : GoodIn wsX4_readTown (wsV RX4 113 RX4 yX4_readPerson wsX4_readPerson) := goodIn_app (goodIn_of _ (by decide +kernel)) ggX4_readTown_X4_readPerson
theorem dX4_readTown_0 : decode cX4_readTown 0 = .ok (.aload_n 0, 1) := by decide +kernel
theorem dX4_readTown_1 : decode cX4_readTown 1 = .ok (.iconst 0, 1) := by decide +kernel
theorem dX4_readTown_2 : decode cX4_readTown 2 = .ok (.putfield 93, 3) := by decide +kernel
theorem dX4_readTown_5 : decode cX4_readTown 5 = .ok (.aload_n 0, 1) := by decide +kernel
theorem dX4_readTown_6 : decode cX4_readTown 6 = .ok (.iload_n 1, 1) := by decide +kernel
theorem dX4_readTown_7 : decode cX4_readTown 7 = .ok (.bipush 116, 2) := by decide +kernel
theorem dX4_readTown_9 : decode cX4_readTown 9 = .ok (.invokevirtual 105, 3) := by decide +kernel
theorem dX4_readTown_12 : decode cX4_readTown 12 = .ok (.ifCond .ne 5, 3) := by decide +kernel
theorem dX4_readTown_15 : decode cX4_readTown 15 = .ok (.iconst 0, 1) := by decide +kernel
theorem dX4_readTown_16 : decode cX4_readTown 16 = .ok (.ireturn, 1) := by decide +kernel
theorem dX4_readTown_17 : decode cX4_readTown 17 = .ok (.aload_n 0, 1) := by decide +kernel
theorem dX4_readTown_18 : decode cX4_readTown 18 = .ok (.aload_n 0, 1) := by decide +kernel
theorem dX4_readTown_19 : decode cX4_readTown 19 = .ok (.iload_n 1, 1) := by decide +kernel
theorem dX4_readTown_20 : decode cX4_readTown 20 = .ok (.iconst 4, 1) := by decide +kernel
theorem dX4_readTown_21 : decode cX4_readTown 21 = .ok (.invokevirtual 109, 3) := by decide +kernel
theorem dX4_readTown_24 : decode cX4_readTown 24 = .ok (.putfield 87, 3) := by decide +kernel
theorem dX4_readTown_27 : decode cX4_readTown 27 = .ok (.aload_n 0, 1) := by decide +kernel
theorem dX4_readTown_28 : decode cX4_readTown 28 = .ok (.getfield 87, 3) := by decide +kernel
theorem dX4_readTown_31 : decode cX4_readTown 31 = .ok (.bipush (-9), 2) := by decide +kernel
theorem dX4_readTown_33 : decode cX4_readTown 33 = .ok (.if_icmp .ne 5, 3) := by decide +kernel
theorem dX4_readTown_36 : decode cX4_readTown 36 = .ok (.iconst 0, 1) := by decide +kernel
theorem dX4_readTown_37 : decode cX4_readTown 37 = .ok (.ireturn, 1) := by decide +kernel
theorem dX4_readTown_38 : decode cX4_readTown 38 = .ok (.aload_n 0, 1) := by decide +kernel
theorem dX4_readTown_39 : decode cX4_readTown 39 = .ok (.getfield 93, 3) := by decide +kernel
theorem dX4_readTown_42 : decode cX4_readTown 42 = .ok (.iconst 2, 1) := by decide +kernel
theorem dX4_readTown_43 : decode cX4_readTown 43 = .ok (.if_icmp .lt 20, 3) := by decide +kernel
theorem dX4_readTown_46 : decode cX4_readTown 46 = .ok (.aload_n 0, 1) := by decide +kernel
theorem dX4_readTown_47 : decode cX4_readTown 47 = .ok (.getfield 93, 3) := by decide +kernel
theorem dX4_readTown_50 : decode cX4_readTown 50 = .ok (.bipush 6, 2) := by decide +kernel
theorem dX4_readTown_52 : decode cX4_readTown 52 = .ok (.if_icmp .ge 31, 3) := by decide +kernel
theorem dX4_readTown_55 : decode cX4_readTown 55 = .ok (.aload_n 0, 1) := by decide +kernel
theorem dX4_readTown_56 : decode cX4_readTown 56 = .ok (.getfield 59, 3) := by decide +kernel
theorem dX4_readTown_59 : decode cX4_readTown 59 = .ok (.iload_n 1, 1) := by decide +kernel
theorem dX4_readTown_60 : decode cX4_readTown 60 = .ok (.if_icmp .ge 23, 3) := by decide +kernel
theorem dX4_readTown_63 : decode cX4_readTown 63 = .ok (.aload_n 0, 1) := by decide +kernel
theorem dX4_readTown_64 : decode cX4_readTown 64 = .ok (.iload_n 1, 1) := by decide +kernel
theorem dX4_readTown_65 : decode cX4_readTown 65 = .ok (.bipush 59, 2) := by decide +kernel
theorem dX4_readTown_67 : decode cX4_readTown 67 = .ok (.invokevirtual 105, 3) := by decide +kernel
theorem dX4_readTown_70 : decode cX4_readTown 70 = .ok (.ifCond .eq 11, 3) := by decide +kernel
theorem dX4_readTown_73 : decode cX4_readTown 73 = .ok (.aload_n 0, 1) := by decide +kernel
theorem dX4_readTown_74 : decode cX4_readTown 74 = .ok (.iload_n 1, 1) := by decide +kernel
theorem dX4_readTown_75 : decode cX4_readTown 75 = .ok (.invokevirtual 113, 3) := by decide +kernel
theorem dX4_readTown_78 : decode cX4_readTown 78 = .ok (.ifCond .ne (-40), 3) := by decide +kernel
theorem dX4_readTown_81 : decode cX4_readTown 81 = .ok (.iconst 0, 1) := by decide +kernel
theorem dX4_readTown_82 : decode cX4_readTown 82 = .ok (.ireturn, 1) := by decide +kernel
theorem dX4_readTown_83 : decode cX4_readTown 83 = .ok (.aload_n 0, 1) := by decide +kernel
theorem dX4_readTown_84 : decode cX4_readTown 84 = .ok (.getfield 59, 3) := by decide +kernel
theorem dX4_readTown_87 : decode cX4_readTown 87 = .ok (.iload_n 1, 1) := by decide +kernel
theorem dX4_readTown_88 : decode cX4_readTown 88 = .ok (.if_icmp .ne 7, 3) := by decide +kernel
theorem dX4_readTown_91 : decode cX4_readTown 91 = .ok (.iconst 1, 1) := by decide +kernel
theorem dX4_readTown_92 : decode cX4_readTown 92 = .ok (.goto 4, 3) := by decide +kernel
theorem dX4_readTown_95 : decode cX4_readTown 95 = .ok (.iconst 0, 1) := by decide +kernel
theorem dX4_readTown_96 : decode cX4_readTown 96 = .ok (.ireturn, 1) := by decide +kernel
set_option maxRecDepth 20000 in
theorem ggX4_readPerson_X4_twoDigits : GoodIn wsX4_readPerson wsX4_twoDigits := goodIn_r _ [9, 10, 11, 12, 8, 13, 1, 2, 14, 15, 16, 17, 18, 19, 20, 21, 22, 23, 24, 25, 26, 27, 28, 29, 30, 31, 32, 33, 34, 35, 36, 37, 38, 39, 40] (by decide +kernel) (by decide +kernel)
set_option maxRecDepth 20000 in
theorem gX4_readPerson_X4_twoDigits : GoodIn wsX4_readPerson (wsV RX4 109 RX4 yX4_twoDigits wsX4_twoDigits) := goodIn_app (goodIn_of _ (by decide +kernel)) ggX4_readPerson_X4_twoDigits
set_option maxRecDepth 20000 in
theorem ggX4_readPerson_X4_digit : GoodIn wsX4_readPerson wsX4_digit := goodIn_r _ [13, 1, 2, 14, 15, 8, 16, 17, 18, 19, 20, 21, 22, 23, 24, 25, 26, 27, 28, 29, 30, 31, 32, 33, 34, 35, 36, 37, 38, 39, 40] (by decide +kernel) (by decide +kernel)
set_option maxRecDepth 20000 in
theorem gX4_readPerson_X4_digit : GoodIn wsX4_readPerson (wsV RX4 62 RX4 yX4_digit wsX4_digit) := goodIn_app (goodIn_of _ (by decide +kernel)) ggX4_readPerson_X4_digit
theorem dX4_readPerson_0 : decode cX4_readPerson 0 = .ok (.aload_n 0, 1) := by decide +kernel
theorem dX4_readPerson_1 : decode cX4_readPerson 1 = .ok (.getfield 59, 3) := by decide +kernel
theorem dX4_readPerson_4 : decode cX4_readPerson 4 = .ok (.iload_n 1, 1) := by decide +kernel
theorem dX4_readPerson_5 : decode cX4_readPerson 5 = .ok (.if_icmp .ge 15, 3) := by decide +kernel
theorem dX4_readPerson_8 : decode cX4_readPerson 8 = .ok (.aload_n 0, 1) := by decide +kernel
theorem dX4_readPerson_9 : decode cX4_readPerson 9 = .ok (.getfield 16, 3) := by decide +kernel
theorem dX4_readPerson_12 : decode cX4_readPerson 12 = .ok (.aload_n 0, 1) := by decide +kernel
theorem dX4_readPerson_13 : decode cX4_readPerson 13 = .ok (.getfield 59, 3) := by decide +kernel
theorem dX4_readPerson_16 : decode cX4_readPerson 16 = .ok (.iaload, 1) := by decide +kernel
theorem dX4_readPerson_17 : decode cX4_readPerson 17 = .ok (.goto 4, 3) := by decide +kernel
theorem dX4_readPerson_20 : decode cX4_readPerson 20 = .ok (.iconst 0, 1) := by decide +kernel
theorem dX4_readPerson_21 : decode cX4_readPerson 21 = .ok (.istore_n 2, 1) := by decide +kernel
theorem dX4_readPerson_22 : decode cX4_readPerson 22 = .ok (.iconst 4, 1) := by decide +kernel
theorem dX4_readPerson_23 : decode cX4_readPerson 23 = .ok (.aload_n 0, 1) := by decide +kernel
theorem dX4_readPerson_24 : decode cX4_readPerson 24 = .ok (.getfield 93, 3) := by decide +kernel
theorem dX4_readPerson_27 : decode cX4_readPerson 27 = .ok (.imul, 1) := by decide +kernel
theorem dX4_readPerson_28 : decode cX4_readPerson 28 = .ok (.istore_n 3, 1) := by decide +kernel
theorem dX4_readPerson_29 : decode cX4_readPerson 29 = .ok (.aload_n 0, 1) := by decide +kernel
theorem dX4_readPerson_30 : decode cX4_readPerson 30 = .ok (.getfield 28, 3) := by decide +kernel
theorem dX4_readPerson_33 : decode cX4_readPerson 33 = .ok (.iload_n 3, 1) := by decide +kernel
theorem dX4_readPerson_34 : decode cX4_readPerson 34 = .ok (.iload_n 2, 1) := by decide +kernel
theorem dX4_readPerson_35 : decode cX4_readPerson 35 = .ok (.bipush 111, 2) := by decide +kernel
theorem dX4_readPerson_37 : decode cX4_readPerson 37 = .ok (.if_icmp .ne 7, 3) := by decide +kernel
theorem dX4_readPerson_40 : decode cX4_readPerson 40 = .ok (.iconst 0, 1) := by decide +kernel
theorem dX4_readPerson_41 : decode cX4_readPerson 41 = .ok (.goto 25, 3) := by decide +kernel
theorem dX4_readPerson_44 : decode cX4_readPerson 44 = .ok (.iload_n 2, 1) := by decide +kernel
theorem dX4_readPerson_45 : decode cX4_readPerson 45 = .ok (.bipush 115, 2) := by decide +kernel
theorem dX4_readPerson_47 : decode cX4_readPerson 47 = .ok (.if_icmp .ne 7, 3) := by decide +kernel
theorem dX4_readPerson_50 : decode cX4_readPerson 50 = .ok (.iconst 1, 1) := by decide +kernel
theorem dX4_readPerson_51 : decode cX4_readPerson 51 = .ok (.goto 15, 3) := by decide +kernel
theorem dX4_readPerson_54 : decode cX4_readPerson 54 = .ok (.iload_n 2, 1) := by decide +kernel
theorem dX4_readPerson_55 : decode cX4_readPerson 55 = .ok (.bipush 99, 2) := by decide +kernel
theorem dX4_readPerson_57 : decode cX4_readPerson 57 = .ok (.if_icmp .ne 7, 3) := by decide +kernel
theorem dX4_readPerson_60 : decode cX4_readPerson 60 = .ok (.iconst 2, 1) := by decide +kernel
theorem dX4_readPerson_61 : decode cX4_readPerson 61 = .ok (.goto 5, 3) := by decide +kernel
theorem dX4_readPerson_64 : decode cX4_readPerson 64 = .ok (.bipush (-9), 2) := by decide +kernel
theorem dX4_readPerson_66 : decode cX4_readPerson 66 = .ok (.iastore, 1) := by decide +kernel
theorem dX4_readPerson_67 : decode cX4_readPerson 67 = .ok (.aload_n 0, 1) := by decide +kernel
theorem dX4_readPerson_68 : decode cX4_readPerson 68 = .ok (.getfield 28, 3) := by decide +kernel
theorem dX4_readPerson_71 : decode cX4_readPerson 71 = .ok (.iload_n 3, 1) := by decide +kernel
theorem dX4_readPerson_72 : decode cX4_readPerson 72 = .ok (.iaload, 1) := by decide +kernel
theorem dX4_readPerson_73 : decode cX4_readPerson 73 = .ok (.bipush (-9), 2) := by decide +kernel
theorem dX4_readPerson_75 : decode cX4_readPerson 75 = .ok (.if_icmp .ne 5, 3) := by decide +kernel
theorem dX4_readPerson_78 : decode cX4_readPerson 78 = .ok (.iconst 0, 1) := by decide +kernel
theorem dX4_readPerson_79 : decode cX4_readPerson 79 = .ok (.ireturn, 1) := by decide +kernel
theorem dX4_readPerson_80 : decode cX4_readPerson 80 = .ok (.aload_n 0, 1) := by decide +kernel
theorem dX4_readPerson_81 : decode cX4_readPerson 81 = .ok (.dup, 1) := by decide +kernel
theorem dX4_readPerson_82 : decode cX4_readPerson 82 = .ok (.getfield 59, 3) := by decide +kernel
theorem dX4_readPerson_85 : decode cX4_readPerson 85 = .ok (.iconst 1, 1) := by decide +kernel
theorem dX4_readPerson_86 : decode cX4_readPerson 86 = .ok (.iadd, 1) := by decide +kernel
theorem dX4_readPerson_87 : decode cX4_readPerson 87 = .ok (.putfield 59, 3) := by decide +kernel
theorem dX4_readPerson_90 : decode cX4_readPerson 90 = .ok (.aload_n 0, 1) := by decide +kernel
theorem dX4_readPerson_91 : decode cX4_readPerson 91 = .ok (.getfield 28, 3) := by decide +kernel
theorem dX4_readPerson_94 : decode cX4_readPerson 94 = .ok (.iload_n 3, 1) := by decide +kernel
theorem dX4_readPerson_95 : decode cX4_readPerson 95 = .ok (.iconst 1, 1) := by decide +kernel
theorem dX4_readPerson_96 : decode cX4_readPerson 96 = .ok (.iadd, 1) := by decide +kernel
theorem dX4_readPerson_97 : decode cX4_readPerson 97 = .ok (.aload_n 0, 1) := by decide +kernel
theorem dX4_readPerson_98 : decode cX4_readPerson 98 = .ok (.iload_n 1, 1) := by decide +kernel
theorem dX4_readPerson_99 : decode cX4_readPerson 99 = .ok (.iconst 3, 1) := by decide +kernel
theorem dX4_readPerson_100 : decode cX4_readPerson 100 = .ok (.invokevirtual 109, 3) := by decide +kernel
theorem dX4_readPerson_103 : decode cX4_readPerson 103 = .ok (.iastore, 1) := by decide +kernel
theorem dX4_readPerson_104 : decode cX4_readPerson 104 = .ok (.aload_n 0, 1) := by decide +kernel
theorem dX4_readPerson_105 : decode cX4_readPerson 105 = .ok (.getfield 28, 3) := by decide +kernel
theorem dX4_readPerson_108 : decode cX4_readPerson 108 = .ok (.iload_n 3, 1) := by decide +kernel
theorem dX4_readPerson_109 : decode cX4_readPerson 109 = .ok (.iconst 1, 1) := by decide +kernel
theorem dX4_readPerson_110 : decode cX4_readPerson 110 = .ok (.iadd, 1) := by decide +kernel
theorem dX4_readPerson_111 : decode cX4_readPerson 111 = .ok (.iaload, 1) := by decide +kernel
theorem dX4_readPerson_112 : decode cX4_readPerson 112 = .ok (.bipush (-9), 2) := by decide +kernel
theorem dX4_readPerson_114 : decode cX4_readPerson 114 = .ok (.if_icmp .ne 5, 3) := by decide +kernel
theorem dX4_readPerson_117 : decode cX4_readPerson 117 = .ok (.iconst 0, 1) := by decide +kernel
theorem dX4_readPerson_118 : decode cX4_readPerson 118 = .ok (.ireturn, 1) := by decide +kernel
theorem dX4_readPerson_119 : decode cX4_readPerson 119 = .ok (.aload_n 0, 1) := by decide +kernel
theorem dX4_readPerson_120 : decode cX4_readPerson 120 = .ok (.getfield 28, 3) := by decide +kernel
theorem dX4_readPerson_123 : decode cX4_readPerson 123 = .ok (.iload_n 3, 1) := by decide +kernel
theorem dX4_readPerson_124 : decode cX4_readPerson 124 = .ok (.iconst 2, 1) := by decide +kernel
theorem dX4_readPerson_125 : decode cX4_readPerson 125 = .ok (.iadd, 1) := by decide +kernel
theorem dX4_readPerson_126 : decode cX4_readPerson 126 = .ok (.aload_n 0, 1) := by decide +kernel
theorem dX4_readPerson_127 : decode cX4_readPerson 127 = .ok (.iload_n 1, 1) := by decide +kernel
theorem dX4_readPerson_128 : decode cX4_readPerson 128 = .ok (.iconst 1, 1) := by decide +kernel
theorem dX4_readPerson_129 : decode cX4_readPerson 129 = .ok (.bipush 9, 2) := by decide +kernel
theorem dX4_readPerson_131 : decode cX4_readPerson 131 = .ok (.invokevirtual 62, 3) := by decide +kernel
theorem dX4_readPerson_134 : decode cX4_readPerson 134 = .ok (.iastore, 1) := by decide +kernel
theorem dX4_readPerson_135 : decode cX4_readPerson 135 = .ok (.aload_n 0, 1) := by decide +kernel
theorem dX4_readPerson_136 : decode cX4_readPerson 136 = .ok (.getfield 28, 3) := by decide +kernel
theorem dX4_readPerson_139 : decode cX4_readPerson 139 = .ok (.iload_n 3, 1) := by decide +kernel
theorem dX4_readPerson_140 : decode cX4_readPerson 140 = .ok (.iconst 2, 1) := by decide +kernel
theorem dX4_readPerson_141 : decode cX4_readPerson 141 = .ok (.iadd, 1) := by decide +kernel
theorem dX4_readPerson_142 : decode cX4_readPerson 142 = .ok (.iaload, 1) := by decide +kernel
theorem dX4_readPerson_143 : decode cX4_readPerson 143 = .ok (.bipush (-9), 2) := by decide +kernel
theorem dX4_readPerson_145 : decode cX4_readPerson 145 = .ok (.if_icmp .ne 5, 3) := by decide +kernel
theorem dX4_readPerson_148 : decode cX4_readPerson 148 = .ok (.iconst 0, 1) := by decide +kernel
theorem dX4_readPerson_149 : decode cX4_readPerson 149 = .ok (.ireturn, 1) := by decide +kernel
theorem dX4_readPerson_150 : decode cX4_readPerson 150 = .ok (.aload_n 0, 1) := by decide +kernel
theorem dX4_readPerson_151 : decode cX4_readPerson 151 = .ok (.getfield 28, 3) := by decide +kernel
theorem dX4_readPerson_154 : decode cX4_readPerson 154 = .ok (.iload_n 3, 1) := by decide +kernel
theorem dX4_readPerson_155 : decode cX4_readPerson 155 = .ok (.iconst 3, 1) := by decide +kernel
theorem dX4_readPerson_156 : decode cX4_readPerson 156 = .ok (.iadd, 1) := by decide +kernel
theorem dX4_readPerson_157 : decode cX4_readPerson 157 = .ok (.aload_n 0, 1) := by decide +kernel
theorem dX4_readPerson_158 : decode cX4_readPerson 158 = .ok (.iload_n 1, 1) := by decide +kernel
theorem dX4_readPerson_159 : decode cX4_readPerson 159 = .ok (.iconst 0, 1) := by decide +kernel
theorem dX4_readPerson_160 : decode cX4_readPerson 160 = .ok (.iconst 1, 1) := by decide +kernel
theorem dX4_readPerson_161 : decode cX4_readPerson 161 = .ok (.invokevirtual 62, 3) := by decide +kernel
theorem dX4_readPerson_164 : decode cX4_readPerson 164 = .ok (.iastore, 1) := by decide +kernel
theorem dX4_readPerson_165 : decode cX4_readPerson 165 = .ok (.aload_n 0, 1) := by decide +kernel
theorem dX4_readPerson_166 : decode cX4_readPerson 166 = .ok (.dup, 1) := by decide +kernel
theorem dX4_readPerson_167 : decode cX4_readPerson 167 = .ok (.getfield 93, 3) := by decide +kernel
theorem dX4_readPerson_170 : decode cX4_readPerson 170 = .ok (.iconst 1, 1) := by decide +kernel
theorem dX4_readPerson_171 : decode cX4_readPerson 171 = .ok (.iadd, 1) := by decide +kernel
theorem dX4_readPerson_172 : decode cX4_readPerson 172 = .ok (.putfield 93, 3) := by decide +kernel
theorem dX4_readPerson_175 : decode cX4_readPerson 175 = .ok (.aload_n 0, 1) := by decide +kernel
theorem dX4_readPerson_176 : decode cX4_readPerson 176 = .ok (.getfield 28, 3) := by decide +kernel
theorem dX4_readPerson_179 : decode cX4_readPerson 179 = .ok (.iload_n 3, 1) := by decide +kernel
theorem dX4_readPerson_180 : decode cX4_readPerson 180 = .ok (.iconst 3, 1) := by decide +kernel
theorem dX4_readPerson_181 : decode cX4_readPerson 181 = .ok (.iadd, 1) := by decide +kernel
theorem dX4_readPerson_182 : decode cX4_readPerson 182 = .ok (.iaload, 1) := by decide +kernel
theorem dX4_readPerson_183 : decode cX4_readPerson 183 = .ok (.bipush (-9), 2) := by decide +kernel
theorem dX4_readPerson_185 : decode cX4_readPerson 185 = .ok (.if_icmp .eq 7, 3) := by decide +kernel
theorem dX4_readPerson_188 : decode cX4_readPerson 188 = .ok (.iconst 1, 1) := by decide +kernel
theorem dX4_readPerson_189 : decode cX4_readPerson 189 = .ok (.goto 4, 3) := by decide +kernel
theorem dX4_readPerson_192 : decode cX4_readPerson 192 = .ok (.iconst 0, 1) := by decide +kernel
theorem dX4_readPerson_193 : decode cX4_readPerson 193 = .ok (.ireturn, 1) := by decide +kernel
theorem dX4_saysBy_0 : decode cX4_saysBy 0 = .ok (.iload_n 2, 1) := by decide +kernel
theorem dX4_saysBy_1 : decode cX4_saysBy 1 = .ok (.aload_n 0, 1) := by decide +kernel
theorem dX4_saysBy_2 : decode cX4_saysBy 2 = .ok (.getfield 25, 3) := by decide +kernel
theorem dX4_saysBy_5 : decode cX4_saysBy 5 = .ok (.iload_n 1, 1) := by decide +kernel
theorem dX4_saysBy_6 : decode cX4_saysBy 6 = .ok (.iaload, 1) := by decide +kernel
theorem dX4_saysBy_7 : decode cX4_saysBy 7 = .ok (.idiv, 1) := by decide +kernel
theorem dX4_saysBy_8 : decode cX4_saysBy 8 = .ok (.istore_n 3, 1) := by decide +kernel
theorem dX4_saysBy_9 : decode cX4_saysBy 9 = .ok (.aload_n 0, 1) := by decide +kernel
theorem dX4_saysBy_10 : decode cX4_saysBy 10 = .ok (.getfield 19, 3) := by decide +kernel
theorem dX4_saysBy_13 : decode cX4_saysBy 13 = .ok (.iload_n 1, 1) := by decide +kernel
theorem dX4_saysBy_14 : decode cX4_saysBy 14 = .ok (.iaload, 1) := by decide +kernel
theorem dX4_saysBy_15 : decode cX4_saysBy 15 = .ok (.iconst 1, 1) := by decide +kernel
theorem dX4_saysBy_16 : decode cX4_saysBy 16 = .ok (.if_icmp .ne 15, 3) := by decide +kernel
theorem dX4_saysBy_19 : decode cX4_saysBy 19 = .ok (.iload_n 3, 1) := by decide +kernel
theorem dX4_saysBy_20 : decode cX4_saysBy 20 = .ok (.ifCond .le 9, 3) := by decide +kernel
theorem dX4_saysBy_23 : decode cX4_saysBy 23 = .ok (.iload_n 3, 1) := by decide +kernel
theorem dX4_saysBy_24 : decode cX4_saysBy 24 = .ok (.iconst 1, 1) := by decide +kernel
theorem dX4_saysBy_25 : decode cX4_saysBy 25 = .ok (.isub, 1) := by decide +kernel
theorem dX4_saysBy_26 : decode cX4_saysBy 26 = .ok (.goto 4, 3) := by decide +kernel
theorem dX4_saysBy_29 : decode cX4_saysBy 29 = .ok (.iconst 0, 1) := by decide +kernel
theorem dX4_saysBy_30 : decode cX4_saysBy 30 = .ok (.ireturn, 1) := by decide +kernel
theorem dX4_saysBy_31 : decode cX4_saysBy 31 = .ok (.aload_n 0, 1) := by decide +kernel
theorem dX4_saysBy_32 : decode cX4_saysBy 32 = .ok (.getfield 19, 3) := by decide +kernel
theorem dX4_saysBy_35 : decode cX4_saysBy 35 = .ok (.iload_n 1, 1) := by decide +kernel
theorem dX4_saysBy_36 : decode cX4_saysBy 36 = .ok (.iaload, 1) := by decide +kernel
theorem dX4_saysBy_37 : decode cX4_saysBy 37 = .ok (.ifCond .ne 7, 3) := by decide +kernel
theorem dX4_saysBy_40 : decode cX4_saysBy 40 = .ok (.iload_n 3, 1) := by decide +kernel
theorem dX4_saysBy_41 : decode cX4_saysBy 41 = .ok (.goto 6, 3) := by decide +kernel
theorem dX4_saysBy_44 : decode cX4_saysBy 44 = .ok (.iconst 2, 1) := by decide +kernel
theorem dX4_saysBy_45 : decode cX4_saysBy 45 = .ok (.iload_n 3, 1) := by decide +kernel
theorem dX4_saysBy_46 : decode cX4_saysBy 46 = .ok (.imul, 1) := by decide +kernel
theorem dX4_saysBy_47 : decode cX4_saysBy 47 = .ok (.ireturn, 1) := by decide +kernel
set_option maxRecDepth 20000 in
theorem ggX4_ofPerson_X4_isPerson : GoodIn wsX4_ofPerson wsX4_isPerson := goodIn_r _ [9, 10, 15, 16, 17, 18, 19, 20, 21, 22, 23, 24, 25, 26, 27, 28, 29, 30, 31, 32, 33, 34, 35, 36, 37, 38] (by decide +kernel) (by decide +kernel)
set_option maxRecDepth 20000 in
theorem gX4_ofPerson_X4_isPerson : GoodIn wsX4_ofPerson (wsV RX4 116 RX4 yX4_isPerson wsX4_isPerson) := goodIn_app (goodIn_of _ (by decide +kernel)) ggX4_ofPerson_X4_isPerson
set_option maxRecDepth 20000 in
theorem ggX4_ofPerson_X4_saysBy : GoodIn wsX4_ofPerson wsX4_saysBy := goodIn_r _ [14, 3, 1, 15, 16, 17, 18, 19, 20, 21, 22, 23, 24, 25, 26, 27, 28, 29, 30, 31, 32, 33, 34, 35, 36, 37, 38] (by decide +kernel) (by decide +kernel)
set_option maxRecDepth 20000 in
theorem gX4_ofPerson_X4_saysBy : GoodIn wsX4_ofPerson (wsV RX4 119 RX4 yX4_saysBy wsX4_saysBy) := goodIn_app (goodIn_of _ (by decide +kernel)) ggX4_ofPerson_X4_saysBy
theorem dX4_ofPerson_0 : decode cX4_ofPerson 0 = .ok (.aload_n 0, 1) := by decide +kernel
theorem dX4_ofPerson_1 : decode cX4_ofPerson 1 = .ok (.iload_n 1, 1) := by decide +kernel
theorem dX4_ofPerson_2 : decode cX4_ofPerson 2 = .ok (.invokevirtual 116, 3) := by decide +kernel
theorem dX4_ofPerson_5 : decode cX4_ofPerson 5 = .ok (.ifCond .ne 5, 3) := by decide +kernel
theorem dX4_ofPerson_8 : decode cX4_ofPerson 8 = .ok (.iconst (-1), 1) := by decide +kernel
theorem dX4_ofPerson_9 : decode cX4_ofPerson 9 = .ok (.ireturn, 1) := by decide +kernel
theorem dX4_ofPerson_10 : decode cX4_ofPerson 10 = .ok (.iload_n 2, 1) := by decide +kernel
theorem dX4_ofPerson_11 : decode cX4_ofPerson 11 = .ok (.tableswitch 75 0 4 #[33, 40, 47, 54, 63], 33) := by decide +kernel
theorem dX4_ofPerson_44 : decode cX4_ofPerson 44 = .ok (.aload_n 0, 1) := by decide +kernel
theorem dX4_ofPerson_45 : decode cX4_ofPerson 45 = .ok (.getfield 19, 3) := by decide +kernel
theorem dX4_ofPerson_48 : decode cX4_ofPerson 48 = .ok (.iload_n 1, 1) := by decide +kernel
theorem dX4_ofPerson_49 : decode cX4_ofPerson 49 = .ok (.iaload, 1) := by decide +kernel
theorem dX4_ofPerson_50 : decode cX4_ofPerson 50 = .ok (.ireturn, 1) := by decide +kernel
theorem dX4_ofPerson_51 : decode cX4_ofPerson 51 = .ok (.aload_n 0, 1) := by decide +kernel
theorem dX4_ofPerson_52 : decode cX4_ofPerson 52 = .ok (.getfield 22, 3) := by decide +kernel
theorem dX4_ofPerson_55 : decode cX4_ofPerson 55 = .ok (.iload_n 1, 1) := by decide +kernel
theorem dX4_ofPerson_56 : decode cX4_ofPerson 56 = .ok (.iaload, 1) := by decide +kernel
theorem dX4_ofPerson_57 : decode cX4_ofPerson 57 = .ok (.ireturn, 1) := by decide +kernel
theorem dX4_ofPerson_58 : decode cX4_ofPerson 58 = .ok (.aload_n 0, 1) := by decide +kernel
theorem dX4_ofPerson_59 : decode cX4_ofPerson 59 = .ok (.getfield 25, 3) := by decide +kernel
theorem dX4_ofPerson_62 : decode cX4_ofPerson 62 = .ok (.iload_n 1, 1) := by decide +kernel
theorem dX4_ofPerson_63 : decode cX4_ofPerson 63 = .ok (.iaload, 1) := by decide +kernel
theorem dX4_ofPerson_64 : decode cX4_ofPerson 64 = .ok (.ireturn, 1) := by decide +kernel
theorem dX4_ofPerson_65 : decode cX4_ofPerson 65 = .ok (.aload_n 0, 1) := by decide +kernel
theorem dX4_ofPerson_66 : decode cX4_ofPerson 66 = .ok (.getfield 96, 3) := by decide +kernel
theorem dX4_ofPerson_69 : decode cX4_ofPerson 69 = .ok (.iload_n 1, 1) := by decide +kernel
theorem dX4_ofPerson_70 : decode cX4_ofPerson 70 = .ok (.ishr, 1) := by decide +kernel
theorem dX4_ofPerson_71 : decode cX4_ofPerson 71 = .ok (.iconst 1, 1) := by decide +kernel
theorem dX4_ofPerson_72 : decode cX4_ofPerson 72 = .ok (.iand, 1) := by decide +kernel
theorem dX4_ofPerson_73 : decode cX4_ofPerson 73 = .ok (.ireturn, 1) := by decide +kernel
theorem dX4_ofPerson_74 : decode cX4_ofPerson 74 = .ok (.aload_n 0, 1) := by decide +kernel
theorem dX4_ofPerson_75 : decode cX4_ofPerson 75 = .ok (.iload_n 1, 1) := by decide +kernel
theorem dX4_ofPerson_76 : decode cX4_ofPerson 76 = .ok (.aload_n 0, 1) := by decide +kernel
theorem dX4_ofPerson_77 : decode cX4_ofPerson 77 = .ok (.getfield 22, 3) := by decide +kernel
theorem dX4_ofPerson_80 : decode cX4_ofPerson 80 = .ok (.iload_n 1, 1) := by decide +kernel
theorem dX4_ofPerson_81 : decode cX4_ofPerson 81 = .ok (.iaload, 1) := by decide +kernel
theorem dX4_ofPerson_82 : decode cX4_ofPerson 82 = .ok (.invokevirtual 119, 3) := by decide +kernel
theorem dX4_ofPerson_85 : decode cX4_ofPerson 85 = .ok (.ireturn, 1) := by decide +kernel
theorem dX4_ofPerson_86 : decode cX4_ofPerson 86 = .ok (.bipush (-2), 2) := by decide +kernel
theorem dX4_ofPerson_88 : decode cX4_ofPerson 88 = .ok (.ireturn, 1) := by decide +kernel
set_option maxRecDepth 20000 in
theorem ggX4_tune_X4_isPerson : GoodIn wsX4_tune wsX4_isPerson := goodIn_r _ [6, 7, 11, 12, 13, 14, 15, 16, 17, 18, 19, 20, 21, 22, 23, 24, 25, 26, 27, 28, 29, 30, 31, 32, 33, 34] (by decide +kernel) (by decide +kernel)
set_option maxRecDepth 20000 in
theorem gX4_tune_X4_isPerson : GoodIn wsX4_tune (wsV RX4 116 RX4 yX4_isPerson wsX4_isPerson) := goodIn_app (goodIn_of _ (by decide +kernel)) ggX4_tune_X4_isPerson
set_option maxRecDepth 20000 in
theorem ggX4_tune_X4_within : GoodIn wsX4_tune wsX4_within := goodIn_r _ [10] (by decide +kernel) (by decide +kernel)
set_option maxRecDepth 20000 in
theorem gX4_tune_X4_within : GoodIn wsX4_tune (va_wsS RX4 52 yX4_within wsX4_within) := goodIn_app (goodIn_of _ (by decide +kernel)) ggX4_tune_X4_within
theorem dX4_tune_0 : decode cX4_tune 0 = .ok (.aload_n 0, 1) := by decide +kernel
theorem dX4_tune_1 : decode cX4_tune 1 = .ok (.iload_n 1, 1) := by decide +kernel
theorem dX4_tune_2 : decode cX4_tune 2 = .ok (.invokevirtual 116, 3) := by decide +kernel
theorem dX4_tune_5 : decode cX4_tune 5 = .ok (.ifCond .ne 5, 3) := by decide +kernel
theorem dX4_tune_8 : decode cX4_tune 8 = .ok (.iconst (-1), 1) := by decide +kernel
theorem dX4_tune_9 : decode cX4_tune 9 = .ok (.ireturn, 1) := by decide +kernel
theorem dX4_tune_10 : decode cX4_tune 10 = .ok (.iload_n 2, 1) := by decide +kernel
theorem dX4_tune_11 : decode cX4_tune 11 = .ok (.iconst 1, 1) := by decide +kernel
theorem dX4_tune_12 : decode cX4_tune 12 = .ok (.bipush 9, 2) := by decide +kernel
theorem dX4_tune_14 : decode cX4_tune 14 = .ok (.invokestatic 52, 3) := by decide +kernel
theorem dX4_tune_17 : decode cX4_tune 17 = .ok (.ifCond .ne 6, 3) := by decide +kernel
theorem dX4_tune_20 : decode cX4_tune 20 = .ok (.bipush (-2), 2) := by decide +kernel
theorem dX4_tune_22 : decode cX4_tune 22 = .ok (.ireturn, 1) := by decide +kernel
theorem dX4_tune_23 : decode cX4_tune 23 = .ok (.aload_n 0, 1) := by decide +kernel
theorem dX4_tune_24 : decode cX4_tune 24 = .ok (.getfield 25, 3) := by decide +kernel
theorem dX4_tune_27 : decode cX4_tune 27 = .ok (.iload_n 1, 1) := by decide +kernel
theorem dX4_tune_28 : decode cX4_tune 28 = .ok (.iaload, 1) := by decide +kernel
theorem dX4_tune_29 : decode cX4_tune 29 = .ok (.istore_n 3, 1) := by decide +kernel
theorem dX4_tune_30 : decode cX4_tune 30 = .ok (.aload_n 0, 1) := by decide +kernel
theorem dX4_tune_31 : decode cX4_tune 31 = .ok (.getfield 25, 3) := by decide +kernel
theorem dX4_tune_34 : decode cX4_tune 34 = .ok (.iload_n 1, 1) := by decide +kernel
theorem dX4_tune_35 : decode cX4_tune 35 = .ok (.iload_n 2, 1) := by decide +kernel
theorem dX4_tune_36 : decode cX4_tune 36 = .ok (.iastore, 1) := by decide +kernel
theorem dX4_tune_37 : decode cX4_tune 37 = .ok (.iload_n 3, 1) := by decide +kernel
theorem dX4_tune_38 : decode cX4_tune 38 = .ok (.ireturn, 1) := by decide +kernel
set_option maxRecDepth 20000 in
theorem ggX4_saidNow_X4_isOf : GoodIn wsX4_saidNow wsX4_isOf := goodIn_r _ [7] (by decide +kernel) (by decide +kernel)
set_option maxRecDepth 20000 in
theorem gX4_saidNow_X4_isOf : GoodIn wsX4_saidNow (va_wsS RX4 122 yX4_isOf wsX4_isOf) := goodIn_app (goodIn_of _ (by decide +kernel)) ggX4_saidNow_X4_isOf
set_option maxRecDepth 20000 in
theorem ggX4_saidNow_X4_saysBy : GoodIn wsX4_saidNow wsX4_saysBy := goodIn_r _ [11, 12, 13, 14, 15, 16, 17, 18, 19, 20, 21, 22, 23, 24, 25, 26, 27, 28, 29, 30, 31, 32, 33, 34, 35, 36, 37] (by decide +kernel) (by decide +kernel)
set_option maxRecDepth 20000 in
theorem gX4_saidNow_X4_saysBy : GoodIn wsX4_saidNow (wsV RX4 119 RX4 yX4_saysBy wsX4_saysBy) := goodIn_app (goodIn_of _ (by decide +kernel)) ggX4_saidNow_X4_saysBy
theorem dX4_saidNow_0 : decode cX4_saidNow 0 = .ok (.iconst 0, 1) := by decide +kernel
theorem dX4_saidNow_1 : decode cX4_saidNow 1 = .ok (.istore_n 1, 1) := by decide +kernel
theorem dX4_saidNow_2 : decode cX4_saidNow 2 = .ok (.iconst 0, 1) := by decide +kernel
theorem dX4_saidNow_3 : decode cX4_saidNow 3 = .ok (.istore_n 2, 1) := by decide +kernel
theorem dX4_saidNow_4 : decode cX4_saidNow 4 = .ok (.iload_n 2, 1) := by decide +kernel
theorem dX4_saidNow_5 : decode cX4_saidNow 5 = .ok (.aload_n 0, 1) := by decide +kernel
theorem dX4_saidNow_6 : decode cX4_saidNow 6 = .ok (.getfield 56, 3) := by decide +kernel
theorem dX4_saidNow_9 : decode cX4_saidNow 9 = .ok (.if_icmp .ge 38, 3) := by decide +kernel
theorem dX4_saidNow_12 : decode cX4_saidNow 12 = .ok (.iload_n 1, 1) := by decide +kernel
theorem dX4_saidNow_13 : decode cX4_saidNow 13 = .ok (.aload_n 0, 1) := by decide +kernel
theorem dX4_saidNow_14 : decode cX4_saidNow 14 = .ok (.getfield 96, 3) := by decide +kernel
theorem dX4_saidNow_17 : decode cX4_saidNow 17 = .ok (.iload_n 2, 1) := by decide +kernel
theorem dX4_saidNow_18 : decode cX4_saidNow 18 = .ok (.invokestatic 122, 3) := by decide +kernel
theorem dX4_saidNow_21 : decode cX4_saidNow 21 = .ok (.ifCond .eq 17, 3) := by decide +kernel
theorem dX4_saidNow_24 : decode cX4_saidNow 24 = .ok (.aload_n 0, 1) := by decide +kernel
theorem dX4_saidNow_25 : decode cX4_saidNow 25 = .ok (.iload_n 2, 1) := by decide +kernel
theorem dX4_saidNow_26 : decode cX4_saidNow 26 = .ok (.aload_n 0, 1) := by decide +kernel
theorem dX4_saidNow_27 : decode cX4_saidNow 27 = .ok (.getfield 22, 3) := by decide +kernel
theorem dX4_saidNow_30 : decode cX4_saidNow 30 = .ok (.iload_n 2, 1) := by decide +kernel
theorem dX4_saidNow_31 : decode cX4_saidNow 31 = .ok (.iaload, 1) := by decide +kernel
theorem dX4_saidNow_32 : decode cX4_saidNow 32 = .ok (.invokevirtual 119, 3) := by decide +kernel
theorem dX4_saidNow_35 : decode cX4_saidNow 35 = .ok (.goto 4, 3) := by decide +kernel
theorem dX4_saidNow_38 : decode cX4_saidNow 38 = .ok (.iconst 0, 1) := by decide +kernel
theorem dX4_saidNow_39 : decode cX4_saidNow 39 = .ok (.iadd, 1) := by decide +kernel
theorem dX4_saidNow_40 : decode cX4_saidNow 40 = .ok (.istore_n 1, 1) := by decide +kernel
theorem dX4_saidNow_41 : decode cX4_saidNow 41 = .ok (.iinc 2 1, 3) := by decide +kernel
theorem dX4_saidNow_44 : decode cX4_saidNow 44 = .ok (.goto (-40), 3) := by decide +kernel
theorem dX4_saidNow_47 : decode cX4_saidNow 47 = .ok (.iload_n 1, 1) := by decide +kernel
theorem dX4_saidNow_48 : decode cX4_saidNow 48 = .ok (.ireturn, 1) := by decide +kernel
set_option maxRecDepth 20000 in
theorem ggX4_partsOf_X4_isOf : GoodIn wsX4_partsOf wsX4_isOf := goodIn_r _ [6] (by decide +kernel) (by decide +kernel)
set_option maxRecDepth 20000 in
theorem gX4_partsOf_X4_isOf : GoodIn wsX4_partsOf (va_wsS RX4 122 yX4_isOf wsX4_isOf) := goodIn_app (goodIn_of _ (by decide +kernel)) ggX4_partsOf_X4_isOf
theorem dX4_partsOf_0 : decode cX4_partsOf 0 = .ok (.iconst 0, 1) := by decide +kernel
theorem dX4_partsOf_1 : decode cX4_partsOf 1 = .ok (.istore_n 2, 1) := by decide +kernel
theorem dX4_partsOf_2 : decode cX4_partsOf 2 = .ok (.iconst 0, 1) := by decide +kernel
theorem dX4_partsOf_3 : decode cX4_partsOf 3 = .ok (.istore_n 3, 1) := by decide +kernel
theorem dX4_partsOf_4 : decode cX4_partsOf 4 = .ok (.iload_n 3, 1) := by decide +kernel
theorem dX4_partsOf_5 : decode cX4_partsOf 5 = .ok (.aload_n 0, 1) := by decide +kernel
theorem dX4_partsOf_6 : decode cX4_partsOf 6 = .ok (.getfield 56, 3) := by decide +kernel
theorem dX4_partsOf_9 : decode cX4_partsOf 9 = .ok (.if_icmp .ge 30, 3) := by decide +kernel
theorem dX4_partsOf_12 : decode cX4_partsOf 12 = .ok (.iload_n 2, 1) := by decide +kernel
theorem dX4_partsOf_13 : decode cX4_partsOf 13 = .ok (.iload_n 1, 1) := by decide +kernel
theorem dX4_partsOf_14 : decode cX4_partsOf 14 = .ok (.iload_n 3, 1) := by decide +kernel
theorem dX4_partsOf_15 : decode cX4_partsOf 15 = .ok (.invokestatic 122, 3) := by decide +kernel
theorem dX4_partsOf_18 : decode cX4_partsOf 18 = .ok (.ifCond .eq 12, 3) := by decide +kernel
theorem dX4_partsOf_21 : decode cX4_partsOf 21 = .ok (.aload_n 0, 1) := by decide +kernel
theorem dX4_partsOf_22 : decode cX4_partsOf 22 = .ok (.getfield 22, 3) := by decide +kernel
theorem dX4_partsOf_25 : decode cX4_partsOf 25 = .ok (.iload_n 3, 1) := by decide +kernel
theorem dX4_partsOf_26 : decode cX4_partsOf 26 = .ok (.iaload, 1) := by decide +kernel
theorem dX4_partsOf_27 : decode cX4_partsOf 27 = .ok (.goto 4, 3) := by decide +kernel
theorem dX4_partsOf_30 : decode cX4_partsOf 30 = .ok (.iconst 0, 1) := by decide +kernel
theorem dX4_partsOf_31 : decode cX4_partsOf 31 = .ok (.iadd, 1) := by decide +kernel
theorem dX4_partsOf_32 : decode cX4_partsOf 32 = .ok (.istore_n 2, 1) := by decide +kernel
theorem dX4_partsOf_33 : decode cX4_partsOf 33 = .ok (.iinc 3 1, 3) := by decide +kernel
theorem dX4_partsOf_36 : decode cX4_partsOf 36 = .ok (.goto (-32), 3) := by decide +kernel
theorem dX4_partsOf_39 : decode cX4_partsOf 39 = .ok (.iload_n 2, 1) := by decide +kernel
theorem dX4_partsOf_40 : decode cX4_partsOf 40 = .ok (.ireturn, 1) := by decide +kernel
set_option maxRecDepth 20000 in
theorem ggX4_heard_X4_within : GoodIn wsX4_heard wsX4_within := goodIn_r _ [6] (by decide +kernel) (by decide +kernel)
set_option maxRecDepth 20000 in
theorem gX4_heard_X4_within : GoodIn wsX4_heard (va_wsS RX4 52 yX4_within wsX4_within) := goodIn_app (goodIn_of _ (by decide +kernel)) ggX4_heard_X4_within
set_option maxRecDepth 20000 in
theorem ggX4_heard_X4_saidNow : GoodIn wsX4_heard wsX4_saidNow := goodIn_r _ [10, 1, 2, 11, 12, 13, 5, 14, 15, 16, 17, 18, 19, 20, 25, 26, 27, 28, 29, 30, 31, 32, 33, 34, 35, 36, 37, 38, 39, 40, 41, 42, 43, 44, 45, 46, 47, 48] (by decide +kernel) (by decide +kernel)
set_option maxRecDepth 20000 in
theorem gX4_heard_X4_saidNow : GoodIn wsX4_heard (wsV RX4 125 RX4 yX4_saidNow wsX4_saidNow) := goodIn_app (goodIn_of _ (by decide +kernel)) ggX4_heard_X4_saidNow
set_option maxRecDepth 20000 in
theorem ggX4_heard_X4_partsOf : GoodIn wsX4_heard wsX4_partsOf := goodIn_r _ [24, 1, 11, 12, 13, 5, 14, 25, 26, 27, 28, 29, 30, 31, 32, 33, 34, 35, 36, 37, 38, 39, 40, 41, 42, 43, 44, 45, 46, 47, 48] (by decide +kernel) (by decide +kernel)
set_option maxRecDepth 20000 in
theorem gX4_heard_X4_partsOf : GoodIn wsX4_heard (wsV RX4 129 RX4 yX4_partsOf wsX4_partsOf) := goodIn_app (goodIn_of _ (by decide +kernel)) ggX4_heard_X4_partsOf
theorem dX4_heard_0 : decode cX4_heard 0 = .ok (.iload_n 1, 1) := by decide +kernel
theorem dX4_heard_1 : decode cX4_heard 1 = .ok (.iconst 0, 1) := by decide +kernel
theorem dX4_heard_2 : decode cX4_heard 2 = .ok (.iconst 2, 1) := by decide +kernel
theorem dX4_heard_3 : decode cX4_heard 3 = .ok (.invokestatic 52, 3) := by decide +kernel
theorem dX4_heard_6 : decode cX4_heard 6 = .ok (.ifCond .ne 6, 3) := by decide +kernel
theorem dX4_heard_9 : decode cX4_heard 9 = .ok (.bipush (-2), 2) := by decide +kernel
theorem dX4_heard_11 : decode cX4_heard 11 = .ok (.ireturn, 1) := by decide +kernel
theorem dX4_heard_12 : decode cX4_heard 12 = .ok (.aload_n 0, 1) := by decide +kernel
theorem dX4_heard_13 : decode cX4_heard 13 = .ok (.getfield 56, 3) := by decide +kernel
theorem dX4_heard_16 : decode cX4_heard 16 = .ok (.ifCond .ne 6, 3) := by decide +kernel
theorem dX4_heard_19 : decode cX4_heard 19 = .ok (.bipush (-3), 2) := by decide +kernel
theorem dX4_heard_21 : decode cX4_heard 21 = .ok (.ireturn, 1) := by decide +kernel
theorem dX4_heard_22 : decode cX4_heard 22 = .ok (.iload_n 1, 1) := by decide +kernel
theorem dX4_heard_23 : decode cX4_heard 23 = .ok (.ifCond .ne 10, 3) := by decide +kernel
theorem dX4_heard_26 : decode cX4_heard 26 = .ok (.aload_n 0, 1) := by decide +kernel
theorem dX4_heard_27 : decode cX4_heard 27 = .ok (.invokevirtual 125, 3) := by decide +kernel
theorem dX4_heard_30 : decode cX4_heard 30 = .ok (.goto 23, 3) := by decide +kernel
theorem dX4_heard_33 : decode cX4_heard 33 = .ok (.iload_n 1, 1) := by decide +kernel
theorem dX4_heard_34 : decode cX4_heard 34 = .ok (.iconst 1, 1) := by decide +kernel
theorem dX4_heard_35 : decode cX4_heard 35 = .ok (.if_icmp .ne 10, 3) := by decide +kernel
theorem dX4_heard_38 : decode cX4_heard 38 = .ok (.aload_n 0, 1) := by decide +kernel
theorem dX4_heard_39 : decode cX4_heard 39 = .ok (.getfield 96, 3) := by decide +kernel
theorem dX4_heard_42 : decode cX4_heard 42 = .ok (.goto 11, 3) := by decide +kernel
theorem dX4_heard_45 : decode cX4_heard 45 = .ok (.aload_n 0, 1) := by decide +kernel
theorem dX4_heard_46 : decode cX4_heard 46 = .ok (.aload_n 0, 1) := by decide +kernel
theorem dX4_heard_47 : decode cX4_heard 47 = .ok (.getfield 96, 3) := by decide +kernel
theorem dX4_heard_50 : decode cX4_heard 50 = .ok (.invokevirtual 129, 3) := by decide +kernel
theorem dX4_heard_53 : decode cX4_heard 53 = .ok (.ireturn, 1) := by decide +kernel
set_option maxRecDepth 20000 in
theorem ggX4_shareOf_X4_partsOf : GoodIn wsX4_shareOf wsX4_partsOf := goodIn_r _ [6, 1, 7, 8, 9, 5, 10, 14, 15, 16, 17, 18, 19, 20, 21, 22, 23, 24, 25, 26, 27, 28, 29, 30, 31, 32, 33, 34, 35, 36, 37] (by decide +kernel) (by decide +kernel)
set_option maxRecDepth 20000 in
theorem gX4_shareOf_X4_partsOf : GoodIn wsX4_shareOf (wsV RX4 129 RX4 yX4_partsOf wsX4_partsOf) := goodIn_app (goodIn_of _ (by decide +kernel)) ggX4_shareOf_X4_partsOf
set_option maxRecDepth 20000 in
theorem ggX4_shareOf_X4_size : GoodIn wsX4_shareOf wsX4_size := goodIn_r _ [13] (by decide +kernel) (by decide +kernel)
set_option maxRecDepth 20000 in
theorem gX4_shareOf_X4_size : GoodIn wsX4_shareOf (va_wsS RX4 132 yX4_size wsX4_size) := goodIn_app (goodIn_of _ (by decide +kernel)) ggX4_shareOf_X4_size
set_option maxRecDepth 20000 in
theorem ggX4_shareOf_X4_isOf : GoodIn wsX4_shareOf wsX4_isOf := goodIn_r _ [10] (by decide +kernel) (by decide +kernel)
set_option maxRecDepth 20000 in
theorem gX4_shareOf_X4_isOf : GoodIn wsX4_shareOf (va_wsS RX4 122 yX4_isOf wsX4_isOf) := goodIn_app (goodIn_of _ (by decide +kernel)) ggX4_shareOf_X4_isOf
theorem dX4_shareOf_0 : decode cX4_shareOf 0 = .ok (.aload_n 0, 1) := by decide +kernel
theorem dX4_shareOf_1 : decode cX4_shareOf 1 = .ok (.iload_n 1, 1) := by decide +kernel
theorem dX4_shareOf_2 : decode cX4_shareOf 2 = .ok (.invokevirtual 129, 3) := by decide +kernel
theorem dX4_shareOf_5 : decode cX4_shareOf 5 = .ok (.istore 4, 2) := by decide +kernel
theorem dX4_shareOf_7 : decode cX4_shareOf 7 = .ok (.iload_n 1, 1) := by decide +kernel
theorem dX4_shareOf_8 : decode cX4_shareOf 8 = .ok (.invokestatic 132, 3) := by decide +kernel
theorem dX4_shareOf_11 : decode cX4_shareOf 11 = .ok (.istore 5, 2) := by decide +kernel
theorem dX4_shareOf_13 : decode cX4_shareOf 13 = .ok (.iconst 0, 1) := by decide +kernel
theorem dX4_shareOf_14 : decode cX4_shareOf 14 = .ok (.istore 6, 2) := by decide +kernel
theorem dX4_shareOf_16 : decode cX4_shareOf 16 = .ok (.iload_n 2, 1) := by decide +kernel
theorem dX4_shareOf_17 : decode cX4_shareOf 17 = .ok (.istore 7, 2) := by decide +kernel
theorem dX4_shareOf_19 : decode cX4_shareOf 19 = .ok (.iload 7, 2) := by decide +kernel
theorem dX4_shareOf_21 : decode cX4_shareOf 21 = .ok (.iload_n 3, 1) := by decide +kernel
theorem dX4_shareOf_22 : decode cX4_shareOf 22 = .ok (.if_icmp .eq 46, 3) := by decide +kernel
theorem dX4_shareOf_25 : decode cX4_shareOf 25 = .ok (.iload 6, 2) := by decide +kernel
theorem dX4_shareOf_27 : decode cX4_shareOf 27 = .ok (.iload_n 1, 1) := by decide +kernel
theorem dX4_shareOf_28 : decode cX4_shareOf 28 = .ok (.iload 7, 2) := by decide +kernel
theorem dX4_shareOf_30 : decode cX4_shareOf 30 = .ok (.invokestatic 122, 3) := by decide +kernel
theorem dX4_shareOf_33 : decode cX4_shareOf 33 = .ok (.ifCond .eq 7, 3) := by decide +kernel
theorem dX4_shareOf_36 : decode cX4_shareOf 36 = .ok (.iconst 1, 1) := by decide +kernel
theorem dX4_shareOf_37 : decode cX4_shareOf 37 = .ok (.goto 4, 3) := by decide +kernel
theorem dX4_shareOf_40 : decode cX4_shareOf 40 = .ok (.iconst 0, 1) := by decide +kernel
theorem dX4_shareOf_41 : decode cX4_shareOf 41 = .ok (.iadd, 1) := by decide +kernel
theorem dX4_shareOf_42 : decode cX4_shareOf 42 = .ok (.istore 6, 2) := by decide +kernel
theorem dX4_shareOf_44 : decode cX4_shareOf 44 = .ok (.iload 7, 2) := by decide +kernel
theorem dX4_shareOf_46 : decode cX4_shareOf 46 = .ok (.iconst 1, 1) := by decide +kernel
theorem dX4_shareOf_47 : decode cX4_shareOf 47 = .ok (.iadd, 1) := by decide +kernel
theorem dX4_shareOf_48 : decode cX4_shareOf 48 = .ok (.aload_n 0, 1) := by decide +kernel
theorem dX4_shareOf_49 : decode cX4_shareOf 49 = .ok (.getfield 56, 3) := by decide +kernel
theorem dX4_shareOf_52 : decode cX4_shareOf 52 = .ok (.if_icmp .ne 7, 3) := by decide +kernel
theorem dX4_shareOf_55 : decode cX4_shareOf 55 = .ok (.iconst 0, 1) := by decide +kernel
theorem dX4_shareOf_56 : decode cX4_shareOf 56 = .ok (.goto 7, 3) := by decide +kernel
theorem dX4_shareOf_59 : decode cX4_shareOf 59 = .ok (.iload 7, 2) := by decide +kernel
theorem dX4_shareOf_61 : decode cX4_shareOf 61 = .ok (.iconst 1, 1) := by decide +kernel
theorem dX4_shareOf_62 : decode cX4_shareOf 62 = .ok (.iadd, 1) := by decide +kernel
theorem dX4_shareOf_63 : decode cX4_shareOf 63 = .ok (.istore 7, 2) := by decide +kernel
theorem dX4_shareOf_65 : decode cX4_shareOf 65 = .ok (.goto (-46), 3) := by decide +kernel
theorem dX4_shareOf_68 : decode cX4_shareOf 68 = .ok (.iload 4, 2) := by decide +kernel
theorem dX4_shareOf_70 : decode cX4_shareOf 70 = .ok (.iload 5, 2) := by decide +kernel
theorem dX4_shareOf_72 : decode cX4_shareOf 72 = .ok (.idiv, 1) := by decide +kernel
theorem dX4_shareOf_73 : decode cX4_shareOf 73 = .ok (.iload 6, 2) := by decide +kernel
theorem dX4_shareOf_75 : decode cX4_shareOf 75 = .ok (.iload 4, 2) := by decide +kernel
theorem dX4_shareOf_77 : decode cX4_shareOf 77 = .ok (.iload 5, 2) := by decide +kernel
theorem dX4_shareOf_79 : decode cX4_shareOf 79 = .ok (.irem, 1) := by decide +kernel
theorem dX4_shareOf_80 : decode cX4_shareOf 80 = .ok (.if_icmp .ge 7, 3) := by decide +kernel
theorem dX4_shareOf_83 : decode cX4_shareOf 83 = .ok (.iconst 1, 1) := by decide +kernel
theorem dX4_shareOf_84 : decode cX4_shareOf 84 = .ok (.goto 4, 3) := by decide +kernel
theorem dX4_shareOf_87 : decode cX4_shareOf 87 = .ok (.iconst 0, 1) := by decide +kernel
theorem dX4_shareOf_88 : decode cX4_shareOf 88 = .ok (.iadd, 1) := by decide +kernel
theorem dX4_shareOf_89 : decode cX4_shareOf 89 = .ok (.ireturn, 1) := by decide +kernel
set_option maxRecDepth 20000 in
theorem ggX4_doDay_X4_isOf : GoodIn wsX4_doDay wsX4_isOf := goodIn_r _ [8] (by decide +kernel) (by decide +kernel)
set_option maxRecDepth 20000 in
theorem gX4_doDay_X4_isOf : GoodIn wsX4_doDay (va_wsS RX4 122 yX4_isOf wsX4_isOf) := goodIn_app (goodIn_of _ (by decide +kernel)) ggX4_doDay_X4_isOf
set_option maxRecDepth 20000 in
theorem ggX4_doDay_X4_shareOf : GoodIn wsX4_doDay wsX4_shareOf := goodIn_r _ [12, 1, 13, 14, 15, 7, 16, 4, 5, 6, 8, 17, 18, 19, 20, 21, 22, 23, 24, 25, 26, 27, 28, 29, 30, 31, 32, 33, 34, 35, 36, 37, 38, 39, 40, 41, 42, 43] (by decide +kernel) (by decide +kernel)
set_option maxRecDepth 20000 in
theorem gX4_doDay_X4_shareOf : GoodIn wsX4_doDay (wsV RX4 135 RX4 yX4_shareOf wsX4_shareOf) := goodIn_app (goodIn_of _ (by decide +kernel)) ggX4_doDay_X4_shareOf
theorem dX4_doDay_0 : decode cX4_doDay 0 = .ok (.iconst 0, 1) := by decide +kernel
theorem dX4_doDay_1 : decode cX4_doDay 1 = .ok (.istore_n 2, 1) := by decide +kernel
theorem dX4_doDay_2 : decode cX4_doDay 2 = .ok (.iload_n 2, 1) := by decide +kernel
theorem dX4_doDay_3 : decode cX4_doDay 3 = .ok (.aload_n 0, 1) := by decide +kernel
theorem dX4_doDay_4 : decode cX4_doDay 4 = .ok (.getfield 56, 3) := by decide +kernel
theorem dX4_doDay_7 : decode cX4_doDay 7 = .ok (.if_icmp .ge 45, 3) := by decide +kernel
theorem dX4_doDay_10 : decode cX4_doDay 10 = .ok (.aload_n 0, 1) := by decide +kernel
theorem dX4_doDay_11 : decode cX4_doDay 11 = .ok (.getfield 31, 3) := by decide +kernel
theorem dX4_doDay_14 : decode cX4_doDay 14 = .ok (.iload_n 2, 1) := by decide +kernel
theorem dX4_doDay_15 : decode cX4_doDay 15 = .ok (.aload_n 0, 1) := by decide +kernel
theorem dX4_doDay_16 : decode cX4_doDay 16 = .ok (.getfield 96, 3) := by decide +kernel
theorem dX4_doDay_19 : decode cX4_doDay 19 = .ok (.iload_n 2, 1) := by decide +kernel
theorem dX4_doDay_20 : decode cX4_doDay 20 = .ok (.invokestatic 122, 3) := by decide +kernel
theorem dX4_doDay_23 : decode cX4_doDay 23 = .ok (.ifCond .eq 16, 3) := by decide +kernel
theorem dX4_doDay_26 : decode cX4_doDay 26 = .ok (.aload_n 0, 1) := by decide +kernel
theorem dX4_doDay_27 : decode cX4_doDay 27 = .ok (.aload_n 0, 1) := by decide +kernel
theorem dX4_doDay_28 : decode cX4_doDay 28 = .ok (.getfield 96, 3) := by decide +kernel
theorem dX4_doDay_31 : decode cX4_doDay 31 = .ok (.iload_n 1, 1) := by decide +kernel
theorem dX4_doDay_32 : decode cX4_doDay 32 = .ok (.iload_n 2, 1) := by decide +kernel
theorem dX4_doDay_33 : decode cX4_doDay 33 = .ok (.invokevirtual 135, 3) := by decide +kernel
theorem dX4_doDay_36 : decode cX4_doDay 36 = .ok (.goto 9, 3) := by decide +kernel
theorem dX4_doDay_39 : decode cX4_doDay 39 = .ok (.aload_n 0, 1) := by decide +kernel
theorem dX4_doDay_40 : decode cX4_doDay 40 = .ok (.getfield 22, 3) := by decide +kernel
theorem dX4_doDay_43 : decode cX4_doDay 43 = .ok (.iload_n 2, 1) := by decide +kernel
theorem dX4_doDay_44 : decode cX4_doDay 44 = .ok (.iaload, 1) := by decide +kernel
theorem dX4_doDay_45 : decode cX4_doDay 45 = .ok (.iastore, 1) := by decide +kernel
theorem dX4_doDay_46 : decode cX4_doDay 46 = .ok (.iinc 2 1, 3) := by decide +kernel
theorem dX4_doDay_49 : decode cX4_doDay 49 = .ok (.goto (-47), 3) := by decide +kernel
theorem dX4_doDay_52 : decode cX4_doDay 52 = .ok (.iconst 0, 1) := by decide +kernel
theorem dX4_doDay_53 : decode cX4_doDay 53 = .ok (.istore_n 2, 1) := by decide +kernel
theorem dX4_doDay_54 : decode cX4_doDay 54 = .ok (.iload_n 2, 1) := by decide +kernel
theorem dX4_doDay_55 : decode cX4_doDay 55 = .ok (.aload_n 0, 1) := by decide +kernel
theorem dX4_doDay_56 : decode cX4_doDay 56 = .ok (.getfield 56, 3) := by decide +kernel
theorem dX4_doDay_59 : decode cX4_doDay 59 = .ok (.if_icmp .ge 21, 3) := by decide +kernel
theorem dX4_doDay_62 : decode cX4_doDay 62 = .ok (.aload_n 0, 1) := by decide +kernel
theorem dX4_doDay_63 : decode cX4_doDay 63 = .ok (.getfield 22, 3) := by decide +kernel
theorem dX4_doDay_66 : decode cX4_doDay 66 = .ok (.iload_n 2, 1) := by decide +kernel
theorem dX4_doDay_67 : decode cX4_doDay 67 = .ok (.aload_n 0, 1) := by decide +kernel
theorem dX4_doDay_68 : decode cX4_doDay 68 = .ok (.getfield 31, 3) := by decide +kernel
theorem dX4_doDay_71 : decode cX4_doDay 71 = .ok (.iload_n 2, 1) := by decide +kernel
theorem dX4_doDay_72 : decode cX4_doDay 72 = .ok (.iaload, 1) := by decide +kernel
theorem dX4_doDay_73 : decode cX4_doDay 73 = .ok (.iastore, 1) := by decide +kernel
theorem dX4_doDay_74 : decode cX4_doDay 74 = .ok (.iinc 2 1, 3) := by decide +kernel
theorem dX4_doDay_77 : decode cX4_doDay 77 = .ok (.goto (-23), 3) := by decide +kernel
theorem dX4_doDay_80 : decode cX4_doDay 80 = .ok (.return_, 1) := by decide +kernel
set_option maxRecDepth 20000 in
theorem ggX4_day_X4_isPerson : GoodIn wsX4_day wsX4_isPerson := goodIn_r _ [7, 8, 29, 30, 31, 32, 33, 34, 35, 36, 37, 38, 39, 40, 41, 42, 43, 44, 45, 46, 47, 48, 49, 50, 51, 52] (by decide +kernel) (by decide +kernel)
set_option maxRecDepth 20000 in
theorem gX4_day_X4_isPerson : GoodIn wsX4_day (wsV RX4 116 RX4 yX4_isPerson wsX4_isPerson) := goodIn_app (goodIn_of _ (by decide +kernel)) ggX4_day_X4_isPerson
set_option maxRecDepth 20000 in
theorem ggX4_day_X4_partsOf : GoodIn wsX4_day wsX4_partsOf := goodIn_r _ [12, 8, 13, 14, 15, 6, 16, 29, 30, 31, 32, 33, 34, 35, 36, 37, 38, 39, 40, 41, 42, 43, 44, 45, 46, 47, 48, 49, 50, 51, 52] (by decide +kernel) (by decide +kernel)
set_option maxRecDepth 20000 in
theorem gX4_day_X4_partsOf : GoodIn wsX4_day (wsV RX4 129 RX4 yX4_partsOf wsX4_partsOf) := goodIn_app (goodIn_of _ (by decide +kernel)) ggX4_day_X4_partsOf
set_option maxRecDepth 20000 in
theorem ggX4_day_X4_size : GoodIn wsX4_day wsX4_size := goodIn_r _ [19] (by decide +kernel) (by decide +kernel)
set_option maxRecDepth 20000 in
theorem gX4_day_X4_size : GoodIn wsX4_day (va_wsS RX4 132 yX4_size wsX4_size) := goodIn_app (goodIn_of _ (by decide +kernel)) ggX4_day_X4_size
set_option maxRecDepth 20000 in
theorem ggX4_day_X4_doDay : GoodIn wsX4_day wsX4_doDay := goodIn_r _ [23, 8, 24, 1, 13, 14, 15, 6, 16, 25, 26, 27, 28, 9, 10, 11, 12, 17, 18, 19, 29, 30, 31, 32, 33, 34, 35, 36, 37, 38, 39, 40, 41, 42, 43, 44, 45, 46, 47, 48, 49, 50, 51, 52] (by decide +kernel) (by decide +kernel)
set_option maxRecDepth 20000 in
theorem gX4_day_X4_doDay : GoodIn wsX4_day (wsV RX4 138 RX4 yX4_doDay wsX4_doDay) := goodIn_app (goodIn_of _ (by decide +kernel)) ggX4_day_X4_doDay
theorem dX4_day_0 : decode cX4_day 0 = .ok (.aload_n 0, 1) := by decide +kernel
theorem dX4_day_1 : decode cX4_day 1 = .ok (.iload_n 1, 1) := by decide +kernel
theorem dX4_day_2 : decode cX4_day 2 = .ok (.invokevirtual 116, 3) := by decide +kernel
theorem dX4_day_5 : decode cX4_day 5 = .ok (.ifCond .ne 5, 3) := by decide +kernel
theorem dX4_day_8 : decode cX4_day 8 = .ok (.iconst (-1), 1) := by decide +kernel
theorem dX4_day_9 : decode cX4_day 9 = .ok (.ireturn, 1) := by decide +kernel
theorem dX4_day_10 : decode cX4_day 10 = .ok (.aload_n 0, 1) := by decide +kernel
theorem dX4_day_11 : decode cX4_day 11 = .ok (.getfield 96, 3) := by decide +kernel
theorem dX4_day_14 : decode cX4_day 14 = .ok (.ifCond .ne 6, 3) := by decide +kernel
theorem dX4_day_17 : decode cX4_day 17 = .ok (.bipush (-3), 2) := by decide +kernel
theorem dX4_day_19 : decode cX4_day 19 = .ok (.ireturn, 1) := by decide +kernel
theorem dX4_day_20 : decode cX4_day 20 = .ok (.aload_n 0, 1) := by decide +kernel
theorem dX4_day_21 : decode cX4_day 21 = .ok (.aload_n 0, 1) := by decide +kernel
theorem dX4_day_22 : decode cX4_day 22 = .ok (.getfield 96, 3) := by decide +kernel
theorem dX4_day_25 : decode cX4_day 25 = .ok (.invokevirtual 129, 3) := by decide +kernel
theorem dX4_day_28 : decode cX4_day 28 = .ok (.aload_n 0, 1) := by decide +kernel
theorem dX4_day_29 : decode cX4_day 29 = .ok (.getfield 96, 3) := by decide +kernel
theorem dX4_day_32 : decode cX4_day 32 = .ok (.invokestatic 132, 3) := by decide +kernel
theorem dX4_day_35 : decode cX4_day 35 = .ok (.idiv, 1) := by decide +kernel
theorem dX4_day_36 : decode cX4_day 36 = .ok (.istore_n 2, 1) := by decide +kernel
theorem dX4_day_37 : decode cX4_day 37 = .ok (.aload_n 0, 1) := by decide +kernel
theorem dX4_day_38 : decode cX4_day 38 = .ok (.iload_n 1, 1) := by decide +kernel
theorem dX4_day_39 : decode cX4_day 39 = .ok (.invokevirtual 138, 3) := by decide +kernel
theorem dX4_day_42 : decode cX4_day 42 = .ok (.aload_n 0, 1) := by decide +kernel
theorem dX4_day_43 : decode cX4_day 43 = .ok (.dup, 1) := by decide +kernel
theorem dX4_day_44 : decode cX4_day 44 = .ok (.getfield 99, 3) := by decide +kernel
theorem dX4_day_47 : decode cX4_day 47 = .ok (.iconst 1, 1) := by decide +kernel
theorem dX4_day_48 : decode cX4_day 48 = .ok (.iadd, 1) := by decide +kernel
theorem dX4_day_49 : decode cX4_day 49 = .ok (.putfield 99, 3) := by decide +kernel
theorem dX4_day_52 : decode cX4_day 52 = .ok (.iload_n 2, 1) := by decide +kernel
theorem dX4_day_53 : decode cX4_day 53 = .ok (.ireturn, 1) := by decide +kernel
set_option maxRecDepth 20000 in
theorem ggX4_doLeave_X4_isOf : GoodIn wsX4_doLeave wsX4_isOf := goodIn_r _ [8] (by decide +kernel) (by decide +kernel)
set_option maxRecDepth 20000 in
theorem gX4_doLeave_X4_isOf : GoodIn wsX4_doLeave (va_wsS RX4 122 yX4_isOf wsX4_isOf) := goodIn_app (goodIn_of _ (by decide +kernel)) ggX4_doLeave_X4_isOf
theorem dX4_doLeave_0 : decode cX4_doLeave 0 = .ok (.aload_n 0, 1) := by decide +kernel
theorem dX4_doLeave_1 : decode cX4_doLeave 1 = .ok (.dup, 1) := by decide +kernel
theorem dX4_doLeave_2 : decode cX4_doLeave 2 = .ok (.getfield 96, 3) := by decide +kernel
theorem dX4_doLeave_5 : decode cX4_doLeave 5 = .ok (.iconst 1, 1) := by decide +kernel
theorem dX4_doLeave_6 : decode cX4_doLeave 6 = .ok (.iload_n 1, 1) := by decide +kernel
theorem dX4_doLeave_7 : decode cX4_doLeave 7 = .ok (.ishl, 1) := by decide +kernel
theorem dX4_doLeave_8 : decode cX4_doLeave 8 = .ok (.iconst (-1), 1) := by decide +kernel
theorem dX4_doLeave_9 : decode cX4_doLeave 9 = .ok (.ixor, 1) := by decide +kernel
theorem dX4_doLeave_10 : decode cX4_doLeave 10 = .ok (.iand, 1) := by decide +kernel
theorem dX4_doLeave_11 : decode cX4_doLeave 11 = .ok (.putfield 96, 3) := by decide +kernel
theorem dX4_doLeave_14 : decode cX4_doLeave 14 = .ok (.aload_n 0, 1) := by decide +kernel
theorem dX4_doLeave_15 : decode cX4_doLeave 15 = .ok (.getfield 22, 3) := by decide +kernel
theorem dX4_doLeave_18 : decode cX4_doLeave 18 = .ok (.iload_n 1, 1) := by decide +kernel
theorem dX4_doLeave_19 : decode cX4_doLeave 19 = .ok (.iaload, 1) := by decide +kernel
theorem dX4_doLeave_20 : decode cX4_doLeave 20 = .ok (.istore_n 2, 1) := by decide +kernel
theorem dX4_doLeave_21 : decode cX4_doLeave 21 = .ok (.aload_n 0, 1) := by decide +kernel
theorem dX4_doLeave_22 : decode cX4_doLeave 22 = .ok (.getfield 22, 3) := by decide +kernel
theorem dX4_doLeave_25 : decode cX4_doLeave 25 = .ok (.iload_n 1, 1) := by decide +kernel
theorem dX4_doLeave_26 : decode cX4_doLeave 26 = .ok (.iconst 0, 1) := by decide +kernel
theorem dX4_doLeave_27 : decode cX4_doLeave 27 = .ok (.iastore, 1) := by decide +kernel
theorem dX4_doLeave_28 : decode cX4_doLeave 28 = .ok (.aload_n 0, 1) := by decide +kernel
theorem dX4_doLeave_29 : decode cX4_doLeave 29 = .ok (.getfield 96, 3) := by decide +kernel
theorem dX4_doLeave_32 : decode cX4_doLeave 32 = .ok (.ifCond .ne 14, 3) := by decide +kernel
theorem dX4_doLeave_35 : decode cX4_doLeave 35 = .ok (.aload_n 0, 1) := by decide +kernel
theorem dX4_doLeave_36 : decode cX4_doLeave 36 = .ok (.dup, 1) := by decide +kernel
theorem dX4_doLeave_37 : decode cX4_doLeave 37 = .ok (.getfield 90, 3) := by decide +kernel
theorem dX4_doLeave_40 : decode cX4_doLeave 40 = .ok (.iload_n 2, 1) := by decide +kernel
theorem dX4_doLeave_41 : decode cX4_doLeave 41 = .ok (.iadd, 1) := by decide +kernel
theorem dX4_doLeave_42 : decode cX4_doLeave 42 = .ok (.putfield 90, 3) := by decide +kernel
theorem dX4_doLeave_45 : decode cX4_doLeave 45 = .ok (.return_, 1) := by decide +kernel
theorem dX4_doLeave_46 : decode cX4_doLeave 46 = .ok (.iconst 0, 1) := by decide +kernel
theorem dX4_doLeave_47 : decode cX4_doLeave 47 = .ok (.istore_n 3, 1) := by decide +kernel
theorem dX4_doLeave_48 : decode cX4_doLeave 48 = .ok (.iload_n 2, 1) := by decide +kernel
theorem dX4_doLeave_49 : decode cX4_doLeave 49 = .ok (.ifCond .le 48, 3) := by decide +kernel
theorem dX4_doLeave_52 : decode cX4_doLeave 52 = .ok (.aload_n 0, 1) := by decide +kernel
theorem dX4_doLeave_53 : decode cX4_doLeave 53 = .ok (.getfield 96, 3) := by decide +kernel
theorem dX4_doLeave_56 : decode cX4_doLeave 56 = .ok (.iload_n 3, 1) := by decide +kernel
theorem dX4_doLeave_57 : decode cX4_doLeave 57 = .ok (.invokestatic 122, 3) := by decide +kernel
theorem dX4_doLeave_60 : decode cX4_doLeave 60 = .ok (.ifCond .eq 16, 3) := by decide +kernel
theorem dX4_doLeave_63 : decode cX4_doLeave 63 = .ok (.aload_n 0, 1) := by decide +kernel
theorem dX4_doLeave_64 : decode cX4_doLeave 64 = .ok (.getfield 22, 3) := by decide +kernel
theorem dX4_doLeave_67 : decode cX4_doLeave 67 = .ok (.iload_n 3, 1) := by decide +kernel
theorem dX4_doLeave_68 : decode cX4_doLeave 68 = .ok (.dup2, 1) := by decide +kernel
theorem dX4_doLeave_69 : decode cX4_doLeave 69 = .ok (.iaload, 1) := by decide +kernel
theorem dX4_doLeave_70 : decode cX4_doLeave 70 = .ok (.iconst 1, 1) := by decide +kernel
theorem dX4_doLeave_71 : decode cX4_doLeave 71 = .ok (.iadd, 1) := by decide +kernel
theorem dX4_doLeave_72 : decode cX4_doLeave 72 = .ok (.iastore, 1) := by decide +kernel
theorem dX4_doLeave_73 : decode cX4_doLeave 73 = .ok (.iinc 2 (-1), 3) := by decide +kernel
theorem dX4_doLeave_76 : decode cX4_doLeave 76 = .ok (.iload_n 3, 1) := by decide +kernel
theorem dX4_doLeave_77 : decode cX4_doLeave 77 = .ok (.iconst 1, 1) := by decide +kernel
theorem dX4_doLeave_78 : decode cX4_doLeave 78 = .ok (.iadd, 1) := by decide +kernel
theorem dX4_doLeave_79 : decode cX4_doLeave 79 = .ok (.aload_n 0, 1) := by decide +kernel
theorem dX4_doLeave_80 : decode cX4_doLeave 80 = .ok (.getfield 56, 3) := by decide +kernel
theorem dX4_doLeave_83 : decode cX4_doLeave 83 = .ok (.if_icmp .ne 7, 3) := by decide +kernel
theorem dX4_doLeave_86 : decode cX4_doLeave 86 = .ok (.iconst 0, 1) := by decide +kernel
theorem dX4_doLeave_87 : decode cX4_doLeave 87 = .ok (.goto 6, 3) := by decide +kernel
theorem dX4_doLeave_90 : decode cX4_doLeave 90 = .ok (.iload_n 3, 1) := by decide +kernel
theorem dX4_doLeave_91 : decode cX4_doLeave 91 = .ok (.iconst 1, 1) := by decide +kernel
theorem dX4_doLeave_92 : decode cX4_doLeave 92 = .ok (.iadd, 1) := by decide +kernel
theorem dX4_doLeave_93 : decode cX4_doLeave 93 = .ok (.istore_n 3, 1) := by decide +kernel
theorem dX4_doLeave_94 : decode cX4_doLeave 94 = .ok (.goto (-46), 3) := by decide +kernel
theorem dX4_doLeave_97 : decode cX4_doLeave 97 = .ok (.return_, 1) := by decide +kernel
set_option maxRecDepth 20000 in
theorem ggX4_leave_X4_isPerson : GoodIn wsX4_leave wsX4_isPerson := goodIn_r _ [7, 8, 17, 18, 19, 20, 21, 22, 23, 24, 25, 26, 27, 28, 29, 30, 31, 32, 33, 34, 35, 36, 37, 38, 39, 40] (by decide +kernel) (by decide +kernel)
set_option maxRecDepth 20000 in
theorem gX4_leave_X4_isPerson : GoodIn wsX4_leave (wsV RX4 116 RX4 yX4_isPerson wsX4_isPerson) := goodIn_app (goodIn_of _ (by decide +kernel)) ggX4_leave_X4_isPerson
set_option maxRecDepth 20000 in
theorem ggX4_leave_X4_isOf : GoodIn wsX4_leave wsX4_isOf := goodIn_r _ [11] (by decide +kernel) (by decide +kernel)
set_option maxRecDepth 20000 in
theorem gX4_leave_X4_isOf : GoodIn wsX4_leave (va_wsS RX4 122 yX4_isOf wsX4_isOf) := goodIn_app (goodIn_of _ (by decide +kernel)) ggX4_leave_X4_isOf
set_option maxRecDepth 20000 in
theorem ggX4_leave_X4_doLeave : GoodIn wsX4_leave wsX4_doLeave := goodIn_r _ [15, 1, 2, 16, 8, 9, 10, 6, 11, 17, 18, 19, 20, 21, 22, 23, 24, 25, 26, 27, 28, 29, 30, 31, 32, 33, 34, 35, 36, 37, 38, 39, 40] (by decide +kernel) (by decide +kernel)
set_option maxRecDepth 20000 in
theorem gX4_leave_X4_doLeave : GoodIn wsX4_leave (wsV RX4 142 RX4 yX4_doLeave wsX4_doLeave) := goodIn_app (goodIn_of _ (by decide +kernel)) ggX4_leave_X4_doLeave
theorem dX4_leave_0 : decode cX4_leave 0 = .ok (.aload_n 0, 1) := by decide +kernel
theorem dX4_leave_1 : decode cX4_leave 1 = .ok (.iload_n 1, 1) := by decide +kernel
theorem dX4_leave_2 : decode cX4_leave 2 = .ok (.invokevirtual 116, 3) := by decide +kernel
theorem dX4_leave_5 : decode cX4_leave 5 = .ok (.ifCond .ne 5, 3) := by decide +kernel
theorem dX4_leave_8 : decode cX4_leave 8 = .ok (.iconst (-1), 1) := by decide +kernel
theorem dX4_leave_9 : decode cX4_leave 9 = .ok (.ireturn, 1) := by decide +kernel
theorem dX4_leave_10 : decode cX4_leave 10 = .ok (.aload_n 0, 1) := by decide +kernel
theorem dX4_leave_11 : decode cX4_leave 11 = .ok (.getfield 96, 3) := by decide +kernel
theorem dX4_leave_14 : decode cX4_leave 14 = .ok (.iload_n 1, 1) := by decide +kernel
theorem dX4_leave_15 : decode cX4_leave 15 = .ok (.invokestatic 122, 3) := by decide +kernel
theorem dX4_leave_18 : decode cX4_leave 18 = .ok (.ifCond .ne 6, 3) := by decide +kernel
theorem dX4_leave_21 : decode cX4_leave 21 = .ok (.bipush (-3), 2) := by decide +kernel
theorem dX4_leave_23 : decode cX4_leave 23 = .ok (.ireturn, 1) := by decide +kernel
theorem dX4_leave_24 : decode cX4_leave 24 = .ok (.aload_n 0, 1) := by decide +kernel
theorem dX4_leave_25 : decode cX4_leave 25 = .ok (.getfield 22, 3) := by decide +kernel
theorem dX4_leave_28 : decode cX4_leave 28 = .ok (.iload_n 1, 1) := by decide +kernel
theorem dX4_leave_29 : decode cX4_leave 29 = .ok (.iaload, 1) := by decide +kernel
theorem dX4_leave_30 : decode cX4_leave 30 = .ok (.istore_n 2, 1) := by decide +kernel
theorem dX4_leave_31 : decode cX4_leave 31 = .ok (.aload_n 0, 1) := by decide +kernel
theorem dX4_leave_32 : decode cX4_leave 32 = .ok (.iload_n 1, 1) := by decide +kernel
theorem dX4_leave_33 : decode cX4_leave 33 = .ok (.invokevirtual 142, 3) := by decide +kernel
theorem dX4_leave_36 : decode cX4_leave 36 = .ok (.iload_n 2, 1) := by decide +kernel
theorem dX4_leave_37 : decode cX4_leave 37 = .ok (.ireturn, 1) := by decide +kernel
set_option maxRecDepth 20000 in
theorem ggX4_come_X4_isPerson : GoodIn wsX4_come wsX4_isPerson := goodIn_r _ [6, 7, 14, 15, 16, 17, 18, 19, 20, 21, 22, 23, 24, 25, 26, 27, 28, 29, 30, 31, 32, 33, 34, 35, 36, 37] (by decide +kernel) (by decide +kernel)
set_option maxRecDepth 20000 in
theorem gX4_come_X4_isPerson : GoodIn wsX4_come (wsV RX4 116 RX4 yX4_isPerson wsX4_isPerson) := goodIn_app (goodIn_of _ (by decide +kernel)) ggX4_come_X4_isPerson
set_option maxRecDepth 20000 in
theorem ggX4_come_X4_isOf : GoodIn wsX4_come wsX4_isOf := goodIn_r _ [10] (by decide +kernel) (by decide +kernel)
set_option maxRecDepth 20000 in
theorem gX4_come_X4_isOf : GoodIn wsX4_come (va_wsS RX4 122 yX4_isOf wsX4_isOf) := goodIn_app (goodIn_of _ (by decide +kernel)) ggX4_come_X4_isOf
set_option maxRecDepth 20000 in
theorem ggX4_come_X4_size : GoodIn wsX4_come wsX4_size := goodIn_r _ [13] (by decide +kernel) (by decide +kernel)
set_option maxRecDepth 20000 in
theorem gX4_come_X4_size : GoodIn wsX4_come (va_wsS RX4 132 yX4_size wsX4_size) := goodIn_app (goodIn_of _ (by decide +kernel)) ggX4_come_X4_size
theorem dX4_come_0 : decode cX4_come 0 = .ok (.aload_n 0, 1) := by decide +kernel
theorem dX4_come_1 : decode cX4_come 1 = .ok (.iload_n 1, 1) := by decide +kernel
theorem dX4_come_2 : decode cX4_come 2 = .ok (.invokevirtual 116, 3) := by decide +kernel
theorem dX4_come_5 : decode cX4_come 5 = .ok (.ifCond .ne 5, 3) := by decide +kernel
theorem dX4_come_8 : decode cX4_come 8 = .ok (.iconst (-1), 1) := by decide +kernel
theorem dX4_come_9 : decode cX4_come 9 = .ok (.ireturn, 1) := by decide +kernel
theorem dX4_come_10 : decode cX4_come 10 = .ok (.aload_n 0, 1) := by decide +kernel
theorem dX4_come_11 : decode cX4_come 11 = .ok (.getfield 96, 3) := by decide +kernel
theorem dX4_come_14 : decode cX4_come 14 = .ok (.iload_n 1, 1) := by decide +kernel
theorem dX4_come_15 : decode cX4_come 15 = .ok (.invokestatic 122, 3) := by decide +kernel
theorem dX4_come_18 : decode cX4_come 18 = .ok (.ifCond .eq 6, 3) := by decide +kernel
theorem dX4_come_21 : decode cX4_come 21 = .ok (.bipush (-3), 2) := by decide +kernel
theorem dX4_come_23 : decode cX4_come 23 = .ok (.ireturn, 1) := by decide +kernel
theorem dX4_come_24 : decode cX4_come 24 = .ok (.aload_n 0, 1) := by decide +kernel
theorem dX4_come_25 : decode cX4_come 25 = .ok (.dup, 1) := by decide +kernel
theorem dX4_come_26 : decode cX4_come 26 = .ok (.getfield 96, 3) := by decide +kernel
theorem dX4_come_29 : decode cX4_come 29 = .ok (.iconst 1, 1) := by decide +kernel
theorem dX4_come_30 : decode cX4_come 30 = .ok (.iload_n 1, 1) := by decide +kernel
theorem dX4_come_31 : decode cX4_come 31 = .ok (.ishl, 1) := by decide +kernel
theorem dX4_come_32 : decode cX4_come 32 = .ok (.ior, 1) := by decide +kernel
theorem dX4_come_33 : decode cX4_come 33 = .ok (.putfield 96, 3) := by decide +kernel
theorem dX4_come_36 : decode cX4_come 36 = .ok (.aload_n 0, 1) := by decide +kernel
theorem dX4_come_37 : decode cX4_come 37 = .ok (.getfield 96, 3) := by decide +kernel
theorem dX4_come_40 : decode cX4_come 40 = .ok (.invokestatic 132, 3) := by decide +kernel
theorem dX4_come_43 : decode cX4_come 43 = .ok (.ireturn, 1) := by decide +kernel
set_option maxRecDepth 20000 in
theorem ggX4_doGather_X4_isOf : GoodIn wsX4_doGather wsX4_isOf := goodIn_r _ [7] (by decide +kernel) (by decide +kernel)
set_option maxRecDepth 20000 in
theorem gX4_doGather_X4_isOf : GoodIn wsX4_doGather (va_wsS RX4 122 yX4_isOf wsX4_isOf) := goodIn_app (goodIn_of _ (by decide +kernel)) ggX4_doGather_X4_isOf
theorem dX4_doGather_0 : decode cX4_doGather 0 = .ok (.iconst 0, 1) := by decide +kernel
theorem dX4_doGather_1 : decode cX4_doGather 1 = .ok (.istore_n 2, 1) := by decide +kernel
theorem dX4_doGather_2 : decode cX4_doGather 2 = .ok (.iconst 0, 1) := by decide +kernel
theorem dX4_doGather_3 : decode cX4_doGather 3 = .ok (.istore_n 3, 1) := by decide +kernel
theorem dX4_doGather_4 : decode cX4_doGather 4 = .ok (.iload_n 3, 1) := by decide +kernel
theorem dX4_doGather_5 : decode cX4_doGather 5 = .ok (.aload_n 0, 1) := by decide +kernel
theorem dX4_doGather_6 : decode cX4_doGather 6 = .ok (.getfield 56, 3) := by decide +kernel
theorem dX4_doGather_9 : decode cX4_doGather 9 = .ok (.if_icmp .ge 47, 3) := by decide +kernel
theorem dX4_doGather_12 : decode cX4_doGather 12 = .ok (.iload_n 3, 1) := by decide +kernel
theorem dX4_doGather_13 : decode cX4_doGather 13 = .ok (.iload_n 1, 1) := by decide +kernel
theorem dX4_doGather_14 : decode cX4_doGather 14 = .ok (.if_icmp .eq 36, 3) := by decide +kernel
theorem dX4_doGather_17 : decode cX4_doGather 17 = .ok (.aload_n 0, 1) := by decide +kernel
theorem dX4_doGather_18 : decode cX4_doGather 18 = .ok (.getfield 96, 3) := by decide +kernel
theorem dX4_doGather_21 : decode cX4_doGather 21 = .ok (.iload_n 3, 1) := by decide +kernel
theorem dX4_doGather_22 : decode cX4_doGather 22 = .ok (.invokestatic 122, 3) := by decide +kernel
theorem dX4_doGather_25 : decode cX4_doGather 25 = .ok (.ifCond .eq 25, 3) := by decide +kernel
theorem dX4_doGather_28 : decode cX4_doGather 28 = .ok (.aload_n 0, 1) := by decide +kernel
theorem dX4_doGather_29 : decode cX4_doGather 29 = .ok (.getfield 22, 3) := by decide +kernel
theorem dX4_doGather_32 : decode cX4_doGather 32 = .ok (.iload_n 3, 1) := by decide +kernel
theorem dX4_doGather_33 : decode cX4_doGather 33 = .ok (.iaload, 1) := by decide +kernel
theorem dX4_doGather_34 : decode cX4_doGather 34 = .ok (.ifCond .le 16, 3) := by decide +kernel
theorem dX4_doGather_37 : decode cX4_doGather 37 = .ok (.aload_n 0, 1) := by decide +kernel
theorem dX4_doGather_38 : decode cX4_doGather 38 = .ok (.getfield 22, 3) := by decide +kernel
theorem dX4_doGather_41 : decode cX4_doGather 41 = .ok (.iload_n 3, 1) := by decide +kernel
theorem dX4_doGather_42 : decode cX4_doGather 42 = .ok (.dup2, 1) := by decide +kernel
theorem dX4_doGather_43 : decode cX4_doGather 43 = .ok (.iaload, 1) := by decide +kernel
theorem dX4_doGather_44 : decode cX4_doGather 44 = .ok (.iconst 1, 1) := by decide +kernel
theorem dX4_doGather_45 : decode cX4_doGather 45 = .ok (.isub, 1) := by decide +kernel
theorem dX4_doGather_46 : decode cX4_doGather 46 = .ok (.iastore, 1) := by decide +kernel
theorem dX4_doGather_47 : decode cX4_doGather 47 = .ok (.iinc 2 1, 3) := by decide +kernel
theorem dX4_doGather_50 : decode cX4_doGather 50 = .ok (.iinc 3 1, 3) := by decide +kernel
theorem dX4_doGather_53 : decode cX4_doGather 53 = .ok (.goto (-49), 3) := by decide +kernel
theorem dX4_doGather_56 : decode cX4_doGather 56 = .ok (.aload_n 0, 1) := by decide +kernel
theorem dX4_doGather_57 : decode cX4_doGather 57 = .ok (.getfield 22, 3) := by decide +kernel
theorem dX4_doGather_60 : decode cX4_doGather 60 = .ok (.iload_n 1, 1) := by decide +kernel
theorem dX4_doGather_61 : decode cX4_doGather 61 = .ok (.dup2, 1) := by decide +kernel
theorem dX4_doGather_62 : decode cX4_doGather 62 = .ok (.iaload, 1) := by decide +kernel
theorem dX4_doGather_63 : decode cX4_doGather 63 = .ok (.iload_n 2, 1) := by decide +kernel
theorem dX4_doGather_64 : decode cX4_doGather 64 = .ok (.iadd, 1) := by decide +kernel
theorem dX4_doGather_65 : decode cX4_doGather 65 = .ok (.iastore, 1) := by decide +kernel
theorem dX4_doGather_66 : decode cX4_doGather 66 = .ok (.iload_n 2, 1) := by decide +kernel
theorem dX4_doGather_67 : decode cX4_doGather 67 = .ok (.ireturn, 1) := by decide +kernel
set_option maxRecDepth 20000 in
theorem ggX4_gather_X4_isPerson : GoodIn wsX4_gather wsX4_isPerson := goodIn_r _ [6, 7, 16, 17, 18, 19, 20, 21, 22, 23, 24, 25, 26, 27, 28, 29, 30, 31, 32, 33, 34, 35, 36, 37, 38, 39] (by decide +kernel) (by decide +kernel)
set_option maxRecDepth 20000 in
theorem gX4_gather_X4_isPerson : GoodIn wsX4_gather (wsV RX4 116 RX4 yX4_isPerson wsX4_isPerson) := goodIn_app (goodIn_of _ (by decide +kernel)) ggX4_gather_X4_isPerson
set_option maxRecDepth 20000 in
theorem ggX4_gather_X4_isOf : GoodIn wsX4_gather wsX4_isOf := goodIn_r _ [10] (by decide +kernel) (by decide +kernel)
set_option maxRecDepth 20000 in
theorem gX4_gather_X4_isOf : GoodIn wsX4_gather (va_wsS RX4 122 yX4_isOf wsX4_isOf) := goodIn_app (goodIn_of _ (by decide +kernel)) ggX4_gather_X4_isOf
set_option maxRecDepth 20000 in
theorem ggX4_gather_X4_doGather : GoodIn wsX4_gather wsX4_doGather := goodIn_r _ [14, 7, 1, 15, 8, 9, 5, 10, 16, 17, 18, 19, 20, 21, 22, 23, 24, 25, 26, 27, 28, 29, 30, 31, 32, 33, 34, 35, 36, 37, 38, 39] (by decide +kernel) (by decide +kernel)
set_option maxRecDepth 20000 in
theorem gX4_gather_X4_doGather : GoodIn wsX4_gather (wsV RX4 145 RX4 yX4_doGather wsX4_doGather) := goodIn_app (goodIn_of _ (by decide +kernel)) ggX4_gather_X4_doGather
theorem dX4_gather_0 : decode cX4_gather 0 = .ok (.aload_n 0, 1) := by decide +kernel
theorem dX4_gather_1 : decode cX4_gather 1 = .ok (.iload_n 1, 1) := by decide +kernel
theorem dX4_gather_2 : decode cX4_gather 2 = .ok (.invokevirtual 116, 3) := by decide +kernel
theorem dX4_gather_5 : decode cX4_gather 5 = .ok (.ifCond .ne 5, 3) := by decide +kernel
theorem dX4_gather_8 : decode cX4_gather 8 = .ok (.iconst (-1), 1) := by decide +kernel
theorem dX4_gather_9 : decode cX4_gather 9 = .ok (.ireturn, 1) := by decide +kernel
theorem dX4_gather_10 : decode cX4_gather 10 = .ok (.aload_n 0, 1) := by decide +kernel
theorem dX4_gather_11 : decode cX4_gather 11 = .ok (.getfield 96, 3) := by decide +kernel
theorem dX4_gather_14 : decode cX4_gather 14 = .ok (.iload_n 1, 1) := by decide +kernel
theorem dX4_gather_15 : decode cX4_gather 15 = .ok (.invokestatic 122, 3) := by decide +kernel
theorem dX4_gather_18 : decode cX4_gather 18 = .ok (.ifCond .eq 11, 3) := by decide +kernel
theorem dX4_gather_21 : decode cX4_gather 21 = .ok (.aload_n 0, 1) := by decide +kernel
theorem dX4_gather_22 : decode cX4_gather 22 = .ok (.iload_n 1, 1) := by decide +kernel
theorem dX4_gather_23 : decode cX4_gather 23 = .ok (.invokevirtual 145, 3) := by decide +kernel
theorem dX4_gather_26 : decode cX4_gather 26 = .ok (.goto 5, 3) := by decide +kernel
theorem dX4_gather_29 : decode cX4_gather 29 = .ok (.bipush (-3), 2) := by decide +kernel
theorem dX4_gather_31 : decode cX4_gather 31 = .ok (.ireturn, 1) := by decide +kernel
set_option maxRecDepth 20000 in
theorem ggX4_pack_X4_isPerson : GoodIn wsX4_pack wsX4_isPerson := goodIn_r _ [7, 8, 12, 13, 14, 15, 16, 17, 18, 19, 20, 21, 22, 23, 24, 25, 26, 27, 28, 29, 30, 31, 32, 33, 34, 35] (by decide +kernel) (by decide +kernel)
set_option maxRecDepth 20000 in
theorem gX4_pack_X4_isPerson : GoodIn wsX4_pack (wsV RX4 116 RX4 yX4_isPerson wsX4_isPerson) := goodIn_app (goodIn_of _ (by decide +kernel)) ggX4_pack_X4_isPerson
set_option maxRecDepth 20000 in
theorem ggX4_pack_X4_within : GoodIn wsX4_pack wsX4_within := goodIn_r _ [11] (by decide +kernel) (by decide +kernel)
set_option maxRecDepth 20000 in
theorem gX4_pack_X4_within : GoodIn wsX4_pack (va_wsS RX4 52 yX4_within wsX4_within) := goodIn_app (goodIn_of _ (by decide +kernel)) ggX4_pack_X4_within
theorem dX4_pack_0 : decode cX4_pack 0 = .ok (.aload_n 0, 1) := by decide +kernel
theorem dX4_pack_1 : decode cX4_pack 1 = .ok (.iload_n 1, 1) := by decide +kernel
theorem dX4_pack_2 : decode cX4_pack 2 = .ok (.invokevirtual 116, 3) := by decide +kernel
theorem dX4_pack_5 : decode cX4_pack 5 = .ok (.ifCond .ne 5, 3) := by decide +kernel
theorem dX4_pack_8 : decode cX4_pack 8 = .ok (.iconst (-1), 1) := by decide +kernel
theorem dX4_pack_9 : decode cX4_pack 9 = .ok (.ireturn, 1) := by decide +kernel
theorem dX4_pack_10 : decode cX4_pack 10 = .ok (.iload_n 2, 1) := by decide +kernel
theorem dX4_pack_11 : decode cX4_pack 11 = .ok (.iconst 1, 1) := by decide +kernel
theorem dX4_pack_12 : decode cX4_pack 12 = .ok (.bipush 99, 2) := by decide +kernel
theorem dX4_pack_14 : decode cX4_pack 14 = .ok (.invokestatic 52, 3) := by decide +kernel
theorem dX4_pack_17 : decode cX4_pack 17 = .ok (.ifCond .ne 6, 3) := by decide +kernel
theorem dX4_pack_20 : decode cX4_pack 20 = .ok (.bipush (-2), 2) := by decide +kernel
theorem dX4_pack_22 : decode cX4_pack 22 = .ok (.ireturn, 1) := by decide +kernel
theorem dX4_pack_23 : decode cX4_pack 23 = .ok (.aload_n 0, 1) := by decide +kernel
theorem dX4_pack_24 : decode cX4_pack 24 = .ok (.getfield 22, 3) := by decide +kernel
theorem dX4_pack_27 : decode cX4_pack 27 = .ok (.iload_n 1, 1) := by decide +kernel
theorem dX4_pack_28 : decode cX4_pack 28 = .ok (.iaload, 1) := by decide +kernel
theorem dX4_pack_29 : decode cX4_pack 29 = .ok (.iload_n 2, 1) := by decide +kernel
theorem dX4_pack_30 : decode cX4_pack 30 = .ok (.if_icmp .ge 6, 3) := by decide +kernel
theorem dX4_pack_33 : decode cX4_pack 33 = .ok (.bipush (-3), 2) := by decide +kernel
theorem dX4_pack_35 : decode cX4_pack 35 = .ok (.ireturn, 1) := by decide +kernel
theorem dX4_pack_36 : decode cX4_pack 36 = .ok (.aload_n 0, 1) := by decide +kernel
theorem dX4_pack_37 : decode cX4_pack 37 = .ok (.getfield 22, 3) := by decide +kernel
theorem dX4_pack_40 : decode cX4_pack 40 = .ok (.iload_n 1, 1) := by decide +kernel
theorem dX4_pack_41 : decode cX4_pack 41 = .ok (.dup2, 1) := by decide +kernel
theorem dX4_pack_42 : decode cX4_pack 42 = .ok (.iaload, 1) := by decide +kernel
theorem dX4_pack_43 : decode cX4_pack 43 = .ok (.iload_n 2, 1) := by decide +kernel
theorem dX4_pack_44 : decode cX4_pack 44 = .ok (.isub, 1) := by decide +kernel
theorem dX4_pack_45 : decode cX4_pack 45 = .ok (.iastore, 1) := by decide +kernel
theorem dX4_pack_46 : decode cX4_pack 46 = .ok (.aload_n 0, 1) := by decide +kernel
theorem dX4_pack_47 : decode cX4_pack 47 = .ok (.dup, 1) := by decide +kernel
theorem dX4_pack_48 : decode cX4_pack 48 = .ok (.getfield 90, 3) := by decide +kernel
theorem dX4_pack_51 : decode cX4_pack 51 = .ok (.iload_n 2, 1) := by decide +kernel
theorem dX4_pack_52 : decode cX4_pack 52 = .ok (.iadd, 1) := by decide +kernel
theorem dX4_pack_53 : decode cX4_pack 53 = .ok (.putfield 90, 3) := by decide +kernel
theorem dX4_pack_56 : decode cX4_pack 56 = .ok (.aload_n 0, 1) := by decide +kernel
theorem dX4_pack_57 : decode cX4_pack 57 = .ok (.getfield 90, 3) := by decide +kernel
theorem dX4_pack_60 : decode cX4_pack 60 = .ok (.ireturn, 1) := by decide +kernel
theorem dX4_doOpen_0 : decode cX4_doOpen 0 = .ok (.aload_n 0, 1) := by decide +kernel
theorem dX4_doOpen_1 : decode cX4_doOpen 1 = .ok (.getfield 90, 3) := by decide +kernel
theorem dX4_doOpen_4 : decode cX4_doOpen 4 = .ok (.istore_n 2, 1) := by decide +kernel
theorem dX4_doOpen_5 : decode cX4_doOpen 5 = .ok (.aload_n 0, 1) := by decide +kernel
theorem dX4_doOpen_6 : decode cX4_doOpen 6 = .ok (.getfield 22, 3) := by decide +kernel
theorem dX4_doOpen_9 : decode cX4_doOpen 9 = .ok (.iload_n 1, 1) := by decide +kernel
theorem dX4_doOpen_10 : decode cX4_doOpen 10 = .ok (.dup2, 1) := by decide +kernel
theorem dX4_doOpen_11 : decode cX4_doOpen 11 = .ok (.iaload, 1) := by decide +kernel
theorem dX4_doOpen_12 : decode cX4_doOpen 12 = .ok (.iload_n 2, 1) := by decide +kernel
theorem dX4_doOpen_13 : decode cX4_doOpen 13 = .ok (.iadd, 1) := by decide +kernel
theorem dX4_doOpen_14 : decode cX4_doOpen 14 = .ok (.iastore, 1) := by decide +kernel
theorem dX4_doOpen_15 : decode cX4_doOpen 15 = .ok (.aload_n 0, 1) := by decide +kernel
theorem dX4_doOpen_16 : decode cX4_doOpen 16 = .ok (.iconst 0, 1) := by decide +kernel
theorem dX4_doOpen_17 : decode cX4_doOpen 17 = .ok (.putfield 90, 3) := by decide +kernel
theorem dX4_doOpen_20 : decode cX4_doOpen 20 = .ok (.iload_n 2, 1) := by decide +kernel
theorem dX4_doOpen_21 : decode cX4_doOpen 21 = .ok (.ireturn, 1) := by decide +kernel
set_option maxRecDepth 20000 in
theorem ggX4_open_X4_isPerson : GoodIn wsX4_open wsX4_isPerson := goodIn_r _ [7, 8, 17, 18, 19, 20, 21, 22, 23, 24, 25, 26, 27, 28, 29, 30, 31, 32, 33, 34, 35, 36, 37, 38, 39, 40] (by decide +kernel) (by decide +kernel)
set_option maxRecDepth 20000 in
theorem gX4_open_X4_isPerson : GoodIn wsX4_open (wsV RX4 116 RX4 yX4_isPerson wsX4_isPerson) := goodIn_app (goodIn_of _ (by decide +kernel)) ggX4_open_X4_isPerson
set_option maxRecDepth 20000 in
theorem ggX4_open_X4_isOf : GoodIn wsX4_open wsX4_isOf := goodIn_r _ [11] (by decide +kernel) (by decide +kernel)
set_option maxRecDepth 20000 in
theorem gX4_open_X4_isOf : GoodIn wsX4_open (va_wsS RX4 122 yX4_isOf wsX4_isOf) := goodIn_app (goodIn_of _ (by decide +kernel)) ggX4_open_X4_isOf
set_option maxRecDepth 20000 in
theorem ggX4_open_X4_doOpen : GoodIn wsX4_open wsX4_doOpen := goodIn_r _ [15, 2, 16, 17, 18, 19, 20, 21, 22, 23, 24, 25, 26, 27, 28, 29, 30, 31, 32, 33, 34, 35, 36, 37, 38, 39, 40] (by decide +kernel) (by decide +kernel)
set_option maxRecDepth 20000 in
theorem gX4_open_X4_doOpen : GoodIn wsX4_open (wsV RX4 148 RX4 yX4_doOpen wsX4_doOpen) := goodIn_app (goodIn_of _ (by decide +kernel)) ggX4_open_X4_doOpen
theorem dX4_open_0 : decode cX4_open 0 = .ok (.aload_n 0, 1) := by decide +kernel
theorem dX4_open_1 : decode cX4_open 1 = .ok (.iload_n 1, 1) := by decide +kernel
theorem dX4_open_2 : decode cX4_open 2 = .ok (.invokevirtual 116, 3) := by decide +kernel
theorem dX4_open_5 : decode cX4_open 5 = .ok (.ifCond .ne 5, 3) := by decide +kernel
theorem dX4_open_8 : decode cX4_open 8 = .ok (.iconst (-1), 1) := by decide +kernel
theorem dX4_open_9 : decode cX4_open 9 = .ok (.ireturn, 1) := by decide +kernel
theorem dX4_open_10 : decode cX4_open 10 = .ok (.aload_n 0, 1) := by decide +kernel
theorem dX4_open_11 : decode cX4_open 11 = .ok (.getfield 96, 3) := by decide +kernel
theorem dX4_open_14 : decode cX4_open 14 = .ok (.iload_n 1, 1) := by decide +kernel
theorem dX4_open_15 : decode cX4_open 15 = .ok (.invokestatic 122, 3) := by decide +kernel
theorem dX4_open_18 : decode cX4_open 18 = .ok (.ifCond .eq 18, 3) := by decide +kernel
theorem dX4_open_21 : decode cX4_open 21 = .ok (.aload_n 0, 1) := by decide +kernel
theorem dX4_open_22 : decode cX4_open 22 = .ok (.getfield 90, 3) := by decide +kernel
theorem dX4_open_25 : decode cX4_open 25 = .ok (.ifCond .le 11, 3) := by decide +kernel
theorem dX4_open_28 : decode cX4_open 28 = .ok (.aload_n 0, 1) := by decide +kernel
theorem dX4_open_29 : decode cX4_open 29 = .ok (.iload_n 1, 1) := by decide +kernel
theorem dX4_open_30 : decode cX4_open 30 = .ok (.invokevirtual 148, 3) := by decide +kernel
theorem dX4_open_33 : decode cX4_open 33 = .ok (.goto 5, 3) := by decide +kernel
theorem dX4_open_36 : decode cX4_open 36 = .ok (.bipush (-3), 2) := by decide +kernel
theorem dX4_open_38 : decode cX4_open 38 = .ok (.ireturn, 1) := by decide +kernel
theorem dX4_keep_0 : decode cX4_keep 0 = .ok (.aload_n 0, 1) := by decide +kernel
theorem dX4_keep_1 : decode cX4_keep 1 = .ok (.aload_n 0, 1) := by decide +kernel
theorem dX4_keep_2 : decode cX4_keep 2 = .ok (.getfield 90, 3) := by decide +kernel
theorem dX4_keep_5 : decode cX4_keep 5 = .ok (.putfield 151, 3) := by decide +kernel
theorem dX4_keep_8 : decode cX4_keep 8 = .ok (.aload_n 0, 1) := by decide +kernel
theorem dX4_keep_9 : decode cX4_keep 9 = .ok (.aload_n 0, 1) := by decide +kernel
theorem dX4_keep_10 : decode cX4_keep 10 = .ok (.getfield 96, 3) := by decide +kernel
theorem dX4_keep_13 : decode cX4_keep 13 = .ok (.putfield 154, 3) := by decide +kernel
theorem dX4_keep_16 : decode cX4_keep 16 = .ok (.iconst 0, 1) := by decide +kernel
theorem dX4_keep_17 : decode cX4_keep 17 = .ok (.istore_n 1, 1) := by decide +kernel
theorem dX4_keep_18 : decode cX4_keep 18 = .ok (.iload_n 1, 1) := by decide +kernel
theorem dX4_keep_19 : decode cX4_keep 19 = .ok (.aload_n 0, 1) := by decide +kernel
theorem dX4_keep_20 : decode cX4_keep 20 = .ok (.getfield 56, 3) := by decide +kernel
theorem dX4_keep_23 : decode cX4_keep 23 = .ok (.if_icmp .ge 21, 3) := by decide +kernel
theorem dX4_keep_26 : decode cX4_keep 26 = .ok (.aload_n 0, 1) := by decide +kernel
theorem dX4_keep_27 : decode cX4_keep 27 = .ok (.getfield 34, 3) := by decide +kernel
theorem dX4_keep_30 : decode cX4_keep 30 = .ok (.iload_n 1, 1) := by decide +kernel
theorem dX4_keep_31 : decode cX4_keep 31 = .ok (.aload_n 0, 1) := by decide +kernel
theorem dX4_keep_32 : decode cX4_keep 32 = .ok (.getfield 22, 3) := by decide +kernel
theorem dX4_keep_35 : decode cX4_keep 35 = .ok (.iload_n 1, 1) := by decide +kernel
theorem dX4_keep_36 : decode cX4_keep 36 = .ok (.iaload, 1) := by decide +kernel
theorem dX4_keep_37 : decode cX4_keep 37 = .ok (.iastore, 1) := by decide +kernel
theorem dX4_keep_38 : decode cX4_keep 38 = .ok (.iinc 1 1, 3) := by decide +kernel
theorem dX4_keep_41 : decode cX4_keep 41 = .ok (.goto (-23), 3) := by decide +kernel
theorem dX4_keep_44 : decode cX4_keep 44 = .ok (.return_, 1) := by decide +kernel
theorem dX4_putBack_0 : decode cX4_putBack 0 = .ok (.aload_n 0, 1) := by decide +kernel
theorem dX4_putBack_1 : decode cX4_putBack 1 = .ok (.aload_n 0, 1) := by decide +kernel
theorem dX4_putBack_2 : decode cX4_putBack 2 = .ok (.getfield 151, 3) := by decide +kernel
theorem dX4_putBack_5 : decode cX4_putBack 5 = .ok (.putfield 90, 3) := by decide +kernel
theorem dX4_putBack_8 : decode cX4_putBack 8 = .ok (.aload_n 0, 1) := by decide +kernel
theorem dX4_putBack_9 : decode cX4_putBack 9 = .ok (.aload_n 0, 1) := by decide +kernel
theorem dX4_putBack_10 : decode cX4_putBack 10 = .ok (.getfield 154, 3) := by decide +kernel
theorem dX4_putBack_13 : decode cX4_putBack 13 = .ok (.putfield 96, 3) := by decide +kernel
