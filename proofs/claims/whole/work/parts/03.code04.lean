theorem dX4_putBack_16 : decode cX4_putBack 16 = .ok (.iconst 0, 1) := by decide +kernel
theorem dX4_putBack_17 : decode cX4_putBack 17 = .ok (.istore_n 1, 1) := by decide +kernel
theorem dX4_putBack_18 : decode cX4_putBack 18 = .ok (.iload_n 1, 1) := by decide +kernel
theorem dX4_putBack_19 : decode cX4_putBack 19 = .ok (.aload_n 0, 1) := by decide +kernel
theorem dX4_putBack_20 : decode cX4_putBack 20 = .ok (.getfield 56, 3) := by decide +kernel
theorem dX4_putBack_23 : decode cX4_putBack 23 = .ok (.if_icmp .ge 21, 3) := by decide +kernel
theorem dX4_putBack_26 : decode cX4_putBack 26 = .ok (.aload_n 0, 1) := by decide +kernel
theorem dX4_putBack_27 : decode cX4_putBack 27 = .ok (.getfield 22, 3) := by decide +kernel
theorem dX4_putBack_30 : decode cX4_putBack 30 = .ok (.iload_n 1, 1) := by decide +kernel
theorem dX4_putBack_31 : decode cX4_putBack 31 = .ok (.aload_n 0, 1) := by decide +kernel
theorem dX4_putBack_32 : decode cX4_putBack 32 = .ok (.getfield 34, 3) := by decide +kernel
theorem dX4_putBack_35 : decode cX4_putBack 35 = .ok (.iload_n 1, 1) := by decide +kernel
theorem dX4_putBack_36 : decode cX4_putBack 36 = .ok (.iaload, 1) := by decide +kernel
theorem dX4_putBack_37 : decode cX4_putBack 37 = .ok (.iastore, 1) := by decide +kernel
theorem dX4_putBack_38 : decode cX4_putBack 38 = .ok (.iinc 1 1, 3) := by decide +kernel
theorem dX4_putBack_41 : decode cX4_putBack 41 = .ok (.goto (-23), 3) := by decide +kernel
theorem dX4_putBack_44 : decode cX4_putBack 44 = .ok (.return_, 1) := by decide +kernel
set_option maxRecDepth 20000 in
theorem ggX4_canBe_X4_isOf : GoodIn wsX4_canBe wsX4_isOf := goodIn_r _ [6] (by decide +kernel) (by decide +kernel)
set_option maxRecDepth 20000 in
theorem gX4_canBe_X4_isOf : GoodIn wsX4_canBe (va_wsS RX4 122 yX4_isOf wsX4_isOf) := goodIn_app (goodIn_of _ (by decide +kernel)) ggX4_canBe_X4_isOf
theorem dX4_canBe_0 : decode cX4_canBe 0 = .ok (.iload_n 2, 1) := by decide +kernel
theorem dX4_canBe_1 : decode cX4_canBe 1 = .ok (.tableswitch 89 0 4 #[35, 89, 48, 89, 65], 35) := by decide +kernel
theorem dX4_canBe_36 : decode cX4_canBe 36 = .ok (.aload_n 0, 1) := by decide +kernel
theorem dX4_canBe_37 : decode cX4_canBe 37 = .ok (.getfield 96, 3) := by decide +kernel
theorem dX4_canBe_40 : decode cX4_canBe 40 = .ok (.ifCond .eq 7, 3) := by decide +kernel
theorem dX4_canBe_43 : decode cX4_canBe 43 = .ok (.iconst 1, 1) := by decide +kernel
theorem dX4_canBe_44 : decode cX4_canBe 44 = .ok (.goto 4, 3) := by decide +kernel
theorem dX4_canBe_47 : decode cX4_canBe 47 = .ok (.iconst 0, 1) := by decide +kernel
theorem dX4_canBe_48 : decode cX4_canBe 48 = .ok (.ireturn, 1) := by decide +kernel
theorem dX4_canBe_49 : decode cX4_canBe 49 = .ok (.aload_n 0, 1) := by decide +kernel
theorem dX4_canBe_50 : decode cX4_canBe 50 = .ok (.getfield 96, 3) := by decide +kernel
theorem dX4_canBe_53 : decode cX4_canBe 53 = .ok (.iload_n 1, 1) := by decide +kernel
theorem dX4_canBe_54 : decode cX4_canBe 54 = .ok (.invokestatic 122, 3) := by decide +kernel
theorem dX4_canBe_57 : decode cX4_canBe 57 = .ok (.ifCond .ne 7, 3) := by decide +kernel
theorem dX4_canBe_60 : decode cX4_canBe 60 = .ok (.iconst 1, 1) := by decide +kernel
theorem dX4_canBe_61 : decode cX4_canBe 61 = .ok (.goto 4, 3) := by decide +kernel
theorem dX4_canBe_64 : decode cX4_canBe 64 = .ok (.iconst 0, 1) := by decide +kernel
theorem dX4_canBe_65 : decode cX4_canBe 65 = .ok (.ireturn, 1) := by decide +kernel
theorem dX4_canBe_66 : decode cX4_canBe 66 = .ok (.aload_n 0, 1) := by decide +kernel
theorem dX4_canBe_67 : decode cX4_canBe 67 = .ok (.getfield 96, 3) := by decide +kernel
theorem dX4_canBe_70 : decode cX4_canBe 70 = .ok (.iload_n 1, 1) := by decide +kernel
theorem dX4_canBe_71 : decode cX4_canBe 71 = .ok (.invokestatic 122, 3) := by decide +kernel
theorem dX4_canBe_74 : decode cX4_canBe 74 = .ok (.ifCond .eq 14, 3) := by decide +kernel
theorem dX4_canBe_77 : decode cX4_canBe 77 = .ok (.aload_n 0, 1) := by decide +kernel
theorem dX4_canBe_78 : decode cX4_canBe 78 = .ok (.getfield 90, 3) := by decide +kernel
theorem dX4_canBe_81 : decode cX4_canBe 81 = .ok (.ifCond .le 7, 3) := by decide +kernel
theorem dX4_canBe_84 : decode cX4_canBe 84 = .ok (.iconst 1, 1) := by decide +kernel
theorem dX4_canBe_85 : decode cX4_canBe 85 = .ok (.goto 4, 3) := by decide +kernel
theorem dX4_canBe_88 : decode cX4_canBe 88 = .ok (.iconst 0, 1) := by decide +kernel
theorem dX4_canBe_89 : decode cX4_canBe 89 = .ok (.ireturn, 1) := by decide +kernel
theorem dX4_canBe_90 : decode cX4_canBe 90 = .ok (.aload_n 0, 1) := by decide +kernel
theorem dX4_canBe_91 : decode cX4_canBe 91 = .ok (.getfield 96, 3) := by decide +kernel
theorem dX4_canBe_94 : decode cX4_canBe 94 = .ok (.iload_n 1, 1) := by decide +kernel
theorem dX4_canBe_95 : decode cX4_canBe 95 = .ok (.invokestatic 122, 3) := by decide +kernel
theorem dX4_canBe_98 : decode cX4_canBe 98 = .ok (.ireturn, 1) := by decide +kernel
set_option maxRecDepth 20000 in
theorem ggX4_does_X4_doDay : GoodIn wsX4_does wsX4_doDay := goodIn_r _ [6, 7, 8, 1, 9, 10, 11, 5, 12, 13, 14, 15, 16, 17, 18, 19, 20, 21, 22, 23, 37, 38, 39, 40, 41, 42, 43, 44, 45, 46, 47, 48, 49, 50, 51, 52, 53, 54, 55, 56, 57, 58, 59, 60] (by decide +kernel) (by decide +kernel)
set_option maxRecDepth 20000 in
theorem gX4_does_X4_doDay : GoodIn wsX4_does (wsV RX4 138 RX4 yX4_doDay wsX4_doDay) := goodIn_app (goodIn_of _ (by decide +kernel)) ggX4_does_X4_doDay
set_option maxRecDepth 20000 in
theorem ggX4_does_X4_doLeave : GoodIn wsX4_does wsX4_doLeave := goodIn_r _ [27, 1, 9, 28, 7, 10, 11, 5, 12, 37, 38, 39, 40, 41, 42, 43, 44, 45, 46, 47, 48, 49, 50, 51, 52, 53, 54, 55, 56, 57, 58, 59, 60] (by decide +kernel) (by decide +kernel)
set_option maxRecDepth 20000 in
theorem gX4_does_X4_doLeave : GoodIn wsX4_does (wsV RX4 142 RX4 yX4_doLeave wsX4_doLeave) := goodIn_app (goodIn_of _ (by decide +kernel)) ggX4_does_X4_doLeave
set_option maxRecDepth 20000 in
theorem ggX4_does_X4_doGather : GoodIn wsX4_does wsX4_doGather := goodIn_r _ [32, 7, 1, 9, 10, 11, 5, 12, 37, 38, 39, 40, 41, 42, 43, 44, 45, 46, 47, 48, 49, 50, 51, 52, 53, 54, 55, 56, 57, 58, 59, 60] (by decide +kernel) (by decide +kernel)
set_option maxRecDepth 20000 in
theorem gX4_does_X4_doGather : GoodIn wsX4_does (wsV RX4 145 RX4 yX4_doGather wsX4_doGather) := goodIn_app (goodIn_of _ (by decide +kernel)) ggX4_does_X4_doGather
set_option maxRecDepth 20000 in
theorem ggX4_does_X4_doOpen : GoodIn wsX4_does wsX4_doOpen := goodIn_r _ [36, 28, 9, 37, 38, 39, 40, 41, 42, 43, 44, 45, 46, 47, 48, 49, 50, 51, 52, 53, 54, 55, 56, 57, 58, 59, 60] (by decide +kernel) (by decide +kernel)
set_option maxRecDepth 20000 in
theorem gX4_does_X4_doOpen : GoodIn wsX4_does (wsV RX4 148 RX4 yX4_doOpen wsX4_doOpen) := goodIn_app (goodIn_of _ (by decide +kernel)) ggX4_does_X4_doOpen
theorem dX4_does_0 : decode cX4_does 0 = .ok (.iload_n 2, 1) := by decide +kernel
theorem dX4_does_1 : decode cX4_does 1 = .ok (.tableswitch 63 0 3 #[31, 37, 43, 56], 31) := by decide +kernel
theorem dX4_does_32 : decode cX4_does 32 = .ok (.aload_n 0, 1) := by decide +kernel
theorem dX4_does_33 : decode cX4_does 33 = .ok (.iload_n 1, 1) := by decide +kernel
theorem dX4_does_34 : decode cX4_does 34 = .ok (.invokevirtual 138, 3) := by decide +kernel
theorem dX4_does_37 : decode cX4_does 37 = .ok (.return_, 1) := by decide +kernel
theorem dX4_does_38 : decode cX4_does 38 = .ok (.aload_n 0, 1) := by decide +kernel
theorem dX4_does_39 : decode cX4_does 39 = .ok (.iload_n 1, 1) := by decide +kernel
theorem dX4_does_40 : decode cX4_does 40 = .ok (.invokevirtual 142, 3) := by decide +kernel
theorem dX4_does_43 : decode cX4_does 43 = .ok (.return_, 1) := by decide +kernel
theorem dX4_does_44 : decode cX4_does 44 = .ok (.aload_n 0, 1) := by decide +kernel
theorem dX4_does_45 : decode cX4_does 45 = .ok (.dup, 1) := by decide +kernel
theorem dX4_does_46 : decode cX4_does 46 = .ok (.getfield 96, 3) := by decide +kernel
theorem dX4_does_49 : decode cX4_does 49 = .ok (.iconst 1, 1) := by decide +kernel
theorem dX4_does_50 : decode cX4_does 50 = .ok (.iload_n 1, 1) := by decide +kernel
theorem dX4_does_51 : decode cX4_does 51 = .ok (.ishl, 1) := by decide +kernel
theorem dX4_does_52 : decode cX4_does 52 = .ok (.ior, 1) := by decide +kernel
theorem dX4_does_53 : decode cX4_does 53 = .ok (.putfield 96, 3) := by decide +kernel
theorem dX4_does_56 : decode cX4_does 56 = .ok (.return_, 1) := by decide +kernel
theorem dX4_does_57 : decode cX4_does 57 = .ok (.aload_n 0, 1) := by decide +kernel
theorem dX4_does_58 : decode cX4_does 58 = .ok (.iload_n 1, 1) := by decide +kernel
theorem dX4_does_59 : decode cX4_does 59 = .ok (.invokevirtual 145, 3) := by decide +kernel
theorem dX4_does_62 : decode cX4_does 62 = .ok (.pop, 1) := by decide +kernel
theorem dX4_does_63 : decode cX4_does 63 = .ok (.return_, 1) := by decide +kernel
theorem dX4_does_64 : decode cX4_does 64 = .ok (.aload_n 0, 1) := by decide +kernel
theorem dX4_does_65 : decode cX4_does 65 = .ok (.iload_n 1, 1) := by decide +kernel
theorem dX4_does_66 : decode cX4_does 66 = .ok (.invokevirtual 148, 3) := by decide +kernel
theorem dX4_does_69 : decode cX4_does 69 = .ok (.pop, 1) := by decide +kernel
theorem dX4_does_70 : decode cX4_does 70 = .ok (.return_, 1) := by decide +kernel
set_option maxRecDepth 20000 in
theorem ggX4_goYear_X4_canBe : GoodIn wsX4_goYear wsX4_canBe := goodIn_r _ [6, 7, 8, 9, 10, 5, 11, 46, 47, 48, 49, 50, 51, 52, 53, 54, 55, 56, 57, 58, 59, 60, 61, 62, 63, 64, 65, 66, 67, 68, 69] (by decide +kernel) (by decide +kernel)
set_option maxRecDepth 20000 in
theorem gX4_goYear_X4_canBe : GoodIn wsX4_goYear (wsV RX4 157 RX4 yX4_canBe wsX4_canBe) := goodIn_app (goodIn_of _ (by decide +kernel)) ggX4_goYear_X4_canBe
set_option maxRecDepth 20000 in
theorem ggX4_goYear_X4_does : GoodIn wsX4_goYear wsX4_does := goodIn_r _ [15, 7, 16, 17, 18, 5, 19, 20, 21, 22, 9, 10, 11, 23, 24, 25, 26, 27, 28, 29, 30, 31, 32, 33, 34, 35, 36, 37, 8, 38, 39, 40, 41, 42, 43, 44, 45, 46, 47, 48, 49, 50, 51, 52, 53, 54, 55, 56, 57, 58, 59, 60, 61, 62, 63, 64, 65, 66, 67, 68, 69] (by decide +kernel) (by decide +kernel)
set_option maxRecDepth 20000 in
theorem gX4_goYear_X4_does : GoodIn wsX4_goYear (wsV RX4 160 RX4 yX4_does wsX4_does) := goodIn_app (goodIn_of _ (by decide +kernel)) ggX4_goYear_X4_does
theorem dX4_goYear_0 : decode cX4_goYear 0 = .ok (.iconst 0, 1) := by decide +kernel
theorem dX4_goYear_1 : decode cX4_goYear 1 = .ok (.istore_n 3, 1) := by decide +kernel
theorem dX4_goYear_2 : decode cX4_goYear 2 = .ok (.iload_n 3, 1) := by decide +kernel
theorem dX4_goYear_3 : decode cX4_goYear 3 = .ok (.iload_n 2, 1) := by decide +kernel
theorem dX4_goYear_4 : decode cX4_goYear 4 = .ok (.if_icmp .ge 56, 3) := by decide +kernel
theorem dX4_goYear_7 : decode cX4_goYear 7 = .ok (.aload_n 0, 1) := by decide +kernel
theorem dX4_goYear_8 : decode cX4_goYear 8 = .ok (.getfield 16, 3) := by decide +kernel
theorem dX4_goYear_11 : decode cX4_goYear 11 = .ok (.iload_n 1, 1) := by decide +kernel
theorem dX4_goYear_12 : decode cX4_goYear 12 = .ok (.iconst 2, 1) := by decide +kernel
theorem dX4_goYear_13 : decode cX4_goYear 13 = .ok (.iload_n 3, 1) := by decide +kernel
theorem dX4_goYear_14 : decode cX4_goYear 14 = .ok (.imul, 1) := by decide +kernel
theorem dX4_goYear_15 : decode cX4_goYear 15 = .ok (.iadd, 1) := by decide +kernel
theorem dX4_goYear_16 : decode cX4_goYear 16 = .ok (.iaload, 1) := by decide +kernel
theorem dX4_goYear_17 : decode cX4_goYear 17 = .ok (.istore 4, 2) := by decide +kernel
theorem dX4_goYear_19 : decode cX4_goYear 19 = .ok (.aload_n 0, 1) := by decide +kernel
theorem dX4_goYear_20 : decode cX4_goYear 20 = .ok (.getfield 16, 3) := by decide +kernel
theorem dX4_goYear_23 : decode cX4_goYear 23 = .ok (.iload_n 1, 1) := by decide +kernel
theorem dX4_goYear_24 : decode cX4_goYear 24 = .ok (.iconst 2, 1) := by decide +kernel
theorem dX4_goYear_25 : decode cX4_goYear 25 = .ok (.iload_n 3, 1) := by decide +kernel
theorem dX4_goYear_26 : decode cX4_goYear 26 = .ok (.imul, 1) := by decide +kernel
theorem dX4_goYear_27 : decode cX4_goYear 27 = .ok (.iadd, 1) := by decide +kernel
theorem dX4_goYear_28 : decode cX4_goYear 28 = .ok (.iconst 1, 1) := by decide +kernel
theorem dX4_goYear_29 : decode cX4_goYear 29 = .ok (.iadd, 1) := by decide +kernel
theorem dX4_goYear_30 : decode cX4_goYear 30 = .ok (.iaload, 1) := by decide +kernel
theorem dX4_goYear_31 : decode cX4_goYear 31 = .ok (.istore 5, 2) := by decide +kernel
theorem dX4_goYear_33 : decode cX4_goYear 33 = .ok (.aload_n 0, 1) := by decide +kernel
theorem dX4_goYear_34 : decode cX4_goYear 34 = .ok (.iload 4, 2) := by decide +kernel
theorem dX4_goYear_36 : decode cX4_goYear 36 = .ok (.iload 5, 2) := by decide +kernel
theorem dX4_goYear_38 : decode cX4_goYear 38 = .ok (.invokevirtual 157, 3) := by decide +kernel
theorem dX4_goYear_41 : decode cX4_goYear 41 = .ok (.ifCond .ne 5, 3) := by decide +kernel
theorem dX4_goYear_44 : decode cX4_goYear 44 = .ok (.iload_n 3, 1) := by decide +kernel
theorem dX4_goYear_45 : decode cX4_goYear 45 = .ok (.ireturn, 1) := by decide +kernel
theorem dX4_goYear_46 : decode cX4_goYear 46 = .ok (.aload_n 0, 1) := by decide +kernel
theorem dX4_goYear_47 : decode cX4_goYear 47 = .ok (.iload 4, 2) := by decide +kernel
theorem dX4_goYear_49 : decode cX4_goYear 49 = .ok (.iload 5, 2) := by decide +kernel
theorem dX4_goYear_51 : decode cX4_goYear 51 = .ok (.invokevirtual 160, 3) := by decide +kernel
theorem dX4_goYear_54 : decode cX4_goYear 54 = .ok (.iinc 3 1, 3) := by decide +kernel
theorem dX4_goYear_57 : decode cX4_goYear 57 = .ok (.goto (-55), 3) := by decide +kernel
theorem dX4_goYear_60 : decode cX4_goYear 60 = .ok (.bipush (-9), 2) := by decide +kernel
theorem dX4_goYear_62 : decode cX4_goYear 62 = .ok (.ireturn, 1) := by decide +kernel
set_option maxRecDepth 20000 in
theorem ggX4_year_X4_isSheet : GoodIn wsX4_year wsX4_isSheet := goodIn_r _ [7, 8, 9, 6, 10] (by decide +kernel) (by decide +kernel)
set_option maxRecDepth 20000 in
theorem gX4_year_X4_isSheet : GoodIn wsX4_year (va_wsS RX4 66 yX4_isSheet wsX4_isSheet) := goodIn_app (goodIn_of _ (by decide +kernel)) ggX4_year_X4_isSheet
set_option maxRecDepth 20000 in
theorem ggX4_year_X4_isSort : GoodIn wsX4_year wsX4_isSort := goodIn_r _ [13, 8, 9, 6, 10] (by decide +kernel) (by decide +kernel)
set_option maxRecDepth 20000 in
theorem gX4_year_X4_isSort : GoodIn wsX4_year (va_wsS RX4 70 yX4_isSort wsX4_isSort) := goodIn_app (goodIn_of _ (by decide +kernel)) ggX4_year_X4_isSort
set_option maxRecDepth 20000 in
theorem ggX4_year_X4_within : GoodIn wsX4_year wsX4_within := goodIn_r _ [10] (by decide +kernel) (by decide +kernel)
set_option maxRecDepth 20000 in
theorem gX4_year_X4_within : GoodIn wsX4_year (va_wsS RX4 52 yX4_within wsX4_within) := goodIn_app (goodIn_of _ (by decide +kernel)) ggX4_year_X4_within
set_option maxRecDepth 20000 in
theorem ggX4_year_X4_against : GoodIn wsX4_year wsX4_against := goodIn_r _ [17, 18, 19, 99, 100, 101, 102, 103, 104, 105, 106, 107, 108, 109, 110, 111, 112, 113, 114, 115, 116, 117, 118, 119, 120, 121, 122] (by decide +kernel) (by decide +kernel)
set_option maxRecDepth 20000 in
theorem gX4_year_X4_against : GoodIn wsX4_year (wsV RX4 73 RX4 yX4_against wsX4_against) := goodIn_app (goodIn_of _ (by decide +kernel)) ggX4_year_X4_against
set_option maxRecDepth 20000 in
theorem ggX4_year_X4_fails : GoodIn wsX4_year wsX4_fails := goodIn_r _ [23, 1, 99, 100, 101, 102, 103, 104, 105, 106, 107, 108, 109, 110, 111, 112, 113, 114, 115, 116, 117, 118, 119, 120, 121, 122] (by decide +kernel) (by decide +kernel)
set_option maxRecDepth 20000 in
theorem gX4_year_X4_fails : GoodIn wsX4_year (wsV RX4 77 RX4 yX4_fails wsX4_fails) := goodIn_app (goodIn_of _ (by decide +kernel)) ggX4_year_X4_fails
set_option maxRecDepth 20000 in
theorem ggX4_year_X4_isPerson : GoodIn wsX4_year wsX4_isPerson := goodIn_r _ [27, 2, 99, 100, 101, 102, 103, 104, 105, 106, 107, 108, 109, 110, 111, 112, 113, 114, 115, 116, 117, 118, 119, 120, 121, 122] (by decide +kernel) (by decide +kernel)
set_option maxRecDepth 20000 in
theorem gX4_year_X4_isPerson : GoodIn wsX4_year (wsV RX4 116 RX4 yX4_isPerson wsX4_isPerson) := goodIn_app (goodIn_of _ (by decide +kernel)) ggX4_year_X4_isPerson
set_option maxRecDepth 20000 in
theorem ggX4_year_X4_keep : GoodIn wsX4_year wsX4_keep := goodIn_r _ [31, 32, 33, 34, 35, 2, 36, 37, 99, 100, 101, 102, 103, 104, 105, 106, 107, 108, 109, 110, 111, 112, 113, 114, 115, 116, 117, 118, 119, 120, 121, 122] (by decide +kernel) (by decide +kernel)
set_option maxRecDepth 20000 in
theorem gX4_year_X4_keep : GoodIn wsX4_year (wsV RX4 164 RX4 yX4_keep wsX4_keep) := goodIn_app (goodIn_of _ (by decide +kernel)) ggX4_year_X4_keep
set_option maxRecDepth 20000 in
theorem ggX4_year_X4_goYear : GoodIn wsX4_year wsX4_goYear := goodIn_r _ [41, 3, 42, 43, 44, 6, 45, 34, 32, 46, 47, 48, 49, 50, 51, 52, 53, 54, 55, 56, 2, 57, 37, 58, 59, 60, 61, 62, 63, 64, 65, 66, 67, 68, 69, 70, 71, 72, 73, 74, 75, 76, 77, 78, 79, 80, 99, 100, 101, 102, 103, 104, 105, 106, 107, 108, 109, 110, 111, 112, 113, 114, 115, 116, 117, 118, 119, 120, 121, 122] (by decide +kernel) (by decide +kernel)
set_option maxRecDepth 20000 in
theorem gX4_year_X4_goYear : GoodIn wsX4_year (wsV RX4 167 RX4 yX4_goYear wsX4_goYear) := goodIn_app (goodIn_of _ (by decide +kernel)) ggX4_year_X4_goYear
set_option maxRecDepth 20000 in
theorem ggX4_year_X4_tellYear : GoodIn wsX4_year wsX4_tellYear := goodIn_r _ [84, 37, 32, 34, 24, 25, 26, 6, 27, 2, 85, 86, 87, 88, 46, 47, 48, 89, 90, 91, 92, 93, 94, 99, 100, 101, 102, 103, 104, 105, 106, 107, 108, 109, 110, 111, 112, 113, 114, 115, 116, 117, 118, 119, 120, 121, 122] (by decide +kernel) (by decide +kernel)
set_option maxRecDepth 20000 in
theorem gX4_year_X4_tellYear : GoodIn wsX4_year (wsV RX4 170 RX4 yX4_tellYear wsX4_tellYear) := goodIn_app (goodIn_of _ (by decide +kernel)) ggX4_year_X4_tellYear
set_option maxRecDepth 20000 in
theorem ggX4_year_X4_putBack : GoodIn wsX4_year wsX4_putBack := goodIn_r _ [98, 33, 32, 35, 34, 2, 37, 36, 99, 100, 101, 102, 103, 104, 105, 106, 107, 108, 109, 110, 111, 112, 113, 114, 115, 116, 117, 118, 119, 120, 121, 122] (by decide +kernel) (by decide +kernel)
set_option maxRecDepth 20000 in
theorem gX4_year_X4_putBack : GoodIn wsX4_year (wsV RX4 173 RX4 yX4_putBack wsX4_putBack) := goodIn_app (goodIn_of _ (by decide +kernel)) ggX4_year_X4_putBack
theorem dX4_year_0 : decode cX4_year 0 = .ok (.aload_n 0, 1) := by decide +kernel
theorem dX4_year_1 : decode cX4_year 1 = .ok (.iconst 0, 1) := by decide +kernel
theorem dX4_year_2 : decode cX4_year 2 = .ok (.putfield 46, 3) := by decide +kernel
theorem dX4_year_5 : decode cX4_year 5 = .ok (.iload_n 1, 1) := by decide +kernel
theorem dX4_year_6 : decode cX4_year 6 = .ok (.invokestatic 66, 3) := by decide +kernel
theorem dX4_year_9 : decode cX4_year 9 = .ok (.ifCond .ne 5, 3) := by decide +kernel
theorem dX4_year_12 : decode cX4_year 12 = .ok (.iconst (-1), 1) := by decide +kernel
theorem dX4_year_13 : decode cX4_year 13 = .ok (.ireturn, 1) := by decide +kernel
theorem dX4_year_14 : decode cX4_year 14 = .ok (.iload_n 2, 1) := by decide +kernel
theorem dX4_year_15 : decode cX4_year 15 = .ok (.invokestatic 70, 3) := by decide +kernel
theorem dX4_year_18 : decode cX4_year 18 = .ok (.ifCond .eq 36, 3) := by decide +kernel
theorem dX4_year_21 : decode cX4_year 21 = .ok (.iload 4, 2) := by decide +kernel
theorem dX4_year_23 : decode cX4_year 23 = .ok (.iconst 0, 1) := by decide +kernel
theorem dX4_year_24 : decode cX4_year 24 = .ok (.bipush 20, 2) := by decide +kernel
theorem dX4_year_26 : decode cX4_year 26 = .ok (.invokestatic 52, 3) := by decide +kernel
theorem dX4_year_29 : decode cX4_year 29 = .ok (.ifCond .eq 25, 3) := by decide +kernel
theorem dX4_year_32 : decode cX4_year 32 = .ok (.iload 5, 2) := by decide +kernel
theorem dX4_year_34 : decode cX4_year 34 = .ok (.iconst 0, 1) := by decide +kernel
theorem dX4_year_35 : decode cX4_year 35 = .ok (.iconst 3, 1) := by decide +kernel
theorem dX4_year_36 : decode cX4_year 36 = .ok (.invokestatic 52, 3) := by decide +kernel
theorem dX4_year_39 : decode cX4_year 39 = .ok (.ifCond .ne 18, 3) := by decide +kernel
theorem dX4_year_42 : decode cX4_year 42 = .ok (.iload 5, 2) := by decide +kernel
theorem dX4_year_44 : decode cX4_year 44 = .ok (.bipush 10, 2) := by decide +kernel
theorem dX4_year_46 : decode cX4_year 46 = .ok (.bipush 15, 2) := by decide +kernel
theorem dX4_year_48 : decode cX4_year 48 = .ok (.invokestatic 52, 3) := by decide +kernel
theorem dX4_year_51 : decode cX4_year 51 = .ok (.ifCond .ne 6, 3) := by decide +kernel
theorem dX4_year_54 : decode cX4_year 54 = .ok (.bipush (-2), 2) := by decide +kernel
theorem dX4_year_56 : decode cX4_year 56 = .ok (.ireturn, 1) := by decide +kernel
theorem dX4_year_57 : decode cX4_year 57 = .ok (.aload_n 0, 1) := by decide +kernel
theorem dX4_year_58 : decode cX4_year 58 = .ok (.iload_n 1, 1) := by decide +kernel
theorem dX4_year_59 : decode cX4_year 59 = .ok (.iload_n 2, 1) := by decide +kernel
theorem dX4_year_60 : decode cX4_year 60 = .ok (.iload_n 3, 1) := by decide +kernel
theorem dX4_year_61 : decode cX4_year 61 = .ok (.iconst 2, 1) := by decide +kernel
theorem dX4_year_62 : decode cX4_year 62 = .ok (.iload 4, 2) := by decide +kernel
theorem dX4_year_64 : decode cX4_year 64 = .ok (.imul, 1) := by decide +kernel
theorem dX4_year_65 : decode cX4_year 65 = .ok (.invokevirtual 73, 3) := by decide +kernel
theorem dX4_year_68 : decode cX4_year 68 = .ok (.istore 6, 2) := by decide +kernel
theorem dX4_year_70 : decode cX4_year 70 = .ok (.iload 6, 2) := by decide +kernel
theorem dX4_year_72 : decode cX4_year 72 = .ok (.ifCond .eq 10, 3) := by decide +kernel
theorem dX4_year_75 : decode cX4_year 75 = .ok (.aload_n 0, 1) := by decide +kernel
theorem dX4_year_76 : decode cX4_year 76 = .ok (.iload 6, 2) := by decide +kernel
theorem dX4_year_78 : decode cX4_year 78 = .ok (.invokevirtual 77, 3) := by decide +kernel
theorem dX4_year_81 : decode cX4_year 81 = .ok (.ireturn, 1) := by decide +kernel
theorem dX4_year_82 : decode cX4_year 82 = .ok (.aload_n 0, 1) := by decide +kernel
theorem dX4_year_83 : decode cX4_year 83 = .ok (.getfield 56, 3) := by decide +kernel
theorem dX4_year_86 : decode cX4_year 86 = .ok (.ifCond .ne 6, 3) := by decide +kernel
theorem dX4_year_89 : decode cX4_year 89 = .ok (.bipush (-3), 2) := by decide +kernel
theorem dX4_year_91 : decode cX4_year 91 = .ok (.ireturn, 1) := by decide +kernel
theorem dX4_year_92 : decode cX4_year 92 = .ok (.bipush 60, 2) := by decide +kernel
theorem dX4_year_94 : decode cX4_year 94 = .ok (.iload_n 1, 1) := by decide +kernel
theorem dX4_year_95 : decode cX4_year 95 = .ok (.imul, 1) := by decide +kernel
theorem dX4_year_96 : decode cX4_year 96 = .ok (.iload_n 3, 1) := by decide +kernel
theorem dX4_year_97 : decode cX4_year 97 = .ok (.iadd, 1) := by decide +kernel
theorem dX4_year_98 : decode cX4_year 98 = .ok (.istore 7, 2) := by decide +kernel
theorem dX4_year_100 : decode cX4_year 100 = .ok (.iconst 0, 1) := by decide +kernel
theorem dX4_year_101 : decode cX4_year 101 = .ok (.istore 8, 2) := by decide +kernel
theorem dX4_year_103 : decode cX4_year 103 = .ok (.iload 8, 2) := by decide +kernel
theorem dX4_year_105 : decode cX4_year 105 = .ok (.iload 4, 2) := by decide +kernel
theorem dX4_year_107 : decode cX4_year 107 = .ok (.if_icmp .ge 55, 3) := by decide +kernel
theorem dX4_year_110 : decode cX4_year 110 = .ok (.aload_n 0, 1) := by decide +kernel
theorem dX4_year_111 : decode cX4_year 111 = .ok (.aload_n 0, 1) := by decide +kernel
theorem dX4_year_112 : decode cX4_year 112 = .ok (.getfield 16, 3) := by decide +kernel
theorem dX4_year_115 : decode cX4_year 115 = .ok (.iload 7, 2) := by decide +kernel
theorem dX4_year_117 : decode cX4_year 117 = .ok (.iconst 2, 1) := by decide +kernel
theorem dX4_year_118 : decode cX4_year 118 = .ok (.iload 8, 2) := by decide +kernel
theorem dX4_year_120 : decode cX4_year 120 = .ok (.imul, 1) := by decide +kernel
theorem dX4_year_121 : decode cX4_year 121 = .ok (.iadd, 1) := by decide +kernel
theorem dX4_year_122 : decode cX4_year 122 = .ok (.iaload, 1) := by decide +kernel
theorem dX4_year_123 : decode cX4_year 123 = .ok (.invokevirtual 116, 3) := by decide +kernel
theorem dX4_year_126 : decode cX4_year 126 = .ok (.ifCond .ne 5, 3) := by decide +kernel
theorem dX4_year_129 : decode cX4_year 129 = .ok (.iconst (-1), 1) := by decide +kernel
theorem dX4_year_130 : decode cX4_year 130 = .ok (.ireturn, 1) := by decide +kernel
theorem dX4_year_131 : decode cX4_year 131 = .ok (.aload_n 0, 1) := by decide +kernel
theorem dX4_year_132 : decode cX4_year 132 = .ok (.getfield 16, 3) := by decide +kernel
theorem dX4_year_135 : decode cX4_year 135 = .ok (.iload 7, 2) := by decide +kernel
theorem dX4_year_137 : decode cX4_year 137 = .ok (.iconst 2, 1) := by decide +kernel
theorem dX4_year_138 : decode cX4_year 138 = .ok (.iload 8, 2) := by decide +kernel
theorem dX4_year_140 : decode cX4_year 140 = .ok (.imul, 1) := by decide +kernel
theorem dX4_year_141 : decode cX4_year 141 = .ok (.iadd, 1) := by decide +kernel
theorem dX4_year_142 : decode cX4_year 142 = .ok (.iconst 1, 1) := by decide +kernel
theorem dX4_year_143 : decode cX4_year 143 = .ok (.iadd, 1) := by decide +kernel
theorem dX4_year_144 : decode cX4_year 144 = .ok (.iaload, 1) := by decide +kernel
theorem dX4_year_145 : decode cX4_year 145 = .ok (.iconst 0, 1) := by decide +kernel
theorem dX4_year_146 : decode cX4_year 146 = .ok (.iconst 4, 1) := by decide +kernel
theorem dX4_year_147 : decode cX4_year 147 = .ok (.invokestatic 52, 3) := by decide +kernel
theorem dX4_year_150 : decode cX4_year 150 = .ok (.ifCond .ne 6, 3) := by decide +kernel
theorem dX4_year_153 : decode cX4_year 153 = .ok (.bipush (-2), 2) := by decide +kernel
theorem dX4_year_155 : decode cX4_year 155 = .ok (.ireturn, 1) := by decide +kernel
theorem dX4_year_156 : decode cX4_year 156 = .ok (.iinc 8 1, 3) := by decide +kernel
theorem dX4_year_159 : decode cX4_year 159 = .ok (.goto (-56), 3) := by decide +kernel
theorem dX4_year_162 : decode cX4_year 162 = .ok (.aload_n 0, 1) := by decide +kernel
theorem dX4_year_163 : decode cX4_year 163 = .ok (.invokevirtual 164, 3) := by decide +kernel
theorem dX4_year_166 : decode cX4_year 166 = .ok (.aload_n 0, 1) := by decide +kernel
theorem dX4_year_167 : decode cX4_year 167 = .ok (.iload 7, 2) := by decide +kernel
theorem dX4_year_169 : decode cX4_year 169 = .ok (.iload 4, 2) := by decide +kernel
theorem dX4_year_171 : decode cX4_year 171 = .ok (.invokevirtual 167, 3) := by decide +kernel
theorem dX4_year_174 : decode cX4_year 174 = .ok (.istore 8, 2) := by decide +kernel
theorem dX4_year_176 : decode cX4_year 176 = .ok (.aload_n 0, 1) := by decide +kernel
theorem dX4_year_177 : decode cX4_year 177 = .ok (.iload 5, 2) := by decide +kernel
theorem dX4_year_179 : decode cX4_year 179 = .ok (.invokevirtual 170, 3) := by decide +kernel
theorem dX4_year_182 : decode cX4_year 182 = .ok (.istore 9, 2) := by decide +kernel
theorem dX4_year_184 : decode cX4_year 184 = .ok (.aload_n 0, 1) := by decide +kernel
theorem dX4_year_185 : decode cX4_year 185 = .ok (.invokevirtual 173, 3) := by decide +kernel
theorem dX4_year_188 : decode cX4_year 188 = .ok (.iload 5, 2) := by decide +kernel
theorem dX4_year_190 : decode cX4_year 190 = .ok (.iconst 1, 1) := by decide +kernel
theorem dX4_year_191 : decode cX4_year 191 = .ok (.if_icmp .ne 8, 3) := by decide +kernel
theorem dX4_year_194 : decode cX4_year 194 = .ok (.iload 8, 2) := by decide +kernel
theorem dX4_year_196 : decode cX4_year 196 = .ok (.goto 20, 3) := by decide +kernel
theorem dX4_year_199 : decode cX4_year 199 = .ok (.iload 8, 2) := by decide +kernel
theorem dX4_year_201 : decode cX4_year 201 = .ok (.bipush (-9), 2) := by decide +kernel
theorem dX4_year_203 : decode cX4_year 203 = .ok (.if_icmp .ne 8, 3) := by decide +kernel
theorem dX4_year_206 : decode cX4_year 206 = .ok (.iload 9, 2) := by decide +kernel
theorem dX4_year_208 : decode cX4_year 208 = .ok (.goto 8, 3) := by decide +kernel
theorem dX4_year_211 : decode cX4_year 211 = .ok (.bipush (-100), 2) := by decide +kernel
theorem dX4_year_213 : decode cX4_year 213 = .ok (.iload 8, 2) := by decide +kernel
theorem dX4_year_215 : decode cX4_year 215 = .ok (.isub, 1) := by decide +kernel
theorem dX4_year_216 : decode cX4_year 216 = .ok (.ireturn, 1) := by decide +kernel
set_option maxRecDepth 20000 in
theorem ggX4_tellYear_X4_isPerson : GoodIn wsX4_tellYear wsX4_isPerson := goodIn_r _ [8, 9, 23, 24, 25, 26, 27, 28, 29, 30, 31, 32, 33, 34, 35, 36, 37, 38, 39, 40, 41, 42, 43, 44, 45, 46] (by decide +kernel) (by decide +kernel)
set_option maxRecDepth 20000 in
theorem gX4_tellYear_X4_isPerson : GoodIn wsX4_tellYear (wsV RX4 116 RX4 yX4_isPerson wsX4_isPerson) := goodIn_app (goodIn_of _ (by decide +kernel)) ggX4_tellYear_X4_isPerson
set_option maxRecDepth 20000 in
theorem ggX4_tellYear_X4_saidNow : GoodIn wsX4_tellYear wsX4_saidNow := goodIn_r _ [13, 9, 3, 1, 14, 15, 7, 16, 17, 18, 19, 20, 21, 22, 23, 24, 25, 26, 27, 28, 29, 30, 31, 32, 33, 34, 35, 36, 37, 38, 39, 40, 41, 42, 43, 44, 45, 46] (by decide +kernel) (by decide +kernel)
set_option maxRecDepth 20000 in
theorem gX4_tellYear_X4_saidNow : GoodIn wsX4_tellYear (wsV RX4 125 RX4 yX4_saidNow wsX4_saidNow) := goodIn_app (goodIn_of _ (by decide +kernel)) ggX4_tellYear_X4_saidNow
theorem dX4_tellYear_0 : decode cX4_tellYear 0 = .ok (.iload_n 1, 1) := by decide +kernel
theorem dX4_tellYear_1 : decode cX4_tellYear 1 = .ok (.bipush 10, 2) := by decide +kernel
theorem dX4_tellYear_3 : decode cX4_tellYear 3 = .ok (.if_icmp .lt 29, 3) := by decide +kernel
theorem dX4_tellYear_6 : decode cX4_tellYear 6 = .ok (.aload_n 0, 1) := by decide +kernel
theorem dX4_tellYear_7 : decode cX4_tellYear 7 = .ok (.iload_n 1, 1) := by decide +kernel
theorem dX4_tellYear_8 : decode cX4_tellYear 8 = .ok (.bipush 10, 2) := by decide +kernel
theorem dX4_tellYear_10 : decode cX4_tellYear 10 = .ok (.isub, 1) := by decide +kernel
theorem dX4_tellYear_11 : decode cX4_tellYear 11 = .ok (.invokevirtual 116, 3) := by decide +kernel
theorem dX4_tellYear_14 : decode cX4_tellYear 14 = .ok (.ifCond .eq 15, 3) := by decide +kernel
theorem dX4_tellYear_17 : decode cX4_tellYear 17 = .ok (.aload_n 0, 1) := by decide +kernel
theorem dX4_tellYear_18 : decode cX4_tellYear 18 = .ok (.getfield 22, 3) := by decide +kernel
theorem dX4_tellYear_21 : decode cX4_tellYear 21 = .ok (.iload_n 1, 1) := by decide +kernel
theorem dX4_tellYear_22 : decode cX4_tellYear 22 = .ok (.bipush 10, 2) := by decide +kernel
theorem dX4_tellYear_24 : decode cX4_tellYear 24 = .ok (.isub, 1) := by decide +kernel
theorem dX4_tellYear_25 : decode cX4_tellYear 25 = .ok (.iaload, 1) := by decide +kernel
theorem dX4_tellYear_26 : decode cX4_tellYear 26 = .ok (.goto 5, 3) := by decide +kernel
theorem dX4_tellYear_29 : decode cX4_tellYear 29 = .ok (.bipush (-9), 2) := by decide +kernel
theorem dX4_tellYear_31 : decode cX4_tellYear 31 = .ok (.ireturn, 1) := by decide +kernel
theorem dX4_tellYear_32 : decode cX4_tellYear 32 = .ok (.iload_n 1, 1) := by decide +kernel
theorem dX4_tellYear_33 : decode cX4_tellYear 33 = .ok (.ifCond .ne 10, 3) := by decide +kernel
theorem dX4_tellYear_36 : decode cX4_tellYear 36 = .ok (.aload_n 0, 1) := by decide +kernel
theorem dX4_tellYear_37 : decode cX4_tellYear 37 = .ok (.getfield 90, 3) := by decide +kernel
theorem dX4_tellYear_40 : decode cX4_tellYear 40 = .ok (.goto 19, 3) := by decide +kernel
theorem dX4_tellYear_43 : decode cX4_tellYear 43 = .ok (.iload_n 1, 1) := by decide +kernel
theorem dX4_tellYear_44 : decode cX4_tellYear 44 = .ok (.iconst 2, 1) := by decide +kernel
theorem dX4_tellYear_45 : decode cX4_tellYear 45 = .ok (.if_icmp .ne 10, 3) := by decide +kernel
theorem dX4_tellYear_48 : decode cX4_tellYear 48 = .ok (.aload_n 0, 1) := by decide +kernel
theorem dX4_tellYear_49 : decode cX4_tellYear 49 = .ok (.getfield 96, 3) := by decide +kernel
theorem dX4_tellYear_52 : decode cX4_tellYear 52 = .ok (.goto 7, 3) := by decide +kernel
theorem dX4_tellYear_55 : decode cX4_tellYear 55 = .ok (.aload_n 0, 1) := by decide +kernel
theorem dX4_tellYear_56 : decode cX4_tellYear 56 = .ok (.invokevirtual 125, 3) := by decide +kernel
theorem dX4_tellYear_59 : decode cX4_tellYear 59 = .ok (.ireturn, 1) := by decide +kernel
set_option maxRecDepth 20000 in
theorem ggX4_asked_X4_isPerson : GoodIn wsX4_asked wsX4_isPerson := goodIn_r _ [8, 2, 22, 23, 24, 25, 26, 27, 28, 29, 30, 31, 32, 33, 34, 35, 36, 37, 38, 39, 40, 41, 42, 43, 44, 45] (by decide +kernel) (by decide +kernel)
set_option maxRecDepth 20000 in
theorem gX4_asked_X4_isPerson : GoodIn wsX4_asked (wsV RX4 116 RX4 yX4_isPerson wsX4_isPerson) := goodIn_app (goodIn_of _ (by decide +kernel)) ggX4_asked_X4_isPerson
set_option maxRecDepth 20000 in
theorem ggX4_asked_X4_within : GoodIn wsX4_asked wsX4_within := goodIn_r _ [11] (by decide +kernel) (by decide +kernel)
set_option maxRecDepth 20000 in
theorem gX4_asked_X4_within : GoodIn wsX4_asked (va_wsS RX4 52 yX4_within wsX4_within) := goodIn_app (goodIn_of _ (by decide +kernel)) ggX4_asked_X4_within
set_option maxRecDepth 20000 in
theorem ggX4_asked_X4_partsOf : GoodIn wsX4_asked wsX4_partsOf := goodIn_r _ [15, 2, 3, 16, 17, 7, 18, 22, 23, 24, 25, 26, 27, 28, 29, 30, 31, 32, 33, 34, 35, 36, 37, 38, 39, 40, 41, 42, 43, 44, 45] (by decide +kernel) (by decide +kernel)
set_option maxRecDepth 20000 in
theorem gX4_asked_X4_partsOf : GoodIn wsX4_asked (wsV RX4 129 RX4 yX4_partsOf wsX4_partsOf) := goodIn_app (goodIn_of _ (by decide +kernel)) ggX4_asked_X4_partsOf
set_option maxRecDepth 20000 in
theorem ggX4_asked_X4_size : GoodIn wsX4_asked wsX4_size := goodIn_r _ [21] (by decide +kernel) (by decide +kernel)
set_option maxRecDepth 20000 in
theorem gX4_asked_X4_size : GoodIn wsX4_asked (va_wsS RX4 132 yX4_size wsX4_size) := goodIn_app (goodIn_of _ (by decide +kernel)) ggX4_asked_X4_size
theorem dX4_asked_0 : decode cX4_asked 0 = .ok (.aload_n 0, 1) := by decide +kernel
theorem dX4_asked_1 : decode cX4_asked 1 = .ok (.iload_n 1, 1) := by decide +kernel
theorem dX4_asked_2 : decode cX4_asked 2 = .ok (.invokevirtual 116, 3) := by decide +kernel
theorem dX4_asked_5 : decode cX4_asked 5 = .ok (.ifCond .ne 5, 3) := by decide +kernel
theorem dX4_asked_8 : decode cX4_asked 8 = .ok (.iconst (-1), 1) := by decide +kernel
theorem dX4_asked_9 : decode cX4_asked 9 = .ok (.ireturn, 1) := by decide +kernel
theorem dX4_asked_10 : decode cX4_asked 10 = .ok (.iload_n 2, 1) := by decide +kernel
theorem dX4_asked_11 : decode cX4_asked 11 = .ok (.iconst 0, 1) := by decide +kernel
theorem dX4_asked_12 : decode cX4_asked 12 = .ok (.sipush 300, 3) := by decide +kernel
theorem dX4_asked_15 : decode cX4_asked 15 = .ok (.invokestatic 52, 3) := by decide +kernel
theorem dX4_asked_18 : decode cX4_asked 18 = .ok (.ifCond .eq 12, 3) := by decide +kernel
theorem dX4_asked_21 : decode cX4_asked 21 = .ok (.iload_n 3, 1) := by decide +kernel
theorem dX4_asked_22 : decode cX4_asked 22 = .ok (.iconst 0, 1) := by decide +kernel
theorem dX4_asked_23 : decode cX4_asked 23 = .ok (.iconst 1, 1) := by decide +kernel
theorem dX4_asked_24 : decode cX4_asked 24 = .ok (.invokestatic 52, 3) := by decide +kernel
theorem dX4_asked_27 : decode cX4_asked 27 = .ok (.ifCond .ne 6, 3) := by decide +kernel
theorem dX4_asked_30 : decode cX4_asked 30 = .ok (.bipush (-2), 2) := by decide +kernel
theorem dX4_asked_32 : decode cX4_asked 32 = .ok (.ireturn, 1) := by decide +kernel
theorem dX4_asked_33 : decode cX4_asked 33 = .ok (.aload_n 0, 1) := by decide +kernel
theorem dX4_asked_34 : decode cX4_asked 34 = .ok (.getfield 96, 3) := by decide +kernel
theorem dX4_asked_37 : decode cX4_asked 37 = .ok (.iconst 1, 1) := by decide +kernel
theorem dX4_asked_38 : decode cX4_asked 38 = .ok (.iload_n 1, 1) := by decide +kernel
theorem dX4_asked_39 : decode cX4_asked 39 = .ok (.ishl, 1) := by decide +kernel
theorem dX4_asked_40 : decode cX4_asked 40 = .ok (.iconst (-1), 1) := by decide +kernel
theorem dX4_asked_41 : decode cX4_asked 41 = .ok (.ixor, 1) := by decide +kernel
theorem dX4_asked_42 : decode cX4_asked 42 = .ok (.iand, 1) := by decide +kernel
theorem dX4_asked_43 : decode cX4_asked 43 = .ok (.istore 4, 2) := by decide +kernel
theorem dX4_asked_45 : decode cX4_asked 45 = .ok (.bipush (-9), 2) := by decide +kernel
theorem dX4_asked_47 : decode cX4_asked 47 = .ok (.istore 5, 2) := by decide +kernel
theorem dX4_asked_49 : decode cX4_asked 49 = .ok (.iconst 0, 1) := by decide +kernel
theorem dX4_asked_50 : decode cX4_asked 50 = .ok (.istore 6, 2) := by decide +kernel
theorem dX4_asked_52 : decode cX4_asked 52 = .ok (.iconst 0, 1) := by decide +kernel
theorem dX4_asked_53 : decode cX4_asked 53 = .ok (.istore 7, 2) := by decide +kernel
theorem dX4_asked_55 : decode cX4_asked 55 = .ok (.iload 7, 2) := by decide +kernel
theorem dX4_asked_57 : decode cX4_asked 57 = .ok (.iconst 1, 1) := by decide +kernel
theorem dX4_asked_58 : decode cX4_asked 58 = .ok (.aload_n 0, 1) := by decide +kernel
theorem dX4_asked_59 : decode cX4_asked 59 = .ok (.getfield 56, 3) := by decide +kernel
theorem dX4_asked_62 : decode cX4_asked 62 = .ok (.ishl, 1) := by decide +kernel
theorem dX4_asked_63 : decode cX4_asked 63 = .ok (.if_icmp .ge 88, 3) := by decide +kernel
theorem dX4_asked_66 : decode cX4_asked 66 = .ok (.aload_n 0, 1) := by decide +kernel
theorem dX4_asked_67 : decode cX4_asked 67 = .ok (.getfield 22, 3) := by decide +kernel
theorem dX4_asked_70 : decode cX4_asked 70 = .ok (.iload_n 1, 1) := by decide +kernel
theorem dX4_asked_71 : decode cX4_asked 71 = .ok (.iaload, 1) := by decide +kernel
theorem dX4_asked_72 : decode cX4_asked 72 = .ok (.aload_n 0, 1) := by decide +kernel
theorem dX4_asked_73 : decode cX4_asked 73 = .ok (.iload 7, 2) := by decide +kernel
theorem dX4_asked_75 : decode cX4_asked 75 = .ok (.invokevirtual 129, 3) := by decide +kernel
theorem dX4_asked_78 : decode cX4_asked 78 = .ok (.iadd, 1) := by decide +kernel
theorem dX4_asked_79 : decode cX4_asked 79 = .ok (.istore 8, 2) := by decide +kernel
theorem dX4_asked_81 : decode cX4_asked 81 = .ok (.iload 7, 2) := by decide +kernel
theorem dX4_asked_83 : decode cX4_asked 83 = .ok (.iload 4, 2) := by decide +kernel
theorem dX4_asked_85 : decode cX4_asked 85 = .ok (.iconst (-1), 1) := by decide +kernel
theorem dX4_asked_86 : decode cX4_asked 86 = .ok (.ixor, 1) := by decide +kernel
theorem dX4_asked_87 : decode cX4_asked 87 = .ok (.iand, 1) := by decide +kernel
theorem dX4_asked_88 : decode cX4_asked 88 = .ok (.ifCond .ne 57, 3) := by decide +kernel
theorem dX4_asked_91 : decode cX4_asked 91 = .ok (.iload 8, 2) := by decide +kernel
theorem dX4_asked_93 : decode cX4_asked 93 = .ok (.iload_n 2, 1) := by decide +kernel
theorem dX4_asked_94 : decode cX4_asked 94 = .ok (.if_icmp .lt 51, 3) := by decide +kernel
theorem dX4_asked_97 : decode cX4_asked 97 = .ok (.iload 5, 2) := by decide +kernel
theorem dX4_asked_99 : decode cX4_asked 99 = .ok (.bipush (-9), 2) := by decide +kernel
theorem dX4_asked_101 : decode cX4_asked 101 = .ok (.if_icmp .eq 36, 3) := by decide +kernel
theorem dX4_asked_104 : decode cX4_asked 104 = .ok (.iload 7, 2) := by decide +kernel
theorem dX4_asked_106 : decode cX4_asked 106 = .ok (.invokestatic 132, 3) := by decide +kernel
theorem dX4_asked_109 : decode cX4_asked 109 = .ok (.iload 5, 2) := by decide +kernel
theorem dX4_asked_111 : decode cX4_asked 111 = .ok (.invokestatic 132, 3) := by decide +kernel
theorem dX4_asked_114 : decode cX4_asked 114 = .ok (.if_icmp .lt 23, 3) := by decide +kernel
theorem dX4_asked_117 : decode cX4_asked 117 = .ok (.iload 7, 2) := by decide +kernel
theorem dX4_asked_119 : decode cX4_asked 119 = .ok (.invokestatic 132, 3) := by decide +kernel
theorem dX4_asked_122 : decode cX4_asked 122 = .ok (.iload 5, 2) := by decide +kernel
theorem dX4_asked_124 : decode cX4_asked 124 = .ok (.invokestatic 132, 3) := by decide +kernel
theorem dX4_asked_127 : decode cX4_asked 127 = .ok (.if_icmp .ne 18, 3) := by decide +kernel
theorem dX4_asked_130 : decode cX4_asked 130 = .ok (.iload 8, 2) := by decide +kernel
theorem dX4_asked_132 : decode cX4_asked 132 = .ok (.iload 6, 2) := by decide +kernel
theorem dX4_asked_134 : decode cX4_asked 134 = .ok (.if_icmp .ge 11, 3) := by decide +kernel
theorem dX4_asked_137 : decode cX4_asked 137 = .ok (.iload 7, 2) := by decide +kernel
theorem dX4_asked_139 : decode cX4_asked 139 = .ok (.istore 5, 2) := by decide +kernel
theorem dX4_asked_141 : decode cX4_asked 141 = .ok (.iload 8, 2) := by decide +kernel
theorem dX4_asked_143 : decode cX4_asked 143 = .ok (.istore 6, 2) := by decide +kernel
theorem dX4_asked_145 : decode cX4_asked 145 = .ok (.iinc 7 1, 3) := by decide +kernel
theorem dX4_asked_148 : decode cX4_asked 148 = .ok (.goto (-93), 3) := by decide +kernel
theorem dX4_asked_151 : decode cX4_asked 151 = .ok (.iload_n 3, 1) := by decide +kernel
theorem dX4_asked_152 : decode cX4_asked 152 = .ok (.ifCond .eq 10, 3) := by decide +kernel
theorem dX4_asked_155 : decode cX4_asked 155 = .ok (.iload 5, 2) := by decide +kernel
theorem dX4_asked_157 : decode cX4_asked 157 = .ok (.bipush (-9), 2) := by decide +kernel
theorem dX4_asked_159 : decode cX4_asked 159 = .ok (.if_icmp .ne 8, 3) := by decide +kernel
theorem dX4_asked_162 : decode cX4_asked 162 = .ok (.iload 5, 2) := by decide +kernel
theorem dX4_asked_164 : decode cX4_asked 164 = .ok (.goto 5, 3) := by decide +kernel
theorem dX4_asked_167 : decode cX4_asked 167 = .ok (.iload 6, 2) := by decide +kernel
theorem dX4_asked_169 : decode cX4_asked 169 = .ok (.ireturn, 1) := by decide +kernel
set_option maxRecDepth 20000 in
theorem ggX4_gatherings_X4_isPerson : GoodIn wsX4_gatherings wsX4_isPerson := goodIn_r _ [6, 7, 31, 32, 33, 34, 35, 36, 37, 38, 39, 40, 41, 42, 43, 44, 45, 46, 47, 48, 49, 50, 51, 52, 53, 54] (by decide +kernel) (by decide +kernel)
set_option maxRecDepth 20000 in
theorem gX4_gatherings_X4_isPerson : GoodIn wsX4_gatherings (wsV RX4 116 RX4 yX4_isPerson wsX4_isPerson) := goodIn_app (goodIn_of _ (by decide +kernel)) ggX4_gatherings_X4_isPerson
set_option maxRecDepth 20000 in
theorem ggX4_gatherings_X4_within : GoodIn wsX4_gatherings wsX4_within := goodIn_r _ [10] (by decide +kernel) (by decide +kernel)
set_option maxRecDepth 20000 in
theorem gX4_gatherings_X4_within : GoodIn wsX4_gatherings (va_wsS RX4 52 yX4_within wsX4_within) := goodIn_app (goodIn_of _ (by decide +kernel)) ggX4_gatherings_X4_within
set_option maxRecDepth 20000 in
theorem ggX4_gatherings_X4_keep : GoodIn wsX4_gatherings wsX4_keep := goodIn_r _ [14, 15, 16, 17, 18, 7, 19, 1, 31, 32, 33, 34, 35, 36, 37, 38, 39, 40, 41, 42, 43, 44, 45, 46, 47, 48, 49, 50, 51, 52, 53, 54] (by decide +kernel) (by decide +kernel)
set_option maxRecDepth 20000 in
theorem gX4_gatherings_X4_keep : GoodIn wsX4_gatherings (wsV RX4 164 RX4 yX4_keep wsX4_keep) := goodIn_app (goodIn_of _ (by decide +kernel)) ggX4_gatherings_X4_keep
set_option maxRecDepth 20000 in
theorem ggX4_gatherings_X4_doGather : GoodIn wsX4_gatherings wsX4_doGather := goodIn_r _ [23, 7, 17, 1, 24, 25, 5, 26, 31, 32, 33, 34, 35, 36, 37, 38, 39, 40, 41, 42, 43, 44, 45, 46, 47, 48, 49, 50, 51, 52, 53, 54] (by decide +kernel) (by decide +kernel)
set_option maxRecDepth 20000 in
theorem gX4_gatherings_X4_doGather : GoodIn wsX4_gatherings (wsV RX4 145 RX4 yX4_doGather wsX4_doGather) := goodIn_app (goodIn_of _ (by decide +kernel)) ggX4_gatherings_X4_doGather
set_option maxRecDepth 20000 in
theorem ggX4_gatherings_X4_putBack : GoodIn wsX4_gatherings wsX4_putBack := goodIn_r _ [30, 16, 15, 18, 17, 7, 1, 19, 31, 32, 33, 34, 35, 36, 37, 38, 39, 40, 41, 42, 43, 44, 45, 46, 47, 48, 49, 50, 51, 52, 53, 54] (by decide +kernel) (by decide +kernel)
set_option maxRecDepth 20000 in
theorem gX4_gatherings_X4_putBack : GoodIn wsX4_gatherings (wsV RX4 173 RX4 yX4_putBack wsX4_putBack) := goodIn_app (goodIn_of _ (by decide +kernel)) ggX4_gatherings_X4_putBack
theorem dX4_gatherings_0 : decode cX4_gatherings 0 = .ok (.aload_n 0, 1) := by decide +kernel
theorem dX4_gatherings_1 : decode cX4_gatherings 1 = .ok (.iload_n 1, 1) := by decide +kernel
theorem dX4_gatherings_2 : decode cX4_gatherings 2 = .ok (.invokevirtual 116, 3) := by decide +kernel
theorem dX4_gatherings_5 : decode cX4_gatherings 5 = .ok (.ifCond .ne 5, 3) := by decide +kernel
theorem dX4_gatherings_8 : decode cX4_gatherings 8 = .ok (.iconst (-1), 1) := by decide +kernel
theorem dX4_gatherings_9 : decode cX4_gatherings 9 = .ok (.ireturn, 1) := by decide +kernel
theorem dX4_gatherings_10 : decode cX4_gatherings 10 = .ok (.iload_n 2, 1) := by decide +kernel
theorem dX4_gatherings_11 : decode cX4_gatherings 11 = .ok (.iconst 0, 1) := by decide +kernel
theorem dX4_gatherings_12 : decode cX4_gatherings 12 = .ok (.sipush 300, 3) := by decide +kernel
theorem dX4_gatherings_15 : decode cX4_gatherings 15 = .ok (.invokestatic 52, 3) := by decide +kernel
theorem dX4_gatherings_18 : decode cX4_gatherings 18 = .ok (.ifCond .ne 6, 3) := by decide +kernel
theorem dX4_gatherings_21 : decode cX4_gatherings 21 = .ok (.bipush (-2), 2) := by decide +kernel
theorem dX4_gatherings_23 : decode cX4_gatherings 23 = .ok (.ireturn, 1) := by decide +kernel
theorem dX4_gatherings_24 : decode cX4_gatherings 24 = .ok (.aload_n 0, 1) := by decide +kernel
theorem dX4_gatherings_25 : decode cX4_gatherings 25 = .ok (.invokevirtual 164, 3) := by decide +kernel
theorem dX4_gatherings_28 : decode cX4_gatherings 28 = .ok (.iconst 0, 1) := by decide +kernel
theorem dX4_gatherings_29 : decode cX4_gatherings 29 = .ok (.istore_n 3, 1) := by decide +kernel
theorem dX4_gatherings_30 : decode cX4_gatherings 30 = .ok (.iconst 1, 1) := by decide +kernel
theorem dX4_gatherings_31 : decode cX4_gatherings 31 = .ok (.istore 4, 2) := by decide +kernel
theorem dX4_gatherings_33 : decode cX4_gatherings 33 = .ok (.aload_n 0, 1) := by decide +kernel
theorem dX4_gatherings_34 : decode cX4_gatherings 34 = .ok (.getfield 22, 3) := by decide +kernel
theorem dX4_gatherings_37 : decode cX4_gatherings 37 = .ok (.iload_n 1, 1) := by decide +kernel
theorem dX4_gatherings_38 : decode cX4_gatherings 38 = .ok (.iaload, 1) := by decide +kernel
theorem dX4_gatherings_39 : decode cX4_gatherings 39 = .ok (.iload_n 2, 1) := by decide +kernel
theorem dX4_gatherings_40 : decode cX4_gatherings 40 = .ok (.if_icmp .ge 21, 3) := by decide +kernel
theorem dX4_gatherings_43 : decode cX4_gatherings 43 = .ok (.iload 4, 2) := by decide +kernel
theorem dX4_gatherings_45 : decode cX4_gatherings 45 = .ok (.ifCond .le 16, 3) := by decide +kernel
theorem dX4_gatherings_48 : decode cX4_gatherings 48 = .ok (.aload_n 0, 1) := by decide +kernel
theorem dX4_gatherings_49 : decode cX4_gatherings 49 = .ok (.iload_n 1, 1) := by decide +kernel
theorem dX4_gatherings_50 : decode cX4_gatherings 50 = .ok (.invokevirtual 145, 3) := by decide +kernel
theorem dX4_gatherings_53 : decode cX4_gatherings 53 = .ok (.istore 4, 2) := by decide +kernel
theorem dX4_gatherings_55 : decode cX4_gatherings 55 = .ok (.iinc 3 1, 3) := by decide +kernel
theorem dX4_gatherings_58 : decode cX4_gatherings 58 = .ok (.goto (-25), 3) := by decide +kernel
theorem dX4_gatherings_61 : decode cX4_gatherings 61 = .ok (.aload_n 0, 1) := by decide +kernel
theorem dX4_gatherings_62 : decode cX4_gatherings 62 = .ok (.getfield 22, 3) := by decide +kernel
theorem dX4_gatherings_65 : decode cX4_gatherings 65 = .ok (.iload_n 1, 1) := by decide +kernel
theorem dX4_gatherings_66 : decode cX4_gatherings 66 = .ok (.iaload, 1) := by decide +kernel
theorem dX4_gatherings_67 : decode cX4_gatherings 67 = .ok (.iload_n 2, 1) := by decide +kernel
theorem dX4_gatherings_68 : decode cX4_gatherings 68 = .ok (.if_icmp .lt 7, 3) := by decide +kernel
theorem dX4_gatherings_71 : decode cX4_gatherings 71 = .ok (.iconst 1, 1) := by decide +kernel
theorem dX4_gatherings_72 : decode cX4_gatherings 72 = .ok (.goto 4, 3) := by decide +kernel
theorem dX4_gatherings_75 : decode cX4_gatherings 75 = .ok (.iconst 0, 1) := by decide +kernel
theorem dX4_gatherings_76 : decode cX4_gatherings 76 = .ok (.istore 5, 2) := by decide +kernel
theorem dX4_gatherings_78 : decode cX4_gatherings 78 = .ok (.aload_n 0, 1) := by decide +kernel
theorem dX4_gatherings_79 : decode cX4_gatherings 79 = .ok (.invokevirtual 173, 3) := by decide +kernel
theorem dX4_gatherings_82 : decode cX4_gatherings 82 = .ok (.iload 5, 2) := by decide +kernel
theorem dX4_gatherings_84 : decode cX4_gatherings 84 = .ok (.ifCond .eq 7, 3) := by decide +kernel
theorem dX4_gatherings_87 : decode cX4_gatherings 87 = .ok (.iload_n 3, 1) := by decide +kernel
theorem dX4_gatherings_88 : decode cX4_gatherings 88 = .ok (.goto 5, 3) := by decide +kernel
theorem dX4_gatherings_91 : decode cX4_gatherings 91 = .ok (.bipush (-9), 2) := by decide +kernel
theorem dX4_gatherings_93 : decode cX4_gatherings 93 = .ok (.ireturn, 1) := by decide +kernel
set_option maxRecDepth 20000 in
theorem ggX4_missingTo_X4_isOf : GoodIn wsX4_missingTo wsX4_isOf := goodIn_r _ [7] (by decide +kernel) (by decide +kernel)
set_option maxRecDepth 20000 in
theorem gX4_missingTo_X4_isOf : GoodIn wsX4_missingTo (va_wsS RX4 122 yX4_isOf wsX4_isOf) := goodIn_app (goodIn_of _ (by decide +kernel)) ggX4_missingTo_X4_isOf
theorem dX4_missingTo_0 : decode cX4_missingTo 0 = .ok (.iconst 0, 1) := by decide +kernel
theorem dX4_missingTo_1 : decode cX4_missingTo 1 = .ok (.istore_n 2, 1) := by decide +kernel
theorem dX4_missingTo_2 : decode cX4_missingTo 2 = .ok (.iconst 0, 1) := by decide +kernel
theorem dX4_missingTo_3 : decode cX4_missingTo 3 = .ok (.istore_n 3, 1) := by decide +kernel
theorem dX4_missingTo_4 : decode cX4_missingTo 4 = .ok (.iload_n 3, 1) := by decide +kernel
theorem dX4_missingTo_5 : decode cX4_missingTo 5 = .ok (.aload_n 0, 1) := by decide +kernel
theorem dX4_missingTo_6 : decode cX4_missingTo 6 = .ok (.getfield 56, 3) := by decide +kernel
theorem dX4_missingTo_9 : decode cX4_missingTo 9 = .ok (.if_icmp .ge 45, 3) := by decide +kernel
theorem dX4_missingTo_12 : decode cX4_missingTo 12 = .ok (.iload_n 2, 1) := by decide +kernel
theorem dX4_missingTo_13 : decode cX4_missingTo 13 = .ok (.aload_n 0, 1) := by decide +kernel
theorem dX4_missingTo_14 : decode cX4_missingTo 14 = .ok (.getfield 96, 3) := by decide +kernel
theorem dX4_missingTo_17 : decode cX4_missingTo 17 = .ok (.iload_n 3, 1) := by decide +kernel
theorem dX4_missingTo_18 : decode cX4_missingTo 18 = .ok (.invokestatic 122, 3) := by decide +kernel
theorem dX4_missingTo_21 : decode cX4_missingTo 21 = .ok (.ifCond .eq 24, 3) := by decide +kernel
theorem dX4_missingTo_24 : decode cX4_missingTo 24 = .ok (.aload_n 0, 1) := by decide +kernel
theorem dX4_missingTo_25 : decode cX4_missingTo 25 = .ok (.getfield 22, 3) := by decide +kernel
theorem dX4_missingTo_28 : decode cX4_missingTo 28 = .ok (.iload_n 3, 1) := by decide +kernel
theorem dX4_missingTo_29 : decode cX4_missingTo 29 = .ok (.iaload, 1) := by decide +kernel
theorem dX4_missingTo_30 : decode cX4_missingTo 30 = .ok (.iload_n 1, 1) := by decide +kernel
theorem dX4_missingTo_31 : decode cX4_missingTo 31 = .ok (.if_icmp .ge 14, 3) := by decide +kernel
theorem dX4_missingTo_34 : decode cX4_missingTo 34 = .ok (.iload_n 1, 1) := by decide +kernel
theorem dX4_missingTo_35 : decode cX4_missingTo 35 = .ok (.aload_n 0, 1) := by decide +kernel
theorem dX4_missingTo_36 : decode cX4_missingTo 36 = .ok (.getfield 22, 3) := by decide +kernel
theorem dX4_missingTo_39 : decode cX4_missingTo 39 = .ok (.iload_n 3, 1) := by decide +kernel
theorem dX4_missingTo_40 : decode cX4_missingTo 40 = .ok (.iaload, 1) := by decide +kernel
theorem dX4_missingTo_41 : decode cX4_missingTo 41 = .ok (.isub, 1) := by decide +kernel
theorem dX4_missingTo_42 : decode cX4_missingTo 42 = .ok (.goto 4, 3) := by decide +kernel
theorem dX4_missingTo_45 : decode cX4_missingTo 45 = .ok (.iconst 0, 1) := by decide +kernel
theorem dX4_missingTo_46 : decode cX4_missingTo 46 = .ok (.iadd, 1) := by decide +kernel
theorem dX4_missingTo_47 : decode cX4_missingTo 47 = .ok (.istore_n 2, 1) := by decide +kernel
theorem dX4_missingTo_48 : decode cX4_missingTo 48 = .ok (.iinc 3 1, 3) := by decide +kernel
theorem dX4_missingTo_51 : decode cX4_missingTo 51 = .ok (.goto (-47), 3) := by decide +kernel
theorem dX4_missingTo_54 : decode cX4_missingTo 54 = .ok (.iload_n 2, 1) := by decide +kernel
theorem dX4_missingTo_55 : decode cX4_missingTo 55 = .ok (.ireturn, 1) := by decide +kernel
set_option maxRecDepth 20000 in
theorem ggX4_level_X4_within : GoodIn wsX4_level wsX4_within := goodIn_r _ [6] (by decide +kernel) (by decide +kernel)
set_option maxRecDepth 20000 in
theorem gX4_level_X4_within : GoodIn wsX4_level (va_wsS RX4 52 yX4_within wsX4_within) := goodIn_app (goodIn_of _ (by decide +kernel)) ggX4_level_X4_within
set_option maxRecDepth 20000 in
theorem ggX4_level_X4_missingTo : GoodIn wsX4_level wsX4_missingTo := goodIn_r _ [10, 11, 1, 12, 13, 14, 5, 15, 16, 17, 18, 19, 20, 21, 22, 23, 24, 25, 26, 27, 28, 29, 30, 31, 32, 33, 34, 35, 36, 37, 38, 39] (by decide +kernel) (by decide +kernel)
set_option maxRecDepth 20000 in
theorem gX4_level_X4_missingTo : GoodIn wsX4_level (wsV RX4 176 RX4 yX4_missingTo wsX4_missingTo) := goodIn_app (goodIn_of _ (by decide +kernel)) ggX4_level_X4_missingTo
theorem dX4_level_0 : decode cX4_level 0 = .ok (.iload_n 1, 1) := by decide +kernel
theorem dX4_level_1 : decode cX4_level 1 = .ok (.iconst 0, 1) := by decide +kernel
theorem dX4_level_2 : decode cX4_level 2 = .ok (.iconst 1, 1) := by decide +kernel
theorem dX4_level_3 : decode cX4_level 3 = .ok (.invokestatic 52, 3) := by decide +kernel
theorem dX4_level_6 : decode cX4_level 6 = .ok (.ifCond .ne 6, 3) := by decide +kernel
theorem dX4_level_9 : decode cX4_level 9 = .ok (.bipush (-2), 2) := by decide +kernel
theorem dX4_level_11 : decode cX4_level 11 = .ok (.ireturn, 1) := by decide +kernel
theorem dX4_level_12 : decode cX4_level 12 = .ok (.aload_n 0, 1) := by decide +kernel
theorem dX4_level_13 : decode cX4_level 13 = .ok (.getfield 96, 3) := by decide +kernel
theorem dX4_level_16 : decode cX4_level 16 = .ok (.ifCond .ne 6, 3) := by decide +kernel
theorem dX4_level_19 : decode cX4_level 19 = .ok (.bipush (-3), 2) := by decide +kernel
theorem dX4_level_21 : decode cX4_level 21 = .ok (.ireturn, 1) := by decide +kernel
theorem dX4_level_22 : decode cX4_level 22 = .ok (.iconst 0, 1) := by decide +kernel
theorem dX4_level_23 : decode cX4_level 23 = .ok (.istore_n 2, 1) := by decide +kernel
theorem dX4_level_24 : decode cX4_level 24 = .ok (.aload_n 0, 1) := by decide +kernel
theorem dX4_level_25 : decode cX4_level 25 = .ok (.iload_n 2, 1) := by decide +kernel
theorem dX4_level_26 : decode cX4_level 26 = .ok (.iconst 1, 1) := by decide +kernel
theorem dX4_level_27 : decode cX4_level 27 = .ok (.iadd, 1) := by decide +kernel
theorem dX4_level_28 : decode cX4_level 28 = .ok (.invokevirtual 176, 3) := by decide +kernel
theorem dX4_level_31 : decode cX4_level 31 = .ok (.aload_n 0, 1) := by decide +kernel
theorem dX4_level_32 : decode cX4_level 32 = .ok (.getfield 90, 3) := by decide +kernel
theorem dX4_level_35 : decode cX4_level 35 = .ok (.if_icmp .gt 9, 3) := by decide +kernel
theorem dX4_level_38 : decode cX4_level 38 = .ok (.iinc 2 1, 3) := by decide +kernel
theorem dX4_level_41 : decode cX4_level 41 = .ok (.goto (-17), 3) := by decide +kernel
theorem dX4_level_44 : decode cX4_level 44 = .ok (.iload_n 1, 1) := by decide +kernel
theorem dX4_level_45 : decode cX4_level 45 = .ok (.ifCond .ne 7, 3) := by decide +kernel
theorem dX4_level_48 : decode cX4_level 48 = .ok (.iload_n 2, 1) := by decide +kernel
theorem dX4_level_49 : decode cX4_level 49 = .ok (.goto 13, 3) := by decide +kernel
theorem dX4_level_52 : decode cX4_level 52 = .ok (.aload_n 0, 1) := by decide +kernel
theorem dX4_level_53 : decode cX4_level 53 = .ok (.getfield 90, 3) := by decide +kernel
theorem dX4_level_56 : decode cX4_level 56 = .ok (.aload_n 0, 1) := by decide +kernel
theorem dX4_level_57 : decode cX4_level 57 = .ok (.iload_n 2, 1) := by decide +kernel
theorem dX4_level_58 : decode cX4_level 58 = .ok (.invokevirtual 176, 3) := by decide +kernel
theorem dX4_level_61 : decode cX4_level 61 = .ok (.isub, 1) := by decide +kernel
theorem dX4_level_62 : decode cX4_level 62 = .ok (.ireturn, 1) := by decide +kernel
set_option maxRecDepth 20000 in
theorem ggX4_were_X4_isPerson : GoodIn wsX4_were wsX4_isPerson := goodIn_r _ [6, 1, 25, 26, 27, 28, 29, 30, 31, 32, 33, 34, 35, 36, 37, 38, 39, 40, 41, 42, 43, 44, 45, 46, 47, 48] (by decide +kernel) (by decide +kernel)
set_option maxRecDepth 20000 in
theorem gX4_were_X4_isPerson : GoodIn wsX4_were (wsV RX4 116 RX4 yX4_isPerson wsX4_isPerson) := goodIn_app (goodIn_of _ (by decide +kernel)) ggX4_were_X4_isPerson
set_option maxRecDepth 20000 in
theorem ggX4_were_X4_within : GoodIn wsX4_were wsX4_within := goodIn_r _ [9] (by decide +kernel) (by decide +kernel)
set_option maxRecDepth 20000 in
theorem gX4_were_X4_within : GoodIn wsX4_were (va_wsS RX4 52 yX4_within wsX4_within) := goodIn_app (goodIn_of _ (by decide +kernel)) ggX4_were_X4_within
set_option maxRecDepth 20000 in
theorem ggX4_were_X4_isOf : GoodIn wsX4_were wsX4_isOf := goodIn_r _ [12] (by decide +kernel) (by decide +kernel)
set_option maxRecDepth 20000 in
theorem gX4_were_X4_isOf : GoodIn wsX4_were (va_wsS RX4 122 yX4_isOf wsX4_isOf) := goodIn_app (goodIn_of _ (by decide +kernel)) ggX4_were_X4_isOf
set_option maxRecDepth 20000 in
theorem ggX4_were_X4_shareOf : GoodIn wsX4_were wsX4_shareOf := goodIn_r _ [16, 1, 17, 18, 19, 5, 20, 21, 10, 11, 12, 22, 23, 24, 25, 26, 27, 28, 29, 30, 31, 32, 33, 34, 35, 36, 37, 38, 39, 40, 41, 42, 43, 44, 45, 46, 47, 48] (by decide +kernel) (by decide +kernel)
set_option maxRecDepth 20000 in
theorem gX4_were_X4_shareOf : GoodIn wsX4_were (wsV RX4 135 RX4 yX4_shareOf wsX4_shareOf) := goodIn_app (goodIn_of _ (by decide +kernel)) ggX4_were_X4_shareOf
theorem dX4_were_0 : decode cX4_were 0 = .ok (.aload_n 0, 1) := by decide +kernel
theorem dX4_were_1 : decode cX4_were 1 = .ok (.iload_n 1, 1) := by decide +kernel
theorem dX4_were_2 : decode cX4_were 2 = .ok (.invokevirtual 116, 3) := by decide +kernel
theorem dX4_were_5 : decode cX4_were 5 = .ok (.ifCond .ne 5, 3) := by decide +kernel
theorem dX4_were_8 : decode cX4_were 8 = .ok (.iconst (-1), 1) := by decide +kernel
theorem dX4_were_9 : decode cX4_were 9 = .ok (.ireturn, 1) := by decide +kernel
theorem dX4_were_10 : decode cX4_were 10 = .ok (.iload_n 2, 1) := by decide +kernel
theorem dX4_were_11 : decode cX4_were 11 = .ok (.iconst 0, 1) := by decide +kernel
theorem dX4_were_12 : decode cX4_were 12 = .ok (.sipush 300, 3) := by decide +kernel
theorem dX4_were_15 : decode cX4_were 15 = .ok (.invokestatic 52, 3) := by decide +kernel
theorem dX4_were_18 : decode cX4_were 18 = .ok (.ifCond .eq 12, 3) := by decide +kernel
theorem dX4_were_21 : decode cX4_were 21 = .ok (.iload_n 3, 1) := by decide +kernel
theorem dX4_were_22 : decode cX4_were 22 = .ok (.iconst 0, 1) := by decide +kernel
theorem dX4_were_23 : decode cX4_were 23 = .ok (.iconst 2, 1) := by decide +kernel
theorem dX4_were_24 : decode cX4_were 24 = .ok (.invokestatic 52, 3) := by decide +kernel
theorem dX4_were_27 : decode cX4_were 27 = .ok (.ifCond .ne 6, 3) := by decide +kernel
theorem dX4_were_30 : decode cX4_were 30 = .ok (.bipush (-2), 2) := by decide +kernel
theorem dX4_were_32 : decode cX4_were 32 = .ok (.ireturn, 1) := by decide +kernel
theorem dX4_were_33 : decode cX4_were 33 = .ok (.iconst 0, 1) := by decide +kernel
theorem dX4_were_34 : decode cX4_were 34 = .ok (.istore 4, 2) := by decide +kernel
theorem dX4_were_36 : decode cX4_were 36 = .ok (.bipush (-9), 2) := by decide +kernel
theorem dX4_were_38 : decode cX4_were 38 = .ok (.istore 5, 2) := by decide +kernel
theorem dX4_were_40 : decode cX4_were 40 = .ok (.iconst 1, 1) := by decide +kernel
theorem dX4_were_41 : decode cX4_were 41 = .ok (.aload_n 0, 1) := by decide +kernel
theorem dX4_were_42 : decode cX4_were 42 = .ok (.getfield 56, 3) := by decide +kernel
theorem dX4_were_45 : decode cX4_were 45 = .ok (.ishl, 1) := by decide +kernel
theorem dX4_were_46 : decode cX4_were 46 = .ok (.iconst 1, 1) := by decide +kernel
theorem dX4_were_47 : decode cX4_were 47 = .ok (.isub, 1) := by decide +kernel
theorem dX4_were_48 : decode cX4_were 48 = .ok (.istore 6, 2) := by decide +kernel
theorem dX4_were_50 : decode cX4_were 50 = .ok (.iconst 0, 1) := by decide +kernel
theorem dX4_were_51 : decode cX4_were 51 = .ok (.istore 7, 2) := by decide +kernel
theorem dX4_were_53 : decode cX4_were 53 = .ok (.iload 7, 2) := by decide +kernel
theorem dX4_were_55 : decode cX4_were 55 = .ok (.iconst 1, 1) := by decide +kernel
theorem dX4_were_56 : decode cX4_were 56 = .ok (.aload_n 0, 1) := by decide +kernel
theorem dX4_were_57 : decode cX4_were 57 = .ok (.getfield 56, 3) := by decide +kernel
theorem dX4_were_60 : decode cX4_were 60 = .ok (.ishl, 1) := by decide +kernel
theorem dX4_were_61 : decode cX4_were 61 = .ok (.if_icmp .ge 56, 3) := by decide +kernel
theorem dX4_were_64 : decode cX4_were 64 = .ok (.iload 7, 2) := by decide +kernel
theorem dX4_were_66 : decode cX4_were 66 = .ok (.iload_n 1, 1) := by decide +kernel
theorem dX4_were_67 : decode cX4_were 67 = .ok (.invokestatic 122, 3) := by decide +kernel
theorem dX4_were_70 : decode cX4_were 70 = .ok (.ifCond .eq 41, 3) := by decide +kernel
theorem dX4_were_73 : decode cX4_were 73 = .ok (.aload_n 0, 1) := by decide +kernel
theorem dX4_were_74 : decode cX4_were 74 = .ok (.iload 7, 2) := by decide +kernel
theorem dX4_were_76 : decode cX4_were 76 = .ok (.iconst 0, 1) := by decide +kernel
theorem dX4_were_77 : decode cX4_were 77 = .ok (.iload_n 1, 1) := by decide +kernel
theorem dX4_were_78 : decode cX4_were 78 = .ok (.invokevirtual 135, 3) := by decide +kernel
theorem dX4_were_81 : decode cX4_were 81 = .ok (.iload_n 2, 1) := by decide +kernel
theorem dX4_were_82 : decode cX4_were 82 = .ok (.if_icmp .ne 29, 3) := by decide +kernel
theorem dX4_were_85 : decode cX4_were 85 = .ok (.iinc 4 1, 3) := by decide +kernel
theorem dX4_were_88 : decode cX4_were 88 = .ok (.iload 5, 2) := by decide +kernel
theorem dX4_were_90 : decode cX4_were 90 = .ok (.bipush (-9), 2) := by decide +kernel
theorem dX4_were_92 : decode cX4_were 92 = .ok (.if_icmp .ne 8, 3) := by decide +kernel
theorem dX4_were_95 : decode cX4_were 95 = .ok (.iload 7, 2) := by decide +kernel
theorem dX4_were_97 : decode cX4_were 97 = .ok (.goto 5, 3) := by decide +kernel
theorem dX4_were_100 : decode cX4_were 100 = .ok (.iload 5, 2) := by decide +kernel
theorem dX4_were_102 : decode cX4_were 102 = .ok (.istore 5, 2) := by decide +kernel
theorem dX4_were_104 : decode cX4_were 104 = .ok (.iload 6, 2) := by decide +kernel
theorem dX4_were_106 : decode cX4_were 106 = .ok (.iload 7, 2) := by decide +kernel
theorem dX4_were_108 : decode cX4_were 108 = .ok (.iand, 1) := by decide +kernel
theorem dX4_were_109 : decode cX4_were 109 = .ok (.istore 6, 2) := by decide +kernel
theorem dX4_were_111 : decode cX4_were 111 = .ok (.iinc 7 1, 3) := by decide +kernel
theorem dX4_were_114 : decode cX4_were 114 = .ok (.goto (-61), 3) := by decide +kernel
theorem dX4_were_117 : decode cX4_were 117 = .ok (.iload_n 3, 1) := by decide +kernel
theorem dX4_were_118 : decode cX4_were 118 = .ok (.ifCond .ne 8, 3) := by decide +kernel
theorem dX4_were_121 : decode cX4_were 121 = .ok (.iload 4, 2) := by decide +kernel
theorem dX4_were_123 : decode cX4_were 123 = .ok (.goto 20, 3) := by decide +kernel
theorem dX4_were_126 : decode cX4_were 126 = .ok (.iload_n 3, 1) := by decide +kernel
theorem dX4_were_127 : decode cX4_were 127 = .ok (.iconst 1, 1) := by decide +kernel
theorem dX4_were_128 : decode cX4_were 128 = .ok (.if_icmp .eq 8, 3) := by decide +kernel
theorem dX4_were_131 : decode cX4_were 131 = .ok (.iload 4, 2) := by decide +kernel
theorem dX4_were_133 : decode cX4_were 133 = .ok (.ifCond .ne 8, 3) := by decide +kernel
theorem dX4_were_136 : decode cX4_were 136 = .ok (.iload 5, 2) := by decide +kernel
theorem dX4_were_138 : decode cX4_were 138 = .ok (.goto 5, 3) := by decide +kernel
theorem dX4_were_141 : decode cX4_were 141 = .ok (.iload 6, 2) := by decide +kernel
theorem dX4_were_143 : decode cX4_were 143 = .ok (.ireturn, 1) := by decide +kernel
set_option maxRecDepth 20000 in
theorem ggX4_rounds_X4_within : GoodIn wsX4_rounds wsX4_within := goodIn_r _ [6] (by decide +kernel) (by decide +kernel)
set_option maxRecDepth 20000 in
theorem gX4_rounds_X4_within : GoodIn wsX4_rounds (va_wsS RX4 52 yX4_within wsX4_within) := goodIn_app (goodIn_of _ (by decide +kernel)) ggX4_rounds_X4_within
theorem dX4_rounds_0 : decode cX4_rounds 0 = .ok (.iload_n 1, 1) := by decide +kernel
theorem dX4_rounds_1 : decode cX4_rounds 1 = .ok (.iconst 1, 1) := by decide +kernel
theorem dX4_rounds_2 : decode cX4_rounds 2 = .ok (.bipush 9, 2) := by decide +kernel
theorem dX4_rounds_4 : decode cX4_rounds 4 = .ok (.invokestatic 52, 3) := by decide +kernel
theorem dX4_rounds_7 : decode cX4_rounds 7 = .ok (.ifCond .eq 12, 3) := by decide +kernel
theorem dX4_rounds_10 : decode cX4_rounds 10 = .ok (.iload_n 2, 1) := by decide +kernel
theorem dX4_rounds_11 : decode cX4_rounds 11 = .ok (.iconst 0, 1) := by decide +kernel
theorem dX4_rounds_12 : decode cX4_rounds 12 = .ok (.iconst 1, 1) := by decide +kernel
theorem dX4_rounds_13 : decode cX4_rounds 13 = .ok (.invokestatic 52, 3) := by decide +kernel
theorem dX4_rounds_16 : decode cX4_rounds 16 = .ok (.ifCond .ne 6, 3) := by decide +kernel
theorem dX4_rounds_19 : decode cX4_rounds 19 = .ok (.bipush (-2), 2) := by decide +kernel
theorem dX4_rounds_21 : decode cX4_rounds 21 = .ok (.ireturn, 1) := by decide +kernel
theorem dX4_rounds_22 : decode cX4_rounds 22 = .ok (.aload_n 0, 1) := by decide +kernel
theorem dX4_rounds_23 : decode cX4_rounds 23 = .ok (.getfield 56, 3) := by decide +kernel
theorem dX4_rounds_26 : decode cX4_rounds 26 = .ok (.ifCond .ne 6, 3) := by decide +kernel
theorem dX4_rounds_29 : decode cX4_rounds 29 = .ok (.bipush (-3), 2) := by decide +kernel
theorem dX4_rounds_31 : decode cX4_rounds 31 = .ok (.ireturn, 1) := by decide +kernel
theorem dX4_rounds_32 : decode cX4_rounds 32 = .ok (.aload_n 0, 1) := by decide +kernel
theorem dX4_rounds_33 : decode cX4_rounds 33 = .ok (.getfield 90, 3) := by decide +kernel
theorem dX4_rounds_36 : decode cX4_rounds 36 = .ok (.iload_n 1, 1) := by decide +kernel
theorem dX4_rounds_37 : decode cX4_rounds 37 = .ok (.iconst 1, 1) := by decide +kernel
theorem dX4_rounds_38 : decode cX4_rounds 38 = .ok (.iadd, 1) := by decide +kernel
theorem dX4_rounds_39 : decode cX4_rounds 39 = .ok (.irem, 1) := by decide +kernel
theorem dX4_rounds_40 : decode cX4_rounds 40 = .ok (.istore_n 3, 1) := by decide +kernel
theorem dX4_rounds_41 : decode cX4_rounds 41 = .ok (.iload_n 2, 1) := by decide +kernel
theorem dX4_rounds_42 : decode cX4_rounds 42 = .ok (.ifCond .ne 15, 3) := by decide +kernel
theorem dX4_rounds_45 : decode cX4_rounds 45 = .ok (.iload_n 3, 1) := by decide +kernel
theorem dX4_rounds_46 : decode cX4_rounds 46 = .ok (.ifCond .ne 7, 3) := by decide +kernel
theorem dX4_rounds_49 : decode cX4_rounds 49 = .ok (.iconst 0, 1) := by decide +kernel
theorem dX4_rounds_50 : decode cX4_rounds 50 = .ok (.goto 17, 3) := by decide +kernel
theorem dX4_rounds_53 : decode cX4_rounds 53 = .ok (.iconst 1, 1) := by decide +kernel
theorem dX4_rounds_54 : decode cX4_rounds 54 = .ok (.goto 13, 3) := by decide +kernel
theorem dX4_rounds_57 : decode cX4_rounds 57 = .ok (.iload_n 3, 1) := by decide +kernel
theorem dX4_rounds_58 : decode cX4_rounds 58 = .ok (.ifCond .ne 8, 3) := by decide +kernel
theorem dX4_rounds_61 : decode cX4_rounds 61 = .ok (.bipush (-9), 2) := by decide +kernel
theorem dX4_rounds_63 : decode cX4_rounds 63 = .ok (.goto 4, 3) := by decide +kernel
theorem dX4_rounds_66 : decode cX4_rounds 66 = .ok (.iload_n 3, 1) := by decide +kernel
theorem dX4_rounds_67 : decode cX4_rounds 67 = .ok (.ireturn, 1) := by decide +kernel
theorem dX4_factorial_0 : decode cX4_factorial 0 = .ok (.lconst 1, 1) := by decide +kernel
theorem dX4_factorial_1 : decode cX4_factorial 1 = .ok (.lstore_n 1, 1) := by decide +kernel
theorem dX4_factorial_2 : decode cX4_factorial 2 = .ok (.iconst 2, 1) := by decide +kernel
theorem dX4_factorial_3 : decode cX4_factorial 3 = .ok (.istore_n 3, 1) := by decide +kernel
theorem dX4_factorial_4 : decode cX4_factorial 4 = .ok (.iload_n 3, 1) := by decide +kernel
theorem dX4_factorial_5 : decode cX4_factorial 5 = .ok (.iload_n 0, 1) := by decide +kernel
theorem dX4_factorial_6 : decode cX4_factorial 6 = .ok (.if_icmp .gt 14, 3) := by decide +kernel
theorem dX4_factorial_9 : decode cX4_factorial 9 = .ok (.lload_n 1, 1) := by decide +kernel
theorem dX4_factorial_10 : decode cX4_factorial 10 = .ok (.iload_n 3, 1) := by decide +kernel
theorem dX4_factorial_11 : decode cX4_factorial 11 = .ok (.i2l, 1) := by decide +kernel
theorem dX4_factorial_12 : decode cX4_factorial 12 = .ok (.lmul, 1) := by decide +kernel
theorem dX4_factorial_13 : decode cX4_factorial 13 = .ok (.lstore_n 1, 1) := by decide +kernel
theorem dX4_factorial_14 : decode cX4_factorial 14 = .ok (.iinc 3 1, 3) := by decide +kernel
theorem dX4_factorial_17 : decode cX4_factorial 17 = .ok (.goto (-13), 3) := by decide +kernel
theorem dX4_factorial_20 : decode cX4_factorial 20 = .ok (.lload_n 1, 1) := by decide +kernel
theorem dX4_factorial_21 : decode cX4_factorial 21 = .ok (.lreturn, 1) := by decide +kernel
set_option maxRecDepth 20000 in
theorem ggX4_worth_X4_isPerson : GoodIn wsX4_worth wsX4_isPerson := goodIn_r _ [9, 3, 29, 30, 31, 32, 33, 34, 35, 36, 37, 38, 39, 40, 41, 42, 43, 44, 45, 46, 47, 48, 49, 50, 51, 52] (by decide +kernel) (by decide +kernel)
set_option maxRecDepth 20000 in
theorem gX4_worth_X4_isPerson : GoodIn wsX4_worth (wsV RX4 116 RX4 yX4_isPerson wsX4_isPerson) := goodIn_app (goodIn_of _ (by decide +kernel)) ggX4_worth_X4_isPerson
set_option maxRecDepth 20000 in
theorem ggX4_worth_X4_within : GoodIn wsX4_worth wsX4_within := goodIn_r _ [12] (by decide +kernel) (by decide +kernel)
set_option maxRecDepth 20000 in
theorem gX4_worth_X4_within : GoodIn wsX4_worth (va_wsS RX4 52 yX4_within wsX4_within) := goodIn_app (goodIn_of _ (by decide +kernel)) ggX4_worth_X4_within
set_option maxRecDepth 20000 in
theorem ggX4_worth_X4_isOf : GoodIn wsX4_worth wsX4_isOf := goodIn_r _ [15] (by decide +kernel) (by decide +kernel)
set_option maxRecDepth 20000 in
theorem gX4_worth_X4_isOf : GoodIn wsX4_worth (va_wsS RX4 122 yX4_isOf wsX4_isOf) := goodIn_app (goodIn_of _ (by decide +kernel)) ggX4_worth_X4_isOf
set_option maxRecDepth 20000 in
theorem ggX4_worth_X4_partsOf : GoodIn wsX4_worth wsX4_partsOf := goodIn_r _ [19, 3, 4, 13, 14, 8, 15, 29, 30, 31, 32, 33, 34, 35, 36, 37, 38, 39, 40, 41, 42, 43, 44, 45, 46, 47, 48, 49, 50, 51, 52] (by decide +kernel) (by decide +kernel)
set_option maxRecDepth 20000 in
theorem gX4_worth_X4_partsOf : GoodIn wsX4_worth (wsV RX4 129 RX4 yX4_partsOf wsX4_partsOf) := goodIn_app (goodIn_of _ (by decide +kernel)) ggX4_worth_X4_partsOf
set_option maxRecDepth 20000 in
theorem ggX4_worth_X4_size : GoodIn wsX4_worth wsX4_size := goodIn_r _ [22] (by decide +kernel) (by decide +kernel)
set_option maxRecDepth 20000 in
theorem gX4_worth_X4_size : GoodIn wsX4_worth (va_wsS RX4 132 yX4_size wsX4_size) := goodIn_app (goodIn_of _ (by decide +kernel)) ggX4_worth_X4_size
set_option maxRecDepth 20000 in
theorem ggX4_worth_X4_factorial : GoodIn wsX4_worth wsX4_factorial := goodIn_r _ [25] (by decide +kernel) (by decide +kernel)
set_option maxRecDepth 20000 in
theorem gX4_worth_X4_factorial : GoodIn wsX4_worth (va_wsS RX4 179 yX4_factorial wsX4_factorial) := goodIn_app (goodIn_of _ (by decide +kernel)) ggX4_worth_X4_factorial
set_option maxRecDepth 20000 in
theorem ggX4_worth_X4_inLeastTerms : GoodIn wsX4_worth wsX4_inLeastTerms := goodIn_r _ [28] (by decide +kernel) (by decide +kernel)
set_option maxRecDepth 20000 in
theorem gX4_worth_X4_inLeastTerms : GoodIn wsX4_worth (va_wsS RX4 183 yX4_inLeastTerms wsX4_inLeastTerms) := goodIn_app (goodIn_of _ (by decide +kernel)) ggX4_worth_X4_inLeastTerms
theorem dX4_worth_0 : decode cX4_worth 0 = .ok (.aload_n 0, 1) := by decide +kernel
theorem dX4_worth_1 : decode cX4_worth 1 = .ok (.iload_n 1, 1) := by decide +kernel
theorem dX4_worth_2 : decode cX4_worth 2 = .ok (.invokevirtual 116, 3) := by decide +kernel
theorem dX4_worth_5 : decode cX4_worth 5 = .ok (.ifCond .eq 23, 3) := by decide +kernel
theorem dX4_worth_8 : decode cX4_worth 8 = .ok (.iload_n 2, 1) := by decide +kernel
theorem dX4_worth_9 : decode cX4_worth 9 = .ok (.iconst 0, 1) := by decide +kernel
theorem dX4_worth_10 : decode cX4_worth 10 = .ok (.iconst 1, 1) := by decide +kernel
theorem dX4_worth_11 : decode cX4_worth 11 = .ok (.invokestatic 52, 3) := by decide +kernel
theorem dX4_worth_14 : decode cX4_worth 14 = .ok (.ifCond .eq 14, 3) := by decide +kernel
theorem dX4_worth_17 : decode cX4_worth 17 = .ok (.aload_n 0, 1) := by decide +kernel
theorem dX4_worth_18 : decode cX4_worth 18 = .ok (.getfield 96, 3) := by decide +kernel
theorem dX4_worth_21 : decode cX4_worth 21 = .ok (.iload_n 1, 1) := by decide +kernel
theorem dX4_worth_22 : decode cX4_worth 22 = .ok (.invokestatic 122, 3) := by decide +kernel
theorem dX4_worth_25 : decode cX4_worth 25 = .ok (.ifCond .ne 7, 3) := by decide +kernel
theorem dX4_worth_28 : decode cX4_worth 28 = .ok (.ldc2_w 50, 3) := by decide +kernel
theorem dX4_worth_31 : decode cX4_worth 31 = .ok (.lreturn, 1) := by decide +kernel
theorem dX4_worth_32 : decode cX4_worth 32 = .ok (.aload_n 0, 1) := by decide +kernel
theorem dX4_worth_33 : decode cX4_worth 33 = .ok (.aload_n 0, 1) := by decide +kernel
theorem dX4_worth_34 : decode cX4_worth 34 = .ok (.getfield 96, 3) := by decide +kernel
theorem dX4_worth_37 : decode cX4_worth 37 = .ok (.invokevirtual 129, 3) := by decide +kernel
theorem dX4_worth_40 : decode cX4_worth 40 = .ok (.istore_n 3, 1) := by decide +kernel
theorem dX4_worth_41 : decode cX4_worth 41 = .ok (.aload_n 0, 1) := by decide +kernel
theorem dX4_worth_42 : decode cX4_worth 42 = .ok (.getfield 96, 3) := by decide +kernel
theorem dX4_worth_45 : decode cX4_worth 45 = .ok (.iconst 1, 1) := by decide +kernel
theorem dX4_worth_46 : decode cX4_worth 46 = .ok (.iload_n 1, 1) := by decide +kernel
theorem dX4_worth_47 : decode cX4_worth 47 = .ok (.ishl, 1) := by decide +kernel
theorem dX4_worth_48 : decode cX4_worth 48 = .ok (.iconst (-1), 1) := by decide +kernel
theorem dX4_worth_49 : decode cX4_worth 49 = .ok (.ixor, 1) := by decide +kernel
theorem dX4_worth_50 : decode cX4_worth 50 = .ok (.iand, 1) := by decide +kernel
theorem dX4_worth_51 : decode cX4_worth 51 = .ok (.istore 4, 2) := by decide +kernel
theorem dX4_worth_53 : decode cX4_worth 53 = .ok (.aload_n 0, 1) := by decide +kernel
theorem dX4_worth_54 : decode cX4_worth 54 = .ok (.getfield 96, 3) := by decide +kernel
theorem dX4_worth_57 : decode cX4_worth 57 = .ok (.invokestatic 132, 3) := by decide +kernel
theorem dX4_worth_60 : decode cX4_worth 60 = .ok (.istore 5, 2) := by decide +kernel
theorem dX4_worth_62 : decode cX4_worth 62 = .ok (.lconst 0, 1) := by decide +kernel
theorem dX4_worth_63 : decode cX4_worth 63 = .ok (.lstore 6, 2) := by decide +kernel
theorem dX4_worth_65 : decode cX4_worth 65 = .ok (.iconst 0, 1) := by decide +kernel
theorem dX4_worth_66 : decode cX4_worth 66 = .ok (.istore 8, 2) := by decide +kernel
theorem dX4_worth_68 : decode cX4_worth 68 = .ok (.iload 8, 2) := by decide +kernel
theorem dX4_worth_70 : decode cX4_worth 70 = .ok (.iconst 1, 1) := by decide +kernel
theorem dX4_worth_71 : decode cX4_worth 71 = .ok (.aload_n 0, 1) := by decide +kernel
theorem dX4_worth_72 : decode cX4_worth 72 = .ok (.getfield 56, 3) := by decide +kernel
theorem dX4_worth_75 : decode cX4_worth 75 = .ok (.ishl, 1) := by decide +kernel
theorem dX4_worth_76 : decode cX4_worth 76 = .ok (.if_icmp .ge 77, 3) := by decide +kernel
theorem dX4_worth_79 : decode cX4_worth 79 = .ok (.aload_n 0, 1) := by decide +kernel
theorem dX4_worth_80 : decode cX4_worth 80 = .ok (.iload 8, 2) := by decide +kernel
theorem dX4_worth_82 : decode cX4_worth 82 = .ok (.invokevirtual 129, 3) := by decide +kernel
theorem dX4_worth_85 : decode cX4_worth 85 = .ok (.istore 9, 2) := by decide +kernel
theorem dX4_worth_87 : decode cX4_worth 87 = .ok (.iload 8, 2) := by decide +kernel
theorem dX4_worth_89 : decode cX4_worth 89 = .ok (.iload 4, 2) := by decide +kernel
theorem dX4_worth_91 : decode cX4_worth 91 = .ok (.iconst (-1), 1) := by decide +kernel
theorem dX4_worth_92 : decode cX4_worth 92 = .ok (.ixor, 1) := by decide +kernel
theorem dX4_worth_93 : decode cX4_worth 93 = .ok (.iand, 1) := by decide +kernel
theorem dX4_worth_94 : decode cX4_worth 94 = .ok (.ifCond .ne 53, 3) := by decide +kernel
theorem dX4_worth_97 : decode cX4_worth 97 = .ok (.iconst 2, 1) := by decide +kernel
theorem dX4_worth_98 : decode cX4_worth 98 = .ok (.iload 9, 2) := by decide +kernel
theorem dX4_worth_100 : decode cX4_worth 100 = .ok (.imul, 1) := by decide +kernel
theorem dX4_worth_101 : decode cX4_worth 101 = .ok (.iload_n 3, 1) := by decide +kernel
theorem dX4_worth_102 : decode cX4_worth 102 = .ok (.if_icmp .gt 45, 3) := by decide +kernel
theorem dX4_worth_105 : decode cX4_worth 105 = .ok (.iconst 2, 1) := by decide +kernel
theorem dX4_worth_106 : decode cX4_worth 106 = .ok (.iload 9, 2) := by decide +kernel
theorem dX4_worth_108 : decode cX4_worth 108 = .ok (.aload_n 0, 1) := by decide +kernel
theorem dX4_worth_109 : decode cX4_worth 109 = .ok (.getfield 22, 3) := by decide +kernel
theorem dX4_worth_112 : decode cX4_worth 112 = .ok (.iload_n 1, 1) := by decide +kernel
theorem dX4_worth_113 : decode cX4_worth 113 = .ok (.iaload, 1) := by decide +kernel
theorem dX4_worth_114 : decode cX4_worth 114 = .ok (.iadd, 1) := by decide +kernel
theorem dX4_worth_115 : decode cX4_worth 115 = .ok (.imul, 1) := by decide +kernel
theorem dX4_worth_116 : decode cX4_worth 116 = .ok (.iload_n 3, 1) := by decide +kernel
theorem dX4_worth_117 : decode cX4_worth 117 = .ok (.if_icmp .le 30, 3) := by decide +kernel
theorem dX4_worth_120 : decode cX4_worth 120 = .ok (.lload 6, 2) := by decide +kernel
theorem dX4_worth_122 : decode cX4_worth 122 = .ok (.iload 8, 2) := by decide +kernel
theorem dX4_worth_124 : decode cX4_worth 124 = .ok (.invokestatic 132, 3) := by decide +kernel
theorem dX4_worth_127 : decode cX4_worth 127 = .ok (.invokestatic 179, 3) := by decide +kernel
theorem dX4_worth_130 : decode cX4_worth 130 = .ok (.iload 5, 2) := by decide +kernel
theorem dX4_worth_132 : decode cX4_worth 132 = .ok (.iconst 1, 1) := by decide +kernel
theorem dX4_worth_133 : decode cX4_worth 133 = .ok (.isub, 1) := by decide +kernel
theorem dX4_worth_134 : decode cX4_worth 134 = .ok (.iload 8, 2) := by decide +kernel
theorem dX4_worth_136 : decode cX4_worth 136 = .ok (.invokestatic 132, 3) := by decide +kernel
theorem dX4_worth_139 : decode cX4_worth 139 = .ok (.isub, 1) := by decide +kernel
theorem dX4_worth_140 : decode cX4_worth 140 = .ok (.invokestatic 179, 3) := by decide +kernel
theorem dX4_worth_143 : decode cX4_worth 143 = .ok (.lmul, 1) := by decide +kernel
theorem dX4_worth_144 : decode cX4_worth 144 = .ok (.ladd, 1) := by decide +kernel
theorem dX4_worth_145 : decode cX4_worth 145 = .ok (.lstore 6, 2) := by decide +kernel
theorem dX4_worth_147 : decode cX4_worth 147 = .ok (.iinc 8 1, 3) := by decide +kernel
theorem dX4_worth_150 : decode cX4_worth 150 = .ok (.goto (-82), 3) := by decide +kernel
theorem dX4_worth_153 : decode cX4_worth 153 = .ok (.lload 6, 2) := by decide +kernel
theorem dX4_worth_155 : decode cX4_worth 155 = .ok (.iload 5, 2) := by decide +kernel
theorem dX4_worth_157 : decode cX4_worth 157 = .ok (.invokestatic 179, 3) := by decide +kernel
theorem dX4_worth_160 : decode cX4_worth 160 = .ok (.iload_n 2, 1) := by decide +kernel
theorem dX4_worth_161 : decode cX4_worth 161 = .ok (.invokestatic 183, 3) := by decide +kernel
theorem dX4_worth_164 : decode cX4_worth 164 = .ok (.lreturn, 1) := by decide +kernel
set_option maxRecDepth 20000 in
theorem ggX4_mean_X4_within : GoodIn wsX4_mean wsX4_within := goodIn_r _ [6] (by decide +kernel) (by decide +kernel)
set_option maxRecDepth 20000 in
theorem gX4_mean_X4_within : GoodIn wsX4_mean (va_wsS RX4 52 yX4_within wsX4_within) := goodIn_app (goodIn_of _ (by decide +kernel)) ggX4_mean_X4_within
set_option maxRecDepth 20000 in
theorem ggX4_mean_X4_partsOf : GoodIn wsX4_mean wsX4_partsOf := goodIn_r _ [10, 11, 12, 13, 14, 5, 15, 22, 23, 24, 25, 26, 27, 28, 29, 30, 31, 32, 33, 34, 35, 36, 37, 38, 39, 40, 41, 42, 43, 44, 45] (by decide +kernel) (by decide +kernel)
set_option maxRecDepth 20000 in
theorem gX4_mean_X4_partsOf : GoodIn wsX4_mean (wsV RX4 129 RX4 yX4_partsOf wsX4_partsOf) := goodIn_app (goodIn_of _ (by decide +kernel)) ggX4_mean_X4_partsOf
set_option maxRecDepth 20000 in
theorem ggX4_mean_X4_size : GoodIn wsX4_mean wsX4_size := goodIn_r _ [18] (by decide +kernel) (by decide +kernel)
set_option maxRecDepth 20000 in
theorem gX4_mean_X4_size : GoodIn wsX4_mean (va_wsS RX4 132 yX4_size wsX4_size) := goodIn_app (goodIn_of _ (by decide +kernel)) ggX4_mean_X4_size
set_option maxRecDepth 20000 in
theorem ggX4_mean_X4_inLeastTerms : GoodIn wsX4_mean wsX4_inLeastTerms := goodIn_r _ [21] (by decide +kernel) (by decide +kernel)
set_option maxRecDepth 20000 in
theorem gX4_mean_X4_inLeastTerms : GoodIn wsX4_mean (va_wsS RX4 183 yX4_inLeastTerms wsX4_inLeastTerms) := goodIn_app (goodIn_of _ (by decide +kernel)) ggX4_mean_X4_inLeastTerms
theorem dX4_mean_0 : decode cX4_mean 0 = .ok (.iload_n 1, 1) := by decide +kernel
theorem dX4_mean_1 : decode cX4_mean 1 = .ok (.iconst 0, 1) := by decide +kernel
theorem dX4_mean_2 : decode cX4_mean 2 = .ok (.iconst 1, 1) := by decide +kernel
theorem dX4_mean_3 : decode cX4_mean 3 = .ok (.invokestatic 52, 3) := by decide +kernel
theorem dX4_mean_6 : decode cX4_mean 6 = .ok (.ifCond .eq 10, 3) := by decide +kernel
theorem dX4_mean_9 : decode cX4_mean 9 = .ok (.aload_n 0, 1) := by decide +kernel
theorem dX4_mean_10 : decode cX4_mean 10 = .ok (.getfield 96, 3) := by decide +kernel
theorem dX4_mean_13 : decode cX4_mean 13 = .ok (.ifCond .ne 7, 3) := by decide +kernel
theorem dX4_mean_16 : decode cX4_mean 16 = .ok (.ldc2_w 50, 3) := by decide +kernel
theorem dX4_mean_19 : decode cX4_mean 19 = .ok (.lreturn, 1) := by decide +kernel
theorem dX4_mean_20 : decode cX4_mean 20 = .ok (.aload_n 0, 1) := by decide +kernel
theorem dX4_mean_21 : decode cX4_mean 21 = .ok (.aload_n 0, 1) := by decide +kernel
theorem dX4_mean_22 : decode cX4_mean 22 = .ok (.getfield 96, 3) := by decide +kernel
theorem dX4_mean_25 : decode cX4_mean 25 = .ok (.invokevirtual 129, 3) := by decide +kernel
theorem dX4_mean_28 : decode cX4_mean 28 = .ok (.i2l, 1) := by decide +kernel
theorem dX4_mean_29 : decode cX4_mean 29 = .ok (.aload_n 0, 1) := by decide +kernel
theorem dX4_mean_30 : decode cX4_mean 30 = .ok (.getfield 96, 3) := by decide +kernel
theorem dX4_mean_33 : decode cX4_mean 33 = .ok (.invokestatic 132, 3) := by decide +kernel
theorem dX4_mean_36 : decode cX4_mean 36 = .ok (.i2l, 1) := by decide +kernel
theorem dX4_mean_37 : decode cX4_mean 37 = .ok (.iload_n 1, 1) := by decide +kernel
theorem dX4_mean_38 : decode cX4_mean 38 = .ok (.invokestatic 183, 3) := by decide +kernel
theorem dX4_mean_41 : decode cX4_mean 41 = .ok (.lreturn, 1) := by decide +kernel
theorem dX4_inLeastTerms_0 : decode cX4_inLeastTerms 0 = .ok (.lload_n 0, 1) := by decide +kernel
theorem dX4_inLeastTerms_1 : decode cX4_inLeastTerms 1 = .ok (.lstore 5, 2) := by decide +kernel
theorem dX4_inLeastTerms_3 : decode cX4_inLeastTerms 3 = .ok (.lload_n 2, 1) := by decide +kernel
theorem dX4_inLeastTerms_4 : decode cX4_inLeastTerms 4 = .ok (.lstore 7, 2) := by decide +kernel
theorem dX4_inLeastTerms_6 : decode cX4_inLeastTerms 6 = .ok (.lload 7, 2) := by decide +kernel
theorem dX4_inLeastTerms_8 : decode cX4_inLeastTerms 8 = .ok (.lconst 0, 1) := by decide +kernel
theorem dX4_inLeastTerms_9 : decode cX4_inLeastTerms 9 = .ok (.lcmp, 1) := by decide +kernel
theorem dX4_inLeastTerms_10 : decode cX4_inLeastTerms 10 = .ok (.ifCond .eq 21, 3) := by decide +kernel
theorem dX4_inLeastTerms_13 : decode cX4_inLeastTerms 13 = .ok (.lload 5, 2) := by decide +kernel
theorem dX4_inLeastTerms_15 : decode cX4_inLeastTerms 15 = .ok (.lload 7, 2) := by decide +kernel
theorem dX4_inLeastTerms_17 : decode cX4_inLeastTerms 17 = .ok (.lrem, 1) := by decide +kernel
theorem dX4_inLeastTerms_18 : decode cX4_inLeastTerms 18 = .ok (.lstore 9, 2) := by decide +kernel
theorem dX4_inLeastTerms_20 : decode cX4_inLeastTerms 20 = .ok (.lload 7, 2) := by decide +kernel
theorem dX4_inLeastTerms_22 : decode cX4_inLeastTerms 22 = .ok (.lstore 5, 2) := by decide +kernel
theorem dX4_inLeastTerms_24 : decode cX4_inLeastTerms 24 = .ok (.lload 9, 2) := by decide +kernel
theorem dX4_inLeastTerms_26 : decode cX4_inLeastTerms 26 = .ok (.lstore 7, 2) := by decide +kernel
theorem dX4_inLeastTerms_28 : decode cX4_inLeastTerms 28 = .ok (.goto (-22), 3) := by decide +kernel
theorem dX4_inLeastTerms_31 : decode cX4_inLeastTerms 31 = .ok (.iload 4, 2) := by decide +kernel
theorem dX4_inLeastTerms_33 : decode cX4_inLeastTerms 33 = .ok (.ifCond .ne 10, 3) := by decide +kernel
theorem dX4_inLeastTerms_36 : decode cX4_inLeastTerms 36 = .ok (.lload_n 0, 1) := by decide +kernel
theorem dX4_inLeastTerms_37 : decode cX4_inLeastTerms 37 = .ok (.lload 5, 2) := by decide +kernel
theorem dX4_inLeastTerms_39 : decode cX4_inLeastTerms 39 = .ok (.ldiv, 1) := by decide +kernel
theorem dX4_inLeastTerms_40 : decode cX4_inLeastTerms 40 = .ok (.goto 7, 3) := by decide +kernel
theorem dX4_inLeastTerms_43 : decode cX4_inLeastTerms 43 = .ok (.lload_n 2, 1) := by decide +kernel
theorem dX4_inLeastTerms_44 : decode cX4_inLeastTerms 44 = .ok (.lload 5, 2) := by decide +kernel
theorem dX4_inLeastTerms_46 : decode cX4_inLeastTerms 46 = .ok (.ldiv, 1) := by decide +kernel
theorem dX4_inLeastTerms_47 : decode cX4_inLeastTerms 47 = .ok (.lreturn, 1) := by decide +kernel
set_option maxRecDepth 20000 in
theorem ggX4_reading_X4_isPerson : GoodIn wsX4_reading wsX4_isPerson := goodIn_r _ [9, 10, 14, 15, 16, 17, 18, 19, 20, 21, 22, 23, 24, 25, 26, 27, 28, 29, 30, 31, 32, 33, 34, 35, 36, 37] (by decide +kernel) (by decide +kernel)
set_option maxRecDepth 20000 in
theorem gX4_reading_X4_isPerson : GoodIn wsX4_reading (wsV RX4 116 RX4 yX4_isPerson wsX4_isPerson) := goodIn_app (goodIn_of _ (by decide +kernel)) ggX4_reading_X4_isPerson
set_option maxRecDepth 20000 in
theorem ggX4_reading_X4_within : GoodIn wsX4_reading wsX4_within := goodIn_r _ [13] (by decide +kernel) (by decide +kernel)
set_option maxRecDepth 20000 in
theorem gX4_reading_X4_within : GoodIn wsX4_reading (va_wsS RX4 52 yX4_within wsX4_within) := goodIn_app (goodIn_of _ (by decide +kernel)) ggX4_reading_X4_within
theorem dX4_reading_0 : decode cX4_reading 0 = .ok (.aload_n 0, 1) := by decide +kernel
theorem dX4_reading_1 : decode cX4_reading 1 = .ok (.iload_n 1, 1) := by decide +kernel
theorem dX4_reading_2 : decode cX4_reading 2 = .ok (.invokevirtual 116, 3) := by decide +kernel
theorem dX4_reading_5 : decode cX4_reading 5 = .ok (.ifCond .ne 5, 3) := by decide +kernel
theorem dX4_reading_8 : decode cX4_reading 8 = .ok (.iconst (-1), 1) := by decide +kernel
theorem dX4_reading_9 : decode cX4_reading 9 = .ok (.ireturn, 1) := by decide +kernel
theorem dX4_reading_10 : decode cX4_reading 10 = .ok (.iload_n 2, 1) := by decide +kernel
theorem dX4_reading_11 : decode cX4_reading 11 = .ok (.iconst 0, 1) := by decide +kernel
theorem dX4_reading_12 : decode cX4_reading 12 = .ok (.sipush 300, 3) := by decide +kernel
theorem dX4_reading_15 : decode cX4_reading 15 = .ok (.invokestatic 52, 3) := by decide +kernel
theorem dX4_reading_18 : decode cX4_reading 18 = .ok (.ifCond .eq 14, 3) := by decide +kernel
theorem dX4_reading_21 : decode cX4_reading 21 = .ok (.iload_n 3, 1) := by decide +kernel
theorem dX4_reading_22 : decode cX4_reading 22 = .ok (.iconst 0, 1) := by decide +kernel
theorem dX4_reading_23 : decode cX4_reading 23 = .ok (.sipush 600, 3) := by decide +kernel
theorem dX4_reading_26 : decode cX4_reading 26 = .ok (.invokestatic 52, 3) := by decide +kernel
theorem dX4_reading_29 : decode cX4_reading 29 = .ok (.ifCond .ne 6, 3) := by decide +kernel
theorem dX4_reading_32 : decode cX4_reading 32 = .ok (.bipush (-2), 2) := by decide +kernel
theorem dX4_reading_34 : decode cX4_reading 34 = .ok (.ireturn, 1) := by decide +kernel
theorem dX4_reading_35 : decode cX4_reading 35 = .ok (.aload_n 0, 1) := by decide +kernel
theorem dX4_reading_36 : decode cX4_reading 36 = .ok (.getfield 102, 3) := by decide +kernel
theorem dX4_reading_39 : decode cX4_reading 39 = .ok (.bipush 8, 2) := by decide +kernel
theorem dX4_reading_41 : decode cX4_reading 41 = .ok (.if_icmp .ne 6, 3) := by decide +kernel
theorem dX4_reading_44 : decode cX4_reading 44 = .ok (.bipush (-4), 2) := by decide +kernel
theorem dX4_reading_46 : decode cX4_reading 46 = .ok (.ireturn, 1) := by decide +kernel
theorem dX4_reading_47 : decode cX4_reading 47 = .ok (.aload_n 0, 1) := by decide +kernel
theorem dX4_reading_48 : decode cX4_reading 48 = .ok (.getfield 37, 3) := by decide +kernel
theorem dX4_reading_51 : decode cX4_reading 51 = .ok (.aload_n 0, 1) := by decide +kernel
theorem dX4_reading_52 : decode cX4_reading 52 = .ok (.getfield 102, 3) := by decide +kernel
theorem dX4_reading_55 : decode cX4_reading 55 = .ok (.iload_n 1, 1) := by decide +kernel
theorem dX4_reading_56 : decode cX4_reading 56 = .ok (.iastore, 1) := by decide +kernel
theorem dX4_reading_57 : decode cX4_reading 57 = .ok (.aload_n 0, 1) := by decide +kernel
theorem dX4_reading_58 : decode cX4_reading 58 = .ok (.getfield 40, 3) := by decide +kernel
theorem dX4_reading_61 : decode cX4_reading 61 = .ok (.aload_n 0, 1) := by decide +kernel
theorem dX4_reading_62 : decode cX4_reading 62 = .ok (.getfield 102, 3) := by decide +kernel
theorem dX4_reading_65 : decode cX4_reading 65 = .ok (.iload_n 2, 1) := by decide +kernel
theorem dX4_reading_66 : decode cX4_reading 66 = .ok (.iastore, 1) := by decide +kernel
theorem dX4_reading_67 : decode cX4_reading 67 = .ok (.aload_n 0, 1) := by decide +kernel
theorem dX4_reading_68 : decode cX4_reading 68 = .ok (.getfield 43, 3) := by decide +kernel
theorem dX4_reading_71 : decode cX4_reading 71 = .ok (.aload_n 0, 1) := by decide +kernel
theorem dX4_reading_72 : decode cX4_reading 72 = .ok (.getfield 102, 3) := by decide +kernel
theorem dX4_reading_75 : decode cX4_reading 75 = .ok (.iload_n 3, 1) := by decide +kernel
theorem dX4_reading_76 : decode cX4_reading 76 = .ok (.iastore, 1) := by decide +kernel
theorem dX4_reading_77 : decode cX4_reading 77 = .ok (.aload_n 0, 1) := by decide +kernel
theorem dX4_reading_78 : decode cX4_reading 78 = .ok (.dup, 1) := by decide +kernel
theorem dX4_reading_79 : decode cX4_reading 79 = .ok (.getfield 102, 3) := by decide +kernel
theorem dX4_reading_82 : decode cX4_reading 82 = .ok (.iconst 1, 1) := by decide +kernel
theorem dX4_reading_83 : decode cX4_reading 83 = .ok (.iadd, 1) := by decide +kernel
theorem dX4_reading_84 : decode cX4_reading 84 = .ok (.putfield 102, 3) := by decide +kernel
theorem dX4_reading_87 : decode cX4_reading 87 = .ok (.aload_n 0, 1) := by decide +kernel
theorem dX4_reading_88 : decode cX4_reading 88 = .ok (.getfield 102, 3) := by decide +kernel
theorem dX4_reading_91 : decode cX4_reading 91 = .ok (.iconst 1, 1) := by decide +kernel
theorem dX4_reading_92 : decode cX4_reading 92 = .ok (.isub, 1) := by decide +kernel
theorem dX4_reading_93 : decode cX4_reading 93 = .ok (.ireturn, 1) := by decide +kernel
set_option maxRecDepth 20000 in
theorem ggX4_back_X4_within : GoodIn wsX4_back wsX4_within := goodIn_r _ [5] (by decide +kernel) (by decide +kernel)
set_option maxRecDepth 20000 in
theorem gX4_back_X4_within : GoodIn wsX4_back (va_wsS RX4 52 yX4_within wsX4_within) := goodIn_app (goodIn_of _ (by decide +kernel)) ggX4_back_X4_within
theorem dX4_back_0 : decode cX4_back 0 = .ok (.iload_n 1, 1) := by decide +kernel
theorem dX4_back_1 : decode cX4_back 1 = .ok (.iconst 0, 1) := by decide +kernel
theorem dX4_back_2 : decode cX4_back 2 = .ok (.aload_n 0, 1) := by decide +kernel
theorem dX4_back_3 : decode cX4_back 3 = .ok (.getfield 102, 3) := by decide +kernel
theorem dX4_back_6 : decode cX4_back 6 = .ok (.invokestatic 52, 3) := by decide +kernel
theorem dX4_back_9 : decode cX4_back 9 = .ok (.ifCond .ne 6, 3) := by decide +kernel
theorem dX4_back_12 : decode cX4_back 12 = .ok (.bipush (-2), 2) := by decide +kernel
theorem dX4_back_14 : decode cX4_back 14 = .ok (.ireturn, 1) := by decide +kernel
theorem dX4_back_15 : decode cX4_back 15 = .ok (.aload_n 0, 1) := by decide +kernel
theorem dX4_back_16 : decode cX4_back 16 = .ok (.dup, 1) := by decide +kernel
theorem dX4_back_17 : decode cX4_back 17 = .ok (.getfield 102, 3) := by decide +kernel
theorem dX4_back_20 : decode cX4_back 20 = .ok (.iload_n 1, 1) := by decide +kernel
theorem dX4_back_21 : decode cX4_back 21 = .ok (.isub, 1) := by decide +kernel
theorem dX4_back_22 : decode cX4_back 22 = .ok (.putfield 102, 3) := by decide +kernel
theorem dX4_back_25 : decode cX4_back 25 = .ok (.aload_n 0, 1) := by decide +kernel
theorem dX4_back_26 : decode cX4_back 26 = .ok (.getfield 102, 3) := by decide +kernel
theorem dX4_back_29 : decode cX4_back 29 = .ok (.ireturn, 1) := by decide +kernel
set_option maxRecDepth 20000 in
theorem ggX4_areSo_X4_saysBy : GoodIn wsX4_areSo wsX4_saysBy := goodIn_r _ [9, 10, 11, 12, 13, 14, 15, 16, 17, 18, 19, 20, 21, 22, 23, 24, 25, 26, 27, 28, 29, 30, 31, 32, 33, 34, 35] (by decide +kernel) (by decide +kernel)
set_option maxRecDepth 20000 in
theorem gX4_areSo_X4_saysBy : GoodIn wsX4_areSo (wsV RX4 119 RX4 yX4_saysBy wsX4_saysBy) := goodIn_app (goodIn_of _ (by decide +kernel)) ggX4_areSo_X4_saysBy
theorem dX4_areSo_0 : decode cX4_areSo 0 = .ok (.iconst 0, 1) := by decide +kernel
theorem dX4_areSo_1 : decode cX4_areSo 1 = .ok (.istore_n 1, 1) := by decide +kernel
theorem dX4_areSo_2 : decode cX4_areSo 2 = .ok (.iload_n 1, 1) := by decide +kernel
theorem dX4_areSo_3 : decode cX4_areSo 3 = .ok (.aload_n 0, 1) := by decide +kernel
theorem dX4_areSo_4 : decode cX4_areSo 4 = .ok (.getfield 102, 3) := by decide +kernel
theorem dX4_areSo_7 : decode cX4_areSo 7 = .ok (.if_icmp .ge 36, 3) := by decide +kernel
theorem dX4_areSo_10 : decode cX4_areSo 10 = .ok (.aload_n 0, 1) := by decide +kernel
theorem dX4_areSo_11 : decode cX4_areSo 11 = .ok (.aload_n 0, 1) := by decide +kernel
theorem dX4_areSo_12 : decode cX4_areSo 12 = .ok (.getfield 37, 3) := by decide +kernel
theorem dX4_areSo_15 : decode cX4_areSo 15 = .ok (.iload_n 1, 1) := by decide +kernel
theorem dX4_areSo_16 : decode cX4_areSo 16 = .ok (.iaload, 1) := by decide +kernel
theorem dX4_areSo_17 : decode cX4_areSo 17 = .ok (.aload_n 0, 1) := by decide +kernel
theorem dX4_areSo_18 : decode cX4_areSo 18 = .ok (.getfield 40, 3) := by decide +kernel
theorem dX4_areSo_21 : decode cX4_areSo 21 = .ok (.iload_n 1, 1) := by decide +kernel
theorem dX4_areSo_22 : decode cX4_areSo 22 = .ok (.iaload, 1) := by decide +kernel
theorem dX4_areSo_23 : decode cX4_areSo 23 = .ok (.invokevirtual 119, 3) := by decide +kernel
theorem dX4_areSo_26 : decode cX4_areSo 26 = .ok (.aload_n 0, 1) := by decide +kernel
theorem dX4_areSo_27 : decode cX4_areSo 27 = .ok (.getfield 43, 3) := by decide +kernel
theorem dX4_areSo_30 : decode cX4_areSo 30 = .ok (.iload_n 1, 1) := by decide +kernel
theorem dX4_areSo_31 : decode cX4_areSo 31 = .ok (.iaload, 1) := by decide +kernel
theorem dX4_areSo_32 : decode cX4_areSo 32 = .ok (.if_icmp .eq 5, 3) := by decide +kernel
theorem dX4_areSo_35 : decode cX4_areSo 35 = .ok (.iconst 0, 1) := by decide +kernel
theorem dX4_areSo_36 : decode cX4_areSo 36 = .ok (.ireturn, 1) := by decide +kernel
theorem dX4_areSo_37 : decode cX4_areSo 37 = .ok (.iinc 1 1, 3) := by decide +kernel
theorem dX4_areSo_40 : decode cX4_areSo 40 = .ok (.goto (-38), 3) := by decide +kernel
theorem dX4_areSo_43 : decode cX4_areSo 43 = .ok (.iconst 1, 1) := by decide +kernel
theorem dX4_areSo_44 : decode cX4_areSo 44 = .ok (.ireturn, 1) := by decide +kernel
set_option maxRecDepth 20000 in
theorem ggX4_ears_X4_isPerson : GoodIn wsX4_ears wsX4_isPerson := goodIn_r _ [6, 7, 21, 22, 23, 24, 25, 26, 27, 28, 29, 30, 31, 32, 33, 34, 35, 36, 37, 38, 39, 40, 41, 42, 43, 44] (by decide +kernel) (by decide +kernel)
set_option maxRecDepth 20000 in
theorem gX4_ears_X4_isPerson : GoodIn wsX4_ears (wsV RX4 116 RX4 yX4_isPerson wsX4_isPerson) := goodIn_app (goodIn_of _ (by decide +kernel)) ggX4_ears_X4_isPerson
set_option maxRecDepth 20000 in
theorem ggX4_ears_X4_areSo : GoodIn wsX4_ears wsX4_areSo := goodIn_r _ [11, 12, 13, 14, 15, 16, 17, 18, 5, 19, 1, 20, 21, 22, 23, 24, 25, 26, 27, 28, 29, 30, 31, 32, 33, 34, 35, 36, 37, 38, 39, 40, 41, 42, 43, 44] (by decide +kernel) (by decide +kernel)
set_option maxRecDepth 20000 in
theorem gX4_ears_X4_areSo : GoodIn wsX4_ears (wsV RX4 187 RX4 yX4_areSo wsX4_areSo) := goodIn_app (goodIn_of _ (by decide +kernel)) ggX4_ears_X4_areSo
theorem dX4_ears_0 : decode cX4_ears 0 = .ok (.aload_n 0, 1) := by decide +kernel
theorem dX4_ears_1 : decode cX4_ears 1 = .ok (.iload_n 1, 1) := by decide +kernel
theorem dX4_ears_2 : decode cX4_ears 2 = .ok (.invokevirtual 116, 3) := by decide +kernel
theorem dX4_ears_5 : decode cX4_ears 5 = .ok (.ifCond .ne 5, 3) := by decide +kernel
theorem dX4_ears_8 : decode cX4_ears 8 = .ok (.iconst (-1), 1) := by decide +kernel
theorem dX4_ears_9 : decode cX4_ears 9 = .ok (.ireturn, 1) := by decide +kernel
theorem dX4_ears_10 : decode cX4_ears 10 = .ok (.aload_n 0, 1) := by decide +kernel
theorem dX4_ears_11 : decode cX4_ears 11 = .ok (.getfield 25, 3) := by decide +kernel
theorem dX4_ears_14 : decode cX4_ears 14 = .ok (.iload_n 1, 1) := by decide +kernel
theorem dX4_ears_15 : decode cX4_ears 15 = .ok (.iaload, 1) := by decide +kernel
theorem dX4_ears_16 : decode cX4_ears 16 = .ok (.istore_n 2, 1) := by decide +kernel
theorem dX4_ears_17 : decode cX4_ears 17 = .ok (.iconst 0, 1) := by decide +kernel
theorem dX4_ears_18 : decode cX4_ears 18 = .ok (.istore_n 3, 1) := by decide +kernel
theorem dX4_ears_19 : decode cX4_ears 19 = .ok (.iconst 1, 1) := by decide +kernel
theorem dX4_ears_20 : decode cX4_ears 20 = .ok (.istore 4, 2) := by decide +kernel
theorem dX4_ears_22 : decode cX4_ears 22 = .ok (.iload 4, 2) := by decide +kernel
theorem dX4_ears_24 : decode cX4_ears 24 = .ok (.bipush 9, 2) := by decide +kernel
theorem dX4_ears_26 : decode cX4_ears 26 = .ok (.if_icmp .gt 35, 3) := by decide +kernel
theorem dX4_ears_29 : decode cX4_ears 29 = .ok (.aload_n 0, 1) := by decide +kernel
theorem dX4_ears_30 : decode cX4_ears 30 = .ok (.getfield 25, 3) := by decide +kernel
theorem dX4_ears_33 : decode cX4_ears 33 = .ok (.iload_n 1, 1) := by decide +kernel
theorem dX4_ears_34 : decode cX4_ears 34 = .ok (.iload 4, 2) := by decide +kernel
theorem dX4_ears_36 : decode cX4_ears 36 = .ok (.iastore, 1) := by decide +kernel
theorem dX4_ears_37 : decode cX4_ears 37 = .ok (.iload_n 3, 1) := by decide +kernel
theorem dX4_ears_38 : decode cX4_ears 38 = .ok (.aload_n 0, 1) := by decide +kernel
theorem dX4_ears_39 : decode cX4_ears 39 = .ok (.invokevirtual 187, 3) := by decide +kernel
theorem dX4_ears_42 : decode cX4_ears 42 = .ok (.ifCond .eq 10, 3) := by decide +kernel
theorem dX4_ears_45 : decode cX4_ears 45 = .ok (.iconst 1, 1) := by decide +kernel
theorem dX4_ears_46 : decode cX4_ears 46 = .ok (.iload 4, 2) := by decide +kernel
theorem dX4_ears_48 : decode cX4_ears 48 = .ok (.ishl, 1) := by decide +kernel
theorem dX4_ears_49 : decode cX4_ears 49 = .ok (.goto 4, 3) := by decide +kernel
theorem dX4_ears_52 : decode cX4_ears 52 = .ok (.iconst 0, 1) := by decide +kernel
theorem dX4_ears_53 : decode cX4_ears 53 = .ok (.ior, 1) := by decide +kernel
theorem dX4_ears_54 : decode cX4_ears 54 = .ok (.istore_n 3, 1) := by decide +kernel
theorem dX4_ears_55 : decode cX4_ears 55 = .ok (.iinc 4 1, 3) := by decide +kernel
theorem dX4_ears_58 : decode cX4_ears 58 = .ok (.goto (-36), 3) := by decide +kernel
theorem dX4_ears_61 : decode cX4_ears 61 = .ok (.aload_n 0, 1) := by decide +kernel
theorem dX4_ears_62 : decode cX4_ears 62 = .ok (.getfield 25, 3) := by decide +kernel
theorem dX4_ears_65 : decode cX4_ears 65 = .ok (.iload_n 1, 1) := by decide +kernel
theorem dX4_ears_66 : decode cX4_ears 66 = .ok (.iload_n 2, 1) := by decide +kernel
theorem dX4_ears_67 : decode cX4_ears 67 = .ok (.iastore, 1) := by decide +kernel
theorem dX4_ears_68 : decode cX4_ears 68 = .ok (.iload_n 3, 1) := by decide +kernel
theorem dX4_ears_69 : decode cX4_ears 69 = .ok (.ireturn, 1) := by decide +kernel
set_option maxRecDepth 20000 in
theorem ggX4_kinds_X4_isPerson : GoodIn wsX4_kinds wsX4_isPerson := goodIn_r _ [6, 7, 21, 22, 23, 24, 25, 26, 27, 28, 29, 30, 31, 32, 33, 34, 35, 36, 37, 38, 39, 40, 41, 42, 43, 44] (by decide +kernel) (by decide +kernel)
