theorem dX3_tune_4 : decode cX3_tune 4 = .ok (.iload_n 1, 1) := by decide +kernel
theorem dX3_tune_5 : decode cX3_tune 5 = .ok (.invokevirtual 70, 3) := by decide +kernel
theorem dX3_tune_8 : decode cX3_tune 8 = .ok (.ifCond .ne 5, 3) := by decide +kernel
theorem dX3_tune_11 : decode cX3_tune 11 = .ok (.iconst (-1), 1) := by decide +kernel
theorem dX3_tune_12 : decode cX3_tune 12 = .ok (.ireturn, 1) := by decide +kernel
theorem dX3_tune_13 : decode cX3_tune 13 = .ok (.iload_n 2, 1) := by decide +kernel
theorem dX3_tune_14 : decode cX3_tune 14 = .ok (.iconst 1, 1) := by decide +kernel
theorem dX3_tune_15 : decode cX3_tune 15 = .ok (.if_icmp .lt 9, 3) := by decide +kernel
theorem dX3_tune_18 : decode cX3_tune 18 = .ok (.iload_n 2, 1) := by decide +kernel
theorem dX3_tune_19 : decode cX3_tune 19 = .ok (.bipush 9, 2) := by decide +kernel
theorem dX3_tune_21 : decode cX3_tune 21 = .ok (.if_icmp .le 6, 3) := by decide +kernel
theorem dX3_tune_24 : decode cX3_tune 24 = .ok (.bipush (-2), 2) := by decide +kernel
theorem dX3_tune_26 : decode cX3_tune 26 = .ok (.ireturn, 1) := by decide +kernel
theorem dX3_tune_27 : decode cX3_tune 27 = .ok (.aload_n 0, 1) := by decide +kernel
theorem dX3_tune_28 : decode cX3_tune 28 = .ok (.getfield 20, 3) := by decide +kernel
theorem dX3_tune_31 : decode cX3_tune 31 = .ok (.getfield 80, 3) := by decide +kernel
theorem dX3_tune_34 : decode cX3_tune 34 = .ok (.iload_n 1, 1) := by decide +kernel
theorem dX3_tune_35 : decode cX3_tune 35 = .ok (.iaload, 1) := by decide +kernel
theorem dX3_tune_36 : decode cX3_tune 36 = .ok (.istore_n 3, 1) := by decide +kernel
theorem dX3_tune_37 : decode cX3_tune 37 = .ok (.aload_n 0, 1) := by decide +kernel
theorem dX3_tune_38 : decode cX3_tune 38 = .ok (.getfield 20, 3) := by decide +kernel
theorem dX3_tune_41 : decode cX3_tune 41 = .ok (.getfield 80, 3) := by decide +kernel
theorem dX3_tune_44 : decode cX3_tune 44 = .ok (.iload_n 1, 1) := by decide +kernel
theorem dX3_tune_45 : decode cX3_tune 45 = .ok (.iload_n 2, 1) := by decide +kernel
theorem dX3_tune_46 : decode cX3_tune 46 = .ok (.iastore, 1) := by decide +kernel
theorem dX3_tune_47 : decode cX3_tune 47 = .ok (.iload_n 3, 1) := by decide +kernel
theorem dX3_tune_48 : decode cX3_tune 48 = .ok (.ireturn, 1) := by decide +kernel
set_option maxRecDepth 20000 in
theorem ggX3_heard_X2_allSay : GoodIn wsX3_heard wsX2_allSay := goodIn_r _ [8, 9, 10, 11, 12, 7, 13, 14, 15, 16, 17, 18, 19, 20, 21, 22, 23, 24, 25, 26, 27, 28, 29, 30, 42, 43, 44, 45, 46, 47] (by decide +kernel) (by decide +kernel)
set_option maxRecDepth 20000 in
theorem gX3_heard_X2_allSay : GoodIn wsX3_heard (wsV RX3 89 RX2 yX2_allSay wsX2_allSay) := goodIn_app (goodIn_of _ (by decide +kernel)) ggX3_heard_X2_allSay
set_option maxRecDepth 20000 in
theorem ggX3_heard_X2_partsOf : GoodIn wsX3_heard wsX2_partsOf := goodIn_r _ [34, 9, 23, 15, 16, 17, 42, 43, 44, 45, 46, 47] (by decide +kernel) (by decide +kernel)
set_option maxRecDepth 20000 in
theorem gX3_heard_X2_partsOf : GoodIn wsX3_heard (wsV RX3 96 RX2 yX2_partsOf wsX2_partsOf) := goodIn_app (goodIn_of _ (by decide +kernel)) ggX3_heard_X2_partsOf
theorem dX3_heard_0 : decode cX3_heard 0 = .ok (.iload_n 1, 1) := by decide +kernel
theorem dX3_heard_1 : decode cX3_heard 1 = .ok (.ifCond .lt 8, 3) := by decide +kernel
theorem dX3_heard_4 : decode cX3_heard 4 = .ok (.iload_n 1, 1) := by decide +kernel
theorem dX3_heard_5 : decode cX3_heard 5 = .ok (.iconst 2, 1) := by decide +kernel
theorem dX3_heard_6 : decode cX3_heard 6 = .ok (.if_icmp .le 6, 3) := by decide +kernel
theorem dX3_heard_9 : decode cX3_heard 9 = .ok (.bipush (-2), 2) := by decide +kernel
theorem dX3_heard_11 : decode cX3_heard 11 = .ok (.ireturn, 1) := by decide +kernel
theorem dX3_heard_12 : decode cX3_heard 12 = .ok (.aload_n 0, 1) := by decide +kernel
theorem dX3_heard_13 : decode cX3_heard 13 = .ok (.getfield 20, 3) := by decide +kernel
theorem dX3_heard_16 : decode cX3_heard 16 = .ok (.getfield 69, 3) := by decide +kernel
theorem dX3_heard_19 : decode cX3_heard 19 = .ok (.ifCond .ne 6, 3) := by decide +kernel
theorem dX3_heard_22 : decode cX3_heard 22 = .ok (.bipush (-3), 2) := by decide +kernel
theorem dX3_heard_24 : decode cX3_heard 24 = .ok (.ireturn, 1) := by decide +kernel
theorem dX3_heard_25 : decode cX3_heard 25 = .ok (.iload_n 1, 1) := by decide +kernel
theorem dX3_heard_26 : decode cX3_heard 26 = .ok (.ifCond .ne 11, 3) := by decide +kernel
theorem dX3_heard_29 : decode cX3_heard 29 = .ok (.aload_n 0, 1) := by decide +kernel
theorem dX3_heard_30 : decode cX3_heard 30 = .ok (.getfield 20, 3) := by decide +kernel
theorem dX3_heard_33 : decode cX3_heard 33 = .ok (.invokevirtual 89, 3) := by decide +kernel
theorem dX3_heard_36 : decode cX3_heard 36 = .ok (.ireturn, 1) := by decide +kernel
theorem dX3_heard_37 : decode cX3_heard 37 = .ok (.iload_n 1, 1) := by decide +kernel
theorem dX3_heard_38 : decode cX3_heard 38 = .ok (.iconst 1, 1) := by decide +kernel
theorem dX3_heard_39 : decode cX3_heard 39 = .ok (.if_icmp .ne 13, 3) := by decide +kernel
theorem dX3_heard_42 : decode cX3_heard 42 = .ok (.aload_n 0, 1) := by decide +kernel
theorem dX3_heard_43 : decode cX3_heard 43 = .ok (.getfield 20, 3) := by decide +kernel
theorem dX3_heard_46 : decode cX3_heard 46 = .ok (.getfield 93, 3) := by decide +kernel
theorem dX3_heard_49 : decode cX3_heard 49 = .ok (.goto 17, 3) := by decide +kernel
theorem dX3_heard_52 : decode cX3_heard 52 = .ok (.aload_n 0, 1) := by decide +kernel
theorem dX3_heard_53 : decode cX3_heard 53 = .ok (.getfield 20, 3) := by decide +kernel
theorem dX3_heard_56 : decode cX3_heard 56 = .ok (.aload_n 0, 1) := by decide +kernel
theorem dX3_heard_57 : decode cX3_heard 57 = .ok (.getfield 20, 3) := by decide +kernel
theorem dX3_heard_60 : decode cX3_heard 60 = .ok (.getfield 93, 3) := by decide +kernel
theorem dX3_heard_63 : decode cX3_heard 63 = .ok (.invokevirtual 96, 3) := by decide +kernel
theorem dX3_heard_66 : decode cX3_heard 66 = .ok (.ireturn, 1) := by decide +kernel
set_option maxRecDepth 20000 in
theorem ggX3_day_X3_act : GoodIn wsX3_day wsX3_act := goodIn_r _ [6, 7, 8, 9, 10, 11, 12, 13, 14, 15, 16, 17, 18, 19, 20, 21, 22, 23, 24, 5, 25, 26, 27, 28, 29, 30, 31, 32, 33, 34, 35, 36, 37, 38, 39, 40, 41, 42, 43, 44, 45, 46, 47, 48, 49, 50, 51, 52, 53, 54, 55, 56, 57, 58, 59, 60, 61, 62, 63, 64, 65, 66, 67, 68, 69, 70, 71, 72, 73, 74] (by decide +kernel) (by decide +kernel)
set_option maxRecDepth 20000 in
theorem gX3_day_X3_act : GoodIn wsX3_day (wsV RX3 99 RX3 yX3_act wsX3_act) := goodIn_app (goodIn_of _ (by decide +kernel)) ggX3_day_X3_act
theorem dX3_day_0 : decode cX3_day 0 = .ok (.aload_n 0, 1) := by decide +kernel
theorem dX3_day_1 : decode cX3_day 1 = .ok (.iload_n 1, 1) := by decide +kernel
theorem dX3_day_2 : decode cX3_day 2 = .ok (.iconst 0, 1) := by decide +kernel
theorem dX3_day_3 : decode cX3_day 3 = .ok (.invokevirtual 99, 3) := by decide +kernel
theorem dX3_day_6 : decode cX3_day 6 = .ok (.istore_n 2, 1) := by decide +kernel
theorem dX3_day_7 : decode cX3_day 7 = .ok (.iload_n 2, 1) := by decide +kernel
theorem dX3_day_8 : decode cX3_day 8 = .ok (.ifCond .lt 13, 3) := by decide +kernel
theorem dX3_day_11 : decode cX3_day 11 = .ok (.aload_n 0, 1) := by decide +kernel
theorem dX3_day_12 : decode cX3_day 12 = .ok (.dup, 1) := by decide +kernel
theorem dX3_day_13 : decode cX3_day 13 = .ok (.getfield 66, 3) := by decide +kernel
theorem dX3_day_16 : decode cX3_day 16 = .ok (.iconst 1, 1) := by decide +kernel
theorem dX3_day_17 : decode cX3_day 17 = .ok (.iadd, 1) := by decide +kernel
theorem dX3_day_18 : decode cX3_day 18 = .ok (.putfield 66, 3) := by decide +kernel
theorem dX3_day_21 : decode cX3_day 21 = .ok (.iload_n 2, 1) := by decide +kernel
theorem dX3_day_22 : decode cX3_day 22 = .ok (.ireturn, 1) := by decide +kernel
set_option maxRecDepth 20000 in
theorem ggX3_leave_X3_act : GoodIn wsX3_leave wsX3_act := goodIn_r _ [5, 6, 7, 8, 9, 10, 11, 12, 13, 14, 15, 16, 17, 18, 19, 20, 21, 22, 23, 4, 24, 25, 26, 27, 28, 29, 30, 31, 32, 33, 34, 35, 36, 37, 38, 39, 40, 41, 42, 43, 44, 45, 46, 47, 48, 49, 50, 51, 52, 53, 54, 55, 56, 57, 58, 59, 60, 61, 62, 63, 64, 65, 66, 67, 68, 69, 70, 71, 72, 73] (by decide +kernel) (by decide +kernel)
set_option maxRecDepth 20000 in
theorem gX3_leave_X3_act : GoodIn wsX3_leave (wsV RX3 99 RX3 yX3_act wsX3_act) := goodIn_app (goodIn_of _ (by decide +kernel)) ggX3_leave_X3_act
theorem dX3_leave_0 : decode cX3_leave 0 = .ok (.aload_n 0, 1) := by decide +kernel
theorem dX3_leave_1 : decode cX3_leave 1 = .ok (.iload_n 1, 1) := by decide +kernel
theorem dX3_leave_2 : decode cX3_leave 2 = .ok (.iconst 1, 1) := by decide +kernel
theorem dX3_leave_3 : decode cX3_leave 3 = .ok (.invokevirtual 99, 3) := by decide +kernel
theorem dX3_leave_6 : decode cX3_leave 6 = .ok (.ireturn, 1) := by decide +kernel
set_option maxRecDepth 20000 in
theorem ggX3_come_X3_act : GoodIn wsX3_come wsX3_act := goodIn_r _ [5, 6, 7, 8, 9, 10, 11, 12, 13, 14, 15, 16, 17, 18, 19, 20, 21, 22, 23, 4, 24, 25, 26, 27, 28, 29, 30, 31, 32, 33, 34, 35, 36, 37, 38, 39, 40, 41, 42, 43, 44, 45, 46, 47, 48, 49, 50, 51, 52, 53, 54, 55, 56, 57, 58, 59, 60, 61, 62, 63, 64, 65, 66, 67, 68, 69, 70, 71, 72, 73] (by decide +kernel) (by decide +kernel)
set_option maxRecDepth 20000 in
theorem gX3_come_X3_act : GoodIn wsX3_come (wsV RX3 99 RX3 yX3_act wsX3_act) := goodIn_app (goodIn_of _ (by decide +kernel)) ggX3_come_X3_act
theorem dX3_come_0 : decode cX3_come 0 = .ok (.aload_n 0, 1) := by decide +kernel
theorem dX3_come_1 : decode cX3_come 1 = .ok (.iload_n 1, 1) := by decide +kernel
theorem dX3_come_2 : decode cX3_come 2 = .ok (.iconst 2, 1) := by decide +kernel
theorem dX3_come_3 : decode cX3_come 3 = .ok (.invokevirtual 99, 3) := by decide +kernel
theorem dX3_come_6 : decode cX3_come 6 = .ok (.ireturn, 1) := by decide +kernel
set_option maxRecDepth 20000 in
theorem ggX3_gather_X3_act : GoodIn wsX3_gather wsX3_act := goodIn_r _ [5, 6, 7, 8, 9, 10, 11, 12, 13, 14, 15, 16, 17, 18, 19, 20, 21, 22, 23, 4, 24, 25, 26, 27, 28, 29, 30, 31, 32, 33, 34, 35, 36, 37, 38, 39, 40, 41, 42, 43, 44, 45, 46, 47, 48, 49, 50, 51, 52, 53, 54, 55, 56, 57, 58, 59, 60, 61, 62, 63, 64, 65, 66, 67, 68, 69, 70, 71, 72, 73] (by decide +kernel) (by decide +kernel)
set_option maxRecDepth 20000 in
theorem gX3_gather_X3_act : GoodIn wsX3_gather (wsV RX3 99 RX3 yX3_act wsX3_act) := goodIn_app (goodIn_of _ (by decide +kernel)) ggX3_gather_X3_act
theorem dX3_gather_0 : decode cX3_gather 0 = .ok (.aload_n 0, 1) := by decide +kernel
theorem dX3_gather_1 : decode cX3_gather 1 = .ok (.iload_n 1, 1) := by decide +kernel
theorem dX3_gather_2 : decode cX3_gather 2 = .ok (.iconst 3, 1) := by decide +kernel
theorem dX3_gather_3 : decode cX3_gather 3 = .ok (.invokevirtual 99, 3) := by decide +kernel
theorem dX3_gather_6 : decode cX3_gather 6 = .ok (.ireturn, 1) := by decide +kernel
set_option maxRecDepth 20000 in
theorem ggX3_pack_X2_has : GoodIn wsX3_pack wsX2_has := goodIn_r _ [8, 9, 17, 18, 19, 20, 21, 22] (by decide +kernel) (by decide +kernel)
set_option maxRecDepth 20000 in
theorem gX3_pack_X2_has : GoodIn wsX3_pack (wsV RX3 70 RX2 yX2_has wsX2_has) := goodIn_app (goodIn_of _ (by decide +kernel)) ggX3_pack_X2_has
theorem dX3_pack_0 : decode cX3_pack 0 = .ok (.aload_n 0, 1) := by decide +kernel
theorem dX3_pack_1 : decode cX3_pack 1 = .ok (.getfield 20, 3) := by decide +kernel
theorem dX3_pack_4 : decode cX3_pack 4 = .ok (.iload_n 1, 1) := by decide +kernel
theorem dX3_pack_5 : decode cX3_pack 5 = .ok (.invokevirtual 70, 3) := by decide +kernel
theorem dX3_pack_8 : decode cX3_pack 8 = .ok (.ifCond .ne 5, 3) := by decide +kernel
theorem dX3_pack_11 : decode cX3_pack 11 = .ok (.iconst (-1), 1) := by decide +kernel
theorem dX3_pack_12 : decode cX3_pack 12 = .ok (.ireturn, 1) := by decide +kernel
theorem dX3_pack_13 : decode cX3_pack 13 = .ok (.iload_n 2, 1) := by decide +kernel
theorem dX3_pack_14 : decode cX3_pack 14 = .ok (.iconst 1, 1) := by decide +kernel
theorem dX3_pack_15 : decode cX3_pack 15 = .ok (.if_icmp .lt 9, 3) := by decide +kernel
theorem dX3_pack_18 : decode cX3_pack 18 = .ok (.iload_n 2, 1) := by decide +kernel
theorem dX3_pack_19 : decode cX3_pack 19 = .ok (.bipush 99, 2) := by decide +kernel
theorem dX3_pack_21 : decode cX3_pack 21 = .ok (.if_icmp .le 6, 3) := by decide +kernel
theorem dX3_pack_24 : decode cX3_pack 24 = .ok (.bipush (-2), 2) := by decide +kernel
theorem dX3_pack_26 : decode cX3_pack 26 = .ok (.ireturn, 1) := by decide +kernel
theorem dX3_pack_27 : decode cX3_pack 27 = .ok (.aload_n 0, 1) := by decide +kernel
theorem dX3_pack_28 : decode cX3_pack 28 = .ok (.getfield 20, 3) := by decide +kernel
theorem dX3_pack_31 : decode cX3_pack 31 = .ok (.getfield 77, 3) := by decide +kernel
theorem dX3_pack_34 : decode cX3_pack 34 = .ok (.iload_n 1, 1) := by decide +kernel
theorem dX3_pack_35 : decode cX3_pack 35 = .ok (.iaload, 1) := by decide +kernel
theorem dX3_pack_36 : decode cX3_pack 36 = .ok (.iload_n 2, 1) := by decide +kernel
theorem dX3_pack_37 : decode cX3_pack 37 = .ok (.if_icmp .ge 6, 3) := by decide +kernel
theorem dX3_pack_40 : decode cX3_pack 40 = .ok (.bipush (-3), 2) := by decide +kernel
theorem dX3_pack_42 : decode cX3_pack 42 = .ok (.ireturn, 1) := by decide +kernel
theorem dX3_pack_43 : decode cX3_pack 43 = .ok (.aload_n 0, 1) := by decide +kernel
theorem dX3_pack_44 : decode cX3_pack 44 = .ok (.getfield 20, 3) := by decide +kernel
theorem dX3_pack_47 : decode cX3_pack 47 = .ok (.getfield 77, 3) := by decide +kernel
theorem dX3_pack_50 : decode cX3_pack 50 = .ok (.iload_n 1, 1) := by decide +kernel
theorem dX3_pack_51 : decode cX3_pack 51 = .ok (.dup2, 1) := by decide +kernel
theorem dX3_pack_52 : decode cX3_pack 52 = .ok (.iaload, 1) := by decide +kernel
theorem dX3_pack_53 : decode cX3_pack 53 = .ok (.iload_n 2, 1) := by decide +kernel
theorem dX3_pack_54 : decode cX3_pack 54 = .ok (.isub, 1) := by decide +kernel
theorem dX3_pack_55 : decode cX3_pack 55 = .ok (.iastore, 1) := by decide +kernel
theorem dX3_pack_56 : decode cX3_pack 56 = .ok (.aload_n 0, 1) := by decide +kernel
theorem dX3_pack_57 : decode cX3_pack 57 = .ok (.getfield 20, 3) := by decide +kernel
theorem dX3_pack_60 : decode cX3_pack 60 = .ok (.dup, 1) := by decide +kernel
theorem dX3_pack_61 : decode cX3_pack 61 = .ok (.getfield 103, 3) := by decide +kernel
theorem dX3_pack_64 : decode cX3_pack 64 = .ok (.iload_n 2, 1) := by decide +kernel
theorem dX3_pack_65 : decode cX3_pack 65 = .ok (.iadd, 1) := by decide +kernel
theorem dX3_pack_66 : decode cX3_pack 66 = .ok (.putfield 103, 3) := by decide +kernel
theorem dX3_pack_69 : decode cX3_pack 69 = .ok (.aload_n 0, 1) := by decide +kernel
theorem dX3_pack_70 : decode cX3_pack 70 = .ok (.getfield 20, 3) := by decide +kernel
theorem dX3_pack_73 : decode cX3_pack 73 = .ok (.getfield 103, 3) := by decide +kernel
theorem dX3_pack_76 : decode cX3_pack 76 = .ok (.ireturn, 1) := by decide +kernel
set_option maxRecDepth 20000 in
theorem ggX3_open_X3_act : GoodIn wsX3_open wsX3_act := goodIn_r _ [5, 6, 7, 8, 9, 10, 11, 12, 13, 14, 15, 16, 17, 18, 19, 20, 21, 22, 23, 4, 24, 25, 26, 27, 28, 29, 30, 31, 32, 33, 34, 35, 36, 37, 38, 39, 40, 41, 42, 43, 44, 45, 46, 47, 48, 49, 50, 51, 52, 53, 54, 55, 56, 57, 58, 59, 60, 61, 62, 63, 64, 65, 66, 67, 68, 69, 70, 71, 72, 73] (by decide +kernel) (by decide +kernel)
set_option maxRecDepth 20000 in
theorem gX3_open_X3_act : GoodIn wsX3_open (wsV RX3 99 RX3 yX3_act wsX3_act) := goodIn_app (goodIn_of _ (by decide +kernel)) ggX3_open_X3_act
theorem dX3_open_0 : decode cX3_open 0 = .ok (.aload_n 0, 1) := by decide +kernel
theorem dX3_open_1 : decode cX3_open 1 = .ok (.iload_n 1, 1) := by decide +kernel
theorem dX3_open_2 : decode cX3_open 2 = .ok (.iconst 4, 1) := by decide +kernel
theorem dX3_open_3 : decode cX3_open 3 = .ok (.invokevirtual 99, 3) := by decide +kernel
theorem dX3_open_6 : decode cX3_open 6 = .ok (.ireturn, 1) := by decide +kernel
set_option maxRecDepth 20000 in
theorem ggX3_year_X3_sheetAt : GoodIn wsX3_year wsX3_sheetAt := goodIn_r _ [8, 9, 130, 131, 132, 133, 134, 135, 136] (by decide +kernel) (by decide +kernel)
set_option maxRecDepth 20000 in
theorem gX3_year_X3_sheetAt : GoodIn wsX3_year (wsV RX3 39 RX3 yX3_sheetAt wsX3_sheetAt) := goodIn_app (goodIn_of _ (by decide +kernel)) ggX3_year_X3_sheetAt
set_option maxRecDepth 20000 in
theorem ggX3_year_X3_isLane : GoodIn wsX3_year wsX3_isLane := goodIn_r _ [12] (by decide +kernel) (by decide +kernel)
set_option maxRecDepth 20000 in
theorem gX3_year_X3_isLane : GoodIn wsX3_year (va_wsS RX3 43 yX3_isLane wsX3_isLane) := goodIn_app (goodIn_of _ (by decide +kernel)) ggX3_year_X3_isLane
set_option maxRecDepth 20000 in
theorem ggX3_year_X3_isAskedOfYear : GoodIn wsX3_year wsX3_isAskedOfYear := goodIn_r _ [15] (by decide +kernel) (by decide +kernel)
set_option maxRecDepth 20000 in
theorem gX3_year_X3_isAskedOfYear : GoodIn wsX3_year (va_wsS RX3 106 yX3_isAskedOfYear wsX3_isAskedOfYear) := goodIn_app (goodIn_of _ (by decide +kernel)) ggX3_year_X3_isAskedOfYear
set_option maxRecDepth 20000 in
theorem ggX3_year_X1_faultOf : GoodIn wsX3_year wsX1_faultOf := goodIn_r _ [20, 21, 22, 23, 24, 25, 19, 26, 27, 143, 144, 145, 146] (by decide +kernel) (by decide +kernel)
set_option maxRecDepth 20000 in
theorem gX3_year_X1_faultOf : GoodIn wsX3_year (wsV RX3 47 RX1 yX1_faultOf wsX1_faultOf) := goodIn_app (goodIn_of _ (by decide +kernel)) ggX3_year_X1_faultOf
set_option maxRecDepth 20000 in
theorem ggX3_year_X3_faulty : GoodIn wsX3_year wsX3_faulty := goodIn_r _ [31, 1, 130, 131, 132, 133, 134, 135, 136] (by decide +kernel) (by decide +kernel)
set_option maxRecDepth 20000 in
theorem gX3_year_X3_faulty : GoodIn wsX3_year (wsV RX3 51 RX3 yX3_faulty wsX3_faulty) := goodIn_app (goodIn_of _ (by decide +kernel)) ggX3_year_X3_faulty
set_option maxRecDepth 20000 in
theorem ggX3_year_X3_refusalOfPairs : GoodIn wsX3_year wsX3_refusalOfPairs := goodIn_r _ [35, 2, 36, 37, 38, 19, 39, 40, 41, 42, 43, 44, 45, 46, 47, 48, 7, 49, 130, 131, 132, 133, 134, 135, 136, 143, 144, 145, 146, 137, 138, 139, 140, 141, 142] (by decide +kernel) (by decide +kernel)
set_option maxRecDepth 20000 in
theorem gX3_year_X3_refusalOfPairs : GoodIn wsX3_year (wsV RX3 109 RX3 yX3_refusalOfPairs wsX3_refusalOfPairs) := goodIn_app (goodIn_of _ (by decide +kernel)) ggX3_year_X3_refusalOfPairs
set_option maxRecDepth 20000 in
theorem ggX3_year_X3_firstWrongOf : GoodIn wsX3_year wsX3_firstWrongOf := goodIn_r _ [53, 54, 2, 55, 56, 57, 44, 58, 46, 59, 60, 61, 62, 63, 36, 37, 38, 19, 39, 40, 64, 65, 66, 67, 68, 69, 70, 71, 72, 7, 73, 74, 75, 76, 77, 78, 79, 80, 81, 82, 83, 84, 85, 86, 87, 88, 89, 90, 91, 92, 93, 94, 95, 96, 97, 98, 99, 100, 101, 102, 103, 104, 105, 106, 107, 108, 130, 131, 132, 133, 134, 135, 136, 137, 138, 139, 140, 141, 142, 143, 144, 145, 146] (by decide +kernel) (by decide +kernel)
set_option maxRecDepth 20000 in
theorem gX3_year_X3_firstWrongOf : GoodIn wsX3_year (wsV RX3 112 RX3 yX3_firstWrongOf wsX3_firstWrongOf) := goodIn_app (goodIn_of _ (by decide +kernel)) ggX3_year_X3_firstWrongOf
set_option maxRecDepth 20000 in
theorem ggX3_year_X3_behindYear : GoodIn wsX3_year wsX3_behindYear := goodIn_r _ [112, 54, 113, 114, 115, 116, 117, 118, 44, 119, 46, 68, 69, 70, 71, 59, 72, 7, 73, 120, 121, 122, 123, 61, 62, 63, 124, 125, 126, 127, 128, 129, 41, 42, 43, 45, 130, 131, 132, 133, 134, 135, 136, 137, 138, 139, 140, 141, 142] (by decide +kernel) (by decide +kernel)
set_option maxRecDepth 20000 in
theorem gX3_year_X3_behindYear : GoodIn wsX3_year (wsV RX3 115 RX3 yX3_behindYear wsX3_behindYear) := goodIn_app (goodIn_of _ (by decide +kernel)) ggX3_year_X3_behindYear
theorem dX3_year_0 : decode cX3_year 0 = .ok (.aload_n 0, 1) := by decide +kernel
theorem dX3_year_1 : decode cX3_year 1 = .ok (.iconst 0, 1) := by decide +kernel
theorem dX3_year_2 : decode cX3_year 2 = .ok (.putfield 35, 3) := by decide +kernel
theorem dX3_year_5 : decode cX3_year 5 = .ok (.aload_n 0, 1) := by decide +kernel
theorem dX3_year_6 : decode cX3_year 6 = .ok (.iload_n 1, 1) := by decide +kernel
theorem dX3_year_7 : decode cX3_year 7 = .ok (.invokevirtual 39, 3) := by decide +kernel
theorem dX3_year_10 : decode cX3_year 10 = .ok (.astore 6, 2) := by decide +kernel
theorem dX3_year_12 : decode cX3_year 12 = .ok (.aload 6, 2) := by decide +kernel
theorem dX3_year_14 : decode cX3_year 14 = .ok (.ifnonnull 5, 3) := by decide +kernel
theorem dX3_year_17 : decode cX3_year 17 = .ok (.iconst (-1), 1) := by decide +kernel
theorem dX3_year_18 : decode cX3_year 18 = .ok (.ireturn, 1) := by decide +kernel
theorem dX3_year_19 : decode cX3_year 19 = .ok (.iload_n 2, 1) := by decide +kernel
theorem dX3_year_20 : decode cX3_year 20 = .ok (.invokestatic 43, 3) := by decide +kernel
theorem dX3_year_23 : decode cX3_year 23 = .ok (.ifCond .eq 23, 3) := by decide +kernel
theorem dX3_year_26 : decode cX3_year 26 = .ok (.iload 4, 2) := by decide +kernel
theorem dX3_year_28 : decode cX3_year 28 = .ok (.ifCond .lt 18, 3) := by decide +kernel
theorem dX3_year_31 : decode cX3_year 31 = .ok (.iload 4, 2) := by decide +kernel
theorem dX3_year_33 : decode cX3_year 33 = .ok (.bipush 20, 2) := by decide +kernel
theorem dX3_year_35 : decode cX3_year 35 = .ok (.if_icmp .gt 11, 3) := by decide +kernel
theorem dX3_year_38 : decode cX3_year 38 = .ok (.iload 5, 2) := by decide +kernel
theorem dX3_year_40 : decode cX3_year 40 = .ok (.invokestatic 106, 3) := by decide +kernel
theorem dX3_year_43 : decode cX3_year 43 = .ok (.ifCond .ne 6, 3) := by decide +kernel
theorem dX3_year_46 : decode cX3_year 46 = .ok (.bipush (-2), 2) := by decide +kernel
theorem dX3_year_48 : decode cX3_year 48 = .ok (.ireturn, 1) := by decide +kernel
theorem dX3_year_49 : decode cX3_year 49 = .ok (.aload 6, 2) := by decide +kernel
theorem dX3_year_51 : decode cX3_year 51 = .ok (.iload_n 2, 1) := by decide +kernel
theorem dX3_year_52 : decode cX3_year 52 = .ok (.iload_n 3, 1) := by decide +kernel
theorem dX3_year_53 : decode cX3_year 53 = .ok (.iconst 2, 1) := by decide +kernel
theorem dX3_year_54 : decode cX3_year 54 = .ok (.iload 4, 2) := by decide +kernel
theorem dX3_year_56 : decode cX3_year 56 = .ok (.imul, 1) := by decide +kernel
theorem dX3_year_57 : decode cX3_year 57 = .ok (.invokevirtual 47, 3) := by decide +kernel
theorem dX3_year_60 : decode cX3_year 60 = .ok (.istore 7, 2) := by decide +kernel
theorem dX3_year_62 : decode cX3_year 62 = .ok (.iload 7, 2) := by decide +kernel
theorem dX3_year_64 : decode cX3_year 64 = .ok (.ifCond .eq 10, 3) := by decide +kernel
theorem dX3_year_67 : decode cX3_year 67 = .ok (.aload_n 0, 1) := by decide +kernel
theorem dX3_year_68 : decode cX3_year 68 = .ok (.iload 7, 2) := by decide +kernel
theorem dX3_year_70 : decode cX3_year 70 = .ok (.invokevirtual 51, 3) := by decide +kernel
theorem dX3_year_73 : decode cX3_year 73 = .ok (.ireturn, 1) := by decide +kernel
theorem dX3_year_74 : decode cX3_year 74 = .ok (.aload_n 0, 1) := by decide +kernel
theorem dX3_year_75 : decode cX3_year 75 = .ok (.getfield 20, 3) := by decide +kernel
theorem dX3_year_78 : decode cX3_year 78 = .ok (.getfield 69, 3) := by decide +kernel
theorem dX3_year_81 : decode cX3_year 81 = .ok (.ifCond .ne 6, 3) := by decide +kernel
theorem dX3_year_84 : decode cX3_year 84 = .ok (.bipush (-3), 2) := by decide +kernel
theorem dX3_year_86 : decode cX3_year 86 = .ok (.ireturn, 1) := by decide +kernel
theorem dX3_year_87 : decode cX3_year 87 = .ok (.aload_n 0, 1) := by decide +kernel
theorem dX3_year_88 : decode cX3_year 88 = .ok (.aload 6, 2) := by decide +kernel
theorem dX3_year_90 : decode cX3_year 90 = .ok (.iload_n 3, 1) := by decide +kernel
theorem dX3_year_91 : decode cX3_year 91 = .ok (.iload 4, 2) := by decide +kernel
theorem dX3_year_93 : decode cX3_year 93 = .ok (.invokevirtual 109, 3) := by decide +kernel
theorem dX3_year_96 : decode cX3_year 96 = .ok (.istore 8, 2) := by decide +kernel
theorem dX3_year_98 : decode cX3_year 98 = .ok (.iload 8, 2) := by decide +kernel
theorem dX3_year_100 : decode cX3_year 100 = .ok (.ifCond .eq 6, 3) := by decide +kernel
theorem dX3_year_103 : decode cX3_year 103 = .ok (.iload 8, 2) := by decide +kernel
theorem dX3_year_105 : decode cX3_year 105 = .ok (.ireturn, 1) := by decide +kernel
theorem dX3_year_106 : decode cX3_year 106 = .ok (.aload_n 0, 1) := by decide +kernel
theorem dX3_year_107 : decode cX3_year 107 = .ok (.aload 6, 2) := by decide +kernel
theorem dX3_year_109 : decode cX3_year 109 = .ok (.iload_n 3, 1) := by decide +kernel
theorem dX3_year_110 : decode cX3_year 110 = .ok (.iload 4, 2) := by decide +kernel
theorem dX3_year_112 : decode cX3_year 112 = .ok (.invokevirtual 112, 3) := by decide +kernel
theorem dX3_year_115 : decode cX3_year 115 = .ok (.istore 9, 2) := by decide +kernel
theorem dX3_year_117 : decode cX3_year 117 = .ok (.iload 5, 2) := by decide +kernel
theorem dX3_year_119 : decode cX3_year 119 = .ok (.iconst 1, 1) := by decide +kernel
theorem dX3_year_120 : decode cX3_year 120 = .ok (.if_icmp .ne 6, 3) := by decide +kernel
theorem dX3_year_123 : decode cX3_year 123 = .ok (.iload 9, 2) := by decide +kernel
theorem dX3_year_125 : decode cX3_year 125 = .ok (.ireturn, 1) := by decide +kernel
theorem dX3_year_126 : decode cX3_year 126 = .ok (.iload 9, 2) := by decide +kernel
theorem dX3_year_128 : decode cX3_year 128 = .ok (.bipush (-9), 2) := by decide +kernel
theorem dX3_year_130 : decode cX3_year 130 = .ok (.if_icmp .ne 12, 3) := by decide +kernel
theorem dX3_year_133 : decode cX3_year 133 = .ok (.aload_n 0, 1) := by decide +kernel
theorem dX3_year_134 : decode cX3_year 134 = .ok (.iload 5, 2) := by decide +kernel
theorem dX3_year_136 : decode cX3_year 136 = .ok (.invokevirtual 115, 3) := by decide +kernel
theorem dX3_year_139 : decode cX3_year 139 = .ok (.goto 8, 3) := by decide +kernel
theorem dX3_year_142 : decode cX3_year 142 = .ok (.bipush (-100), 2) := by decide +kernel
theorem dX3_year_144 : decode cX3_year 144 = .ok (.iload 9, 2) := by decide +kernel
theorem dX3_year_146 : decode cX3_year 146 = .ok (.isub, 1) := by decide +kernel
theorem dX3_year_147 : decode cX3_year 147 = .ok (.ireturn, 1) := by decide +kernel
set_option maxRecDepth 20000 in
theorem ggX3_asked_X2_has : GoodIn wsX3_asked wsX2_has := goodIn_r _ [7, 8, 40, 41, 42, 43, 44, 45] (by decide +kernel) (by decide +kernel)
set_option maxRecDepth 20000 in
theorem gX3_asked_X2_has : GoodIn wsX3_asked (wsV RX3 70 RX2 yX2_has wsX2_has) := goodIn_app (goodIn_of _ (by decide +kernel)) ggX3_asked_X2_has
set_option maxRecDepth 20000 in
theorem ggX3_asked_X3_bestAsked : GoodIn wsX3_asked wsX3_bestAsked := goodIn_r _ [13, 1, 14, 2, 15, 16, 17, 6, 18, 8, 19, 20, 21, 22, 23, 24, 25, 26, 27, 28, 29, 30, 31, 12, 32, 33, 34, 35, 36, 37, 38, 39, 40, 41, 42, 43, 44, 45] (by decide +kernel) (by decide +kernel)
set_option maxRecDepth 20000 in
theorem gX3_asked_X3_bestAsked : GoodIn wsX3_asked (wsV RX3 118 RX3 yX3_bestAsked wsX3_bestAsked) := goodIn_app (goodIn_of _ (by decide +kernel)) ggX3_asked_X3_bestAsked
set_option maxRecDepth 20000 in
theorem ggX3_asked_X2_partsOf : GoodIn wsX3_asked wsX2_partsOf := goodIn_r _ [29, 8, 30, 31, 12, 32, 40, 41, 42, 43, 44, 45] (by decide +kernel) (by decide +kernel)
set_option maxRecDepth 20000 in
theorem gX3_asked_X2_partsOf : GoodIn wsX3_asked (wsV RX3 96 RX2 yX2_partsOf wsX2_partsOf) := goodIn_app (goodIn_of _ (by decide +kernel)) ggX3_asked_X2_partsOf
theorem dX3_asked_0 : decode cX3_asked 0 = .ok (.aload_n 0, 1) := by decide +kernel
theorem dX3_asked_1 : decode cX3_asked 1 = .ok (.getfield 20, 3) := by decide +kernel
theorem dX3_asked_4 : decode cX3_asked 4 = .ok (.iload_n 1, 1) := by decide +kernel
theorem dX3_asked_5 : decode cX3_asked 5 = .ok (.invokevirtual 70, 3) := by decide +kernel
theorem dX3_asked_8 : decode cX3_asked 8 = .ok (.ifCond .ne 5, 3) := by decide +kernel
theorem dX3_asked_11 : decode cX3_asked 11 = .ok (.iconst (-1), 1) := by decide +kernel
theorem dX3_asked_12 : decode cX3_asked 12 = .ok (.ireturn, 1) := by decide +kernel
theorem dX3_asked_13 : decode cX3_asked 13 = .ok (.iload_n 2, 1) := by decide +kernel
theorem dX3_asked_14 : decode cX3_asked 14 = .ok (.ifCond .lt 19, 3) := by decide +kernel
theorem dX3_asked_17 : decode cX3_asked 17 = .ok (.iload_n 2, 1) := by decide +kernel
theorem dX3_asked_18 : decode cX3_asked 18 = .ok (.sipush 300, 3) := by decide +kernel
theorem dX3_asked_21 : decode cX3_asked 21 = .ok (.if_icmp .gt 12, 3) := by decide +kernel
theorem dX3_asked_24 : decode cX3_asked 24 = .ok (.iload_n 3, 1) := by decide +kernel
theorem dX3_asked_25 : decode cX3_asked 25 = .ok (.ifCond .lt 8, 3) := by decide +kernel
theorem dX3_asked_28 : decode cX3_asked 28 = .ok (.iload_n 3, 1) := by decide +kernel
theorem dX3_asked_29 : decode cX3_asked 29 = .ok (.iconst 1, 1) := by decide +kernel
theorem dX3_asked_30 : decode cX3_asked 30 = .ok (.if_icmp .le 6, 3) := by decide +kernel
theorem dX3_asked_33 : decode cX3_asked 33 = .ok (.bipush (-2), 2) := by decide +kernel
theorem dX3_asked_35 : decode cX3_asked 35 = .ok (.ireturn, 1) := by decide +kernel
theorem dX3_asked_36 : decode cX3_asked 36 = .ok (.aload_n 0, 1) := by decide +kernel
theorem dX3_asked_37 : decode cX3_asked 37 = .ok (.iload_n 1, 1) := by decide +kernel
theorem dX3_asked_38 : decode cX3_asked 38 = .ok (.iload_n 2, 1) := by decide +kernel
theorem dX3_asked_39 : decode cX3_asked 39 = .ok (.invokevirtual 118, 3) := by decide +kernel
theorem dX3_asked_42 : decode cX3_asked 42 = .ok (.istore 4, 2) := by decide +kernel
theorem dX3_asked_44 : decode cX3_asked 44 = .ok (.iload 4, 2) := by decide +kernel
theorem dX3_asked_46 : decode cX3_asked 46 = .ok (.bipush (-9), 2) := by decide +kernel
theorem dX3_asked_48 : decode cX3_asked 48 = .ok (.if_icmp .eq 7, 3) := by decide +kernel
theorem dX3_asked_51 : decode cX3_asked 51 = .ok (.iload_n 3, 1) := by decide +kernel
theorem dX3_asked_52 : decode cX3_asked 52 = .ok (.ifCond .ne 6, 3) := by decide +kernel
theorem dX3_asked_55 : decode cX3_asked 55 = .ok (.iload 4, 2) := by decide +kernel
theorem dX3_asked_57 : decode cX3_asked 57 = .ok (.ireturn, 1) := by decide +kernel
theorem dX3_asked_58 : decode cX3_asked 58 = .ok (.aload_n 0, 1) := by decide +kernel
theorem dX3_asked_59 : decode cX3_asked 59 = .ok (.getfield 20, 3) := by decide +kernel
theorem dX3_asked_62 : decode cX3_asked 62 = .ok (.getfield 77, 3) := by decide +kernel
theorem dX3_asked_65 : decode cX3_asked 65 = .ok (.iload_n 1, 1) := by decide +kernel
theorem dX3_asked_66 : decode cX3_asked 66 = .ok (.iaload, 1) := by decide +kernel
theorem dX3_asked_67 : decode cX3_asked 67 = .ok (.aload_n 0, 1) := by decide +kernel
theorem dX3_asked_68 : decode cX3_asked 68 = .ok (.getfield 20, 3) := by decide +kernel
theorem dX3_asked_71 : decode cX3_asked 71 = .ok (.iload 4, 2) := by decide +kernel
theorem dX3_asked_73 : decode cX3_asked 73 = .ok (.invokevirtual 96, 3) := by decide +kernel
theorem dX3_asked_76 : decode cX3_asked 76 = .ok (.iadd, 1) := by decide +kernel
theorem dX3_asked_77 : decode cX3_asked 77 = .ok (.ireturn, 1) := by decide +kernel
set_option maxRecDepth 20000 in
theorem ggX3_gatherings_X2_has : GoodIn wsX3_gatherings wsX2_has := goodIn_r _ [6, 7, 32, 33, 34, 35, 36, 37] (by decide +kernel) (by decide +kernel)
set_option maxRecDepth 20000 in
theorem gX3_gatherings_X2_has : GoodIn wsX3_gatherings (wsV RX3 70 RX2 yX2_has wsX2_has) := goodIn_app (goodIn_of _ (by decide +kernel)) ggX3_gatherings_X2_has
set_option maxRecDepth 20000 in
theorem ggX3_gatherings_X2_partsBehindGatherings : GoodIn wsX3_gatherings wsX2_partsBehindGatherings := goodIn_r _ [11, 12, 7, 13, 14, 15, 16, 17, 18, 19, 5, 20, 21, 22, 23, 24, 32, 33, 34, 35, 36, 37] (by decide +kernel) (by decide +kernel)
set_option maxRecDepth 20000 in
theorem gX3_gatherings_X2_partsBehindGatherings : GoodIn wsX3_gatherings (wsV RX3 121 RX2 yX2_partsBehindGatherings wsX2_partsBehindGatherings) := goodIn_app (goodIn_of _ (by decide +kernel)) ggX3_gatherings_X2_partsBehindGatherings
theorem dX3_gatherings_0 : decode cX3_gatherings 0 = .ok (.aload_n 0, 1) := by decide +kernel
theorem dX3_gatherings_1 : decode cX3_gatherings 1 = .ok (.getfield 20, 3) := by decide +kernel
theorem dX3_gatherings_4 : decode cX3_gatherings 4 = .ok (.iload_n 1, 1) := by decide +kernel
theorem dX3_gatherings_5 : decode cX3_gatherings 5 = .ok (.invokevirtual 70, 3) := by decide +kernel
theorem dX3_gatherings_8 : decode cX3_gatherings 8 = .ok (.ifCond .ne 5, 3) := by decide +kernel
theorem dX3_gatherings_11 : decode cX3_gatherings 11 = .ok (.iconst (-1), 1) := by decide +kernel
theorem dX3_gatherings_12 : decode cX3_gatherings 12 = .ok (.ireturn, 1) := by decide +kernel
theorem dX3_gatherings_13 : decode cX3_gatherings 13 = .ok (.iload_n 2, 1) := by decide +kernel
theorem dX3_gatherings_14 : decode cX3_gatherings 14 = .ok (.ifCond .lt 10, 3) := by decide +kernel
theorem dX3_gatherings_17 : decode cX3_gatherings 17 = .ok (.iload_n 2, 1) := by decide +kernel
theorem dX3_gatherings_18 : decode cX3_gatherings 18 = .ok (.sipush 300, 3) := by decide +kernel
theorem dX3_gatherings_21 : decode cX3_gatherings 21 = .ok (.if_icmp .le 6, 3) := by decide +kernel
theorem dX3_gatherings_24 : decode cX3_gatherings 24 = .ok (.bipush (-2), 2) := by decide +kernel
theorem dX3_gatherings_26 : decode cX3_gatherings 26 = .ok (.ireturn, 1) := by decide +kernel
theorem dX3_gatherings_27 : decode cX3_gatherings 27 = .ok (.iconst 0, 1) := by decide +kernel
theorem dX3_gatherings_28 : decode cX3_gatherings 28 = .ok (.istore_n 3, 1) := by decide +kernel
theorem dX3_gatherings_29 : decode cX3_gatherings 29 = .ok (.iload_n 3, 1) := by decide +kernel
theorem dX3_gatherings_30 : decode cX3_gatherings 30 = .ok (.sipush 300, 3) := by decide +kernel
theorem dX3_gatherings_33 : decode cX3_gatherings 33 = .ok (.if_icmp .gt 24, 3) := by decide +kernel
theorem dX3_gatherings_36 : decode cX3_gatherings 36 = .ok (.aload_n 0, 1) := by decide +kernel
theorem dX3_gatherings_37 : decode cX3_gatherings 37 = .ok (.getfield 20, 3) := by decide +kernel
theorem dX3_gatherings_40 : decode cX3_gatherings 40 = .ok (.iload_n 1, 1) := by decide +kernel
theorem dX3_gatherings_41 : decode cX3_gatherings 41 = .ok (.iload_n 3, 1) := by decide +kernel
theorem dX3_gatherings_42 : decode cX3_gatherings 42 = .ok (.invokevirtual 121, 3) := by decide +kernel
theorem dX3_gatherings_45 : decode cX3_gatherings 45 = .ok (.iload_n 2, 1) := by decide +kernel
theorem dX3_gatherings_46 : decode cX3_gatherings 46 = .ok (.if_icmp .lt 5, 3) := by decide +kernel
theorem dX3_gatherings_49 : decode cX3_gatherings 49 = .ok (.iload_n 3, 1) := by decide +kernel
theorem dX3_gatherings_50 : decode cX3_gatherings 50 = .ok (.ireturn, 1) := by decide +kernel
theorem dX3_gatherings_51 : decode cX3_gatherings 51 = .ok (.iinc 3 1, 3) := by decide +kernel
theorem dX3_gatherings_54 : decode cX3_gatherings 54 = .ok (.goto (-25), 3) := by decide +kernel
theorem dX3_gatherings_57 : decode cX3_gatherings 57 = .ok (.bipush (-9), 2) := by decide +kernel
theorem dX3_gatherings_59 : decode cX3_gatherings 59 = .ok (.ireturn, 1) := by decide +kernel
set_option maxRecDepth 20000 in
theorem ggX3_level_X2_lackingUpTo : GoodIn wsX3_level wsX2_lackingUpTo := goodIn_r _ [8, 9, 10, 11, 12, 13, 14, 15, 16, 17, 7, 18, 19, 20, 21, 22, 30, 31, 32, 33, 34, 35] (by decide +kernel) (by decide +kernel)
set_option maxRecDepth 20000 in
theorem gX3_level_X2_lackingUpTo : GoodIn wsX3_level (wsV RX3 124 RX2 yX2_lackingUpTo wsX2_lackingUpTo) := goodIn_app (goodIn_of _ (by decide +kernel)) ggX3_level_X2_lackingUpTo
theorem dX3_level_0 : decode cX3_level 0 = .ok (.iload_n 1, 1) := by decide +kernel
theorem dX3_level_1 : decode cX3_level 1 = .ok (.ifCond .lt 8, 3) := by decide +kernel
theorem dX3_level_4 : decode cX3_level 4 = .ok (.iload_n 1, 1) := by decide +kernel
theorem dX3_level_5 : decode cX3_level 5 = .ok (.iconst 1, 1) := by decide +kernel
theorem dX3_level_6 : decode cX3_level 6 = .ok (.if_icmp .le 6, 3) := by decide +kernel
theorem dX3_level_9 : decode cX3_level 9 = .ok (.bipush (-2), 2) := by decide +kernel
theorem dX3_level_11 : decode cX3_level 11 = .ok (.ireturn, 1) := by decide +kernel
theorem dX3_level_12 : decode cX3_level 12 = .ok (.aload_n 0, 1) := by decide +kernel
theorem dX3_level_13 : decode cX3_level 13 = .ok (.getfield 20, 3) := by decide +kernel
theorem dX3_level_16 : decode cX3_level 16 = .ok (.getfield 93, 3) := by decide +kernel
theorem dX3_level_19 : decode cX3_level 19 = .ok (.ifCond .ne 6, 3) := by decide +kernel
theorem dX3_level_22 : decode cX3_level 22 = .ok (.bipush (-3), 2) := by decide +kernel
theorem dX3_level_24 : decode cX3_level 24 = .ok (.ireturn, 1) := by decide +kernel
theorem dX3_level_25 : decode cX3_level 25 = .ok (.iconst 0, 1) := by decide +kernel
theorem dX3_level_26 : decode cX3_level 26 = .ok (.istore_n 2, 1) := by decide +kernel
theorem dX3_level_27 : decode cX3_level 27 = .ok (.iconst 1, 1) := by decide +kernel
theorem dX3_level_28 : decode cX3_level 28 = .ok (.istore_n 3, 1) := by decide +kernel
theorem dX3_level_29 : decode cX3_level 29 = .ok (.iload_n 3, 1) := by decide +kernel
theorem dX3_level_30 : decode cX3_level 30 = .ok (.sipush 300, 3) := by decide +kernel
theorem dX3_level_33 : decode cX3_level 33 = .ok (.if_icmp .gt 29, 3) := by decide +kernel
theorem dX3_level_36 : decode cX3_level 36 = .ok (.aload_n 0, 1) := by decide +kernel
theorem dX3_level_37 : decode cX3_level 37 = .ok (.getfield 20, 3) := by decide +kernel
theorem dX3_level_40 : decode cX3_level 40 = .ok (.iload_n 3, 1) := by decide +kernel
theorem dX3_level_41 : decode cX3_level 41 = .ok (.invokevirtual 124, 3) := by decide +kernel
theorem dX3_level_44 : decode cX3_level 44 = .ok (.aload_n 0, 1) := by decide +kernel
theorem dX3_level_45 : decode cX3_level 45 = .ok (.getfield 20, 3) := by decide +kernel
theorem dX3_level_48 : decode cX3_level 48 = .ok (.getfield 103, 3) := by decide +kernel
theorem dX3_level_51 : decode cX3_level 51 = .ok (.if_icmp .gt 11, 3) := by decide +kernel
theorem dX3_level_54 : decode cX3_level 54 = .ok (.iload_n 3, 1) := by decide +kernel
theorem dX3_level_55 : decode cX3_level 55 = .ok (.istore_n 2, 1) := by decide +kernel
theorem dX3_level_56 : decode cX3_level 56 = .ok (.iinc 3 1, 3) := by decide +kernel
theorem dX3_level_59 : decode cX3_level 59 = .ok (.goto (-30), 3) := by decide +kernel
theorem dX3_level_62 : decode cX3_level 62 = .ok (.iload_n 1, 1) := by decide +kernel
theorem dX3_level_63 : decode cX3_level 63 = .ok (.ifCond .ne 7, 3) := by decide +kernel
theorem dX3_level_66 : decode cX3_level 66 = .ok (.iload_n 2, 1) := by decide +kernel
theorem dX3_level_67 : decode cX3_level 67 = .ok (.goto 19, 3) := by decide +kernel
theorem dX3_level_70 : decode cX3_level 70 = .ok (.aload_n 0, 1) := by decide +kernel
theorem dX3_level_71 : decode cX3_level 71 = .ok (.getfield 20, 3) := by decide +kernel
theorem dX3_level_74 : decode cX3_level 74 = .ok (.getfield 103, 3) := by decide +kernel
theorem dX3_level_77 : decode cX3_level 77 = .ok (.aload_n 0, 1) := by decide +kernel
theorem dX3_level_78 : decode cX3_level 78 = .ok (.getfield 20, 3) := by decide +kernel
theorem dX3_level_81 : decode cX3_level 81 = .ok (.iload_n 2, 1) := by decide +kernel
theorem dX3_level_82 : decode cX3_level 82 = .ok (.invokevirtual 124, 3) := by decide +kernel
theorem dX3_level_85 : decode cX3_level 85 = .ok (.isub, 1) := by decide +kernel
theorem dX3_level_86 : decode cX3_level 86 = .ok (.ireturn, 1) := by decide +kernel
set_option maxRecDepth 20000 in
theorem ggX3_were_X2_has : GoodIn wsX3_were wsX2_has := goodIn_r _ [6, 7, 39, 40, 41, 42, 43, 44] (by decide +kernel) (by decide +kernel)
set_option maxRecDepth 20000 in
theorem gX3_were_X2_has : GoodIn wsX3_were (wsV RX3 70 RX2 yX2_has wsX2_has) := goodIn_app (goodIn_of _ (by decide +kernel)) ggX3_were_X2_has
set_option maxRecDepth 20000 in
theorem ggX3_were_X2_allSets : GoodIn wsX3_were wsX2_allSets := goodIn_r _ [11, 7, 39, 40, 41, 42, 43, 44] (by decide +kernel) (by decide +kernel)
set_option maxRecDepth 20000 in
theorem gX3_were_X2_allSets : GoodIn wsX3_were (wsV RX3 127 RX2 yX2_allSets wsX2_allSets) := goodIn_app (goodIn_of _ (by decide +kernel)) ggX3_were_X2_allSets
set_option maxRecDepth 20000 in
theorem ggX3_were_X3_isMember : GoodIn wsX3_were wsX3_isMember := goodIn_r _ [15] (by decide +kernel) (by decide +kernel)
set_option maxRecDepth 20000 in
theorem gX3_were_X3_isMember : GoodIn wsX3_were (va_wsS RX3 130 yX3_isMember wsX3_isMember) := goodIn_app (goodIn_of _ (by decide +kernel)) ggX3_were_X3_isMember
set_option maxRecDepth 20000 in
theorem ggX3_were_X2_partsBehindDay : GoodIn wsX3_were wsX2_partsBehindDay := goodIn_r _ [19, 20, 21, 22, 23, 24, 25, 26, 27, 28, 29, 30, 5, 31, 7, 13, 14, 15, 39, 40, 41, 42, 43, 44] (by decide +kernel) (by decide +kernel)
set_option maxRecDepth 20000 in
theorem gX3_were_X2_partsBehindDay : GoodIn wsX3_were (wsV RX3 134 RX2 yX2_partsBehindDay wsX2_partsBehindDay) := goodIn_app (goodIn_of _ (by decide +kernel)) ggX3_were_X2_partsBehindDay
theorem dX3_were_0 : decode cX3_were 0 = .ok (.aload_n 0, 1) := by decide +kernel
theorem dX3_were_1 : decode cX3_were 1 = .ok (.getfield 20, 3) := by decide +kernel
theorem dX3_were_4 : decode cX3_were 4 = .ok (.iload_n 1, 1) := by decide +kernel
theorem dX3_were_5 : decode cX3_were 5 = .ok (.invokevirtual 70, 3) := by decide +kernel
theorem dX3_were_8 : decode cX3_were 8 = .ok (.ifCond .ne 5, 3) := by decide +kernel
theorem dX3_were_11 : decode cX3_were 11 = .ok (.iconst (-1), 1) := by decide +kernel
theorem dX3_were_12 : decode cX3_were 12 = .ok (.ireturn, 1) := by decide +kernel
theorem dX3_were_13 : decode cX3_were 13 = .ok (.iload_n 2, 1) := by decide +kernel
theorem dX3_were_14 : decode cX3_were 14 = .ok (.ifCond .lt 19, 3) := by decide +kernel
theorem dX3_were_17 : decode cX3_were 17 = .ok (.iload_n 2, 1) := by decide +kernel
theorem dX3_were_18 : decode cX3_were 18 = .ok (.sipush 300, 3) := by decide +kernel
theorem dX3_were_21 : decode cX3_were 21 = .ok (.if_icmp .gt 12, 3) := by decide +kernel
theorem dX3_were_24 : decode cX3_were 24 = .ok (.iload_n 3, 1) := by decide +kernel
theorem dX3_were_25 : decode cX3_were 25 = .ok (.ifCond .lt 8, 3) := by decide +kernel
theorem dX3_were_28 : decode cX3_were 28 = .ok (.iload_n 3, 1) := by decide +kernel
theorem dX3_were_29 : decode cX3_were 29 = .ok (.iconst 2, 1) := by decide +kernel
theorem dX3_were_30 : decode cX3_were 30 = .ok (.if_icmp .le 6, 3) := by decide +kernel
theorem dX3_were_33 : decode cX3_were 33 = .ok (.bipush (-2), 2) := by decide +kernel
theorem dX3_were_35 : decode cX3_were 35 = .ok (.ireturn, 1) := by decide +kernel
theorem dX3_were_36 : decode cX3_were 36 = .ok (.iconst 0, 1) := by decide +kernel
theorem dX3_were_37 : decode cX3_were 37 = .ok (.istore 4, 2) := by decide +kernel
theorem dX3_were_39 : decode cX3_were 39 = .ok (.bipush (-9), 2) := by decide +kernel
theorem dX3_were_41 : decode cX3_were 41 = .ok (.istore 5, 2) := by decide +kernel
theorem dX3_were_43 : decode cX3_were 43 = .ok (.bipush (-9), 2) := by decide +kernel
theorem dX3_were_45 : decode cX3_were 45 = .ok (.istore 6, 2) := by decide +kernel
theorem dX3_were_47 : decode cX3_were 47 = .ok (.iconst 0, 1) := by decide +kernel
theorem dX3_were_48 : decode cX3_were 48 = .ok (.istore 7, 2) := by decide +kernel
theorem dX3_were_50 : decode cX3_were 50 = .ok (.iload 7, 2) := by decide +kernel
theorem dX3_were_52 : decode cX3_were 52 = .ok (.aload_n 0, 1) := by decide +kernel
theorem dX3_were_53 : decode cX3_were 53 = .ok (.getfield 20, 3) := by decide +kernel
theorem dX3_were_56 : decode cX3_were 56 = .ok (.invokevirtual 127, 3) := by decide +kernel
theorem dX3_were_59 : decode cX3_were 59 = .ok (.if_icmp .ge 66, 3) := by decide +kernel
theorem dX3_were_62 : decode cX3_were 62 = .ok (.iload 7, 2) := by decide +kernel
theorem dX3_were_64 : decode cX3_were 64 = .ok (.iload_n 1, 1) := by decide +kernel
theorem dX3_were_65 : decode cX3_were 65 = .ok (.invokestatic 130, 3) := by decide +kernel
theorem dX3_were_68 : decode cX3_were 68 = .ok (.ifCond .eq 51, 3) := by decide +kernel
theorem dX3_were_71 : decode cX3_were 71 = .ok (.aload_n 0, 1) := by decide +kernel
theorem dX3_were_72 : decode cX3_were 72 = .ok (.getfield 20, 3) := by decide +kernel
theorem dX3_were_75 : decode cX3_were 75 = .ok (.iload 7, 2) := by decide +kernel
theorem dX3_were_77 : decode cX3_were 77 = .ok (.iload_n 1, 1) := by decide +kernel
theorem dX3_were_78 : decode cX3_were 78 = .ok (.invokevirtual 134, 3) := by decide +kernel
theorem dX3_were_81 : decode cX3_were 81 = .ok (.iload_n 2, 1) := by decide +kernel
theorem dX3_were_82 : decode cX3_were 82 = .ok (.if_icmp .ne 37, 3) := by decide +kernel
theorem dX3_were_85 : decode cX3_were 85 = .ok (.iload 4, 2) := by decide +kernel
theorem dX3_were_87 : decode cX3_were 87 = .ok (.ifCond .ne 8, 3) := by decide +kernel
theorem dX3_were_90 : decode cX3_were 90 = .ok (.iload 7, 2) := by decide +kernel
theorem dX3_were_92 : decode cX3_were 92 = .ok (.goto 5, 3) := by decide +kernel
theorem dX3_were_95 : decode cX3_were 95 = .ok (.iload 5, 2) := by decide +kernel
theorem dX3_were_97 : decode cX3_were 97 = .ok (.istore 5, 2) := by decide +kernel
theorem dX3_were_99 : decode cX3_were 99 = .ok (.iload 4, 2) := by decide +kernel
theorem dX3_were_101 : decode cX3_were 101 = .ok (.ifCond .ne 8, 3) := by decide +kernel
theorem dX3_were_104 : decode cX3_were 104 = .ok (.iload 7, 2) := by decide +kernel
theorem dX3_were_106 : decode cX3_were 106 = .ok (.goto 8, 3) := by decide +kernel
theorem dX3_were_109 : decode cX3_were 109 = .ok (.iload 6, 2) := by decide +kernel
theorem dX3_were_111 : decode cX3_were 111 = .ok (.iload 7, 2) := by decide +kernel
theorem dX3_were_113 : decode cX3_were 113 = .ok (.iand, 1) := by decide +kernel
theorem dX3_were_114 : decode cX3_were 114 = .ok (.istore 6, 2) := by decide +kernel
theorem dX3_were_116 : decode cX3_were 116 = .ok (.iinc 4 1, 3) := by decide +kernel
theorem dX3_were_119 : decode cX3_were 119 = .ok (.iinc 7 1, 3) := by decide +kernel
theorem dX3_were_122 : decode cX3_were 122 = .ok (.goto (-72), 3) := by decide +kernel
theorem dX3_were_125 : decode cX3_were 125 = .ok (.iload_n 3, 1) := by decide +kernel
theorem dX3_were_126 : decode cX3_were 126 = .ok (.ifCond .ne 6, 3) := by decide +kernel
theorem dX3_were_129 : decode cX3_were 129 = .ok (.iload 4, 2) := by decide +kernel
theorem dX3_were_131 : decode cX3_were 131 = .ok (.ireturn, 1) := by decide +kernel
theorem dX3_were_132 : decode cX3_were 132 = .ok (.iload_n 3, 1) := by decide +kernel
theorem dX3_were_133 : decode cX3_were 133 = .ok (.iconst 1, 1) := by decide +kernel
theorem dX3_were_134 : decode cX3_were 134 = .ok (.if_icmp .ne 8, 3) := by decide +kernel
theorem dX3_were_137 : decode cX3_were 137 = .ok (.iload 5, 2) := by decide +kernel
theorem dX3_were_139 : decode cX3_were 139 = .ok (.goto 5, 3) := by decide +kernel
theorem dX3_were_142 : decode cX3_were 142 = .ok (.iload 6, 2) := by decide +kernel
theorem dX3_were_144 : decode cX3_were 144 = .ok (.ireturn, 1) := by decide +kernel
theorem dX3_rounds_0 : decode cX3_rounds 0 = .ok (.iload_n 1, 1) := by decide +kernel
theorem dX3_rounds_1 : decode cX3_rounds 1 = .ok (.iconst 1, 1) := by decide +kernel
theorem dX3_rounds_2 : decode cX3_rounds 2 = .ok (.if_icmp .lt 18, 3) := by decide +kernel
theorem dX3_rounds_5 : decode cX3_rounds 5 = .ok (.iload_n 1, 1) := by decide +kernel
theorem dX3_rounds_6 : decode cX3_rounds 6 = .ok (.bipush 9, 2) := by decide +kernel
theorem dX3_rounds_8 : decode cX3_rounds 8 = .ok (.if_icmp .gt 12, 3) := by decide +kernel
theorem dX3_rounds_11 : decode cX3_rounds 11 = .ok (.iload_n 2, 1) := by decide +kernel
theorem dX3_rounds_12 : decode cX3_rounds 12 = .ok (.ifCond .lt 8, 3) := by decide +kernel
theorem dX3_rounds_15 : decode cX3_rounds 15 = .ok (.iload_n 2, 1) := by decide +kernel
theorem dX3_rounds_16 : decode cX3_rounds 16 = .ok (.iconst 1, 1) := by decide +kernel
theorem dX3_rounds_17 : decode cX3_rounds 17 = .ok (.if_icmp .le 6, 3) := by decide +kernel
theorem dX3_rounds_20 : decode cX3_rounds 20 = .ok (.bipush (-2), 2) := by decide +kernel
theorem dX3_rounds_22 : decode cX3_rounds 22 = .ok (.ireturn, 1) := by decide +kernel
theorem dX3_rounds_23 : decode cX3_rounds 23 = .ok (.aload_n 0, 1) := by decide +kernel
theorem dX3_rounds_24 : decode cX3_rounds 24 = .ok (.getfield 20, 3) := by decide +kernel
theorem dX3_rounds_27 : decode cX3_rounds 27 = .ok (.getfield 69, 3) := by decide +kernel
theorem dX3_rounds_30 : decode cX3_rounds 30 = .ok (.ifCond .ne 6, 3) := by decide +kernel
theorem dX3_rounds_33 : decode cX3_rounds 33 = .ok (.bipush (-3), 2) := by decide +kernel
theorem dX3_rounds_35 : decode cX3_rounds 35 = .ok (.ireturn, 1) := by decide +kernel
theorem dX3_rounds_36 : decode cX3_rounds 36 = .ok (.aload_n 0, 1) := by decide +kernel
theorem dX3_rounds_37 : decode cX3_rounds 37 = .ok (.getfield 20, 3) := by decide +kernel
theorem dX3_rounds_40 : decode cX3_rounds 40 = .ok (.getfield 103, 3) := by decide +kernel
theorem dX3_rounds_43 : decode cX3_rounds 43 = .ok (.iload_n 1, 1) := by decide +kernel
theorem dX3_rounds_44 : decode cX3_rounds 44 = .ok (.iconst 1, 1) := by decide +kernel
theorem dX3_rounds_45 : decode cX3_rounds 45 = .ok (.iadd, 1) := by decide +kernel
theorem dX3_rounds_46 : decode cX3_rounds 46 = .ok (.irem, 1) := by decide +kernel
theorem dX3_rounds_47 : decode cX3_rounds 47 = .ok (.istore_n 3, 1) := by decide +kernel
theorem dX3_rounds_48 : decode cX3_rounds 48 = .ok (.iload_n 2, 1) := by decide +kernel
theorem dX3_rounds_49 : decode cX3_rounds 49 = .ok (.ifCond .ne 13, 3) := by decide +kernel
theorem dX3_rounds_52 : decode cX3_rounds 52 = .ok (.iload_n 3, 1) := by decide +kernel
theorem dX3_rounds_53 : decode cX3_rounds 53 = .ok (.ifCond .ne 7, 3) := by decide +kernel
theorem dX3_rounds_56 : decode cX3_rounds 56 = .ok (.iconst 0, 1) := by decide +kernel
theorem dX3_rounds_57 : decode cX3_rounds 57 = .ok (.goto 4, 3) := by decide +kernel
theorem dX3_rounds_60 : decode cX3_rounds 60 = .ok (.iconst 1, 1) := by decide +kernel
theorem dX3_rounds_61 : decode cX3_rounds 61 = .ok (.ireturn, 1) := by decide +kernel
theorem dX3_rounds_62 : decode cX3_rounds 62 = .ok (.iload_n 3, 1) := by decide +kernel
theorem dX3_rounds_63 : decode cX3_rounds 63 = .ok (.ifCond .ne 8, 3) := by decide +kernel
theorem dX3_rounds_66 : decode cX3_rounds 66 = .ok (.bipush (-9), 2) := by decide +kernel
theorem dX3_rounds_68 : decode cX3_rounds 68 = .ok (.goto 4, 3) := by decide +kernel
theorem dX3_rounds_71 : decode cX3_rounds 71 = .ok (.iload_n 3, 1) := by decide +kernel
theorem dX3_rounds_72 : decode cX3_rounds 72 = .ok (.ireturn, 1) := by decide +kernel
set_option maxRecDepth 20000 in
theorem ggX3_worth_X2_has : GoodIn wsX3_worth wsX2_has := goodIn_r _ [8, 9, 56, 57, 58, 59, 60, 61] (by decide +kernel) (by decide +kernel)
set_option maxRecDepth 20000 in
theorem gX3_worth_X2_has : GoodIn wsX3_worth (wsV RX3 70 RX2 yX2_has wsX2_has) := goodIn_app (goodIn_of _ (by decide +kernel)) ggX3_worth_X2_has
set_option maxRecDepth 20000 in
theorem ggX3_worth_X3_isHalfOfShare : GoodIn wsX3_worth wsX3_isHalfOfShare := goodIn_r _ [13] (by decide +kernel) (by decide +kernel)
set_option maxRecDepth 20000 in
theorem gX3_worth_X3_isHalfOfShare : GoodIn wsX3_worth (va_wsS RX3 137 yX3_isHalfOfShare wsX3_isHalfOfShare) := goodIn_app (goodIn_of _ (by decide +kernel)) ggX3_worth_X3_isHalfOfShare
set_option maxRecDepth 20000 in
theorem ggX3_worth_X2_isIn : GoodIn wsX3_worth wsX2_isIn := goodIn_r _ [17, 18, 19, 12, 20, 56, 57, 58, 59, 60, 61] (by decide +kernel) (by decide +kernel)
set_option maxRecDepth 20000 in
theorem gX3_worth_X2_isIn : GoodIn wsX3_worth (wsV RX3 83 RX2 yX2_isIn wsX2_isIn) := goodIn_app (goodIn_of _ (by decide +kernel)) ggX3_worth_X2_isIn
set_option maxRecDepth 20000 in
theorem ggX3_worth_X3_ordersDecidedBy : GoodIn wsX3_worth wsX3_ordersDecidedBy := goodIn_r _ [24, 1, 3, 25, 26, 27, 28, 7, 29, 9, 30, 19, 12, 20, 31, 32, 33, 34, 35, 36, 37, 38, 39, 40, 41, 42, 43, 44, 45, 49, 50, 51, 52, 53, 54, 55, 56, 57, 58, 59, 60, 61] (by decide +kernel) (by decide +kernel)
set_option maxRecDepth 20000 in
theorem gX3_worth_X3_ordersDecidedBy : GoodIn wsX3_worth (wsV RX3 142 RX3 yX3_ordersDecidedBy wsX3_ordersDecidedBy) := goodIn_app (goodIn_of _ (by decide +kernel)) ggX3_worth_X3_ordersDecidedBy
set_option maxRecDepth 20000 in
theorem ggX3_worth_X3_ordersOf : GoodIn wsX3_worth wsX3_ordersOf := goodIn_r _ [37, 38, 39, 40, 41, 42, 43, 44, 45] (by decide +kernel) (by decide +kernel)
set_option maxRecDepth 20000 in
theorem gX3_worth_X3_ordersOf : GoodIn wsX3_worth (va_wsS RX3 145 yX3_ordersOf wsX3_ordersOf) := goodIn_app (goodIn_of _ (by decide +kernel)) ggX3_worth_X3_ordersOf
set_option maxRecDepth 20000 in
theorem ggX3_worth_X3_shareOf : GoodIn wsX3_worth wsX3_shareOf := goodIn_r _ [48, 2] (by decide +kernel) (by decide +kernel)
set_option maxRecDepth 20000 in
theorem gX3_worth_X3_shareOf : GoodIn wsX3_worth (va_wsS RX3 148 yX3_shareOf wsX3_shareOf) := goodIn_app (goodIn_of _ (by decide +kernel)) ggX3_worth_X3_shareOf
theorem dX3_worth_0 : decode cX3_worth 0 = .ok (.aload_n 0, 1) := by decide +kernel
theorem dX3_worth_1 : decode cX3_worth 1 = .ok (.getfield 20, 3) := by decide +kernel
theorem dX3_worth_4 : decode cX3_worth 4 = .ok (.iload_n 1, 1) := by decide +kernel
theorem dX3_worth_5 : decode cX3_worth 5 = .ok (.invokevirtual 70, 3) := by decide +kernel
theorem dX3_worth_8 : decode cX3_worth 8 = .ok (.ifCond .eq 21, 3) := by decide +kernel
theorem dX3_worth_11 : decode cX3_worth 11 = .ok (.iload_n 2, 1) := by decide +kernel
theorem dX3_worth_12 : decode cX3_worth 12 = .ok (.invokestatic 137, 3) := by decide +kernel
theorem dX3_worth_15 : decode cX3_worth 15 = .ok (.ifCond .eq 14, 3) := by decide +kernel
theorem dX3_worth_18 : decode cX3_worth 18 = .ok (.aload_n 0, 1) := by decide +kernel
theorem dX3_worth_19 : decode cX3_worth 19 = .ok (.getfield 20, 3) := by decide +kernel
theorem dX3_worth_22 : decode cX3_worth 22 = .ok (.iload_n 1, 1) := by decide +kernel
theorem dX3_worth_23 : decode cX3_worth 23 = .ok (.invokevirtual 83, 3) := by decide +kernel
theorem dX3_worth_26 : decode cX3_worth 26 = .ok (.ifCond .ne 7, 3) := by decide +kernel
theorem dX3_worth_29 : decode cX3_worth 29 = .ok (.ldc2_w 140, 3) := by decide +kernel
theorem dX3_worth_32 : decode cX3_worth 32 = .ok (.lreturn, 1) := by decide +kernel
theorem dX3_worth_33 : decode cX3_worth 33 = .ok (.aload_n 0, 1) := by decide +kernel
theorem dX3_worth_34 : decode cX3_worth 34 = .ok (.iload_n 1, 1) := by decide +kernel
theorem dX3_worth_35 : decode cX3_worth 35 = .ok (.invokevirtual 142, 3) := by decide +kernel
theorem dX3_worth_38 : decode cX3_worth 38 = .ok (.aload_n 0, 1) := by decide +kernel
theorem dX3_worth_39 : decode cX3_worth 39 = .ok (.getfield 20, 3) := by decide +kernel
theorem dX3_worth_42 : decode cX3_worth 42 = .ok (.getfield 93, 3) := by decide +kernel
theorem dX3_worth_45 : decode cX3_worth 45 = .ok (.invokestatic 145, 3) := by decide +kernel
theorem dX3_worth_48 : decode cX3_worth 48 = .ok (.iload_n 2, 1) := by decide +kernel
theorem dX3_worth_49 : decode cX3_worth 49 = .ok (.invokestatic 148, 3) := by decide +kernel
theorem dX3_worth_52 : decode cX3_worth 52 = .ok (.lreturn, 1) := by decide +kernel
set_option maxRecDepth 20000 in
theorem ggX3_mean_X3_isHalfOfShare : GoodIn wsX3_mean wsX3_isHalfOfShare := goodIn_r _ [7] (by decide +kernel) (by decide +kernel)
set_option maxRecDepth 20000 in
theorem gX3_mean_X3_isHalfOfShare : GoodIn wsX3_mean (va_wsS RX3 137 yX3_isHalfOfShare wsX3_isHalfOfShare) := goodIn_app (goodIn_of _ (by decide +kernel)) ggX3_mean_X3_isHalfOfShare
set_option maxRecDepth 20000 in
theorem ggX3_mean_X2_partsOf : GoodIn wsX3_mean wsX2_partsOf := goodIn_r _ [12, 13, 14, 15, 6, 16, 39, 40, 41, 42, 43, 44] (by decide +kernel) (by decide +kernel)
set_option maxRecDepth 20000 in
theorem gX3_mean_X2_partsOf : GoodIn wsX3_mean (wsV RX3 96 RX2 yX2_partsOf wsX2_partsOf) := goodIn_app (goodIn_of _ (by decide +kernel)) ggX3_mean_X2_partsOf
set_option maxRecDepth 20000 in
theorem ggX3_mean_X2_heads : GoodIn wsX3_mean wsX2_heads := goodIn_r _ [20, 21, 22, 23, 24, 25, 26, 27, 28, 39, 40, 41, 42, 43, 44] (by decide +kernel) (by decide +kernel)
set_option maxRecDepth 20000 in
theorem gX3_mean_X2_heads : GoodIn wsX3_mean (wsV RX3 152 RX2 yX2_heads wsX2_heads) := goodIn_app (goodIn_of _ (by decide +kernel)) ggX3_mean_X2_heads
set_option maxRecDepth 20000 in
theorem ggX3_mean_X3_shareOf : GoodIn wsX3_mean wsX3_shareOf := goodIn_r _ [31, 3] (by decide +kernel) (by decide +kernel)
set_option maxRecDepth 20000 in
theorem gX3_mean_X3_shareOf : GoodIn wsX3_mean (va_wsS RX3 148 yX3_shareOf wsX3_shareOf) := goodIn_app (goodIn_of _ (by decide +kernel)) ggX3_mean_X3_shareOf
theorem dX3_mean_0 : decode cX3_mean 0 = .ok (.iload_n 1, 1) := by decide +kernel
theorem dX3_mean_1 : decode cX3_mean 1 = .ok (.invokestatic 137, 3) := by decide +kernel
theorem dX3_mean_4 : decode cX3_mean 4 = .ok (.ifCond .eq 13, 3) := by decide +kernel
theorem dX3_mean_7 : decode cX3_mean 7 = .ok (.aload_n 0, 1) := by decide +kernel
theorem dX3_mean_8 : decode cX3_mean 8 = .ok (.getfield 20, 3) := by decide +kernel
theorem dX3_mean_11 : decode cX3_mean 11 = .ok (.getfield 93, 3) := by decide +kernel
theorem dX3_mean_14 : decode cX3_mean 14 = .ok (.ifCond .ne 7, 3) := by decide +kernel
theorem dX3_mean_17 : decode cX3_mean 17 = .ok (.ldc2_w 140, 3) := by decide +kernel
theorem dX3_mean_20 : decode cX3_mean 20 = .ok (.lreturn, 1) := by decide +kernel
theorem dX3_mean_21 : decode cX3_mean 21 = .ok (.aload_n 0, 1) := by decide +kernel
theorem dX3_mean_22 : decode cX3_mean 22 = .ok (.getfield 20, 3) := by decide +kernel
theorem dX3_mean_25 : decode cX3_mean 25 = .ok (.aload_n 0, 1) := by decide +kernel
theorem dX3_mean_26 : decode cX3_mean 26 = .ok (.getfield 20, 3) := by decide +kernel
theorem dX3_mean_29 : decode cX3_mean 29 = .ok (.getfield 93, 3) := by decide +kernel
theorem dX3_mean_32 : decode cX3_mean 32 = .ok (.invokevirtual 96, 3) := by decide +kernel
theorem dX3_mean_35 : decode cX3_mean 35 = .ok (.aload_n 0, 1) := by decide +kernel
theorem dX3_mean_36 : decode cX3_mean 36 = .ok (.getfield 20, 3) := by decide +kernel
theorem dX3_mean_39 : decode cX3_mean 39 = .ok (.invokevirtual 152, 3) := by decide +kernel
theorem dX3_mean_42 : decode cX3_mean 42 = .ok (.iload_n 1, 1) := by decide +kernel
theorem dX3_mean_43 : decode cX3_mean 43 = .ok (.invokestatic 148, 3) := by decide +kernel
theorem dX3_mean_46 : decode cX3_mean 46 = .ok (.lreturn, 1) := by decide +kernel
set_option maxRecDepth 20000 in
theorem ggX3_reading_X2_has : GoodIn wsX3_reading wsX2_has := goodIn_r _ [8, 9, 30, 31, 32, 33, 34, 35] (by decide +kernel) (by decide +kernel)
set_option maxRecDepth 20000 in
theorem gX3_reading_X2_has : GoodIn wsX3_reading (wsV RX3 70 RX2 yX2_has wsX2_has) := goodIn_app (goodIn_of _ (by decide +kernel)) ggX3_reading_X2_has
set_option maxRecDepth 20000 in
theorem ggX3_reading_X0_take : GoodIn wsX3_reading wsX0_take := goodIn_r _ [14, 15, 16, 17, 18, 26, 27, 28, 29] (by decide +kernel) (by decide +kernel)
set_option maxRecDepth 20000 in
theorem gX3_reading_X0_take : GoodIn wsX3_reading (wsV RX3 155 RX0 yX0_take wsX0_take) := goodIn_app (goodIn_of _ (by decide +kernel)) ggX3_reading_X0_take
theorem dX3_reading_0 : decode cX3_reading 0 = .ok (.aload_n 0, 1) := by decide +kernel
theorem dX3_reading_1 : decode cX3_reading 1 = .ok (.getfield 20, 3) := by decide +kernel
theorem dX3_reading_4 : decode cX3_reading 4 = .ok (.iload_n 1, 1) := by decide +kernel
theorem dX3_reading_5 : decode cX3_reading 5 = .ok (.invokevirtual 70, 3) := by decide +kernel
theorem dX3_reading_8 : decode cX3_reading 8 = .ok (.ifCond .ne 5, 3) := by decide +kernel
theorem dX3_reading_11 : decode cX3_reading 11 = .ok (.iconst (-1), 1) := by decide +kernel
theorem dX3_reading_12 : decode cX3_reading 12 = .ok (.ireturn, 1) := by decide +kernel
theorem dX3_reading_13 : decode cX3_reading 13 = .ok (.iload_n 2, 1) := by decide +kernel
theorem dX3_reading_14 : decode cX3_reading 14 = .ok (.ifCond .lt 21, 3) := by decide +kernel
theorem dX3_reading_17 : decode cX3_reading 17 = .ok (.iload_n 2, 1) := by decide +kernel
theorem dX3_reading_18 : decode cX3_reading 18 = .ok (.sipush 300, 3) := by decide +kernel
theorem dX3_reading_21 : decode cX3_reading 21 = .ok (.if_icmp .gt 14, 3) := by decide +kernel
theorem dX3_reading_24 : decode cX3_reading 24 = .ok (.iload_n 3, 1) := by decide +kernel
theorem dX3_reading_25 : decode cX3_reading 25 = .ok (.ifCond .lt 10, 3) := by decide +kernel
theorem dX3_reading_28 : decode cX3_reading 28 = .ok (.iload_n 3, 1) := by decide +kernel
theorem dX3_reading_29 : decode cX3_reading 29 = .ok (.sipush 600, 3) := by decide +kernel
theorem dX3_reading_32 : decode cX3_reading 32 = .ok (.if_icmp .le 6, 3) := by decide +kernel
theorem dX3_reading_35 : decode cX3_reading 35 = .ok (.bipush (-2), 2) := by decide +kernel
theorem dX3_reading_37 : decode cX3_reading 37 = .ok (.ireturn, 1) := by decide +kernel
theorem dX3_reading_38 : decode cX3_reading 38 = .ok (.aload_n 0, 1) := by decide +kernel
theorem dX3_reading_39 : decode cX3_reading 39 = .ok (.getfield 30, 3) := by decide +kernel
theorem dX3_reading_42 : decode cX3_reading 42 = .ok (.getfield 63, 3) := by decide +kernel
theorem dX3_reading_45 : decode cX3_reading 45 = .ok (.bipush 8, 2) := by decide +kernel
theorem dX3_reading_47 : decode cX3_reading 47 = .ok (.if_icmp .lt 6, 3) := by decide +kernel
theorem dX3_reading_50 : decode cX3_reading 50 = .ok (.bipush (-4), 2) := by decide +kernel
theorem dX3_reading_52 : decode cX3_reading 52 = .ok (.ireturn, 1) := by decide +kernel
theorem dX3_reading_53 : decode cX3_reading 53 = .ok (.aload_n 0, 1) := by decide +kernel
theorem dX3_reading_54 : decode cX3_reading 54 = .ok (.getfield 30, 3) := by decide +kernel
theorem dX3_reading_57 : decode cX3_reading 57 = .ok (.iload_n 1, 1) := by decide +kernel
theorem dX3_reading_58 : decode cX3_reading 58 = .ok (.iload_n 2, 1) := by decide +kernel
theorem dX3_reading_59 : decode cX3_reading 59 = .ok (.iload_n 3, 1) := by decide +kernel
theorem dX3_reading_60 : decode cX3_reading 60 = .ok (.invokevirtual 155, 3) := by decide +kernel
theorem dX3_reading_63 : decode cX3_reading 63 = .ok (.ireturn, 1) := by decide +kernel
theorem dX3_back_0 : decode cX3_back 0 = .ok (.iload_n 1, 1) := by decide +kernel
theorem dX3_back_1 : decode cX3_back 1 = .ok (.ifCond .lt 14, 3) := by decide +kernel
theorem dX3_back_4 : decode cX3_back 4 = .ok (.iload_n 1, 1) := by decide +kernel
theorem dX3_back_5 : decode cX3_back 5 = .ok (.aload_n 0, 1) := by decide +kernel
theorem dX3_back_6 : decode cX3_back 6 = .ok (.getfield 30, 3) := by decide +kernel
theorem dX3_back_9 : decode cX3_back 9 = .ok (.getfield 63, 3) := by decide +kernel
theorem dX3_back_12 : decode cX3_back 12 = .ok (.if_icmp .le 6, 3) := by decide +kernel
theorem dX3_back_15 : decode cX3_back 15 = .ok (.bipush (-2), 2) := by decide +kernel
theorem dX3_back_17 : decode cX3_back 17 = .ok (.ireturn, 1) := by decide +kernel
theorem dX3_back_18 : decode cX3_back 18 = .ok (.aload_n 0, 1) := by decide +kernel
theorem dX3_back_19 : decode cX3_back 19 = .ok (.getfield 30, 3) := by decide +kernel
theorem dX3_back_22 : decode cX3_back 22 = .ok (.dup, 1) := by decide +kernel
theorem dX3_back_23 : decode cX3_back 23 = .ok (.getfield 63, 3) := by decide +kernel
theorem dX3_back_26 : decode cX3_back 26 = .ok (.iload_n 1, 1) := by decide +kernel
theorem dX3_back_27 : decode cX3_back 27 = .ok (.isub, 1) := by decide +kernel
theorem dX3_back_28 : decode cX3_back 28 = .ok (.putfield 63, 3) := by decide +kernel
theorem dX3_back_31 : decode cX3_back 31 = .ok (.aload_n 0, 1) := by decide +kernel
theorem dX3_back_32 : decode cX3_back 32 = .ok (.getfield 30, 3) := by decide +kernel
theorem dX3_back_35 : decode cX3_back 35 = .ok (.getfield 63, 3) := by decide +kernel
theorem dX3_back_38 : decode cX3_back 38 = .ok (.ireturn, 1) := by decide +kernel
set_option maxRecDepth 20000 in
theorem ggX3_ears_X2_has : GoodIn wsX3_ears wsX2_has := goodIn_r _ [8, 9, 35, 36, 37, 38, 39, 40] (by decide +kernel) (by decide +kernel)
set_option maxRecDepth 20000 in
theorem gX3_ears_X2_has : GoodIn wsX3_ears (wsV RX3 70 RX2 yX2_has wsX2_has) := goodIn_app (goodIn_of _ (by decide +kernel)) ggX3_ears_X2_has
set_option maxRecDepth 20000 in
theorem ggX3_ears_X0_areSo : GoodIn wsX3_ears wsX0_areSo := goodIn_r _ [14, 15, 16, 17, 18, 19, 20, 21, 22, 23, 24, 25, 26, 27, 41, 42, 43, 44, 35, 36, 37, 38, 39, 40] (by decide +kernel) (by decide +kernel)
set_option maxRecDepth 20000 in
theorem gX3_ears_X0_areSo : GoodIn wsX3_ears (wsV RX3 158 RX0 yX0_areSo wsX0_areSo) := goodIn_app (goodIn_of _ (by decide +kernel)) ggX3_ears_X0_areSo
theorem dX3_ears_0 : decode cX3_ears 0 = .ok (.aload_n 0, 1) := by decide +kernel
theorem dX3_ears_1 : decode cX3_ears 1 = .ok (.getfield 20, 3) := by decide +kernel
theorem dX3_ears_4 : decode cX3_ears 4 = .ok (.iload_n 1, 1) := by decide +kernel
theorem dX3_ears_5 : decode cX3_ears 5 = .ok (.invokevirtual 70, 3) := by decide +kernel
theorem dX3_ears_8 : decode cX3_ears 8 = .ok (.ifCond .ne 5, 3) := by decide +kernel
theorem dX3_ears_11 : decode cX3_ears 11 = .ok (.iconst (-1), 1) := by decide +kernel
theorem dX3_ears_12 : decode cX3_ears 12 = .ok (.ireturn, 1) := by decide +kernel
theorem dX3_ears_13 : decode cX3_ears 13 = .ok (.iconst 0, 1) := by decide +kernel
theorem dX3_ears_14 : decode cX3_ears 14 = .ok (.istore_n 2, 1) := by decide +kernel
theorem dX3_ears_15 : decode cX3_ears 15 = .ok (.iconst 1, 1) := by decide +kernel
theorem dX3_ears_16 : decode cX3_ears 16 = .ok (.istore_n 3, 1) := by decide +kernel
theorem dX3_ears_17 : decode cX3_ears 17 = .ok (.iload_n 3, 1) := by decide +kernel
theorem dX3_ears_18 : decode cX3_ears 18 = .ok (.bipush 9, 2) := by decide +kernel
theorem dX3_ears_20 : decode cX3_ears 20 = .ok (.if_icmp .gt 40, 3) := by decide +kernel
theorem dX3_ears_23 : decode cX3_ears 23 = .ok (.aload_n 0, 1) := by decide +kernel
theorem dX3_ears_24 : decode cX3_ears 24 = .ok (.getfield 30, 3) := by decide +kernel
theorem dX3_ears_27 : decode cX3_ears 27 = .ok (.aload_n 0, 1) := by decide +kernel
theorem dX3_ears_28 : decode cX3_ears 28 = .ok (.getfield 20, 3) := by decide +kernel
theorem dX3_ears_31 : decode cX3_ears 31 = .ok (.iload_n 1, 1) := by decide +kernel
theorem dX3_ears_32 : decode cX3_ears 32 = .ok (.aload_n 0, 1) := by decide +kernel
theorem dX3_ears_33 : decode cX3_ears 33 = .ok (.getfield 20, 3) := by decide +kernel
theorem dX3_ears_36 : decode cX3_ears 36 = .ok (.getfield 73, 3) := by decide +kernel
theorem dX3_ears_39 : decode cX3_ears 39 = .ok (.iload_n 1, 1) := by decide +kernel
theorem dX3_ears_40 : decode cX3_ears 40 = .ok (.iaload, 1) := by decide +kernel
theorem dX3_ears_41 : decode cX3_ears 41 = .ok (.iload_n 3, 1) := by decide +kernel
theorem dX3_ears_42 : decode cX3_ears 42 = .ok (.invokevirtual 158, 3) := by decide +kernel
theorem dX3_ears_45 : decode cX3_ears 45 = .ok (.ifCond .eq 9, 3) := by decide +kernel
theorem dX3_ears_48 : decode cX3_ears 48 = .ok (.iload_n 2, 1) := by decide +kernel
theorem dX3_ears_49 : decode cX3_ears 49 = .ok (.iconst 1, 1) := by decide +kernel
theorem dX3_ears_50 : decode cX3_ears 50 = .ok (.iload_n 3, 1) := by decide +kernel
theorem dX3_ears_51 : decode cX3_ears 51 = .ok (.ishl, 1) := by decide +kernel
theorem dX3_ears_52 : decode cX3_ears 52 = .ok (.ior, 1) := by decide +kernel
theorem dX3_ears_53 : decode cX3_ears 53 = .ok (.istore_n 2, 1) := by decide +kernel
theorem dX3_ears_54 : decode cX3_ears 54 = .ok (.iinc 3 1, 3) := by decide +kernel
theorem dX3_ears_57 : decode cX3_ears 57 = .ok (.goto (-40), 3) := by decide +kernel
theorem dX3_ears_60 : decode cX3_ears 60 = .ok (.iload_n 2, 1) := by decide +kernel
theorem dX3_ears_61 : decode cX3_ears 61 = .ok (.ireturn, 1) := by decide +kernel
set_option maxRecDepth 20000 in
theorem ggX3_kinds_X2_has : GoodIn wsX3_kinds wsX2_has := goodIn_r _ [8, 9, 35, 36, 37, 38, 39, 40] (by decide +kernel) (by decide +kernel)
set_option maxRecDepth 20000 in
theorem gX3_kinds_X2_has : GoodIn wsX3_kinds (wsV RX3 70 RX2 yX2_has wsX2_has) := goodIn_app (goodIn_of _ (by decide +kernel)) ggX3_kinds_X2_has
set_option maxRecDepth 20000 in
theorem ggX3_kinds_X0_areSo : GoodIn wsX3_kinds wsX0_areSo := goodIn_r _ [14, 15, 16, 17, 18, 19, 20, 21, 22, 23, 24, 25, 26, 27, 41, 42, 43, 44, 35, 36, 37, 38, 39, 40] (by decide +kernel) (by decide +kernel)
set_option maxRecDepth 20000 in
theorem gX3_kinds_X0_areSo : GoodIn wsX3_kinds (wsV RX3 158 RX0 yX0_areSo wsX0_areSo) := goodIn_app (goodIn_of _ (by decide +kernel)) ggX3_kinds_X0_areSo
theorem dX3_kinds_0 : decode cX3_kinds 0 = .ok (.aload_n 0, 1) := by decide +kernel
theorem dX3_kinds_1 : decode cX3_kinds 1 = .ok (.getfield 20, 3) := by decide +kernel
theorem dX3_kinds_4 : decode cX3_kinds 4 = .ok (.iload_n 1, 1) := by decide +kernel
theorem dX3_kinds_5 : decode cX3_kinds 5 = .ok (.invokevirtual 70, 3) := by decide +kernel
theorem dX3_kinds_8 : decode cX3_kinds 8 = .ok (.ifCond .ne 5, 3) := by decide +kernel
theorem dX3_kinds_11 : decode cX3_kinds 11 = .ok (.iconst (-1), 1) := by decide +kernel
theorem dX3_kinds_12 : decode cX3_kinds 12 = .ok (.ireturn, 1) := by decide +kernel
theorem dX3_kinds_13 : decode cX3_kinds 13 = .ok (.iconst 0, 1) := by decide +kernel
theorem dX3_kinds_14 : decode cX3_kinds 14 = .ok (.istore_n 2, 1) := by decide +kernel
theorem dX3_kinds_15 : decode cX3_kinds 15 = .ok (.iconst 0, 1) := by decide +kernel
theorem dX3_kinds_16 : decode cX3_kinds 16 = .ok (.istore_n 3, 1) := by decide +kernel
theorem dX3_kinds_17 : decode cX3_kinds 17 = .ok (.iload_n 3, 1) := by decide +kernel
theorem dX3_kinds_18 : decode cX3_kinds 18 = .ok (.iconst 2, 1) := by decide +kernel
theorem dX3_kinds_19 : decode cX3_kinds 19 = .ok (.if_icmp .gt 40, 3) := by decide +kernel
theorem dX3_kinds_22 : decode cX3_kinds 22 = .ok (.aload_n 0, 1) := by decide +kernel
theorem dX3_kinds_23 : decode cX3_kinds 23 = .ok (.getfield 30, 3) := by decide +kernel
theorem dX3_kinds_26 : decode cX3_kinds 26 = .ok (.aload_n 0, 1) := by decide +kernel
theorem dX3_kinds_27 : decode cX3_kinds 27 = .ok (.getfield 20, 3) := by decide +kernel
theorem dX3_kinds_30 : decode cX3_kinds 30 = .ok (.iload_n 1, 1) := by decide +kernel
theorem dX3_kinds_31 : decode cX3_kinds 31 = .ok (.iload_n 3, 1) := by decide +kernel
theorem dX3_kinds_32 : decode cX3_kinds 32 = .ok (.aload_n 0, 1) := by decide +kernel
theorem dX3_kinds_33 : decode cX3_kinds 33 = .ok (.getfield 20, 3) := by decide +kernel
theorem dX3_kinds_36 : decode cX3_kinds 36 = .ok (.getfield 80, 3) := by decide +kernel
theorem dX3_kinds_39 : decode cX3_kinds 39 = .ok (.iload_n 1, 1) := by decide +kernel
theorem dX3_kinds_40 : decode cX3_kinds 40 = .ok (.iaload, 1) := by decide +kernel
theorem dX3_kinds_41 : decode cX3_kinds 41 = .ok (.invokevirtual 158, 3) := by decide +kernel
theorem dX3_kinds_44 : decode cX3_kinds 44 = .ok (.ifCond .eq 9, 3) := by decide +kernel
theorem dX3_kinds_47 : decode cX3_kinds 47 = .ok (.iload_n 2, 1) := by decide +kernel
theorem dX3_kinds_48 : decode cX3_kinds 48 = .ok (.iconst 1, 1) := by decide +kernel
theorem dX3_kinds_49 : decode cX3_kinds 49 = .ok (.iload_n 3, 1) := by decide +kernel
theorem dX3_kinds_50 : decode cX3_kinds 50 = .ok (.ishl, 1) := by decide +kernel
theorem dX3_kinds_51 : decode cX3_kinds 51 = .ok (.ior, 1) := by decide +kernel
theorem dX3_kinds_52 : decode cX3_kinds 52 = .ok (.istore_n 2, 1) := by decide +kernel
theorem dX3_kinds_53 : decode cX3_kinds 53 = .ok (.iinc 3 1, 3) := by decide +kernel
theorem dX3_kinds_56 : decode cX3_kinds 56 = .ok (.goto (-39), 3) := by decide +kernel
theorem dX3_kinds_59 : decode cX3_kinds 59 = .ok (.iload_n 2, 1) := by decide +kernel
theorem dX3_kinds_60 : decode cX3_kinds 60 = .ok (.ireturn, 1) := by decide +kernel
set_option maxRecDepth 20000 in
theorem ggX3_odds_X2_has : GoodIn wsX3_odds wsX2_has := goodIn_r _ [9, 10, 55, 56, 57, 58, 59, 60] (by decide +kernel) (by decide +kernel)
set_option maxRecDepth 20000 in
theorem gX3_odds_X2_has : GoodIn wsX3_odds (wsV RX3 70 RX2 yX2_has wsX2_has) := goodIn_app (goodIn_of _ (by decide +kernel)) ggX3_odds_X2_has
set_option maxRecDepth 20000 in
theorem ggX3_odds_X3_isHalfOfShare : GoodIn wsX3_odds wsX3_isHalfOfShare := goodIn_r _ [14] (by decide +kernel) (by decide +kernel)
set_option maxRecDepth 20000 in
theorem gX3_odds_X3_isHalfOfShare : GoodIn wsX3_odds (va_wsS RX3 137 yX3_isHalfOfShare wsX3_isHalfOfShare) := goodIn_app (goodIn_of _ (by decide +kernel)) ggX3_odds_X3_isHalfOfShare
set_option maxRecDepth 20000 in
theorem ggX3_odds_X2_allSets : GoodIn wsX3_odds wsX2_allSets := goodIn_r _ [18, 10, 55, 56, 57, 58, 59, 60] (by decide +kernel) (by decide +kernel)
set_option maxRecDepth 20000 in
theorem gX3_odds_X2_allSets : GoodIn wsX3_odds (wsV RX3 127 RX2 yX2_allSets wsX2_allSets) := goodIn_app (goodIn_of _ (by decide +kernel)) ggX3_odds_X2_allSets
set_option maxRecDepth 20000 in
theorem ggX3_odds_X3_isMember : GoodIn wsX3_odds wsX3_isMember := goodIn_r _ [21] (by decide +kernel) (by decide +kernel)
set_option maxRecDepth 20000 in
theorem gX3_odds_X3_isMember : GoodIn wsX3_odds (va_wsS RX3 130 yX3_isMember wsX3_isMember) := goodIn_app (goodIn_of _ (by decide +kernel)) ggX3_odds_X3_isMember
set_option maxRecDepth 20000 in
theorem ggX3_odds_X2_partsBehindDay : GoodIn wsX3_odds wsX2_partsBehindDay := goodIn_r _ [25, 26, 27, 28, 29, 30, 31, 32, 33, 34, 35, 36, 8, 37, 10, 20, 13, 21, 55, 56, 57, 58, 59, 60] (by decide +kernel) (by decide +kernel)
set_option maxRecDepth 20000 in
theorem gX3_odds_X2_partsBehindDay : GoodIn wsX3_odds (wsV RX3 134 RX2 yX2_partsBehindDay wsX2_partsBehindDay) := goodIn_app (goodIn_of _ (by decide +kernel)) ggX3_odds_X2_partsBehindDay
set_option maxRecDepth 20000 in
theorem ggX3_odds_X3_says : GoodIn wsX3_odds wsX3_says := goodIn_r _ [40, 41, 42, 43, 44] (by decide +kernel) (by decide +kernel)
set_option maxRecDepth 20000 in
theorem gX3_odds_X3_says : GoodIn wsX3_odds (va_wsS RX3 162 yX3_says wsX3_says) := goodIn_app (goodIn_of _ (by decide +kernel)) ggX3_odds_X3_says
set_option maxRecDepth 20000 in
theorem ggX3_odds_X3_shareOf : GoodIn wsX3_odds wsX3_shareOf := goodIn_r _ [47, 2] (by decide +kernel) (by decide +kernel)
set_option maxRecDepth 20000 in
theorem gX3_odds_X3_shareOf : GoodIn wsX3_odds (va_wsS RX3 148 yX3_shareOf wsX3_shareOf) := goodIn_app (goodIn_of _ (by decide +kernel)) ggX3_odds_X3_shareOf
theorem dX3_odds_0 : decode cX3_odds 0 = .ok (.aload_n 0, 1) := by decide +kernel
theorem dX3_odds_1 : decode cX3_odds 1 = .ok (.getfield 20, 3) := by decide +kernel
theorem dX3_odds_4 : decode cX3_odds 4 = .ok (.iload_n 1, 1) := by decide +kernel
theorem dX3_odds_5 : decode cX3_odds 5 = .ok (.invokevirtual 70, 3) := by decide +kernel
theorem dX3_odds_8 : decode cX3_odds 8 = .ok (.ifCond .eq 21, 3) := by decide +kernel
theorem dX3_odds_11 : decode cX3_odds 11 = .ok (.iload_n 2, 1) := by decide +kernel
theorem dX3_odds_12 : decode cX3_odds 12 = .ok (.ifCond .lt 17, 3) := by decide +kernel
theorem dX3_odds_15 : decode cX3_odds 15 = .ok (.iload_n 2, 1) := by decide +kernel
theorem dX3_odds_16 : decode cX3_odds 16 = .ok (.sipush 600, 3) := by decide +kernel
theorem dX3_odds_19 : decode cX3_odds 19 = .ok (.if_icmp .gt 10, 3) := by decide +kernel
theorem dX3_odds_22 : decode cX3_odds 22 = .ok (.iload_n 3, 1) := by decide +kernel
theorem dX3_odds_23 : decode cX3_odds 23 = .ok (.invokestatic 137, 3) := by decide +kernel
theorem dX3_odds_26 : decode cX3_odds 26 = .ok (.ifCond .ne 7, 3) := by decide +kernel
theorem dX3_odds_29 : decode cX3_odds 29 = .ok (.ldc2_w 140, 3) := by decide +kernel
theorem dX3_odds_32 : decode cX3_odds 32 = .ok (.lreturn, 1) := by decide +kernel
theorem dX3_odds_33 : decode cX3_odds 33 = .ok (.iconst 0, 1) := by decide +kernel
theorem dX3_odds_34 : decode cX3_odds 34 = .ok (.istore 4, 2) := by decide +kernel
theorem dX3_odds_36 : decode cX3_odds 36 = .ok (.iconst 0, 1) := by decide +kernel
theorem dX3_odds_37 : decode cX3_odds 37 = .ok (.istore 5, 2) := by decide +kernel
theorem dX3_odds_39 : decode cX3_odds 39 = .ok (.iload 5, 2) := by decide +kernel
theorem dX3_odds_41 : decode cX3_odds 41 = .ok (.aload_n 0, 1) := by decide +kernel
theorem dX3_odds_42 : decode cX3_odds 42 = .ok (.getfield 20, 3) := by decide +kernel
theorem dX3_odds_45 : decode cX3_odds 45 = .ok (.invokevirtual 127, 3) := by decide +kernel
theorem dX3_odds_48 : decode cX3_odds 48 = .ok (.if_icmp .ge 56, 3) := by decide +kernel
theorem dX3_odds_51 : decode cX3_odds 51 = .ok (.iload 5, 2) := by decide +kernel
theorem dX3_odds_53 : decode cX3_odds 53 = .ok (.iload_n 1, 1) := by decide +kernel
theorem dX3_odds_54 : decode cX3_odds 54 = .ok (.invokestatic 130, 3) := by decide +kernel
theorem dX3_odds_57 : decode cX3_odds 57 = .ok (.ifCond .eq 41, 3) := by decide +kernel
theorem dX3_odds_60 : decode cX3_odds 60 = .ok (.aload_n 0, 1) := by decide +kernel
theorem dX3_odds_61 : decode cX3_odds 61 = .ok (.getfield 20, 3) := by decide +kernel
theorem dX3_odds_64 : decode cX3_odds 64 = .ok (.getfield 73, 3) := by decide +kernel
theorem dX3_odds_67 : decode cX3_odds 67 = .ok (.iload_n 1, 1) := by decide +kernel
theorem dX3_odds_68 : decode cX3_odds 68 = .ok (.iaload, 1) := by decide +kernel
theorem dX3_odds_69 : decode cX3_odds 69 = .ok (.aload_n 0, 1) := by decide +kernel
theorem dX3_odds_70 : decode cX3_odds 70 = .ok (.getfield 20, 3) := by decide +kernel
theorem dX3_odds_73 : decode cX3_odds 73 = .ok (.iload 5, 2) := by decide +kernel
theorem dX3_odds_75 : decode cX3_odds 75 = .ok (.iload_n 1, 1) := by decide +kernel
theorem dX3_odds_76 : decode cX3_odds 76 = .ok (.invokevirtual 134, 3) := by decide +kernel
theorem dX3_odds_79 : decode cX3_odds 79 = .ok (.aload_n 0, 1) := by decide +kernel
theorem dX3_odds_80 : decode cX3_odds 80 = .ok (.getfield 20, 3) := by decide +kernel
theorem dX3_odds_83 : decode cX3_odds 83 = .ok (.getfield 80, 3) := by decide +kernel
theorem dX3_odds_86 : decode cX3_odds 86 = .ok (.iload_n 1, 1) := by decide +kernel
theorem dX3_odds_87 : decode cX3_odds 87 = .ok (.iaload, 1) := by decide +kernel
theorem dX3_odds_88 : decode cX3_odds 88 = .ok (.invokestatic 162, 3) := by decide +kernel
theorem dX3_odds_91 : decode cX3_odds 91 = .ok (.iload_n 2, 1) := by decide +kernel
theorem dX3_odds_92 : decode cX3_odds 92 = .ok (.if_icmp .lt 6, 3) := by decide +kernel
theorem dX3_odds_95 : decode cX3_odds 95 = .ok (.iinc 4 1, 3) := by decide +kernel
theorem dX3_odds_98 : decode cX3_odds 98 = .ok (.iinc 5 1, 3) := by decide +kernel
theorem dX3_odds_101 : decode cX3_odds 101 = .ok (.goto (-62), 3) := by decide +kernel
theorem dX3_odds_104 : decode cX3_odds 104 = .ok (.iload 4, 2) := by decide +kernel
theorem dX3_odds_106 : decode cX3_odds 106 = .ok (.aload_n 0, 1) := by decide +kernel
theorem dX3_odds_107 : decode cX3_odds 107 = .ok (.getfield 20, 3) := by decide +kernel
theorem dX3_odds_110 : decode cX3_odds 110 = .ok (.invokevirtual 127, 3) := by decide +kernel
theorem dX3_odds_113 : decode cX3_odds 113 = .ok (.iload_n 3, 1) := by decide +kernel
theorem dX3_odds_114 : decode cX3_odds 114 = .ok (.invokestatic 148, 3) := by decide +kernel
theorem dX3_odds_117 : decode cX3_odds 117 = .ok (.lreturn, 1) := by decide +kernel
set_option maxRecDepth 20000 in
theorem ggX3_sheet_X3_sheetAt : GoodIn wsX3_sheet wsX3_sheetAt := goodIn_r _ [6, 7, 31, 32, 33, 34, 35, 36, 37] (by decide +kernel) (by decide +kernel)
set_option maxRecDepth 20000 in
theorem gX3_sheet_X3_sheetAt : GoodIn wsX3_sheet (wsV RX3 39 RX3 yX3_sheetAt wsX3_sheetAt) := goodIn_app (goodIn_of _ (by decide +kernel)) ggX3_sheet_X3_sheetAt
set_option maxRecDepth 20000 in
theorem ggX3_sheet_X3_isLane : GoodIn wsX3_sheet wsX3_isLane := goodIn_r _ [10] (by decide +kernel) (by decide +kernel)
set_option maxRecDepth 20000 in
theorem gX3_sheet_X3_isLane : GoodIn wsX3_sheet (va_wsS RX3 43 yX3_isLane wsX3_isLane) := goodIn_app (goodIn_of _ (by decide +kernel)) ggX3_sheet_X3_isLane
set_option maxRecDepth 20000 in
theorem ggX3_sheet_X3_faulty : GoodIn wsX3_sheet wsX3_faulty := goodIn_r _ [14, 1, 31, 32, 33, 34, 35, 36, 37] (by decide +kernel) (by decide +kernel)
set_option maxRecDepth 20000 in
theorem gX3_sheet_X3_faulty : GoodIn wsX3_sheet (wsV RX3 51 RX3 yX3_faulty wsX3_faulty) := goodIn_app (goodIn_of _ (by decide +kernel)) ggX3_sheet_X3_faulty
set_option maxRecDepth 20000 in
theorem ggX3_sheet_X1_renew : GoodIn wsX3_sheet wsX1_renew := goodIn_r _ [19, 20, 21, 22, 23, 24, 25, 26, 27, 28, 29, 30, 38, 39, 40, 41] (by decide +kernel) (by decide +kernel)
set_option maxRecDepth 20000 in
theorem gX3_sheet_X1_renew : GoodIn wsX3_sheet (wsV RX3 165 RX1 yX1_renew wsX1_renew) := goodIn_app (goodIn_of _ (by decide +kernel)) ggX3_sheet_X1_renew
theorem dX3_sheet_0 : decode cX3_sheet 0 = .ok (.aload_n 0, 1) := by decide +kernel
theorem dX3_sheet_1 : decode cX3_sheet 1 = .ok (.iconst 0, 1) := by decide +kernel
theorem dX3_sheet_2 : decode cX3_sheet 2 = .ok (.putfield 35, 3) := by decide +kernel
theorem dX3_sheet_5 : decode cX3_sheet 5 = .ok (.aload_n 0, 1) := by decide +kernel
theorem dX3_sheet_6 : decode cX3_sheet 6 = .ok (.iload_n 1, 1) := by decide +kernel
theorem dX3_sheet_7 : decode cX3_sheet 7 = .ok (.invokevirtual 39, 3) := by decide +kernel
theorem dX3_sheet_10 : decode cX3_sheet 10 = .ok (.astore 4, 2) := by decide +kernel
theorem dX3_sheet_12 : decode cX3_sheet 12 = .ok (.aload 4, 2) := by decide +kernel
theorem dX3_sheet_14 : decode cX3_sheet 14 = .ok (.ifnonnull 5, 3) := by decide +kernel
theorem dX3_sheet_17 : decode cX3_sheet 17 = .ok (.iconst (-1), 1) := by decide +kernel
theorem dX3_sheet_18 : decode cX3_sheet 18 = .ok (.ireturn, 1) := by decide +kernel
theorem dX3_sheet_19 : decode cX3_sheet 19 = .ok (.iload_n 2, 1) := by decide +kernel
theorem dX3_sheet_20 : decode cX3_sheet 20 = .ok (.invokestatic 43, 3) := by decide +kernel
theorem dX3_sheet_23 : decode cX3_sheet 23 = .ok (.ifCond .eq 9, 3) := by decide +kernel
theorem dX3_sheet_26 : decode cX3_sheet 26 = .ok (.iload_n 3, 1) := by decide +kernel
theorem dX3_sheet_27 : decode cX3_sheet 27 = .ok (.bipush 60, 2) := by decide +kernel
theorem dX3_sheet_29 : decode cX3_sheet 29 = .ok (.if_icmp .le 6, 3) := by decide +kernel
theorem dX3_sheet_32 : decode cX3_sheet 32 = .ok (.bipush (-2), 2) := by decide +kernel
theorem dX3_sheet_34 : decode cX3_sheet 34 = .ok (.ireturn, 1) := by decide +kernel
theorem dX3_sheet_35 : decode cX3_sheet 35 = .ok (.iload_n 3, 1) := by decide +kernel
theorem dX3_sheet_36 : decode cX3_sheet 36 = .ok (.ifCond .ge 9, 3) := by decide +kernel
theorem dX3_sheet_39 : decode cX3_sheet 39 = .ok (.aload_n 0, 1) := by decide +kernel
theorem dX3_sheet_40 : decode cX3_sheet 40 = .ok (.iconst 4, 1) := by decide +kernel
theorem dX3_sheet_41 : decode cX3_sheet 41 = .ok (.invokevirtual 51, 3) := by decide +kernel
theorem dX3_sheet_44 : decode cX3_sheet 44 = .ok (.ireturn, 1) := by decide +kernel
theorem dX3_sheet_45 : decode cX3_sheet 45 = .ok (.aload 4, 2) := by decide +kernel
theorem dX3_sheet_47 : decode cX3_sheet 47 = .ok (.iload_n 2, 1) := by decide +kernel
theorem dX3_sheet_48 : decode cX3_sheet 48 = .ok (.iload_n 3, 1) := by decide +kernel
theorem dX3_sheet_49 : decode cX3_sheet 49 = .ok (.invokevirtual 165, 3) := by decide +kernel
theorem dX3_sheet_52 : decode cX3_sheet 52 = .ok (.iconst 1, 1) := by decide +kernel
theorem dX3_sheet_53 : decode cX3_sheet 53 = .ok (.ireturn, 1) := by decide +kernel
set_option maxRecDepth 20000 in
theorem ggX3_lose_X3_sheetAt : GoodIn wsX3_lose wsX3_sheetAt := goodIn_r _ [6, 7, 12, 13, 14, 15, 16, 17, 18] (by decide +kernel) (by decide +kernel)
set_option maxRecDepth 20000 in
theorem gX3_lose_X3_sheetAt : GoodIn wsX3_lose (wsV RX3 39 RX3 yX3_sheetAt wsX3_sheetAt) := goodIn_app (goodIn_of _ (by decide +kernel)) ggX3_lose_X3_sheetAt
theorem dX3_lose_0 : decode cX3_lose 0 = .ok (.aload_n 0, 1) := by decide +kernel
theorem dX3_lose_1 : decode cX3_lose 1 = .ok (.iload_n 1, 1) := by decide +kernel
theorem dX3_lose_2 : decode cX3_lose 2 = .ok (.invokevirtual 39, 3) := by decide +kernel
theorem dX3_lose_5 : decode cX3_lose 5 = .ok (.astore_n 2, 1) := by decide +kernel
theorem dX3_lose_6 : decode cX3_lose 6 = .ok (.aload_n 2, 1) := by decide +kernel
theorem dX3_lose_7 : decode cX3_lose 7 = .ok (.ifnonnull 5, 3) := by decide +kernel
theorem dX3_lose_10 : decode cX3_lose 10 = .ok (.iconst (-1), 1) := by decide +kernel
theorem dX3_lose_11 : decode cX3_lose 11 = .ok (.ireturn, 1) := by decide +kernel
theorem dX3_lose_12 : decode cX3_lose 12 = .ok (.aload_n 2, 1) := by decide +kernel
theorem dX3_lose_13 : decode cX3_lose 13 = .ok (.getfield 169, 3) := by decide +kernel
theorem dX3_lose_16 : decode cX3_lose 16 = .ok (.istore_n 3, 1) := by decide +kernel
theorem dX3_lose_17 : decode cX3_lose 17 = .ok (.aload_n 2, 1) := by decide +kernel
theorem dX3_lose_18 : decode cX3_lose 18 = .ok (.iconst 0, 1) := by decide +kernel
theorem dX3_lose_19 : decode cX3_lose 19 = .ok (.putfield 169, 3) := by decide +kernel
theorem dX3_lose_22 : decode cX3_lose 22 = .ok (.iload_n 3, 1) := by decide +kernel
theorem dX3_lose_23 : decode cX3_lose 23 = .ok (.ifCond .eq 7, 3) := by decide +kernel
theorem dX3_lose_26 : decode cX3_lose 26 = .ok (.iconst 1, 1) := by decide +kernel
theorem dX3_lose_27 : decode cX3_lose 27 = .ok (.goto 4, 3) := by decide +kernel
theorem dX3_lose_30 : decode cX3_lose 30 = .ok (.iconst 0, 1) := by decide +kernel
theorem dX3_lose_31 : decode cX3_lose 31 = .ok (.ireturn, 1) := by decide +kernel
set_option maxRecDepth 20000 in
theorem ggX3_put_X3_sheetAt : GoodIn wsX3_put wsX3_sheetAt := goodIn_r _ [8, 9, 25, 26, 27, 28, 29, 30, 31] (by decide +kernel) (by decide +kernel)
set_option maxRecDepth 20000 in
theorem gX3_put_X3_sheetAt : GoodIn wsX3_put (wsV RX3 39 RX3 yX3_sheetAt wsX3_sheetAt) := goodIn_app (goodIn_of _ (by decide +kernel)) ggX3_put_X3_sheetAt
set_option maxRecDepth 20000 in
theorem ggX3_put_X3_faulty : GoodIn wsX3_put wsX3_faulty := goodIn_r _ [13, 1, 25, 26, 27, 28, 29, 30, 31] (by decide +kernel) (by decide +kernel)
set_option maxRecDepth 20000 in
theorem gX3_put_X3_faulty : GoodIn wsX3_put (wsV RX3 51 RX3 yX3_faulty wsX3_faulty) := goodIn_app (goodIn_of _ (by decide +kernel)) ggX3_put_X3_faulty
set_option maxRecDepth 20000 in
theorem ggX3_put_X1_spans : GoodIn wsX3_put wsX1_spans := goodIn_r _ [18, 19, 32, 33, 34, 35] (by decide +kernel) (by decide +kernel)
set_option maxRecDepth 20000 in
theorem gX3_put_X1_spans : GoodIn wsX3_put (wsV RX3 173 RX1 yX1_spans wsX1_spans) := goodIn_app (goodIn_of _ (by decide +kernel)) ggX3_put_X1_spans
set_option maxRecDepth 20000 in
theorem ggX3_put_X1_cut : GoodIn wsX3_put wsX1_cut := goodIn_r _ [23, 24, 32, 33, 34, 35] (by decide +kernel) (by decide +kernel)
set_option maxRecDepth 20000 in
theorem gX3_put_X1_cut : GoodIn wsX3_put (wsV RX3 179 RX1 yX1_cut wsX1_cut) := goodIn_app (goodIn_of _ (by decide +kernel)) ggX3_put_X1_cut
theorem dX3_put_0 : decode cX3_put 0 = .ok (.aload_n 0, 1) := by decide +kernel
theorem dX3_put_1 : decode cX3_put 1 = .ok (.iconst 0, 1) := by decide +kernel
theorem dX3_put_2 : decode cX3_put 2 = .ok (.putfield 35, 3) := by decide +kernel
theorem dX3_put_5 : decode cX3_put 5 = .ok (.aload_n 0, 1) := by decide +kernel
theorem dX3_put_6 : decode cX3_put 6 = .ok (.iload_n 1, 1) := by decide +kernel
theorem dX3_put_7 : decode cX3_put 7 = .ok (.invokevirtual 39, 3) := by decide +kernel
theorem dX3_put_10 : decode cX3_put 10 = .ok (.astore 4, 2) := by decide +kernel
theorem dX3_put_12 : decode cX3_put 12 = .ok (.aload 4, 2) := by decide +kernel
theorem dX3_put_14 : decode cX3_put 14 = .ok (.ifnonnull 5, 3) := by decide +kernel
theorem dX3_put_17 : decode cX3_put 17 = .ok (.iconst (-1), 1) := by decide +kernel
theorem dX3_put_18 : decode cX3_put 18 = .ok (.ireturn, 1) := by decide +kernel
theorem dX3_put_19 : decode cX3_put 19 = .ok (.aload 4, 2) := by decide +kernel
theorem dX3_put_21 : decode cX3_put 21 = .ok (.getfield 169, 3) := by decide +kernel
theorem dX3_put_24 : decode cX3_put 24 = .ok (.ifCond .ne 9, 3) := by decide +kernel
theorem dX3_put_27 : decode cX3_put 27 = .ok (.aload_n 0, 1) := by decide +kernel
theorem dX3_put_28 : decode cX3_put 28 = .ok (.iconst 1, 1) := by decide +kernel
theorem dX3_put_29 : decode cX3_put 29 = .ok (.invokevirtual 51, 3) := by decide +kernel
theorem dX3_put_32 : decode cX3_put 32 = .ok (.ireturn, 1) := by decide +kernel
theorem dX3_put_33 : decode cX3_put 33 = .ok (.aload 4, 2) := by decide +kernel
theorem dX3_put_35 : decode cX3_put 35 = .ok (.iload_n 2, 1) := by decide +kernel
theorem dX3_put_36 : decode cX3_put 36 = .ok (.iconst 1, 1) := by decide +kernel
theorem dX3_put_37 : decode cX3_put 37 = .ok (.invokevirtual 173, 3) := by decide +kernel
theorem dX3_put_40 : decode cX3_put 40 = .ok (.ifCond .ne 9, 3) := by decide +kernel
theorem dX3_put_43 : decode cX3_put 43 = .ok (.aload_n 0, 1) := by decide +kernel
theorem dX3_put_44 : decode cX3_put 44 = .ok (.iconst 3, 1) := by decide +kernel
theorem dX3_put_45 : decode cX3_put 45 = .ok (.invokevirtual 51, 3) := by decide +kernel
theorem dX3_put_48 : decode cX3_put 48 = .ok (.ireturn, 1) := by decide +kernel
theorem dX3_put_49 : decode cX3_put 49 = .ok (.aload 4, 2) := by decide +kernel
theorem dX3_put_51 : decode cX3_put 51 = .ok (.getfield 176, 3) := by decide +kernel
theorem dX3_put_54 : decode cX3_put 54 = .ok (.iload_n 2, 1) := by decide +kernel
theorem dX3_put_55 : decode cX3_put 55 = .ok (.aload 4, 2) := by decide +kernel
theorem dX3_put_57 : decode cX3_put 57 = .ok (.iload_n 3, 1) := by decide +kernel
theorem dX3_put_58 : decode cX3_put 58 = .ok (.invokevirtual 179, 3) := by decide +kernel
theorem dX3_put_61 : decode cX3_put 61 = .ok (.iastore, 1) := by decide +kernel
theorem dX3_put_62 : decode cX3_put 62 = .ok (.iconst 1, 1) := by decide +kernel
theorem dX3_put_63 : decode cX3_put 63 = .ok (.ireturn, 1) := by decide +kernel
set_option maxRecDepth 20000 in
theorem ggX3_cell_X3_sheetAt : GoodIn wsX3_cell wsX3_sheetAt := goodIn_r _ [7, 8, 29, 30, 31, 32, 33, 34, 35] (by decide +kernel) (by decide +kernel)
set_option maxRecDepth 20000 in
theorem gX3_cell_X3_sheetAt : GoodIn wsX3_cell (wsV RX3 39 RX3 yX3_sheetAt wsX3_sheetAt) := goodIn_app (goodIn_of _ (by decide +kernel)) ggX3_cell_X3_sheetAt
set_option maxRecDepth 20000 in
theorem ggX3_cell_X3_isLane : GoodIn wsX3_cell wsX3_isLane := goodIn_r _ [11] (by decide +kernel) (by decide +kernel)
set_option maxRecDepth 20000 in
theorem gX3_cell_X3_isLane : GoodIn wsX3_cell (va_wsS RX3 43 yX3_isLane wsX3_isLane) := goodIn_app (goodIn_of _ (by decide +kernel)) ggX3_cell_X3_isLane
set_option maxRecDepth 20000 in
theorem ggX3_cell_X1_faultOf : GoodIn wsX3_cell wsX1_faultOf := goodIn_r _ [16, 17, 18, 19, 20, 21, 15, 22, 23, 36, 37, 38, 39] (by decide +kernel) (by decide +kernel)
set_option maxRecDepth 20000 in
theorem gX3_cell_X1_faultOf : GoodIn wsX3_cell (wsV RX3 47 RX1 yX1_faultOf wsX1_faultOf) := goodIn_app (goodIn_of _ (by decide +kernel)) ggX3_cell_X1_faultOf
set_option maxRecDepth 20000 in
theorem ggX3_cell_X1_at : GoodIn wsX3_cell wsX1_at := goodIn_r _ [27, 28, 36, 37, 38, 39] (by decide +kernel) (by decide +kernel)
set_option maxRecDepth 20000 in
theorem gX3_cell_X1_at : GoodIn wsX3_cell (wsV RX3 182 RX1 yX1_at wsX1_at) := goodIn_app (goodIn_of _ (by decide +kernel)) ggX3_cell_X1_at
theorem dX3_cell_0 : decode cX3_cell 0 = .ok (.aload_n 0, 1) := by decide +kernel
theorem dX3_cell_1 : decode cX3_cell 1 = .ok (.iconst 0, 1) := by decide +kernel
theorem dX3_cell_2 : decode cX3_cell 2 = .ok (.putfield 35, 3) := by decide +kernel
theorem dX3_cell_5 : decode cX3_cell 5 = .ok (.aload_n 0, 1) := by decide +kernel
theorem dX3_cell_6 : decode cX3_cell 6 = .ok (.iload_n 1, 1) := by decide +kernel
theorem dX3_cell_7 : decode cX3_cell 7 = .ok (.invokevirtual 39, 3) := by decide +kernel
theorem dX3_cell_10 : decode cX3_cell 10 = .ok (.astore 4, 2) := by decide +kernel
theorem dX3_cell_12 : decode cX3_cell 12 = .ok (.aload 4, 2) := by decide +kernel
theorem dX3_cell_14 : decode cX3_cell 14 = .ok (.ifnull 10, 3) := by decide +kernel
theorem dX3_cell_17 : decode cX3_cell 17 = .ok (.iload_n 3, 1) := by decide +kernel
theorem dX3_cell_18 : decode cX3_cell 18 = .ok (.invokestatic 43, 3) := by decide +kernel
theorem dX3_cell_21 : decode cX3_cell 21 = .ok (.ifCond .ne 7, 3) := by decide +kernel
theorem dX3_cell_24 : decode cX3_cell 24 = .ok (.ldc2_w 140, 3) := by decide +kernel
theorem dX3_cell_27 : decode cX3_cell 27 = .ok (.lreturn, 1) := by decide +kernel
theorem dX3_cell_28 : decode cX3_cell 28 = .ok (.aload_n 0, 1) := by decide +kernel
theorem dX3_cell_29 : decode cX3_cell 29 = .ok (.aload 4, 2) := by decide +kernel
theorem dX3_cell_31 : decode cX3_cell 31 = .ok (.iload_n 3, 1) := by decide +kernel
theorem dX3_cell_32 : decode cX3_cell 32 = .ok (.iload_n 2, 1) := by decide +kernel
theorem dX3_cell_33 : decode cX3_cell 33 = .ok (.iconst 1, 1) := by decide +kernel
theorem dX3_cell_34 : decode cX3_cell 34 = .ok (.invokevirtual 47, 3) := by decide +kernel
theorem dX3_cell_37 : decode cX3_cell 37 = .ok (.putfield 35, 3) := by decide +kernel
theorem dX3_cell_40 : decode cX3_cell 40 = .ok (.aload_n 0, 1) := by decide +kernel
theorem dX3_cell_41 : decode cX3_cell 41 = .ok (.getfield 35, 3) := by decide +kernel
theorem dX3_cell_44 : decode cX3_cell 44 = .ok (.ifCond .ne 13, 3) := by decide +kernel
theorem dX3_cell_47 : decode cX3_cell 47 = .ok (.aload 4, 2) := by decide +kernel
theorem dX3_cell_49 : decode cX3_cell 49 = .ok (.iload_n 2, 1) := by decide +kernel
theorem dX3_cell_50 : decode cX3_cell 50 = .ok (.invokevirtual 182, 3) := by decide +kernel
theorem dX3_cell_53 : decode cX3_cell 53 = .ok (.i2l, 1) := by decide +kernel
theorem dX3_cell_54 : decode cX3_cell 54 = .ok (.goto 6, 3) := by decide +kernel
theorem dX3_cell_57 : decode cX3_cell 57 = .ok (.ldc2_w 140, 3) := by decide +kernel
theorem dX3_cell_60 : decode cX3_cell 60 = .ok (.lreturn, 1) := by decide +kernel
set_option maxRecDepth 20000 in
theorem ggX3_copy_X3_sheetAt : GoodIn wsX3_copy wsX3_sheetAt := goodIn_r _ [13, 14, 25, 26, 27, 28, 29, 30, 31] (by decide +kernel) (by decide +kernel)
set_option maxRecDepth 20000 in
theorem gX3_copy_X3_sheetAt : GoodIn wsX3_copy (wsV RX3 39 RX3 yX3_sheetAt wsX3_sheetAt) := goodIn_app (goodIn_of _ (by decide +kernel)) ggX3_copy_X3_sheetAt
set_option maxRecDepth 20000 in
theorem ggX3_copy_X3_faulty : GoodIn wsX3_copy wsX3_faulty := goodIn_r _ [18, 1, 25, 26, 27, 28, 29, 30, 31] (by decide +kernel) (by decide +kernel)
set_option maxRecDepth 20000 in
theorem gX3_copy_X3_faulty : GoodIn wsX3_copy (wsV RX3 51 RX3 yX3_faulty wsX3_faulty) := goodIn_app (goodIn_of _ (by decide +kernel)) ggX3_copy_X3_faulty
set_option maxRecDepth 20000 in
theorem ggX3_copy_X1_spans : GoodIn wsX3_copy wsX1_spans := goodIn_r _ [23, 24, 32, 33, 34, 35] (by decide +kernel) (by decide +kernel)
set_option maxRecDepth 20000 in
theorem gX3_copy_X1_spans : GoodIn wsX3_copy (wsV RX3 173 RX1 yX1_spans wsX1_spans) := goodIn_app (goodIn_of _ (by decide +kernel)) ggX3_copy_X1_spans
theorem dX3_copy_0 : decode cX3_copy 0 = .ok (.aload_n 0, 1) := by decide +kernel
theorem dX3_copy_1 : decode cX3_copy 1 = .ok (.iconst 0, 1) := by decide +kernel
theorem dX3_copy_2 : decode cX3_copy 2 = .ok (.putfield 35, 3) := by decide +kernel
theorem dX3_copy_5 : decode cX3_copy 5 = .ok (.aload_n 0, 1) := by decide +kernel
theorem dX3_copy_6 : decode cX3_copy 6 = .ok (.iload_n 1, 1) := by decide +kernel
theorem dX3_copy_7 : decode cX3_copy 7 = .ok (.invokevirtual 39, 3) := by decide +kernel
theorem dX3_copy_10 : decode cX3_copy 10 = .ok (.astore 6, 2) := by decide +kernel
theorem dX3_copy_12 : decode cX3_copy 12 = .ok (.aload_n 0, 1) := by decide +kernel
theorem dX3_copy_13 : decode cX3_copy 13 = .ok (.iload_n 3, 1) := by decide +kernel
theorem dX3_copy_14 : decode cX3_copy 14 = .ok (.invokevirtual 39, 3) := by decide +kernel
theorem dX3_copy_17 : decode cX3_copy 17 = .ok (.astore 7, 2) := by decide +kernel
theorem dX3_copy_19 : decode cX3_copy 19 = .ok (.aload 6, 2) := by decide +kernel
theorem dX3_copy_21 : decode cX3_copy 21 = .ok (.ifnull 8, 3) := by decide +kernel
theorem dX3_copy_24 : decode cX3_copy 24 = .ok (.aload 7, 2) := by decide +kernel
theorem dX3_copy_26 : decode cX3_copy 26 = .ok (.ifnonnull 5, 3) := by decide +kernel
theorem dX3_copy_29 : decode cX3_copy 29 = .ok (.iconst (-1), 1) := by decide +kernel
theorem dX3_copy_30 : decode cX3_copy 30 = .ok (.ireturn, 1) := by decide +kernel
theorem dX3_copy_31 : decode cX3_copy 31 = .ok (.aload 6, 2) := by decide +kernel
theorem dX3_copy_33 : decode cX3_copy 33 = .ok (.getfield 169, 3) := by decide +kernel
theorem dX3_copy_36 : decode cX3_copy 36 = .ok (.ifCond .eq 11, 3) := by decide +kernel
theorem dX3_copy_39 : decode cX3_copy 39 = .ok (.aload 7, 2) := by decide +kernel
theorem dX3_copy_41 : decode cX3_copy 41 = .ok (.getfield 169, 3) := by decide +kernel
theorem dX3_copy_44 : decode cX3_copy 44 = .ok (.ifCond .ne 9, 3) := by decide +kernel
theorem dX3_copy_47 : decode cX3_copy 47 = .ok (.aload_n 0, 1) := by decide +kernel
theorem dX3_copy_48 : decode cX3_copy 48 = .ok (.iconst 1, 1) := by decide +kernel
theorem dX3_copy_49 : decode cX3_copy 49 = .ok (.invokevirtual 51, 3) := by decide +kernel
theorem dX3_copy_52 : decode cX3_copy 52 = .ok (.ireturn, 1) := by decide +kernel
theorem dX3_copy_53 : decode cX3_copy 53 = .ok (.aload 6, 2) := by decide +kernel
theorem dX3_copy_55 : decode cX3_copy 55 = .ok (.getfield 185, 3) := by decide +kernel
theorem dX3_copy_58 : decode cX3_copy 58 = .ok (.aload 7, 2) := by decide +kernel
theorem dX3_copy_60 : decode cX3_copy 60 = .ok (.getfield 185, 3) := by decide +kernel
theorem dX3_copy_63 : decode cX3_copy 63 = .ok (.if_icmp .eq 9, 3) := by decide +kernel
theorem dX3_copy_66 : decode cX3_copy 66 = .ok (.aload_n 0, 1) := by decide +kernel
theorem dX3_copy_67 : decode cX3_copy 67 = .ok (.iconst 2, 1) := by decide +kernel
theorem dX3_copy_68 : decode cX3_copy 68 = .ok (.invokevirtual 51, 3) := by decide +kernel
theorem dX3_copy_71 : decode cX3_copy 71 = .ok (.ireturn, 1) := by decide +kernel
theorem dX3_copy_72 : decode cX3_copy 72 = .ok (.aload 6, 2) := by decide +kernel
theorem dX3_copy_74 : decode cX3_copy 74 = .ok (.iload_n 2, 1) := by decide +kernel
theorem dX3_copy_75 : decode cX3_copy 75 = .ok (.iload 5, 2) := by decide +kernel
theorem dX3_copy_77 : decode cX3_copy 77 = .ok (.invokevirtual 173, 3) := by decide +kernel
theorem dX3_copy_80 : decode cX3_copy 80 = .ok (.ifCond .eq 15, 3) := by decide +kernel
theorem dX3_copy_83 : decode cX3_copy 83 = .ok (.aload 7, 2) := by decide +kernel
theorem dX3_copy_85 : decode cX3_copy 85 = .ok (.iload 4, 2) := by decide +kernel
theorem dX3_copy_87 : decode cX3_copy 87 = .ok (.iload 5, 2) := by decide +kernel
theorem dX3_copy_89 : decode cX3_copy 89 = .ok (.invokevirtual 173, 3) := by decide +kernel
theorem dX3_copy_92 : decode cX3_copy 92 = .ok (.ifCond .ne 9, 3) := by decide +kernel
theorem dX3_copy_95 : decode cX3_copy 95 = .ok (.aload_n 0, 1) := by decide +kernel
