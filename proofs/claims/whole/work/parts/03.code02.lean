theorem dX3_copy_96 : decode cX3_copy 96 = .ok (.iconst 3, 1) := by decide +kernel
theorem dX3_copy_97 : decode cX3_copy 97 = .ok (.invokevirtual 51, 3) := by decide +kernel
theorem dX3_copy_100 : decode cX3_copy 100 = .ok (.ireturn, 1) := by decide +kernel
theorem dX3_copy_101 : decode cX3_copy 101 = .ok (.aload 6, 2) := by decide +kernel
theorem dX3_copy_103 : decode cX3_copy 103 = .ok (.getfield 176, 3) := by decide +kernel
theorem dX3_copy_106 : decode cX3_copy 106 = .ok (.iload_n 2, 1) := by decide +kernel
theorem dX3_copy_107 : decode cX3_copy 107 = .ok (.aload 7, 2) := by decide +kernel
theorem dX3_copy_109 : decode cX3_copy 109 = .ok (.getfield 176, 3) := by decide +kernel
theorem dX3_copy_112 : decode cX3_copy 112 = .ok (.iload 4, 2) := by decide +kernel
theorem dX3_copy_114 : decode cX3_copy 114 = .ok (.iload 5, 2) := by decide +kernel
theorem dX3_copy_116 : decode cX3_copy 116 = .ok (.invokestatic 188, 3) := by decide +kernel
theorem dX3_copy_119 : decode cX3_copy 119 = .ok (.iload 5, 2) := by decide +kernel
theorem dX3_copy_121 : decode cX3_copy 121 = .ok (.ireturn, 1) := by decide +kernel
set_option maxRecDepth 20000 in
theorem ggX3_tell_X2_has : GoodIn wsX3_tell wsX2_has := goodIn_r _ [7, 8, 35, 36, 37, 38, 39, 40] (by decide +kernel) (by decide +kernel)
set_option maxRecDepth 20000 in
theorem gX3_tell_X2_has : GoodIn wsX3_tell (wsV RX3 70 RX2 yX2_has wsX2_has) := goodIn_app (goodIn_of _ (by decide +kernel)) ggX3_tell_X2_has
set_option maxRecDepth 20000 in
theorem ggX3_tell_X3_grownTells : GoodIn wsX3_tell wsX3_grownTells := goodIn_r _ [13, 1, 14, 15, 16, 17, 12, 18, 19, 28, 29, 30, 31, 32, 33, 34, 35, 36, 37, 38, 39, 40] (by decide +kernel) (by decide +kernel)
set_option maxRecDepth 20000 in
theorem gX3_tell_X3_grownTells : GoodIn wsX3_tell (wsV RX3 194 RX3 yX3_grownTells wsX3_grownTells) := goodIn_app (goodIn_of _ (by decide +kernel)) ggX3_tell_X3_grownTells
set_option maxRecDepth 20000 in
theorem ggX3_tell_X3_shyTells : GoodIn wsX3_tell wsX3_shyTells := goodIn_r _ [23, 15, 16, 17, 12, 18, 19, 9, 10, 11, 13, 1, 14, 28, 29, 30, 31, 32, 33, 34, 35, 36, 37, 38, 39, 40] (by decide +kernel) (by decide +kernel)
set_option maxRecDepth 20000 in
theorem gX3_tell_X3_shyTells : GoodIn wsX3_tell (wsV RX3 197 RX3 yX3_shyTells wsX3_shyTells) := goodIn_app (goodIn_of _ (by decide +kernel)) ggX3_tell_X3_shyTells
set_option maxRecDepth 20000 in
theorem ggX3_tell_X3_childTells : GoodIn wsX3_tell wsX3_childTells := goodIn_r _ [27, 15, 16, 17, 12, 18, 19, 20, 21, 22, 23, 9, 10, 11, 13, 1, 14, 28, 29, 30, 31, 32, 33, 34, 35, 36, 37, 38, 39, 40] (by decide +kernel) (by decide +kernel)
set_option maxRecDepth 20000 in
theorem gX3_tell_X3_childTells : GoodIn wsX3_tell (wsV RX3 200 RX3 yX3_childTells wsX3_childTells) := goodIn_app (goodIn_of _ (by decide +kernel)) ggX3_tell_X3_childTells
theorem dX3_tell_0 : decode cX3_tell 0 = .ok (.aload_n 0, 1) := by decide +kernel
theorem dX3_tell_1 : decode cX3_tell 1 = .ok (.getfield 20, 3) := by decide +kernel
theorem dX3_tell_4 : decode cX3_tell 4 = .ok (.iload_n 1, 1) := by decide +kernel
theorem dX3_tell_5 : decode cX3_tell 5 = .ok (.invokevirtual 70, 3) := by decide +kernel
theorem dX3_tell_8 : decode cX3_tell 8 = .ok (.ifCond .ne 5, 3) := by decide +kernel
theorem dX3_tell_11 : decode cX3_tell 11 = .ok (.iconst (-1), 1) := by decide +kernel
theorem dX3_tell_12 : decode cX3_tell 12 = .ok (.ireturn, 1) := by decide +kernel
theorem dX3_tell_13 : decode cX3_tell 13 = .ok (.aload_n 0, 1) := by decide +kernel
theorem dX3_tell_14 : decode cX3_tell 14 = .ok (.getfield 20, 3) := by decide +kernel
theorem dX3_tell_17 : decode cX3_tell 17 = .ok (.getfield 73, 3) := by decide +kernel
theorem dX3_tell_20 : decode cX3_tell 20 = .ok (.iload_n 1, 1) := by decide +kernel
theorem dX3_tell_21 : decode cX3_tell 21 = .ok (.iaload, 1) := by decide +kernel
theorem dX3_tell_22 : decode cX3_tell 22 = .ok (.lookupswitch 38 #[(0, 26), (1, 32)], 26) := by decide +kernel
theorem dX3_tell_48 : decode cX3_tell 48 = .ok (.aload_n 0, 1) := by decide +kernel
theorem dX3_tell_49 : decode cX3_tell 49 = .ok (.iload_n 1, 1) := by decide +kernel
theorem dX3_tell_50 : decode cX3_tell 50 = .ok (.invokevirtual 194, 3) := by decide +kernel
theorem dX3_tell_53 : decode cX3_tell 53 = .ok (.ireturn, 1) := by decide +kernel
theorem dX3_tell_54 : decode cX3_tell 54 = .ok (.aload_n 0, 1) := by decide +kernel
theorem dX3_tell_55 : decode cX3_tell 55 = .ok (.iload_n 1, 1) := by decide +kernel
theorem dX3_tell_56 : decode cX3_tell 56 = .ok (.invokevirtual 197, 3) := by decide +kernel
theorem dX3_tell_59 : decode cX3_tell 59 = .ok (.ireturn, 1) := by decide +kernel
theorem dX3_tell_60 : decode cX3_tell 60 = .ok (.aload_n 0, 1) := by decide +kernel
theorem dX3_tell_61 : decode cX3_tell 61 = .ok (.iload_n 1, 1) := by decide +kernel
theorem dX3_tell_62 : decode cX3_tell 62 = .ok (.invokevirtual 200, 3) := by decide +kernel
theorem dX3_tell_65 : decode cX3_tell 65 = .ok (.ireturn, 1) := by decide +kernel
set_option maxRecDepth 20000 in
theorem ggX3_call_X2_has : GoodIn wsX3_call wsX2_has := goodIn_r _ [7, 8, 30, 31, 32, 33, 34, 35] (by decide +kernel) (by decide +kernel)
set_option maxRecDepth 20000 in
theorem gX3_call_X2_has : GoodIn wsX3_call (wsV RX3 70 RX2 yX2_has wsX2_has) := goodIn_app (goodIn_of _ (by decide +kernel)) ggX3_call_X2_has
set_option maxRecDepth 20000 in
theorem ggX3_call_X3_childIsCalled : GoodIn wsX3_call wsX3_childIsCalled := goodIn_r _ [13, 14, 15, 16, 12, 17, 18, 23, 24, 25, 26, 27, 28, 29] (by decide +kernel) (by decide +kernel)
set_option maxRecDepth 20000 in
theorem gX3_call_X3_childIsCalled : GoodIn wsX3_call (wsV RX3 203 RX3 yX3_childIsCalled wsX3_childIsCalled) := goodIn_app (goodIn_of _ (by decide +kernel)) ggX3_call_X3_childIsCalled
set_option maxRecDepth 20000 in
theorem ggX3_call_X3_lentIsCalled : GoodIn wsX3_call wsX3_lentIsCalled := goodIn_r _ [22, 14, 15, 16, 12, 17, 18, 23, 24, 25, 26, 27, 28, 29] (by decide +kernel) (by decide +kernel)
set_option maxRecDepth 20000 in
theorem gX3_call_X3_lentIsCalled : GoodIn wsX3_call (wsV RX3 206 RX3 yX3_lentIsCalled wsX3_lentIsCalled) := goodIn_app (goodIn_of _ (by decide +kernel)) ggX3_call_X3_lentIsCalled
theorem dX3_call_0 : decode cX3_call 0 = .ok (.aload_n 0, 1) := by decide +kernel
theorem dX3_call_1 : decode cX3_call 1 = .ok (.getfield 20, 3) := by decide +kernel
theorem dX3_call_4 : decode cX3_call 4 = .ok (.iload_n 1, 1) := by decide +kernel
theorem dX3_call_5 : decode cX3_call 5 = .ok (.invokevirtual 70, 3) := by decide +kernel
theorem dX3_call_8 : decode cX3_call 8 = .ok (.ifCond .ne 5, 3) := by decide +kernel
theorem dX3_call_11 : decode cX3_call 11 = .ok (.iconst (-1), 1) := by decide +kernel
theorem dX3_call_12 : decode cX3_call 12 = .ok (.ireturn, 1) := by decide +kernel
theorem dX3_call_13 : decode cX3_call 13 = .ok (.aload_n 0, 1) := by decide +kernel
theorem dX3_call_14 : decode cX3_call 14 = .ok (.getfield 20, 3) := by decide +kernel
theorem dX3_call_17 : decode cX3_call 17 = .ok (.getfield 73, 3) := by decide +kernel
theorem dX3_call_20 : decode cX3_call 20 = .ok (.iload_n 1, 1) := by decide +kernel
theorem dX3_call_21 : decode cX3_call 21 = .ok (.iaload, 1) := by decide +kernel
theorem dX3_call_22 : decode cX3_call 22 = .ok (.iconst 2, 1) := by decide +kernel
theorem dX3_call_23 : decode cX3_call 23 = .ok (.if_icmp .ne 10, 3) := by decide +kernel
theorem dX3_call_26 : decode cX3_call 26 = .ok (.aload_n 0, 1) := by decide +kernel
theorem dX3_call_27 : decode cX3_call 27 = .ok (.invokevirtual 203, 3) := by decide +kernel
theorem dX3_call_30 : decode cX3_call 30 = .ok (.goto 8, 3) := by decide +kernel
theorem dX3_call_33 : decode cX3_call 33 = .ok (.aload_n 0, 1) := by decide +kernel
theorem dX3_call_34 : decode cX3_call 34 = .ok (.iload_n 1, 1) := by decide +kernel
theorem dX3_call_35 : decode cX3_call 35 = .ok (.invokevirtual 206, 3) := by decide +kernel
theorem dX3_call_38 : decode cX3_call 38 = .ok (.ireturn, 1) := by decide +kernel
set_option maxRecDepth 20000 in
theorem ggX3_as_X2_has : GoodIn wsX3_as wsX2_has := goodIn_r _ [8, 9, 22, 23, 24, 25, 26, 27] (by decide +kernel) (by decide +kernel)
set_option maxRecDepth 20000 in
theorem gX3_as_X2_has : GoodIn wsX3_as (wsV RX3 70 RX2 yX2_has wsX2_has) := goodIn_app (goodIn_of _ (by decide +kernel)) ggX3_as_X2_has
set_option maxRecDepth 20000 in
theorem ggX3_as_X3_faulty : GoodIn wsX3_as wsX3_faulty := goodIn_r _ [14, 1, 15, 16, 17, 18, 19, 20, 21] (by decide +kernel) (by decide +kernel)
set_option maxRecDepth 20000 in
theorem gX3_as_X3_faulty : GoodIn wsX3_as (wsV RX3 51 RX3 yX3_faulty wsX3_faulty) := goodIn_app (goodIn_of _ (by decide +kernel)) ggX3_as_X3_faulty
theorem dX3_as_0 : decode cX3_as 0 = .ok (.aload_n 0, 1) := by decide +kernel
theorem dX3_as_1 : decode cX3_as 1 = .ok (.iconst 0, 1) := by decide +kernel
theorem dX3_as_2 : decode cX3_as 2 = .ok (.putfield 35, 3) := by decide +kernel
theorem dX3_as_5 : decode cX3_as 5 = .ok (.aload_n 0, 1) := by decide +kernel
theorem dX3_as_6 : decode cX3_as 6 = .ok (.getfield 20, 3) := by decide +kernel
theorem dX3_as_9 : decode cX3_as 9 = .ok (.iload_n 1, 1) := by decide +kernel
theorem dX3_as_10 : decode cX3_as 10 = .ok (.invokevirtual 70, 3) := by decide +kernel
theorem dX3_as_13 : decode cX3_as 13 = .ok (.ifCond .ne 5, 3) := by decide +kernel
theorem dX3_as_16 : decode cX3_as 16 = .ok (.iconst (-1), 1) := by decide +kernel
theorem dX3_as_17 : decode cX3_as 17 = .ok (.ireturn, 1) := by decide +kernel
theorem dX3_as_18 : decode cX3_as 18 = .ok (.iload_n 2, 1) := by decide +kernel
theorem dX3_as_19 : decode cX3_as 19 = .ok (.ifCond .lt 8, 3) := by decide +kernel
theorem dX3_as_22 : decode cX3_as 22 = .ok (.iload_n 2, 1) := by decide +kernel
theorem dX3_as_23 : decode cX3_as 23 = .ok (.iconst 2, 1) := by decide +kernel
theorem dX3_as_24 : decode cX3_as 24 = .ok (.if_icmp .le 6, 3) := by decide +kernel
theorem dX3_as_27 : decode cX3_as 27 = .ok (.bipush (-2), 2) := by decide +kernel
theorem dX3_as_29 : decode cX3_as 29 = .ok (.ireturn, 1) := by decide +kernel
theorem dX3_as_30 : decode cX3_as 30 = .ok (.aload_n 0, 1) := by decide +kernel
theorem dX3_as_31 : decode cX3_as 31 = .ok (.getfield 20, 3) := by decide +kernel
theorem dX3_as_34 : decode cX3_as 34 = .ok (.getfield 73, 3) := by decide +kernel
theorem dX3_as_37 : decode cX3_as 37 = .ok (.iload_n 1, 1) := by decide +kernel
theorem dX3_as_38 : decode cX3_as 38 = .ok (.iaload, 1) := by decide +kernel
theorem dX3_as_39 : decode cX3_as 39 = .ok (.iload_n 2, 1) := by decide +kernel
theorem dX3_as_40 : decode cX3_as 40 = .ok (.if_icmp .ge 11, 3) := by decide +kernel
theorem dX3_as_43 : decode cX3_as 43 = .ok (.aload_n 0, 1) := by decide +kernel
theorem dX3_as_44 : decode cX3_as 44 = .ok (.iconst 2, 1) := by decide +kernel
theorem dX3_as_45 : decode cX3_as 45 = .ok (.invokevirtual 51, 3) := by decide +kernel
theorem dX3_as_48 : decode cX3_as 48 = .ok (.goto 4, 3) := by decide +kernel
theorem dX3_as_51 : decode cX3_as 51 = .ok (.iconst 1, 1) := by decide +kernel
theorem dX3_as_52 : decode cX3_as 52 = .ok (.ireturn, 1) := by decide +kernel
theorem dX3_trace_0 : decode cX3_trace 0 = .ok (.aload_n 0, 1) := by decide +kernel
theorem dX3_trace_1 : decode cX3_trace 1 = .ok (.getfield 209, 3) := by decide +kernel
theorem dX3_trace_4 : decode cX3_trace 4 = .ok (.ireturn, 1) := by decide +kernel
theorem dX3_fault_0 : decode cX3_fault 0 = .ok (.aload_n 0, 1) := by decide +kernel
theorem dX3_fault_1 : decode cX3_fault 1 = .ok (.getfield 35, 3) := by decide +kernel
theorem dX3_fault_4 : decode cX3_fault 4 = .ok (.ireturn, 1) := by decide +kernel
set_option maxRecDepth 20000 in
theorem ggX3_many_X2_heads : GoodIn wsX3_many wsX2_heads := goodIn_r _ [11, 12, 13, 14, 15, 16, 17, 18, 19, 27, 28, 29, 30, 31, 32] (by decide +kernel) (by decide +kernel)
set_option maxRecDepth 20000 in
theorem gX3_many_X2_heads : GoodIn wsX3_many (wsV RX3 152 RX2 yX2_heads wsX2_heads) := goodIn_app (goodIn_of _ (by decide +kernel)) ggX3_many_X2_heads
theorem dX3_many_0 : decode cX3_many 0 = .ok (.iload_n 1, 1) := by decide +kernel
theorem dX3_many_1 : decode cX3_many 1 = .ok (.tableswitch 72 0 4 #[35, 43, 51, 59, 64], 35) := by decide +kernel
theorem dX3_many_36 : decode cX3_many 36 = .ok (.aload_n 0, 1) := by decide +kernel
theorem dX3_many_37 : decode cX3_many 37 = .ok (.getfield 20, 3) := by decide +kernel
theorem dX3_many_40 : decode cX3_many 40 = .ok (.getfield 69, 3) := by decide +kernel
theorem dX3_many_43 : decode cX3_many 43 = .ok (.ireturn, 1) := by decide +kernel
theorem dX3_many_44 : decode cX3_many 44 = .ok (.aload_n 0, 1) := by decide +kernel
theorem dX3_many_45 : decode cX3_many 45 = .ok (.getfield 20, 3) := by decide +kernel
theorem dX3_many_48 : decode cX3_many 48 = .ok (.getfield 103, 3) := by decide +kernel
theorem dX3_many_51 : decode cX3_many 51 = .ok (.ireturn, 1) := by decide +kernel
theorem dX3_many_52 : decode cX3_many 52 = .ok (.aload_n 0, 1) := by decide +kernel
theorem dX3_many_53 : decode cX3_many 53 = .ok (.getfield 20, 3) := by decide +kernel
theorem dX3_many_56 : decode cX3_many 56 = .ok (.invokevirtual 152, 3) := by decide +kernel
theorem dX3_many_59 : decode cX3_many 59 = .ok (.ireturn, 1) := by decide +kernel
theorem dX3_many_60 : decode cX3_many 60 = .ok (.aload_n 0, 1) := by decide +kernel
theorem dX3_many_61 : decode cX3_many 61 = .ok (.getfield 66, 3) := by decide +kernel
theorem dX3_many_64 : decode cX3_many 64 = .ok (.ireturn, 1) := by decide +kernel
theorem dX3_many_65 : decode cX3_many 65 = .ok (.aload_n 0, 1) := by decide +kernel
theorem dX3_many_66 : decode cX3_many 66 = .ok (.getfield 30, 3) := by decide +kernel
theorem dX3_many_69 : decode cX3_many 69 = .ok (.getfield 63, 3) := by decide +kernel
theorem dX3_many_72 : decode cX3_many 72 = .ok (.ireturn, 1) := by decide +kernel
theorem dX3_many_73 : decode cX3_many 73 = .ok (.bipush (-2), 2) := by decide +kernel
theorem dX3_many_75 : decode cX3_many 75 = .ok (.ireturn, 1) := by decide +kernel
theorem dX3_sheetAt_0 : decode cX3_sheetAt 0 = .ok (.iload_n 1, 1) := by decide +kernel
theorem dX3_sheetAt_1 : decode cX3_sheetAt 1 = .ok (.ifCond .lt 21, 3) := by decide +kernel
theorem dX3_sheetAt_4 : decode cX3_sheetAt 4 = .ok (.iload_n 1, 1) := by decide +kernel
theorem dX3_sheetAt_5 : decode cX3_sheetAt 5 = .ok (.aload_n 0, 1) := by decide +kernel
theorem dX3_sheetAt_6 : decode cX3_sheetAt 6 = .ok (.getfield 13, 3) := by decide +kernel
theorem dX3_sheetAt_9 : decode cX3_sheetAt 9 = .ok (.arraylength, 1) := by decide +kernel
theorem dX3_sheetAt_10 : decode cX3_sheetAt 10 = .ok (.if_icmp .ge 12, 3) := by decide +kernel
theorem dX3_sheetAt_13 : decode cX3_sheetAt 13 = .ok (.aload_n 0, 1) := by decide +kernel
theorem dX3_sheetAt_14 : decode cX3_sheetAt 14 = .ok (.getfield 13, 3) := by decide +kernel
theorem dX3_sheetAt_17 : decode cX3_sheetAt 17 = .ok (.iload_n 1, 1) := by decide +kernel
theorem dX3_sheetAt_18 : decode cX3_sheetAt 18 = .ok (.aaload, 1) := by decide +kernel
theorem dX3_sheetAt_19 : decode cX3_sheetAt 19 = .ok (.goto 4, 3) := by decide +kernel
theorem dX3_sheetAt_22 : decode cX3_sheetAt 22 = .ok (.aconst_null, 1) := by decide +kernel
theorem dX3_sheetAt_23 : decode cX3_sheetAt 23 = .ok (.areturn, 1) := by decide +kernel
theorem dX3_faulty_0 : decode cX3_faulty 0 = .ok (.aload_n 0, 1) := by decide +kernel
theorem dX3_faulty_1 : decode cX3_faulty 1 = .ok (.iload_n 1, 1) := by decide +kernel
theorem dX3_faulty_2 : decode cX3_faulty 2 = .ok (.putfield 35, 3) := by decide +kernel
theorem dX3_faulty_5 : decode cX3_faulty 5 = .ok (.bipush (-10), 2) := by decide +kernel
theorem dX3_faulty_7 : decode cX3_faulty 7 = .ok (.iload_n 1, 1) := by decide +kernel
theorem dX3_faulty_8 : decode cX3_faulty 8 = .ok (.isub, 1) := by decide +kernel
theorem dX3_faulty_9 : decode cX3_faulty 9 = .ok (.ireturn, 1) := by decide +kernel
theorem dX3_isLane_0 : decode cX3_isLane 0 = .ok (.iload_n 0, 1) := by decide +kernel
theorem dX3_isLane_1 : decode cX3_isLane 1 = .ok (.ifCond .lt 12, 3) := by decide +kernel
theorem dX3_isLane_4 : decode cX3_isLane 4 = .ok (.iload_n 0, 1) := by decide +kernel
theorem dX3_isLane_5 : decode cX3_isLane 5 = .ok (.iconst 2, 1) := by decide +kernel
theorem dX3_isLane_6 : decode cX3_isLane 6 = .ok (.if_icmp .gt 7, 3) := by decide +kernel
theorem dX3_isLane_9 : decode cX3_isLane 9 = .ok (.iconst 1, 1) := by decide +kernel
theorem dX3_isLane_10 : decode cX3_isLane 10 = .ok (.goto 4, 3) := by decide +kernel
theorem dX3_isLane_13 : decode cX3_isLane 13 = .ok (.iconst 0, 1) := by decide +kernel
theorem dX3_isLane_14 : decode cX3_isLane 14 = .ok (.ireturn, 1) := by decide +kernel
theorem dX3_isHalfOfShare_0 : decode cX3_isHalfOfShare 0 = .ok (.iload_n 0, 1) := by decide +kernel
theorem dX3_isHalfOfShare_1 : decode cX3_isHalfOfShare 1 = .ok (.ifCond .eq 8, 3) := by decide +kernel
theorem dX3_isHalfOfShare_4 : decode cX3_isHalfOfShare 4 = .ok (.iload_n 0, 1) := by decide +kernel
theorem dX3_isHalfOfShare_5 : decode cX3_isHalfOfShare 5 = .ok (.iconst 1, 1) := by decide +kernel
theorem dX3_isHalfOfShare_6 : decode cX3_isHalfOfShare 6 = .ok (.if_icmp .ne 7, 3) := by decide +kernel
theorem dX3_isHalfOfShare_9 : decode cX3_isHalfOfShare 9 = .ok (.iconst 1, 1) := by decide +kernel
theorem dX3_isHalfOfShare_10 : decode cX3_isHalfOfShare 10 = .ok (.goto 4, 3) := by decide +kernel
theorem dX3_isHalfOfShare_13 : decode cX3_isHalfOfShare 13 = .ok (.iconst 0, 1) := by decide +kernel
theorem dX3_isHalfOfShare_14 : decode cX3_isHalfOfShare 14 = .ok (.ireturn, 1) := by decide +kernel
theorem dX3_isMember_0 : decode cX3_isMember 0 = .ok (.iload_n 0, 1) := by decide +kernel
theorem dX3_isMember_1 : decode cX3_isMember 1 = .ok (.iload_n 1, 1) := by decide +kernel
theorem dX3_isMember_2 : decode cX3_isMember 2 = .ok (.ishr, 1) := by decide +kernel
theorem dX3_isMember_3 : decode cX3_isMember 3 = .ok (.iconst 1, 1) := by decide +kernel
theorem dX3_isMember_4 : decode cX3_isMember 4 = .ok (.iand, 1) := by decide +kernel
theorem dX3_isMember_5 : decode cX3_isMember 5 = .ok (.iconst 1, 1) := by decide +kernel
theorem dX3_isMember_6 : decode cX3_isMember 6 = .ok (.if_icmp .ne 7, 3) := by decide +kernel
theorem dX3_isMember_9 : decode cX3_isMember 9 = .ok (.iconst 1, 1) := by decide +kernel
theorem dX3_isMember_10 : decode cX3_isMember 10 = .ok (.goto 4, 3) := by decide +kernel
theorem dX3_isMember_13 : decode cX3_isMember 13 = .ok (.iconst 0, 1) := by decide +kernel
theorem dX3_isMember_14 : decode cX3_isMember 14 = .ok (.ireturn, 1) := by decide +kernel
theorem dX3_says_0 : decode cX3_says 0 = .ok (.iload_n 2, 1) := by decide +kernel
theorem dX3_says_1 : decode cX3_says 1 = .ok (.ifCond .le 9, 3) := by decide +kernel
theorem dX3_says_4 : decode cX3_says 4 = .ok (.iload_n 1, 1) := by decide +kernel
theorem dX3_says_5 : decode cX3_says 5 = .ok (.iload_n 2, 1) := by decide +kernel
theorem dX3_says_6 : decode cX3_says 6 = .ok (.idiv, 1) := by decide +kernel
theorem dX3_says_7 : decode cX3_says 7 = .ok (.goto 4, 3) := by decide +kernel
theorem dX3_says_10 : decode cX3_says 10 = .ok (.iconst 0, 1) := by decide +kernel
theorem dX3_says_11 : decode cX3_says 11 = .ok (.istore_n 3, 1) := by decide +kernel
theorem dX3_says_12 : decode cX3_says 12 = .ok (.iload_n 0, 1) := by decide +kernel
theorem dX3_says_13 : decode cX3_says 13 = .ok (.lookupswitch 39 #[(1, 27), (2, 35)], 27) := by decide +kernel
theorem dX3_says_40 : decode cX3_says 40 = .ok (.iload_n 3, 1) := by decide +kernel
theorem dX3_says_41 : decode cX3_says 41 = .ok (.iconst 1, 1) := by decide +kernel
theorem dX3_says_42 : decode cX3_says 42 = .ok (.isub, 1) := by decide +kernel
theorem dX3_says_43 : decode cX3_says 43 = .ok (.iconst 0, 1) := by decide +kernel
theorem dX3_says_44 : decode cX3_says 44 = .ok (.invokestatic 212, 3) := by decide +kernel
theorem dX3_says_47 : decode cX3_says 47 = .ok (.ireturn, 1) := by decide +kernel
theorem dX3_says_48 : decode cX3_says 48 = .ok (.iconst 2, 1) := by decide +kernel
theorem dX3_says_49 : decode cX3_says 49 = .ok (.iload_n 3, 1) := by decide +kernel
theorem dX3_says_50 : decode cX3_says 50 = .ok (.imul, 1) := by decide +kernel
theorem dX3_says_51 : decode cX3_says 51 = .ok (.ireturn, 1) := by decide +kernel
theorem dX3_says_52 : decode cX3_says 52 = .ok (.iload_n 3, 1) := by decide +kernel
theorem dX3_says_53 : decode cX3_says 53 = .ok (.ireturn, 1) := by decide +kernel
theorem dX3_shareOf_0 : decode cX3_shareOf 0 = .ok (.iload_n 1, 1) := by decide +kernel
theorem dX3_shareOf_1 : decode cX3_shareOf 1 = .ok (.istore_n 3, 1) := by decide +kernel
theorem dX3_shareOf_2 : decode cX3_shareOf 2 = .ok (.iload_n 0, 1) := by decide +kernel
theorem dX3_shareOf_3 : decode cX3_shareOf 3 = .ok (.istore 4, 2) := by decide +kernel
theorem dX3_shareOf_5 : decode cX3_shareOf 5 = .ok (.iconst 0, 1) := by decide +kernel
theorem dX3_shareOf_6 : decode cX3_shareOf 6 = .ok (.istore 5, 2) := by decide +kernel
theorem dX3_shareOf_8 : decode cX3_shareOf 8 = .ok (.iload 5, 2) := by decide +kernel
theorem dX3_shareOf_10 : decode cX3_shareOf 10 = .ok (.bipush 64, 2) := by decide +kernel
theorem dX3_shareOf_12 : decode cX3_shareOf 12 = .ok (.if_icmp .ge 27, 3) := by decide +kernel
theorem dX3_shareOf_15 : decode cX3_shareOf 15 = .ok (.iload 4, 2) := by decide +kernel
theorem dX3_shareOf_17 : decode cX3_shareOf 17 = .ok (.ifCond .eq 22, 3) := by decide +kernel
theorem dX3_shareOf_20 : decode cX3_shareOf 20 = .ok (.iload_n 3, 1) := by decide +kernel
theorem dX3_shareOf_21 : decode cX3_shareOf 21 = .ok (.iload 4, 2) := by decide +kernel
theorem dX3_shareOf_23 : decode cX3_shareOf 23 = .ok (.irem, 1) := by decide +kernel
theorem dX3_shareOf_24 : decode cX3_shareOf 24 = .ok (.istore 6, 2) := by decide +kernel
theorem dX3_shareOf_26 : decode cX3_shareOf 26 = .ok (.iload 4, 2) := by decide +kernel
theorem dX3_shareOf_28 : decode cX3_shareOf 28 = .ok (.istore_n 3, 1) := by decide +kernel
theorem dX3_shareOf_29 : decode cX3_shareOf 29 = .ok (.iload 6, 2) := by decide +kernel
theorem dX3_shareOf_31 : decode cX3_shareOf 31 = .ok (.istore 4, 2) := by decide +kernel
theorem dX3_shareOf_33 : decode cX3_shareOf 33 = .ok (.iinc 5 1, 3) := by decide +kernel
theorem dX3_shareOf_36 : decode cX3_shareOf 36 = .ok (.goto (-28), 3) := by decide +kernel
theorem dX3_shareOf_39 : decode cX3_shareOf 39 = .ok (.iload_n 3, 1) := by decide +kernel
theorem dX3_shareOf_40 : decode cX3_shareOf 40 = .ok (.iconst 1, 1) := by decide +kernel
theorem dX3_shareOf_41 : decode cX3_shareOf 41 = .ok (.if_icmp .ge 7, 3) := by decide +kernel
theorem dX3_shareOf_44 : decode cX3_shareOf 44 = .ok (.ldc2_w 140, 3) := by decide +kernel
theorem dX3_shareOf_47 : decode cX3_shareOf 47 = .ok (.lreturn, 1) := by decide +kernel
theorem dX3_shareOf_48 : decode cX3_shareOf 48 = .ok (.iload_n 2, 1) := by decide +kernel
theorem dX3_shareOf_49 : decode cX3_shareOf 49 = .ok (.ifCond .ne 7, 3) := by decide +kernel
theorem dX3_shareOf_52 : decode cX3_shareOf 52 = .ok (.iload_n 0, 1) := by decide +kernel
theorem dX3_shareOf_53 : decode cX3_shareOf 53 = .ok (.goto 4, 3) := by decide +kernel
theorem dX3_shareOf_56 : decode cX3_shareOf 56 = .ok (.iload_n 1, 1) := by decide +kernel
theorem dX3_shareOf_57 : decode cX3_shareOf 57 = .ok (.iload_n 3, 1) := by decide +kernel
theorem dX3_shareOf_58 : decode cX3_shareOf 58 = .ok (.idiv, 1) := by decide +kernel
theorem dX3_shareOf_59 : decode cX3_shareOf 59 = .ok (.i2l, 1) := by decide +kernel
theorem dX3_shareOf_60 : decode cX3_shareOf 60 = .ok (.lreturn, 1) := by decide +kernel
set_option maxRecDepth 20000 in
theorem ggX3_firstFaultOf_X1_at : GoodIn wsX3_firstFaultOf wsX1_at := goodIn_r _ [5, 6, 17, 18, 19, 20] (by decide +kernel) (by decide +kernel)
set_option maxRecDepth 20000 in
theorem gX3_firstFaultOf_X1_at : GoodIn wsX3_firstFaultOf (wsV RX3 182 RX1 yX1_at wsX1_at) := goodIn_app (goodIn_of _ (by decide +kernel)) ggX3_firstFaultOf_X1_at
set_option maxRecDepth 20000 in
theorem ggX3_firstFaultOf_X3_goesOn : GoodIn wsX3_firstFaultOf wsX3_goesOn := goodIn_r _ [10, 11, 12, 9, 13, 14, 15, 16] (by decide +kernel) (by decide +kernel)
set_option maxRecDepth 20000 in
theorem gX3_firstFaultOf_X3_goesOn : GoodIn wsX3_firstFaultOf (va_wsS RX3 217 yX3_goesOn wsX3_goesOn) := goodIn_app (goodIn_of _ (by decide +kernel)) ggX3_firstFaultOf_X3_goesOn
theorem dX3_firstFaultOf_0 : decode cX3_firstFaultOf 0 = .ok (.iconst 0, 1) := by decide +kernel
theorem dX3_firstFaultOf_1 : decode cX3_firstFaultOf 1 = .ok (.istore_n 3, 1) := by decide +kernel
theorem dX3_firstFaultOf_2 : decode cX3_firstFaultOf 2 = .ok (.iload_n 3, 1) := by decide +kernel
theorem dX3_firstFaultOf_3 : decode cX3_firstFaultOf 3 = .ok (.iload_n 2, 1) := by decide +kernel
theorem dX3_firstFaultOf_4 : decode cX3_firstFaultOf 4 = .ok (.if_icmp .ge 25, 3) := by decide +kernel
theorem dX3_firstFaultOf_7 : decode cX3_firstFaultOf 7 = .ok (.iload_n 3, 1) := by decide +kernel
theorem dX3_firstFaultOf_8 : decode cX3_firstFaultOf 8 = .ok (.aload_n 0, 1) := by decide +kernel
theorem dX3_firstFaultOf_9 : decode cX3_firstFaultOf 9 = .ok (.iload_n 1, 1) := by decide +kernel
theorem dX3_firstFaultOf_10 : decode cX3_firstFaultOf 10 = .ok (.iload_n 3, 1) := by decide +kernel
theorem dX3_firstFaultOf_11 : decode cX3_firstFaultOf 11 = .ok (.iadd, 1) := by decide +kernel
theorem dX3_firstFaultOf_12 : decode cX3_firstFaultOf 12 = .ok (.invokevirtual 182, 3) := by decide +kernel
theorem dX3_firstFaultOf_15 : decode cX3_firstFaultOf 15 = .ok (.invokestatic 217, 3) := by decide +kernel
theorem dX3_firstFaultOf_18 : decode cX3_firstFaultOf 18 = .ok (.ifCond .ne 5, 3) := by decide +kernel
theorem dX3_firstFaultOf_21 : decode cX3_firstFaultOf 21 = .ok (.iload_n 3, 1) := by decide +kernel
theorem dX3_firstFaultOf_22 : decode cX3_firstFaultOf 22 = .ok (.ireturn, 1) := by decide +kernel
theorem dX3_firstFaultOf_23 : decode cX3_firstFaultOf 23 = .ok (.iinc 3 1, 3) := by decide +kernel
theorem dX3_firstFaultOf_26 : decode cX3_firstFaultOf 26 = .ok (.goto (-24), 3) := by decide +kernel
theorem dX3_firstFaultOf_29 : decode cX3_firstFaultOf 29 = .ok (.iload_n 2, 1) := by decide +kernel
theorem dX3_firstFaultOf_30 : decode cX3_firstFaultOf 30 = .ok (.bipush 15, 2) := by decide +kernel
theorem dX3_firstFaultOf_32 : decode cX3_firstFaultOf 32 = .ok (.if_icmp .lt 16, 3) := by decide +kernel
theorem dX3_firstFaultOf_35 : decode cX3_firstFaultOf 35 = .ok (.iload_n 2, 1) := by decide +kernel
theorem dX3_firstFaultOf_36 : decode cX3_firstFaultOf 36 = .ok (.iconst 3, 1) := by decide +kernel
theorem dX3_firstFaultOf_37 : decode cX3_firstFaultOf 37 = .ok (.isub, 1) := by decide +kernel
theorem dX3_firstFaultOf_38 : decode cX3_firstFaultOf 38 = .ok (.bipush 6, 2) := by decide +kernel
theorem dX3_firstFaultOf_40 : decode cX3_firstFaultOf 40 = .ok (.irem, 1) := by decide +kernel
theorem dX3_firstFaultOf_41 : decode cX3_firstFaultOf 41 = .ok (.ifCond .ne 7, 3) := by decide +kernel
theorem dX3_firstFaultOf_44 : decode cX3_firstFaultOf 44 = .ok (.iconst 1, 1) := by decide +kernel
theorem dX3_firstFaultOf_45 : decode cX3_firstFaultOf 45 = .ok (.goto 4, 3) := by decide +kernel
theorem dX3_firstFaultOf_48 : decode cX3_firstFaultOf 48 = .ok (.iconst 0, 1) := by decide +kernel
theorem dX3_firstFaultOf_49 : decode cX3_firstFaultOf 49 = .ok (.istore_n 3, 1) := by decide +kernel
theorem dX3_firstFaultOf_50 : decode cX3_firstFaultOf 50 = .ok (.iload_n 3, 1) := by decide +kernel
theorem dX3_firstFaultOf_51 : decode cX3_firstFaultOf 51 = .ok (.ifCond .eq 8, 3) := by decide +kernel
theorem dX3_firstFaultOf_54 : decode cX3_firstFaultOf 54 = .ok (.bipush (-9), 2) := by decide +kernel
theorem dX3_firstFaultOf_56 : decode cX3_firstFaultOf 56 = .ok (.goto 4, 3) := by decide +kernel
theorem dX3_firstFaultOf_59 : decode cX3_firstFaultOf 59 = .ok (.iload_n 2, 1) := by decide +kernel
theorem dX3_firstFaultOf_60 : decode cX3_firstFaultOf 60 = .ok (.ireturn, 1) := by decide +kernel
set_option maxRecDepth 20000 in
theorem ggX3_goesOn_X3_isBetween : GoodIn wsX3_goesOn wsX3_isBetween := goodIn_r _ [4] (by decide +kernel) (by decide +kernel)
set_option maxRecDepth 20000 in
theorem gX3_goesOn_X3_isBetween : GoodIn wsX3_goesOn (va_wsS RX3 220 yX3_isBetween wsX3_isBetween) := goodIn_app (goodIn_of _ (by decide +kernel)) ggX3_goesOn_X3_isBetween
set_option maxRecDepth 20000 in
theorem ggX3_goesOn_X3_personGoesOn : GoodIn wsX3_goesOn wsX3_personGoesOn := goodIn_r _ [7, 1, 2, 3, 4] (by decide +kernel) (by decide +kernel)
set_option maxRecDepth 20000 in
theorem gX3_goesOn_X3_personGoesOn : GoodIn wsX3_goesOn (va_wsS RX3 224 yX3_personGoesOn wsX3_personGoesOn) := goodIn_app (goodIn_of _ (by decide +kernel)) ggX3_goesOn_X3_personGoesOn
theorem dX3_goesOn_0 : decode cX3_goesOn 0 = .ok (.iload_n 0, 1) := by decide +kernel
theorem dX3_goesOn_1 : decode cX3_goesOn 1 = .ok (.tableswitch 57 0 2 #[27, 39, 48], 27) := by decide +kernel
theorem dX3_goesOn_28 : decode cX3_goesOn 28 = .ok (.iload_n 1, 1) := by decide +kernel
theorem dX3_goesOn_29 : decode cX3_goesOn 29 = .ok (.bipush 116, 2) := by decide +kernel
theorem dX3_goesOn_31 : decode cX3_goesOn 31 = .ok (.if_icmp .ne 7, 3) := by decide +kernel
theorem dX3_goesOn_34 : decode cX3_goesOn 34 = .ok (.iconst 1, 1) := by decide +kernel
theorem dX3_goesOn_35 : decode cX3_goesOn 35 = .ok (.goto 4, 3) := by decide +kernel
theorem dX3_goesOn_38 : decode cX3_goesOn 38 = .ok (.iconst 0, 1) := by decide +kernel
theorem dX3_goesOn_39 : decode cX3_goesOn 39 = .ok (.ireturn, 1) := by decide +kernel
theorem dX3_goesOn_40 : decode cX3_goesOn 40 = .ok (.iload_n 1, 1) := by decide +kernel
theorem dX3_goesOn_41 : decode cX3_goesOn 41 = .ok (.bipush 48, 2) := by decide +kernel
theorem dX3_goesOn_43 : decode cX3_goesOn 43 = .ok (.bipush 52, 2) := by decide +kernel
theorem dX3_goesOn_45 : decode cX3_goesOn 45 = .ok (.invokestatic 220, 3) := by decide +kernel
theorem dX3_goesOn_48 : decode cX3_goesOn 48 = .ok (.ireturn, 1) := by decide +kernel
theorem dX3_goesOn_49 : decode cX3_goesOn 49 = .ok (.iload_n 1, 1) := by decide +kernel
theorem dX3_goesOn_50 : decode cX3_goesOn 50 = .ok (.bipush 48, 2) := by decide +kernel
theorem dX3_goesOn_52 : decode cX3_goesOn 52 = .ok (.bipush 57, 2) := by decide +kernel
theorem dX3_goesOn_54 : decode cX3_goesOn 54 = .ok (.invokestatic 220, 3) := by decide +kernel
theorem dX3_goesOn_57 : decode cX3_goesOn 57 = .ok (.ireturn, 1) := by decide +kernel
theorem dX3_goesOn_58 : decode cX3_goesOn 58 = .ok (.iload_n 0, 1) := by decide +kernel
theorem dX3_goesOn_59 : decode cX3_goesOn 59 = .ok (.bipush 39, 2) := by decide +kernel
theorem dX3_goesOn_61 : decode cX3_goesOn 61 = .ok (.if_icmp .ge 20, 3) := by decide +kernel
theorem dX3_goesOn_64 : decode cX3_goesOn 64 = .ok (.iload_n 0, 1) := by decide +kernel
theorem dX3_goesOn_65 : decode cX3_goesOn 65 = .ok (.iconst 3, 1) := by decide +kernel
theorem dX3_goesOn_66 : decode cX3_goesOn 66 = .ok (.isub, 1) := by decide +kernel
theorem dX3_goesOn_67 : decode cX3_goesOn 67 = .ok (.bipush 6, 2) := by decide +kernel
theorem dX3_goesOn_69 : decode cX3_goesOn 69 = .ok (.irem, 1) := by decide +kernel
theorem dX3_goesOn_70 : decode cX3_goesOn 70 = .ok (.iload_n 1, 1) := by decide +kernel
theorem dX3_goesOn_71 : decode cX3_goesOn 71 = .ok (.invokestatic 224, 3) := by decide +kernel
theorem dX3_goesOn_74 : decode cX3_goesOn 74 = .ok (.ifCond .eq 7, 3) := by decide +kernel
theorem dX3_goesOn_77 : decode cX3_goesOn 77 = .ok (.iconst 1, 1) := by decide +kernel
theorem dX3_goesOn_78 : decode cX3_goesOn 78 = .ok (.goto 4, 3) := by decide +kernel
theorem dX3_goesOn_81 : decode cX3_goesOn 81 = .ok (.iconst 0, 1) := by decide +kernel
theorem dX3_goesOn_82 : decode cX3_goesOn 82 = .ok (.ireturn, 1) := by decide +kernel
set_option maxRecDepth 20000 in
theorem ggX3_personGoesOn_X3_isBetween : GoodIn wsX3_personGoesOn wsX3_isBetween := goodIn_r _ [4] (by decide +kernel) (by decide +kernel)
set_option maxRecDepth 20000 in
theorem gX3_personGoesOn_X3_isBetween : GoodIn wsX3_personGoesOn (va_wsS RX3 220 yX3_isBetween wsX3_isBetween) := goodIn_app (goodIn_of _ (by decide +kernel)) ggX3_personGoesOn_X3_isBetween
theorem dX3_personGoesOn_0 : decode cX3_personGoesOn 0 = .ok (.iload_n 0, 1) := by decide +kernel
theorem dX3_personGoesOn_1 : decode cX3_personGoesOn 1 = .ok (.tableswitch 98 0 4 #[35, 47, 71, 80, 89], 35) := by decide +kernel
theorem dX3_personGoesOn_36 : decode cX3_personGoesOn 36 = .ok (.iload_n 1, 1) := by decide +kernel
theorem dX3_personGoesOn_37 : decode cX3_personGoesOn 37 = .ok (.bipush 59, 2) := by decide +kernel
theorem dX3_personGoesOn_39 : decode cX3_personGoesOn 39 = .ok (.if_icmp .ne 7, 3) := by decide +kernel
theorem dX3_personGoesOn_42 : decode cX3_personGoesOn 42 = .ok (.iconst 1, 1) := by decide +kernel
theorem dX3_personGoesOn_43 : decode cX3_personGoesOn 43 = .ok (.goto 4, 3) := by decide +kernel
theorem dX3_personGoesOn_46 : decode cX3_personGoesOn 46 = .ok (.iconst 0, 1) := by decide +kernel
theorem dX3_personGoesOn_47 : decode cX3_personGoesOn 47 = .ok (.ireturn, 1) := by decide +kernel
theorem dX3_personGoesOn_48 : decode cX3_personGoesOn 48 = .ok (.iload_n 1, 1) := by decide +kernel
theorem dX3_personGoesOn_49 : decode cX3_personGoesOn 49 = .ok (.bipush 111, 2) := by decide +kernel
theorem dX3_personGoesOn_51 : decode cX3_personGoesOn 51 = .ok (.if_icmp .eq 15, 3) := by decide +kernel
theorem dX3_personGoesOn_54 : decode cX3_personGoesOn 54 = .ok (.iload_n 1, 1) := by decide +kernel
theorem dX3_personGoesOn_55 : decode cX3_personGoesOn 55 = .ok (.bipush 115, 2) := by decide +kernel
theorem dX3_personGoesOn_57 : decode cX3_personGoesOn 57 = .ok (.if_icmp .eq 9, 3) := by decide +kernel
theorem dX3_personGoesOn_60 : decode cX3_personGoesOn 60 = .ok (.iload_n 1, 1) := by decide +kernel
theorem dX3_personGoesOn_61 : decode cX3_personGoesOn 61 = .ok (.bipush 99, 2) := by decide +kernel
theorem dX3_personGoesOn_63 : decode cX3_personGoesOn 63 = .ok (.if_icmp .ne 7, 3) := by decide +kernel
theorem dX3_personGoesOn_66 : decode cX3_personGoesOn 66 = .ok (.iconst 1, 1) := by decide +kernel
theorem dX3_personGoesOn_67 : decode cX3_personGoesOn 67 = .ok (.goto 4, 3) := by decide +kernel
theorem dX3_personGoesOn_70 : decode cX3_personGoesOn 70 = .ok (.iconst 0, 1) := by decide +kernel
theorem dX3_personGoesOn_71 : decode cX3_personGoesOn 71 = .ok (.ireturn, 1) := by decide +kernel
theorem dX3_personGoesOn_72 : decode cX3_personGoesOn 72 = .ok (.iload_n 1, 1) := by decide +kernel
theorem dX3_personGoesOn_73 : decode cX3_personGoesOn 73 = .ok (.bipush 48, 2) := by decide +kernel
theorem dX3_personGoesOn_75 : decode cX3_personGoesOn 75 = .ok (.bipush 51, 2) := by decide +kernel
theorem dX3_personGoesOn_77 : decode cX3_personGoesOn 77 = .ok (.invokestatic 220, 3) := by decide +kernel
theorem dX3_personGoesOn_80 : decode cX3_personGoesOn 80 = .ok (.ireturn, 1) := by decide +kernel
theorem dX3_personGoesOn_81 : decode cX3_personGoesOn 81 = .ok (.iload_n 1, 1) := by decide +kernel
theorem dX3_personGoesOn_82 : decode cX3_personGoesOn 82 = .ok (.bipush 48, 2) := by decide +kernel
theorem dX3_personGoesOn_84 : decode cX3_personGoesOn 84 = .ok (.bipush 57, 2) := by decide +kernel
theorem dX3_personGoesOn_86 : decode cX3_personGoesOn 86 = .ok (.invokestatic 220, 3) := by decide +kernel
theorem dX3_personGoesOn_89 : decode cX3_personGoesOn 89 = .ok (.ireturn, 1) := by decide +kernel
theorem dX3_personGoesOn_90 : decode cX3_personGoesOn 90 = .ok (.iload_n 1, 1) := by decide +kernel
theorem dX3_personGoesOn_91 : decode cX3_personGoesOn 91 = .ok (.bipush 49, 2) := by decide +kernel
theorem dX3_personGoesOn_93 : decode cX3_personGoesOn 93 = .ok (.bipush 57, 2) := by decide +kernel
theorem dX3_personGoesOn_95 : decode cX3_personGoesOn 95 = .ok (.invokestatic 220, 3) := by decide +kernel
theorem dX3_personGoesOn_98 : decode cX3_personGoesOn 98 = .ok (.ireturn, 1) := by decide +kernel
theorem dX3_personGoesOn_99 : decode cX3_personGoesOn 99 = .ok (.iload_n 1, 1) := by decide +kernel
theorem dX3_personGoesOn_100 : decode cX3_personGoesOn 100 = .ok (.bipush 48, 2) := by decide +kernel
theorem dX3_personGoesOn_102 : decode cX3_personGoesOn 102 = .ok (.bipush 49, 2) := by decide +kernel
theorem dX3_personGoesOn_104 : decode cX3_personGoesOn 104 = .ok (.invokestatic 220, 3) := by decide +kernel
theorem dX3_personGoesOn_107 : decode cX3_personGoesOn 107 = .ok (.ireturn, 1) := by decide +kernel
theorem dX3_isBetween_0 : decode cX3_isBetween 0 = .ok (.iload_n 0, 1) := by decide +kernel
theorem dX3_isBetween_1 : decode cX3_isBetween 1 = .ok (.iload_n 1, 1) := by decide +kernel
theorem dX3_isBetween_2 : decode cX3_isBetween 2 = .ok (.if_icmp .lt 12, 3) := by decide +kernel
theorem dX3_isBetween_5 : decode cX3_isBetween 5 = .ok (.iload_n 0, 1) := by decide +kernel
theorem dX3_isBetween_6 : decode cX3_isBetween 6 = .ok (.iload_n 2, 1) := by decide +kernel
theorem dX3_isBetween_7 : decode cX3_isBetween 7 = .ok (.if_icmp .gt 7, 3) := by decide +kernel
theorem dX3_isBetween_10 : decode cX3_isBetween 10 = .ok (.iconst 1, 1) := by decide +kernel
theorem dX3_isBetween_11 : decode cX3_isBetween 11 = .ok (.goto 4, 3) := by decide +kernel
theorem dX3_isBetween_14 : decode cX3_isBetween 14 = .ok (.iconst 0, 1) := by decide +kernel
theorem dX3_isBetween_15 : decode cX3_isBetween 15 = .ok (.ireturn, 1) := by decide +kernel
set_option maxRecDepth 20000 in
theorem ggX3_act_X2_has : GoodIn wsX3_act wsX2_has := goodIn_r _ [6, 7, 64, 65, 66, 67, 68, 69] (by decide +kernel) (by decide +kernel)
set_option maxRecDepth 20000 in
theorem gX3_act_X2_has : GoodIn wsX3_act (wsV RX3 70 RX2 yX2_has wsX2_has) := goodIn_app (goodIn_of _ (by decide +kernel)) ggX3_act_X2_has
set_option maxRecDepth 20000 in
theorem ggX3_act_X2_acts : GoodIn wsX3_act wsX2_acts := goodIn_r _ [11, 12, 13, 14, 15, 16, 5, 17, 18, 19, 20, 21, 22, 23, 24, 7, 25, 26, 27, 28, 29, 30, 31, 32, 33, 34, 35, 36, 37, 38, 39, 40, 41, 42, 43, 44, 45, 46, 47, 48, 49, 50, 51, 52, 53, 54, 55, 56, 64, 65, 66, 67, 68, 69] (by decide +kernel) (by decide +kernel)
set_option maxRecDepth 20000 in
theorem gX3_act_X2_acts : GoodIn wsX3_act (wsV RX3 227 RX2 yX2_acts wsX2_acts) := goodIn_app (goodIn_of _ (by decide +kernel)) ggX3_act_X2_acts
theorem dX3_act_0 : decode cX3_act 0 = .ok (.aload_n 0, 1) := by decide +kernel
theorem dX3_act_1 : decode cX3_act 1 = .ok (.getfield 20, 3) := by decide +kernel
theorem dX3_act_4 : decode cX3_act 4 = .ok (.iload_n 1, 1) := by decide +kernel
theorem dX3_act_5 : decode cX3_act 5 = .ok (.invokevirtual 70, 3) := by decide +kernel
theorem dX3_act_8 : decode cX3_act 8 = .ok (.ifCond .eq 15, 3) := by decide +kernel
theorem dX3_act_11 : decode cX3_act 11 = .ok (.aload_n 0, 1) := by decide +kernel
theorem dX3_act_12 : decode cX3_act 12 = .ok (.getfield 20, 3) := by decide +kernel
theorem dX3_act_15 : decode cX3_act 15 = .ok (.iload_n 1, 1) := by decide +kernel
theorem dX3_act_16 : decode cX3_act 16 = .ok (.iload_n 2, 1) := by decide +kernel
theorem dX3_act_17 : decode cX3_act 17 = .ok (.invokevirtual 227, 3) := by decide +kernel
theorem dX3_act_20 : decode cX3_act 20 = .ok (.goto 4, 3) := by decide +kernel
theorem dX3_act_23 : decode cX3_act 23 = .ok (.iconst (-1), 1) := by decide +kernel
theorem dX3_act_24 : decode cX3_act 24 = .ok (.ireturn, 1) := by decide +kernel
theorem dX3_isAskedOfYear_0 : decode cX3_isAskedOfYear 0 = .ok (.iload_n 0, 1) := by decide +kernel
theorem dX3_isAskedOfYear_1 : decode cX3_isAskedOfYear 1 = .ok (.ifCond .lt 8, 3) := by decide +kernel
theorem dX3_isAskedOfYear_4 : decode cX3_isAskedOfYear 4 = .ok (.iload_n 0, 1) := by decide +kernel
theorem dX3_isAskedOfYear_5 : decode cX3_isAskedOfYear 5 = .ok (.iconst 3, 1) := by decide +kernel
theorem dX3_isAskedOfYear_6 : decode cX3_isAskedOfYear 6 = .ok (.if_icmp .le 15, 3) := by decide +kernel
theorem dX3_isAskedOfYear_9 : decode cX3_isAskedOfYear 9 = .ok (.iload_n 0, 1) := by decide +kernel
theorem dX3_isAskedOfYear_10 : decode cX3_isAskedOfYear 10 = .ok (.bipush 10, 2) := by decide +kernel
theorem dX3_isAskedOfYear_12 : decode cX3_isAskedOfYear 12 = .ok (.if_icmp .lt 13, 3) := by decide +kernel
theorem dX3_isAskedOfYear_15 : decode cX3_isAskedOfYear 15 = .ok (.iload_n 0, 1) := by decide +kernel
theorem dX3_isAskedOfYear_16 : decode cX3_isAskedOfYear 16 = .ok (.bipush 16, 2) := by decide +kernel
theorem dX3_isAskedOfYear_18 : decode cX3_isAskedOfYear 18 = .ok (.if_icmp .ge 7, 3) := by decide +kernel
theorem dX3_isAskedOfYear_21 : decode cX3_isAskedOfYear 21 = .ok (.iconst 1, 1) := by decide +kernel
theorem dX3_isAskedOfYear_22 : decode cX3_isAskedOfYear 22 = .ok (.goto 4, 3) := by decide +kernel
theorem dX3_isAskedOfYear_25 : decode cX3_isAskedOfYear 25 = .ok (.iconst 0, 1) := by decide +kernel
theorem dX3_isAskedOfYear_26 : decode cX3_isAskedOfYear 26 = .ok (.ireturn, 1) := by decide +kernel
set_option maxRecDepth 20000 in
theorem ggX3_refusalOfPairs_X1_at : GoodIn wsX3_refusalOfPairs wsX1_at := goodIn_r _ [6, 7, 25, 26, 27, 28] (by decide +kernel) (by decide +kernel)
set_option maxRecDepth 20000 in
theorem gX3_refusalOfPairs_X1_at : GoodIn wsX3_refusalOfPairs (wsV RX3 182 RX1 yX1_at wsX1_at) := goodIn_app (goodIn_of _ (by decide +kernel)) ggX3_refusalOfPairs_X1_at
set_option maxRecDepth 20000 in
theorem ggX3_refusalOfPairs_X2_has : GoodIn wsX3_refusalOfPairs wsX2_has := goodIn_r _ [12, 13, 29, 30, 31, 32, 33, 34] (by decide +kernel) (by decide +kernel)
set_option maxRecDepth 20000 in
theorem gX3_refusalOfPairs_X2_has : GoodIn wsX3_refusalOfPairs (wsV RX3 70 RX2 yX2_has wsX2_has) := goodIn_app (goodIn_of _ (by decide +kernel)) ggX3_refusalOfPairs_X2_has
set_option maxRecDepth 20000 in
theorem ggX3_refusalOfPairs_X3_isBetween : GoodIn wsX3_refusalOfPairs wsX3_isBetween := goodIn_r _ [17] (by decide +kernel) (by decide +kernel)
set_option maxRecDepth 20000 in
theorem gX3_refusalOfPairs_X3_isBetween : GoodIn wsX3_refusalOfPairs (va_wsS RX3 220 yX3_isBetween wsX3_isBetween) := goodIn_app (goodIn_of _ (by decide +kernel)) ggX3_refusalOfPairs_X3_isBetween
theorem dX3_refusalOfPairs_0 : decode cX3_refusalOfPairs 0 = .ok (.iconst 0, 1) := by decide +kernel
theorem dX3_refusalOfPairs_1 : decode cX3_refusalOfPairs 1 = .ok (.istore 4, 2) := by decide +kernel
theorem dX3_refusalOfPairs_3 : decode cX3_refusalOfPairs 3 = .ok (.iload 4, 2) := by decide +kernel
theorem dX3_refusalOfPairs_5 : decode cX3_refusalOfPairs 5 = .ok (.iload_n 3, 1) := by decide +kernel
theorem dX3_refusalOfPairs_6 : decode cX3_refusalOfPairs 6 = .ok (.if_icmp .ge 54, 3) := by decide +kernel
theorem dX3_refusalOfPairs_9 : decode cX3_refusalOfPairs 9 = .ok (.aload_n 0, 1) := by decide +kernel
theorem dX3_refusalOfPairs_10 : decode cX3_refusalOfPairs 10 = .ok (.getfield 20, 3) := by decide +kernel
theorem dX3_refusalOfPairs_13 : decode cX3_refusalOfPairs 13 = .ok (.aload_n 1, 1) := by decide +kernel
theorem dX3_refusalOfPairs_14 : decode cX3_refusalOfPairs 14 = .ok (.iload_n 2, 1) := by decide +kernel
theorem dX3_refusalOfPairs_15 : decode cX3_refusalOfPairs 15 = .ok (.iconst 2, 1) := by decide +kernel
theorem dX3_refusalOfPairs_16 : decode cX3_refusalOfPairs 16 = .ok (.iload 4, 2) := by decide +kernel
theorem dX3_refusalOfPairs_18 : decode cX3_refusalOfPairs 18 = .ok (.imul, 1) := by decide +kernel
theorem dX3_refusalOfPairs_19 : decode cX3_refusalOfPairs 19 = .ok (.iadd, 1) := by decide +kernel
theorem dX3_refusalOfPairs_20 : decode cX3_refusalOfPairs 20 = .ok (.invokevirtual 182, 3) := by decide +kernel
theorem dX3_refusalOfPairs_23 : decode cX3_refusalOfPairs 23 = .ok (.invokevirtual 70, 3) := by decide +kernel
theorem dX3_refusalOfPairs_26 : decode cX3_refusalOfPairs 26 = .ok (.ifCond .ne 5, 3) := by decide +kernel
theorem dX3_refusalOfPairs_29 : decode cX3_refusalOfPairs 29 = .ok (.iconst (-1), 1) := by decide +kernel
theorem dX3_refusalOfPairs_30 : decode cX3_refusalOfPairs 30 = .ok (.ireturn, 1) := by decide +kernel
theorem dX3_refusalOfPairs_31 : decode cX3_refusalOfPairs 31 = .ok (.aload_n 1, 1) := by decide +kernel
theorem dX3_refusalOfPairs_32 : decode cX3_refusalOfPairs 32 = .ok (.iload_n 2, 1) := by decide +kernel
theorem dX3_refusalOfPairs_33 : decode cX3_refusalOfPairs 33 = .ok (.iconst 2, 1) := by decide +kernel
theorem dX3_refusalOfPairs_34 : decode cX3_refusalOfPairs 34 = .ok (.iload 4, 2) := by decide +kernel
theorem dX3_refusalOfPairs_36 : decode cX3_refusalOfPairs 36 = .ok (.imul, 1) := by decide +kernel
theorem dX3_refusalOfPairs_37 : decode cX3_refusalOfPairs 37 = .ok (.iadd, 1) := by decide +kernel
theorem dX3_refusalOfPairs_38 : decode cX3_refusalOfPairs 38 = .ok (.iconst 1, 1) := by decide +kernel
theorem dX3_refusalOfPairs_39 : decode cX3_refusalOfPairs 39 = .ok (.iadd, 1) := by decide +kernel
theorem dX3_refusalOfPairs_40 : decode cX3_refusalOfPairs 40 = .ok (.invokevirtual 182, 3) := by decide +kernel
theorem dX3_refusalOfPairs_43 : decode cX3_refusalOfPairs 43 = .ok (.iconst 0, 1) := by decide +kernel
theorem dX3_refusalOfPairs_44 : decode cX3_refusalOfPairs 44 = .ok (.iconst 4, 1) := by decide +kernel
theorem dX3_refusalOfPairs_45 : decode cX3_refusalOfPairs 45 = .ok (.invokestatic 220, 3) := by decide +kernel
theorem dX3_refusalOfPairs_48 : decode cX3_refusalOfPairs 48 = .ok (.ifCond .ne 6, 3) := by decide +kernel
theorem dX3_refusalOfPairs_51 : decode cX3_refusalOfPairs 51 = .ok (.bipush (-2), 2) := by decide +kernel
theorem dX3_refusalOfPairs_53 : decode cX3_refusalOfPairs 53 = .ok (.ireturn, 1) := by decide +kernel
theorem dX3_refusalOfPairs_54 : decode cX3_refusalOfPairs 54 = .ok (.iinc 4 1, 3) := by decide +kernel
theorem dX3_refusalOfPairs_57 : decode cX3_refusalOfPairs 57 = .ok (.goto (-54), 3) := by decide +kernel
theorem dX3_refusalOfPairs_60 : decode cX3_refusalOfPairs 60 = .ok (.iconst 0, 1) := by decide +kernel
theorem dX3_refusalOfPairs_61 : decode cX3_refusalOfPairs 61 = .ok (.ireturn, 1) := by decide +kernel
set_option maxRecDepth 20000 in
theorem ggX3_firstWrongOf_X2_becomeLike : GoodIn wsX3_firstWrongOf wsX2_becomeLike := goodIn_r _ [7, 8, 9, 10, 11, 12, 13, 73, 74, 75, 76, 77, 78] (by decide +kernel) (by decide +kernel)
set_option maxRecDepth 20000 in
theorem gX3_firstWrongOf_X2_becomeLike : GoodIn wsX3_firstWrongOf (wsV RX3 230 RX2 yX2_becomeLike wsX2_becomeLike) := goodIn_app (goodIn_of _ (by decide +kernel)) ggX3_firstWrongOf_X2_becomeLike
set_option maxRecDepth 20000 in
theorem ggX3_firstWrongOf_X1_at : GoodIn wsX3_firstWrongOf wsX1_at := goodIn_r _ [18, 19, 79, 80, 81, 82] (by decide +kernel) (by decide +kernel)
set_option maxRecDepth 20000 in
theorem gX3_firstWrongOf_X1_at : GoodIn wsX3_firstWrongOf (wsV RX3 182 RX1 yX1_at wsX1_at) := goodIn_app (goodIn_of _ (by decide +kernel)) ggX3_firstWrongOf_X1_at
set_option maxRecDepth 20000 in
theorem ggX3_firstWrongOf_X2_acts : GoodIn wsX3_firstWrongOf wsX2_acts := goodIn_r _ [23, 9, 10, 24, 25, 26, 6, 27, 28, 29, 30, 31, 32, 33, 34, 8, 12, 35, 36, 37, 38, 39, 40, 41, 42, 43, 44, 45, 46, 47, 48, 49, 50, 51, 52, 53, 54, 55, 56, 57, 58, 59, 60, 61, 62, 63, 64, 65, 73, 74, 75, 76, 77, 78] (by decide +kernel) (by decide +kernel)
set_option maxRecDepth 20000 in
theorem gX3_firstWrongOf_X2_acts : GoodIn wsX3_firstWrongOf (wsV RX3 227 RX2 yX2_acts wsX2_acts) := goodIn_app (goodIn_of _ (by decide +kernel)) ggX3_firstWrongOf_X2_acts
theorem dX3_firstWrongOf_0 : decode cX3_firstWrongOf 0 = .ok (.aload_n 0, 1) := by decide +kernel
theorem dX3_firstWrongOf_1 : decode cX3_firstWrongOf 1 = .ok (.getfield 24, 3) := by decide +kernel
theorem dX3_firstWrongOf_4 : decode cX3_firstWrongOf 4 = .ok (.aload_n 0, 1) := by decide +kernel
theorem dX3_firstWrongOf_5 : decode cX3_firstWrongOf 5 = .ok (.getfield 20, 3) := by decide +kernel
theorem dX3_firstWrongOf_8 : decode cX3_firstWrongOf 8 = .ok (.invokevirtual 230, 3) := by decide +kernel
theorem dX3_firstWrongOf_11 : decode cX3_firstWrongOf 11 = .ok (.iconst 0, 1) := by decide +kernel
theorem dX3_firstWrongOf_12 : decode cX3_firstWrongOf 12 = .ok (.istore 4, 2) := by decide +kernel
theorem dX3_firstWrongOf_14 : decode cX3_firstWrongOf 14 = .ok (.iload 4, 2) := by decide +kernel
theorem dX3_firstWrongOf_16 : decode cX3_firstWrongOf 16 = .ok (.iload_n 3, 1) := by decide +kernel
theorem dX3_firstWrongOf_17 : decode cX3_firstWrongOf 17 = .ok (.if_icmp .ge 46, 3) := by decide +kernel
theorem dX3_firstWrongOf_20 : decode cX3_firstWrongOf 20 = .ok (.aload_n 0, 1) := by decide +kernel
theorem dX3_firstWrongOf_21 : decode cX3_firstWrongOf 21 = .ok (.getfield 24, 3) := by decide +kernel
theorem dX3_firstWrongOf_24 : decode cX3_firstWrongOf 24 = .ok (.aload_n 1, 1) := by decide +kernel
theorem dX3_firstWrongOf_25 : decode cX3_firstWrongOf 25 = .ok (.iload_n 2, 1) := by decide +kernel
theorem dX3_firstWrongOf_26 : decode cX3_firstWrongOf 26 = .ok (.iconst 2, 1) := by decide +kernel
theorem dX3_firstWrongOf_27 : decode cX3_firstWrongOf 27 = .ok (.iload 4, 2) := by decide +kernel
theorem dX3_firstWrongOf_29 : decode cX3_firstWrongOf 29 = .ok (.imul, 1) := by decide +kernel
theorem dX3_firstWrongOf_30 : decode cX3_firstWrongOf 30 = .ok (.iadd, 1) := by decide +kernel
theorem dX3_firstWrongOf_31 : decode cX3_firstWrongOf 31 = .ok (.invokevirtual 182, 3) := by decide +kernel
theorem dX3_firstWrongOf_34 : decode cX3_firstWrongOf 34 = .ok (.aload_n 1, 1) := by decide +kernel
theorem dX3_firstWrongOf_35 : decode cX3_firstWrongOf 35 = .ok (.iload_n 2, 1) := by decide +kernel
theorem dX3_firstWrongOf_36 : decode cX3_firstWrongOf 36 = .ok (.iconst 2, 1) := by decide +kernel
theorem dX3_firstWrongOf_37 : decode cX3_firstWrongOf 37 = .ok (.iload 4, 2) := by decide +kernel
theorem dX3_firstWrongOf_39 : decode cX3_firstWrongOf 39 = .ok (.imul, 1) := by decide +kernel
theorem dX3_firstWrongOf_40 : decode cX3_firstWrongOf 40 = .ok (.iadd, 1) := by decide +kernel
theorem dX3_firstWrongOf_41 : decode cX3_firstWrongOf 41 = .ok (.iconst 1, 1) := by decide +kernel
theorem dX3_firstWrongOf_42 : decode cX3_firstWrongOf 42 = .ok (.iadd, 1) := by decide +kernel
theorem dX3_firstWrongOf_43 : decode cX3_firstWrongOf 43 = .ok (.invokevirtual 182, 3) := by decide +kernel
theorem dX3_firstWrongOf_46 : decode cX3_firstWrongOf 46 = .ok (.invokevirtual 227, 3) := by decide +kernel
theorem dX3_firstWrongOf_49 : decode cX3_firstWrongOf 49 = .ok (.bipush (-3), 2) := by decide +kernel
theorem dX3_firstWrongOf_51 : decode cX3_firstWrongOf 51 = .ok (.if_icmp .ne 6, 3) := by decide +kernel
theorem dX3_firstWrongOf_54 : decode cX3_firstWrongOf 54 = .ok (.iload 4, 2) := by decide +kernel
theorem dX3_firstWrongOf_56 : decode cX3_firstWrongOf 56 = .ok (.ireturn, 1) := by decide +kernel
theorem dX3_firstWrongOf_57 : decode cX3_firstWrongOf 57 = .ok (.iinc 4 1, 3) := by decide +kernel
theorem dX3_firstWrongOf_60 : decode cX3_firstWrongOf 60 = .ok (.goto (-46), 3) := by decide +kernel
theorem dX3_firstWrongOf_63 : decode cX3_firstWrongOf 63 = .ok (.bipush (-9), 2) := by decide +kernel
theorem dX3_firstWrongOf_65 : decode cX3_firstWrongOf 65 = .ok (.ireturn, 1) := by decide +kernel
set_option maxRecDepth 20000 in
theorem ggX3_behindYear_X2_allSay : GoodIn wsX3_behindYear wsX2_allSay := goodIn_r _ [9, 10, 11, 12, 13, 8, 14, 15, 16, 17, 18, 19, 20, 21, 22, 23, 24, 25, 26, 27, 28, 29, 30, 31, 43, 44, 45, 46, 47, 48] (by decide +kernel) (by decide +kernel)
set_option maxRecDepth 20000 in
theorem gX3_behindYear_X2_allSay : GoodIn wsX3_behindYear (wsV RX3 89 RX2 yX2_allSay wsX2_allSay) := goodIn_app (goodIn_of _ (by decide +kernel)) ggX3_behindYear_X2_allSay
set_option maxRecDepth 20000 in
theorem ggX3_behindYear_X2_has : GoodIn wsX3_behindYear wsX2_has := goodIn_r _ [35, 10, 43, 44, 45, 46, 47, 48] (by decide +kernel) (by decide +kernel)
set_option maxRecDepth 20000 in
theorem gX3_behindYear_X2_has : GoodIn wsX3_behindYear (wsV RX3 70 RX2 yX2_has wsX2_has) := goodIn_app (goodIn_of _ (by decide +kernel)) ggX3_behindYear_X2_has
theorem dX3_behindYear_0 : decode cX3_behindYear 0 = .ok (.iload_n 1, 1) := by decide +kernel
theorem dX3_behindYear_1 : decode cX3_behindYear 1 = .ok (.tableswitch 55 0 3 #[31, 55, 39, 47], 31) := by decide +kernel
theorem dX3_behindYear_32 : decode cX3_behindYear 32 = .ok (.aload_n 0, 1) := by decide +kernel
theorem dX3_behindYear_33 : decode cX3_behindYear 33 = .ok (.getfield 24, 3) := by decide +kernel
theorem dX3_behindYear_36 : decode cX3_behindYear 36 = .ok (.getfield 103, 3) := by decide +kernel
theorem dX3_behindYear_39 : decode cX3_behindYear 39 = .ok (.ireturn, 1) := by decide +kernel
theorem dX3_behindYear_40 : decode cX3_behindYear 40 = .ok (.aload_n 0, 1) := by decide +kernel
theorem dX3_behindYear_41 : decode cX3_behindYear 41 = .ok (.getfield 24, 3) := by decide +kernel
theorem dX3_behindYear_44 : decode cX3_behindYear 44 = .ok (.getfield 93, 3) := by decide +kernel
theorem dX3_behindYear_47 : decode cX3_behindYear 47 = .ok (.ireturn, 1) := by decide +kernel
theorem dX3_behindYear_48 : decode cX3_behindYear 48 = .ok (.aload_n 0, 1) := by decide +kernel
theorem dX3_behindYear_49 : decode cX3_behindYear 49 = .ok (.getfield 24, 3) := by decide +kernel
theorem dX3_behindYear_52 : decode cX3_behindYear 52 = .ok (.invokevirtual 89, 3) := by decide +kernel
theorem dX3_behindYear_55 : decode cX3_behindYear 55 = .ok (.ireturn, 1) := by decide +kernel
theorem dX3_behindYear_56 : decode cX3_behindYear 56 = .ok (.aload_n 0, 1) := by decide +kernel
theorem dX3_behindYear_57 : decode cX3_behindYear 57 = .ok (.getfield 24, 3) := by decide +kernel
theorem dX3_behindYear_60 : decode cX3_behindYear 60 = .ok (.iload_n 1, 1) := by decide +kernel
theorem dX3_behindYear_61 : decode cX3_behindYear 61 = .ok (.bipush 10, 2) := by decide +kernel
theorem dX3_behindYear_63 : decode cX3_behindYear 63 = .ok (.isub, 1) := by decide +kernel
theorem dX3_behindYear_64 : decode cX3_behindYear 64 = .ok (.invokevirtual 70, 3) := by decide +kernel
theorem dX3_behindYear_67 : decode cX3_behindYear 67 = .ok (.ifCond .eq 18, 3) := by decide +kernel
theorem dX3_behindYear_70 : decode cX3_behindYear 70 = .ok (.aload_n 0, 1) := by decide +kernel
theorem dX3_behindYear_71 : decode cX3_behindYear 71 = .ok (.getfield 24, 3) := by decide +kernel
theorem dX3_behindYear_74 : decode cX3_behindYear 74 = .ok (.getfield 77, 3) := by decide +kernel
theorem dX3_behindYear_77 : decode cX3_behindYear 77 = .ok (.iload_n 1, 1) := by decide +kernel
theorem dX3_behindYear_78 : decode cX3_behindYear 78 = .ok (.bipush 10, 2) := by decide +kernel
theorem dX3_behindYear_80 : decode cX3_behindYear 80 = .ok (.isub, 1) := by decide +kernel
theorem dX3_behindYear_81 : decode cX3_behindYear 81 = .ok (.iaload, 1) := by decide +kernel
theorem dX3_behindYear_82 : decode cX3_behindYear 82 = .ok (.goto 5, 3) := by decide +kernel
theorem dX3_behindYear_85 : decode cX3_behindYear 85 = .ok (.bipush (-9), 2) := by decide +kernel
theorem dX3_behindYear_87 : decode cX3_behindYear 87 = .ok (.ireturn, 1) := by decide +kernel
set_option maxRecDepth 20000 in
theorem ggX3_bestAsked_X2_allSets : GoodIn wsX3_bestAsked wsX2_allSets := goodIn_r _ [8, 9, 32, 33, 34, 35, 36, 37] (by decide +kernel) (by decide +kernel)
set_option maxRecDepth 20000 in
theorem gX3_bestAsked_X2_allSets : GoodIn wsX3_bestAsked (wsV RX3 127 RX2 yX2_allSets wsX2_allSets) := goodIn_app (goodIn_of _ (by decide +kernel)) ggX3_bestAsked_X2_allSets
set_option maxRecDepth 20000 in
theorem ggX3_bestAsked_J6_bitCount_0f7a4 : GoodIn wsX3_bestAsked wsJ6_bitCount_0f7a4 := goodIn_r _ [13, 14, 15, 16] (by decide +kernel) (by decide +kernel)
set_option maxRecDepth 20000 in
theorem gX3_bestAsked_J6_bitCount_0f7a4 : GoodIn wsX3_bestAsked (va_wsS RX3 234 yJ6_bitCount_0f7a4 wsJ6_bitCount_0f7a4) := goodIn_app (goodIn_of _ (by decide +kernel)) ggX3_bestAsked_J6_bitCount_0f7a4
set_option maxRecDepth 20000 in
theorem ggX3_bestAsked_X2_partsOf : GoodIn wsX3_bestAsked wsX2_partsOf := goodIn_r _ [20, 9, 21, 22, 23, 24, 32, 33, 34, 35, 36, 37] (by decide +kernel) (by decide +kernel)
set_option maxRecDepth 20000 in
theorem gX3_bestAsked_X2_partsOf : GoodIn wsX3_bestAsked (wsV RX3 96 RX2 yX2_partsOf wsX2_partsOf) := goodIn_app (goodIn_of _ (by decide +kernel)) ggX3_bestAsked_X2_partsOf
theorem dX3_bestAsked_0 : decode cX3_bestAsked 0 = .ok (.aload_n 0, 1) := by decide +kernel
theorem dX3_bestAsked_1 : decode cX3_bestAsked 1 = .ok (.getfield 20, 3) := by decide +kernel
theorem dX3_bestAsked_4 : decode cX3_bestAsked 4 = .ok (.getfield 93, 3) := by decide +kernel
theorem dX3_bestAsked_7 : decode cX3_bestAsked 7 = .ok (.iconst 1, 1) := by decide +kernel
theorem dX3_bestAsked_8 : decode cX3_bestAsked 8 = .ok (.iload_n 1, 1) := by decide +kernel
theorem dX3_bestAsked_9 : decode cX3_bestAsked 9 = .ok (.ishl, 1) := by decide +kernel
theorem dX3_bestAsked_10 : decode cX3_bestAsked 10 = .ok (.iconst (-1), 1) := by decide +kernel
theorem dX3_bestAsked_11 : decode cX3_bestAsked 11 = .ok (.ixor, 1) := by decide +kernel
theorem dX3_bestAsked_12 : decode cX3_bestAsked 12 = .ok (.iand, 1) := by decide +kernel
theorem dX3_bestAsked_13 : decode cX3_bestAsked 13 = .ok (.istore_n 3, 1) := by decide +kernel
theorem dX3_bestAsked_14 : decode cX3_bestAsked 14 = .ok (.bipush (-9), 2) := by decide +kernel
theorem dX3_bestAsked_16 : decode cX3_bestAsked 16 = .ok (.istore 4, 2) := by decide +kernel
theorem dX3_bestAsked_18 : decode cX3_bestAsked 18 = .ok (.iconst 0, 1) := by decide +kernel
theorem dX3_bestAsked_19 : decode cX3_bestAsked 19 = .ok (.istore 5, 2) := by decide +kernel
theorem dX3_bestAsked_21 : decode cX3_bestAsked 21 = .ok (.iconst 0, 1) := by decide +kernel
theorem dX3_bestAsked_22 : decode cX3_bestAsked 22 = .ok (.istore 6, 2) := by decide +kernel
theorem dX3_bestAsked_24 : decode cX3_bestAsked 24 = .ok (.iconst 0, 1) := by decide +kernel
theorem dX3_bestAsked_25 : decode cX3_bestAsked 25 = .ok (.istore 7, 2) := by decide +kernel
theorem dX3_bestAsked_27 : decode cX3_bestAsked 27 = .ok (.iload 7, 2) := by decide +kernel
theorem dX3_bestAsked_29 : decode cX3_bestAsked 29 = .ok (.aload_n 0, 1) := by decide +kernel
theorem dX3_bestAsked_30 : decode cX3_bestAsked 30 = .ok (.getfield 20, 3) := by decide +kernel
theorem dX3_bestAsked_33 : decode cX3_bestAsked 33 = .ok (.invokevirtual 127, 3) := by decide +kernel
theorem dX3_bestAsked_36 : decode cX3_bestAsked 36 = .ok (.if_icmp .ge 104, 3) := by decide +kernel
theorem dX3_bestAsked_39 : decode cX3_bestAsked 39 = .ok (.iload 7, 2) := by decide +kernel
theorem dX3_bestAsked_41 : decode cX3_bestAsked 41 = .ok (.invokestatic 234, 3) := by decide +kernel
theorem dX3_bestAsked_44 : decode cX3_bestAsked 44 = .ok (.istore 8, 2) := by decide +kernel
theorem dX3_bestAsked_46 : decode cX3_bestAsked 46 = .ok (.aload_n 0, 1) := by decide +kernel
theorem dX3_bestAsked_47 : decode cX3_bestAsked 47 = .ok (.getfield 20, 3) := by decide +kernel
theorem dX3_bestAsked_50 : decode cX3_bestAsked 50 = .ok (.getfield 77, 3) := by decide +kernel
theorem dX3_bestAsked_53 : decode cX3_bestAsked 53 = .ok (.iload_n 1, 1) := by decide +kernel
theorem dX3_bestAsked_54 : decode cX3_bestAsked 54 = .ok (.iaload, 1) := by decide +kernel
theorem dX3_bestAsked_55 : decode cX3_bestAsked 55 = .ok (.aload_n 0, 1) := by decide +kernel
theorem dX3_bestAsked_56 : decode cX3_bestAsked 56 = .ok (.getfield 20, 3) := by decide +kernel
theorem dX3_bestAsked_59 : decode cX3_bestAsked 59 = .ok (.iload 7, 2) := by decide +kernel
theorem dX3_bestAsked_61 : decode cX3_bestAsked 61 = .ok (.invokevirtual 96, 3) := by decide +kernel
theorem dX3_bestAsked_64 : decode cX3_bestAsked 64 = .ok (.iadd, 1) := by decide +kernel
theorem dX3_bestAsked_65 : decode cX3_bestAsked 65 = .ok (.istore 9, 2) := by decide +kernel
theorem dX3_bestAsked_67 : decode cX3_bestAsked 67 = .ok (.iload 4, 2) := by decide +kernel
theorem dX3_bestAsked_69 : decode cX3_bestAsked 69 = .ok (.bipush (-9), 2) := by decide +kernel
theorem dX3_bestAsked_71 : decode cX3_bestAsked 71 = .ok (.if_icmp .eq 24, 3) := by decide +kernel
theorem dX3_bestAsked_74 : decode cX3_bestAsked 74 = .ok (.iload 8, 2) := by decide +kernel
theorem dX3_bestAsked_76 : decode cX3_bestAsked 76 = .ok (.iload 5, 2) := by decide +kernel
theorem dX3_bestAsked_78 : decode cX3_bestAsked 78 = .ok (.if_icmp .lt 17, 3) := by decide +kernel
theorem dX3_bestAsked_81 : decode cX3_bestAsked 81 = .ok (.iload 8, 2) := by decide +kernel
theorem dX3_bestAsked_83 : decode cX3_bestAsked 83 = .ok (.iload 5, 2) := by decide +kernel
theorem dX3_bestAsked_85 : decode cX3_bestAsked 85 = .ok (.if_icmp .ne 14, 3) := by decide +kernel
theorem dX3_bestAsked_88 : decode cX3_bestAsked 88 = .ok (.iload 9, 2) := by decide +kernel
theorem dX3_bestAsked_90 : decode cX3_bestAsked 90 = .ok (.iload 6, 2) := by decide +kernel
theorem dX3_bestAsked_92 : decode cX3_bestAsked 92 = .ok (.if_icmp .ge 7, 3) := by decide +kernel
theorem dX3_bestAsked_95 : decode cX3_bestAsked 95 = .ok (.iconst 1, 1) := by decide +kernel
theorem dX3_bestAsked_96 : decode cX3_bestAsked 96 = .ok (.goto 4, 3) := by decide +kernel
theorem dX3_bestAsked_99 : decode cX3_bestAsked 99 = .ok (.iconst 0, 1) := by decide +kernel
theorem dX3_bestAsked_100 : decode cX3_bestAsked 100 = .ok (.istore 10, 2) := by decide +kernel
theorem dX3_bestAsked_102 : decode cX3_bestAsked 102 = .ok (.iload 7, 2) := by decide +kernel
theorem dX3_bestAsked_104 : decode cX3_bestAsked 104 = .ok (.iload_n 3, 1) := by decide +kernel
theorem dX3_bestAsked_105 : decode cX3_bestAsked 105 = .ok (.iconst (-1), 1) := by decide +kernel
theorem dX3_bestAsked_106 : decode cX3_bestAsked 106 = .ok (.ixor, 1) := by decide +kernel
theorem dX3_bestAsked_107 : decode cX3_bestAsked 107 = .ok (.iand, 1) := by decide +kernel
theorem dX3_bestAsked_108 : decode cX3_bestAsked 108 = .ok (.ifCond .ne 26, 3) := by decide +kernel
theorem dX3_bestAsked_111 : decode cX3_bestAsked 111 = .ok (.iload 9, 2) := by decide +kernel
theorem dX3_bestAsked_113 : decode cX3_bestAsked 113 = .ok (.iload_n 2, 1) := by decide +kernel
theorem dX3_bestAsked_114 : decode cX3_bestAsked 114 = .ok (.if_icmp .lt 20, 3) := by decide +kernel
theorem dX3_bestAsked_117 : decode cX3_bestAsked 117 = .ok (.iload 10, 2) := by decide +kernel
theorem dX3_bestAsked_119 : decode cX3_bestAsked 119 = .ok (.ifCond .eq 15, 3) := by decide +kernel
theorem dX3_bestAsked_122 : decode cX3_bestAsked 122 = .ok (.iload 7, 2) := by decide +kernel
theorem dX3_bestAsked_124 : decode cX3_bestAsked 124 = .ok (.istore 4, 2) := by decide +kernel
theorem dX3_bestAsked_126 : decode cX3_bestAsked 126 = .ok (.iload 8, 2) := by decide +kernel
theorem dX3_bestAsked_128 : decode cX3_bestAsked 128 = .ok (.istore 5, 2) := by decide +kernel
theorem dX3_bestAsked_130 : decode cX3_bestAsked 130 = .ok (.iload 9, 2) := by decide +kernel
theorem dX3_bestAsked_132 : decode cX3_bestAsked 132 = .ok (.istore 6, 2) := by decide +kernel
theorem dX3_bestAsked_134 : decode cX3_bestAsked 134 = .ok (.iinc 7 1, 3) := by decide +kernel
theorem dX3_bestAsked_137 : decode cX3_bestAsked 137 = .ok (.goto (-110), 3) := by decide +kernel
theorem dX3_bestAsked_140 : decode cX3_bestAsked 140 = .ok (.iload 4, 2) := by decide +kernel
theorem dX3_bestAsked_142 : decode cX3_bestAsked 142 = .ok (.ireturn, 1) := by decide +kernel
set_option maxRecDepth 20000 in
theorem ggX3_ordersDecidedBy_X2_partsOf : GoodIn wsX3_ordersDecidedBy wsX2_partsOf := goodIn_r _ [8, 9, 10, 11, 12, 13, 36, 37, 38, 39, 40, 41] (by decide +kernel) (by decide +kernel)
set_option maxRecDepth 20000 in
theorem gX3_ordersDecidedBy_X2_partsOf : GoodIn wsX3_ordersDecidedBy (wsV RX3 96 RX2 yX2_partsOf wsX2_partsOf) := goodIn_app (goodIn_of _ (by decide +kernel)) ggX3_ordersDecidedBy_X2_partsOf
set_option maxRecDepth 20000 in
theorem ggX3_ordersDecidedBy_X2_allSets : GoodIn wsX3_ordersDecidedBy wsX2_allSets := goodIn_r _ [17, 9, 36, 37, 38, 39, 40, 41] (by decide +kernel) (by decide +kernel)
set_option maxRecDepth 20000 in
theorem gX3_ordersDecidedBy_X2_allSets : GoodIn wsX3_ordersDecidedBy (wsV RX3 127 RX2 yX2_allSets wsX2_allSets) := goodIn_app (goodIn_of _ (by decide +kernel)) ggX3_ordersDecidedBy_X2_allSets
set_option maxRecDepth 20000 in
theorem ggX3_ordersDecidedBy_X3_ordersOf : GoodIn wsX3_ordersDecidedBy wsX3_ordersOf := goodIn_r _ [20, 21, 22, 23, 24, 25, 26, 27, 28] (by decide +kernel) (by decide +kernel)
set_option maxRecDepth 20000 in
theorem gX3_ordersDecidedBy_X3_ordersOf : GoodIn wsX3_ordersDecidedBy (va_wsS RX3 145 yX3_ordersOf wsX3_ordersOf) := goodIn_app (goodIn_of _ (by decide +kernel)) ggX3_ordersDecidedBy_X3_ordersOf
theorem dX3_ordersDecidedBy_0 : decode cX3_ordersDecidedBy 0 = .ok (.aload_n 0, 1) := by decide +kernel
theorem dX3_ordersDecidedBy_1 : decode cX3_ordersDecidedBy 1 = .ok (.getfield 20, 3) := by decide +kernel
theorem dX3_ordersDecidedBy_4 : decode cX3_ordersDecidedBy 4 = .ok (.getfield 93, 3) := by decide +kernel
theorem dX3_ordersDecidedBy_7 : decode cX3_ordersDecidedBy 7 = .ok (.iconst 1, 1) := by decide +kernel
theorem dX3_ordersDecidedBy_8 : decode cX3_ordersDecidedBy 8 = .ok (.iload_n 1, 1) := by decide +kernel
theorem dX3_ordersDecidedBy_9 : decode cX3_ordersDecidedBy 9 = .ok (.ishl, 1) := by decide +kernel
theorem dX3_ordersDecidedBy_10 : decode cX3_ordersDecidedBy 10 = .ok (.iconst (-1), 1) := by decide +kernel
theorem dX3_ordersDecidedBy_11 : decode cX3_ordersDecidedBy 11 = .ok (.ixor, 1) := by decide +kernel
theorem dX3_ordersDecidedBy_12 : decode cX3_ordersDecidedBy 12 = .ok (.iand, 1) := by decide +kernel
theorem dX3_ordersDecidedBy_13 : decode cX3_ordersDecidedBy 13 = .ok (.istore_n 2, 1) := by decide +kernel
theorem dX3_ordersDecidedBy_14 : decode cX3_ordersDecidedBy 14 = .ok (.aload_n 0, 1) := by decide +kernel
theorem dX3_ordersDecidedBy_15 : decode cX3_ordersDecidedBy 15 = .ok (.getfield 20, 3) := by decide +kernel
theorem dX3_ordersDecidedBy_18 : decode cX3_ordersDecidedBy 18 = .ok (.aload_n 0, 1) := by decide +kernel
theorem dX3_ordersDecidedBy_19 : decode cX3_ordersDecidedBy 19 = .ok (.getfield 20, 3) := by decide +kernel
theorem dX3_ordersDecidedBy_22 : decode cX3_ordersDecidedBy 22 = .ok (.getfield 93, 3) := by decide +kernel
theorem dX3_ordersDecidedBy_25 : decode cX3_ordersDecidedBy 25 = .ok (.invokevirtual 96, 3) := by decide +kernel
theorem dX3_ordersDecidedBy_28 : decode cX3_ordersDecidedBy 28 = .ok (.istore_n 3, 1) := by decide +kernel
theorem dX3_ordersDecidedBy_29 : decode cX3_ordersDecidedBy 29 = .ok (.iconst 0, 1) := by decide +kernel
theorem dX3_ordersDecidedBy_30 : decode cX3_ordersDecidedBy 30 = .ok (.istore 4, 2) := by decide +kernel
theorem dX3_ordersDecidedBy_32 : decode cX3_ordersDecidedBy 32 = .ok (.iconst 0, 1) := by decide +kernel
theorem dX3_ordersDecidedBy_33 : decode cX3_ordersDecidedBy 33 = .ok (.istore 5, 2) := by decide +kernel
theorem dX3_ordersDecidedBy_35 : decode cX3_ordersDecidedBy 35 = .ok (.iload 5, 2) := by decide +kernel
theorem dX3_ordersDecidedBy_37 : decode cX3_ordersDecidedBy 37 = .ok (.aload_n 0, 1) := by decide +kernel
theorem dX3_ordersDecidedBy_38 : decode cX3_ordersDecidedBy 38 = .ok (.getfield 20, 3) := by decide +kernel
theorem dX3_ordersDecidedBy_41 : decode cX3_ordersDecidedBy 41 = .ok (.invokevirtual 127, 3) := by decide +kernel
theorem dX3_ordersDecidedBy_44 : decode cX3_ordersDecidedBy 44 = .ok (.if_icmp .ge 79, 3) := by decide +kernel
theorem dX3_ordersDecidedBy_47 : decode cX3_ordersDecidedBy 47 = .ok (.aload_n 0, 1) := by decide +kernel
theorem dX3_ordersDecidedBy_48 : decode cX3_ordersDecidedBy 48 = .ok (.getfield 20, 3) := by decide +kernel
theorem dX3_ordersDecidedBy_51 : decode cX3_ordersDecidedBy 51 = .ok (.iload 5, 2) := by decide +kernel
theorem dX3_ordersDecidedBy_53 : decode cX3_ordersDecidedBy 53 = .ok (.invokevirtual 96, 3) := by decide +kernel
theorem dX3_ordersDecidedBy_56 : decode cX3_ordersDecidedBy 56 = .ok (.istore 6, 2) := by decide +kernel
theorem dX3_ordersDecidedBy_58 : decode cX3_ordersDecidedBy 58 = .ok (.iload 5, 2) := by decide +kernel
theorem dX3_ordersDecidedBy_60 : decode cX3_ordersDecidedBy 60 = .ok (.iload_n 2, 1) := by decide +kernel
theorem dX3_ordersDecidedBy_61 : decode cX3_ordersDecidedBy 61 = .ok (.iconst (-1), 1) := by decide +kernel
theorem dX3_ordersDecidedBy_62 : decode cX3_ordersDecidedBy 62 = .ok (.ixor, 1) := by decide +kernel
theorem dX3_ordersDecidedBy_63 : decode cX3_ordersDecidedBy 63 = .ok (.iand, 1) := by decide +kernel
theorem dX3_ordersDecidedBy_64 : decode cX3_ordersDecidedBy 64 = .ok (.ifCond .ne 53, 3) := by decide +kernel
theorem dX3_ordersDecidedBy_67 : decode cX3_ordersDecidedBy 67 = .ok (.iconst 2, 1) := by decide +kernel
theorem dX3_ordersDecidedBy_68 : decode cX3_ordersDecidedBy 68 = .ok (.iload 6, 2) := by decide +kernel
theorem dX3_ordersDecidedBy_70 : decode cX3_ordersDecidedBy 70 = .ok (.imul, 1) := by decide +kernel
theorem dX3_ordersDecidedBy_71 : decode cX3_ordersDecidedBy 71 = .ok (.iload_n 3, 1) := by decide +kernel
theorem dX3_ordersDecidedBy_72 : decode cX3_ordersDecidedBy 72 = .ok (.if_icmp .gt 45, 3) := by decide +kernel
theorem dX3_ordersDecidedBy_75 : decode cX3_ordersDecidedBy 75 = .ok (.iconst 2, 1) := by decide +kernel
theorem dX3_ordersDecidedBy_76 : decode cX3_ordersDecidedBy 76 = .ok (.iload 6, 2) := by decide +kernel
theorem dX3_ordersDecidedBy_78 : decode cX3_ordersDecidedBy 78 = .ok (.aload_n 0, 1) := by decide +kernel
theorem dX3_ordersDecidedBy_79 : decode cX3_ordersDecidedBy 79 = .ok (.getfield 20, 3) := by decide +kernel
theorem dX3_ordersDecidedBy_82 : decode cX3_ordersDecidedBy 82 = .ok (.getfield 77, 3) := by decide +kernel
theorem dX3_ordersDecidedBy_85 : decode cX3_ordersDecidedBy 85 = .ok (.iload_n 1, 1) := by decide +kernel
theorem dX3_ordersDecidedBy_86 : decode cX3_ordersDecidedBy 86 = .ok (.iaload, 1) := by decide +kernel
theorem dX3_ordersDecidedBy_87 : decode cX3_ordersDecidedBy 87 = .ok (.iadd, 1) := by decide +kernel
theorem dX3_ordersDecidedBy_88 : decode cX3_ordersDecidedBy 88 = .ok (.imul, 1) := by decide +kernel
theorem dX3_ordersDecidedBy_89 : decode cX3_ordersDecidedBy 89 = .ok (.iload_n 3, 1) := by decide +kernel
theorem dX3_ordersDecidedBy_90 : decode cX3_ordersDecidedBy 90 = .ok (.if_icmp .le 27, 3) := by decide +kernel
theorem dX3_ordersDecidedBy_93 : decode cX3_ordersDecidedBy 93 = .ok (.iload_n 2, 1) := by decide +kernel
theorem dX3_ordersDecidedBy_94 : decode cX3_ordersDecidedBy 94 = .ok (.iload 5, 2) := by decide +kernel
theorem dX3_ordersDecidedBy_96 : decode cX3_ordersDecidedBy 96 = .ok (.iconst (-1), 1) := by decide +kernel
theorem dX3_ordersDecidedBy_97 : decode cX3_ordersDecidedBy 97 = .ok (.ixor, 1) := by decide +kernel
theorem dX3_ordersDecidedBy_98 : decode cX3_ordersDecidedBy 98 = .ok (.iand, 1) := by decide +kernel
theorem dX3_ordersDecidedBy_99 : decode cX3_ordersDecidedBy 99 = .ok (.istore 7, 2) := by decide +kernel
theorem dX3_ordersDecidedBy_101 : decode cX3_ordersDecidedBy 101 = .ok (.iload 4, 2) := by decide +kernel
theorem dX3_ordersDecidedBy_103 : decode cX3_ordersDecidedBy 103 = .ok (.iload 5, 2) := by decide +kernel
theorem dX3_ordersDecidedBy_105 : decode cX3_ordersDecidedBy 105 = .ok (.invokestatic 145, 3) := by decide +kernel
theorem dX3_ordersDecidedBy_108 : decode cX3_ordersDecidedBy 108 = .ok (.iload 7, 2) := by decide +kernel
theorem dX3_ordersDecidedBy_110 : decode cX3_ordersDecidedBy 110 = .ok (.invokestatic 145, 3) := by decide +kernel
theorem dX3_ordersDecidedBy_113 : decode cX3_ordersDecidedBy 113 = .ok (.imul, 1) := by decide +kernel
theorem dX3_ordersDecidedBy_114 : decode cX3_ordersDecidedBy 114 = .ok (.iadd, 1) := by decide +kernel
theorem dX3_ordersDecidedBy_115 : decode cX3_ordersDecidedBy 115 = .ok (.istore 4, 2) := by decide +kernel
theorem dX3_ordersDecidedBy_117 : decode cX3_ordersDecidedBy 117 = .ok (.iinc 5 1, 3) := by decide +kernel
theorem dX3_ordersDecidedBy_120 : decode cX3_ordersDecidedBy 120 = .ok (.goto (-85), 3) := by decide +kernel
theorem dX3_ordersDecidedBy_123 : decode cX3_ordersDecidedBy 123 = .ok (.iload 4, 2) := by decide +kernel
theorem dX3_ordersDecidedBy_125 : decode cX3_ordersDecidedBy 125 = .ok (.ireturn, 1) := by decide +kernel
set_option maxRecDepth 20000 in
theorem ggX3_ordersOf_J6_bitCount_0f7a4 : GoodIn wsX3_ordersOf wsJ6_bitCount_0f7a4 := goodIn_r _ [5, 6, 7, 8] (by decide +kernel) (by decide +kernel)
set_option maxRecDepth 20000 in
theorem gX3_ordersOf_J6_bitCount_0f7a4 : GoodIn wsX3_ordersOf (va_wsS RX3 234 yJ6_bitCount_0f7a4 wsJ6_bitCount_0f7a4) := goodIn_app (goodIn_of _ (by decide +kernel)) ggX3_ordersOf_J6_bitCount_0f7a4
theorem dX3_ordersOf_0 : decode cX3_ordersOf 0 = .ok (.iload_n 0, 1) := by decide +kernel
theorem dX3_ordersOf_1 : decode cX3_ordersOf 1 = .ok (.invokestatic 234, 3) := by decide +kernel
theorem dX3_ordersOf_4 : decode cX3_ordersOf 4 = .ok (.istore_n 1, 1) := by decide +kernel
theorem dX3_ordersOf_5 : decode cX3_ordersOf 5 = .ok (.iload_n 1, 1) := by decide +kernel
theorem dX3_ordersOf_6 : decode cX3_ordersOf 6 = .ok (.getstatic 239, 3) := by decide +kernel
theorem dX3_ordersOf_9 : decode cX3_ordersOf 9 = .ok (.arraylength, 1) := by decide +kernel
theorem dX3_ordersOf_10 : decode cX3_ordersOf 10 = .ok (.if_icmp .ge 11, 3) := by decide +kernel
theorem dX3_ordersOf_13 : decode cX3_ordersOf 13 = .ok (.getstatic 239, 3) := by decide +kernel
theorem dX3_ordersOf_16 : decode cX3_ordersOf 16 = .ok (.iload_n 1, 1) := by decide +kernel
theorem dX3_ordersOf_17 : decode cX3_ordersOf 17 = .ok (.iaload, 1) := by decide +kernel
theorem dX3_ordersOf_18 : decode cX3_ordersOf 18 = .ok (.goto 4, 3) := by decide +kernel
theorem dX3_ordersOf_21 : decode cX3_ordersOf 21 = .ok (.iconst 0, 1) := by decide +kernel
theorem dX3_ordersOf_22 : decode cX3_ordersOf 22 = .ok (.ireturn, 1) := by decide +kernel
theorem dX3_begin_0 : decode cX3_begin 0 = .ok (.aload_n 0, 1) := by decide +kernel
theorem dX3_begin_1 : decode cX3_begin 1 = .ok (.bipush 31, 2) := by decide +kernel
theorem dX3_begin_3 : decode cX3_begin 3 = .ok (.aload_n 0, 1) := by decide +kernel
theorem dX3_begin_4 : decode cX3_begin 4 = .ok (.getfield 209, 3) := by decide +kernel
theorem dX3_begin_7 : decode cX3_begin 7 = .ok (.imul, 1) := by decide +kernel
theorem dX3_begin_8 : decode cX3_begin 8 = .ok (.iload_n 1, 1) := by decide +kernel
theorem dX3_begin_9 : decode cX3_begin 9 = .ok (.iadd, 1) := by decide +kernel
theorem dX3_begin_10 : decode cX3_begin 10 = .ok (.putfield 209, 3) := by decide +kernel
theorem dX3_begin_13 : decode cX3_begin 13 = .ok (.return_, 1) := by decide +kernel
set_option maxRecDepth 20000 in
theorem ggX3_grownTells_X3_begin : GoodIn wsX3_grownTells wsX3_begin := goodIn_r _ [7, 8, 9, 10, 11, 12, 13, 14, 15] (by decide +kernel) (by decide +kernel)
set_option maxRecDepth 20000 in
theorem gX3_grownTells_X3_begin : GoodIn wsX3_grownTells (wsV RX3 242 RX3 yX3_begin wsX3_begin) := goodIn_app (goodIn_of _ (by decide +kernel)) ggX3_grownTells_X3_begin
theorem dX3_grownTells_0 : decode cX3_grownTells 0 = .ok (.aload_n 0, 1) := by decide +kernel
theorem dX3_grownTells_1 : decode cX3_grownTells 1 = .ok (.iconst 1, 1) := by decide +kernel
theorem dX3_grownTells_2 : decode cX3_grownTells 2 = .ok (.invokevirtual 242, 3) := by decide +kernel
theorem dX3_grownTells_5 : decode cX3_grownTells 5 = .ok (.aload_n 0, 1) := by decide +kernel
theorem dX3_grownTells_6 : decode cX3_grownTells 6 = .ok (.getfield 20, 3) := by decide +kernel
theorem dX3_grownTells_9 : decode cX3_grownTells 9 = .ok (.getfield 80, 3) := by decide +kernel
theorem dX3_grownTells_12 : decode cX3_grownTells 12 = .ok (.iload_n 1, 1) := by decide +kernel
theorem dX3_grownTells_13 : decode cX3_grownTells 13 = .ok (.iaload, 1) := by decide +kernel
theorem dX3_grownTells_14 : decode cX3_grownTells 14 = .ok (.ireturn, 1) := by decide +kernel
set_option maxRecDepth 20000 in
theorem ggX3_shyTells_X3_begin : GoodIn wsX3_shyTells wsX3_begin := goodIn_r _ [5, 6, 13, 14, 15, 16, 17, 18, 19] (by decide +kernel) (by decide +kernel)
set_option maxRecDepth 20000 in
theorem gX3_shyTells_X3_begin : GoodIn wsX3_shyTells (wsV RX3 242 RX3 yX3_begin wsX3_begin) := goodIn_app (goodIn_of _ (by decide +kernel)) ggX3_shyTells_X3_begin
set_option maxRecDepth 20000 in
theorem ggX3_shyTells_X3_grownTells : GoodIn wsX3_shyTells wsX3_grownTells := goodIn_r _ [10, 11, 12, 1, 2, 3, 4, 5, 6, 13, 14, 15, 16, 17, 18, 19, 20, 21, 22, 23, 24, 25] (by decide +kernel) (by decide +kernel)
set_option maxRecDepth 20000 in
theorem gX3_shyTells_X3_grownTells : GoodIn wsX3_shyTells (wsV RX3 194 RX3 yX3_grownTells wsX3_grownTells) := goodIn_app (goodIn_of _ (by decide +kernel)) ggX3_shyTells_X3_grownTells
theorem dX3_shyTells_0 : decode cX3_shyTells 0 = .ok (.aload_n 0, 1) := by decide +kernel
theorem dX3_shyTells_1 : decode cX3_shyTells 1 = .ok (.iconst 2, 1) := by decide +kernel
theorem dX3_shyTells_2 : decode cX3_shyTells 2 = .ok (.invokevirtual 242, 3) := by decide +kernel
theorem dX3_shyTells_5 : decode cX3_shyTells 5 = .ok (.aload_n 0, 1) := by decide +kernel
theorem dX3_shyTells_6 : decode cX3_shyTells 6 = .ok (.iload_n 1, 1) := by decide +kernel
theorem dX3_shyTells_7 : decode cX3_shyTells 7 = .ok (.invokevirtual 194, 3) := by decide +kernel
theorem dX3_shyTells_10 : decode cX3_shyTells 10 = .ok (.bipush 100, 2) := by decide +kernel
theorem dX3_shyTells_12 : decode cX3_shyTells 12 = .ok (.iadd, 1) := by decide +kernel
theorem dX3_shyTells_13 : decode cX3_shyTells 13 = .ok (.ireturn, 1) := by decide +kernel
set_option maxRecDepth 20000 in
theorem ggX3_childTells_X3_begin : GoodIn wsX3_childTells wsX3_begin := goodIn_r _ [5, 6, 17, 18, 19, 20, 21, 22, 23] (by decide +kernel) (by decide +kernel)
set_option maxRecDepth 20000 in
theorem gX3_childTells_X3_begin : GoodIn wsX3_childTells (wsV RX3 242 RX3 yX3_begin wsX3_begin) := goodIn_app (goodIn_of _ (by decide +kernel)) ggX3_childTells_X3_begin
set_option maxRecDepth 20000 in
theorem ggX3_childTells_X3_shyTells : GoodIn wsX3_childTells wsX3_shyTells := goodIn_r _ [10, 1, 2, 3, 4, 5, 6, 11, 12, 13, 14, 15, 16, 17, 18, 19, 20, 21, 22, 23, 24, 25, 26, 27, 28, 29] (by decide +kernel) (by decide +kernel)
set_option maxRecDepth 20000 in
theorem gX3_childTells_X3_shyTells : GoodIn wsX3_childTells (wsV RX3 197 RX3 yX3_shyTells wsX3_shyTells) := goodIn_app (goodIn_of _ (by decide +kernel)) ggX3_childTells_X3_shyTells
set_option maxRecDepth 20000 in
theorem ggX3_childTells_X3_grownTells : GoodIn wsX3_childTells wsX3_grownTells := goodIn_r _ [14, 15, 16, 1, 2, 3, 4, 5, 6, 17, 18, 19, 20, 21, 22, 23, 24, 25, 26, 27, 28, 29] (by decide +kernel) (by decide +kernel)
set_option maxRecDepth 20000 in
theorem gX3_childTells_X3_grownTells : GoodIn wsX3_childTells (wsV RX3 194 RX3 yX3_grownTells wsX3_grownTells) := goodIn_app (goodIn_of _ (by decide +kernel)) ggX3_childTells_X3_grownTells
theorem dX3_childTells_0 : decode cX3_childTells 0 = .ok (.aload_n 0, 1) := by decide +kernel
theorem dX3_childTells_1 : decode cX3_childTells 1 = .ok (.iconst 3, 1) := by decide +kernel
theorem dX3_childTells_2 : decode cX3_childTells 2 = .ok (.invokevirtual 242, 3) := by decide +kernel
theorem dX3_childTells_5 : decode cX3_childTells 5 = .ok (.aload_n 0, 1) := by decide +kernel
theorem dX3_childTells_6 : decode cX3_childTells 6 = .ok (.iload_n 1, 1) := by decide +kernel
theorem dX3_childTells_7 : decode cX3_childTells 7 = .ok (.invokevirtual 197, 3) := by decide +kernel
theorem dX3_childTells_10 : decode cX3_childTells 10 = .ok (.istore_n 2, 1) := by decide +kernel
theorem dX3_childTells_11 : decode cX3_childTells 11 = .ok (.iload_n 2, 1) := by decide +kernel
theorem dX3_childTells_12 : decode cX3_childTells 12 = .ok (.aload_n 0, 1) := by decide +kernel
theorem dX3_childTells_13 : decode cX3_childTells 13 = .ok (.iload_n 1, 1) := by decide +kernel
theorem dX3_childTells_14 : decode cX3_childTells 14 = .ok (.invokevirtual 194, 3) := by decide +kernel
theorem dX3_childTells_17 : decode cX3_childTells 17 = .ok (.iadd, 1) := by decide +kernel
theorem dX3_childTells_18 : decode cX3_childTells 18 = .ok (.ireturn, 1) := by decide +kernel
set_option maxRecDepth 20000 in
theorem ggX3_lentIsCalled_X3_begin : GoodIn wsX3_lentIsCalled wsX3_begin := goodIn_r _ [5, 6, 7, 8, 9, 10, 11, 12, 13] (by decide +kernel) (by decide +kernel)
set_option maxRecDepth 20000 in
theorem gX3_lentIsCalled_X3_begin : GoodIn wsX3_lentIsCalled (wsV RX3 242 RX3 yX3_begin wsX3_begin) := goodIn_app (goodIn_of _ (by decide +kernel)) ggX3_lentIsCalled_X3_begin
theorem dX3_lentIsCalled_0 : decode cX3_lentIsCalled 0 = .ok (.aload_n 0, 1) := by decide +kernel
theorem dX3_lentIsCalled_1 : decode cX3_lentIsCalled 1 = .ok (.iconst 4, 1) := by decide +kernel
theorem dX3_lentIsCalled_2 : decode cX3_lentIsCalled 2 = .ok (.invokevirtual 242, 3) := by decide +kernel
theorem dX3_lentIsCalled_5 : decode cX3_lentIsCalled 5 = .ok (.iload_n 1, 1) := by decide +kernel
theorem dX3_lentIsCalled_6 : decode cX3_lentIsCalled 6 = .ok (.ireturn, 1) := by decide +kernel
set_option maxRecDepth 20000 in
theorem ggX3_childIsCalled_X3_begin : GoodIn wsX3_childIsCalled wsX3_begin := goodIn_r _ [5, 6, 7, 8, 9, 10, 11, 12, 13] (by decide +kernel) (by decide +kernel)
set_option maxRecDepth 20000 in
theorem gX3_childIsCalled_X3_begin : GoodIn wsX3_childIsCalled (wsV RX3 242 RX3 yX3_begin wsX3_begin) := goodIn_app (goodIn_of _ (by decide +kernel)) ggX3_childIsCalled_X3_begin
theorem dX3_childIsCalled_0 : decode cX3_childIsCalled 0 = .ok (.aload_n 0, 1) := by decide +kernel
theorem dX3_childIsCalled_1 : decode cX3_childIsCalled 1 = .ok (.iconst 5, 1) := by decide +kernel
theorem dX3_childIsCalled_2 : decode cX3_childIsCalled 2 = .ok (.invokevirtual 242, 3) := by decide +kernel
theorem dX3_childIsCalled_5 : decode cX3_childIsCalled 5 = .ok (.bipush 30, 2) := by decide +kernel
theorem dX3_childIsCalled_7 : decode cX3_childIsCalled 7 = .ok (.ireturn, 1) := by decide +kernel
theorem dX4_init_0 : decode cX4_init 0 = .ok (.aload_n 0, 1) := by decide +kernel
theorem dX4_init_1 : decode cX4_init 1 = .ok (.invokespecial 1, 3) := by decide +kernel
theorem dX4_init_4 : decode cX4_init 4 = .ok (.aload_n 0, 1) := by decide +kernel
theorem dX4_init_5 : decode cX4_init 5 = .ok (.iconst 4, 1) := by decide +kernel
theorem dX4_init_6 : decode cX4_init 6 = .ok (.newarray .int, 2) := by decide +kernel
theorem dX4_init_8 : decode cX4_init 8 = .ok (.dup, 1) := by decide +kernel
theorem dX4_init_9 : decode cX4_init 9 = .ok (.iconst 0, 1) := by decide +kernel
theorem dX4_init_10 : decode cX4_init 10 = .ok (.bipush (-9), 2) := by decide +kernel
theorem dX4_init_12 : decode cX4_init 12 = .ok (.iastore, 1) := by decide +kernel
theorem dX4_init_13 : decode cX4_init 13 = .ok (.dup, 1) := by decide +kernel
theorem dX4_init_14 : decode cX4_init 14 = .ok (.iconst 1, 1) := by decide +kernel
theorem dX4_init_15 : decode cX4_init 15 = .ok (.bipush (-9), 2) := by decide +kernel
theorem dX4_init_17 : decode cX4_init 17 = .ok (.iastore, 1) := by decide +kernel
theorem dX4_init_18 : decode cX4_init 18 = .ok (.dup, 1) := by decide +kernel
theorem dX4_init_19 : decode cX4_init 19 = .ok (.iconst 2, 1) := by decide +kernel
theorem dX4_init_20 : decode cX4_init 20 = .ok (.bipush (-9), 2) := by decide +kernel
theorem dX4_init_22 : decode cX4_init 22 = .ok (.iastore, 1) := by decide +kernel
theorem dX4_init_23 : decode cX4_init 23 = .ok (.dup, 1) := by decide +kernel
theorem dX4_init_24 : decode cX4_init 24 = .ok (.iconst 3, 1) := by decide +kernel
theorem dX4_init_25 : decode cX4_init 25 = .ok (.bipush (-9), 2) := by decide +kernel
theorem dX4_init_27 : decode cX4_init 27 = .ok (.iastore, 1) := by decide +kernel
theorem dX4_init_28 : decode cX4_init 28 = .ok (.putfield 9, 3) := by decide +kernel
theorem dX4_init_31 : decode cX4_init 31 = .ok (.aload_n 0, 1) := by decide +kernel
theorem dX4_init_32 : decode cX4_init 32 = .ok (.iconst 4, 1) := by decide +kernel
theorem dX4_init_33 : decode cX4_init 33 = .ok (.newarray .int, 2) := by decide +kernel
theorem dX4_init_35 : decode cX4_init 35 = .ok (.putfield 13, 3) := by decide +kernel
theorem dX4_init_38 : decode cX4_init 38 = .ok (.aload_n 0, 1) := by decide +kernel
theorem dX4_init_39 : decode cX4_init 39 = .ok (.sipush 240, 3) := by decide +kernel
theorem dX4_init_42 : decode cX4_init 42 = .ok (.newarray .int, 2) := by decide +kernel
theorem dX4_init_44 : decode cX4_init 44 = .ok (.putfield 16, 3) := by decide +kernel
theorem dX4_init_47 : decode cX4_init 47 = .ok (.aload_n 0, 1) := by decide +kernel
theorem dX4_init_48 : decode cX4_init 48 = .ok (.bipush 6, 2) := by decide +kernel
theorem dX4_init_50 : decode cX4_init 50 = .ok (.newarray .int, 2) := by decide +kernel
theorem dX4_init_52 : decode cX4_init 52 = .ok (.putfield 19, 3) := by decide +kernel
theorem dX4_init_55 : decode cX4_init 55 = .ok (.aload_n 0, 1) := by decide +kernel
theorem dX4_init_56 : decode cX4_init 56 = .ok (.bipush 6, 2) := by decide +kernel
theorem dX4_init_58 : decode cX4_init 58 = .ok (.newarray .int, 2) := by decide +kernel
theorem dX4_init_60 : decode cX4_init 60 = .ok (.putfield 22, 3) := by decide +kernel
theorem dX4_init_63 : decode cX4_init 63 = .ok (.aload_n 0, 1) := by decide +kernel
theorem dX4_init_64 : decode cX4_init 64 = .ok (.bipush 6, 2) := by decide +kernel
theorem dX4_init_66 : decode cX4_init 66 = .ok (.newarray .int, 2) := by decide +kernel
theorem dX4_init_68 : decode cX4_init 68 = .ok (.putfield 25, 3) := by decide +kernel
theorem dX4_init_71 : decode cX4_init 71 = .ok (.aload_n 0, 1) := by decide +kernel
theorem dX4_init_72 : decode cX4_init 72 = .ok (.bipush 24, 2) := by decide +kernel
theorem dX4_init_74 : decode cX4_init 74 = .ok (.newarray .int, 2) := by decide +kernel
theorem dX4_init_76 : decode cX4_init 76 = .ok (.putfield 28, 3) := by decide +kernel
theorem dX4_init_79 : decode cX4_init 79 = .ok (.aload_n 0, 1) := by decide +kernel
theorem dX4_init_80 : decode cX4_init 80 = .ok (.bipush 6, 2) := by decide +kernel
theorem dX4_init_82 : decode cX4_init 82 = .ok (.newarray .int, 2) := by decide +kernel
theorem dX4_init_84 : decode cX4_init 84 = .ok (.putfield 31, 3) := by decide +kernel
theorem dX4_init_87 : decode cX4_init 87 = .ok (.aload_n 0, 1) := by decide +kernel
theorem dX4_init_88 : decode cX4_init 88 = .ok (.bipush 6, 2) := by decide +kernel
theorem dX4_init_90 : decode cX4_init 90 = .ok (.newarray .int, 2) := by decide +kernel
theorem dX4_init_92 : decode cX4_init 92 = .ok (.putfield 34, 3) := by decide +kernel
theorem dX4_init_95 : decode cX4_init 95 = .ok (.aload_n 0, 1) := by decide +kernel
theorem dX4_init_96 : decode cX4_init 96 = .ok (.bipush 8, 2) := by decide +kernel
theorem dX4_init_98 : decode cX4_init 98 = .ok (.newarray .int, 2) := by decide +kernel
theorem dX4_init_100 : decode cX4_init 100 = .ok (.putfield 37, 3) := by decide +kernel
theorem dX4_init_103 : decode cX4_init 103 = .ok (.aload_n 0, 1) := by decide +kernel
theorem dX4_init_104 : decode cX4_init 104 = .ok (.bipush 8, 2) := by decide +kernel
theorem dX4_init_106 : decode cX4_init 106 = .ok (.newarray .int, 2) := by decide +kernel
theorem dX4_init_108 : decode cX4_init 108 = .ok (.putfield 40, 3) := by decide +kernel
theorem dX4_init_111 : decode cX4_init 111 = .ok (.aload_n 0, 1) := by decide +kernel
theorem dX4_init_112 : decode cX4_init 112 = .ok (.bipush 8, 2) := by decide +kernel
theorem dX4_init_114 : decode cX4_init 114 = .ok (.newarray .int, 2) := by decide +kernel
theorem dX4_init_116 : decode cX4_init 116 = .ok (.putfield 43, 3) := by decide +kernel
theorem dX4_init_119 : decode cX4_init 119 = .ok (.return_, 1) := by decide +kernel
theorem dX4_fails_0 : decode cX4_fails 0 = .ok (.aload_n 0, 1) := by decide +kernel
theorem dX4_fails_1 : decode cX4_fails 1 = .ok (.iload_n 1, 1) := by decide +kernel
theorem dX4_fails_2 : decode cX4_fails 2 = .ok (.putfield 46, 3) := by decide +kernel
theorem dX4_fails_5 : decode cX4_fails 5 = .ok (.bipush (-10), 2) := by decide +kernel
theorem dX4_fails_7 : decode cX4_fails 7 = .ok (.iload_n 1, 1) := by decide +kernel
theorem dX4_fails_8 : decode cX4_fails 8 = .ok (.isub, 1) := by decide +kernel
theorem dX4_fails_9 : decode cX4_fails 9 = .ok (.ireturn, 1) := by decide +kernel
theorem dX4_lost_0 : decode cX4_lost 0 = .ok (.aload_n 0, 1) := by decide +kernel
theorem dX4_lost_1 : decode cX4_lost 1 = .ok (.iload_n 1, 1) := by decide +kernel
theorem dX4_lost_2 : decode cX4_lost 2 = .ok (.putfield 46, 3) := by decide +kernel
theorem dX4_lost_5 : decode cX4_lost 5 = .ok (.ldc2_w 50, 3) := by decide +kernel
theorem dX4_lost_8 : decode cX4_lost 8 = .ok (.lreturn, 1) := by decide +kernel
theorem dX4_within_0 : decode cX4_within 0 = .ok (.iload_n 0, 1) := by decide +kernel
theorem dX4_within_1 : decode cX4_within 1 = .ok (.iload_n 1, 1) := by decide +kernel
theorem dX4_within_2 : decode cX4_within 2 = .ok (.if_icmp .lt 12, 3) := by decide +kernel
theorem dX4_within_5 : decode cX4_within 5 = .ok (.iload_n 0, 1) := by decide +kernel
theorem dX4_within_6 : decode cX4_within 6 = .ok (.iload_n 2, 1) := by decide +kernel
theorem dX4_within_7 : decode cX4_within 7 = .ok (.if_icmp .gt 7, 3) := by decide +kernel
theorem dX4_within_10 : decode cX4_within 10 = .ok (.iconst 1, 1) := by decide +kernel
theorem dX4_within_11 : decode cX4_within 11 = .ok (.goto 4, 3) := by decide +kernel
theorem dX4_within_14 : decode cX4_within 14 = .ok (.iconst 0, 1) := by decide +kernel
theorem dX4_within_15 : decode cX4_within 15 = .ok (.ireturn, 1) := by decide +kernel
set_option maxRecDepth 20000 in
theorem ggX4_isSheet_X4_within : GoodIn wsX4_isSheet wsX4_within := goodIn_r _ [4] (by decide +kernel) (by decide +kernel)
set_option maxRecDepth 20000 in
theorem gX4_isSheet_X4_within : GoodIn wsX4_isSheet (va_wsS RX4 52 yX4_within wsX4_within) := goodIn_app (goodIn_of _ (by decide +kernel)) ggX4_isSheet_X4_within
theorem dX4_isSheet_0 : decode cX4_isSheet 0 = .ok (.iload_n 0, 1) := by decide +kernel
theorem dX4_isSheet_1 : decode cX4_isSheet 1 = .ok (.iconst 0, 1) := by decide +kernel
theorem dX4_isSheet_2 : decode cX4_isSheet 2 = .ok (.iconst 3, 1) := by decide +kernel
theorem dX4_isSheet_3 : decode cX4_isSheet 3 = .ok (.invokestatic 52, 3) := by decide +kernel
theorem dX4_isSheet_6 : decode cX4_isSheet 6 = .ok (.ireturn, 1) := by decide +kernel
set_option maxRecDepth 20000 in
theorem ggX4_isSort_X4_within : GoodIn wsX4_isSort wsX4_within := goodIn_r _ [4] (by decide +kernel) (by decide +kernel)
set_option maxRecDepth 20000 in
theorem gX4_isSort_X4_within : GoodIn wsX4_isSort (va_wsS RX4 52 yX4_within wsX4_within) := goodIn_app (goodIn_of _ (by decide +kernel)) ggX4_isSort_X4_within
theorem dX4_isSort_0 : decode cX4_isSort 0 = .ok (.iload_n 0, 1) := by decide +kernel
theorem dX4_isSort_1 : decode cX4_isSort 1 = .ok (.iconst 0, 1) := by decide +kernel
theorem dX4_isSort_2 : decode cX4_isSort 2 = .ok (.iconst 2, 1) := by decide +kernel
theorem dX4_isSort_3 : decode cX4_isSort 3 = .ok (.invokestatic 52, 3) := by decide +kernel
theorem dX4_isSort_6 : decode cX4_isSort 6 = .ok (.ireturn, 1) := by decide +kernel
theorem dX4_against_0 : decode cX4_against 0 = .ok (.aload_n 0, 1) := by decide +kernel
theorem dX4_against_1 : decode cX4_against 1 = .ok (.getfield 9, 3) := by decide +kernel
theorem dX4_against_4 : decode cX4_against 4 = .ok (.iload_n 1, 1) := by decide +kernel
theorem dX4_against_5 : decode cX4_against 5 = .ok (.iaload, 1) := by decide +kernel
theorem dX4_against_6 : decode cX4_against 6 = .ok (.bipush (-9), 2) := by decide +kernel
theorem dX4_against_8 : decode cX4_against 8 = .ok (.if_icmp .eq 15, 3) := by decide +kernel
theorem dX4_against_11 : decode cX4_against 11 = .ok (.aload_n 0, 1) := by decide +kernel
theorem dX4_against_12 : decode cX4_against 12 = .ok (.getfield 9, 3) := by decide +kernel
theorem dX4_against_15 : decode cX4_against 15 = .ok (.iload_n 1, 1) := by decide +kernel
theorem dX4_against_16 : decode cX4_against 16 = .ok (.iaload, 1) := by decide +kernel
theorem dX4_against_17 : decode cX4_against 17 = .ok (.iload_n 2, 1) := by decide +kernel
theorem dX4_against_18 : decode cX4_against 18 = .ok (.if_icmp .eq 5, 3) := by decide +kernel
theorem dX4_against_21 : decode cX4_against 21 = .ok (.iconst 2, 1) := by decide +kernel
theorem dX4_against_22 : decode cX4_against 22 = .ok (.ireturn, 1) := by decide +kernel
theorem dX4_against_23 : decode cX4_against 23 = .ok (.aload_n 0, 1) := by decide +kernel
theorem dX4_against_24 : decode cX4_against 24 = .ok (.getfield 9, 3) := by decide +kernel
theorem dX4_against_27 : decode cX4_against 27 = .ok (.iload_n 1, 1) := by decide +kernel
theorem dX4_against_28 : decode cX4_against 28 = .ok (.iaload, 1) := by decide +kernel
theorem dX4_against_29 : decode cX4_against 29 = .ok (.bipush (-9), 2) := by decide +kernel
theorem dX4_against_31 : decode cX4_against 31 = .ok (.if_icmp .ne 5, 3) := by decide +kernel
theorem dX4_against_34 : decode cX4_against 34 = .ok (.iconst 1, 1) := by decide +kernel
theorem dX4_against_35 : decode cX4_against 35 = .ok (.ireturn, 1) := by decide +kernel
theorem dX4_against_36 : decode cX4_against 36 = .ok (.iload 4, 2) := by decide +kernel
theorem dX4_against_38 : decode cX4_against 38 = .ok (.ifCond .ge 5, 3) := by decide +kernel
theorem dX4_against_41 : decode cX4_against 41 = .ok (.iconst 4, 1) := by decide +kernel
theorem dX4_against_42 : decode cX4_against 42 = .ok (.ireturn, 1) := by decide +kernel
theorem dX4_against_43 : decode cX4_against 43 = .ok (.iload_n 3, 1) := by decide +kernel
theorem dX4_against_44 : decode cX4_against 44 = .ok (.ifCond .lt 26, 3) := by decide +kernel
theorem dX4_against_47 : decode cX4_against 47 = .ok (.iload_n 3, 1) := by decide +kernel
theorem dX4_against_48 : decode cX4_against 48 = .ok (.aload_n 0, 1) := by decide +kernel
theorem dX4_against_49 : decode cX4_against 49 = .ok (.getfield 13, 3) := by decide +kernel
theorem dX4_against_52 : decode cX4_against 52 = .ok (.iload_n 1, 1) := by decide +kernel
theorem dX4_against_53 : decode cX4_against 53 = .ok (.iaload, 1) := by decide +kernel
theorem dX4_against_54 : decode cX4_against 54 = .ok (.if_icmp .gt 16, 3) := by decide +kernel
theorem dX4_against_57 : decode cX4_against 57 = .ok (.iload 4, 2) := by decide +kernel
theorem dX4_against_59 : decode cX4_against 59 = .ok (.aload_n 0, 1) := by decide +kernel
theorem dX4_against_60 : decode cX4_against 60 = .ok (.getfield 13, 3) := by decide +kernel
theorem dX4_against_63 : decode cX4_against 63 = .ok (.iload_n 1, 1) := by decide +kernel
theorem dX4_against_64 : decode cX4_against 64 = .ok (.iaload, 1) := by decide +kernel
theorem dX4_against_65 : decode cX4_against 65 = .ok (.iload_n 3, 1) := by decide +kernel
theorem dX4_against_66 : decode cX4_against 66 = .ok (.isub, 1) := by decide +kernel
theorem dX4_against_67 : decode cX4_against 67 = .ok (.if_icmp .le 7, 3) := by decide +kernel
theorem dX4_against_70 : decode cX4_against 70 = .ok (.iconst 3, 1) := by decide +kernel
theorem dX4_against_71 : decode cX4_against 71 = .ok (.goto 4, 3) := by decide +kernel
theorem dX4_against_74 : decode cX4_against 74 = .ok (.iconst 0, 1) := by decide +kernel
theorem dX4_against_75 : decode cX4_against 75 = .ok (.ireturn, 1) := by decide +kernel
theorem dX4_isPerson_0 : decode cX4_isPerson 0 = .ok (.iload_n 1, 1) := by decide +kernel
theorem dX4_isPerson_1 : decode cX4_isPerson 1 = .ok (.ifCond .lt 15, 3) := by decide +kernel
theorem dX4_isPerson_4 : decode cX4_isPerson 4 = .ok (.iload_n 1, 1) := by decide +kernel
theorem dX4_isPerson_5 : decode cX4_isPerson 5 = .ok (.aload_n 0, 1) := by decide +kernel
theorem dX4_isPerson_6 : decode cX4_isPerson 6 = .ok (.getfield 56, 3) := by decide +kernel
theorem dX4_isPerson_9 : decode cX4_isPerson 9 = .ok (.if_icmp .ge 7, 3) := by decide +kernel
theorem dX4_isPerson_12 : decode cX4_isPerson 12 = .ok (.iconst 1, 1) := by decide +kernel
theorem dX4_isPerson_13 : decode cX4_isPerson 13 = .ok (.goto 4, 3) := by decide +kernel
theorem dX4_isPerson_16 : decode cX4_isPerson 16 = .ok (.iconst 0, 1) := by decide +kernel
theorem dX4_isPerson_17 : decode cX4_isPerson 17 = .ok (.ireturn, 1) := by decide +kernel
theorem dX4_isOf_0 : decode cX4_isOf 0 = .ok (.iload_n 0, 1) := by decide +kernel
theorem dX4_isOf_1 : decode cX4_isOf 1 = .ok (.iload_n 1, 1) := by decide +kernel
theorem dX4_isOf_2 : decode cX4_isOf 2 = .ok (.ishr, 1) := by decide +kernel
theorem dX4_isOf_3 : decode cX4_isOf 3 = .ok (.iconst 1, 1) := by decide +kernel
theorem dX4_isOf_4 : decode cX4_isOf 4 = .ok (.iand, 1) := by decide +kernel
theorem dX4_isOf_5 : decode cX4_isOf 5 = .ok (.iconst 1, 1) := by decide +kernel
theorem dX4_isOf_6 : decode cX4_isOf 6 = .ok (.if_icmp .ne 7, 3) := by decide +kernel
theorem dX4_isOf_9 : decode cX4_isOf 9 = .ok (.iconst 1, 1) := by decide +kernel
theorem dX4_isOf_10 : decode cX4_isOf 10 = .ok (.goto 4, 3) := by decide +kernel
theorem dX4_isOf_13 : decode cX4_isOf 13 = .ok (.iconst 0, 1) := by decide +kernel
theorem dX4_isOf_14 : decode cX4_isOf 14 = .ok (.ireturn, 1) := by decide +kernel
theorem dX4_size_0 : decode cX4_size 0 = .ok (.iconst 0, 1) := by decide +kernel
theorem dX4_size_1 : decode cX4_size 1 = .ok (.istore_n 1, 1) := by decide +kernel
theorem dX4_size_2 : decode cX4_size 2 = .ok (.iload_n 0, 1) := by decide +kernel
theorem dX4_size_3 : decode cX4_size 3 = .ok (.istore_n 2, 1) := by decide +kernel
theorem dX4_size_4 : decode cX4_size 4 = .ok (.iload_n 2, 1) := by decide +kernel
theorem dX4_size_5 : decode cX4_size 5 = .ok (.ifCond .le 16, 3) := by decide +kernel
theorem dX4_size_8 : decode cX4_size 8 = .ok (.iload_n 1, 1) := by decide +kernel
theorem dX4_size_9 : decode cX4_size 9 = .ok (.iload_n 2, 1) := by decide +kernel
theorem dX4_size_10 : decode cX4_size 10 = .ok (.iconst 1, 1) := by decide +kernel
theorem dX4_size_11 : decode cX4_size 11 = .ok (.iand, 1) := by decide +kernel
theorem dX4_size_12 : decode cX4_size 12 = .ok (.iadd, 1) := by decide +kernel
theorem dX4_size_13 : decode cX4_size 13 = .ok (.istore_n 1, 1) := by decide +kernel
theorem dX4_size_14 : decode cX4_size 14 = .ok (.iload_n 2, 1) := by decide +kernel
theorem dX4_size_15 : decode cX4_size 15 = .ok (.iconst 1, 1) := by decide +kernel
theorem dX4_size_16 : decode cX4_size 16 = .ok (.ishr, 1) := by decide +kernel
theorem dX4_size_17 : decode cX4_size 17 = .ok (.istore_n 2, 1) := by decide +kernel
theorem dX4_size_18 : decode cX4_size 18 = .ok (.goto (-14), 3) := by decide +kernel
theorem dX4_size_21 : decode cX4_size 21 = .ok (.iload_n 1, 1) := by decide +kernel
theorem dX4_size_22 : decode cX4_size 22 = .ok (.ireturn, 1) := by decide +kernel
set_option maxRecDepth 20000 in
theorem ggX4_digit_X4_within : GoodIn wsX4_digit wsX4_within := goodIn_r _ [6] (by decide +kernel) (by decide +kernel)
set_option maxRecDepth 20000 in
theorem gX4_digit_X4_within : GoodIn wsX4_digit (va_wsS RX4 52 yX4_within wsX4_within) := goodIn_app (goodIn_of _ (by decide +kernel)) ggX4_digit_X4_within
theorem dX4_digit_0 : decode cX4_digit 0 = .ok (.aload_n 0, 1) := by decide +kernel
theorem dX4_digit_1 : decode cX4_digit 1 = .ok (.getfield 59, 3) := by decide +kernel
theorem dX4_digit_4 : decode cX4_digit 4 = .ok (.iload_n 1, 1) := by decide +kernel
theorem dX4_digit_5 : decode cX4_digit 5 = .ok (.if_icmp .ge 26, 3) := by decide +kernel
theorem dX4_digit_8 : decode cX4_digit 8 = .ok (.aload_n 0, 1) := by decide +kernel
theorem dX4_digit_9 : decode cX4_digit 9 = .ok (.getfield 16, 3) := by decide +kernel
theorem dX4_digit_12 : decode cX4_digit 12 = .ok (.aload_n 0, 1) := by decide +kernel
theorem dX4_digit_13 : decode cX4_digit 13 = .ok (.getfield 59, 3) := by decide +kernel
theorem dX4_digit_16 : decode cX4_digit 16 = .ok (.iaload, 1) := by decide +kernel
theorem dX4_digit_17 : decode cX4_digit 17 = .ok (.bipush 48, 2) := by decide +kernel
theorem dX4_digit_19 : decode cX4_digit 19 = .ok (.iload_n 2, 1) := by decide +kernel
theorem dX4_digit_20 : decode cX4_digit 20 = .ok (.iadd, 1) := by decide +kernel
theorem dX4_digit_21 : decode cX4_digit 21 = .ok (.bipush 48, 2) := by decide +kernel
theorem dX4_digit_23 : decode cX4_digit 23 = .ok (.iload_n 3, 1) := by decide +kernel
theorem dX4_digit_24 : decode cX4_digit 24 = .ok (.iadd, 1) := by decide +kernel
theorem dX4_digit_25 : decode cX4_digit 25 = .ok (.invokestatic 52, 3) := by decide +kernel
theorem dX4_digit_28 : decode cX4_digit 28 = .ok (.ifCond .ne 6, 3) := by decide +kernel
theorem dX4_digit_31 : decode cX4_digit 31 = .ok (.bipush (-9), 2) := by decide +kernel
theorem dX4_digit_33 : decode cX4_digit 33 = .ok (.ireturn, 1) := by decide +kernel
theorem dX4_digit_34 : decode cX4_digit 34 = .ok (.aload_n 0, 1) := by decide +kernel
theorem dX4_digit_35 : decode cX4_digit 35 = .ok (.dup, 1) := by decide +kernel
theorem dX4_digit_36 : decode cX4_digit 36 = .ok (.getfield 59, 3) := by decide +kernel
theorem dX4_digit_39 : decode cX4_digit 39 = .ok (.iconst 1, 1) := by decide +kernel
theorem dX4_digit_40 : decode cX4_digit 40 = .ok (.iadd, 1) := by decide +kernel
theorem dX4_digit_41 : decode cX4_digit 41 = .ok (.putfield 59, 3) := by decide +kernel
theorem dX4_digit_44 : decode cX4_digit 44 = .ok (.aload_n 0, 1) := by decide +kernel
theorem dX4_digit_45 : decode cX4_digit 45 = .ok (.getfield 16, 3) := by decide +kernel
theorem dX4_digit_48 : decode cX4_digit 48 = .ok (.aload_n 0, 1) := by decide +kernel
theorem dX4_digit_49 : decode cX4_digit 49 = .ok (.getfield 59, 3) := by decide +kernel
theorem dX4_digit_52 : decode cX4_digit 52 = .ok (.iconst 1, 1) := by decide +kernel
theorem dX4_digit_53 : decode cX4_digit 53 = .ok (.isub, 1) := by decide +kernel
theorem dX4_digit_54 : decode cX4_digit 54 = .ok (.iaload, 1) := by decide +kernel
theorem dX4_digit_55 : decode cX4_digit 55 = .ok (.bipush 48, 2) := by decide +kernel
theorem dX4_digit_57 : decode cX4_digit 57 = .ok (.isub, 1) := by decide +kernel
theorem dX4_digit_58 : decode cX4_digit 58 = .ok (.ireturn, 1) := by decide +kernel
set_option maxRecDepth 20000 in
theorem ggX4_twoDigits_X4_digit : GoodIn wsX4_twoDigits wsX4_digit := goodIn_r _ [5, 6, 7, 8, 9, 4, 10, 11, 12, 13, 14, 15, 16, 17, 18, 19, 20, 21, 22, 23, 24, 25, 26, 27, 28, 29, 30, 31, 32, 33, 34] (by decide +kernel) (by decide +kernel)
set_option maxRecDepth 20000 in
theorem gX4_twoDigits_X4_digit : GoodIn wsX4_twoDigits (wsV RX4 62 RX4 yX4_digit wsX4_digit) := goodIn_app (goodIn_of _ (by decide +kernel)) ggX4_twoDigits_X4_digit
theorem dX4_twoDigits_0 : decode cX4_twoDigits 0 = .ok (.aload_n 0, 1) := by decide +kernel
theorem dX4_twoDigits_1 : decode cX4_twoDigits 1 = .ok (.iload_n 1, 1) := by decide +kernel
theorem dX4_twoDigits_2 : decode cX4_twoDigits 2 = .ok (.iconst 0, 1) := by decide +kernel
theorem dX4_twoDigits_3 : decode cX4_twoDigits 3 = .ok (.iload_n 2, 1) := by decide +kernel
theorem dX4_twoDigits_4 : decode cX4_twoDigits 4 = .ok (.invokevirtual 62, 3) := by decide +kernel
theorem dX4_twoDigits_7 : decode cX4_twoDigits 7 = .ok (.istore_n 3, 1) := by decide +kernel
theorem dX4_twoDigits_8 : decode cX4_twoDigits 8 = .ok (.iload_n 3, 1) := by decide +kernel
theorem dX4_twoDigits_9 : decode cX4_twoDigits 9 = .ok (.bipush (-9), 2) := by decide +kernel
theorem dX4_twoDigits_11 : decode cX4_twoDigits 11 = .ok (.if_icmp .ne 6, 3) := by decide +kernel
theorem dX4_twoDigits_14 : decode cX4_twoDigits 14 = .ok (.bipush (-9), 2) := by decide +kernel
theorem dX4_twoDigits_16 : decode cX4_twoDigits 16 = .ok (.ireturn, 1) := by decide +kernel
theorem dX4_twoDigits_17 : decode cX4_twoDigits 17 = .ok (.aload_n 0, 1) := by decide +kernel
theorem dX4_twoDigits_18 : decode cX4_twoDigits 18 = .ok (.iload_n 1, 1) := by decide +kernel
theorem dX4_twoDigits_19 : decode cX4_twoDigits 19 = .ok (.iconst 0, 1) := by decide +kernel
theorem dX4_twoDigits_20 : decode cX4_twoDigits 20 = .ok (.bipush 9, 2) := by decide +kernel
theorem dX4_twoDigits_22 : decode cX4_twoDigits 22 = .ok (.invokevirtual 62, 3) := by decide +kernel
