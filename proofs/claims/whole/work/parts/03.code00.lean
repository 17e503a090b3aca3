theorem dX0_init_0 : decode cX0_init 0 = .ok (.aload_n 0, 1) := by decide +kernel
theorem dX0_init_1 : decode cX0_init 1 = .ok (.invokespecial 3, 3) := by decide +kernel
theorem dX0_init_4 : decode cX0_init 4 = .ok (.aload_n 0, 1) := by decide +kernel
theorem dX0_init_5 : decode cX0_init 5 = .ok (.bipush 8, 2) := by decide +kernel
theorem dX0_init_7 : decode cX0_init 7 = .ok (.newarray .int, 2) := by decide +kernel
theorem dX0_init_9 : decode cX0_init 9 = .ok (.putfield 9, 3) := by decide +kernel
theorem dX0_init_12 : decode cX0_init 12 = .ok (.aload_n 0, 1) := by decide +kernel
theorem dX0_init_13 : decode cX0_init 13 = .ok (.bipush 8, 2) := by decide +kernel
theorem dX0_init_15 : decode cX0_init 15 = .ok (.newarray .int, 2) := by decide +kernel
theorem dX0_init_17 : decode cX0_init 17 = .ok (.putfield 15, 3) := by decide +kernel
theorem dX0_init_20 : decode cX0_init 20 = .ok (.aload_n 0, 1) := by decide +kernel
theorem dX0_init_21 : decode cX0_init 21 = .ok (.bipush 8, 2) := by decide +kernel
theorem dX0_init_23 : decode cX0_init 23 = .ok (.newarray .int, 2) := by decide +kernel
theorem dX0_init_25 : decode cX0_init 25 = .ok (.putfield 18, 3) := by decide +kernel
theorem dX0_init_28 : decode cX0_init 28 = .ok (.return_, 1) := by decide +kernel
theorem dX0_take_0 : decode cX0_take 0 = .ok (.aload_n 0, 1) := by decide +kernel
theorem dX0_take_1 : decode cX0_take 1 = .ok (.getfield 9, 3) := by decide +kernel
theorem dX0_take_4 : decode cX0_take 4 = .ok (.aload_n 0, 1) := by decide +kernel
theorem dX0_take_5 : decode cX0_take 5 = .ok (.getfield 21, 3) := by decide +kernel
theorem dX0_take_8 : decode cX0_take 8 = .ok (.iload_n 1, 1) := by decide +kernel
theorem dX0_take_9 : decode cX0_take 9 = .ok (.iastore, 1) := by decide +kernel
theorem dX0_take_10 : decode cX0_take 10 = .ok (.aload_n 0, 1) := by decide +kernel
theorem dX0_take_11 : decode cX0_take 11 = .ok (.getfield 15, 3) := by decide +kernel
theorem dX0_take_14 : decode cX0_take 14 = .ok (.aload_n 0, 1) := by decide +kernel
theorem dX0_take_15 : decode cX0_take 15 = .ok (.getfield 21, 3) := by decide +kernel
theorem dX0_take_18 : decode cX0_take 18 = .ok (.iload_n 2, 1) := by decide +kernel
theorem dX0_take_19 : decode cX0_take 19 = .ok (.iastore, 1) := by decide +kernel
theorem dX0_take_20 : decode cX0_take 20 = .ok (.aload_n 0, 1) := by decide +kernel
theorem dX0_take_21 : decode cX0_take 21 = .ok (.getfield 18, 3) := by decide +kernel
theorem dX0_take_24 : decode cX0_take 24 = .ok (.aload_n 0, 1) := by decide +kernel
theorem dX0_take_25 : decode cX0_take 25 = .ok (.getfield 21, 3) := by decide +kernel
theorem dX0_take_28 : decode cX0_take 28 = .ok (.iload_n 3, 1) := by decide +kernel
theorem dX0_take_29 : decode cX0_take 29 = .ok (.iastore, 1) := by decide +kernel
theorem dX0_take_30 : decode cX0_take 30 = .ok (.aload_n 0, 1) := by decide +kernel
theorem dX0_take_31 : decode cX0_take 31 = .ok (.dup, 1) := by decide +kernel
theorem dX0_take_32 : decode cX0_take 32 = .ok (.getfield 21, 3) := by decide +kernel
theorem dX0_take_35 : decode cX0_take 35 = .ok (.dup_x1, 1) := by decide +kernel
theorem dX0_take_36 : decode cX0_take 36 = .ok (.iconst 1, 1) := by decide +kernel
theorem dX0_take_37 : decode cX0_take 37 = .ok (.iadd, 1) := by decide +kernel
theorem dX0_take_38 : decode cX0_take 38 = .ok (.putfield 21, 3) := by decide +kernel
theorem dX0_take_41 : decode cX0_take 41 = .ok (.ireturn, 1) := by decide +kernel
set_option maxRecDepth 20000 in
theorem ggX0_areSo_X3_says : GoodIn wsX0_areSo wsX3_says := goodIn_r _ [9, 10, 11, 12, 13] (by decide +kernel) (by decide +kernel)
set_option maxRecDepth 20000 in
theorem gX0_areSo_X3_says_n25 : GoodIn wsX0_areSo (wsX3_says) := ggX0_areSo_X3_says
theorem dX0_areSo_0 : decode cX0_areSo 0 = .ok (.iconst 0, 1) := by decide +kernel
theorem dX0_areSo_1 : decode cX0_areSo 1 = .ok (.istore 5, 2) := by decide +kernel
theorem dX0_areSo_3 : decode cX0_areSo 3 = .ok (.iload 5, 2) := by decide +kernel
theorem dX0_areSo_5 : decode cX0_areSo 5 = .ok (.aload_n 0, 1) := by decide +kernel
theorem dX0_areSo_6 : decode cX0_areSo 6 = .ok (.getfield 21, 3) := by decide +kernel
theorem dX0_areSo_9 : decode cX0_areSo 9 = .ok (.if_icmp .ge 80, 3) := by decide +kernel
theorem dX0_areSo_12 : decode cX0_areSo 12 = .ok (.aload_n 0, 1) := by decide +kernel
theorem dX0_areSo_13 : decode cX0_areSo 13 = .ok (.getfield 9, 3) := by decide +kernel
theorem dX0_areSo_16 : decode cX0_areSo 16 = .ok (.iload 5, 2) := by decide +kernel
theorem dX0_areSo_18 : decode cX0_areSo 18 = .ok (.iaload, 1) := by decide +kernel
theorem dX0_areSo_19 : decode cX0_areSo 19 = .ok (.istore 6, 2) := by decide +kernel
theorem dX0_areSo_21 : decode cX0_areSo 21 = .ok (.iload 6, 2) := by decide +kernel
theorem dX0_areSo_23 : decode cX0_areSo 23 = .ok (.iload_n 2, 1) := by decide +kernel
theorem dX0_areSo_24 : decode cX0_areSo 24 = .ok (.if_icmp .ne 19, 3) := by decide +kernel
theorem dX0_areSo_27 : decode cX0_areSo 27 = .ok (.iload_n 3, 1) := by decide +kernel
theorem dX0_areSo_28 : decode cX0_areSo 28 = .ok (.aload_n 0, 1) := by decide +kernel
theorem dX0_areSo_29 : decode cX0_areSo 29 = .ok (.getfield 15, 3) := by decide +kernel
theorem dX0_areSo_32 : decode cX0_areSo 32 = .ok (.iload 5, 2) := by decide +kernel
theorem dX0_areSo_34 : decode cX0_areSo 34 = .ok (.iaload, 1) := by decide +kernel
theorem dX0_areSo_35 : decode cX0_areSo 35 = .ok (.iload 4, 2) := by decide +kernel
theorem dX0_areSo_37 : decode cX0_areSo 37 = .ok (.invokestatic 25, 3) := by decide +kernel
theorem dX0_areSo_40 : decode cX0_areSo 40 = .ok (.goto 27, 3) := by decide +kernel
theorem dX0_areSo_43 : decode cX0_areSo 43 = .ok (.aload_n 1, 1) := by decide +kernel
theorem dX0_areSo_44 : decode cX0_areSo 44 = .ok (.getfield 29, 3) := by decide +kernel
theorem dX0_areSo_47 : decode cX0_areSo 47 = .ok (.iload 6, 2) := by decide +kernel
theorem dX0_areSo_49 : decode cX0_areSo 49 = .ok (.iaload, 1) := by decide +kernel
theorem dX0_areSo_50 : decode cX0_areSo 50 = .ok (.aload_n 0, 1) := by decide +kernel
theorem dX0_areSo_51 : decode cX0_areSo 51 = .ok (.getfield 15, 3) := by decide +kernel
theorem dX0_areSo_54 : decode cX0_areSo 54 = .ok (.iload 5, 2) := by decide +kernel
theorem dX0_areSo_56 : decode cX0_areSo 56 = .ok (.iaload, 1) := by decide +kernel
theorem dX0_areSo_57 : decode cX0_areSo 57 = .ok (.aload_n 1, 1) := by decide +kernel
theorem dX0_areSo_58 : decode cX0_areSo 58 = .ok (.getfield 34, 3) := by decide +kernel
theorem dX0_areSo_61 : decode cX0_areSo 61 = .ok (.iload 6, 2) := by decide +kernel
theorem dX0_areSo_63 : decode cX0_areSo 63 = .ok (.iaload, 1) := by decide +kernel
theorem dX0_areSo_64 : decode cX0_areSo 64 = .ok (.invokestatic 25, 3) := by decide +kernel
theorem dX0_areSo_67 : decode cX0_areSo 67 = .ok (.istore 7, 2) := by decide +kernel
theorem dX0_areSo_69 : decode cX0_areSo 69 = .ok (.iload 7, 2) := by decide +kernel
theorem dX0_areSo_71 : decode cX0_areSo 71 = .ok (.aload_n 0, 1) := by decide +kernel
theorem dX0_areSo_72 : decode cX0_areSo 72 = .ok (.getfield 18, 3) := by decide +kernel
theorem dX0_areSo_75 : decode cX0_areSo 75 = .ok (.iload 5, 2) := by decide +kernel
theorem dX0_areSo_77 : decode cX0_areSo 77 = .ok (.iaload, 1) := by decide +kernel
theorem dX0_areSo_78 : decode cX0_areSo 78 = .ok (.if_icmp .eq 5, 3) := by decide +kernel
theorem dX0_areSo_81 : decode cX0_areSo 81 = .ok (.iconst 0, 1) := by decide +kernel
theorem dX0_areSo_82 : decode cX0_areSo 82 = .ok (.ireturn, 1) := by decide +kernel
theorem dX0_areSo_83 : decode cX0_areSo 83 = .ok (.iinc 5 1, 3) := by decide +kernel
theorem dX0_areSo_86 : decode cX0_areSo 86 = .ok (.goto (-83), 3) := by decide +kernel
theorem dX0_areSo_89 : decode cX0_areSo 89 = .ok (.iconst 1, 1) := by decide +kernel
theorem dX0_areSo_90 : decode cX0_areSo 90 = .ok (.ireturn, 1) := by decide +kernel
theorem dX1_init_0 : decode cX1_init 0 = .ok (.aload_n 0, 1) := by decide +kernel
theorem dX1_init_1 : decode cX1_init 1 = .ok (.invokespecial 3, 3) := by decide +kernel
theorem dX1_init_4 : decode cX1_init 4 = .ok (.aload_n 0, 1) := by decide +kernel
theorem dX1_init_5 : decode cX1_init 5 = .ok (.bipush 60, 2) := by decide +kernel
theorem dX1_init_7 : decode cX1_init 7 = .ok (.newarray .int, 2) := by decide +kernel
theorem dX1_init_9 : decode cX1_init 9 = .ok (.putfield 9, 3) := by decide +kernel
theorem dX1_init_12 : decode cX1_init 12 = .ok (.return_, 1) := by decide +kernel
theorem dX1_renew_0 : decode cX1_renew 0 = .ok (.aload_n 0, 1) := by decide +kernel
theorem dX1_renew_1 : decode cX1_renew 1 = .ok (.iload_n 1, 1) := by decide +kernel
theorem dX1_renew_2 : decode cX1_renew 2 = .ok (.putfield 15, 3) := by decide +kernel
theorem dX1_renew_5 : decode cX1_renew 5 = .ok (.aload_n 0, 1) := by decide +kernel
theorem dX1_renew_6 : decode cX1_renew 6 = .ok (.iconst 0, 1) := by decide +kernel
theorem dX1_renew_7 : decode cX1_renew 7 = .ok (.iload_n 2, 1) := by decide +kernel
theorem dX1_renew_8 : decode cX1_renew 8 = .ok (.aload_n 0, 1) := by decide +kernel
theorem dX1_renew_9 : decode cX1_renew 9 = .ok (.getfield 9, 3) := by decide +kernel
theorem dX1_renew_12 : decode cX1_renew 12 = .ok (.arraylength, 1) := by decide +kernel
theorem dX1_renew_13 : decode cX1_renew 13 = .ok (.invokestatic 19, 3) := by decide +kernel
theorem dX1_renew_16 : decode cX1_renew 16 = .ok (.invokestatic 25, 3) := by decide +kernel
theorem dX1_renew_19 : decode cX1_renew 19 = .ok (.putfield 28, 3) := by decide +kernel
theorem dX1_renew_22 : decode cX1_renew 22 = .ok (.aload_n 0, 1) := by decide +kernel
theorem dX1_renew_23 : decode cX1_renew 23 = .ok (.iconst 1, 1) := by decide +kernel
theorem dX1_renew_24 : decode cX1_renew 24 = .ok (.putfield 31, 3) := by decide +kernel
theorem dX1_renew_27 : decode cX1_renew 27 = .ok (.iconst 0, 1) := by decide +kernel
theorem dX1_renew_28 : decode cX1_renew 28 = .ok (.istore_n 3, 1) := by decide +kernel
theorem dX1_renew_29 : decode cX1_renew 29 = .ok (.iload_n 3, 1) := by decide +kernel
theorem dX1_renew_30 : decode cX1_renew 30 = .ok (.aload_n 0, 1) := by decide +kernel
theorem dX1_renew_31 : decode cX1_renew 31 = .ok (.getfield 9, 3) := by decide +kernel
theorem dX1_renew_34 : decode cX1_renew 34 = .ok (.arraylength, 1) := by decide +kernel
theorem dX1_renew_35 : decode cX1_renew 35 = .ok (.if_icmp .ge 16, 3) := by decide +kernel
theorem dX1_renew_38 : decode cX1_renew 38 = .ok (.aload_n 0, 1) := by decide +kernel
theorem dX1_renew_39 : decode cX1_renew 39 = .ok (.getfield 9, 3) := by decide +kernel
theorem dX1_renew_42 : decode cX1_renew 42 = .ok (.iload_n 3, 1) := by decide +kernel
theorem dX1_renew_43 : decode cX1_renew 43 = .ok (.iconst 0, 1) := by decide +kernel
theorem dX1_renew_44 : decode cX1_renew 44 = .ok (.iastore, 1) := by decide +kernel
theorem dX1_renew_45 : decode cX1_renew 45 = .ok (.iinc 3 1, 3) := by decide +kernel
theorem dX1_renew_48 : decode cX1_renew 48 = .ok (.goto (-19), 3) := by decide +kernel
theorem dX1_renew_51 : decode cX1_renew 51 = .ok (.return_, 1) := by decide +kernel
theorem dX1_at_0 : decode cX1_at 0 = .ok (.iload_n 1, 1) := by decide +kernel
theorem dX1_at_1 : decode cX1_at 1 = .ok (.ifCond .lt 21, 3) := by decide +kernel
theorem dX1_at_4 : decode cX1_at 4 = .ok (.iload_n 1, 1) := by decide +kernel
theorem dX1_at_5 : decode cX1_at 5 = .ok (.aload_n 0, 1) := by decide +kernel
theorem dX1_at_6 : decode cX1_at 6 = .ok (.getfield 9, 3) := by decide +kernel
theorem dX1_at_9 : decode cX1_at 9 = .ok (.arraylength, 1) := by decide +kernel
theorem dX1_at_10 : decode cX1_at 10 = .ok (.if_icmp .ge 12, 3) := by decide +kernel
theorem dX1_at_13 : decode cX1_at 13 = .ok (.aload_n 0, 1) := by decide +kernel
theorem dX1_at_14 : decode cX1_at 14 = .ok (.getfield 9, 3) := by decide +kernel
theorem dX1_at_17 : decode cX1_at 17 = .ok (.iload_n 1, 1) := by decide +kernel
theorem dX1_at_18 : decode cX1_at 18 = .ok (.iaload, 1) := by decide +kernel
theorem dX1_at_19 : decode cX1_at 19 = .ok (.goto 4, 3) := by decide +kernel
theorem dX1_at_22 : decode cX1_at 22 = .ok (.iconst 0, 1) := by decide +kernel
theorem dX1_at_23 : decode cX1_at 23 = .ok (.ireturn, 1) := by decide +kernel
theorem dX1_spans_0 : decode cX1_spans 0 = .ok (.iload_n 1, 1) := by decide +kernel
theorem dX1_spans_1 : decode cX1_spans 1 = .ok (.ifCond .lt 29, 3) := by decide +kernel
theorem dX1_spans_4 : decode cX1_spans 4 = .ok (.iload_n 2, 1) := by decide +kernel
theorem dX1_spans_5 : decode cX1_spans 5 = .ok (.ifCond .lt 25, 3) := by decide +kernel
theorem dX1_spans_8 : decode cX1_spans 8 = .ok (.iload_n 1, 1) := by decide +kernel
theorem dX1_spans_9 : decode cX1_spans 9 = .ok (.aload_n 0, 1) := by decide +kernel
theorem dX1_spans_10 : decode cX1_spans 10 = .ok (.getfield 28, 3) := by decide +kernel
theorem dX1_spans_13 : decode cX1_spans 13 = .ok (.if_icmp .gt 17, 3) := by decide +kernel
theorem dX1_spans_16 : decode cX1_spans 16 = .ok (.iload_n 2, 1) := by decide +kernel
theorem dX1_spans_17 : decode cX1_spans 17 = .ok (.aload_n 0, 1) := by decide +kernel
theorem dX1_spans_18 : decode cX1_spans 18 = .ok (.getfield 28, 3) := by decide +kernel
theorem dX1_spans_21 : decode cX1_spans 21 = .ok (.iload_n 1, 1) := by decide +kernel
theorem dX1_spans_22 : decode cX1_spans 22 = .ok (.isub, 1) := by decide +kernel
theorem dX1_spans_23 : decode cX1_spans 23 = .ok (.if_icmp .gt 7, 3) := by decide +kernel
theorem dX1_spans_26 : decode cX1_spans 26 = .ok (.iconst 1, 1) := by decide +kernel
theorem dX1_spans_27 : decode cX1_spans 27 = .ok (.goto 4, 3) := by decide +kernel
theorem dX1_spans_30 : decode cX1_spans 30 = .ok (.iconst 0, 1) := by decide +kernel
theorem dX1_spans_31 : decode cX1_spans 31 = .ok (.ireturn, 1) := by decide +kernel
set_option maxRecDepth 20000 in
theorem ggX1_faultOf_X1_spans : GoodIn wsX1_faultOf wsX1_spans := goodIn_r _ [7, 8, 9, 10, 11, 12] (by decide +kernel) (by decide +kernel)
set_option maxRecDepth 20000 in
theorem gX1_faultOf_X1_spans : GoodIn wsX1_faultOf (wsV RX1 35 RX1 yX1_spans wsX1_spans) := goodIn_app (goodIn_of _ (by decide +kernel)) ggX1_faultOf_X1_spans
theorem dX1_faultOf_0 : decode cX1_faultOf 0 = .ok (.aload_n 0, 1) := by decide +kernel
theorem dX1_faultOf_1 : decode cX1_faultOf 1 = .ok (.getfield 31, 3) := by decide +kernel
theorem dX1_faultOf_4 : decode cX1_faultOf 4 = .ok (.ifCond .ne 5, 3) := by decide +kernel
theorem dX1_faultOf_7 : decode cX1_faultOf 7 = .ok (.iconst 1, 1) := by decide +kernel
theorem dX1_faultOf_8 : decode cX1_faultOf 8 = .ok (.ireturn, 1) := by decide +kernel
theorem dX1_faultOf_9 : decode cX1_faultOf 9 = .ok (.aload_n 0, 1) := by decide +kernel
theorem dX1_faultOf_10 : decode cX1_faultOf 10 = .ok (.getfield 15, 3) := by decide +kernel
theorem dX1_faultOf_13 : decode cX1_faultOf 13 = .ok (.iload_n 1, 1) := by decide +kernel
theorem dX1_faultOf_14 : decode cX1_faultOf 14 = .ok (.if_icmp .eq 5, 3) := by decide +kernel
theorem dX1_faultOf_17 : decode cX1_faultOf 17 = .ok (.iconst 2, 1) := by decide +kernel
theorem dX1_faultOf_18 : decode cX1_faultOf 18 = .ok (.ireturn, 1) := by decide +kernel
theorem dX1_faultOf_19 : decode cX1_faultOf 19 = .ok (.iload_n 3, 1) := by decide +kernel
theorem dX1_faultOf_20 : decode cX1_faultOf 20 = .ok (.ifCond .ge 5, 3) := by decide +kernel
theorem dX1_faultOf_23 : decode cX1_faultOf 23 = .ok (.iconst 4, 1) := by decide +kernel
theorem dX1_faultOf_24 : decode cX1_faultOf 24 = .ok (.ireturn, 1) := by decide +kernel
theorem dX1_faultOf_25 : decode cX1_faultOf 25 = .ok (.aload_n 0, 1) := by decide +kernel
theorem dX1_faultOf_26 : decode cX1_faultOf 26 = .ok (.iload_n 2, 1) := by decide +kernel
theorem dX1_faultOf_27 : decode cX1_faultOf 27 = .ok (.iload_n 3, 1) := by decide +kernel
theorem dX1_faultOf_28 : decode cX1_faultOf 28 = .ok (.invokevirtual 35, 3) := by decide +kernel
theorem dX1_faultOf_31 : decode cX1_faultOf 31 = .ok (.ifCond .eq 7, 3) := by decide +kernel
theorem dX1_faultOf_34 : decode cX1_faultOf 34 = .ok (.iconst 0, 1) := by decide +kernel
theorem dX1_faultOf_35 : decode cX1_faultOf 35 = .ok (.goto 4, 3) := by decide +kernel
theorem dX1_faultOf_38 : decode cX1_faultOf 38 = .ok (.iconst 3, 1) := by decide +kernel
theorem dX1_faultOf_39 : decode cX1_faultOf 39 = .ok (.ireturn, 1) := by decide +kernel
theorem dX1_cut_0 : decode cX1_cut 0 = .ok (.aload_n 0, 1) := by decide +kernel
theorem dX1_cut_1 : decode cX1_cut 1 = .ok (.getfield 15, 3) := by decide +kernel
theorem dX1_cut_4 : decode cX1_cut 4 = .ok (.lookupswitch 34 #[(0, 28), (1, 31)], 28) := by decide +kernel
theorem dX1_cut_32 : decode cX1_cut 32 = .ok (.iload_n 1, 1) := by decide +kernel
theorem dX1_cut_33 : decode cX1_cut 33 = .ok (.i2b, 1) := by decide +kernel
theorem dX1_cut_34 : decode cX1_cut 34 = .ok (.ireturn, 1) := by decide +kernel
theorem dX1_cut_35 : decode cX1_cut 35 = .ok (.iload_n 1, 1) := by decide +kernel
theorem dX1_cut_36 : decode cX1_cut 36 = .ok (.i2s, 1) := by decide +kernel
theorem dX1_cut_37 : decode cX1_cut 37 = .ok (.ireturn, 1) := by decide +kernel
theorem dX1_cut_38 : decode cX1_cut 38 = .ok (.iload_n 1, 1) := by decide +kernel
theorem dX1_cut_39 : decode cX1_cut 39 = .ok (.ireturn, 1) := by decide +kernel
theorem dX2_init_0 : decode cX2_init 0 = .ok (.aload_n 0, 1) := by decide +kernel
theorem dX2_init_1 : decode cX2_init 1 = .ok (.invokespecial 3, 3) := by decide +kernel
theorem dX2_init_4 : decode cX2_init 4 = .ok (.aload_n 0, 1) := by decide +kernel
theorem dX2_init_5 : decode cX2_init 5 = .ok (.bipush 6, 2) := by decide +kernel
theorem dX2_init_7 : decode cX2_init 7 = .ok (.newarray .int, 2) := by decide +kernel
theorem dX2_init_9 : decode cX2_init 9 = .ok (.putfield 9, 3) := by decide +kernel
theorem dX2_init_12 : decode cX2_init 12 = .ok (.aload_n 0, 1) := by decide +kernel
theorem dX2_init_13 : decode cX2_init 13 = .ok (.bipush 6, 2) := by decide +kernel
theorem dX2_init_15 : decode cX2_init 15 = .ok (.newarray .int, 2) := by decide +kernel
theorem dX2_init_17 : decode cX2_init 17 = .ok (.putfield 15, 3) := by decide +kernel
theorem dX2_init_20 : decode cX2_init 20 = .ok (.aload_n 0, 1) := by decide +kernel
theorem dX2_init_21 : decode cX2_init 21 = .ok (.bipush 6, 2) := by decide +kernel
theorem dX2_init_23 : decode cX2_init 23 = .ok (.newarray .int, 2) := by decide +kernel
theorem dX2_init_25 : decode cX2_init 25 = .ok (.putfield 18, 3) := by decide +kernel
theorem dX2_init_28 : decode cX2_init 28 = .ok (.return_, 1) := by decide +kernel
set_option maxRecDepth 20000 in
theorem ggX2_become_X2_twoDigits : GoodIn wsX2_become wsX2_twoDigits := goodIn_r _ [17, 18, 19, 20, 21, 22, 23, 33, 34, 35, 36] (by decide +kernel) (by decide +kernel)
set_option maxRecDepth 20000 in
theorem gX2_become_X2_twoDigits : GoodIn wsX2_become (va_wsS RX2 34 yX2_twoDigits wsX2_twoDigits) := goodIn_app (goodIn_of _ (by decide +kernel)) ggX2_become_X2_twoDigits
set_option maxRecDepth 20000 in
theorem ggX2_become_X1_at : GoodIn wsX2_become wsX1_at := goodIn_r _ [22, 23, 33, 34, 35, 36] (by decide +kernel) (by decide +kernel)
set_option maxRecDepth 20000 in
theorem gX2_become_X1_at : GoodIn wsX2_become (wsV RX2 44 RX1 yX1_at wsX1_at) := goodIn_app (goodIn_of _ (by decide +kernel)) ggX2_become_X1_at
set_option maxRecDepth 20000 in
theorem ggX2_become_X2_kindOf : GoodIn wsX2_become wsX2_kindOf := goodIn_r _ [26] (by decide +kernel) (by decide +kernel)
set_option maxRecDepth 20000 in
theorem gX2_become_X2_kindOf : GoodIn wsX2_become (va_wsS RX2 50 yX2_kindOf wsX2_kindOf) := goodIn_app (goodIn_of _ (by decide +kernel)) ggX2_become_X2_kindOf
theorem dX2_become_0 : decode cX2_become 0 = .ok (.aload_n 0, 1) := by decide +kernel
theorem dX2_become_1 : decode cX2_become 1 = .ok (.iconst 0, 1) := by decide +kernel
theorem dX2_become_2 : decode cX2_become 2 = .ok (.iload_n 3, 1) := by decide +kernel
theorem dX2_become_3 : decode cX2_become 3 = .ok (.iconst 3, 1) := by decide +kernel
theorem dX2_become_4 : decode cX2_become 4 = .ok (.isub, 1) := by decide +kernel
theorem dX2_become_5 : decode cX2_become 5 = .ok (.bipush 6, 2) := by decide +kernel
theorem dX2_become_7 : decode cX2_become 7 = .ok (.idiv, 1) := by decide +kernel
theorem dX2_become_8 : decode cX2_become 8 = .ok (.bipush 6, 2) := by decide +kernel
theorem dX2_become_10 : decode cX2_become 10 = .ok (.invokestatic 21, 3) := by decide +kernel
theorem dX2_become_13 : decode cX2_become 13 = .ok (.invokestatic 27, 3) := by decide +kernel
theorem dX2_become_16 : decode cX2_become 16 = .ok (.putfield 30, 3) := by decide +kernel
theorem dX2_become_19 : decode cX2_become 19 = .ok (.aload_n 0, 1) := by decide +kernel
theorem dX2_become_20 : decode cX2_become 20 = .ok (.aload_n 1, 1) := by decide +kernel
theorem dX2_become_21 : decode cX2_become 21 = .ok (.iload_n 2, 1) := by decide +kernel
theorem dX2_become_22 : decode cX2_become 22 = .ok (.iconst 1, 1) := by decide +kernel
theorem dX2_become_23 : decode cX2_become 23 = .ok (.iadd, 1) := by decide +kernel
theorem dX2_become_24 : decode cX2_become 24 = .ok (.invokestatic 34, 3) := by decide +kernel
theorem dX2_become_27 : decode cX2_become 27 = .ok (.putfield 38, 3) := by decide +kernel
theorem dX2_become_30 : decode cX2_become 30 = .ok (.aload_n 0, 1) := by decide +kernel
theorem dX2_become_31 : decode cX2_become 31 = .ok (.iconst 0, 1) := by decide +kernel
theorem dX2_become_32 : decode cX2_become 32 = .ok (.putfield 41, 3) := by decide +kernel
theorem dX2_become_35 : decode cX2_become 35 = .ok (.iconst 0, 1) := by decide +kernel
theorem dX2_become_36 : decode cX2_become 36 = .ok (.istore 4, 2) := by decide +kernel
theorem dX2_become_38 : decode cX2_become 38 = .ok (.iload 4, 2) := by decide +kernel
theorem dX2_become_40 : decode cX2_become 40 = .ok (.aload_n 0, 1) := by decide +kernel
theorem dX2_become_41 : decode cX2_become 41 = .ok (.getfield 30, 3) := by decide +kernel
theorem dX2_become_44 : decode cX2_become 44 = .ok (.if_icmp .ge 94, 3) := by decide +kernel
theorem dX2_become_47 : decode cX2_become 47 = .ok (.iload_n 2, 1) := by decide +kernel
theorem dX2_become_48 : decode cX2_become 48 = .ok (.iconst 3, 1) := by decide +kernel
theorem dX2_become_49 : decode cX2_become 49 = .ok (.iadd, 1) := by decide +kernel
theorem dX2_become_50 : decode cX2_become 50 = .ok (.iload 4, 2) := by decide +kernel
theorem dX2_become_52 : decode cX2_become 52 = .ok (.bipush 6, 2) := by decide +kernel
theorem dX2_become_54 : decode cX2_become 54 = .ok (.imul, 1) := by decide +kernel
theorem dX2_become_55 : decode cX2_become 55 = .ok (.iadd, 1) := by decide +kernel
theorem dX2_become_56 : decode cX2_become 56 = .ok (.istore 5, 2) := by decide +kernel
theorem dX2_become_58 : decode cX2_become 58 = .ok (.aload_n 0, 1) := by decide +kernel
theorem dX2_become_59 : decode cX2_become 59 = .ok (.getfield 9, 3) := by decide +kernel
theorem dX2_become_62 : decode cX2_become 62 = .ok (.iload 4, 2) := by decide +kernel
theorem dX2_become_64 : decode cX2_become 64 = .ok (.aload_n 1, 1) := by decide +kernel
theorem dX2_become_65 : decode cX2_become 65 = .ok (.iload 5, 2) := by decide +kernel
theorem dX2_become_67 : decode cX2_become 67 = .ok (.iconst 1, 1) := by decide +kernel
theorem dX2_become_68 : decode cX2_become 68 = .ok (.iadd, 1) := by decide +kernel
theorem dX2_become_69 : decode cX2_become 69 = .ok (.invokevirtual 44, 3) := by decide +kernel
theorem dX2_become_72 : decode cX2_become 72 = .ok (.invokestatic 50, 3) := by decide +kernel
theorem dX2_become_75 : decode cX2_become 75 = .ok (.iastore, 1) := by decide +kernel
theorem dX2_become_76 : decode cX2_become 76 = .ok (.aload_n 0, 1) := by decide +kernel
theorem dX2_become_77 : decode cX2_become 77 = .ok (.getfield 15, 3) := by decide +kernel
theorem dX2_become_80 : decode cX2_become 80 = .ok (.iload 4, 2) := by decide +kernel
theorem dX2_become_82 : decode cX2_become 82 = .ok (.aload_n 1, 1) := by decide +kernel
theorem dX2_become_83 : decode cX2_become 83 = .ok (.iload 5, 2) := by decide +kernel
theorem dX2_become_85 : decode cX2_become 85 = .ok (.iconst 2, 1) := by decide +kernel
theorem dX2_become_86 : decode cX2_become 86 = .ok (.iadd, 1) := by decide +kernel
theorem dX2_become_87 : decode cX2_become 87 = .ok (.invokestatic 34, 3) := by decide +kernel
theorem dX2_become_90 : decode cX2_become 90 = .ok (.iastore, 1) := by decide +kernel
theorem dX2_become_91 : decode cX2_become 91 = .ok (.aload_n 0, 1) := by decide +kernel
theorem dX2_become_92 : decode cX2_become 92 = .ok (.getfield 18, 3) := by decide +kernel
theorem dX2_become_95 : decode cX2_become 95 = .ok (.iload 4, 2) := by decide +kernel
theorem dX2_become_97 : decode cX2_become 97 = .ok (.aload_n 1, 1) := by decide +kernel
theorem dX2_become_98 : decode cX2_become 98 = .ok (.iload 5, 2) := by decide +kernel
theorem dX2_become_100 : decode cX2_become 100 = .ok (.iconst 4, 1) := by decide +kernel
theorem dX2_become_101 : decode cX2_become 101 = .ok (.iadd, 1) := by decide +kernel
theorem dX2_become_102 : decode cX2_become 102 = .ok (.invokevirtual 44, 3) := by decide +kernel
theorem dX2_become_105 : decode cX2_become 105 = .ok (.bipush 48, 2) := by decide +kernel
theorem dX2_become_107 : decode cX2_become 107 = .ok (.isub, 1) := by decide +kernel
theorem dX2_become_108 : decode cX2_become 108 = .ok (.iastore, 1) := by decide +kernel
theorem dX2_become_109 : decode cX2_become 109 = .ok (.aload_n 0, 1) := by decide +kernel
theorem dX2_become_110 : decode cX2_become 110 = .ok (.dup, 1) := by decide +kernel
theorem dX2_become_111 : decode cX2_become 111 = .ok (.getfield 41, 3) := by decide +kernel
theorem dX2_become_114 : decode cX2_become 114 = .ok (.aload_n 1, 1) := by decide +kernel
theorem dX2_become_115 : decode cX2_become 115 = .ok (.iload 5, 2) := by decide +kernel
theorem dX2_become_117 : decode cX2_become 117 = .ok (.iconst 5, 1) := by decide +kernel
theorem dX2_become_118 : decode cX2_become 118 = .ok (.iadd, 1) := by decide +kernel
theorem dX2_become_119 : decode cX2_become 119 = .ok (.invokevirtual 44, 3) := by decide +kernel
theorem dX2_become_122 : decode cX2_become 122 = .ok (.bipush 48, 2) := by decide +kernel
theorem dX2_become_124 : decode cX2_become 124 = .ok (.isub, 1) := by decide +kernel
theorem dX2_become_125 : decode cX2_become 125 = .ok (.iload 4, 2) := by decide +kernel
theorem dX2_become_127 : decode cX2_become 127 = .ok (.ishl, 1) := by decide +kernel
theorem dX2_become_128 : decode cX2_become 128 = .ok (.ior, 1) := by decide +kernel
theorem dX2_become_129 : decode cX2_become 129 = .ok (.putfield 41, 3) := by decide +kernel
theorem dX2_become_132 : decode cX2_become 132 = .ok (.iinc 4 1, 3) := by decide +kernel
theorem dX2_become_135 : decode cX2_become 135 = .ok (.goto (-97), 3) := by decide +kernel
theorem dX2_become_138 : decode cX2_become 138 = .ok (.return_, 1) := by decide +kernel
theorem dX2_kindOf_0 : decode cX2_kindOf 0 = .ok (.iload_n 0, 1) := by decide +kernel
theorem dX2_kindOf_1 : decode cX2_kindOf 1 = .ok (.bipush 111, 2) := by decide +kernel
theorem dX2_kindOf_3 : decode cX2_kindOf 3 = .ok (.if_icmp .ne 5, 3) := by decide +kernel
theorem dX2_kindOf_6 : decode cX2_kindOf 6 = .ok (.iconst 0, 1) := by decide +kernel
theorem dX2_kindOf_7 : decode cX2_kindOf 7 = .ok (.ireturn, 1) := by decide +kernel
theorem dX2_kindOf_8 : decode cX2_kindOf 8 = .ok (.iload_n 0, 1) := by decide +kernel
theorem dX2_kindOf_9 : decode cX2_kindOf 9 = .ok (.bipush 115, 2) := by decide +kernel
theorem dX2_kindOf_11 : decode cX2_kindOf 11 = .ok (.if_icmp .ne 7, 3) := by decide +kernel
theorem dX2_kindOf_14 : decode cX2_kindOf 14 = .ok (.iconst 1, 1) := by decide +kernel
theorem dX2_kindOf_15 : decode cX2_kindOf 15 = .ok (.goto 4, 3) := by decide +kernel
theorem dX2_kindOf_18 : decode cX2_kindOf 18 = .ok (.iconst 2, 1) := by decide +kernel
theorem dX2_kindOf_19 : decode cX2_kindOf 19 = .ok (.ireturn, 1) := by decide +kernel
set_option maxRecDepth 20000 in
theorem ggX2_twoDigits_X1_at : GoodIn wsX2_twoDigits wsX1_at := goodIn_r _ [5, 6, 7, 8, 9, 10] (by decide +kernel) (by decide +kernel)
set_option maxRecDepth 20000 in
theorem gX2_twoDigits_X1_at : GoodIn wsX2_twoDigits (wsV RX2 44 RX1 yX1_at wsX1_at) := goodIn_app (goodIn_of _ (by decide +kernel)) ggX2_twoDigits_X1_at
theorem dX2_twoDigits_0 : decode cX2_twoDigits 0 = .ok (.bipush 10, 2) := by decide +kernel
theorem dX2_twoDigits_2 : decode cX2_twoDigits 2 = .ok (.aload_n 0, 1) := by decide +kernel
theorem dX2_twoDigits_3 : decode cX2_twoDigits 3 = .ok (.iload_n 1, 1) := by decide +kernel
theorem dX2_twoDigits_4 : decode cX2_twoDigits 4 = .ok (.invokevirtual 44, 3) := by decide +kernel
theorem dX2_twoDigits_7 : decode cX2_twoDigits 7 = .ok (.bipush 48, 2) := by decide +kernel
theorem dX2_twoDigits_9 : decode cX2_twoDigits 9 = .ok (.isub, 1) := by decide +kernel
theorem dX2_twoDigits_10 : decode cX2_twoDigits 10 = .ok (.imul, 1) := by decide +kernel
theorem dX2_twoDigits_11 : decode cX2_twoDigits 11 = .ok (.aload_n 0, 1) := by decide +kernel
theorem dX2_twoDigits_12 : decode cX2_twoDigits 12 = .ok (.iload_n 1, 1) := by decide +kernel
theorem dX2_twoDigits_13 : decode cX2_twoDigits 13 = .ok (.iconst 1, 1) := by decide +kernel
theorem dX2_twoDigits_14 : decode cX2_twoDigits 14 = .ok (.iadd, 1) := by decide +kernel
theorem dX2_twoDigits_15 : decode cX2_twoDigits 15 = .ok (.invokevirtual 44, 3) := by decide +kernel
theorem dX2_twoDigits_18 : decode cX2_twoDigits 18 = .ok (.iadd, 1) := by decide +kernel
theorem dX2_twoDigits_19 : decode cX2_twoDigits 19 = .ok (.bipush 48, 2) := by decide +kernel
theorem dX2_twoDigits_21 : decode cX2_twoDigits 21 = .ok (.isub, 1) := by decide +kernel
theorem dX2_twoDigits_22 : decode cX2_twoDigits 22 = .ok (.ireturn, 1) := by decide +kernel
theorem dX2_becomeLike_0 : decode cX2_becomeLike 0 = .ok (.aload_n 0, 1) := by decide +kernel
theorem dX2_becomeLike_1 : decode cX2_becomeLike 1 = .ok (.aload_n 1, 1) := by decide +kernel
theorem dX2_becomeLike_2 : decode cX2_becomeLike 2 = .ok (.getfield 30, 3) := by decide +kernel
theorem dX2_becomeLike_5 : decode cX2_becomeLike 5 = .ok (.putfield 30, 3) := by decide +kernel
theorem dX2_becomeLike_8 : decode cX2_becomeLike 8 = .ok (.aload_n 0, 1) := by decide +kernel
theorem dX2_becomeLike_9 : decode cX2_becomeLike 9 = .ok (.aload_n 1, 1) := by decide +kernel
theorem dX2_becomeLike_10 : decode cX2_becomeLike 10 = .ok (.getfield 41, 3) := by decide +kernel
theorem dX2_becomeLike_13 : decode cX2_becomeLike 13 = .ok (.putfield 41, 3) := by decide +kernel
theorem dX2_becomeLike_16 : decode cX2_becomeLike 16 = .ok (.aload_n 0, 1) := by decide +kernel
theorem dX2_becomeLike_17 : decode cX2_becomeLike 17 = .ok (.aload_n 1, 1) := by decide +kernel
theorem dX2_becomeLike_18 : decode cX2_becomeLike 18 = .ok (.getfield 38, 3) := by decide +kernel
theorem dX2_becomeLike_21 : decode cX2_becomeLike 21 = .ok (.putfield 38, 3) := by decide +kernel
theorem dX2_becomeLike_24 : decode cX2_becomeLike 24 = .ok (.iconst 0, 1) := by decide +kernel
theorem dX2_becomeLike_25 : decode cX2_becomeLike 25 = .ok (.istore_n 2, 1) := by decide +kernel
theorem dX2_becomeLike_26 : decode cX2_becomeLike 26 = .ok (.iload_n 2, 1) := by decide +kernel
theorem dX2_becomeLike_27 : decode cX2_becomeLike 27 = .ok (.aload_n 0, 1) := by decide +kernel
theorem dX2_becomeLike_28 : decode cX2_becomeLike 28 = .ok (.getfield 30, 3) := by decide +kernel
theorem dX2_becomeLike_31 : decode cX2_becomeLike 31 = .ok (.if_icmp .ge 45, 3) := by decide +kernel
theorem dX2_becomeLike_34 : decode cX2_becomeLike 34 = .ok (.aload_n 0, 1) := by decide +kernel
theorem dX2_becomeLike_35 : decode cX2_becomeLike 35 = .ok (.getfield 9, 3) := by decide +kernel
theorem dX2_becomeLike_38 : decode cX2_becomeLike 38 = .ok (.iload_n 2, 1) := by decide +kernel
theorem dX2_becomeLike_39 : decode cX2_becomeLike 39 = .ok (.aload_n 1, 1) := by decide +kernel
theorem dX2_becomeLike_40 : decode cX2_becomeLike 40 = .ok (.getfield 9, 3) := by decide +kernel
theorem dX2_becomeLike_43 : decode cX2_becomeLike 43 = .ok (.iload_n 2, 1) := by decide +kernel
theorem dX2_becomeLike_44 : decode cX2_becomeLike 44 = .ok (.iaload, 1) := by decide +kernel
theorem dX2_becomeLike_45 : decode cX2_becomeLike 45 = .ok (.iastore, 1) := by decide +kernel
theorem dX2_becomeLike_46 : decode cX2_becomeLike 46 = .ok (.aload_n 0, 1) := by decide +kernel
theorem dX2_becomeLike_47 : decode cX2_becomeLike 47 = .ok (.getfield 15, 3) := by decide +kernel
theorem dX2_becomeLike_50 : decode cX2_becomeLike 50 = .ok (.iload_n 2, 1) := by decide +kernel
theorem dX2_becomeLike_51 : decode cX2_becomeLike 51 = .ok (.aload_n 1, 1) := by decide +kernel
theorem dX2_becomeLike_52 : decode cX2_becomeLike 52 = .ok (.getfield 15, 3) := by decide +kernel
theorem dX2_becomeLike_55 : decode cX2_becomeLike 55 = .ok (.iload_n 2, 1) := by decide +kernel
theorem dX2_becomeLike_56 : decode cX2_becomeLike 56 = .ok (.iaload, 1) := by decide +kernel
theorem dX2_becomeLike_57 : decode cX2_becomeLike 57 = .ok (.iastore, 1) := by decide +kernel
theorem dX2_becomeLike_58 : decode cX2_becomeLike 58 = .ok (.aload_n 0, 1) := by decide +kernel
theorem dX2_becomeLike_59 : decode cX2_becomeLike 59 = .ok (.getfield 18, 3) := by decide +kernel
theorem dX2_becomeLike_62 : decode cX2_becomeLike 62 = .ok (.iload_n 2, 1) := by decide +kernel
theorem dX2_becomeLike_63 : decode cX2_becomeLike 63 = .ok (.aload_n 1, 1) := by decide +kernel
theorem dX2_becomeLike_64 : decode cX2_becomeLike 64 = .ok (.getfield 18, 3) := by decide +kernel
theorem dX2_becomeLike_67 : decode cX2_becomeLike 67 = .ok (.iload_n 2, 1) := by decide +kernel
theorem dX2_becomeLike_68 : decode cX2_becomeLike 68 = .ok (.iaload, 1) := by decide +kernel
theorem dX2_becomeLike_69 : decode cX2_becomeLike 69 = .ok (.iastore, 1) := by decide +kernel
theorem dX2_becomeLike_70 : decode cX2_becomeLike 70 = .ok (.iinc 2 1, 3) := by decide +kernel
theorem dX2_becomeLike_73 : decode cX2_becomeLike 73 = .ok (.goto (-47), 3) := by decide +kernel
theorem dX2_becomeLike_76 : decode cX2_becomeLike 76 = .ok (.return_, 1) := by decide +kernel
theorem dX2_has_0 : decode cX2_has 0 = .ok (.iload_n 1, 1) := by decide +kernel
theorem dX2_has_1 : decode cX2_has 1 = .ok (.ifCond .lt 15, 3) := by decide +kernel
theorem dX2_has_4 : decode cX2_has 4 = .ok (.iload_n 1, 1) := by decide +kernel
theorem dX2_has_5 : decode cX2_has 5 = .ok (.aload_n 0, 1) := by decide +kernel
theorem dX2_has_6 : decode cX2_has 6 = .ok (.getfield 30, 3) := by decide +kernel
theorem dX2_has_9 : decode cX2_has 9 = .ok (.if_icmp .ge 7, 3) := by decide +kernel
theorem dX2_has_12 : decode cX2_has 12 = .ok (.iconst 1, 1) := by decide +kernel
theorem dX2_has_13 : decode cX2_has 13 = .ok (.goto 4, 3) := by decide +kernel
theorem dX2_has_16 : decode cX2_has 16 = .ok (.iconst 0, 1) := by decide +kernel
theorem dX2_has_17 : decode cX2_has 17 = .ok (.ireturn, 1) := by decide +kernel
set_option maxRecDepth 20000 in
theorem ggX2_isIn_X3_isMember : GoodIn wsX2_isIn wsX3_isMember := goodIn_r _ [4] (by decide +kernel) (by decide +kernel)
set_option maxRecDepth 20000 in
theorem gX2_isIn_X3_isMember_n53 : GoodIn wsX2_isIn (wsX3_isMember) := ggX2_isIn_X3_isMember
theorem dX2_isIn_0 : decode cX2_isIn 0 = .ok (.aload_n 0, 1) := by decide +kernel
theorem dX2_isIn_1 : decode cX2_isIn 1 = .ok (.getfield 41, 3) := by decide +kernel
theorem dX2_isIn_4 : decode cX2_isIn 4 = .ok (.iload_n 1, 1) := by decide +kernel
theorem dX2_isIn_5 : decode cX2_isIn 5 = .ok (.invokestatic 53, 3) := by decide +kernel
theorem dX2_isIn_8 : decode cX2_isIn 8 = .ok (.ireturn, 1) := by decide +kernel
set_option maxRecDepth 20000 in
theorem ggX2_heads_J6_bitCount_0f7a4 : GoodIn wsX2_heads wsJ6_bitCount_0f7a4 := goodIn_r _ [5, 6, 7, 8] (by decide +kernel) (by decide +kernel)
set_option maxRecDepth 20000 in
theorem gX2_heads_J6_bitCount_0f7a4 : GoodIn wsX2_heads (va_wsS RX2 57 yJ6_bitCount_0f7a4 wsJ6_bitCount_0f7a4) := goodIn_app (goodIn_of _ (by decide +kernel)) ggX2_heads_J6_bitCount_0f7a4
theorem dX2_heads_0 : decode cX2_heads 0 = .ok (.aload_n 0, 1) := by decide +kernel
theorem dX2_heads_1 : decode cX2_heads 1 = .ok (.getfield 41, 3) := by decide +kernel
theorem dX2_heads_4 : decode cX2_heads 4 = .ok (.invokestatic 57, 3) := by decide +kernel
theorem dX2_heads_7 : decode cX2_heads 7 = .ok (.ireturn, 1) := by decide +kernel
theorem dX2_allSets_0 : decode cX2_allSets 0 = .ok (.iconst 1, 1) := by decide +kernel
theorem dX2_allSets_1 : decode cX2_allSets 1 = .ok (.aload_n 0, 1) := by decide +kernel
theorem dX2_allSets_2 : decode cX2_allSets 2 = .ok (.getfield 30, 3) := by decide +kernel
theorem dX2_allSets_5 : decode cX2_allSets 5 = .ok (.ishl, 1) := by decide +kernel
theorem dX2_allSets_6 : decode cX2_allSets 6 = .ok (.ireturn, 1) := by decide +kernel
set_option maxRecDepth 20000 in
theorem ggX2_partsOf_X3_isMember : GoodIn wsX2_partsOf wsX3_isMember := goodIn_r _ [5] (by decide +kernel) (by decide +kernel)
set_option maxRecDepth 20000 in
theorem gX2_partsOf_X3_isMember_n53 : GoodIn wsX2_partsOf (wsX3_isMember) := ggX2_partsOf_X3_isMember
theorem dX2_partsOf_0 : decode cX2_partsOf 0 = .ok (.iconst 0, 1) := by decide +kernel
theorem dX2_partsOf_1 : decode cX2_partsOf 1 = .ok (.istore_n 2, 1) := by decide +kernel
theorem dX2_partsOf_2 : decode cX2_partsOf 2 = .ok (.iconst 0, 1) := by decide +kernel
theorem dX2_partsOf_3 : decode cX2_partsOf 3 = .ok (.istore_n 3, 1) := by decide +kernel
theorem dX2_partsOf_4 : decode cX2_partsOf 4 = .ok (.iload_n 3, 1) := by decide +kernel
theorem dX2_partsOf_5 : decode cX2_partsOf 5 = .ok (.aload_n 0, 1) := by decide +kernel
theorem dX2_partsOf_6 : decode cX2_partsOf 6 = .ok (.getfield 30, 3) := by decide +kernel
theorem dX2_partsOf_9 : decode cX2_partsOf 9 = .ok (.if_icmp .ge 30, 3) := by decide +kernel
theorem dX2_partsOf_12 : decode cX2_partsOf 12 = .ok (.iload_n 2, 1) := by decide +kernel
theorem dX2_partsOf_13 : decode cX2_partsOf 13 = .ok (.iload_n 1, 1) := by decide +kernel
theorem dX2_partsOf_14 : decode cX2_partsOf 14 = .ok (.iload_n 3, 1) := by decide +kernel
theorem dX2_partsOf_15 : decode cX2_partsOf 15 = .ok (.invokestatic 53, 3) := by decide +kernel
theorem dX2_partsOf_18 : decode cX2_partsOf 18 = .ok (.ifCond .eq 12, 3) := by decide +kernel
theorem dX2_partsOf_21 : decode cX2_partsOf 21 = .ok (.aload_n 0, 1) := by decide +kernel
theorem dX2_partsOf_22 : decode cX2_partsOf 22 = .ok (.getfield 15, 3) := by decide +kernel
theorem dX2_partsOf_25 : decode cX2_partsOf 25 = .ok (.iload_n 3, 1) := by decide +kernel
theorem dX2_partsOf_26 : decode cX2_partsOf 26 = .ok (.iaload, 1) := by decide +kernel
theorem dX2_partsOf_27 : decode cX2_partsOf 27 = .ok (.goto 4, 3) := by decide +kernel
theorem dX2_partsOf_30 : decode cX2_partsOf 30 = .ok (.iconst 0, 1) := by decide +kernel
theorem dX2_partsOf_31 : decode cX2_partsOf 31 = .ok (.iadd, 1) := by decide +kernel
theorem dX2_partsOf_32 : decode cX2_partsOf 32 = .ok (.istore_n 2, 1) := by decide +kernel
theorem dX2_partsOf_33 : decode cX2_partsOf 33 = .ok (.iinc 3 1, 3) := by decide +kernel
theorem dX2_partsOf_36 : decode cX2_partsOf 36 = .ok (.goto (-32), 3) := by decide +kernel
theorem dX2_partsOf_39 : decode cX2_partsOf 39 = .ok (.iload_n 2, 1) := by decide +kernel
theorem dX2_partsOf_40 : decode cX2_partsOf 40 = .ok (.ireturn, 1) := by decide +kernel
set_option maxRecDepth 20000 in
theorem ggX2_saysNow_X3_says : GoodIn wsX2_saysNow wsX3_says := goodIn_r _ [6, 7, 8, 9, 10] (by decide +kernel) (by decide +kernel)
set_option maxRecDepth 20000 in
theorem gX2_saysNow_X3_says_n62 : GoodIn wsX2_saysNow (wsX3_says) := ggX2_saysNow_X3_says
theorem dX2_saysNow_0 : decode cX2_saysNow 0 = .ok (.aload_n 0, 1) := by decide +kernel
theorem dX2_saysNow_1 : decode cX2_saysNow 1 = .ok (.getfield 9, 3) := by decide +kernel
theorem dX2_saysNow_4 : decode cX2_saysNow 4 = .ok (.iload_n 1, 1) := by decide +kernel
theorem dX2_saysNow_5 : decode cX2_saysNow 5 = .ok (.iaload, 1) := by decide +kernel
theorem dX2_saysNow_6 : decode cX2_saysNow 6 = .ok (.aload_n 0, 1) := by decide +kernel
theorem dX2_saysNow_7 : decode cX2_saysNow 7 = .ok (.getfield 15, 3) := by decide +kernel
theorem dX2_saysNow_10 : decode cX2_saysNow 10 = .ok (.iload_n 1, 1) := by decide +kernel
theorem dX2_saysNow_11 : decode cX2_saysNow 11 = .ok (.iaload, 1) := by decide +kernel
theorem dX2_saysNow_12 : decode cX2_saysNow 12 = .ok (.aload_n 0, 1) := by decide +kernel
theorem dX2_saysNow_13 : decode cX2_saysNow 13 = .ok (.getfield 18, 3) := by decide +kernel
theorem dX2_saysNow_16 : decode cX2_saysNow 16 = .ok (.iload_n 1, 1) := by decide +kernel
theorem dX2_saysNow_17 : decode cX2_saysNow 17 = .ok (.iaload, 1) := by decide +kernel
theorem dX2_saysNow_18 : decode cX2_saysNow 18 = .ok (.invokestatic 62, 3) := by decide +kernel
theorem dX2_saysNow_21 : decode cX2_saysNow 21 = .ok (.ireturn, 1) := by decide +kernel
set_option maxRecDepth 20000 in
theorem ggX2_allSay_X2_isIn : GoodIn wsX2_allSay wsX2_isIn := goodIn_r _ [6, 7, 8, 9, 10, 24, 25, 26, 27, 28, 29] (by decide +kernel) (by decide +kernel)
set_option maxRecDepth 20000 in
theorem gX2_allSay_X2_isIn : GoodIn wsX2_allSay (wsV RX2 66 RX2 yX2_isIn wsX2_isIn) := goodIn_app (goodIn_of _ (by decide +kernel)) ggX2_allSay_X2_isIn
set_option maxRecDepth 20000 in
theorem ggX2_allSay_X2_saysNow : GoodIn wsX2_allSay wsX2_saysNow := goodIn_r _ [14, 15, 16, 17, 18, 9, 19, 20, 21, 22, 23, 24, 25, 26, 27, 28, 29] (by decide +kernel) (by decide +kernel)
set_option maxRecDepth 20000 in
theorem gX2_allSay_X2_saysNow : GoodIn wsX2_allSay (wsV RX2 70 RX2 yX2_saysNow wsX2_saysNow) := goodIn_app (goodIn_of _ (by decide +kernel)) ggX2_allSay_X2_saysNow
theorem dX2_allSay_0 : decode cX2_allSay 0 = .ok (.iconst 0, 1) := by decide +kernel
theorem dX2_allSay_1 : decode cX2_allSay 1 = .ok (.istore_n 1, 1) := by decide +kernel
theorem dX2_allSay_2 : decode cX2_allSay 2 = .ok (.iconst 0, 1) := by decide +kernel
theorem dX2_allSay_3 : decode cX2_allSay 3 = .ok (.istore_n 2, 1) := by decide +kernel
theorem dX2_allSay_4 : decode cX2_allSay 4 = .ok (.iload_n 2, 1) := by decide +kernel
theorem dX2_allSay_5 : decode cX2_allSay 5 = .ok (.aload_n 0, 1) := by decide +kernel
theorem dX2_allSay_6 : decode cX2_allSay 6 = .ok (.getfield 30, 3) := by decide +kernel
theorem dX2_allSay_9 : decode cX2_allSay 9 = .ok (.if_icmp .ge 29, 3) := by decide +kernel
theorem dX2_allSay_12 : decode cX2_allSay 12 = .ok (.iload_n 1, 1) := by decide +kernel
theorem dX2_allSay_13 : decode cX2_allSay 13 = .ok (.aload_n 0, 1) := by decide +kernel
theorem dX2_allSay_14 : decode cX2_allSay 14 = .ok (.iload_n 2, 1) := by decide +kernel
theorem dX2_allSay_15 : decode cX2_allSay 15 = .ok (.invokevirtual 66, 3) := by decide +kernel
theorem dX2_allSay_18 : decode cX2_allSay 18 = .ok (.ifCond .eq 11, 3) := by decide +kernel
theorem dX2_allSay_21 : decode cX2_allSay 21 = .ok (.aload_n 0, 1) := by decide +kernel
theorem dX2_allSay_22 : decode cX2_allSay 22 = .ok (.iload_n 2, 1) := by decide +kernel
theorem dX2_allSay_23 : decode cX2_allSay 23 = .ok (.invokevirtual 70, 3) := by decide +kernel
theorem dX2_allSay_26 : decode cX2_allSay 26 = .ok (.goto 4, 3) := by decide +kernel
theorem dX2_allSay_29 : decode cX2_allSay 29 = .ok (.iconst 0, 1) := by decide +kernel
theorem dX2_allSay_30 : decode cX2_allSay 30 = .ok (.iadd, 1) := by decide +kernel
theorem dX2_allSay_31 : decode cX2_allSay 31 = .ok (.istore_n 1, 1) := by decide +kernel
theorem dX2_allSay_32 : decode cX2_allSay 32 = .ok (.iinc 2 1, 3) := by decide +kernel
theorem dX2_allSay_35 : decode cX2_allSay 35 = .ok (.goto (-31), 3) := by decide +kernel
theorem dX2_allSay_38 : decode cX2_allSay 38 = .ok (.iload_n 1, 1) := by decide +kernel
theorem dX2_allSay_39 : decode cX2_allSay 39 = .ok (.ireturn, 1) := by decide +kernel
set_option maxRecDepth 20000 in
theorem ggX2_acts_X2_isIn : GoodIn wsX2_acts wsX2_isIn := goodIn_r _ [7, 1, 8, 9, 10, 48, 49, 50, 51, 52, 53] (by decide +kernel) (by decide +kernel)
set_option maxRecDepth 20000 in
theorem gX2_acts_X2_isIn : GoodIn wsX2_acts (wsV RX2 66 RX2 yX2_isIn wsX2_isIn) := goodIn_app (goodIn_of _ (by decide +kernel)) ggX2_acts_X2_isIn
set_option maxRecDepth 20000 in
theorem ggX2_acts_X2_shareFrom : GoodIn wsX2_acts wsX2_shareFrom := goodIn_r _ [14, 1, 15, 16, 17, 18, 19, 6, 20, 8, 9, 10, 21, 22, 23, 24, 25, 26, 27, 28, 29, 30, 31, 3, 4, 5, 7, 32, 33, 34, 35, 2, 48, 49, 50, 51, 52, 53] (by decide +kernel) (by decide +kernel)
set_option maxRecDepth 20000 in
theorem gX2_acts_X2_shareFrom : GoodIn wsX2_acts (wsV RX2 73 RX2 yX2_shareFrom wsX2_shareFrom) := goodIn_app (goodIn_of _ (by decide +kernel)) ggX2_acts_X2_shareFrom
set_option maxRecDepth 20000 in
theorem ggX2_acts_X2_goOut : GoodIn wsX2_acts wsX2_goOut := goodIn_r _ [39, 16, 1, 32, 33, 34, 6, 35, 2, 15, 21, 22, 23, 24, 25, 26, 27, 28, 29, 30, 31, 3, 4, 5, 7, 8, 9, 10, 48, 49, 50, 51, 52, 53] (by decide +kernel) (by decide +kernel)
set_option maxRecDepth 20000 in
theorem gX2_acts_X2_goOut : GoodIn wsX2_acts (wsV RX2 76 RX2 yX2_goOut wsX2_goOut) := goodIn_app (goodIn_of _ (by decide +kernel)) ggX2_acts_X2_goOut
set_option maxRecDepth 20000 in
theorem ggX2_acts_X2_heads : GoodIn wsX2_acts wsX2_heads := goodIn_r _ [24, 1, 25, 26, 27, 28, 29, 30, 31, 48, 49, 50, 51, 52, 53] (by decide +kernel) (by decide +kernel)
set_option maxRecDepth 20000 in
theorem gX2_acts_X2_heads : GoodIn wsX2_acts (wsV RX2 79 RX2 yX2_heads wsX2_heads) := goodIn_app (goodIn_of _ (by decide +kernel)) ggX2_acts_X2_heads
set_option maxRecDepth 20000 in
theorem ggX2_acts_X2_giveTo : GoodIn wsX2_acts wsX2_giveTo := goodIn_r _ [43, 15, 16, 3, 4, 5, 6, 7, 1, 8, 9, 10, 48, 49, 50, 51, 52, 53] (by decide +kernel) (by decide +kernel)
set_option maxRecDepth 20000 in
theorem gX2_acts_X2_giveTo : GoodIn wsX2_acts (wsV RX2 83 RX2 yX2_giveTo wsX2_giveTo) := goodIn_app (goodIn_of _ (by decide +kernel)) ggX2_acts_X2_giveTo
set_option maxRecDepth 20000 in
theorem ggX2_acts_X2_emptyTinFor : GoodIn wsX2_acts wsX2_emptyTinFor := goodIn_r _ [47, 2, 16, 48, 49, 50, 51, 52, 53] (by decide +kernel) (by decide +kernel)
set_option maxRecDepth 20000 in
theorem gX2_acts_X2_emptyTinFor : GoodIn wsX2_acts (wsV RX2 86 RX2 yX2_emptyTinFor wsX2_emptyTinFor) := goodIn_app (goodIn_of _ (by decide +kernel)) ggX2_acts_X2_emptyTinFor
theorem dX2_acts_0 : decode cX2_acts 0 = .ok (.iload_n 2, 1) := by decide +kernel
theorem dX2_acts_1 : decode cX2_acts 1 = .ok (.ifCond .ne 18, 3) := by decide +kernel
theorem dX2_acts_4 : decode cX2_acts 4 = .ok (.aload_n 0, 1) := by decide +kernel
theorem dX2_acts_5 : decode cX2_acts 5 = .ok (.getfield 41, 3) := by decide +kernel
theorem dX2_acts_8 : decode cX2_acts 8 = .ok (.ifCond .eq 7, 3) := by decide +kernel
theorem dX2_acts_11 : decode cX2_acts 11 = .ok (.iconst 1, 1) := by decide +kernel
theorem dX2_acts_12 : decode cX2_acts 12 = .ok (.goto 30, 3) := by decide +kernel
theorem dX2_acts_15 : decode cX2_acts 15 = .ok (.iconst 0, 1) := by decide +kernel
theorem dX2_acts_16 : decode cX2_acts 16 = .ok (.goto 26, 3) := by decide +kernel
theorem dX2_acts_19 : decode cX2_acts 19 = .ok (.aload_n 0, 1) := by decide +kernel
theorem dX2_acts_20 : decode cX2_acts 20 = .ok (.iload_n 1, 1) := by decide +kernel
theorem dX2_acts_21 : decode cX2_acts 21 = .ok (.invokevirtual 66, 3) := by decide +kernel
theorem dX2_acts_24 : decode cX2_acts 24 = .ok (.iload_n 2, 1) := by decide +kernel
theorem dX2_acts_25 : decode cX2_acts 25 = .ok (.iconst 2, 1) := by decide +kernel
theorem dX2_acts_26 : decode cX2_acts 26 = .ok (.if_icmp .eq 7, 3) := by decide +kernel
theorem dX2_acts_29 : decode cX2_acts 29 = .ok (.iconst 1, 1) := by decide +kernel
theorem dX2_acts_30 : decode cX2_acts 30 = .ok (.goto 4, 3) := by decide +kernel
theorem dX2_acts_33 : decode cX2_acts 33 = .ok (.iconst 0, 1) := by decide +kernel
theorem dX2_acts_34 : decode cX2_acts 34 = .ok (.if_icmp .ne 7, 3) := by decide +kernel
theorem dX2_acts_37 : decode cX2_acts 37 = .ok (.iconst 1, 1) := by decide +kernel
theorem dX2_acts_38 : decode cX2_acts 38 = .ok (.goto 4, 3) := by decide +kernel
theorem dX2_acts_41 : decode cX2_acts 41 = .ok (.iconst 0, 1) := by decide +kernel
theorem dX2_acts_42 : decode cX2_acts 42 = .ok (.istore_n 3, 1) := by decide +kernel
theorem dX2_acts_43 : decode cX2_acts 43 = .ok (.iload_n 3, 1) := by decide +kernel
theorem dX2_acts_44 : decode cX2_acts 44 = .ok (.ifCond .eq 15, 3) := by decide +kernel
theorem dX2_acts_47 : decode cX2_acts 47 = .ok (.iload_n 2, 1) := by decide +kernel
theorem dX2_acts_48 : decode cX2_acts 48 = .ok (.iconst 4, 1) := by decide +kernel
theorem dX2_acts_49 : decode cX2_acts 49 = .ok (.if_icmp .ne 13, 3) := by decide +kernel
theorem dX2_acts_52 : decode cX2_acts 52 = .ok (.aload_n 0, 1) := by decide +kernel
theorem dX2_acts_53 : decode cX2_acts 53 = .ok (.getfield 38, 3) := by decide +kernel
theorem dX2_acts_56 : decode cX2_acts 56 = .ok (.ifCond .ne 6, 3) := by decide +kernel
theorem dX2_acts_59 : decode cX2_acts 59 = .ok (.bipush (-3), 2) := by decide +kernel
theorem dX2_acts_61 : decode cX2_acts 61 = .ok (.ireturn, 1) := by decide +kernel
theorem dX2_acts_62 : decode cX2_acts 62 = .ok (.iload_n 2, 1) := by decide +kernel
theorem dX2_acts_63 : decode cX2_acts 63 = .ok (.tableswitch 64 0 3 #[29, 35, 41, 58], 29) := by decide +kernel
theorem dX2_acts_92 : decode cX2_acts 92 = .ok (.aload_n 0, 1) := by decide +kernel
theorem dX2_acts_93 : decode cX2_acts 93 = .ok (.iload_n 1, 1) := by decide +kernel
theorem dX2_acts_94 : decode cX2_acts 94 = .ok (.invokevirtual 73, 3) := by decide +kernel
theorem dX2_acts_97 : decode cX2_acts 97 = .ok (.ireturn, 1) := by decide +kernel
theorem dX2_acts_98 : decode cX2_acts 98 = .ok (.aload_n 0, 1) := by decide +kernel
theorem dX2_acts_99 : decode cX2_acts 99 = .ok (.iload_n 1, 1) := by decide +kernel
theorem dX2_acts_100 : decode cX2_acts 100 = .ok (.invokevirtual 76, 3) := by decide +kernel
theorem dX2_acts_103 : decode cX2_acts 103 = .ok (.ireturn, 1) := by decide +kernel
theorem dX2_acts_104 : decode cX2_acts 104 = .ok (.aload_n 0, 1) := by decide +kernel
theorem dX2_acts_105 : decode cX2_acts 105 = .ok (.dup, 1) := by decide +kernel
theorem dX2_acts_106 : decode cX2_acts 106 = .ok (.getfield 41, 3) := by decide +kernel
theorem dX2_acts_109 : decode cX2_acts 109 = .ok (.iconst 1, 1) := by decide +kernel
theorem dX2_acts_110 : decode cX2_acts 110 = .ok (.iload_n 1, 1) := by decide +kernel
theorem dX2_acts_111 : decode cX2_acts 111 = .ok (.ishl, 1) := by decide +kernel
theorem dX2_acts_112 : decode cX2_acts 112 = .ok (.ior, 1) := by decide +kernel
theorem dX2_acts_113 : decode cX2_acts 113 = .ok (.putfield 41, 3) := by decide +kernel
theorem dX2_acts_116 : decode cX2_acts 116 = .ok (.aload_n 0, 1) := by decide +kernel
theorem dX2_acts_117 : decode cX2_acts 117 = .ok (.invokevirtual 79, 3) := by decide +kernel
theorem dX2_acts_120 : decode cX2_acts 120 = .ok (.ireturn, 1) := by decide +kernel
theorem dX2_acts_121 : decode cX2_acts 121 = .ok (.aload_n 0, 1) := by decide +kernel
theorem dX2_acts_122 : decode cX2_acts 122 = .ok (.iload_n 1, 1) := by decide +kernel
theorem dX2_acts_123 : decode cX2_acts 123 = .ok (.invokevirtual 83, 3) := by decide +kernel
theorem dX2_acts_126 : decode cX2_acts 126 = .ok (.ireturn, 1) := by decide +kernel
theorem dX2_acts_127 : decode cX2_acts 127 = .ok (.aload_n 0, 1) := by decide +kernel
theorem dX2_acts_128 : decode cX2_acts 128 = .ok (.iload_n 1, 1) := by decide +kernel
theorem dX2_acts_129 : decode cX2_acts 129 = .ok (.invokevirtual 86, 3) := by decide +kernel
theorem dX2_acts_132 : decode cX2_acts 132 = .ok (.ireturn, 1) := by decide +kernel
set_option maxRecDepth 20000 in
theorem ggX2_shareFrom_X2_partsOf : GoodIn wsX2_shareFrom wsX2_partsOf := goodIn_r _ [8, 2, 3, 9, 10, 11, 32, 33, 34, 35, 36, 37] (by decide +kernel) (by decide +kernel)
set_option maxRecDepth 20000 in
theorem gX2_shareFrom_X2_partsOf : GoodIn wsX2_shareFrom (wsV RX2 89 RX2 yX2_partsOf wsX2_partsOf) := goodIn_app (goodIn_of _ (by decide +kernel)) ggX2_shareFrom_X2_partsOf
set_option maxRecDepth 20000 in
theorem ggX2_shareFrom_X2_heads : GoodIn wsX2_shareFrom wsX2_heads := goodIn_r _ [15, 1, 16, 17, 18, 19, 20, 21, 22, 32, 33, 34, 35, 36, 37] (by decide +kernel) (by decide +kernel)
set_option maxRecDepth 20000 in
theorem gX2_shareFrom_X2_heads : GoodIn wsX2_shareFrom (wsV RX2 79 RX2 yX2_heads wsX2_heads) := goodIn_app (goodIn_of _ (by decide +kernel)) ggX2_shareFrom_X2_heads
set_option maxRecDepth 20000 in
theorem ggX2_shareFrom_X2_isIn : GoodIn wsX2_shareFrom wsX2_isIn := goodIn_r _ [26, 1, 9, 10, 11, 32, 33, 34, 35, 36, 37] (by decide +kernel) (by decide +kernel)
set_option maxRecDepth 20000 in
theorem gX2_shareFrom_X2_isIn : GoodIn wsX2_shareFrom (wsV RX2 66 RX2 yX2_isIn wsX2_isIn) := goodIn_app (goodIn_of _ (by decide +kernel)) ggX2_shareFrom_X2_isIn
set_option maxRecDepth 20000 in
theorem ggX2_shareFrom_X2_handOut : GoodIn wsX2_shareFrom wsX2_handOut := goodIn_r _ [30, 31, 2, 3, 12, 13, 14, 7, 15, 1, 16, 17, 18, 19, 20, 21, 22, 23, 24, 25, 26, 9, 10, 11, 32, 33, 34, 35, 36, 37] (by decide +kernel) (by decide +kernel)
set_option maxRecDepth 20000 in
theorem gX2_shareFrom_X2_handOut : GoodIn wsX2_shareFrom (wsV RX2 92 RX2 yX2_handOut wsX2_handOut) := goodIn_app (goodIn_of _ (by decide +kernel)) ggX2_shareFrom_X2_handOut
theorem dX2_shareFrom_0 : decode cX2_shareFrom 0 = .ok (.aload_n 0, 1) := by decide +kernel
theorem dX2_shareFrom_1 : decode cX2_shareFrom 1 = .ok (.aload_n 0, 1) := by decide +kernel
theorem dX2_shareFrom_2 : decode cX2_shareFrom 2 = .ok (.getfield 41, 3) := by decide +kernel
theorem dX2_shareFrom_5 : decode cX2_shareFrom 5 = .ok (.invokevirtual 89, 3) := by decide +kernel
theorem dX2_shareFrom_8 : decode cX2_shareFrom 8 = .ok (.istore_n 2, 1) := by decide +kernel
theorem dX2_shareFrom_9 : decode cX2_shareFrom 9 = .ok (.aload_n 0, 1) := by decide +kernel
theorem dX2_shareFrom_10 : decode cX2_shareFrom 10 = .ok (.invokevirtual 79, 3) := by decide +kernel
theorem dX2_shareFrom_13 : decode cX2_shareFrom 13 = .ok (.istore_n 3, 1) := by decide +kernel
theorem dX2_shareFrom_14 : decode cX2_shareFrom 14 = .ok (.iconst 0, 1) := by decide +kernel
theorem dX2_shareFrom_15 : decode cX2_shareFrom 15 = .ok (.istore 4, 2) := by decide +kernel
theorem dX2_shareFrom_17 : decode cX2_shareFrom 17 = .ok (.iload 4, 2) := by decide +kernel
theorem dX2_shareFrom_19 : decode cX2_shareFrom 19 = .ok (.aload_n 0, 1) := by decide +kernel
theorem dX2_shareFrom_20 : decode cX2_shareFrom 20 = .ok (.getfield 30, 3) := by decide +kernel
theorem dX2_shareFrom_23 : decode cX2_shareFrom 23 = .ok (.if_icmp .ge 36, 3) := by decide +kernel
theorem dX2_shareFrom_26 : decode cX2_shareFrom 26 = .ok (.aload_n 0, 1) := by decide +kernel
theorem dX2_shareFrom_27 : decode cX2_shareFrom 27 = .ok (.getfield 15, 3) := by decide +kernel
theorem dX2_shareFrom_30 : decode cX2_shareFrom 30 = .ok (.iload 4, 2) := by decide +kernel
theorem dX2_shareFrom_32 : decode cX2_shareFrom 32 = .ok (.aload_n 0, 1) := by decide +kernel
theorem dX2_shareFrom_33 : decode cX2_shareFrom 33 = .ok (.iload 4, 2) := by decide +kernel
theorem dX2_shareFrom_35 : decode cX2_shareFrom 35 = .ok (.invokevirtual 66, 3) := by decide +kernel
theorem dX2_shareFrom_38 : decode cX2_shareFrom 38 = .ok (.ifCond .eq 7, 3) := by decide +kernel
theorem dX2_shareFrom_41 : decode cX2_shareFrom 41 = .ok (.iconst 0, 1) := by decide +kernel
theorem dX2_shareFrom_42 : decode cX2_shareFrom 42 = .ok (.goto 10, 3) := by decide +kernel
theorem dX2_shareFrom_45 : decode cX2_shareFrom 45 = .ok (.aload_n 0, 1) := by decide +kernel
theorem dX2_shareFrom_46 : decode cX2_shareFrom 46 = .ok (.getfield 15, 3) := by decide +kernel
theorem dX2_shareFrom_49 : decode cX2_shareFrom 49 = .ok (.iload 4, 2) := by decide +kernel
theorem dX2_shareFrom_51 : decode cX2_shareFrom 51 = .ok (.iaload, 1) := by decide +kernel
theorem dX2_shareFrom_52 : decode cX2_shareFrom 52 = .ok (.iastore, 1) := by decide +kernel
theorem dX2_shareFrom_53 : decode cX2_shareFrom 53 = .ok (.iinc 4 1, 3) := by decide +kernel
theorem dX2_shareFrom_56 : decode cX2_shareFrom 56 = .ok (.goto (-39), 3) := by decide +kernel
theorem dX2_shareFrom_59 : decode cX2_shareFrom 59 = .ok (.aload_n 0, 1) := by decide +kernel
theorem dX2_shareFrom_60 : decode cX2_shareFrom 60 = .ok (.iload_n 2, 1) := by decide +kernel
theorem dX2_shareFrom_61 : decode cX2_shareFrom 61 = .ok (.iload_n 1, 1) := by decide +kernel
theorem dX2_shareFrom_62 : decode cX2_shareFrom 62 = .ok (.invokevirtual 92, 3) := by decide +kernel
theorem dX2_shareFrom_65 : decode cX2_shareFrom 65 = .ok (.iload_n 3, 1) := by decide +kernel
theorem dX2_shareFrom_66 : decode cX2_shareFrom 66 = .ok (.ifCond .le 9, 3) := by decide +kernel
theorem dX2_shareFrom_69 : decode cX2_shareFrom 69 = .ok (.iload_n 2, 1) := by decide +kernel
theorem dX2_shareFrom_70 : decode cX2_shareFrom 70 = .ok (.iload_n 3, 1) := by decide +kernel
theorem dX2_shareFrom_71 : decode cX2_shareFrom 71 = .ok (.idiv, 1) := by decide +kernel
theorem dX2_shareFrom_72 : decode cX2_shareFrom 72 = .ok (.goto 4, 3) := by decide +kernel
theorem dX2_shareFrom_75 : decode cX2_shareFrom 75 = .ok (.iconst 0, 1) := by decide +kernel
theorem dX2_shareFrom_76 : decode cX2_shareFrom 76 = .ok (.ireturn, 1) := by decide +kernel
set_option maxRecDepth 20000 in
theorem ggX2_goOut_X2_handOut : GoodIn wsX2_goOut wsX2_handOut := goodIn_r _ [7, 8, 9, 1, 10, 11, 12, 6, 13, 2, 14, 15, 16, 17, 18, 19, 20, 21, 22, 23, 24, 25, 26, 27, 28, 29, 30, 31, 32, 33] (by decide +kernel) (by decide +kernel)
set_option maxRecDepth 20000 in
theorem gX2_goOut_X2_handOut : GoodIn wsX2_goOut (wsV RX2 92 RX2 yX2_handOut wsX2_handOut) := goodIn_app (goodIn_of _ (by decide +kernel)) ggX2_goOut_X2_handOut
theorem dX2_goOut_0 : decode cX2_goOut 0 = .ok (.aload_n 0, 1) := by decide +kernel
theorem dX2_goOut_1 : decode cX2_goOut 1 = .ok (.getfield 15, 3) := by decide +kernel
theorem dX2_goOut_4 : decode cX2_goOut 4 = .ok (.iload_n 1, 1) := by decide +kernel
theorem dX2_goOut_5 : decode cX2_goOut 5 = .ok (.iaload, 1) := by decide +kernel
theorem dX2_goOut_6 : decode cX2_goOut 6 = .ok (.istore_n 2, 1) := by decide +kernel
theorem dX2_goOut_7 : decode cX2_goOut 7 = .ok (.aload_n 0, 1) := by decide +kernel
theorem dX2_goOut_8 : decode cX2_goOut 8 = .ok (.getfield 15, 3) := by decide +kernel
theorem dX2_goOut_11 : decode cX2_goOut 11 = .ok (.iload_n 1, 1) := by decide +kernel
theorem dX2_goOut_12 : decode cX2_goOut 12 = .ok (.iconst 0, 1) := by decide +kernel
theorem dX2_goOut_13 : decode cX2_goOut 13 = .ok (.iastore, 1) := by decide +kernel
theorem dX2_goOut_14 : decode cX2_goOut 14 = .ok (.aload_n 0, 1) := by decide +kernel
theorem dX2_goOut_15 : decode cX2_goOut 15 = .ok (.dup, 1) := by decide +kernel
theorem dX2_goOut_16 : decode cX2_goOut 16 = .ok (.getfield 41, 3) := by decide +kernel
theorem dX2_goOut_19 : decode cX2_goOut 19 = .ok (.iconst 1, 1) := by decide +kernel
theorem dX2_goOut_20 : decode cX2_goOut 20 = .ok (.iload_n 1, 1) := by decide +kernel
theorem dX2_goOut_21 : decode cX2_goOut 21 = .ok (.ishl, 1) := by decide +kernel
theorem dX2_goOut_22 : decode cX2_goOut 22 = .ok (.iconst (-1), 1) := by decide +kernel
theorem dX2_goOut_23 : decode cX2_goOut 23 = .ok (.ixor, 1) := by decide +kernel
theorem dX2_goOut_24 : decode cX2_goOut 24 = .ok (.iand, 1) := by decide +kernel
theorem dX2_goOut_25 : decode cX2_goOut 25 = .ok (.putfield 41, 3) := by decide +kernel
theorem dX2_goOut_28 : decode cX2_goOut 28 = .ok (.aload_n 0, 1) := by decide +kernel
theorem dX2_goOut_29 : decode cX2_goOut 29 = .ok (.iload_n 2, 1) := by decide +kernel
theorem dX2_goOut_30 : decode cX2_goOut 30 = .ok (.iconst 0, 1) := by decide +kernel
theorem dX2_goOut_31 : decode cX2_goOut 31 = .ok (.invokevirtual 92, 3) := by decide +kernel
theorem dX2_goOut_34 : decode cX2_goOut 34 = .ok (.iload_n 2, 1) := by decide +kernel
theorem dX2_goOut_35 : decode cX2_goOut 35 = .ok (.ireturn, 1) := by decide +kernel
set_option maxRecDepth 20000 in
theorem ggX2_handOut_X2_heads : GoodIn wsX2_handOut wsX2_heads := goodIn_r _ [8, 9, 10, 11, 12, 13, 14, 15, 16, 24, 25, 26, 27, 28, 29] (by decide +kernel) (by decide +kernel)
set_option maxRecDepth 20000 in
theorem gX2_handOut_X2_heads : GoodIn wsX2_handOut (wsV RX2 79 RX2 yX2_heads wsX2_heads) := goodIn_app (goodIn_of _ (by decide +kernel)) ggX2_handOut_X2_heads
set_option maxRecDepth 20000 in
theorem ggX2_handOut_X2_isIn : GoodIn wsX2_handOut wsX2_isIn := goodIn_r _ [20, 9, 21, 22, 23, 24, 25, 26, 27, 28, 29] (by decide +kernel) (by decide +kernel)
set_option maxRecDepth 20000 in
theorem gX2_handOut_X2_isIn : GoodIn wsX2_handOut (wsV RX2 66 RX2 yX2_isIn wsX2_isIn) := goodIn_app (goodIn_of _ (by decide +kernel)) ggX2_handOut_X2_isIn
theorem dX2_handOut_0 : decode cX2_handOut 0 = .ok (.aload_n 0, 1) := by decide +kernel
theorem dX2_handOut_1 : decode cX2_handOut 1 = .ok (.invokevirtual 79, 3) := by decide +kernel
theorem dX2_handOut_4 : decode cX2_handOut 4 = .ok (.istore_n 3, 1) := by decide +kernel
theorem dX2_handOut_5 : decode cX2_handOut 5 = .ok (.iload_n 3, 1) := by decide +kernel
theorem dX2_handOut_6 : decode cX2_handOut 6 = .ok (.ifCond .ne 14, 3) := by decide +kernel
theorem dX2_handOut_9 : decode cX2_handOut 9 = .ok (.aload_n 0, 1) := by decide +kernel
theorem dX2_handOut_10 : decode cX2_handOut 10 = .ok (.dup, 1) := by decide +kernel
theorem dX2_handOut_11 : decode cX2_handOut 11 = .ok (.getfield 38, 3) := by decide +kernel
theorem dX2_handOut_14 : decode cX2_handOut 14 = .ok (.iload_n 1, 1) := by decide +kernel
theorem dX2_handOut_15 : decode cX2_handOut 15 = .ok (.iadd, 1) := by decide +kernel
theorem dX2_handOut_16 : decode cX2_handOut 16 = .ok (.putfield 38, 3) := by decide +kernel
theorem dX2_handOut_19 : decode cX2_handOut 19 = .ok (.return_, 1) := by decide +kernel
theorem dX2_handOut_20 : decode cX2_handOut 20 = .ok (.iload_n 1, 1) := by decide +kernel
theorem dX2_handOut_21 : decode cX2_handOut 21 = .ok (.iload_n 3, 1) := by decide +kernel
theorem dX2_handOut_22 : decode cX2_handOut 22 = .ok (.irem, 1) := by decide +kernel
theorem dX2_handOut_23 : decode cX2_handOut 23 = .ok (.istore 4, 2) := by decide +kernel
theorem dX2_handOut_25 : decode cX2_handOut 25 = .ok (.iconst 0, 1) := by decide +kernel
theorem dX2_handOut_26 : decode cX2_handOut 26 = .ok (.istore 5, 2) := by decide +kernel
theorem dX2_handOut_28 : decode cX2_handOut 28 = .ok (.iload 5, 2) := by decide +kernel
theorem dX2_handOut_30 : decode cX2_handOut 30 = .ok (.aload_n 0, 1) := by decide +kernel
theorem dX2_handOut_31 : decode cX2_handOut 31 = .ok (.getfield 30, 3) := by decide +kernel
theorem dX2_handOut_34 : decode cX2_handOut 34 = .ok (.if_icmp .ge 56, 3) := by decide +kernel
theorem dX2_handOut_37 : decode cX2_handOut 37 = .ok (.iload_n 2, 1) := by decide +kernel
theorem dX2_handOut_38 : decode cX2_handOut 38 = .ok (.iload 5, 2) := by decide +kernel
theorem dX2_handOut_40 : decode cX2_handOut 40 = .ok (.iadd, 1) := by decide +kernel
theorem dX2_handOut_41 : decode cX2_handOut 41 = .ok (.aload_n 0, 1) := by decide +kernel
theorem dX2_handOut_42 : decode cX2_handOut 42 = .ok (.getfield 30, 3) := by decide +kernel
theorem dX2_handOut_45 : decode cX2_handOut 45 = .ok (.irem, 1) := by decide +kernel
theorem dX2_handOut_46 : decode cX2_handOut 46 = .ok (.istore 6, 2) := by decide +kernel
theorem dX2_handOut_48 : decode cX2_handOut 48 = .ok (.aload_n 0, 1) := by decide +kernel
theorem dX2_handOut_49 : decode cX2_handOut 49 = .ok (.iload 6, 2) := by decide +kernel
theorem dX2_handOut_51 : decode cX2_handOut 51 = .ok (.invokevirtual 66, 3) := by decide +kernel
theorem dX2_handOut_54 : decode cX2_handOut 54 = .ok (.ifCond .eq 30, 3) := by decide +kernel
theorem dX2_handOut_57 : decode cX2_handOut 57 = .ok (.aload_n 0, 1) := by decide +kernel
theorem dX2_handOut_58 : decode cX2_handOut 58 = .ok (.getfield 15, 3) := by decide +kernel
theorem dX2_handOut_61 : decode cX2_handOut 61 = .ok (.iload 6, 2) := by decide +kernel
theorem dX2_handOut_63 : decode cX2_handOut 63 = .ok (.dup2, 1) := by decide +kernel
theorem dX2_handOut_64 : decode cX2_handOut 64 = .ok (.iaload, 1) := by decide +kernel
theorem dX2_handOut_65 : decode cX2_handOut 65 = .ok (.iload_n 1, 1) := by decide +kernel
theorem dX2_handOut_66 : decode cX2_handOut 66 = .ok (.iload_n 3, 1) := by decide +kernel
theorem dX2_handOut_67 : decode cX2_handOut 67 = .ok (.idiv, 1) := by decide +kernel
theorem dX2_handOut_68 : decode cX2_handOut 68 = .ok (.iload 4, 2) := by decide +kernel
theorem dX2_handOut_70 : decode cX2_handOut 70 = .ok (.ifCond .le 7, 3) := by decide +kernel
theorem dX2_handOut_73 : decode cX2_handOut 73 = .ok (.iconst 1, 1) := by decide +kernel
theorem dX2_handOut_74 : decode cX2_handOut 74 = .ok (.goto 4, 3) := by decide +kernel
theorem dX2_handOut_77 : decode cX2_handOut 77 = .ok (.iconst 0, 1) := by decide +kernel
theorem dX2_handOut_78 : decode cX2_handOut 78 = .ok (.iadd, 1) := by decide +kernel
theorem dX2_handOut_79 : decode cX2_handOut 79 = .ok (.iadd, 1) := by decide +kernel
theorem dX2_handOut_80 : decode cX2_handOut 80 = .ok (.iastore, 1) := by decide +kernel
theorem dX2_handOut_81 : decode cX2_handOut 81 = .ok (.iinc 4 (-1), 3) := by decide +kernel
theorem dX2_handOut_84 : decode cX2_handOut 84 = .ok (.iinc 5 1, 3) := by decide +kernel
theorem dX2_handOut_87 : decode cX2_handOut 87 = .ok (.goto (-59), 3) := by decide +kernel
theorem dX2_handOut_90 : decode cX2_handOut 90 = .ok (.return_, 1) := by decide +kernel
set_option maxRecDepth 20000 in
theorem ggX2_giveTo_X2_isIn : GoodIn wsX2_giveTo wsX2_isIn := goodIn_r _ [7, 8, 9, 10, 11, 12, 13, 14, 15, 16, 17] (by decide +kernel) (by decide +kernel)
set_option maxRecDepth 20000 in
theorem gX2_giveTo_X2_isIn : GoodIn wsX2_giveTo (wsV RX2 66 RX2 yX2_isIn wsX2_isIn) := goodIn_app (goodIn_of _ (by decide +kernel)) ggX2_giveTo_X2_isIn
theorem dX2_giveTo_0 : decode cX2_giveTo 0 = .ok (.iconst 0, 1) := by decide +kernel
theorem dX2_giveTo_1 : decode cX2_giveTo 1 = .ok (.istore_n 2, 1) := by decide +kernel
theorem dX2_giveTo_2 : decode cX2_giveTo 2 = .ok (.iconst 0, 1) := by decide +kernel
theorem dX2_giveTo_3 : decode cX2_giveTo 3 = .ok (.istore_n 3, 1) := by decide +kernel
theorem dX2_giveTo_4 : decode cX2_giveTo 4 = .ok (.iload_n 3, 1) := by decide +kernel
theorem dX2_giveTo_5 : decode cX2_giveTo 5 = .ok (.aload_n 0, 1) := by decide +kernel
theorem dX2_giveTo_6 : decode cX2_giveTo 6 = .ok (.getfield 30, 3) := by decide +kernel
theorem dX2_giveTo_9 : decode cX2_giveTo 9 = .ok (.if_icmp .ge 44, 3) := by decide +kernel
theorem dX2_giveTo_12 : decode cX2_giveTo 12 = .ok (.iload_n 3, 1) := by decide +kernel
theorem dX2_giveTo_13 : decode cX2_giveTo 13 = .ok (.iload_n 1, 1) := by decide +kernel
theorem dX2_giveTo_14 : decode cX2_giveTo 14 = .ok (.if_icmp .eq 33, 3) := by decide +kernel
theorem dX2_giveTo_17 : decode cX2_giveTo 17 = .ok (.aload_n 0, 1) := by decide +kernel
theorem dX2_giveTo_18 : decode cX2_giveTo 18 = .ok (.iload_n 3, 1) := by decide +kernel
theorem dX2_giveTo_19 : decode cX2_giveTo 19 = .ok (.invokevirtual 66, 3) := by decide +kernel
theorem dX2_giveTo_22 : decode cX2_giveTo 22 = .ok (.ifCond .eq 25, 3) := by decide +kernel
theorem dX2_giveTo_25 : decode cX2_giveTo 25 = .ok (.aload_n 0, 1) := by decide +kernel
theorem dX2_giveTo_26 : decode cX2_giveTo 26 = .ok (.getfield 15, 3) := by decide +kernel
theorem dX2_giveTo_29 : decode cX2_giveTo 29 = .ok (.iload_n 3, 1) := by decide +kernel
theorem dX2_giveTo_30 : decode cX2_giveTo 30 = .ok (.iaload, 1) := by decide +kernel
theorem dX2_giveTo_31 : decode cX2_giveTo 31 = .ok (.ifCond .le 16, 3) := by decide +kernel
theorem dX2_giveTo_34 : decode cX2_giveTo 34 = .ok (.aload_n 0, 1) := by decide +kernel
theorem dX2_giveTo_35 : decode cX2_giveTo 35 = .ok (.getfield 15, 3) := by decide +kernel
theorem dX2_giveTo_38 : decode cX2_giveTo 38 = .ok (.iload_n 3, 1) := by decide +kernel
theorem dX2_giveTo_39 : decode cX2_giveTo 39 = .ok (.dup2, 1) := by decide +kernel
theorem dX2_giveTo_40 : decode cX2_giveTo 40 = .ok (.iaload, 1) := by decide +kernel
theorem dX2_giveTo_41 : decode cX2_giveTo 41 = .ok (.iconst 1, 1) := by decide +kernel
theorem dX2_giveTo_42 : decode cX2_giveTo 42 = .ok (.isub, 1) := by decide +kernel
theorem dX2_giveTo_43 : decode cX2_giveTo 43 = .ok (.iastore, 1) := by decide +kernel
theorem dX2_giveTo_44 : decode cX2_giveTo 44 = .ok (.iinc 2 1, 3) := by decide +kernel
theorem dX2_giveTo_47 : decode cX2_giveTo 47 = .ok (.iinc 3 1, 3) := by decide +kernel
theorem dX2_giveTo_50 : decode cX2_giveTo 50 = .ok (.goto (-46), 3) := by decide +kernel
theorem dX2_giveTo_53 : decode cX2_giveTo 53 = .ok (.aload_n 0, 1) := by decide +kernel
theorem dX2_giveTo_54 : decode cX2_giveTo 54 = .ok (.getfield 15, 3) := by decide +kernel
theorem dX2_giveTo_57 : decode cX2_giveTo 57 = .ok (.iload_n 1, 1) := by decide +kernel
theorem dX2_giveTo_58 : decode cX2_giveTo 58 = .ok (.dup2, 1) := by decide +kernel
theorem dX2_giveTo_59 : decode cX2_giveTo 59 = .ok (.iaload, 1) := by decide +kernel
theorem dX2_giveTo_60 : decode cX2_giveTo 60 = .ok (.iload_n 2, 1) := by decide +kernel
theorem dX2_giveTo_61 : decode cX2_giveTo 61 = .ok (.iadd, 1) := by decide +kernel
theorem dX2_giveTo_62 : decode cX2_giveTo 62 = .ok (.iastore, 1) := by decide +kernel
theorem dX2_giveTo_63 : decode cX2_giveTo 63 = .ok (.iload_n 2, 1) := by decide +kernel
theorem dX2_giveTo_64 : decode cX2_giveTo 64 = .ok (.ireturn, 1) := by decide +kernel
theorem dX2_emptyTinFor_0 : decode cX2_emptyTinFor 0 = .ok (.aload_n 0, 1) := by decide +kernel
theorem dX2_emptyTinFor_1 : decode cX2_emptyTinFor 1 = .ok (.getfield 38, 3) := by decide +kernel
theorem dX2_emptyTinFor_4 : decode cX2_emptyTinFor 4 = .ok (.istore_n 2, 1) := by decide +kernel
theorem dX2_emptyTinFor_5 : decode cX2_emptyTinFor 5 = .ok (.aload_n 0, 1) := by decide +kernel
theorem dX2_emptyTinFor_6 : decode cX2_emptyTinFor 6 = .ok (.getfield 15, 3) := by decide +kernel
theorem dX2_emptyTinFor_9 : decode cX2_emptyTinFor 9 = .ok (.iload_n 1, 1) := by decide +kernel
theorem dX2_emptyTinFor_10 : decode cX2_emptyTinFor 10 = .ok (.dup2, 1) := by decide +kernel
theorem dX2_emptyTinFor_11 : decode cX2_emptyTinFor 11 = .ok (.iaload, 1) := by decide +kernel
theorem dX2_emptyTinFor_12 : decode cX2_emptyTinFor 12 = .ok (.iload_n 2, 1) := by decide +kernel
theorem dX2_emptyTinFor_13 : decode cX2_emptyTinFor 13 = .ok (.iadd, 1) := by decide +kernel
theorem dX2_emptyTinFor_14 : decode cX2_emptyTinFor 14 = .ok (.iastore, 1) := by decide +kernel
theorem dX2_emptyTinFor_15 : decode cX2_emptyTinFor 15 = .ok (.aload_n 0, 1) := by decide +kernel
theorem dX2_emptyTinFor_16 : decode cX2_emptyTinFor 16 = .ok (.iconst 0, 1) := by decide +kernel
theorem dX2_emptyTinFor_17 : decode cX2_emptyTinFor 17 = .ok (.putfield 38, 3) := by decide +kernel
theorem dX2_emptyTinFor_20 : decode cX2_emptyTinFor 20 = .ok (.iload_n 2, 1) := by decide +kernel
theorem dX2_emptyTinFor_21 : decode cX2_emptyTinFor 21 = .ok (.ireturn, 1) := by decide +kernel
set_option maxRecDepth 20000 in
theorem ggX2_partsBehindGatherings_X2_isIn : GoodIn wsX2_partsBehindGatherings wsX2_isIn := goodIn_r _ [11, 12, 13, 14, 15, 16, 17, 18, 19, 20, 21] (by decide +kernel) (by decide +kernel)
set_option maxRecDepth 20000 in
theorem gX2_partsBehindGatherings_X2_isIn : GoodIn wsX2_partsBehindGatherings (wsV RX2 66 RX2 yX2_isIn wsX2_isIn) := goodIn_app (goodIn_of _ (by decide +kernel)) ggX2_partsBehindGatherings_X2_isIn
theorem dX2_partsBehindGatherings_0 : decode cX2_partsBehindGatherings 0 = .ok (.aload_n 0, 1) := by decide +kernel
theorem dX2_partsBehindGatherings_1 : decode cX2_partsBehindGatherings 1 = .ok (.getfield 15, 3) := by decide +kernel
theorem dX2_partsBehindGatherings_4 : decode cX2_partsBehindGatherings 4 = .ok (.iload_n 1, 1) := by decide +kernel
theorem dX2_partsBehindGatherings_5 : decode cX2_partsBehindGatherings 5 = .ok (.iaload, 1) := by decide +kernel
theorem dX2_partsBehindGatherings_6 : decode cX2_partsBehindGatherings 6 = .ok (.istore_n 3, 1) := by decide +kernel
theorem dX2_partsBehindGatherings_7 : decode cX2_partsBehindGatherings 7 = .ok (.iconst 0, 1) := by decide +kernel
theorem dX2_partsBehindGatherings_8 : decode cX2_partsBehindGatherings 8 = .ok (.istore 4, 2) := by decide +kernel
theorem dX2_partsBehindGatherings_10 : decode cX2_partsBehindGatherings 10 = .ok (.iload 4, 2) := by decide +kernel
theorem dX2_partsBehindGatherings_12 : decode cX2_partsBehindGatherings 12 = .ok (.aload_n 0, 1) := by decide +kernel
theorem dX2_partsBehindGatherings_13 : decode cX2_partsBehindGatherings 13 = .ok (.getfield 30, 3) := by decide +kernel
theorem dX2_partsBehindGatherings_16 : decode cX2_partsBehindGatherings 16 = .ok (.if_icmp .ge 42, 3) := by decide +kernel
theorem dX2_partsBehindGatherings_19 : decode cX2_partsBehindGatherings 19 = .ok (.iload_n 3, 1) := by decide +kernel
theorem dX2_partsBehindGatherings_20 : decode cX2_partsBehindGatherings 20 = .ok (.iload 4, 2) := by decide +kernel
theorem dX2_partsBehindGatherings_22 : decode cX2_partsBehindGatherings 22 = .ok (.iload_n 1, 1) := by decide +kernel
theorem dX2_partsBehindGatherings_23 : decode cX2_partsBehindGatherings 23 = .ok (.if_icmp .eq 26, 3) := by decide +kernel
theorem dX2_partsBehindGatherings_26 : decode cX2_partsBehindGatherings 26 = .ok (.aload_n 0, 1) := by decide +kernel
theorem dX2_partsBehindGatherings_27 : decode cX2_partsBehindGatherings 27 = .ok (.iload 4, 2) := by decide +kernel
theorem dX2_partsBehindGatherings_29 : decode cX2_partsBehindGatherings 29 = .ok (.invokevirtual 66, 3) := by decide +kernel
theorem dX2_partsBehindGatherings_32 : decode cX2_partsBehindGatherings 32 = .ok (.ifCond .eq 17, 3) := by decide +kernel
theorem dX2_partsBehindGatherings_35 : decode cX2_partsBehindGatherings 35 = .ok (.aload_n 0, 1) := by decide +kernel
theorem dX2_partsBehindGatherings_36 : decode cX2_partsBehindGatherings 36 = .ok (.getfield 15, 3) := by decide +kernel
theorem dX2_partsBehindGatherings_39 : decode cX2_partsBehindGatherings 39 = .ok (.iload 4, 2) := by decide +kernel
theorem dX2_partsBehindGatherings_41 : decode cX2_partsBehindGatherings 41 = .ok (.iaload, 1) := by decide +kernel
theorem dX2_partsBehindGatherings_42 : decode cX2_partsBehindGatherings 42 = .ok (.iload_n 2, 1) := by decide +kernel
theorem dX2_partsBehindGatherings_43 : decode cX2_partsBehindGatherings 43 = .ok (.invokestatic 21, 3) := by decide +kernel
theorem dX2_partsBehindGatherings_46 : decode cX2_partsBehindGatherings 46 = .ok (.goto 4, 3) := by decide +kernel
theorem dX2_partsBehindGatherings_49 : decode cX2_partsBehindGatherings 49 = .ok (.iconst 0, 1) := by decide +kernel
theorem dX2_partsBehindGatherings_50 : decode cX2_partsBehindGatherings 50 = .ok (.iadd, 1) := by decide +kernel
theorem dX2_partsBehindGatherings_51 : decode cX2_partsBehindGatherings 51 = .ok (.istore_n 3, 1) := by decide +kernel
theorem dX2_partsBehindGatherings_52 : decode cX2_partsBehindGatherings 52 = .ok (.iinc 4 1, 3) := by decide +kernel
theorem dX2_partsBehindGatherings_55 : decode cX2_partsBehindGatherings 55 = .ok (.goto (-45), 3) := by decide +kernel
theorem dX2_partsBehindGatherings_58 : decode cX2_partsBehindGatherings 58 = .ok (.iload_n 3, 1) := by decide +kernel
theorem dX2_partsBehindGatherings_59 : decode cX2_partsBehindGatherings 59 = .ok (.ireturn, 1) := by decide +kernel
set_option maxRecDepth 20000 in
theorem ggX2_lackingUpTo_X2_isIn : GoodIn wsX2_lackingUpTo wsX2_isIn := goodIn_r _ [11, 12, 13, 14, 15, 16, 17, 18, 19, 20, 21] (by decide +kernel) (by decide +kernel)
set_option maxRecDepth 20000 in
theorem gX2_lackingUpTo_X2_isIn : GoodIn wsX2_lackingUpTo (wsV RX2 66 RX2 yX2_isIn wsX2_isIn) := goodIn_app (goodIn_of _ (by decide +kernel)) ggX2_lackingUpTo_X2_isIn
theorem dX2_lackingUpTo_0 : decode cX2_lackingUpTo 0 = .ok (.iconst 0, 1) := by decide +kernel
theorem dX2_lackingUpTo_1 : decode cX2_lackingUpTo 1 = .ok (.istore_n 2, 1) := by decide +kernel
theorem dX2_lackingUpTo_2 : decode cX2_lackingUpTo 2 = .ok (.iconst 0, 1) := by decide +kernel
theorem dX2_lackingUpTo_3 : decode cX2_lackingUpTo 3 = .ok (.istore_n 3, 1) := by decide +kernel
theorem dX2_lackingUpTo_4 : decode cX2_lackingUpTo 4 = .ok (.iload_n 3, 1) := by decide +kernel
theorem dX2_lackingUpTo_5 : decode cX2_lackingUpTo 5 = .ok (.aload_n 0, 1) := by decide +kernel
theorem dX2_lackingUpTo_6 : decode cX2_lackingUpTo 6 = .ok (.getfield 30, 3) := by decide +kernel
theorem dX2_lackingUpTo_9 : decode cX2_lackingUpTo 9 = .ok (.if_icmp .ge 36, 3) := by decide +kernel
theorem dX2_lackingUpTo_12 : decode cX2_lackingUpTo 12 = .ok (.iload_n 2, 1) := by decide +kernel
theorem dX2_lackingUpTo_13 : decode cX2_lackingUpTo 13 = .ok (.aload_n 0, 1) := by decide +kernel
theorem dX2_lackingUpTo_14 : decode cX2_lackingUpTo 14 = .ok (.iload_n 3, 1) := by decide +kernel
theorem dX2_lackingUpTo_15 : decode cX2_lackingUpTo 15 = .ok (.invokevirtual 66, 3) := by decide +kernel
theorem dX2_lackingUpTo_18 : decode cX2_lackingUpTo 18 = .ok (.ifCond .eq 18, 3) := by decide +kernel
theorem dX2_lackingUpTo_21 : decode cX2_lackingUpTo 21 = .ok (.iconst 0, 1) := by decide +kernel
theorem dX2_lackingUpTo_22 : decode cX2_lackingUpTo 22 = .ok (.iload_n 1, 1) := by decide +kernel
theorem dX2_lackingUpTo_23 : decode cX2_lackingUpTo 23 = .ok (.aload_n 0, 1) := by decide +kernel
theorem dX2_lackingUpTo_24 : decode cX2_lackingUpTo 24 = .ok (.getfield 15, 3) := by decide +kernel
theorem dX2_lackingUpTo_27 : decode cX2_lackingUpTo 27 = .ok (.iload_n 3, 1) := by decide +kernel
theorem dX2_lackingUpTo_28 : decode cX2_lackingUpTo 28 = .ok (.iaload, 1) := by decide +kernel
theorem dX2_lackingUpTo_29 : decode cX2_lackingUpTo 29 = .ok (.isub, 1) := by decide +kernel
theorem dX2_lackingUpTo_30 : decode cX2_lackingUpTo 30 = .ok (.invokestatic 27, 3) := by decide +kernel
theorem dX2_lackingUpTo_33 : decode cX2_lackingUpTo 33 = .ok (.goto 4, 3) := by decide +kernel
theorem dX2_lackingUpTo_36 : decode cX2_lackingUpTo 36 = .ok (.iconst 0, 1) := by decide +kernel
theorem dX2_lackingUpTo_37 : decode cX2_lackingUpTo 37 = .ok (.iadd, 1) := by decide +kernel
theorem dX2_lackingUpTo_38 : decode cX2_lackingUpTo 38 = .ok (.istore_n 2, 1) := by decide +kernel
theorem dX2_lackingUpTo_39 : decode cX2_lackingUpTo 39 = .ok (.iinc 3 1, 3) := by decide +kernel
theorem dX2_lackingUpTo_42 : decode cX2_lackingUpTo 42 = .ok (.goto (-38), 3) := by decide +kernel
theorem dX2_lackingUpTo_45 : decode cX2_lackingUpTo 45 = .ok (.iload_n 2, 1) := by decide +kernel
theorem dX2_lackingUpTo_46 : decode cX2_lackingUpTo 46 = .ok (.ireturn, 1) := by decide +kernel
set_option maxRecDepth 20000 in
theorem ggX2_partsBehindDay_J6_bitCount_0f7a4 : GoodIn wsX2_partsBehindDay wsJ6_bitCount_0f7a4 := goodIn_r _ [5, 6, 7, 8] (by decide +kernel) (by decide +kernel)
set_option maxRecDepth 20000 in
theorem gX2_partsBehindDay_J6_bitCount_0f7a4 : GoodIn wsX2_partsBehindDay (va_wsS RX2 57 yJ6_bitCount_0f7a4 wsJ6_bitCount_0f7a4) := goodIn_app (goodIn_of _ (by decide +kernel)) ggX2_partsBehindDay_J6_bitCount_0f7a4
set_option maxRecDepth 20000 in
theorem ggX2_partsBehindDay_X2_partsOf : GoodIn wsX2_partsBehindDay wsX2_partsOf := goodIn_r _ [13, 14, 1, 15, 16, 17, 18, 19, 20, 21, 22, 23] (by decide +kernel) (by decide +kernel)
set_option maxRecDepth 20000 in
theorem gX2_partsBehindDay_X2_partsOf : GoodIn wsX2_partsBehindDay (wsV RX2 89 RX2 yX2_partsOf wsX2_partsOf) := goodIn_app (goodIn_of _ (by decide +kernel)) ggX2_partsBehindDay_X2_partsOf
theorem dX2_partsBehindDay_0 : decode cX2_partsBehindDay 0 = .ok (.iload_n 1, 1) := by decide +kernel
theorem dX2_partsBehindDay_1 : decode cX2_partsBehindDay 1 = .ok (.invokestatic 57, 3) := by decide +kernel
theorem dX2_partsBehindDay_4 : decode cX2_partsBehindDay 4 = .ok (.istore_n 3, 1) := by decide +kernel
theorem dX2_partsBehindDay_5 : decode cX2_partsBehindDay 5 = .ok (.iload_n 3, 1) := by decide +kernel
theorem dX2_partsBehindDay_6 : decode cX2_partsBehindDay 6 = .ok (.ifCond .ne 10, 3) := by decide +kernel
theorem dX2_partsBehindDay_9 : decode cX2_partsBehindDay 9 = .ok (.aload_n 0, 1) := by decide +kernel
theorem dX2_partsBehindDay_10 : decode cX2_partsBehindDay 10 = .ok (.getfield 15, 3) := by decide +kernel
theorem dX2_partsBehindDay_13 : decode cX2_partsBehindDay 13 = .ok (.iload_n 2, 1) := by decide +kernel
theorem dX2_partsBehindDay_14 : decode cX2_partsBehindDay 14 = .ok (.iaload, 1) := by decide +kernel
theorem dX2_partsBehindDay_15 : decode cX2_partsBehindDay 15 = .ok (.ireturn, 1) := by decide +kernel
theorem dX2_partsBehindDay_16 : decode cX2_partsBehindDay 16 = .ok (.aload_n 0, 1) := by decide +kernel
theorem dX2_partsBehindDay_17 : decode cX2_partsBehindDay 17 = .ok (.iload_n 1, 1) := by decide +kernel
theorem dX2_partsBehindDay_18 : decode cX2_partsBehindDay 18 = .ok (.invokevirtual 89, 3) := by decide +kernel
theorem dX2_partsBehindDay_21 : decode cX2_partsBehindDay 21 = .ok (.istore 4, 2) := by decide +kernel
theorem dX2_partsBehindDay_23 : decode cX2_partsBehindDay 23 = .ok (.iload_n 1, 1) := by decide +kernel
theorem dX2_partsBehindDay_24 : decode cX2_partsBehindDay 24 = .ok (.iconst 1, 1) := by decide +kernel
theorem dX2_partsBehindDay_25 : decode cX2_partsBehindDay 25 = .ok (.iload_n 2, 1) := by decide +kernel
theorem dX2_partsBehindDay_26 : decode cX2_partsBehindDay 26 = .ok (.ishl, 1) := by decide +kernel
theorem dX2_partsBehindDay_27 : decode cX2_partsBehindDay 27 = .ok (.iconst 1, 1) := by decide +kernel
theorem dX2_partsBehindDay_28 : decode cX2_partsBehindDay 28 = .ok (.isub, 1) := by decide +kernel
theorem dX2_partsBehindDay_29 : decode cX2_partsBehindDay 29 = .ok (.iand, 1) := by decide +kernel
theorem dX2_partsBehindDay_30 : decode cX2_partsBehindDay 30 = .ok (.invokestatic 57, 3) := by decide +kernel
theorem dX2_partsBehindDay_33 : decode cX2_partsBehindDay 33 = .ok (.istore 5, 2) := by decide +kernel
theorem dX2_partsBehindDay_35 : decode cX2_partsBehindDay 35 = .ok (.iload 4, 2) := by decide +kernel
theorem dX2_partsBehindDay_37 : decode cX2_partsBehindDay 37 = .ok (.iload_n 3, 1) := by decide +kernel
theorem dX2_partsBehindDay_38 : decode cX2_partsBehindDay 38 = .ok (.idiv, 1) := by decide +kernel
theorem dX2_partsBehindDay_39 : decode cX2_partsBehindDay 39 = .ok (.iload 5, 2) := by decide +kernel
theorem dX2_partsBehindDay_41 : decode cX2_partsBehindDay 41 = .ok (.iload 4, 2) := by decide +kernel
theorem dX2_partsBehindDay_43 : decode cX2_partsBehindDay 43 = .ok (.iload_n 3, 1) := by decide +kernel
theorem dX2_partsBehindDay_44 : decode cX2_partsBehindDay 44 = .ok (.irem, 1) := by decide +kernel
theorem dX2_partsBehindDay_45 : decode cX2_partsBehindDay 45 = .ok (.if_icmp .ge 7, 3) := by decide +kernel
theorem dX2_partsBehindDay_48 : decode cX2_partsBehindDay 48 = .ok (.iconst 1, 1) := by decide +kernel
theorem dX2_partsBehindDay_49 : decode cX2_partsBehindDay 49 = .ok (.goto 4, 3) := by decide +kernel
theorem dX2_partsBehindDay_52 : decode cX2_partsBehindDay 52 = .ok (.iconst 0, 1) := by decide +kernel
theorem dX2_partsBehindDay_53 : decode cX2_partsBehindDay 53 = .ok (.iadd, 1) := by decide +kernel
theorem dX2_partsBehindDay_54 : decode cX2_partsBehindDay 54 = .ok (.ireturn, 1) := by decide +kernel
set_option maxRecDepth 20000 in
theorem ggX3_init_X2_init : GoodIn wsX3_init wsX2_init := goodIn_r _ [18, 19, 2, 3, 20, 21, 22, 23, 41, 42, 43, 44, 45, 46] (by decide +kernel) (by decide +kernel)
set_option maxRecDepth 20000 in
theorem gX3_init_X2_init_n19 : GoodIn wsX3_init (wsX2_init) := ggX3_init_X2_init
set_option maxRecDepth 20000 in
theorem ggX3_init_X0_init : GoodIn wsX3_init wsX0_init := goodIn_r _ [25, 26, 2, 3, 20, 27, 28, 29, 47, 48, 49, 50] (by decide +kernel) (by decide +kernel)
set_option maxRecDepth 20000 in
theorem gX3_init_X0_init_n29 : GoodIn wsX3_init (wsX0_init) := ggX3_init_X0_init
set_option maxRecDepth 20000 in
theorem ggX3_init_X1_init : GoodIn wsX3_init wsX1_init := goodIn_r _ [31, 32, 2, 3, 20, 33, 51, 52, 53, 54] (by decide +kernel) (by decide +kernel)
set_option maxRecDepth 20000 in
theorem gX3_init_X1_init_n34 : GoodIn wsX3_init (wsX1_init) := ggX3_init_X1_init
theorem dX3_init_0 : decode cX3_init 0 = .ok (.aload_n 0, 1) := by decide +kernel
theorem dX3_init_1 : decode cX3_init 1 = .ok (.invokespecial 3, 3) := by decide +kernel
theorem dX3_init_4 : decode cX3_init 4 = .ok (.aload_n 0, 1) := by decide +kernel
theorem dX3_init_5 : decode cX3_init 5 = .ok (.iconst 4, 1) := by decide +kernel
theorem dX3_init_6 : decode cX3_init 6 = .ok (.anewarray 11, 3) := by decide +kernel
theorem dX3_init_9 : decode cX3_init 9 = .ok (.putfield 13, 3) := by decide +kernel
theorem dX3_init_12 : decode cX3_init 12 = .ok (.aload_n 0, 1) := by decide +kernel
theorem dX3_init_13 : decode cX3_init 13 = .ok (.new 17, 3) := by decide +kernel
theorem dX3_init_16 : decode cX3_init 16 = .ok (.dup, 1) := by decide +kernel
theorem dX3_init_17 : decode cX3_init 17 = .ok (.invokespecial 19, 3) := by decide +kernel
theorem dX3_init_20 : decode cX3_init 20 = .ok (.putfield 20, 3) := by decide +kernel
theorem dX3_init_23 : decode cX3_init 23 = .ok (.aload_n 0, 1) := by decide +kernel
theorem dX3_init_24 : decode cX3_init 24 = .ok (.new 17, 3) := by decide +kernel
theorem dX3_init_27 : decode cX3_init 27 = .ok (.dup, 1) := by decide +kernel
theorem dX3_init_28 : decode cX3_init 28 = .ok (.invokespecial 19, 3) := by decide +kernel
theorem dX3_init_31 : decode cX3_init 31 = .ok (.putfield 24, 3) := by decide +kernel
theorem dX3_init_34 : decode cX3_init 34 = .ok (.aload_n 0, 1) := by decide +kernel
theorem dX3_init_35 : decode cX3_init 35 = .ok (.new 27, 3) := by decide +kernel
theorem dX3_init_38 : decode cX3_init 38 = .ok (.dup, 1) := by decide +kernel
theorem dX3_init_39 : decode cX3_init 39 = .ok (.invokespecial 29, 3) := by decide +kernel
theorem dX3_init_42 : decode cX3_init 42 = .ok (.putfield 30, 3) := by decide +kernel
theorem dX3_init_45 : decode cX3_init 45 = .ok (.iconst 0, 1) := by decide +kernel
theorem dX3_init_46 : decode cX3_init 46 = .ok (.istore_n 1, 1) := by decide +kernel
theorem dX3_init_47 : decode cX3_init 47 = .ok (.iload_n 1, 1) := by decide +kernel
theorem dX3_init_48 : decode cX3_init 48 = .ok (.aload_n 0, 1) := by decide +kernel
theorem dX3_init_49 : decode cX3_init 49 = .ok (.getfield 13, 3) := by decide +kernel
theorem dX3_init_52 : decode cX3_init 52 = .ok (.arraylength, 1) := by decide +kernel
theorem dX3_init_53 : decode cX3_init 53 = .ok (.if_icmp .ge 22, 3) := by decide +kernel
theorem dX3_init_56 : decode cX3_init 56 = .ok (.aload_n 0, 1) := by decide +kernel
theorem dX3_init_57 : decode cX3_init 57 = .ok (.getfield 13, 3) := by decide +kernel
theorem dX3_init_60 : decode cX3_init 60 = .ok (.iload_n 1, 1) := by decide +kernel
theorem dX3_init_61 : decode cX3_init 61 = .ok (.new 11, 3) := by decide +kernel
theorem dX3_init_64 : decode cX3_init 64 = .ok (.dup, 1) := by decide +kernel
theorem dX3_init_65 : decode cX3_init 65 = .ok (.invokespecial 34, 3) := by decide +kernel
theorem dX3_init_68 : decode cX3_init 68 = .ok (.aastore, 1) := by decide +kernel
theorem dX3_init_69 : decode cX3_init 69 = .ok (.iinc 1 1, 3) := by decide +kernel
theorem dX3_init_72 : decode cX3_init 72 = .ok (.goto (-25), 3) := by decide +kernel
theorem dX3_init_75 : decode cX3_init 75 = .ok (.return_, 1) := by decide +kernel
set_option maxRecDepth 20000 in
theorem ggX3_town_X3_sheetAt : GoodIn wsX3_town wsX3_sheetAt := goodIn_r _ [11, 12, 74, 75, 76, 77, 78, 79, 80] (by decide +kernel) (by decide +kernel)
set_option maxRecDepth 20000 in
theorem gX3_town_X3_sheetAt : GoodIn wsX3_town (wsV RX3 39 RX3 yX3_sheetAt wsX3_sheetAt) := goodIn_app (goodIn_of _ (by decide +kernel)) ggX3_town_X3_sheetAt
set_option maxRecDepth 20000 in
theorem ggX3_town_X3_isLane : GoodIn wsX3_town wsX3_isLane := goodIn_r _ [15] (by decide +kernel) (by decide +kernel)
set_option maxRecDepth 20000 in
theorem gX3_town_X3_isLane : GoodIn wsX3_town (va_wsS RX3 43 yX3_isLane wsX3_isLane) := goodIn_app (goodIn_of _ (by decide +kernel)) ggX3_town_X3_isLane
set_option maxRecDepth 20000 in
theorem ggX3_town_X1_faultOf : GoodIn wsX3_town wsX1_faultOf := goodIn_r _ [20, 21, 22, 23, 24, 25, 19, 26, 27, 91, 92, 93, 94] (by decide +kernel) (by decide +kernel)
set_option maxRecDepth 20000 in
theorem gX3_town_X1_faultOf : GoodIn wsX3_town (wsV RX3 47 RX1 yX1_faultOf wsX1_faultOf) := goodIn_app (goodIn_of _ (by decide +kernel)) ggX3_town_X1_faultOf
set_option maxRecDepth 20000 in
theorem ggX3_town_X3_faulty : GoodIn wsX3_town wsX3_faulty := goodIn_r _ [31, 1, 74, 75, 76, 77, 78, 79, 80] (by decide +kernel) (by decide +kernel)
set_option maxRecDepth 20000 in
theorem gX3_town_X3_faulty : GoodIn wsX3_town (wsV RX3 51 RX3 yX3_faulty wsX3_faulty) := goodIn_app (goodIn_of _ (by decide +kernel)) ggX3_town_X3_faulty
set_option maxRecDepth 20000 in
theorem ggX3_town_X3_firstFaultOf : GoodIn wsX3_town wsX3_firstFaultOf := goodIn_r _ [34, 35, 36, 37, 19, 38, 39, 40, 41, 10, 42, 43, 44, 45, 46, 47, 48, 91, 92, 93, 94] (by decide +kernel) (by decide +kernel)
set_option maxRecDepth 20000 in
theorem gX3_town_X3_firstFaultOf : GoodIn wsX3_town (va_wsS RX3 55 yX3_firstFaultOf wsX3_firstFaultOf) := goodIn_app (goodIn_of _ (by decide +kernel)) ggX3_town_X3_firstFaultOf
set_option maxRecDepth 20000 in
theorem ggX3_town_X2_become : GoodIn wsX3_town wsX2_become := goodIn_r _ [53, 54, 55, 56, 57, 58, 59, 60, 61, 62, 63, 64, 65, 66, 67, 68, 52, 69, 70, 36, 37, 19, 38, 39, 71, 72, 73, 85, 86, 87, 88, 89, 90, 91, 92, 93, 94] (by decide +kernel) (by decide +kernel)
set_option maxRecDepth 20000 in
theorem gX3_town_X2_become : GoodIn wsX3_town (wsV RX3 59 RX2 yX2_become wsX2_become) := goodIn_app (goodIn_of _ (by decide +kernel)) ggX3_town_X2_become
theorem dX3_town_0 : decode cX3_town 0 = .ok (.aload_n 0, 1) := by decide +kernel
theorem dX3_town_1 : decode cX3_town 1 = .ok (.iconst 0, 1) := by decide +kernel
theorem dX3_town_2 : decode cX3_town 2 = .ok (.putfield 35, 3) := by decide +kernel
theorem dX3_town_5 : decode cX3_town 5 = .ok (.aload_n 0, 1) := by decide +kernel
theorem dX3_town_6 : decode cX3_town 6 = .ok (.iload_n 1, 1) := by decide +kernel
theorem dX3_town_7 : decode cX3_town 7 = .ok (.invokevirtual 39, 3) := by decide +kernel
theorem dX3_town_10 : decode cX3_town 10 = .ok (.astore 5, 2) := by decide +kernel
theorem dX3_town_12 : decode cX3_town 12 = .ok (.aload 5, 2) := by decide +kernel
theorem dX3_town_14 : decode cX3_town 14 = .ok (.ifnonnull 5, 3) := by decide +kernel
theorem dX3_town_17 : decode cX3_town 17 = .ok (.iconst (-1), 1) := by decide +kernel
theorem dX3_town_18 : decode cX3_town 18 = .ok (.ireturn, 1) := by decide +kernel
theorem dX3_town_19 : decode cX3_town 19 = .ok (.iload_n 2, 1) := by decide +kernel
theorem dX3_town_20 : decode cX3_town 20 = .ok (.invokestatic 43, 3) := by decide +kernel
theorem dX3_town_23 : decode cX3_town 23 = .ok (.ifCond .ne 6, 3) := by decide +kernel
theorem dX3_town_26 : decode cX3_town 26 = .ok (.bipush (-2), 2) := by decide +kernel
theorem dX3_town_28 : decode cX3_town 28 = .ok (.ireturn, 1) := by decide +kernel
theorem dX3_town_29 : decode cX3_town 29 = .ok (.aload 5, 2) := by decide +kernel
theorem dX3_town_31 : decode cX3_town 31 = .ok (.iload_n 2, 1) := by decide +kernel
theorem dX3_town_32 : decode cX3_town 32 = .ok (.iload_n 3, 1) := by decide +kernel
theorem dX3_town_33 : decode cX3_town 33 = .ok (.iload 4, 2) := by decide +kernel
theorem dX3_town_35 : decode cX3_town 35 = .ok (.invokevirtual 47, 3) := by decide +kernel
theorem dX3_town_38 : decode cX3_town 38 = .ok (.istore 6, 2) := by decide +kernel
theorem dX3_town_40 : decode cX3_town 40 = .ok (.iload 6, 2) := by decide +kernel
theorem dX3_town_42 : decode cX3_town 42 = .ok (.ifCond .eq 10, 3) := by decide +kernel
theorem dX3_town_45 : decode cX3_town 45 = .ok (.aload_n 0, 1) := by decide +kernel
theorem dX3_town_46 : decode cX3_town 46 = .ok (.iload 6, 2) := by decide +kernel
theorem dX3_town_48 : decode cX3_town 48 = .ok (.invokevirtual 51, 3) := by decide +kernel
theorem dX3_town_51 : decode cX3_town 51 = .ok (.ireturn, 1) := by decide +kernel
theorem dX3_town_52 : decode cX3_town 52 = .ok (.aload 5, 2) := by decide +kernel
theorem dX3_town_54 : decode cX3_town 54 = .ok (.iload_n 3, 1) := by decide +kernel
theorem dX3_town_55 : decode cX3_town 55 = .ok (.iload 4, 2) := by decide +kernel
theorem dX3_town_57 : decode cX3_town 57 = .ok (.invokestatic 55, 3) := by decide +kernel
theorem dX3_town_60 : decode cX3_town 60 = .ok (.istore 7, 2) := by decide +kernel
theorem dX3_town_62 : decode cX3_town 62 = .ok (.iload 7, 2) := by decide +kernel
theorem dX3_town_64 : decode cX3_town 64 = .ok (.bipush (-9), 2) := by decide +kernel
theorem dX3_town_66 : decode cX3_town 66 = .ok (.if_icmp .eq 9, 3) := by decide +kernel
theorem dX3_town_69 : decode cX3_town 69 = .ok (.bipush (-100), 2) := by decide +kernel
theorem dX3_town_71 : decode cX3_town 71 = .ok (.iload 7, 2) := by decide +kernel
theorem dX3_town_73 : decode cX3_town 73 = .ok (.isub, 1) := by decide +kernel
theorem dX3_town_74 : decode cX3_town 74 = .ok (.ireturn, 1) := by decide +kernel
theorem dX3_town_75 : decode cX3_town 75 = .ok (.aload_n 0, 1) := by decide +kernel
theorem dX3_town_76 : decode cX3_town 76 = .ok (.getfield 20, 3) := by decide +kernel
theorem dX3_town_79 : decode cX3_town 79 = .ok (.aload 5, 2) := by decide +kernel
theorem dX3_town_81 : decode cX3_town 81 = .ok (.iload_n 3, 1) := by decide +kernel
theorem dX3_town_82 : decode cX3_town 82 = .ok (.iload 4, 2) := by decide +kernel
theorem dX3_town_84 : decode cX3_town 84 = .ok (.invokevirtual 59, 3) := by decide +kernel
theorem dX3_town_87 : decode cX3_town 87 = .ok (.aload_n 0, 1) := by decide +kernel
theorem dX3_town_88 : decode cX3_town 88 = .ok (.getfield 30, 3) := by decide +kernel
theorem dX3_town_91 : decode cX3_town 91 = .ok (.iconst 0, 1) := by decide +kernel
theorem dX3_town_92 : decode cX3_town 92 = .ok (.putfield 63, 3) := by decide +kernel
theorem dX3_town_95 : decode cX3_town 95 = .ok (.aload_n 0, 1) := by decide +kernel
theorem dX3_town_96 : decode cX3_town 96 = .ok (.iconst 0, 1) := by decide +kernel
theorem dX3_town_97 : decode cX3_town 97 = .ok (.putfield 66, 3) := by decide +kernel
theorem dX3_town_100 : decode cX3_town 100 = .ok (.aload_n 0, 1) := by decide +kernel
theorem dX3_town_101 : decode cX3_town 101 = .ok (.getfield 20, 3) := by decide +kernel
theorem dX3_town_104 : decode cX3_town 104 = .ok (.getfield 69, 3) := by decide +kernel
theorem dX3_town_107 : decode cX3_town 107 = .ok (.ireturn, 1) := by decide +kernel
set_option maxRecDepth 20000 in
theorem ggX3_ofPerson_X2_has : GoodIn wsX3_ofPerson wsX2_has := goodIn_r _ [9, 10, 39, 40, 41, 42, 43, 44] (by decide +kernel) (by decide +kernel)
set_option maxRecDepth 20000 in
theorem gX3_ofPerson_X2_has : GoodIn wsX3_ofPerson (wsV RX3 70 RX2 yX2_has wsX2_has) := goodIn_app (goodIn_of _ (by decide +kernel)) ggX3_ofPerson_X2_has
set_option maxRecDepth 20000 in
theorem ggX3_ofPerson_X2_isIn : GoodIn wsX3_ofPerson wsX2_isIn := goodIn_r _ [14, 15, 16, 17, 18, 39, 40, 41, 42, 43, 44] (by decide +kernel) (by decide +kernel)
set_option maxRecDepth 20000 in
theorem gX3_ofPerson_X2_isIn : GoodIn wsX3_ofPerson (wsV RX3 83 RX2 yX2_isIn wsX2_isIn) := goodIn_app (goodIn_of _ (by decide +kernel)) ggX3_ofPerson_X2_isIn
set_option maxRecDepth 20000 in
theorem ggX3_ofPerson_X2_saysNow : GoodIn wsX3_ofPerson wsX2_saysNow := goodIn_r _ [22, 23, 24, 25, 26, 17, 27, 28, 29, 30, 31, 39, 40, 41, 42, 43, 44] (by decide +kernel) (by decide +kernel)
set_option maxRecDepth 20000 in
theorem gX3_ofPerson_X2_saysNow : GoodIn wsX3_ofPerson (wsV RX3 86 RX2 yX2_saysNow wsX2_saysNow) := goodIn_app (goodIn_of _ (by decide +kernel)) ggX3_ofPerson_X2_saysNow
theorem dX3_ofPerson_0 : decode cX3_ofPerson 0 = .ok (.aload_n 0, 1) := by decide +kernel
theorem dX3_ofPerson_1 : decode cX3_ofPerson 1 = .ok (.getfield 20, 3) := by decide +kernel
theorem dX3_ofPerson_4 : decode cX3_ofPerson 4 = .ok (.iload_n 1, 1) := by decide +kernel
theorem dX3_ofPerson_5 : decode cX3_ofPerson 5 = .ok (.invokevirtual 70, 3) := by decide +kernel
theorem dX3_ofPerson_8 : decode cX3_ofPerson 8 = .ok (.ifCond .ne 5, 3) := by decide +kernel
theorem dX3_ofPerson_11 : decode cX3_ofPerson 11 = .ok (.iconst (-1), 1) := by decide +kernel
theorem dX3_ofPerson_12 : decode cX3_ofPerson 12 = .ok (.ireturn, 1) := by decide +kernel
theorem dX3_ofPerson_13 : decode cX3_ofPerson 13 = .ok (.iload_n 2, 1) := by decide +kernel
theorem dX3_ofPerson_14 : decode cX3_ofPerson 14 = .ok (.tableswitch 90 0 4 #[34, 44, 54, 64, 81], 34) := by decide +kernel
theorem dX3_ofPerson_48 : decode cX3_ofPerson 48 = .ok (.aload_n 0, 1) := by decide +kernel
theorem dX3_ofPerson_49 : decode cX3_ofPerson 49 = .ok (.getfield 20, 3) := by decide +kernel
theorem dX3_ofPerson_52 : decode cX3_ofPerson 52 = .ok (.getfield 73, 3) := by decide +kernel
theorem dX3_ofPerson_55 : decode cX3_ofPerson 55 = .ok (.iload_n 1, 1) := by decide +kernel
theorem dX3_ofPerson_56 : decode cX3_ofPerson 56 = .ok (.iaload, 1) := by decide +kernel
theorem dX3_ofPerson_57 : decode cX3_ofPerson 57 = .ok (.ireturn, 1) := by decide +kernel
theorem dX3_ofPerson_58 : decode cX3_ofPerson 58 = .ok (.aload_n 0, 1) := by decide +kernel
theorem dX3_ofPerson_59 : decode cX3_ofPerson 59 = .ok (.getfield 20, 3) := by decide +kernel
theorem dX3_ofPerson_62 : decode cX3_ofPerson 62 = .ok (.getfield 77, 3) := by decide +kernel
theorem dX3_ofPerson_65 : decode cX3_ofPerson 65 = .ok (.iload_n 1, 1) := by decide +kernel
theorem dX3_ofPerson_66 : decode cX3_ofPerson 66 = .ok (.iaload, 1) := by decide +kernel
theorem dX3_ofPerson_67 : decode cX3_ofPerson 67 = .ok (.ireturn, 1) := by decide +kernel
theorem dX3_ofPerson_68 : decode cX3_ofPerson 68 = .ok (.aload_n 0, 1) := by decide +kernel
theorem dX3_ofPerson_69 : decode cX3_ofPerson 69 = .ok (.getfield 20, 3) := by decide +kernel
theorem dX3_ofPerson_72 : decode cX3_ofPerson 72 = .ok (.getfield 80, 3) := by decide +kernel
theorem dX3_ofPerson_75 : decode cX3_ofPerson 75 = .ok (.iload_n 1, 1) := by decide +kernel
theorem dX3_ofPerson_76 : decode cX3_ofPerson 76 = .ok (.iaload, 1) := by decide +kernel
theorem dX3_ofPerson_77 : decode cX3_ofPerson 77 = .ok (.ireturn, 1) := by decide +kernel
theorem dX3_ofPerson_78 : decode cX3_ofPerson 78 = .ok (.aload_n 0, 1) := by decide +kernel
theorem dX3_ofPerson_79 : decode cX3_ofPerson 79 = .ok (.getfield 20, 3) := by decide +kernel
theorem dX3_ofPerson_82 : decode cX3_ofPerson 82 = .ok (.iload_n 1, 1) := by decide +kernel
theorem dX3_ofPerson_83 : decode cX3_ofPerson 83 = .ok (.invokevirtual 83, 3) := by decide +kernel
theorem dX3_ofPerson_86 : decode cX3_ofPerson 86 = .ok (.ifCond .eq 7, 3) := by decide +kernel
theorem dX3_ofPerson_89 : decode cX3_ofPerson 89 = .ok (.iconst 1, 1) := by decide +kernel
theorem dX3_ofPerson_90 : decode cX3_ofPerson 90 = .ok (.goto 4, 3) := by decide +kernel
theorem dX3_ofPerson_93 : decode cX3_ofPerson 93 = .ok (.iconst 0, 1) := by decide +kernel
theorem dX3_ofPerson_94 : decode cX3_ofPerson 94 = .ok (.ireturn, 1) := by decide +kernel
theorem dX3_ofPerson_95 : decode cX3_ofPerson 95 = .ok (.aload_n 0, 1) := by decide +kernel
theorem dX3_ofPerson_96 : decode cX3_ofPerson 96 = .ok (.getfield 20, 3) := by decide +kernel
theorem dX3_ofPerson_99 : decode cX3_ofPerson 99 = .ok (.iload_n 1, 1) := by decide +kernel
theorem dX3_ofPerson_100 : decode cX3_ofPerson 100 = .ok (.invokevirtual 86, 3) := by decide +kernel
theorem dX3_ofPerson_103 : decode cX3_ofPerson 103 = .ok (.ireturn, 1) := by decide +kernel
theorem dX3_ofPerson_104 : decode cX3_ofPerson 104 = .ok (.bipush (-2), 2) := by decide +kernel
theorem dX3_ofPerson_106 : decode cX3_ofPerson 106 = .ok (.ireturn, 1) := by decide +kernel
set_option maxRecDepth 20000 in
theorem ggX3_tune_X2_has : GoodIn wsX3_tune wsX2_has := goodIn_r _ [7, 8, 16, 17, 18, 19, 20, 21] (by decide +kernel) (by decide +kernel)
set_option maxRecDepth 20000 in
theorem gX3_tune_X2_has : GoodIn wsX3_tune (wsV RX3 70 RX2 yX2_has wsX2_has) := goodIn_app (goodIn_of _ (by decide +kernel)) ggX3_tune_X2_has
theorem dX3_tune_0 : decode cX3_tune 0 = .ok (.aload_n 0, 1) := by decide +kernel
theorem dX3_tune_1 : decode cX3_tune 1 = .ok (.getfield 20, 3) := by decide +kernel
