theorem dX3_isAhead_3 : decode cX3_isAhead 3 = .ok (.lcmp, 1) := by decide +kernel
theorem dX3_isAhead_4 : decode cX3_isAhead 4 = .ok (.ifCond .eq 18, 3) := by decide +kernel
theorem dX3_isAhead_7 : decode cX3_isAhead 7 = .ok (.lload_n 2, 1) := by decide +kernel
theorem dX3_isAhead_8 : decode cX3_isAhead 8 = .ok (.lload 5, 2) := by decide +kernel
theorem dX3_isAhead_10 : decode cX3_isAhead 10 = .ok (.lcmp, 1) := by decide +kernel
theorem dX3_isAhead_11 : decode cX3_isAhead 11 = .ok (.ifCond .ge 7, 3) := by decide +kernel
theorem dX3_isAhead_14 : decode cX3_isAhead 14 = .ok (.iconst 1, 1) := by decide +kernel
theorem dX3_isAhead_15 : decode cX3_isAhead 15 = .ok (.goto 29, 3) := by decide +kernel
theorem dX3_isAhead_18 : decode cX3_isAhead 18 = .ok (.iconst 0, 1) := by decide +kernel
theorem dX3_isAhead_19 : decode cX3_isAhead 19 = .ok (.goto 25, 3) := by decide +kernel
theorem dX3_isAhead_22 : decode cX3_isAhead 22 = .ok (.aload_n 0, 1) := by decide +kernel
theorem dX3_isAhead_23 : decode cX3_isAhead 23 = .ok (.iload_n 1, 1) := by decide +kernel
theorem dX3_isAhead_24 : decode cX3_isAhead 24 = .ok (.iconst 1, 1) := by decide +kernel
theorem dX3_isAhead_25 : decode cX3_isAhead 25 = .ok (.invokevirtual 55, 3) := by decide +kernel
theorem dX3_isAhead_28 : decode cX3_isAhead 28 = .ok (.aload_n 0, 1) := by decide +kernel
theorem dX3_isAhead_29 : decode cX3_isAhead 29 = .ok (.iload 4, 2) := by decide +kernel
theorem dX3_isAhead_31 : decode cX3_isAhead 31 = .ok (.iconst 1, 1) := by decide +kernel
theorem dX3_isAhead_32 : decode cX3_isAhead 32 = .ok (.invokevirtual 55, 3) := by decide +kernel
theorem dX3_isAhead_35 : decode cX3_isAhead 35 = .ok (.lcmp, 1) := by decide +kernel
theorem dX3_isAhead_36 : decode cX3_isAhead 36 = .ok (.ifCond .ge 7, 3) := by decide +kernel
theorem dX3_isAhead_39 : decode cX3_isAhead 39 = .ok (.iconst 1, 1) := by decide +kernel
theorem dX3_isAhead_40 : decode cX3_isAhead 40 = .ok (.goto 4, 3) := by decide +kernel
theorem dX3_isAhead_43 : decode cX3_isAhead 43 = .ok (.iconst 0, 1) := by decide +kernel
theorem dX3_isAhead_44 : decode cX3_isAhead 44 = .ok (.ireturn, 1) := by decide +kernel
set_option maxRecDepth 20000 in
theorem ggX3_bestBidder_X3_ofA : GoodIn wsX3_bestBidder wsX3_ofA := goodIn_r _ [6, 1, 47, 48, 49, 50, 51, 52, 53, 54, 55, 56, 57, 58, 59, 60, 61] (by decide +kernel) (by decide +kernel)
set_option maxRecDepth 20000 in
theorem gX3_bestBidder_X3_ofA : GoodIn wsX3_bestBidder (wsV RX3 59 RX3 yX3_ofA wsX3_ofA) := goodIn_app (goodIn_of _ (by decide +kernel)) ggX3_bestBidder_X3_ofA
set_option maxRecDepth 20000 in
theorem ggX3_bestBidder_X3_whyNotFor : GoodIn wsX3_bestBidder wsX3_whyNotFor := goodIn_r _ [10, 2, 3, 4, 5, 6, 1, 11, 12, 13, 14, 15, 16, 17, 18, 19, 20, 21, 22, 23, 24, 25, 26, 27, 28, 29, 30, 31, 32, 33, 34, 35, 36, 37, 38, 39, 40, 41, 42, 47, 48, 49, 50, 51, 52, 53, 54, 55, 56, 57, 58, 59, 60, 61] (by decide +kernel) (by decide +kernel)
set_option maxRecDepth 20000 in
theorem gX3_bestBidder_X3_whyNotFor : GoodIn wsX3_bestBidder (wsV RX3 84 RX3 yX3_whyNotFor wsX3_whyNotFor) := goodIn_app (goodIn_of _ (by decide +kernel)) ggX3_bestBidder_X3_whyNotFor
set_option maxRecDepth 20000 in
theorem ggX3_bestBidder_X3_isAhead : GoodIn wsX3_bestBidder wsX3_isAhead := goodIn_r _ [46, 31, 32, 33, 5, 34, 1, 47, 48, 49, 50, 51, 52, 53, 54, 55, 56, 57, 58, 59, 60, 61] (by decide +kernel) (by decide +kernel)
set_option maxRecDepth 20000 in
theorem gX3_bestBidder_X3_isAhead : GoodIn wsX3_bestBidder (wsV RX3 132 RX3 yX3_isAhead wsX3_isAhead) := goodIn_app (goodIn_of _ (by decide +kernel)) ggX3_bestBidder_X3_isAhead
theorem dX3_bestBidder_0 : decode cX3_bestBidder 0 = .ok (.iconst (-1), 1) := by decide +kernel
theorem dX3_bestBidder_1 : decode cX3_bestBidder 1 = .ok (.istore_n 2, 1) := by decide +kernel
theorem dX3_bestBidder_2 : decode cX3_bestBidder 2 = .ok (.iconst 0, 1) := by decide +kernel
theorem dX3_bestBidder_3 : decode cX3_bestBidder 3 = .ok (.istore_n 3, 1) := by decide +kernel
theorem dX3_bestBidder_4 : decode cX3_bestBidder 4 = .ok (.iload_n 3, 1) := by decide +kernel
theorem dX3_bestBidder_5 : decode cX3_bestBidder 5 = .ok (.i2l, 1) := by decide +kernel
theorem dX3_bestBidder_6 : decode cX3_bestBidder 6 = .ok (.aload_n 0, 1) := by decide +kernel
theorem dX3_bestBidder_7 : decode cX3_bestBidder 7 = .ok (.getfield 7, 3) := by decide +kernel
theorem dX3_bestBidder_10 : decode cX3_bestBidder 10 = .ok (.iconst 3, 1) := by decide +kernel
theorem dX3_bestBidder_11 : decode cX3_bestBidder 11 = .ok (.laload, 1) := by decide +kernel
theorem dX3_bestBidder_12 : decode cX3_bestBidder 12 = .ok (.lcmp, 1) := by decide +kernel
theorem dX3_bestBidder_13 : decode cX3_bestBidder 13 = .ok (.ifCond .ge 62, 3) := by decide +kernel
theorem dX3_bestBidder_16 : decode cX3_bestBidder 16 = .ok (.aload_n 0, 1) := by decide +kernel
theorem dX3_bestBidder_17 : decode cX3_bestBidder 17 = .ok (.iload_n 1, 1) := by decide +kernel
theorem dX3_bestBidder_18 : decode cX3_bestBidder 18 = .ok (.iconst 5, 1) := by decide +kernel
theorem dX3_bestBidder_19 : decode cX3_bestBidder 19 = .ok (.iload_n 3, 1) := by decide +kernel
theorem dX3_bestBidder_20 : decode cX3_bestBidder 20 = .ok (.iadd, 1) := by decide +kernel
theorem dX3_bestBidder_21 : decode cX3_bestBidder 21 = .ok (.invokevirtual 59, 3) := by decide +kernel
theorem dX3_bestBidder_24 : decode cX3_bestBidder 24 = .ok (.istore 4, 2) := by decide +kernel
theorem dX3_bestBidder_26 : decode cX3_bestBidder 26 = .ok (.iload 4, 2) := by decide +kernel
theorem dX3_bestBidder_28 : decode cX3_bestBidder 28 = .ok (.iconst (-1), 1) := by decide +kernel
theorem dX3_bestBidder_29 : decode cX3_bestBidder 29 = .ok (.if_icmp .eq 40, 3) := by decide +kernel
theorem dX3_bestBidder_32 : decode cX3_bestBidder 32 = .ok (.aload_n 0, 1) := by decide +kernel
theorem dX3_bestBidder_33 : decode cX3_bestBidder 33 = .ok (.iload_n 3, 1) := by decide +kernel
theorem dX3_bestBidder_34 : decode cX3_bestBidder 34 = .ok (.iload_n 1, 1) := by decide +kernel
theorem dX3_bestBidder_35 : decode cX3_bestBidder 35 = .ok (.invokevirtual 84, 3) := by decide +kernel
theorem dX3_bestBidder_38 : decode cX3_bestBidder 38 = .ok (.ifCond .ne 31, 3) := by decide +kernel
theorem dX3_bestBidder_41 : decode cX3_bestBidder 41 = .ok (.iload_n 2, 1) := by decide +kernel
theorem dX3_bestBidder_42 : decode cX3_bestBidder 42 = .ok (.iconst (-1), 1) := by decide +kernel
theorem dX3_bestBidder_43 : decode cX3_bestBidder 43 = .ok (.if_icmp .eq 24, 3) := by decide +kernel
theorem dX3_bestBidder_46 : decode cX3_bestBidder 46 = .ok (.aload_n 0, 1) := by decide +kernel
theorem dX3_bestBidder_47 : decode cX3_bestBidder 47 = .ok (.iload_n 3, 1) := by decide +kernel
theorem dX3_bestBidder_48 : decode cX3_bestBidder 48 = .ok (.iload 4, 2) := by decide +kernel
theorem dX3_bestBidder_50 : decode cX3_bestBidder 50 = .ok (.i2l, 1) := by decide +kernel
theorem dX3_bestBidder_51 : decode cX3_bestBidder 51 = .ok (.iload_n 2, 1) := by decide +kernel
theorem dX3_bestBidder_52 : decode cX3_bestBidder 52 = .ok (.aload_n 0, 1) := by decide +kernel
theorem dX3_bestBidder_53 : decode cX3_bestBidder 53 = .ok (.iload_n 1, 1) := by decide +kernel
theorem dX3_bestBidder_54 : decode cX3_bestBidder 54 = .ok (.iconst 5, 1) := by decide +kernel
theorem dX3_bestBidder_55 : decode cX3_bestBidder 55 = .ok (.iload_n 2, 1) := by decide +kernel
theorem dX3_bestBidder_56 : decode cX3_bestBidder 56 = .ok (.iadd, 1) := by decide +kernel
theorem dX3_bestBidder_57 : decode cX3_bestBidder 57 = .ok (.invokevirtual 59, 3) := by decide +kernel
theorem dX3_bestBidder_60 : decode cX3_bestBidder 60 = .ok (.i2l, 1) := by decide +kernel
theorem dX3_bestBidder_61 : decode cX3_bestBidder 61 = .ok (.invokevirtual 132, 3) := by decide +kernel
theorem dX3_bestBidder_64 : decode cX3_bestBidder 64 = .ok (.ifCond .eq 5, 3) := by decide +kernel
theorem dX3_bestBidder_67 : decode cX3_bestBidder 67 = .ok (.iload_n 3, 1) := by decide +kernel
theorem dX3_bestBidder_68 : decode cX3_bestBidder 68 = .ok (.istore_n 2, 1) := by decide +kernel
theorem dX3_bestBidder_69 : decode cX3_bestBidder 69 = .ok (.iinc 3 1, 3) := by decide +kernel
theorem dX3_bestBidder_72 : decode cX3_bestBidder 72 = .ok (.goto (-68), 3) := by decide +kernel
theorem dX3_bestBidder_75 : decode cX3_bestBidder 75 = .ok (.iload_n 2, 1) := by decide +kernel
theorem dX3_bestBidder_76 : decode cX3_bestBidder 76 = .ok (.ireturn, 1) := by decide +kernel
set_option maxRecDepth 20000 in
theorem ggX3_nextTurn_X3_whyNotFor : GoodIn wsX3_nextTurn wsX3_whyNotFor := goodIn_r _ [6, 7, 8, 9, 5, 10, 1, 11, 12, 13, 14, 15, 16, 17, 18, 19, 20, 21, 22, 23, 24, 25, 26, 27, 28, 29, 30, 31, 32, 33, 34, 35, 36, 37, 38, 39, 40, 41, 42, 47, 48, 49, 50, 51, 52, 53, 54, 55, 56, 57, 58, 59, 60, 61] (by decide +kernel) (by decide +kernel)
set_option maxRecDepth 20000 in
theorem gX3_nextTurn_X3_whyNotFor : GoodIn wsX3_nextTurn (wsV RX3 84 RX3 yX3_whyNotFor wsX3_whyNotFor) := goodIn_app (goodIn_of _ (by decide +kernel)) ggX3_nextTurn_X3_whyNotFor
set_option maxRecDepth 20000 in
theorem ggX3_nextTurn_X3_ofP : GoodIn wsX3_nextTurn wsX3_ofP := goodIn_r _ [34, 1, 47, 48, 49, 50, 51, 52, 53, 54, 55, 56, 57, 58, 59, 60, 61] (by decide +kernel) (by decide +kernel)
set_option maxRecDepth 20000 in
theorem gX3_nextTurn_X3_ofP : GoodIn wsX3_nextTurn (wsV RX3 55 RX3 yX3_ofP wsX3_ofP) := goodIn_app (goodIn_of _ (by decide +kernel)) ggX3_nextTurn_X3_ofP
set_option maxRecDepth 20000 in
theorem ggX3_nextTurn_X3_isAhead : GoodIn wsX3_nextTurn wsX3_isAhead := goodIn_r _ [46, 31, 32, 33, 5, 34, 1, 47, 48, 49, 50, 51, 52, 53, 54, 55, 56, 57, 58, 59, 60, 61] (by decide +kernel) (by decide +kernel)
set_option maxRecDepth 20000 in
theorem gX3_nextTurn_X3_isAhead : GoodIn wsX3_nextTurn (wsV RX3 132 RX3 yX3_isAhead wsX3_isAhead) := goodIn_app (goodIn_of _ (by decide +kernel)) ggX3_nextTurn_X3_isAhead
theorem dX3_nextTurn_0 : decode cX3_nextTurn 0 = .ok (.iconst (-1), 1) := by decide +kernel
theorem dX3_nextTurn_1 : decode cX3_nextTurn 1 = .ok (.istore_n 2, 1) := by decide +kernel
theorem dX3_nextTurn_2 : decode cX3_nextTurn 2 = .ok (.iconst 0, 1) := by decide +kernel
theorem dX3_nextTurn_3 : decode cX3_nextTurn 3 = .ok (.istore_n 3, 1) := by decide +kernel
theorem dX3_nextTurn_4 : decode cX3_nextTurn 4 = .ok (.iload_n 3, 1) := by decide +kernel
theorem dX3_nextTurn_5 : decode cX3_nextTurn 5 = .ok (.i2l, 1) := by decide +kernel
theorem dX3_nextTurn_6 : decode cX3_nextTurn 6 = .ok (.aload_n 0, 1) := by decide +kernel
theorem dX3_nextTurn_7 : decode cX3_nextTurn 7 = .ok (.getfield 7, 3) := by decide +kernel
theorem dX3_nextTurn_10 : decode cX3_nextTurn 10 = .ok (.iconst 3, 1) := by decide +kernel
theorem dX3_nextTurn_11 : decode cX3_nextTurn 11 = .ok (.laload, 1) := by decide +kernel
theorem dX3_nextTurn_12 : decode cX3_nextTurn 12 = .ok (.lcmp, 1) := by decide +kernel
theorem dX3_nextTurn_13 : decode cX3_nextTurn 13 = .ok (.ifCond .ge 46, 3) := by decide +kernel
theorem dX3_nextTurn_16 : decode cX3_nextTurn 16 = .ok (.aload_n 0, 1) := by decide +kernel
theorem dX3_nextTurn_17 : decode cX3_nextTurn 17 = .ok (.iload_n 3, 1) := by decide +kernel
theorem dX3_nextTurn_18 : decode cX3_nextTurn 18 = .ok (.iload_n 1, 1) := by decide +kernel
theorem dX3_nextTurn_19 : decode cX3_nextTurn 19 = .ok (.invokevirtual 84, 3) := by decide +kernel
theorem dX3_nextTurn_22 : decode cX3_nextTurn 22 = .ok (.ifCond .ne 31, 3) := by decide +kernel
theorem dX3_nextTurn_25 : decode cX3_nextTurn 25 = .ok (.iload_n 2, 1) := by decide +kernel
theorem dX3_nextTurn_26 : decode cX3_nextTurn 26 = .ok (.iconst (-1), 1) := by decide +kernel
theorem dX3_nextTurn_27 : decode cX3_nextTurn 27 = .ok (.if_icmp .eq 24, 3) := by decide +kernel
theorem dX3_nextTurn_30 : decode cX3_nextTurn 30 = .ok (.aload_n 0, 1) := by decide +kernel
theorem dX3_nextTurn_31 : decode cX3_nextTurn 31 = .ok (.iload_n 3, 1) := by decide +kernel
theorem dX3_nextTurn_32 : decode cX3_nextTurn 32 = .ok (.aload_n 0, 1) := by decide +kernel
theorem dX3_nextTurn_33 : decode cX3_nextTurn 33 = .ok (.iload_n 3, 1) := by decide +kernel
theorem dX3_nextTurn_34 : decode cX3_nextTurn 34 = .ok (.iconst 2, 1) := by decide +kernel
theorem dX3_nextTurn_35 : decode cX3_nextTurn 35 = .ok (.invokevirtual 55, 3) := by decide +kernel
theorem dX3_nextTurn_38 : decode cX3_nextTurn 38 = .ok (.iload_n 2, 1) := by decide +kernel
theorem dX3_nextTurn_39 : decode cX3_nextTurn 39 = .ok (.aload_n 0, 1) := by decide +kernel
theorem dX3_nextTurn_40 : decode cX3_nextTurn 40 = .ok (.iload_n 2, 1) := by decide +kernel
theorem dX3_nextTurn_41 : decode cX3_nextTurn 41 = .ok (.iconst 2, 1) := by decide +kernel
theorem dX3_nextTurn_42 : decode cX3_nextTurn 42 = .ok (.invokevirtual 55, 3) := by decide +kernel
theorem dX3_nextTurn_45 : decode cX3_nextTurn 45 = .ok (.invokevirtual 132, 3) := by decide +kernel
theorem dX3_nextTurn_48 : decode cX3_nextTurn 48 = .ok (.ifCond .eq 5, 3) := by decide +kernel
theorem dX3_nextTurn_51 : decode cX3_nextTurn 51 = .ok (.iload_n 3, 1) := by decide +kernel
theorem dX3_nextTurn_52 : decode cX3_nextTurn 52 = .ok (.istore_n 2, 1) := by decide +kernel
theorem dX3_nextTurn_53 : decode cX3_nextTurn 53 = .ok (.iinc 3 1, 3) := by decide +kernel
theorem dX3_nextTurn_56 : decode cX3_nextTurn 56 = .ok (.goto (-52), 3) := by decide +kernel
theorem dX3_nextTurn_59 : decode cX3_nextTurn 59 = .ok (.iload_n 2, 1) := by decide +kernel
theorem dX3_nextTurn_60 : decode cX3_nextTurn 60 = .ok (.ireturn, 1) := by decide +kernel
set_option maxRecDepth 20000 in
theorem ggX3_covererOf_X3_ofA : GoodIn wsX3_covererOf wsX3_ofA := goodIn_r _ [5, 6, 55, 56, 57, 58, 59, 60, 61, 62, 63, 64, 65, 66, 67, 68, 69] (by decide +kernel) (by decide +kernel)
set_option maxRecDepth 20000 in
theorem gX3_covererOf_X3_ofA : GoodIn wsX3_covererOf (wsV RX3 59 RX3 yX3_ofA wsX3_ofA) := goodIn_app (goodIn_of _ (by decide +kernel)) ggX3_covererOf_X3_ofA
set_option maxRecDepth 20000 in
theorem ggX3_covererOf_X3_bestBidder : GoodIn wsX3_covererOf wsX3_bestBidder := goodIn_r _ [10, 6, 1, 2, 3, 4, 5, 11, 12, 13, 14, 15, 16, 17, 18, 19, 20, 21, 22, 23, 24, 25, 26, 27, 28, 29, 30, 31, 32, 33, 34, 35, 36, 37, 38, 39, 40, 41, 42, 43, 44, 45, 46, 47, 48, 49, 50, 55, 56, 57, 58, 59, 60, 61, 62, 63, 64, 65, 66, 67, 68, 69] (by decide +kernel) (by decide +kernel)
set_option maxRecDepth 20000 in
theorem gX3_covererOf_X3_bestBidder : GoodIn wsX3_covererOf (wsV RX3 136 RX3 yX3_bestBidder wsX3_bestBidder) := goodIn_app (goodIn_of _ (by decide +kernel)) ggX3_covererOf_X3_bestBidder
set_option maxRecDepth 20000 in
theorem ggX3_covererOf_X3_nextTurn : GoodIn wsX3_covererOf wsX3_nextTurn := goodIn_r _ [54, 6, 11, 12, 13, 4, 14, 1, 2, 3, 5, 15, 16, 17, 18, 19, 20, 21, 22, 23, 24, 25, 26, 27, 28, 29, 30, 31, 32, 33, 34, 35, 36, 37, 38, 39, 40, 41, 42, 43, 44, 45, 46, 47, 48, 49, 50, 55, 56, 57, 58, 59, 60, 61, 62, 63, 64, 65, 66, 67, 68, 69] (by decide +kernel) (by decide +kernel)
set_option maxRecDepth 20000 in
theorem gX3_covererOf_X3_nextTurn : GoodIn wsX3_covererOf (wsV RX3 139 RX3 yX3_nextTurn wsX3_nextTurn) := goodIn_app (goodIn_of _ (by decide +kernel)) ggX3_covererOf_X3_nextTurn
theorem dX3_covererOf_0 : decode cX3_covererOf 0 = .ok (.aload_n 0, 1) := by decide +kernel
theorem dX3_covererOf_1 : decode cX3_covererOf 1 = .ok (.iload_n 1, 1) := by decide +kernel
theorem dX3_covererOf_2 : decode cX3_covererOf 2 = .ok (.iconst 2, 1) := by decide +kernel
theorem dX3_covererOf_3 : decode cX3_covererOf 3 = .ok (.invokevirtual 59, 3) := by decide +kernel
theorem dX3_covererOf_6 : decode cX3_covererOf 6 = .ok (.ifCond .eq 5, 3) := by decide +kernel
theorem dX3_covererOf_9 : decode cX3_covererOf 9 = .ok (.iconst (-1), 1) := by decide +kernel
theorem dX3_covererOf_10 : decode cX3_covererOf 10 = .ok (.ireturn, 1) := by decide +kernel
theorem dX3_covererOf_11 : decode cX3_covererOf 11 = .ok (.aload_n 0, 1) := by decide +kernel
theorem dX3_covererOf_12 : decode cX3_covererOf 12 = .ok (.iload_n 1, 1) := by decide +kernel
theorem dX3_covererOf_13 : decode cX3_covererOf 13 = .ok (.invokevirtual 136, 3) := by decide +kernel
theorem dX3_covererOf_16 : decode cX3_covererOf 16 = .ok (.istore_n 2, 1) := by decide +kernel
theorem dX3_covererOf_17 : decode cX3_covererOf 17 = .ok (.iload_n 2, 1) := by decide +kernel
theorem dX3_covererOf_18 : decode cX3_covererOf 18 = .ok (.iconst (-1), 1) := by decide +kernel
theorem dX3_covererOf_19 : decode cX3_covererOf 19 = .ok (.if_icmp .eq 7, 3) := by decide +kernel
theorem dX3_covererOf_22 : decode cX3_covererOf 22 = .ok (.iload_n 2, 1) := by decide +kernel
theorem dX3_covererOf_23 : decode cX3_covererOf 23 = .ok (.goto 8, 3) := by decide +kernel
theorem dX3_covererOf_26 : decode cX3_covererOf 26 = .ok (.aload_n 0, 1) := by decide +kernel
theorem dX3_covererOf_27 : decode cX3_covererOf 27 = .ok (.iload_n 1, 1) := by decide +kernel
theorem dX3_covererOf_28 : decode cX3_covererOf 28 = .ok (.invokevirtual 139, 3) := by decide +kernel
theorem dX3_covererOf_31 : decode cX3_covererOf 31 = .ok (.ireturn, 1) := by decide +kernel
set_option maxRecDepth 20000 in
theorem ggX3_covers_X3_covererOf : GoodIn wsX3_covers wsX3_covererOf := goodIn_r _ [6, 7, 8, 9, 5, 10, 1, 11, 12, 13, 14, 15, 16, 17, 18, 19, 20, 21, 22, 23, 24, 25, 26, 27, 28, 29, 30, 31, 32, 33, 34, 35, 36, 37, 38, 39, 40, 41, 42, 43, 44, 45, 46, 47, 48, 49, 50, 51, 52, 53, 54, 55, 56, 57, 58, 67, 68, 69, 70, 71, 72, 73, 74, 75, 76, 77, 78, 79, 80, 81] (by decide +kernel) (by decide +kernel)
set_option maxRecDepth 20000 in
theorem gX3_covers_X3_covererOf : GoodIn wsX3_covers (wsV RX3 142 RX3 yX3_covererOf wsX3_covererOf) := goodIn_app (goodIn_of _ (by decide +kernel)) ggX3_covers_X3_covererOf
set_option maxRecDepth 20000 in
theorem ggX3_covers_X3_bestBidder : GoodIn wsX3_covers wsX3_bestBidder := goodIn_r _ [14, 1, 7, 8, 9, 5, 10, 15, 16, 17, 18, 19, 20, 21, 22, 23, 24, 25, 26, 27, 28, 29, 30, 31, 32, 33, 34, 35, 36, 37, 38, 39, 40, 41, 42, 43, 44, 45, 46, 47, 48, 49, 50, 51, 52, 53, 54, 67, 68, 69, 70, 71, 72, 73, 74, 75, 76, 77, 78, 79, 80, 81] (by decide +kernel) (by decide +kernel)
set_option maxRecDepth 20000 in
theorem gX3_covers_X3_bestBidder : GoodIn wsX3_covers (wsV RX3 136 RX3 yX3_bestBidder wsX3_bestBidder) := goodIn_app (goodIn_of _ (by decide +kernel)) ggX3_covers_X3_bestBidder
set_option maxRecDepth 20000 in
theorem ggX3_covers_X3_ofA : GoodIn wsX3_covers wsX3_ofA := goodIn_r _ [10, 1, 67, 68, 69, 70, 71, 72, 73, 74, 75, 76, 77, 78, 79, 80, 81] (by decide +kernel) (by decide +kernel)
set_option maxRecDepth 20000 in
theorem gX3_covers_X3_ofA : GoodIn wsX3_covers (wsV RX3 59 RX3 yX3_ofA wsX3_ofA) := goodIn_app (goodIn_of _ (by decide +kernel)) ggX3_covers_X3_ofA
set_option maxRecDepth 20000 in
theorem ggX3_covers_X3_becomes : GoodIn wsX3_covers wsX3_becomes := goodIn_r _ [62, 1, 67, 68, 69, 70, 71, 72, 73, 74, 75, 76, 77, 78, 79, 80, 81] (by decide +kernel) (by decide +kernel)
set_option maxRecDepth 20000 in
theorem gX3_covers_X3_becomes : GoodIn wsX3_covers (wsV RX3 113 RX3 yX3_becomes wsX3_becomes) := goodIn_app (goodIn_of _ (by decide +kernel)) ggX3_covers_X3_becomes
set_option maxRecDepth 20000 in
theorem ggX3_covers_X3_clearsBids : GoodIn wsX3_covers wsX3_clearsBids := goodIn_r _ [66, 59, 60, 61, 5, 62, 1, 67, 68, 69, 70, 71, 72, 73, 74, 75, 76, 77, 78, 79, 80, 81] (by decide +kernel) (by decide +kernel)
set_option maxRecDepth 20000 in
theorem gX3_covers_X3_clearsBids : GoodIn wsX3_covers (wsV RX3 117 RX3 yX3_clearsBids wsX3_clearsBids) := goodIn_app (goodIn_of _ (by decide +kernel)) ggX3_covers_X3_clearsBids
theorem dX3_covers_0 : decode cX3_covers 0 = .ok (.aload_n 0, 1) := by decide +kernel
theorem dX3_covers_1 : decode cX3_covers 1 = .ok (.iload_n 1, 1) := by decide +kernel
theorem dX3_covers_2 : decode cX3_covers 2 = .ok (.invokevirtual 142, 3) := by decide +kernel
theorem dX3_covers_5 : decode cX3_covers 5 = .ok (.istore_n 2, 1) := by decide +kernel
theorem dX3_covers_6 : decode cX3_covers 6 = .ok (.iload_n 2, 1) := by decide +kernel
theorem dX3_covers_7 : decode cX3_covers 7 = .ok (.iconst (-1), 1) := by decide +kernel
theorem dX3_covers_8 : decode cX3_covers 8 = .ok (.if_icmp .ne 5, 3) := by decide +kernel
theorem dX3_covers_11 : decode cX3_covers 11 = .ok (.iconst (-1), 1) := by decide +kernel
theorem dX3_covers_12 : decode cX3_covers 12 = .ok (.ireturn, 1) := by decide +kernel
theorem dX3_covers_13 : decode cX3_covers 13 = .ok (.aload_n 0, 1) := by decide +kernel
theorem dX3_covers_14 : decode cX3_covers 14 = .ok (.iload_n 1, 1) := by decide +kernel
theorem dX3_covers_15 : decode cX3_covers 15 = .ok (.invokevirtual 136, 3) := by decide +kernel
theorem dX3_covers_18 : decode cX3_covers 18 = .ok (.iconst (-1), 1) := by decide +kernel
theorem dX3_covers_19 : decode cX3_covers 19 = .ok (.if_icmp .eq 7, 3) := by decide +kernel
theorem dX3_covers_22 : decode cX3_covers 22 = .ok (.iconst 1, 1) := by decide +kernel
theorem dX3_covers_23 : decode cX3_covers 23 = .ok (.goto 4, 3) := by decide +kernel
theorem dX3_covers_26 : decode cX3_covers 26 = .ok (.iconst 0, 1) := by decide +kernel
theorem dX3_covers_27 : decode cX3_covers 27 = .ok (.istore_n 3, 1) := by decide +kernel
theorem dX3_covers_28 : decode cX3_covers 28 = .ok (.iload_n 3, 1) := by decide +kernel
theorem dX3_covers_29 : decode cX3_covers 29 = .ok (.ifCond .eq 14, 3) := by decide +kernel
theorem dX3_covers_32 : decode cX3_covers 32 = .ok (.aload_n 0, 1) := by decide +kernel
theorem dX3_covers_33 : decode cX3_covers 33 = .ok (.iload_n 1, 1) := by decide +kernel
theorem dX3_covers_34 : decode cX3_covers 34 = .ok (.iconst 5, 1) := by decide +kernel
theorem dX3_covers_35 : decode cX3_covers 35 = .ok (.iload_n 2, 1) := by decide +kernel
theorem dX3_covers_36 : decode cX3_covers 36 = .ok (.iadd, 1) := by decide +kernel
theorem dX3_covers_37 : decode cX3_covers 37 = .ok (.invokevirtual 59, 3) := by decide +kernel
theorem dX3_covers_40 : decode cX3_covers 40 = .ok (.goto 10, 3) := by decide +kernel
theorem dX3_covers_43 : decode cX3_covers 43 = .ok (.aload_n 0, 1) := by decide +kernel
theorem dX3_covers_44 : decode cX3_covers 44 = .ok (.getfield 7, 3) := by decide +kernel
theorem dX3_covers_47 : decode cX3_covers 47 = .ok (.iconst 1, 1) := by decide +kernel
theorem dX3_covers_48 : decode cX3_covers 48 = .ok (.laload, 1) := by decide +kernel
theorem dX3_covers_49 : decode cX3_covers 49 = .ok (.l2i, 1) := by decide +kernel
theorem dX3_covers_50 : decode cX3_covers 50 = .ok (.istore 4, 2) := by decide +kernel
theorem dX3_covers_52 : decode cX3_covers 52 = .ok (.aload_n 0, 1) := by decide +kernel
theorem dX3_covers_53 : decode cX3_covers 53 = .ok (.iload_n 1, 1) := by decide +kernel
theorem dX3_covers_54 : decode cX3_covers 54 = .ok (.iconst 2, 1) := by decide +kernel
theorem dX3_covers_55 : decode cX3_covers 55 = .ok (.iload_n 3, 1) := by decide +kernel
theorem dX3_covers_56 : decode cX3_covers 56 = .ok (.ifCond .eq 7, 3) := by decide +kernel
theorem dX3_covers_59 : decode cX3_covers 59 = .ok (.iconst 1, 1) := by decide +kernel
theorem dX3_covers_60 : decode cX3_covers 60 = .ok (.goto 4, 3) := by decide +kernel
theorem dX3_covers_63 : decode cX3_covers 63 = .ok (.iconst 2, 1) := by decide +kernel
theorem dX3_covers_64 : decode cX3_covers 64 = .ok (.invokevirtual 113, 3) := by decide +kernel
theorem dX3_covers_67 : decode cX3_covers 67 = .ok (.aload_n 0, 1) := by decide +kernel
theorem dX3_covers_68 : decode cX3_covers 68 = .ok (.iload_n 1, 1) := by decide +kernel
theorem dX3_covers_69 : decode cX3_covers 69 = .ok (.iconst 3, 1) := by decide +kernel
theorem dX3_covers_70 : decode cX3_covers 70 = .ok (.iload_n 2, 1) := by decide +kernel
theorem dX3_covers_71 : decode cX3_covers 71 = .ok (.invokevirtual 113, 3) := by decide +kernel
theorem dX3_covers_74 : decode cX3_covers 74 = .ok (.aload_n 0, 1) := by decide +kernel
theorem dX3_covers_75 : decode cX3_covers 75 = .ok (.iload_n 1, 1) := by decide +kernel
theorem dX3_covers_76 : decode cX3_covers 76 = .ok (.iconst 4, 1) := by decide +kernel
theorem dX3_covers_77 : decode cX3_covers 77 = .ok (.iload 4, 2) := by decide +kernel
theorem dX3_covers_79 : decode cX3_covers 79 = .ok (.invokevirtual 113, 3) := by decide +kernel
theorem dX3_covers_82 : decode cX3_covers 82 = .ok (.aload_n 0, 1) := by decide +kernel
theorem dX3_covers_83 : decode cX3_covers 83 = .ok (.iload_n 1, 1) := by decide +kernel
theorem dX3_covers_84 : decode cX3_covers 84 = .ok (.invokevirtual 117, 3) := by decide +kernel
theorem dX3_covers_87 : decode cX3_covers 87 = .ok (.aload_n 0, 1) := by decide +kernel
theorem dX3_covers_88 : decode cX3_covers 88 = .ok (.getfield 7, 3) := by decide +kernel
theorem dX3_covers_91 : decode cX3_covers 91 = .ok (.bipush 6, 2) := by decide +kernel
theorem dX3_covers_93 : decode cX3_covers 93 = .ok (.iconst 3, 1) := by decide +kernel
theorem dX3_covers_94 : decode cX3_covers 94 = .ok (.iload_n 2, 1) := by decide +kernel
theorem dX3_covers_95 : decode cX3_covers 95 = .ok (.imul, 1) := by decide +kernel
theorem dX3_covers_96 : decode cX3_covers 96 = .ok (.iadd, 1) := by decide +kernel
theorem dX3_covers_97 : decode cX3_covers 97 = .ok (.iconst 1, 1) := by decide +kernel
theorem dX3_covers_98 : decode cX3_covers 98 = .ok (.iadd, 1) := by decide +kernel
theorem dX3_covers_99 : decode cX3_covers 99 = .ok (.dup2, 1) := by decide +kernel
theorem dX3_covers_100 : decode cX3_covers 100 = .ok (.laload, 1) := by decide +kernel
theorem dX3_covers_101 : decode cX3_covers 101 = .ok (.iload 4, 2) := by decide +kernel
theorem dX3_covers_103 : decode cX3_covers 103 = .ok (.i2l, 1) := by decide +kernel
theorem dX3_covers_104 : decode cX3_covers 104 = .ok (.ladd, 1) := by decide +kernel
theorem dX3_covers_105 : decode cX3_covers 105 = .ok (.lastore, 1) := by decide +kernel
theorem dX3_covers_106 : decode cX3_covers 106 = .ok (.aload_n 0, 1) := by decide +kernel
theorem dX3_covers_107 : decode cX3_covers 107 = .ok (.getfield 7, 3) := by decide +kernel
theorem dX3_covers_110 : decode cX3_covers 110 = .ok (.bipush 6, 2) := by decide +kernel
theorem dX3_covers_112 : decode cX3_covers 112 = .ok (.iconst 3, 1) := by decide +kernel
theorem dX3_covers_113 : decode cX3_covers 113 = .ok (.aload_n 0, 1) := by decide +kernel
theorem dX3_covers_114 : decode cX3_covers 114 = .ok (.iload_n 1, 1) := by decide +kernel
theorem dX3_covers_115 : decode cX3_covers 115 = .ok (.iconst 0, 1) := by decide +kernel
theorem dX3_covers_116 : decode cX3_covers 116 = .ok (.invokevirtual 59, 3) := by decide +kernel
theorem dX3_covers_119 : decode cX3_covers 119 = .ok (.imul, 1) := by decide +kernel
theorem dX3_covers_120 : decode cX3_covers 120 = .ok (.iadd, 1) := by decide +kernel
theorem dX3_covers_121 : decode cX3_covers 121 = .ok (.iconst 1, 1) := by decide +kernel
theorem dX3_covers_122 : decode cX3_covers 122 = .ok (.iadd, 1) := by decide +kernel
theorem dX3_covers_123 : decode cX3_covers 123 = .ok (.dup2, 1) := by decide +kernel
theorem dX3_covers_124 : decode cX3_covers 124 = .ok (.laload, 1) := by decide +kernel
theorem dX3_covers_125 : decode cX3_covers 125 = .ok (.iload 4, 2) := by decide +kernel
theorem dX3_covers_127 : decode cX3_covers 127 = .ok (.i2l, 1) := by decide +kernel
theorem dX3_covers_128 : decode cX3_covers 128 = .ok (.lsub, 1) := by decide +kernel
theorem dX3_covers_129 : decode cX3_covers 129 = .ok (.lastore, 1) := by decide +kernel
theorem dX3_covers_130 : decode cX3_covers 130 = .ok (.aload_n 0, 1) := by decide +kernel
theorem dX3_covers_131 : decode cX3_covers 131 = .ok (.getfield 7, 3) := by decide +kernel
theorem dX3_covers_134 : decode cX3_covers 134 = .ok (.bipush 6, 2) := by decide +kernel
theorem dX3_covers_136 : decode cX3_covers 136 = .ok (.iconst 3, 1) := by decide +kernel
theorem dX3_covers_137 : decode cX3_covers 137 = .ok (.iload_n 2, 1) := by decide +kernel
theorem dX3_covers_138 : decode cX3_covers 138 = .ok (.imul, 1) := by decide +kernel
theorem dX3_covers_139 : decode cX3_covers 139 = .ok (.iadd, 1) := by decide +kernel
theorem dX3_covers_140 : decode cX3_covers 140 = .ok (.iconst 2, 1) := by decide +kernel
theorem dX3_covers_141 : decode cX3_covers 141 = .ok (.iadd, 1) := by decide +kernel
theorem dX3_covers_142 : decode cX3_covers 142 = .ok (.dup2, 1) := by decide +kernel
theorem dX3_covers_143 : decode cX3_covers 143 = .ok (.laload, 1) := by decide +kernel
theorem dX3_covers_144 : decode cX3_covers 144 = .ok (.iload_n 3, 1) := by decide +kernel
theorem dX3_covers_145 : decode cX3_covers 145 = .ok (.ifCond .eq 7, 3) := by decide +kernel
theorem dX3_covers_148 : decode cX3_covers 148 = .ok (.lconst 0, 1) := by decide +kernel
theorem dX3_covers_149 : decode cX3_covers 149 = .ok (.goto 4, 3) := by decide +kernel
theorem dX3_covers_152 : decode cX3_covers 152 = .ok (.lconst 1, 1) := by decide +kernel
theorem dX3_covers_153 : decode cX3_covers 153 = .ok (.ladd, 1) := by decide +kernel
theorem dX3_covers_154 : decode cX3_covers 154 = .ok (.lastore, 1) := by decide +kernel
theorem dX3_covers_155 : decode cX3_covers 155 = .ok (.iload_n 2, 1) := by decide +kernel
theorem dX3_covers_156 : decode cX3_covers 156 = .ok (.ireturn, 1) := by decide +kernel
set_option maxRecDepth 20000 in
theorem ggX3_coversAll_X3_ofA : GoodIn wsX3_coversAll wsX3_ofA := goodIn_r _ [6, 1, 71, 72, 73, 74, 75, 76, 77, 78, 79, 80, 81, 82, 83, 84, 85] (by decide +kernel) (by decide +kernel)
set_option maxRecDepth 20000 in
theorem gX3_coversAll_X3_ofA : GoodIn wsX3_coversAll (wsV RX3 59 RX3 yX3_ofA wsX3_ofA) := goodIn_app (goodIn_of _ (by decide +kernel)) ggX3_coversAll_X3_ofA
set_option maxRecDepth 20000 in
theorem ggX3_coversAll_X3_covers : GoodIn wsX3_coversAll wsX3_covers := goodIn_r _ [10, 1, 11, 12, 13, 5, 14, 2, 3, 4, 6, 15, 16, 17, 18, 19, 20, 21, 22, 23, 24, 25, 26, 27, 28, 29, 30, 31, 32, 33, 34, 35, 36, 37, 38, 39, 40, 41, 42, 43, 44, 45, 46, 47, 48, 49, 50, 51, 52, 53, 54, 55, 56, 57, 58, 59, 60, 61, 62, 63, 64, 65, 66, 67, 68, 69, 70, 71, 72, 73, 74, 75, 76, 77, 78, 79, 80, 81, 82, 83, 84, 85] (by decide +kernel) (by decide +kernel)
set_option maxRecDepth 20000 in
theorem gX3_coversAll_X3_covers : GoodIn wsX3_coversAll (wsV RX3 145 RX3 yX3_covers wsX3_covers) := goodIn_app (goodIn_of _ (by decide +kernel)) ggX3_coversAll_X3_covers
theorem dX3_coversAll_0 : decode cX3_coversAll 0 = .ok (.iconst 0, 1) := by decide +kernel
theorem dX3_coversAll_1 : decode cX3_coversAll 1 = .ok (.istore_n 1, 1) := by decide +kernel
theorem dX3_coversAll_2 : decode cX3_coversAll 2 = .ok (.iconst 0, 1) := by decide +kernel
theorem dX3_coversAll_3 : decode cX3_coversAll 3 = .ok (.istore_n 2, 1) := by decide +kernel
theorem dX3_coversAll_4 : decode cX3_coversAll 4 = .ok (.iload_n 2, 1) := by decide +kernel
theorem dX3_coversAll_5 : decode cX3_coversAll 5 = .ok (.i2l, 1) := by decide +kernel
theorem dX3_coversAll_6 : decode cX3_coversAll 6 = .ok (.aload_n 0, 1) := by decide +kernel
theorem dX3_coversAll_7 : decode cX3_coversAll 7 = .ok (.getfield 7, 3) := by decide +kernel
theorem dX3_coversAll_10 : decode cX3_coversAll 10 = .ok (.iconst 4, 1) := by decide +kernel
theorem dX3_coversAll_11 : decode cX3_coversAll 11 = .ok (.laload, 1) := by decide +kernel
theorem dX3_coversAll_12 : decode cX3_coversAll 12 = .ok (.lcmp, 1) := by decide +kernel
theorem dX3_coversAll_13 : decode cX3_coversAll 13 = .ok (.ifCond .ge 35, 3) := by decide +kernel
theorem dX3_coversAll_16 : decode cX3_coversAll 16 = .ok (.iload_n 1, 1) := by decide +kernel
theorem dX3_coversAll_17 : decode cX3_coversAll 17 = .ok (.aload_n 0, 1) := by decide +kernel
theorem dX3_coversAll_18 : decode cX3_coversAll 18 = .ok (.iload_n 2, 1) := by decide +kernel
theorem dX3_coversAll_19 : decode cX3_coversAll 19 = .ok (.iconst 2, 1) := by decide +kernel
theorem dX3_coversAll_20 : decode cX3_coversAll 20 = .ok (.invokevirtual 59, 3) := by decide +kernel
theorem dX3_coversAll_23 : decode cX3_coversAll 23 = .ok (.ifCond .ne 16, 3) := by decide +kernel
theorem dX3_coversAll_26 : decode cX3_coversAll 26 = .ok (.aload_n 0, 1) := by decide +kernel
theorem dX3_coversAll_27 : decode cX3_coversAll 27 = .ok (.iload_n 2, 1) := by decide +kernel
theorem dX3_coversAll_28 : decode cX3_coversAll 28 = .ok (.invokevirtual 145, 3) := by decide +kernel
theorem dX3_coversAll_31 : decode cX3_coversAll 31 = .ok (.iconst (-1), 1) := by decide +kernel
theorem dX3_coversAll_32 : decode cX3_coversAll 32 = .ok (.if_icmp .eq 7, 3) := by decide +kernel
theorem dX3_coversAll_35 : decode cX3_coversAll 35 = .ok (.iconst 1, 1) := by decide +kernel
theorem dX3_coversAll_36 : decode cX3_coversAll 36 = .ok (.goto 4, 3) := by decide +kernel
theorem dX3_coversAll_39 : decode cX3_coversAll 39 = .ok (.iconst 0, 1) := by decide +kernel
theorem dX3_coversAll_40 : decode cX3_coversAll 40 = .ok (.iadd, 1) := by decide +kernel
theorem dX3_coversAll_41 : decode cX3_coversAll 41 = .ok (.istore_n 1, 1) := by decide +kernel
theorem dX3_coversAll_42 : decode cX3_coversAll 42 = .ok (.iinc 2 1, 3) := by decide +kernel
theorem dX3_coversAll_45 : decode cX3_coversAll 45 = .ok (.goto (-41), 3) := by decide +kernel
theorem dX3_coversAll_48 : decode cX3_coversAll 48 = .ok (.iload_n 1, 1) := by decide +kernel
theorem dX3_coversAll_49 : decode cX3_coversAll 49 = .ok (.ireturn, 1) := by decide +kernel
set_option maxRecDepth 20000 in
theorem ggX3_cover_X3_isAbsence : GoodIn wsX3_cover wsX3_isAbsence := goodIn_r _ [6, 7, 8, 9, 5, 10, 86, 87, 88, 89, 90, 91, 92, 93, 94, 95, 96, 97, 98, 99, 100] (by decide +kernel) (by decide +kernel)
set_option maxRecDepth 20000 in
theorem gX3_cover_X3_isAbsence : GoodIn wsX3_cover (wsV RX3 42 RX3 yX3_isAbsence wsX3_isAbsence) := goodIn_app (goodIn_of _ (by decide +kernel)) ggX3_cover_X3_isAbsence
set_option maxRecDepth 20000 in
theorem ggX3_cover_X3_covererOf : GoodIn wsX3_cover wsX3_covererOf := goodIn_r _ [14, 15, 16, 17, 5, 18, 7, 19, 20, 21, 22, 23, 24, 25, 26, 27, 28, 29, 30, 31, 32, 33, 34, 35, 36, 37, 38, 39, 8, 9, 10, 40, 41, 42, 43, 44, 45, 46, 47, 48, 49, 50, 51, 52, 53, 54, 55, 56, 57, 58, 59, 60, 61, 62, 63, 86, 87, 88, 89, 90, 91, 92, 93, 94, 95, 96, 97, 98, 99, 100] (by decide +kernel) (by decide +kernel)
set_option maxRecDepth 20000 in
theorem gX3_cover_X3_covererOf : GoodIn wsX3_cover (wsV RX3 142 RX3 yX3_covererOf wsX3_covererOf) := goodIn_app (goodIn_of _ (by decide +kernel)) ggX3_cover_X3_covererOf
set_option maxRecDepth 20000 in
theorem ggX3_cover_X3_records : GoodIn wsX3_cover wsX3_records := goodIn_r _ [67, 68, 69, 70, 71, 72, 5, 73, 7, 86, 87, 88, 89, 90, 91, 92, 93, 94, 95, 96, 97, 98, 99, 100] (by decide +kernel) (by decide +kernel)
set_option maxRecDepth 20000 in
theorem gX3_cover_X3_records : GoodIn wsX3_cover (wsV RX3 93 RX3 yX3_records wsX3_records) := goodIn_app (goodIn_of _ (by decide +kernel)) ggX3_cover_X3_records
set_option maxRecDepth 20000 in
theorem ggX3_cover_X3_covers : GoodIn wsX3_cover wsX3_covers := goodIn_r _ [77, 7, 11, 12, 13, 5, 14, 15, 16, 17, 18, 19, 20, 21, 22, 23, 24, 25, 26, 27, 28, 29, 30, 31, 32, 33, 34, 35, 36, 37, 38, 39, 8, 9, 10, 40, 41, 42, 43, 44, 45, 46, 47, 48, 49, 50, 51, 52, 53, 54, 55, 56, 57, 58, 59, 60, 61, 62, 63, 78, 79, 80, 81, 82, 83, 84, 85, 86, 87, 88, 89, 90, 91, 92, 93, 94, 95, 96, 97, 98, 99, 100] (by decide +kernel) (by decide +kernel)
set_option maxRecDepth 20000 in
theorem gX3_cover_X3_covers : GoodIn wsX3_cover (wsV RX3 145 RX3 yX3_covers wsX3_covers) := goodIn_app (goodIn_of _ (by decide +kernel)) ggX3_cover_X3_covers
theorem dX3_cover_0 : decode cX3_cover 0 = .ok (.aload_n 0, 1) := by decide +kernel
theorem dX3_cover_1 : decode cX3_cover 1 = .ok (.aload_n 0, 1) := by decide +kernel
theorem dX3_cover_2 : decode cX3_cover 2 = .ok (.iload_n 1, 1) := by decide +kernel
theorem dX3_cover_3 : decode cX3_cover 3 = .ok (.invokevirtual 42, 3) := by decide +kernel
theorem dX3_cover_6 : decode cX3_cover 6 = .ok (.ifCond .ne 7, 3) := by decide +kernel
theorem dX3_cover_9 : decode cX3_cover 9 = .ok (.iconst 1, 1) := by decide +kernel
theorem dX3_cover_10 : decode cX3_cover 10 = .ok (.goto 17, 3) := by decide +kernel
theorem dX3_cover_13 : decode cX3_cover 13 = .ok (.aload_n 0, 1) := by decide +kernel
theorem dX3_cover_14 : decode cX3_cover 14 = .ok (.iload_n 1, 1) := by decide +kernel
theorem dX3_cover_15 : decode cX3_cover 15 = .ok (.invokevirtual 142, 3) := by decide +kernel
theorem dX3_cover_18 : decode cX3_cover 18 = .ok (.iconst (-1), 1) := by decide +kernel
theorem dX3_cover_19 : decode cX3_cover 19 = .ok (.if_icmp .eq 7, 3) := by decide +kernel
theorem dX3_cover_22 : decode cX3_cover 22 = .ok (.iconst 0, 1) := by decide +kernel
theorem dX3_cover_23 : decode cX3_cover 23 = .ok (.goto 4, 3) := by decide +kernel
theorem dX3_cover_26 : decode cX3_cover 26 = .ok (.iconst 2, 1) := by decide +kernel
theorem dX3_cover_27 : decode cX3_cover 27 = .ok (.putfield 30, 3) := by decide +kernel
theorem dX3_cover_30 : decode cX3_cover 30 = .ok (.aload_n 0, 1) := by decide +kernel
theorem dX3_cover_31 : decode cX3_cover 31 = .ok (.getfield 30, 3) := by decide +kernel
theorem dX3_cover_34 : decode cX3_cover 34 = .ok (.ifCond .eq 5, 3) := by decide +kernel
theorem dX3_cover_37 : decode cX3_cover 37 = .ok (.iconst 0, 1) := by decide +kernel
theorem dX3_cover_38 : decode cX3_cover 38 = .ok (.ireturn, 1) := by decide +kernel
theorem dX3_cover_39 : decode cX3_cover 39 = .ok (.aload_n 0, 1) := by decide +kernel
theorem dX3_cover_40 : decode cX3_cover 40 = .ok (.invokevirtual 93, 3) := by decide +kernel
theorem dX3_cover_43 : decode cX3_cover 43 = .ok (.aload_n 0, 1) := by decide +kernel
theorem dX3_cover_44 : decode cX3_cover 44 = .ok (.iload_n 1, 1) := by decide +kernel
theorem dX3_cover_45 : decode cX3_cover 45 = .ok (.invokevirtual 145, 3) := by decide +kernel
theorem dX3_cover_48 : decode cX3_cover 48 = .ok (.ireturn, 1) := by decide +kernel
set_option maxRecDepth 20000 in
theorem ggX3_coverAll_X3_records : GoodIn wsX3_coverAll wsX3_records := goodIn_r _ [6, 7, 8, 9, 10, 11, 5, 12, 13, 86, 87, 88, 89, 90, 91, 92, 93, 94, 95, 96, 97, 98, 99, 100] (by decide +kernel) (by decide +kernel)
set_option maxRecDepth 20000 in
theorem gX3_coverAll_X3_records : GoodIn wsX3_coverAll (wsV RX3 93 RX3 yX3_records wsX3_records) := goodIn_app (goodIn_of _ (by decide +kernel)) ggX3_coverAll_X3_records
set_option maxRecDepth 20000 in
theorem ggX3_coverAll_X3_coversAll : GoodIn wsX3_coverAll wsX3_coversAll := goodIn_r _ [17, 13, 18, 19, 20, 5, 21, 22, 23, 24, 25, 26, 27, 28, 29, 30, 31, 32, 33, 34, 35, 36, 37, 38, 39, 40, 41, 42, 43, 44, 45, 46, 47, 48, 49, 50, 51, 52, 53, 54, 55, 56, 57, 58, 59, 60, 61, 62, 63, 64, 65, 66, 67, 68, 69, 70, 71, 72, 73, 74, 75, 76, 77, 78, 79, 80, 81, 82, 83, 84, 85, 86, 87, 88, 89, 90, 91, 92, 93, 94, 95, 96, 97, 98, 99, 100] (by decide +kernel) (by decide +kernel)
set_option maxRecDepth 20000 in
theorem gX3_coverAll_X3_coversAll : GoodIn wsX3_coverAll (wsV RX3 148 RX3 yX3_coversAll wsX3_coversAll) := goodIn_app (goodIn_of _ (by decide +kernel)) ggX3_coverAll_X3_coversAll
theorem dX3_coverAll_0 : decode cX3_coverAll 0 = .ok (.aload_n 0, 1) := by decide +kernel
theorem dX3_coverAll_1 : decode cX3_coverAll 1 = .ok (.iconst 0, 1) := by decide +kernel
theorem dX3_coverAll_2 : decode cX3_coverAll 2 = .ok (.putfield 30, 3) := by decide +kernel
theorem dX3_coverAll_5 : decode cX3_coverAll 5 = .ok (.aload_n 0, 1) := by decide +kernel
theorem dX3_coverAll_6 : decode cX3_coverAll 6 = .ok (.invokevirtual 93, 3) := by decide +kernel
theorem dX3_coverAll_9 : decode cX3_coverAll 9 = .ok (.aload_n 0, 1) := by decide +kernel
theorem dX3_coverAll_10 : decode cX3_coverAll 10 = .ok (.invokevirtual 148, 3) := by decide +kernel
theorem dX3_coverAll_13 : decode cX3_coverAll 13 = .ok (.ireturn, 1) := by decide +kernel
set_option maxRecDepth 20000 in
theorem ggX3_handOver_X3_areThere : GoodIn wsX3_handOver wsX3_areThere := goodIn_r _ [7, 8, 9, 10, 6, 11, 2, 12, 13, 14, 15, 16, 17, 18, 70, 71, 72, 73, 74, 75, 76, 77, 78, 79, 80, 81, 82, 83, 84] (by decide +kernel) (by decide +kernel)
set_option maxRecDepth 20000 in
theorem gX3_handOver_X3_areThere : GoodIn wsX3_handOver (wsV RX3 123 RX3 yX3_areThere wsX3_areThere) := goodIn_app (goodIn_of _ (by decide +kernel)) ggX3_handOver_X3_areThere
set_option maxRecDepth 20000 in
theorem ggX3_handOver_X3_isCovered : GoodIn wsX3_handOver wsX3_isCovered := goodIn_r _ [22, 23, 24, 25, 6, 26, 2, 70, 71, 72, 73, 74, 75, 76, 77, 78, 79, 80, 81, 82, 83, 84] (by decide +kernel) (by decide +kernel)
set_option maxRecDepth 20000 in
theorem gX3_handOver_X3_isCovered : GoodIn wsX3_handOver (wsV RX3 63 RX3 yX3_isCovered wsX3_isCovered) := goodIn_app (goodIn_of _ (by decide +kernel)) ggX3_handOver_X3_isCovered
set_option maxRecDepth 20000 in
theorem ggX3_handOver_X3_ofA : GoodIn wsX3_handOver wsX3_ofA := goodIn_r _ [26, 2, 70, 71, 72, 73, 74, 75, 76, 77, 78, 79, 80, 81, 82, 83, 84] (by decide +kernel) (by decide +kernel)
set_option maxRecDepth 20000 in
theorem gX3_handOver_X3_ofA : GoodIn wsX3_handOver (wsV RX3 59 RX3 yX3_ofA wsX3_ofA) := goodIn_app (goodIn_of _ (by decide +kernel)) ggX3_handOver_X3_ofA
set_option maxRecDepth 20000 in
theorem ggX3_handOver_X3_whyNotFor : GoodIn wsX3_handOver wsX3_whyNotFor := goodIn_r _ [30, 23, 24, 25, 6, 26, 2, 31, 32, 33, 34, 35, 36, 37, 38, 39, 40, 41, 42, 43, 12, 13, 14, 44, 45, 46, 47, 48, 49, 50, 51, 52, 53, 54, 55, 19, 20, 21, 22, 70, 71, 72, 73, 74, 75, 76, 77, 78, 79, 80, 81, 82, 83, 84] (by decide +kernel) (by decide +kernel)
set_option maxRecDepth 20000 in
theorem gX3_handOver_X3_whyNotFor : GoodIn wsX3_handOver (wsV RX3 84 RX3 yX3_whyNotFor wsX3_whyNotFor) := goodIn_app (goodIn_of _ (by decide +kernel)) ggX3_handOver_X3_whyNotFor
set_option maxRecDepth 20000 in
theorem ggX3_handOver_X3_records : GoodIn wsX3_handOver wsX3_records := goodIn_r _ [59, 60, 61, 62, 63, 64, 6, 65, 2, 70, 71, 72, 73, 74, 75, 76, 77, 78, 79, 80, 81, 82, 83, 84] (by decide +kernel) (by decide +kernel)
set_option maxRecDepth 20000 in
theorem gX3_handOver_X3_records : GoodIn wsX3_handOver (wsV RX3 93 RX3 yX3_records wsX3_records) := goodIn_app (goodIn_of _ (by decide +kernel)) ggX3_handOver_X3_records
set_option maxRecDepth 20000 in
theorem ggX3_handOver_X3_becomes : GoodIn wsX3_handOver wsX3_becomes := goodIn_r _ [69, 2, 70, 71, 72, 73, 74, 75, 76, 77, 78, 79, 80, 81, 82, 83, 84] (by decide +kernel) (by decide +kernel)
set_option maxRecDepth 20000 in
theorem gX3_handOver_X3_becomes : GoodIn wsX3_handOver (wsV RX3 113 RX3 yX3_becomes wsX3_becomes) := goodIn_app (goodIn_of _ (by decide +kernel)) ggX3_handOver_X3_becomes
theorem dX3_handOver_0 : decode cX3_handOver 0 = .ok (.aload_n 0, 1) := by decide +kernel
theorem dX3_handOver_1 : decode cX3_handOver 1 = .ok (.aload_n 0, 1) := by decide +kernel
theorem dX3_handOver_2 : decode cX3_handOver 2 = .ok (.iload_n 2, 1) := by decide +kernel
theorem dX3_handOver_3 : decode cX3_handOver 3 = .ok (.iload_n 1, 1) := by decide +kernel
theorem dX3_handOver_4 : decode cX3_handOver 4 = .ok (.invokevirtual 123, 3) := by decide +kernel
theorem dX3_handOver_7 : decode cX3_handOver 7 = .ok (.ifCond .ne 7, 3) := by decide +kernel
theorem dX3_handOver_10 : decode cX3_handOver 10 = .ok (.iconst 1, 1) := by decide +kernel
theorem dX3_handOver_11 : decode cX3_handOver 11 = .ok (.goto 35, 3) := by decide +kernel
theorem dX3_handOver_14 : decode cX3_handOver 14 = .ok (.aload_n 0, 1) := by decide +kernel
theorem dX3_handOver_15 : decode cX3_handOver 15 = .ok (.iload_n 1, 1) := by decide +kernel
theorem dX3_handOver_16 : decode cX3_handOver 16 = .ok (.invokevirtual 63, 3) := by decide +kernel
theorem dX3_handOver_19 : decode cX3_handOver 19 = .ok (.ifCond .eq 26, 3) := by decide +kernel
theorem dX3_handOver_22 : decode cX3_handOver 22 = .ok (.aload_n 0, 1) := by decide +kernel
theorem dX3_handOver_23 : decode cX3_handOver 23 = .ok (.iload_n 1, 1) := by decide +kernel
theorem dX3_handOver_24 : decode cX3_handOver 24 = .ok (.iconst 3, 1) := by decide +kernel
theorem dX3_handOver_25 : decode cX3_handOver 25 = .ok (.invokevirtual 59, 3) := by decide +kernel
theorem dX3_handOver_28 : decode cX3_handOver 28 = .ok (.iload_n 2, 1) := by decide +kernel
theorem dX3_handOver_29 : decode cX3_handOver 29 = .ok (.if_icmp .eq 16, 3) := by decide +kernel
theorem dX3_handOver_32 : decode cX3_handOver 32 = .ok (.aload_n 0, 1) := by decide +kernel
theorem dX3_handOver_33 : decode cX3_handOver 33 = .ok (.iload_n 2, 1) := by decide +kernel
theorem dX3_handOver_34 : decode cX3_handOver 34 = .ok (.iload_n 1, 1) := by decide +kernel
theorem dX3_handOver_35 : decode cX3_handOver 35 = .ok (.invokevirtual 84, 3) := by decide +kernel
theorem dX3_handOver_38 : decode cX3_handOver 38 = .ok (.ifCond .ne 7, 3) := by decide +kernel
theorem dX3_handOver_41 : decode cX3_handOver 41 = .ok (.iconst 0, 1) := by decide +kernel
theorem dX3_handOver_42 : decode cX3_handOver 42 = .ok (.goto 4, 3) := by decide +kernel
theorem dX3_handOver_45 : decode cX3_handOver 45 = .ok (.iconst 2, 1) := by decide +kernel
theorem dX3_handOver_46 : decode cX3_handOver 46 = .ok (.putfield 30, 3) := by decide +kernel
theorem dX3_handOver_49 : decode cX3_handOver 49 = .ok (.aload_n 0, 1) := by decide +kernel
theorem dX3_handOver_50 : decode cX3_handOver 50 = .ok (.getfield 30, 3) := by decide +kernel
theorem dX3_handOver_53 : decode cX3_handOver 53 = .ok (.ifCond .eq 5, 3) := by decide +kernel
theorem dX3_handOver_56 : decode cX3_handOver 56 = .ok (.iconst 0, 1) := by decide +kernel
theorem dX3_handOver_57 : decode cX3_handOver 57 = .ok (.ireturn, 1) := by decide +kernel
theorem dX3_handOver_58 : decode cX3_handOver 58 = .ok (.aload_n 0, 1) := by decide +kernel
theorem dX3_handOver_59 : decode cX3_handOver 59 = .ok (.iload_n 1, 1) := by decide +kernel
theorem dX3_handOver_60 : decode cX3_handOver 60 = .ok (.iconst 3, 1) := by decide +kernel
theorem dX3_handOver_61 : decode cX3_handOver 61 = .ok (.invokevirtual 59, 3) := by decide +kernel
theorem dX3_handOver_64 : decode cX3_handOver 64 = .ok (.istore_n 3, 1) := by decide +kernel
theorem dX3_handOver_65 : decode cX3_handOver 65 = .ok (.aload_n 0, 1) := by decide +kernel
theorem dX3_handOver_66 : decode cX3_handOver 66 = .ok (.invokevirtual 93, 3) := by decide +kernel
theorem dX3_handOver_69 : decode cX3_handOver 69 = .ok (.aload_n 0, 1) := by decide +kernel
theorem dX3_handOver_70 : decode cX3_handOver 70 = .ok (.iload_n 1, 1) := by decide +kernel
theorem dX3_handOver_71 : decode cX3_handOver 71 = .ok (.iconst 4, 1) := by decide +kernel
theorem dX3_handOver_72 : decode cX3_handOver 72 = .ok (.invokevirtual 59, 3) := by decide +kernel
theorem dX3_handOver_75 : decode cX3_handOver 75 = .ok (.istore 4, 2) := by decide +kernel
theorem dX3_handOver_77 : decode cX3_handOver 77 = .ok (.aload_n 0, 1) := by decide +kernel
theorem dX3_handOver_78 : decode cX3_handOver 78 = .ok (.getfield 7, 3) := by decide +kernel
theorem dX3_handOver_81 : decode cX3_handOver 81 = .ok (.bipush 6, 2) := by decide +kernel
theorem dX3_handOver_83 : decode cX3_handOver 83 = .ok (.iconst 3, 1) := by decide +kernel
theorem dX3_handOver_84 : decode cX3_handOver 84 = .ok (.iload_n 3, 1) := by decide +kernel
theorem dX3_handOver_85 : decode cX3_handOver 85 = .ok (.imul, 1) := by decide +kernel
theorem dX3_handOver_86 : decode cX3_handOver 86 = .ok (.iadd, 1) := by decide +kernel
theorem dX3_handOver_87 : decode cX3_handOver 87 = .ok (.iconst 1, 1) := by decide +kernel
theorem dX3_handOver_88 : decode cX3_handOver 88 = .ok (.iadd, 1) := by decide +kernel
theorem dX3_handOver_89 : decode cX3_handOver 89 = .ok (.dup2, 1) := by decide +kernel
theorem dX3_handOver_90 : decode cX3_handOver 90 = .ok (.laload, 1) := by decide +kernel
theorem dX3_handOver_91 : decode cX3_handOver 91 = .ok (.iload 4, 2) := by decide +kernel
theorem dX3_handOver_93 : decode cX3_handOver 93 = .ok (.i2l, 1) := by decide +kernel
theorem dX3_handOver_94 : decode cX3_handOver 94 = .ok (.lsub, 1) := by decide +kernel
theorem dX3_handOver_95 : decode cX3_handOver 95 = .ok (.lastore, 1) := by decide +kernel
theorem dX3_handOver_96 : decode cX3_handOver 96 = .ok (.aload_n 0, 1) := by decide +kernel
theorem dX3_handOver_97 : decode cX3_handOver 97 = .ok (.getfield 7, 3) := by decide +kernel
theorem dX3_handOver_100 : decode cX3_handOver 100 = .ok (.bipush 6, 2) := by decide +kernel
theorem dX3_handOver_102 : decode cX3_handOver 102 = .ok (.iconst 3, 1) := by decide +kernel
theorem dX3_handOver_103 : decode cX3_handOver 103 = .ok (.iload_n 2, 1) := by decide +kernel
theorem dX3_handOver_104 : decode cX3_handOver 104 = .ok (.imul, 1) := by decide +kernel
theorem dX3_handOver_105 : decode cX3_handOver 105 = .ok (.iadd, 1) := by decide +kernel
theorem dX3_handOver_106 : decode cX3_handOver 106 = .ok (.iconst 1, 1) := by decide +kernel
theorem dX3_handOver_107 : decode cX3_handOver 107 = .ok (.iadd, 1) := by decide +kernel
theorem dX3_handOver_108 : decode cX3_handOver 108 = .ok (.dup2, 1) := by decide +kernel
theorem dX3_handOver_109 : decode cX3_handOver 109 = .ok (.laload, 1) := by decide +kernel
theorem dX3_handOver_110 : decode cX3_handOver 110 = .ok (.iload 4, 2) := by decide +kernel
theorem dX3_handOver_112 : decode cX3_handOver 112 = .ok (.i2l, 1) := by decide +kernel
theorem dX3_handOver_113 : decode cX3_handOver 113 = .ok (.ladd, 1) := by decide +kernel
theorem dX3_handOver_114 : decode cX3_handOver 114 = .ok (.lastore, 1) := by decide +kernel
theorem dX3_handOver_115 : decode cX3_handOver 115 = .ok (.aload_n 0, 1) := by decide +kernel
theorem dX3_handOver_116 : decode cX3_handOver 116 = .ok (.iload_n 1, 1) := by decide +kernel
theorem dX3_handOver_117 : decode cX3_handOver 117 = .ok (.iconst 3, 1) := by decide +kernel
theorem dX3_handOver_118 : decode cX3_handOver 118 = .ok (.iload_n 2, 1) := by decide +kernel
theorem dX3_handOver_119 : decode cX3_handOver 119 = .ok (.invokevirtual 113, 3) := by decide +kernel
theorem dX3_handOver_122 : decode cX3_handOver 122 = .ok (.aload_n 0, 1) := by decide +kernel
theorem dX3_handOver_123 : decode cX3_handOver 123 = .ok (.getfield 7, 3) := by decide +kernel
theorem dX3_handOver_126 : decode cX3_handOver 126 = .ok (.iconst 5, 1) := by decide +kernel
theorem dX3_handOver_127 : decode cX3_handOver 127 = .ok (.dup2, 1) := by decide +kernel
theorem dX3_handOver_128 : decode cX3_handOver 128 = .ok (.laload, 1) := by decide +kernel
theorem dX3_handOver_129 : decode cX3_handOver 129 = .ok (.lconst 1, 1) := by decide +kernel
theorem dX3_handOver_130 : decode cX3_handOver 130 = .ok (.ladd, 1) := by decide +kernel
theorem dX3_handOver_131 : decode cX3_handOver 131 = .ok (.lastore, 1) := by decide +kernel
theorem dX3_handOver_132 : decode cX3_handOver 132 = .ok (.iload_n 3, 1) := by decide +kernel
theorem dX3_handOver_133 : decode cX3_handOver 133 = .ok (.ireturn, 1) := by decide +kernel
set_option maxRecDepth 20000 in
theorem ggX3_giveUp_X3_isAbsence : GoodIn wsX3_giveUp wsX3_isAbsence := goodIn_r _ [6, 7, 8, 9, 5, 10, 37, 38, 39, 40, 41, 42, 43, 44, 45, 46, 47, 48, 49, 50, 51] (by decide +kernel) (by decide +kernel)
set_option maxRecDepth 20000 in
theorem gX3_giveUp_X3_isAbsence : GoodIn wsX3_giveUp (wsV RX3 42 RX3 yX3_isAbsence wsX3_isAbsence) := goodIn_app (goodIn_of _ (by decide +kernel)) ggX3_giveUp_X3_isAbsence
set_option maxRecDepth 20000 in
theorem ggX3_giveUp_X3_ofA : GoodIn wsX3_giveUp wsX3_ofA := goodIn_r _ [14, 7, 37, 38, 39, 40, 41, 42, 43, 44, 45, 46, 47, 48, 49, 50, 51] (by decide +kernel) (by decide +kernel)
set_option maxRecDepth 20000 in
theorem gX3_giveUp_X3_ofA : GoodIn wsX3_giveUp (wsV RX3 59 RX3 yX3_ofA wsX3_ofA) := goodIn_app (goodIn_of _ (by decide +kernel)) ggX3_giveUp_X3_ofA
set_option maxRecDepth 20000 in
theorem ggX3_giveUp_X3_records : GoodIn wsX3_giveUp wsX3_records := goodIn_r _ [18, 19, 20, 21, 22, 23, 5, 24, 7, 37, 38, 39, 40, 41, 42, 43, 44, 45, 46, 47, 48, 49, 50, 51] (by decide +kernel) (by decide +kernel)
set_option maxRecDepth 20000 in
theorem gX3_giveUp_X3_records : GoodIn wsX3_giveUp (wsV RX3 93 RX3 yX3_records wsX3_records) := goodIn_app (goodIn_of _ (by decide +kernel)) ggX3_giveUp_X3_records
set_option maxRecDepth 20000 in
theorem ggX3_giveUp_X3_bids : GoodIn wsX3_giveUp wsX3_bids := goodIn_r _ [28, 11, 12, 13, 5, 14, 7, 37, 38, 39, 40, 41, 42, 43, 44, 45, 46, 47, 48, 49, 50, 51] (by decide +kernel) (by decide +kernel)
set_option maxRecDepth 20000 in
theorem gX3_giveUp_X3_bids : GoodIn wsX3_giveUp (wsV RX3 129 RX3 yX3_bids wsX3_bids) := goodIn_app (goodIn_of _ (by decide +kernel)) ggX3_giveUp_X3_bids
set_option maxRecDepth 20000 in
theorem ggX3_giveUp_X3_becomes : GoodIn wsX3_giveUp wsX3_becomes := goodIn_r _ [32, 7, 37, 38, 39, 40, 41, 42, 43, 44, 45, 46, 47, 48, 49, 50, 51] (by decide +kernel) (by decide +kernel)
set_option maxRecDepth 20000 in
theorem gX3_giveUp_X3_becomes : GoodIn wsX3_giveUp (wsV RX3 113 RX3 yX3_becomes wsX3_becomes) := goodIn_app (goodIn_of _ (by decide +kernel)) ggX3_giveUp_X3_becomes
set_option maxRecDepth 20000 in
theorem ggX3_giveUp_X3_clearsBids : GoodIn wsX3_giveUp wsX3_clearsBids := goodIn_r _ [36, 29, 30, 31, 5, 32, 7, 37, 38, 39, 40, 41, 42, 43, 44, 45, 46, 47, 48, 49, 50, 51] (by decide +kernel) (by decide +kernel)
set_option maxRecDepth 20000 in
theorem gX3_giveUp_X3_clearsBids : GoodIn wsX3_giveUp (wsV RX3 117 RX3 yX3_clearsBids wsX3_clearsBids) := goodIn_app (goodIn_of _ (by decide +kernel)) ggX3_giveUp_X3_clearsBids
theorem dX3_giveUp_0 : decode cX3_giveUp 0 = .ok (.aload_n 0, 1) := by decide +kernel
theorem dX3_giveUp_1 : decode cX3_giveUp 1 = .ok (.aload_n 0, 1) := by decide +kernel
theorem dX3_giveUp_2 : decode cX3_giveUp 2 = .ok (.iload_n 1, 1) := by decide +kernel
theorem dX3_giveUp_3 : decode cX3_giveUp 3 = .ok (.invokevirtual 42, 3) := by decide +kernel
theorem dX3_giveUp_6 : decode cX3_giveUp 6 = .ok (.ifCond .ne 7, 3) := by decide +kernel
theorem dX3_giveUp_9 : decode cX3_giveUp 9 = .ok (.iconst 1, 1) := by decide +kernel
theorem dX3_giveUp_10 : decode cX3_giveUp 10 = .ok (.goto 17, 3) := by decide +kernel
theorem dX3_giveUp_13 : decode cX3_giveUp 13 = .ok (.aload_n 0, 1) := by decide +kernel
theorem dX3_giveUp_14 : decode cX3_giveUp 14 = .ok (.iload_n 1, 1) := by decide +kernel
theorem dX3_giveUp_15 : decode cX3_giveUp 15 = .ok (.iconst 2, 1) := by decide +kernel
theorem dX3_giveUp_16 : decode cX3_giveUp 16 = .ok (.invokevirtual 59, 3) := by decide +kernel
theorem dX3_giveUp_19 : decode cX3_giveUp 19 = .ok (.ifCond .ne 7, 3) := by decide +kernel
theorem dX3_giveUp_22 : decode cX3_giveUp 22 = .ok (.iconst 0, 1) := by decide +kernel
theorem dX3_giveUp_23 : decode cX3_giveUp 23 = .ok (.goto 4, 3) := by decide +kernel
theorem dX3_giveUp_26 : decode cX3_giveUp 26 = .ok (.iconst 2, 1) := by decide +kernel
theorem dX3_giveUp_27 : decode cX3_giveUp 27 = .ok (.putfield 30, 3) := by decide +kernel
theorem dX3_giveUp_30 : decode cX3_giveUp 30 = .ok (.aload_n 0, 1) := by decide +kernel
theorem dX3_giveUp_31 : decode cX3_giveUp 31 = .ok (.getfield 30, 3) := by decide +kernel
theorem dX3_giveUp_34 : decode cX3_giveUp 34 = .ok (.ifCond .eq 5, 3) := by decide +kernel
theorem dX3_giveUp_37 : decode cX3_giveUp 37 = .ok (.iconst 0, 1) := by decide +kernel
theorem dX3_giveUp_38 : decode cX3_giveUp 38 = .ok (.ireturn, 1) := by decide +kernel
theorem dX3_giveUp_39 : decode cX3_giveUp 39 = .ok (.aload_n 0, 1) := by decide +kernel
theorem dX3_giveUp_40 : decode cX3_giveUp 40 = .ok (.invokevirtual 93, 3) := by decide +kernel
theorem dX3_giveUp_43 : decode cX3_giveUp 43 = .ok (.aload_n 0, 1) := by decide +kernel
theorem dX3_giveUp_44 : decode cX3_giveUp 44 = .ok (.iload_n 1, 1) := by decide +kernel
theorem dX3_giveUp_45 : decode cX3_giveUp 45 = .ok (.invokevirtual 129, 3) := by decide +kernel
theorem dX3_giveUp_48 : decode cX3_giveUp 48 = .ok (.istore_n 2, 1) := by decide +kernel
theorem dX3_giveUp_49 : decode cX3_giveUp 49 = .ok (.aload_n 0, 1) := by decide +kernel
theorem dX3_giveUp_50 : decode cX3_giveUp 50 = .ok (.iload_n 1, 1) := by decide +kernel
theorem dX3_giveUp_51 : decode cX3_giveUp 51 = .ok (.iconst 2, 1) := by decide +kernel
theorem dX3_giveUp_52 : decode cX3_giveUp 52 = .ok (.iconst 3, 1) := by decide +kernel
theorem dX3_giveUp_53 : decode cX3_giveUp 53 = .ok (.invokevirtual 113, 3) := by decide +kernel
theorem dX3_giveUp_56 : decode cX3_giveUp 56 = .ok (.aload_n 0, 1) := by decide +kernel
theorem dX3_giveUp_57 : decode cX3_giveUp 57 = .ok (.iload_n 1, 1) := by decide +kernel
theorem dX3_giveUp_58 : decode cX3_giveUp 58 = .ok (.invokevirtual 117, 3) := by decide +kernel
theorem dX3_giveUp_61 : decode cX3_giveUp 61 = .ok (.iload_n 2, 1) := by decide +kernel
theorem dX3_giveUp_62 : decode cX3_giveUp 62 = .ok (.ireturn, 1) := by decide +kernel
set_option maxRecDepth 20000 in
theorem ggX3_absencesOf_X3_ofA : GoodIn wsX3_absencesOf wsX3_ofA := goodIn_r _ [6, 1, 7, 8, 9, 10, 11, 12, 13, 14, 15, 16, 17, 18, 19, 20, 21] (by decide +kernel) (by decide +kernel)
set_option maxRecDepth 20000 in
theorem gX3_absencesOf_X3_ofA : GoodIn wsX3_absencesOf (wsV RX3 59 RX3 yX3_ofA wsX3_ofA) := goodIn_app (goodIn_of _ (by decide +kernel)) ggX3_absencesOf_X3_ofA
theorem dX3_absencesOf_0 : decode cX3_absencesOf 0 = .ok (.iconst 0, 1) := by decide +kernel
theorem dX3_absencesOf_1 : decode cX3_absencesOf 1 = .ok (.istore_n 3, 1) := by decide +kernel
theorem dX3_absencesOf_2 : decode cX3_absencesOf 2 = .ok (.iconst 0, 1) := by decide +kernel
theorem dX3_absencesOf_3 : decode cX3_absencesOf 3 = .ok (.istore 4, 2) := by decide +kernel
theorem dX3_absencesOf_5 : decode cX3_absencesOf 5 = .ok (.iload 4, 2) := by decide +kernel
theorem dX3_absencesOf_7 : decode cX3_absencesOf 7 = .ok (.i2l, 1) := by decide +kernel
theorem dX3_absencesOf_8 : decode cX3_absencesOf 8 = .ok (.aload_n 0, 1) := by decide +kernel
theorem dX3_absencesOf_9 : decode cX3_absencesOf 9 = .ok (.getfield 7, 3) := by decide +kernel
theorem dX3_absencesOf_12 : decode cX3_absencesOf 12 = .ok (.iconst 4, 1) := by decide +kernel
theorem dX3_absencesOf_13 : decode cX3_absencesOf 13 = .ok (.laload, 1) := by decide +kernel
theorem dX3_absencesOf_14 : decode cX3_absencesOf 14 = .ok (.lcmp, 1) := by decide +kernel
theorem dX3_absencesOf_15 : decode cX3_absencesOf 15 = .ok (.ifCond .ge 66, 3) := by decide +kernel
theorem dX3_absencesOf_18 : decode cX3_absencesOf 18 = .ok (.iload_n 2, 1) := by decide +kernel
theorem dX3_absencesOf_19 : decode cX3_absencesOf 19 = .ok (.iconst 5, 1) := by decide +kernel
theorem dX3_absencesOf_20 : decode cX3_absencesOf 20 = .ok (.if_icmp .ne 24, 3) := by decide +kernel
theorem dX3_absencesOf_23 : decode cX3_absencesOf 23 = .ok (.aload_n 0, 1) := by decide +kernel
theorem dX3_absencesOf_24 : decode cX3_absencesOf 24 = .ok (.iload 4, 2) := by decide +kernel
theorem dX3_absencesOf_26 : decode cX3_absencesOf 26 = .ok (.iconst 5, 1) := by decide +kernel
theorem dX3_absencesOf_27 : decode cX3_absencesOf 27 = .ok (.iload_n 1, 1) := by decide +kernel
theorem dX3_absencesOf_28 : decode cX3_absencesOf 28 = .ok (.iadd, 1) := by decide +kernel
theorem dX3_absencesOf_29 : decode cX3_absencesOf 29 = .ok (.invokevirtual 59, 3) := by decide +kernel
theorem dX3_absencesOf_32 : decode cX3_absencesOf 32 = .ok (.iconst (-1), 1) := by decide +kernel
theorem dX3_absencesOf_33 : decode cX3_absencesOf 33 = .ok (.if_icmp .eq 7, 3) := by decide +kernel
theorem dX3_absencesOf_36 : decode cX3_absencesOf 36 = .ok (.iconst 1, 1) := by decide +kernel
theorem dX3_absencesOf_37 : decode cX3_absencesOf 37 = .ok (.goto 23, 3) := by decide +kernel
theorem dX3_absencesOf_40 : decode cX3_absencesOf 40 = .ok (.iconst 0, 1) := by decide +kernel
theorem dX3_absencesOf_41 : decode cX3_absencesOf 41 = .ok (.goto 19, 3) := by decide +kernel
theorem dX3_absencesOf_44 : decode cX3_absencesOf 44 = .ok (.aload_n 0, 1) := by decide +kernel
theorem dX3_absencesOf_45 : decode cX3_absencesOf 45 = .ok (.iload 4, 2) := by decide +kernel
theorem dX3_absencesOf_47 : decode cX3_absencesOf 47 = .ok (.iload_n 2, 1) := by decide +kernel
theorem dX3_absencesOf_48 : decode cX3_absencesOf 48 = .ok (.invokevirtual 59, 3) := by decide +kernel
theorem dX3_absencesOf_51 : decode cX3_absencesOf 51 = .ok (.iload_n 1, 1) := by decide +kernel
theorem dX3_absencesOf_52 : decode cX3_absencesOf 52 = .ok (.if_icmp .ne 7, 3) := by decide +kernel
theorem dX3_absencesOf_55 : decode cX3_absencesOf 55 = .ok (.iconst 1, 1) := by decide +kernel
theorem dX3_absencesOf_56 : decode cX3_absencesOf 56 = .ok (.goto 4, 3) := by decide +kernel
theorem dX3_absencesOf_59 : decode cX3_absencesOf 59 = .ok (.iconst 0, 1) := by decide +kernel
theorem dX3_absencesOf_60 : decode cX3_absencesOf 60 = .ok (.istore 5, 2) := by decide +kernel
theorem dX3_absencesOf_62 : decode cX3_absencesOf 62 = .ok (.iload_n 3, 1) := by decide +kernel
theorem dX3_absencesOf_63 : decode cX3_absencesOf 63 = .ok (.iload 5, 2) := by decide +kernel
theorem dX3_absencesOf_65 : decode cX3_absencesOf 65 = .ok (.ifCond .eq 7, 3) := by decide +kernel
theorem dX3_absencesOf_68 : decode cX3_absencesOf 68 = .ok (.iconst 1, 1) := by decide +kernel
theorem dX3_absencesOf_69 : decode cX3_absencesOf 69 = .ok (.goto 4, 3) := by decide +kernel
theorem dX3_absencesOf_72 : decode cX3_absencesOf 72 = .ok (.iconst 0, 1) := by decide +kernel
theorem dX3_absencesOf_73 : decode cX3_absencesOf 73 = .ok (.iadd, 1) := by decide +kernel
theorem dX3_absencesOf_74 : decode cX3_absencesOf 74 = .ok (.istore_n 3, 1) := by decide +kernel
theorem dX3_absencesOf_75 : decode cX3_absencesOf 75 = .ok (.iinc 4 1, 3) := by decide +kernel
theorem dX3_absencesOf_78 : decode cX3_absencesOf 78 = .ok (.goto (-73), 3) := by decide +kernel
theorem dX3_absencesOf_81 : decode cX3_absencesOf 81 = .ok (.iload_n 3, 1) := by decide +kernel
theorem dX3_absencesOf_82 : decode cX3_absencesOf 82 = .ok (.ireturn, 1) := by decide +kernel
set_option maxRecDepth 20000 in
theorem ggX3_worksMany_X3_worksIn : GoodIn wsX3_worksMany wsX3_worksIn := goodIn_r _ [5, 6, 7, 8, 4, 9, 10, 11, 12, 13, 14, 15, 16, 17, 18, 19, 20, 21, 22, 23, 24, 25, 26, 27, 28, 29, 30, 31, 32, 33, 34, 35, 36, 37, 38, 39, 40, 41, 42, 43, 44, 45, 46, 47, 48, 49] (by decide +kernel) (by decide +kernel)
set_option maxRecDepth 20000 in
theorem gX3_worksMany_X3_worksIn : GoodIn wsX3_worksMany (wsV RX3 78 RX3 yX3_worksIn wsX3_worksIn) := goodIn_app (goodIn_of _ (by decide +kernel)) ggX3_worksMany_X3_worksIn
theorem dX3_worksMany_0 : decode cX3_worksMany 0 = .ok (.iconst 0, 1) := by decide +kernel
theorem dX3_worksMany_1 : decode cX3_worksMany 1 = .ok (.istore_n 2, 1) := by decide +kernel
theorem dX3_worksMany_2 : decode cX3_worksMany 2 = .ok (.iconst 0, 1) := by decide +kernel
theorem dX3_worksMany_3 : decode cX3_worksMany 3 = .ok (.istore_n 3, 1) := by decide +kernel
theorem dX3_worksMany_4 : decode cX3_worksMany 4 = .ok (.iload_n 3, 1) := by decide +kernel
theorem dX3_worksMany_5 : decode cX3_worksMany 5 = .ok (.bipush 42, 2) := by decide +kernel
theorem dX3_worksMany_7 : decode cX3_worksMany 7 = .ok (.if_icmp .ge 26, 3) := by decide +kernel
theorem dX3_worksMany_10 : decode cX3_worksMany 10 = .ok (.iload_n 2, 1) := by decide +kernel
theorem dX3_worksMany_11 : decode cX3_worksMany 11 = .ok (.aload_n 0, 1) := by decide +kernel
theorem dX3_worksMany_12 : decode cX3_worksMany 12 = .ok (.iload_n 1, 1) := by decide +kernel
theorem dX3_worksMany_13 : decode cX3_worksMany 13 = .ok (.iload_n 3, 1) := by decide +kernel
theorem dX3_worksMany_14 : decode cX3_worksMany 14 = .ok (.invokevirtual 78, 3) := by decide +kernel
theorem dX3_worksMany_17 : decode cX3_worksMany 17 = .ok (.ifCond .eq 7, 3) := by decide +kernel
theorem dX3_worksMany_20 : decode cX3_worksMany 20 = .ok (.iconst 1, 1) := by decide +kernel
theorem dX3_worksMany_21 : decode cX3_worksMany 21 = .ok (.goto 4, 3) := by decide +kernel
theorem dX3_worksMany_24 : decode cX3_worksMany 24 = .ok (.iconst 0, 1) := by decide +kernel
theorem dX3_worksMany_25 : decode cX3_worksMany 25 = .ok (.iadd, 1) := by decide +kernel
theorem dX3_worksMany_26 : decode cX3_worksMany 26 = .ok (.istore_n 2, 1) := by decide +kernel
theorem dX3_worksMany_27 : decode cX3_worksMany 27 = .ok (.iinc 3 1, 3) := by decide +kernel
theorem dX3_worksMany_30 : decode cX3_worksMany 30 = .ok (.goto (-26), 3) := by decide +kernel
theorem dX3_worksMany_33 : decode cX3_worksMany 33 = .ok (.iload_n 2, 1) := by decide +kernel
theorem dX3_worksMany_34 : decode cX3_worksMany 34 = .ok (.ireturn, 1) := by decide +kernel
set_option maxRecDepth 20000 in
theorem ggX3_tellsPerson_X3_rostered : GoodIn wsX3_tellsPerson wsX3_rostered := goodIn_r _ [5, 6, 7, 8, 4, 9, 10, 11, 12, 13, 14, 47, 48, 49, 50, 51, 52, 53, 54, 55, 56, 57, 58, 59, 60, 61] (by decide +kernel) (by decide +kernel)
set_option maxRecDepth 20000 in
theorem gX3_tellsPerson_X3_rostered : GoodIn wsX3_tellsPerson (wsV RX3 104 RX3 yX3_rostered wsX3_rostered) := goodIn_app (goodIn_of _ (by decide +kernel)) ggX3_tellsPerson_X3_rostered
set_option maxRecDepth 20000 in
theorem ggX3_tellsPerson_X3_absencesOf : GoodIn wsX3_tellsPerson wsX3_absencesOf := goodIn_r _ [18, 14, 19, 20, 21, 4, 22, 47, 48, 49, 50, 51, 52, 53, 54, 55, 56, 57, 58, 59, 60, 61] (by decide +kernel) (by decide +kernel)
set_option maxRecDepth 20000 in
theorem gX3_tellsPerson_X3_absencesOf : GoodIn wsX3_tellsPerson (wsV RX3 152 RX3 yX3_absencesOf wsX3_absencesOf) := goodIn_app (goodIn_of _ (by decide +kernel)) ggX3_tellsPerson_X3_absencesOf
set_option maxRecDepth 20000 in
theorem ggX3_tellsPerson_X3_ofP : GoodIn wsX3_tellsPerson wsX3_ofP := goodIn_r _ [13, 14, 47, 48, 49, 50, 51, 52, 53, 54, 55, 56, 57, 58, 59, 60, 61] (by decide +kernel) (by decide +kernel)
set_option maxRecDepth 20000 in
theorem gX3_tellsPerson_X3_ofP : GoodIn wsX3_tellsPerson (wsV RX3 55 RX3 yX3_ofP wsX3_ofP) := goodIn_app (goodIn_of _ (by decide +kernel)) ggX3_tellsPerson_X3_ofP
set_option maxRecDepth 20000 in
theorem ggX3_tellsPerson_X3_worksMany : GoodIn wsX3_tellsPerson wsX3_worksMany := goodIn_r _ [26, 27, 28, 29, 4, 30, 31, 32, 33, 34, 6, 7, 8, 9, 10, 11, 12, 13, 14, 35, 36, 37, 38, 19, 20, 21, 22, 39, 40, 41, 42, 43, 44, 45, 46, 47, 48, 49, 50, 51, 52, 53, 54, 55, 56, 57, 58, 59, 60, 61] (by decide +kernel) (by decide +kernel)
set_option maxRecDepth 20000 in
theorem gX3_tellsPerson_X3_worksMany : GoodIn wsX3_tellsPerson (wsV RX3 155 RX3 yX3_worksMany wsX3_worksMany) := goodIn_app (goodIn_of _ (by decide +kernel)) ggX3_tellsPerson_X3_worksMany
theorem dX3_tellsPerson_0 : decode cX3_tellsPerson 0 = .ok (.iload_n 2, 1) := by decide +kernel
theorem dX3_tellsPerson_1 : decode cX3_tellsPerson 1 = .ok (.tableswitch 81 0 5 #[39, 45, 52, 59, 67, 75], 39) := by decide +kernel
theorem dX3_tellsPerson_40 : decode cX3_tellsPerson 40 = .ok (.aload_n 0, 1) := by decide +kernel
theorem dX3_tellsPerson_41 : decode cX3_tellsPerson 41 = .ok (.iload_n 1, 1) := by decide +kernel
theorem dX3_tellsPerson_42 : decode cX3_tellsPerson 42 = .ok (.invokevirtual 104, 3) := by decide +kernel
theorem dX3_tellsPerson_45 : decode cX3_tellsPerson 45 = .ok (.ireturn, 1) := by decide +kernel
theorem dX3_tellsPerson_46 : decode cX3_tellsPerson 46 = .ok (.aload_n 0, 1) := by decide +kernel
theorem dX3_tellsPerson_47 : decode cX3_tellsPerson 47 = .ok (.iload_n 1, 1) := by decide +kernel
theorem dX3_tellsPerson_48 : decode cX3_tellsPerson 48 = .ok (.iconst 0, 1) := by decide +kernel
theorem dX3_tellsPerson_49 : decode cX3_tellsPerson 49 = .ok (.invokevirtual 152, 3) := by decide +kernel
theorem dX3_tellsPerson_52 : decode cX3_tellsPerson 52 = .ok (.ireturn, 1) := by decide +kernel
theorem dX3_tellsPerson_53 : decode cX3_tellsPerson 53 = .ok (.aload_n 0, 1) := by decide +kernel
theorem dX3_tellsPerson_54 : decode cX3_tellsPerson 54 = .ok (.iload_n 1, 1) := by decide +kernel
theorem dX3_tellsPerson_55 : decode cX3_tellsPerson 55 = .ok (.iconst 3, 1) := by decide +kernel
theorem dX3_tellsPerson_56 : decode cX3_tellsPerson 56 = .ok (.invokevirtual 152, 3) := by decide +kernel
theorem dX3_tellsPerson_59 : decode cX3_tellsPerson 59 = .ok (.ireturn, 1) := by decide +kernel
theorem dX3_tellsPerson_60 : decode cX3_tellsPerson 60 = .ok (.aload_n 0, 1) := by decide +kernel
theorem dX3_tellsPerson_61 : decode cX3_tellsPerson 61 = .ok (.iload_n 1, 1) := by decide +kernel
theorem dX3_tellsPerson_62 : decode cX3_tellsPerson 62 = .ok (.iconst 1, 1) := by decide +kernel
theorem dX3_tellsPerson_63 : decode cX3_tellsPerson 63 = .ok (.invokevirtual 55, 3) := by decide +kernel
theorem dX3_tellsPerson_66 : decode cX3_tellsPerson 66 = .ok (.l2i, 1) := by decide +kernel
theorem dX3_tellsPerson_67 : decode cX3_tellsPerson 67 = .ok (.ireturn, 1) := by decide +kernel
theorem dX3_tellsPerson_68 : decode cX3_tellsPerson 68 = .ok (.aload_n 0, 1) := by decide +kernel
theorem dX3_tellsPerson_69 : decode cX3_tellsPerson 69 = .ok (.iload_n 1, 1) := by decide +kernel
theorem dX3_tellsPerson_70 : decode cX3_tellsPerson 70 = .ok (.iconst 2, 1) := by decide +kernel
theorem dX3_tellsPerson_71 : decode cX3_tellsPerson 71 = .ok (.invokevirtual 55, 3) := by decide +kernel
theorem dX3_tellsPerson_74 : decode cX3_tellsPerson 74 = .ok (.l2i, 1) := by decide +kernel
theorem dX3_tellsPerson_75 : decode cX3_tellsPerson 75 = .ok (.ireturn, 1) := by decide +kernel
theorem dX3_tellsPerson_76 : decode cX3_tellsPerson 76 = .ok (.aload_n 0, 1) := by decide +kernel
theorem dX3_tellsPerson_77 : decode cX3_tellsPerson 77 = .ok (.iload_n 1, 1) := by decide +kernel
theorem dX3_tellsPerson_78 : decode cX3_tellsPerson 78 = .ok (.invokevirtual 155, 3) := by decide +kernel
theorem dX3_tellsPerson_81 : decode cX3_tellsPerson 81 = .ok (.ireturn, 1) := by decide +kernel
theorem dX3_tellsPerson_82 : decode cX3_tellsPerson 82 = .ok (.aload_n 0, 1) := by decide +kernel
theorem dX3_tellsPerson_83 : decode cX3_tellsPerson 83 = .ok (.iload_n 1, 1) := by decide +kernel
theorem dX3_tellsPerson_84 : decode cX3_tellsPerson 84 = .ok (.iconst 5, 1) := by decide +kernel
theorem dX3_tellsPerson_85 : decode cX3_tellsPerson 85 = .ok (.invokevirtual 152, 3) := by decide +kernel
theorem dX3_tellsPerson_88 : decode cX3_tellsPerson 88 = .ok (.ireturn, 1) := by decide +kernel
set_option maxRecDepth 20000 in
theorem ggX3_person_X3_isPerson : GoodIn wsX3_person wsX3_isPerson := goodIn_r _ [7, 8, 9, 10, 6, 11, 57, 58, 59, 60, 61, 62, 63, 64, 65, 66, 67, 68, 69, 70, 71] (by decide +kernel) (by decide +kernel)
set_option maxRecDepth 20000 in
theorem gX3_person_X3_isPerson : GoodIn wsX3_person (wsV RX3 38 RX3 yX3_isPerson wsX3_isPerson) := goodIn_app (goodIn_of _ (by decide +kernel)) ggX3_person_X3_isPerson
set_option maxRecDepth 20000 in
theorem ggX3_person_X3_isIn : GoodIn wsX3_person wsX3_isIn := goodIn_r _ [11] (by decide +kernel) (by decide +kernel)
set_option maxRecDepth 20000 in
theorem gX3_person_X3_isIn : GoodIn wsX3_person (va_wsS RX3 34 yX3_isIn wsX3_isIn) := goodIn_app (goodIn_of _ (by decide +kernel)) ggX3_person_X3_isIn
set_option maxRecDepth 20000 in
theorem ggX3_person_X3_tellsPerson : GoodIn wsX3_person wsX3_tellsPerson := goodIn_r _ [15, 16, 17, 18, 6, 19, 20, 21, 22, 23, 24, 25, 26, 27, 8, 28, 29, 30, 31, 32, 33, 34, 35, 36, 37, 38, 39, 40, 41, 42, 43, 44, 9, 10, 11, 45, 46, 47, 48, 49, 50, 51, 52, 53, 54, 55, 56, 57, 58, 59, 60, 61, 62, 63, 64, 65, 66, 67, 68, 69, 70, 71] (by decide +kernel) (by decide +kernel)
set_option maxRecDepth 20000 in
theorem gX3_person_X3_tellsPerson : GoodIn wsX3_person (wsV RX3 160 RX3 yX3_tellsPerson wsX3_tellsPerson) := goodIn_app (goodIn_of _ (by decide +kernel)) ggX3_person_X3_tellsPerson
theorem dX3_person_0 : decode cX3_person 0 = .ok (.aload_n 0, 1) := by decide +kernel
theorem dX3_person_1 : decode cX3_person 1 = .ok (.aload_n 0, 1) := by decide +kernel
theorem dX3_person_2 : decode cX3_person 2 = .ok (.iload_n 1, 1) := by decide +kernel
theorem dX3_person_3 : decode cX3_person 3 = .ok (.invokevirtual 38, 3) := by decide +kernel
theorem dX3_person_6 : decode cX3_person 6 = .ok (.ifCond .ne 7, 3) := by decide +kernel
theorem dX3_person_9 : decode cX3_person 9 = .ok (.iconst 1, 1) := by decide +kernel
theorem dX3_person_10 : decode cX3_person 10 = .ok (.goto 20, 3) := by decide +kernel
theorem dX3_person_13 : decode cX3_person 13 = .ok (.iload_n 2, 1) := by decide +kernel
theorem dX3_person_14 : decode cX3_person 14 = .ok (.i2l, 1) := by decide +kernel
theorem dX3_person_15 : decode cX3_person 15 = .ok (.lconst 0, 1) := by decide +kernel
theorem dX3_person_16 : decode cX3_person 16 = .ok (.ldc2_w 158, 3) := by decide +kernel
theorem dX3_person_19 : decode cX3_person 19 = .ok (.invokestatic 34, 3) := by decide +kernel
theorem dX3_person_22 : decode cX3_person 22 = .ok (.ifCond .eq 7, 3) := by decide +kernel
theorem dX3_person_25 : decode cX3_person 25 = .ok (.iconst 0, 1) := by decide +kernel
theorem dX3_person_26 : decode cX3_person 26 = .ok (.goto 4, 3) := by decide +kernel
theorem dX3_person_29 : decode cX3_person 29 = .ok (.iconst 2, 1) := by decide +kernel
theorem dX3_person_30 : decode cX3_person 30 = .ok (.putfield 30, 3) := by decide +kernel
theorem dX3_person_33 : decode cX3_person 33 = .ok (.aload_n 0, 1) := by decide +kernel
theorem dX3_person_34 : decode cX3_person 34 = .ok (.getfield 30, 3) := by decide +kernel
theorem dX3_person_37 : decode cX3_person 37 = .ok (.ifCond .ne 12, 3) := by decide +kernel
theorem dX3_person_40 : decode cX3_person 40 = .ok (.aload_n 0, 1) := by decide +kernel
theorem dX3_person_41 : decode cX3_person 41 = .ok (.iload_n 1, 1) := by decide +kernel
theorem dX3_person_42 : decode cX3_person 42 = .ok (.iload_n 2, 1) := by decide +kernel
theorem dX3_person_43 : decode cX3_person 43 = .ok (.invokevirtual 160, 3) := by decide +kernel
theorem dX3_person_46 : decode cX3_person 46 = .ok (.goto 4, 3) := by decide +kernel
theorem dX3_person_49 : decode cX3_person 49 = .ok (.iconst 0, 1) := by decide +kernel
theorem dX3_person_50 : decode cX3_person 50 = .ok (.ireturn, 1) := by decide +kernel
set_option maxRecDepth 20000 in
theorem ggX3_workOf_X3_worksIn : GoodIn wsX3_workOf wsX3_worksIn := goodIn_r _ [5, 6, 7, 8, 4, 9, 10, 11, 12, 13, 14, 15, 16, 17, 18, 19, 20, 21, 22, 23, 24, 25, 26, 27, 28, 29, 30, 31, 32, 33, 34, 35, 36, 37, 38, 39, 40, 41, 42, 43, 44, 45, 46, 47, 48, 49] (by decide +kernel) (by decide +kernel)
set_option maxRecDepth 20000 in
theorem gX3_workOf_X3_worksIn : GoodIn wsX3_workOf (wsV RX3 78 RX3 yX3_worksIn wsX3_worksIn) := goodIn_app (goodIn_of _ (by decide +kernel)) ggX3_workOf_X3_worksIn
theorem dX3_workOf_0 : decode cX3_workOf 0 = .ok (.lconst 0, 1) := by decide +kernel
theorem dX3_workOf_1 : decode cX3_workOf 1 = .ok (.lstore_n 2, 1) := by decide +kernel
theorem dX3_workOf_2 : decode cX3_workOf 2 = .ok (.iconst 0, 1) := by decide +kernel
theorem dX3_workOf_3 : decode cX3_workOf 3 = .ok (.istore 4, 2) := by decide +kernel
theorem dX3_workOf_5 : decode cX3_workOf 5 = .ok (.iload 4, 2) := by decide +kernel
theorem dX3_workOf_7 : decode cX3_workOf 7 = .ok (.bipush 42, 2) := by decide +kernel
theorem dX3_workOf_9 : decode cX3_workOf 9 = .ok (.if_icmp .ge 30, 3) := by decide +kernel
theorem dX3_workOf_12 : decode cX3_workOf 12 = .ok (.lload_n 2, 1) := by decide +kernel
theorem dX3_workOf_13 : decode cX3_workOf 13 = .ok (.aload_n 0, 1) := by decide +kernel
theorem dX3_workOf_14 : decode cX3_workOf 14 = .ok (.iload_n 1, 1) := by decide +kernel
theorem dX3_workOf_15 : decode cX3_workOf 15 = .ok (.iload 4, 2) := by decide +kernel
theorem dX3_workOf_17 : decode cX3_workOf 17 = .ok (.invokevirtual 78, 3) := by decide +kernel
theorem dX3_workOf_20 : decode cX3_workOf 20 = .ok (.ifCond .eq 10, 3) := by decide +kernel
theorem dX3_workOf_23 : decode cX3_workOf 23 = .ok (.lconst 1, 1) := by decide +kernel
theorem dX3_workOf_24 : decode cX3_workOf 24 = .ok (.iload 4, 2) := by decide +kernel
theorem dX3_workOf_26 : decode cX3_workOf 26 = .ok (.lshl, 1) := by decide +kernel
theorem dX3_workOf_27 : decode cX3_workOf 27 = .ok (.goto 4, 3) := by decide +kernel
theorem dX3_workOf_30 : decode cX3_workOf 30 = .ok (.lconst 0, 1) := by decide +kernel
theorem dX3_workOf_31 : decode cX3_workOf 31 = .ok (.ladd, 1) := by decide +kernel
theorem dX3_workOf_32 : decode cX3_workOf 32 = .ok (.lstore_n 2, 1) := by decide +kernel
theorem dX3_workOf_33 : decode cX3_workOf 33 = .ok (.iinc 4 1, 3) := by decide +kernel
theorem dX3_workOf_36 : decode cX3_workOf 36 = .ok (.goto (-31), 3) := by decide +kernel
theorem dX3_workOf_39 : decode cX3_workOf 39 = .ok (.lload_n 2, 1) := by decide +kernel
theorem dX3_workOf_40 : decode cX3_workOf 40 = .ok (.lreturn, 1) := by decide +kernel
set_option maxRecDepth 20000 in
theorem ggX3_work_X3_isPerson : GoodIn wsX3_work wsX3_isPerson := goodIn_r _ [6, 7, 8, 9, 5, 10, 44, 45, 46, 47, 48, 49, 50, 51, 52, 53, 54, 55, 56, 57, 58] (by decide +kernel) (by decide +kernel)
set_option maxRecDepth 20000 in
theorem gX3_work_X3_isPerson : GoodIn wsX3_work (wsV RX3 38 RX3 yX3_isPerson wsX3_isPerson) := goodIn_app (goodIn_of _ (by decide +kernel)) ggX3_work_X3_isPerson
set_option maxRecDepth 20000 in
theorem ggX3_work_X3_workOf : GoodIn wsX3_work wsX3_workOf := goodIn_r _ [14, 15, 16, 17, 5, 18, 19, 8, 9, 10, 20, 21, 22, 23, 24, 25, 26, 27, 7, 28, 29, 30, 31, 32, 33, 34, 35, 36, 37, 38, 39, 40, 41, 42, 43, 44, 45, 46, 47, 48, 49, 50, 51, 52, 53, 54, 55, 56, 57, 58] (by decide +kernel) (by decide +kernel)
set_option maxRecDepth 20000 in
theorem gX3_work_X3_workOf : GoodIn wsX3_work (wsV RX3 163 RX3 yX3_workOf wsX3_workOf) := goodIn_app (goodIn_of _ (by decide +kernel)) ggX3_work_X3_workOf
theorem dX3_work_0 : decode cX3_work 0 = .ok (.aload_n 0, 1) := by decide +kernel
theorem dX3_work_1 : decode cX3_work 1 = .ok (.aload_n 0, 1) := by decide +kernel
theorem dX3_work_2 : decode cX3_work 2 = .ok (.iload_n 1, 1) := by decide +kernel
theorem dX3_work_3 : decode cX3_work 3 = .ok (.invokevirtual 38, 3) := by decide +kernel
theorem dX3_work_6 : decode cX3_work 6 = .ok (.ifCond .eq 7, 3) := by decide +kernel
theorem dX3_work_9 : decode cX3_work 9 = .ok (.iconst 0, 1) := by decide +kernel
theorem dX3_work_10 : decode cX3_work 10 = .ok (.goto 4, 3) := by decide +kernel
theorem dX3_work_13 : decode cX3_work 13 = .ok (.iconst 1, 1) := by decide +kernel
theorem dX3_work_14 : decode cX3_work 14 = .ok (.putfield 30, 3) := by decide +kernel
theorem dX3_work_17 : decode cX3_work 17 = .ok (.aload_n 0, 1) := by decide +kernel
theorem dX3_work_18 : decode cX3_work 18 = .ok (.getfield 30, 3) := by decide +kernel
theorem dX3_work_21 : decode cX3_work 21 = .ok (.ifCond .ne 11, 3) := by decide +kernel
theorem dX3_work_24 : decode cX3_work 24 = .ok (.aload_n 0, 1) := by decide +kernel
theorem dX3_work_25 : decode cX3_work 25 = .ok (.iload_n 1, 1) := by decide +kernel
theorem dX3_work_26 : decode cX3_work 26 = .ok (.invokevirtual 163, 3) := by decide +kernel
theorem dX3_work_29 : decode cX3_work 29 = .ok (.goto 4, 3) := by decide +kernel
theorem dX3_work_32 : decode cX3_work 32 = .ok (.lconst 0, 1) := by decide +kernel
theorem dX3_work_33 : decode cX3_work 33 = .ok (.lreturn, 1) := by decide +kernel
set_option maxRecDepth 20000 in
theorem ggX3_ableFor_X3_whyNotFor : GoodIn wsX3_ableFor wsX3_whyNotFor := goodIn_r _ [6, 7, 8, 9, 5, 10, 1, 11, 12, 13, 14, 15, 16, 17, 18, 19, 20, 21, 22, 23, 24, 25, 26, 27, 28, 29, 30, 31, 32, 33, 34, 35, 36, 37, 38, 39, 40, 41, 42, 43, 44, 45, 46, 47, 48, 49, 50, 51, 52, 53, 54, 55, 56, 57] (by decide +kernel) (by decide +kernel)
set_option maxRecDepth 20000 in
theorem gX3_ableFor_X3_whyNotFor : GoodIn wsX3_ableFor (wsV RX3 84 RX3 yX3_whyNotFor wsX3_whyNotFor) := goodIn_app (goodIn_of _ (by decide +kernel)) ggX3_ableFor_X3_whyNotFor
theorem dX3_ableFor_0 : decode cX3_ableFor 0 = .ok (.iconst 0, 1) := by decide +kernel
theorem dX3_ableFor_1 : decode cX3_ableFor 1 = .ok (.istore_n 2, 1) := by decide +kernel
theorem dX3_ableFor_2 : decode cX3_ableFor 2 = .ok (.iconst 0, 1) := by decide +kernel
theorem dX3_ableFor_3 : decode cX3_ableFor 3 = .ok (.istore_n 3, 1) := by decide +kernel
theorem dX3_ableFor_4 : decode cX3_ableFor 4 = .ok (.iload_n 3, 1) := by decide +kernel
theorem dX3_ableFor_5 : decode cX3_ableFor 5 = .ok (.i2l, 1) := by decide +kernel
theorem dX3_ableFor_6 : decode cX3_ableFor 6 = .ok (.aload_n 0, 1) := by decide +kernel
theorem dX3_ableFor_7 : decode cX3_ableFor 7 = .ok (.getfield 7, 3) := by decide +kernel
theorem dX3_ableFor_10 : decode cX3_ableFor 10 = .ok (.iconst 3, 1) := by decide +kernel
theorem dX3_ableFor_11 : decode cX3_ableFor 11 = .ok (.laload, 1) := by decide +kernel
theorem dX3_ableFor_12 : decode cX3_ableFor 12 = .ok (.lcmp, 1) := by decide +kernel
theorem dX3_ableFor_13 : decode cX3_ableFor 13 = .ok (.ifCond .ge 28, 3) := by decide +kernel
theorem dX3_ableFor_16 : decode cX3_ableFor 16 = .ok (.iload_n 2, 1) := by decide +kernel
theorem dX3_ableFor_17 : decode cX3_ableFor 17 = .ok (.aload_n 0, 1) := by decide +kernel
theorem dX3_ableFor_18 : decode cX3_ableFor 18 = .ok (.iload_n 3, 1) := by decide +kernel
theorem dX3_ableFor_19 : decode cX3_ableFor 19 = .ok (.iload_n 1, 1) := by decide +kernel
theorem dX3_ableFor_20 : decode cX3_ableFor 20 = .ok (.invokevirtual 84, 3) := by decide +kernel
theorem dX3_ableFor_23 : decode cX3_ableFor 23 = .ok (.ifCond .ne 9, 3) := by decide +kernel
theorem dX3_ableFor_26 : decode cX3_ableFor 26 = .ok (.iconst 1, 1) := by decide +kernel
theorem dX3_ableFor_27 : decode cX3_ableFor 27 = .ok (.iload_n 3, 1) := by decide +kernel
theorem dX3_ableFor_28 : decode cX3_ableFor 28 = .ok (.ishl, 1) := by decide +kernel
theorem dX3_ableFor_29 : decode cX3_ableFor 29 = .ok (.goto 4, 3) := by decide +kernel
theorem dX3_ableFor_32 : decode cX3_ableFor 32 = .ok (.iconst 0, 1) := by decide +kernel
theorem dX3_ableFor_33 : decode cX3_ableFor 33 = .ok (.ior, 1) := by decide +kernel
theorem dX3_ableFor_34 : decode cX3_ableFor 34 = .ok (.istore_n 2, 1) := by decide +kernel
theorem dX3_ableFor_35 : decode cX3_ableFor 35 = .ok (.iinc 3 1, 3) := by decide +kernel
theorem dX3_ableFor_38 : decode cX3_ableFor 38 = .ok (.goto (-34), 3) := by decide +kernel
theorem dX3_ableFor_41 : decode cX3_ableFor 41 = .ok (.iload_n 2, 1) := by decide +kernel
theorem dX3_ableFor_42 : decode cX3_ableFor 42 = .ok (.ireturn, 1) := by decide +kernel
set_option maxRecDepth 20000 in
theorem ggX3_tellsAbsence_X3_ofA : GoodIn wsX3_tellsAbsence wsX3_ofA := goodIn_r _ [5, 6, 51, 52, 53, 54, 55, 56, 57, 58, 59, 60, 61, 62, 63, 64, 65] (by decide +kernel) (by decide +kernel)
set_option maxRecDepth 20000 in
theorem gX3_tellsAbsence_X3_ofA : GoodIn wsX3_tellsAbsence (wsV RX3 59 RX3 yX3_ofA wsX3_ofA) := goodIn_app (goodIn_of _ (by decide +kernel)) ggX3_tellsAbsence_X3_ofA
set_option maxRecDepth 20000 in
theorem ggX3_tellsAbsence_X3_bids : GoodIn wsX3_tellsAbsence wsX3_bids := goodIn_r _ [10, 1, 2, 3, 4, 5, 6, 51, 52, 53, 54, 55, 56, 57, 58, 59, 60, 61, 62, 63, 64, 65] (by decide +kernel) (by decide +kernel)
set_option maxRecDepth 20000 in
theorem gX3_tellsAbsence_X3_bids : GoodIn wsX3_tellsAbsence (wsV RX3 129 RX3 yX3_bids wsX3_bids) := goodIn_app (goodIn_of _ (by decide +kernel)) ggX3_tellsAbsence_X3_bids
set_option maxRecDepth 20000 in
theorem ggX3_tellsAbsence_X3_ableFor : GoodIn wsX3_tellsAbsence wsX3_ableFor := goodIn_r _ [14, 6, 15, 16, 17, 4, 18, 1, 2, 3, 5, 19, 20, 21, 22, 23, 24, 25, 26, 27, 28, 29, 30, 31, 32, 33, 34, 35, 36, 37, 38, 39, 40, 41, 42, 43, 44, 45, 46, 47, 48, 49, 50, 51, 52, 53, 54, 55, 56, 57, 58, 59, 60, 61, 62, 63, 64, 65] (by decide +kernel) (by decide +kernel)
set_option maxRecDepth 20000 in
theorem gX3_tellsAbsence_X3_ableFor : GoodIn wsX3_tellsAbsence (wsV RX3 167 RX3 yX3_ableFor wsX3_ableFor) := goodIn_app (goodIn_of _ (by decide +kernel)) ggX3_tellsAbsence_X3_ableFor
theorem dX3_tellsAbsence_0 : decode cX3_tellsAbsence 0 = .ok (.iload_n 2, 1) := by decide +kernel
theorem dX3_tellsAbsence_1 : decode cX3_tellsAbsence 1 = .ok (.iconst 5, 1) := by decide +kernel
theorem dX3_tellsAbsence_2 : decode cX3_tellsAbsence 2 = .ok (.if_icmp .ge 10, 3) := by decide +kernel
theorem dX3_tellsAbsence_5 : decode cX3_tellsAbsence 5 = .ok (.aload_n 0, 1) := by decide +kernel
theorem dX3_tellsAbsence_6 : decode cX3_tellsAbsence 6 = .ok (.iload_n 1, 1) := by decide +kernel
theorem dX3_tellsAbsence_7 : decode cX3_tellsAbsence 7 = .ok (.iload_n 2, 1) := by decide +kernel
theorem dX3_tellsAbsence_8 : decode cX3_tellsAbsence 8 = .ok (.invokevirtual 59, 3) := by decide +kernel
theorem dX3_tellsAbsence_11 : decode cX3_tellsAbsence 11 = .ok (.ireturn, 1) := by decide +kernel
theorem dX3_tellsAbsence_12 : decode cX3_tellsAbsence 12 = .ok (.iload_n 2, 1) := by decide +kernel
theorem dX3_tellsAbsence_13 : decode cX3_tellsAbsence 13 = .ok (.iconst 5, 1) := by decide +kernel
theorem dX3_tellsAbsence_14 : decode cX3_tellsAbsence 14 = .ok (.if_icmp .ne 11, 3) := by decide +kernel
theorem dX3_tellsAbsence_17 : decode cX3_tellsAbsence 17 = .ok (.aload_n 0, 1) := by decide +kernel
theorem dX3_tellsAbsence_18 : decode cX3_tellsAbsence 18 = .ok (.iload_n 1, 1) := by decide +kernel
theorem dX3_tellsAbsence_19 : decode cX3_tellsAbsence 19 = .ok (.invokevirtual 129, 3) := by decide +kernel
theorem dX3_tellsAbsence_22 : decode cX3_tellsAbsence 22 = .ok (.goto 8, 3) := by decide +kernel
theorem dX3_tellsAbsence_25 : decode cX3_tellsAbsence 25 = .ok (.aload_n 0, 1) := by decide +kernel
theorem dX3_tellsAbsence_26 : decode cX3_tellsAbsence 26 = .ok (.iload_n 1, 1) := by decide +kernel
theorem dX3_tellsAbsence_27 : decode cX3_tellsAbsence 27 = .ok (.invokevirtual 167, 3) := by decide +kernel
theorem dX3_tellsAbsence_30 : decode cX3_tellsAbsence 30 = .ok (.ireturn, 1) := by decide +kernel
set_option maxRecDepth 20000 in
theorem ggX3_absence_X3_isAbsence : GoodIn wsX3_absence wsX3_isAbsence := goodIn_r _ [7, 8, 9, 10, 6, 11, 61, 62, 63, 64, 65, 66, 67, 68, 69, 70, 71, 72, 73, 74, 75] (by decide +kernel) (by decide +kernel)
set_option maxRecDepth 20000 in
theorem gX3_absence_X3_isAbsence : GoodIn wsX3_absence (wsV RX3 42 RX3 yX3_isAbsence wsX3_isAbsence) := goodIn_app (goodIn_of _ (by decide +kernel)) ggX3_absence_X3_isAbsence
set_option maxRecDepth 20000 in
theorem ggX3_absence_X3_isIn : GoodIn wsX3_absence wsX3_isIn := goodIn_r _ [11] (by decide +kernel) (by decide +kernel)
set_option maxRecDepth 20000 in
theorem gX3_absence_X3_isIn : GoodIn wsX3_absence (va_wsS RX3 34 yX3_isIn wsX3_isIn) := goodIn_app (goodIn_of _ (by decide +kernel)) ggX3_absence_X3_isIn
set_option maxRecDepth 20000 in
theorem ggX3_absence_X3_tellsAbsence : GoodIn wsX3_absence wsX3_tellsAbsence := goodIn_r _ [15, 16, 17, 18, 6, 19, 8, 20, 21, 22, 23, 24, 25, 26, 27, 28, 29, 30, 31, 32, 33, 34, 35, 36, 37, 38, 39, 40, 41, 42, 43, 44, 9, 10, 11, 45, 46, 47, 48, 49, 50, 51, 52, 53, 54, 55, 56, 57, 58, 59, 60, 61, 62, 63, 64, 65, 66, 67, 68, 69, 70, 71, 72, 73, 74, 75] (by decide +kernel) (by decide +kernel)
set_option maxRecDepth 20000 in
theorem gX3_absence_X3_tellsAbsence : GoodIn wsX3_absence (wsV RX3 170 RX3 yX3_tellsAbsence wsX3_tellsAbsence) := goodIn_app (goodIn_of _ (by decide +kernel)) ggX3_absence_X3_tellsAbsence
theorem dX3_absence_0 : decode cX3_absence 0 = .ok (.aload_n 0, 1) := by decide +kernel
theorem dX3_absence_1 : decode cX3_absence 1 = .ok (.aload_n 0, 1) := by decide +kernel
theorem dX3_absence_2 : decode cX3_absence 2 = .ok (.iload_n 1, 1) := by decide +kernel
theorem dX3_absence_3 : decode cX3_absence 3 = .ok (.invokevirtual 42, 3) := by decide +kernel
theorem dX3_absence_6 : decode cX3_absence 6 = .ok (.ifCond .ne 7, 3) := by decide +kernel
theorem dX3_absence_9 : decode cX3_absence 9 = .ok (.iconst 1, 1) := by decide +kernel
theorem dX3_absence_10 : decode cX3_absence 10 = .ok (.goto 20, 3) := by decide +kernel
theorem dX3_absence_13 : decode cX3_absence 13 = .ok (.iload_n 2, 1) := by decide +kernel
theorem dX3_absence_14 : decode cX3_absence 14 = .ok (.i2l, 1) := by decide +kernel
theorem dX3_absence_15 : decode cX3_absence 15 = .ok (.lconst 0, 1) := by decide +kernel
theorem dX3_absence_16 : decode cX3_absence 16 = .ok (.ldc2_w 158, 3) := by decide +kernel
theorem dX3_absence_19 : decode cX3_absence 19 = .ok (.invokestatic 34, 3) := by decide +kernel
theorem dX3_absence_22 : decode cX3_absence 22 = .ok (.ifCond .eq 7, 3) := by decide +kernel
theorem dX3_absence_25 : decode cX3_absence 25 = .ok (.iconst 0, 1) := by decide +kernel
theorem dX3_absence_26 : decode cX3_absence 26 = .ok (.goto 4, 3) := by decide +kernel
theorem dX3_absence_29 : decode cX3_absence 29 = .ok (.iconst 2, 1) := by decide +kernel
theorem dX3_absence_30 : decode cX3_absence 30 = .ok (.putfield 30, 3) := by decide +kernel
theorem dX3_absence_33 : decode cX3_absence 33 = .ok (.aload_n 0, 1) := by decide +kernel
theorem dX3_absence_34 : decode cX3_absence 34 = .ok (.getfield 30, 3) := by decide +kernel
theorem dX3_absence_37 : decode cX3_absence 37 = .ok (.ifCond .ne 12, 3) := by decide +kernel
theorem dX3_absence_40 : decode cX3_absence 40 = .ok (.aload_n 0, 1) := by decide +kernel
theorem dX3_absence_41 : decode cX3_absence 41 = .ok (.iload_n 1, 1) := by decide +kernel
theorem dX3_absence_42 : decode cX3_absence 42 = .ok (.iload_n 2, 1) := by decide +kernel
theorem dX3_absence_43 : decode cX3_absence 43 = .ok (.invokevirtual 170, 3) := by decide +kernel
theorem dX3_absence_46 : decode cX3_absence 46 = .ok (.goto 4, 3) := by decide +kernel
theorem dX3_absence_49 : decode cX3_absence 49 = .ok (.iconst 0, 1) := by decide +kernel
theorem dX3_absence_50 : decode cX3_absence 50 = .ok (.ireturn, 1) := by decide +kernel
set_option maxRecDepth 20000 in
theorem ggX3_bidOf_X3_areThere : GoodIn wsX3_bidOf wsX3_areThere := goodIn_r _ [6, 7, 8, 9, 5, 10, 11, 12, 13, 14, 15, 16, 17, 18, 23, 24, 25, 26, 27, 28, 29, 30, 31, 32, 33, 34, 35, 36, 37] (by decide +kernel) (by decide +kernel)
set_option maxRecDepth 20000 in
theorem gX3_bidOf_X3_areThere : GoodIn wsX3_bidOf (wsV RX3 123 RX3 yX3_areThere wsX3_areThere) := goodIn_app (goodIn_of _ (by decide +kernel)) ggX3_bidOf_X3_areThere
set_option maxRecDepth 20000 in
theorem ggX3_bidOf_X3_ofA : GoodIn wsX3_bidOf wsX3_ofA := goodIn_r _ [22, 11, 23, 24, 25, 26, 27, 28, 29, 30, 31, 32, 33, 34, 35, 36, 37] (by decide +kernel) (by decide +kernel)
set_option maxRecDepth 20000 in
theorem gX3_bidOf_X3_ofA : GoodIn wsX3_bidOf (wsV RX3 59 RX3 yX3_ofA wsX3_ofA) := goodIn_app (goodIn_of _ (by decide +kernel)) ggX3_bidOf_X3_ofA
theorem dX3_bidOf_0 : decode cX3_bidOf 0 = .ok (.aload_n 0, 1) := by decide +kernel
theorem dX3_bidOf_1 : decode cX3_bidOf 1 = .ok (.aload_n 0, 1) := by decide +kernel
theorem dX3_bidOf_2 : decode cX3_bidOf 2 = .ok (.iload_n 1, 1) := by decide +kernel
theorem dX3_bidOf_3 : decode cX3_bidOf 3 = .ok (.iload_n 2, 1) := by decide +kernel
theorem dX3_bidOf_4 : decode cX3_bidOf 4 = .ok (.invokevirtual 123, 3) := by decide +kernel
theorem dX3_bidOf_7 : decode cX3_bidOf 7 = .ok (.ifCond .eq 7, 3) := by decide +kernel
theorem dX3_bidOf_10 : decode cX3_bidOf 10 = .ok (.iconst 0, 1) := by decide +kernel
theorem dX3_bidOf_11 : decode cX3_bidOf 11 = .ok (.goto 4, 3) := by decide +kernel
theorem dX3_bidOf_14 : decode cX3_bidOf 14 = .ok (.iconst 1, 1) := by decide +kernel
theorem dX3_bidOf_15 : decode cX3_bidOf 15 = .ok (.putfield 30, 3) := by decide +kernel
theorem dX3_bidOf_18 : decode cX3_bidOf 18 = .ok (.aload_n 0, 1) := by decide +kernel
theorem dX3_bidOf_19 : decode cX3_bidOf 19 = .ok (.getfield 30, 3) := by decide +kernel
theorem dX3_bidOf_22 : decode cX3_bidOf 22 = .ok (.ifCond .ne 14, 3) := by decide +kernel
theorem dX3_bidOf_25 : decode cX3_bidOf 25 = .ok (.aload_n 0, 1) := by decide +kernel
theorem dX3_bidOf_26 : decode cX3_bidOf 26 = .ok (.iload_n 2, 1) := by decide +kernel
theorem dX3_bidOf_27 : decode cX3_bidOf 27 = .ok (.iconst 5, 1) := by decide +kernel
theorem dX3_bidOf_28 : decode cX3_bidOf 28 = .ok (.iload_n 1, 1) := by decide +kernel
theorem dX3_bidOf_29 : decode cX3_bidOf 29 = .ok (.iadd, 1) := by decide +kernel
theorem dX3_bidOf_30 : decode cX3_bidOf 30 = .ok (.invokevirtual 59, 3) := by decide +kernel
theorem dX3_bidOf_33 : decode cX3_bidOf 33 = .ok (.goto 4, 3) := by decide +kernel
theorem dX3_bidOf_36 : decode cX3_bidOf 36 = .ok (.iconst 0, 1) := by decide +kernel
theorem dX3_bidOf_37 : decode cX3_bidOf 37 = .ok (.ireturn, 1) := by decide +kernel
set_option maxRecDepth 20000 in
theorem ggX3_ofState_X3_ofA : GoodIn wsX3_ofState wsX3_ofA := goodIn_r _ [6, 1, 7, 8, 9, 10, 11, 12, 13, 14, 15, 16, 17, 18, 19, 20, 21] (by decide +kernel) (by decide +kernel)
set_option maxRecDepth 20000 in
theorem gX3_ofState_X3_ofA : GoodIn wsX3_ofState (wsV RX3 59 RX3 yX3_ofA wsX3_ofA) := goodIn_app (goodIn_of _ (by decide +kernel)) ggX3_ofState_X3_ofA
theorem dX3_ofState_0 : decode cX3_ofState 0 = .ok (.iconst 0, 1) := by decide +kernel
theorem dX3_ofState_1 : decode cX3_ofState 1 = .ok (.istore_n 2, 1) := by decide +kernel
theorem dX3_ofState_2 : decode cX3_ofState 2 = .ok (.iconst 0, 1) := by decide +kernel
theorem dX3_ofState_3 : decode cX3_ofState 3 = .ok (.istore_n 3, 1) := by decide +kernel
theorem dX3_ofState_4 : decode cX3_ofState 4 = .ok (.iload_n 3, 1) := by decide +kernel
theorem dX3_ofState_5 : decode cX3_ofState 5 = .ok (.i2l, 1) := by decide +kernel
theorem dX3_ofState_6 : decode cX3_ofState 6 = .ok (.aload_n 0, 1) := by decide +kernel
theorem dX3_ofState_7 : decode cX3_ofState 7 = .ok (.getfield 7, 3) := by decide +kernel
theorem dX3_ofState_10 : decode cX3_ofState 10 = .ok (.iconst 4, 1) := by decide +kernel
theorem dX3_ofState_11 : decode cX3_ofState 11 = .ok (.laload, 1) := by decide +kernel
theorem dX3_ofState_12 : decode cX3_ofState 12 = .ok (.lcmp, 1) := by decide +kernel
theorem dX3_ofState_13 : decode cX3_ofState 13 = .ok (.ifCond .ge 27, 3) := by decide +kernel
theorem dX3_ofState_16 : decode cX3_ofState 16 = .ok (.iload_n 2, 1) := by decide +kernel
theorem dX3_ofState_17 : decode cX3_ofState 17 = .ok (.aload_n 0, 1) := by decide +kernel
theorem dX3_ofState_18 : decode cX3_ofState 18 = .ok (.iload_n 3, 1) := by decide +kernel
theorem dX3_ofState_19 : decode cX3_ofState 19 = .ok (.iconst 2, 1) := by decide +kernel
theorem dX3_ofState_20 : decode cX3_ofState 20 = .ok (.invokevirtual 59, 3) := by decide +kernel
theorem dX3_ofState_23 : decode cX3_ofState 23 = .ok (.iload_n 1, 1) := by decide +kernel
theorem dX3_ofState_24 : decode cX3_ofState 24 = .ok (.if_icmp .ne 7, 3) := by decide +kernel
theorem dX3_ofState_27 : decode cX3_ofState 27 = .ok (.iconst 1, 1) := by decide +kernel
theorem dX3_ofState_28 : decode cX3_ofState 28 = .ok (.goto 4, 3) := by decide +kernel
theorem dX3_ofState_31 : decode cX3_ofState 31 = .ok (.iconst 0, 1) := by decide +kernel
theorem dX3_ofState_32 : decode cX3_ofState 32 = .ok (.iadd, 1) := by decide +kernel
theorem dX3_ofState_33 : decode cX3_ofState 33 = .ok (.istore_n 2, 1) := by decide +kernel
theorem dX3_ofState_34 : decode cX3_ofState 34 = .ok (.iinc 3 1, 3) := by decide +kernel
theorem dX3_ofState_37 : decode cX3_ofState 37 = .ok (.goto (-33), 3) := by decide +kernel
theorem dX3_ofState_40 : decode cX3_ofState 40 = .ok (.iload_n 2, 1) := by decide +kernel
theorem dX3_ofState_41 : decode cX3_ofState 41 = .ok (.ireturn, 1) := by decide +kernel
set_option maxRecDepth 20000 in
theorem ggX3_meterOf_X3_ofP : GoodIn wsX3_meterOf wsX3_ofP := goodIn_r _ [7, 2, 8, 9, 10, 11, 12, 13, 14, 15, 16, 17, 18, 19, 20, 21, 22] (by decide +kernel) (by decide +kernel)
set_option maxRecDepth 20000 in
theorem gX3_meterOf_X3_ofP : GoodIn wsX3_meterOf (wsV RX3 55 RX3 yX3_ofP wsX3_ofP) := goodIn_app (goodIn_of _ (by decide +kernel)) ggX3_meterOf_X3_ofP
theorem dX3_meterOf_0 : decode cX3_meterOf 0 = .ok (.ldc2_w 173, 3) := by decide +kernel
theorem dX3_meterOf_3 : decode cX3_meterOf 3 = .ok (.lstore_n 2, 1) := by decide +kernel
theorem dX3_meterOf_4 : decode cX3_meterOf 4 = .ok (.iconst 0, 1) := by decide +kernel
theorem dX3_meterOf_5 : decode cX3_meterOf 5 = .ok (.istore 4, 2) := by decide +kernel
theorem dX3_meterOf_7 : decode cX3_meterOf 7 = .ok (.iload 4, 2) := by decide +kernel
theorem dX3_meterOf_9 : decode cX3_meterOf 9 = .ok (.i2l, 1) := by decide +kernel
theorem dX3_meterOf_10 : decode cX3_meterOf 10 = .ok (.aload_n 0, 1) := by decide +kernel
theorem dX3_meterOf_11 : decode cX3_meterOf 11 = .ok (.getfield 7, 3) := by decide +kernel
theorem dX3_meterOf_14 : decode cX3_meterOf 14 = .ok (.iconst 3, 1) := by decide +kernel
theorem dX3_meterOf_15 : decode cX3_meterOf 15 = .ok (.laload, 1) := by decide +kernel
theorem dX3_meterOf_16 : decode cX3_meterOf 16 = .ok (.lcmp, 1) := by decide +kernel
theorem dX3_meterOf_17 : decode cX3_meterOf 17 = .ok (.ifCond .ge 51, 3) := by decide +kernel
theorem dX3_meterOf_20 : decode cX3_meterOf 20 = .ok (.aload_n 0, 1) := by decide +kernel
theorem dX3_meterOf_21 : decode cX3_meterOf 21 = .ok (.iload 4, 2) := by decide +kernel
theorem dX3_meterOf_23 : decode cX3_meterOf 23 = .ok (.iconst 1, 1) := by decide +kernel
theorem dX3_meterOf_24 : decode cX3_meterOf 24 = .ok (.invokevirtual 55, 3) := by decide +kernel
theorem dX3_meterOf_27 : decode cX3_meterOf 27 = .ok (.lstore 5, 2) := by decide +kernel
theorem dX3_meterOf_29 : decode cX3_meterOf 29 = .ok (.iload 4, 2) := by decide +kernel
theorem dX3_meterOf_31 : decode cX3_meterOf 31 = .ok (.ifCond .eq 24, 3) := by decide +kernel
theorem dX3_meterOf_34 : decode cX3_meterOf 34 = .ok (.iload_n 1, 1) := by decide +kernel
theorem dX3_meterOf_35 : decode cX3_meterOf 35 = .ok (.ifCond .eq 13, 3) := by decide +kernel
theorem dX3_meterOf_38 : decode cX3_meterOf 38 = .ok (.lload 5, 2) := by decide +kernel
theorem dX3_meterOf_40 : decode cX3_meterOf 40 = .ok (.lload_n 2, 1) := by decide +kernel
theorem dX3_meterOf_41 : decode cX3_meterOf 41 = .ok (.lcmp, 1) := by decide +kernel
theorem dX3_meterOf_42 : decode cX3_meterOf 42 = .ok (.ifCond .le 18, 3) := by decide +kernel
theorem dX3_meterOf_45 : decode cX3_meterOf 45 = .ok (.goto 10, 3) := by decide +kernel
theorem dX3_meterOf_48 : decode cX3_meterOf 48 = .ok (.lload 5, 2) := by decide +kernel
theorem dX3_meterOf_50 : decode cX3_meterOf 50 = .ok (.lload_n 2, 1) := by decide +kernel
theorem dX3_meterOf_51 : decode cX3_meterOf 51 = .ok (.lcmp, 1) := by decide +kernel
theorem dX3_meterOf_52 : decode cX3_meterOf 52 = .ok (.ifCond .ge 8, 3) := by decide +kernel
theorem dX3_meterOf_55 : decode cX3_meterOf 55 = .ok (.lload 5, 2) := by decide +kernel
theorem dX3_meterOf_57 : decode cX3_meterOf 57 = .ok (.goto 4, 3) := by decide +kernel
theorem dX3_meterOf_60 : decode cX3_meterOf 60 = .ok (.lload_n 2, 1) := by decide +kernel
theorem dX3_meterOf_61 : decode cX3_meterOf 61 = .ok (.lstore_n 2, 1) := by decide +kernel
theorem dX3_meterOf_62 : decode cX3_meterOf 62 = .ok (.iinc 4 1, 3) := by decide +kernel
theorem dX3_meterOf_65 : decode cX3_meterOf 65 = .ok (.goto (-58), 3) := by decide +kernel
theorem dX3_meterOf_68 : decode cX3_meterOf 68 = .ok (.lload_n 2, 1) := by decide +kernel
theorem dX3_meterOf_69 : decode cX3_meterOf 69 = .ok (.l2i, 1) := by decide +kernel
theorem dX3_meterOf_70 : decode cX3_meterOf 70 = .ok (.ireturn, 1) := by decide +kernel
set_option maxRecDepth 20000 in
theorem ggX3_sumOf_X3_ofA : GoodIn wsX3_sumOf wsX3_ofA := goodIn_r _ [6, 1, 11, 12, 13, 14, 15, 16, 17, 18, 19, 20, 21, 22, 23, 24, 25] (by decide +kernel) (by decide +kernel)
set_option maxRecDepth 20000 in
theorem gX3_sumOf_X3_ofA : GoodIn wsX3_sumOf (wsV RX3 59 RX3 yX3_ofA wsX3_ofA) := goodIn_app (goodIn_of _ (by decide +kernel)) ggX3_sumOf_X3_ofA
set_option maxRecDepth 20000 in
theorem ggX3_sumOf_X3_bids : GoodIn wsX3_sumOf wsX3_bids := goodIn_r _ [10, 2, 3, 4, 5, 6, 1, 11, 12, 13, 14, 15, 16, 17, 18, 19, 20, 21, 22, 23, 24, 25] (by decide +kernel) (by decide +kernel)
set_option maxRecDepth 20000 in
theorem gX3_sumOf_X3_bids : GoodIn wsX3_sumOf (wsV RX3 129 RX3 yX3_bids wsX3_bids) := goodIn_app (goodIn_of _ (by decide +kernel)) ggX3_sumOf_X3_bids
theorem dX3_sumOf_0 : decode cX3_sumOf 0 = .ok (.iconst 0, 1) := by decide +kernel
theorem dX3_sumOf_1 : decode cX3_sumOf 1 = .ok (.istore_n 2, 1) := by decide +kernel
theorem dX3_sumOf_2 : decode cX3_sumOf 2 = .ok (.iconst 0, 1) := by decide +kernel
theorem dX3_sumOf_3 : decode cX3_sumOf 3 = .ok (.istore_n 3, 1) := by decide +kernel
theorem dX3_sumOf_4 : decode cX3_sumOf 4 = .ok (.iload_n 3, 1) := by decide +kernel
theorem dX3_sumOf_5 : decode cX3_sumOf 5 = .ok (.i2l, 1) := by decide +kernel
theorem dX3_sumOf_6 : decode cX3_sumOf 6 = .ok (.aload_n 0, 1) := by decide +kernel
theorem dX3_sumOf_7 : decode cX3_sumOf 7 = .ok (.getfield 7, 3) := by decide +kernel
theorem dX3_sumOf_10 : decode cX3_sumOf 10 = .ok (.iconst 4, 1) := by decide +kernel
theorem dX3_sumOf_11 : decode cX3_sumOf 11 = .ok (.laload, 1) := by decide +kernel
theorem dX3_sumOf_12 : decode cX3_sumOf 12 = .ok (.lcmp, 1) := by decide +kernel
theorem dX3_sumOf_13 : decode cX3_sumOf 13 = .ok (.ifCond .ge 30, 3) := by decide +kernel
theorem dX3_sumOf_16 : decode cX3_sumOf 16 = .ok (.iload_n 2, 1) := by decide +kernel
theorem dX3_sumOf_17 : decode cX3_sumOf 17 = .ok (.iload_n 1, 1) := by decide +kernel
theorem dX3_sumOf_18 : decode cX3_sumOf 18 = .ok (.ifCond .eq 12, 3) := by decide +kernel
theorem dX3_sumOf_21 : decode cX3_sumOf 21 = .ok (.aload_n 0, 1) := by decide +kernel
theorem dX3_sumOf_22 : decode cX3_sumOf 22 = .ok (.iload_n 3, 1) := by decide +kernel
theorem dX3_sumOf_23 : decode cX3_sumOf 23 = .ok (.iconst 4, 1) := by decide +kernel
theorem dX3_sumOf_24 : decode cX3_sumOf 24 = .ok (.invokevirtual 59, 3) := by decide +kernel
theorem dX3_sumOf_27 : decode cX3_sumOf 27 = .ok (.goto 8, 3) := by decide +kernel
theorem dX3_sumOf_30 : decode cX3_sumOf 30 = .ok (.aload_n 0, 1) := by decide +kernel
theorem dX3_sumOf_31 : decode cX3_sumOf 31 = .ok (.iload_n 3, 1) := by decide +kernel
theorem dX3_sumOf_32 : decode cX3_sumOf 32 = .ok (.invokevirtual 129, 3) := by decide +kernel
theorem dX3_sumOf_35 : decode cX3_sumOf 35 = .ok (.iadd, 1) := by decide +kernel
theorem dX3_sumOf_36 : decode cX3_sumOf 36 = .ok (.istore_n 2, 1) := by decide +kernel
theorem dX3_sumOf_37 : decode cX3_sumOf 37 = .ok (.iinc 3 1, 3) := by decide +kernel
theorem dX3_sumOf_40 : decode cX3_sumOf 40 = .ok (.goto (-36), 3) := by decide +kernel
theorem dX3_sumOf_43 : decode cX3_sumOf 43 = .ok (.iload_n 2, 1) := by decide +kernel
theorem dX3_sumOf_44 : decode cX3_sumOf 44 = .ok (.ireturn, 1) := by decide +kernel
set_option maxRecDepth 20000 in
theorem ggX3_tellsAll_X3_ofState : GoodIn wsX3_tellsAll wsX3_ofState := goodIn_r _ [6, 1, 7, 8, 9, 5, 10, 28, 29, 30, 31, 32, 33, 34, 35, 36, 37, 38, 39, 40, 41, 42] (by decide +kernel) (by decide +kernel)
set_option maxRecDepth 20000 in
theorem gX3_tellsAll_X3_ofState : GoodIn wsX3_tellsAll (wsV RX3 175 RX3 yX3_ofState wsX3_ofState) := goodIn_app (goodIn_of _ (by decide +kernel)) ggX3_tellsAll_X3_ofState
set_option maxRecDepth 20000 in
theorem ggX3_tellsAll_X3_meterOf : GoodIn wsX3_tellsAll wsX3_meterOf := goodIn_r _ [14, 15, 1, 16, 17, 18, 5, 19, 28, 29, 30, 31, 32, 33, 34, 35, 36, 37, 38, 39, 40, 41, 42] (by decide +kernel) (by decide +kernel)
set_option maxRecDepth 20000 in
theorem gX3_tellsAll_X3_meterOf : GoodIn wsX3_tellsAll (wsV RX3 178 RX3 yX3_meterOf wsX3_meterOf) := goodIn_app (goodIn_of _ (by decide +kernel)) ggX3_tellsAll_X3_meterOf
set_option maxRecDepth 20000 in
theorem ggX3_tellsAll_X3_sumOf : GoodIn wsX3_tellsAll wsX3_sumOf := goodIn_r _ [23, 1, 7, 8, 9, 5, 10, 24, 25, 26, 27, 28, 29, 30, 31, 32, 33, 34, 35, 36, 37, 38, 39, 40, 41, 42] (by decide +kernel) (by decide +kernel)
set_option maxRecDepth 20000 in
theorem gX3_tellsAll_X3_sumOf : GoodIn wsX3_tellsAll (wsV RX3 182 RX3 yX3_sumOf wsX3_sumOf) := goodIn_app (goodIn_of _ (by decide +kernel)) ggX3_tellsAll_X3_sumOf
theorem dX3_tellsAll_0 : decode cX3_tellsAll 0 = .ok (.iload_n 1, 1) := by decide +kernel
theorem dX3_tellsAll_1 : decode cX3_tellsAll 1 = .ok (.tableswitch 119 0 9 #[55, 63, 71, 77, 83, 89, 95, 101, 107, 113], 55) := by decide +kernel
theorem dX3_tellsAll_56 : decode cX3_tellsAll 56 = .ok (.aload_n 0, 1) := by decide +kernel
theorem dX3_tellsAll_57 : decode cX3_tellsAll 57 = .ok (.getfield 7, 3) := by decide +kernel
theorem dX3_tellsAll_60 : decode cX3_tellsAll 60 = .ok (.iconst 3, 1) := by decide +kernel
theorem dX3_tellsAll_61 : decode cX3_tellsAll 61 = .ok (.laload, 1) := by decide +kernel
theorem dX3_tellsAll_62 : decode cX3_tellsAll 62 = .ok (.l2i, 1) := by decide +kernel
theorem dX3_tellsAll_63 : decode cX3_tellsAll 63 = .ok (.ireturn, 1) := by decide +kernel
theorem dX3_tellsAll_64 : decode cX3_tellsAll 64 = .ok (.aload_n 0, 1) := by decide +kernel
theorem dX3_tellsAll_65 : decode cX3_tellsAll 65 = .ok (.getfield 7, 3) := by decide +kernel
theorem dX3_tellsAll_68 : decode cX3_tellsAll 68 = .ok (.iconst 4, 1) := by decide +kernel
theorem dX3_tellsAll_69 : decode cX3_tellsAll 69 = .ok (.laload, 1) := by decide +kernel
theorem dX3_tellsAll_70 : decode cX3_tellsAll 70 = .ok (.l2i, 1) := by decide +kernel
theorem dX3_tellsAll_71 : decode cX3_tellsAll 71 = .ok (.ireturn, 1) := by decide +kernel
theorem dX3_tellsAll_72 : decode cX3_tellsAll 72 = .ok (.aload_n 0, 1) := by decide +kernel
theorem dX3_tellsAll_73 : decode cX3_tellsAll 73 = .ok (.iconst 0, 1) := by decide +kernel
theorem dX3_tellsAll_74 : decode cX3_tellsAll 74 = .ok (.invokevirtual 175, 3) := by decide +kernel
theorem dX3_tellsAll_77 : decode cX3_tellsAll 77 = .ok (.ireturn, 1) := by decide +kernel
theorem dX3_tellsAll_78 : decode cX3_tellsAll 78 = .ok (.aload_n 0, 1) := by decide +kernel
theorem dX3_tellsAll_79 : decode cX3_tellsAll 79 = .ok (.iconst 1, 1) := by decide +kernel
theorem dX3_tellsAll_80 : decode cX3_tellsAll 80 = .ok (.invokevirtual 175, 3) := by decide +kernel
theorem dX3_tellsAll_83 : decode cX3_tellsAll 83 = .ok (.ireturn, 1) := by decide +kernel
theorem dX3_tellsAll_84 : decode cX3_tellsAll 84 = .ok (.aload_n 0, 1) := by decide +kernel
theorem dX3_tellsAll_85 : decode cX3_tellsAll 85 = .ok (.iconst 2, 1) := by decide +kernel
theorem dX3_tellsAll_86 : decode cX3_tellsAll 86 = .ok (.invokevirtual 175, 3) := by decide +kernel
theorem dX3_tellsAll_89 : decode cX3_tellsAll 89 = .ok (.ireturn, 1) := by decide +kernel
theorem dX3_tellsAll_90 : decode cX3_tellsAll 90 = .ok (.aload_n 0, 1) := by decide +kernel
theorem dX3_tellsAll_91 : decode cX3_tellsAll 91 = .ok (.iconst 3, 1) := by decide +kernel
theorem dX3_tellsAll_92 : decode cX3_tellsAll 92 = .ok (.invokevirtual 175, 3) := by decide +kernel
theorem dX3_tellsAll_95 : decode cX3_tellsAll 95 = .ok (.ireturn, 1) := by decide +kernel
theorem dX3_tellsAll_96 : decode cX3_tellsAll 96 = .ok (.aload_n 0, 1) := by decide +kernel
theorem dX3_tellsAll_97 : decode cX3_tellsAll 97 = .ok (.iconst 1, 1) := by decide +kernel
theorem dX3_tellsAll_98 : decode cX3_tellsAll 98 = .ok (.invokevirtual 178, 3) := by decide +kernel
theorem dX3_tellsAll_101 : decode cX3_tellsAll 101 = .ok (.ireturn, 1) := by decide +kernel
theorem dX3_tellsAll_102 : decode cX3_tellsAll 102 = .ok (.aload_n 0, 1) := by decide +kernel
theorem dX3_tellsAll_103 : decode cX3_tellsAll 103 = .ok (.iconst 0, 1) := by decide +kernel
theorem dX3_tellsAll_104 : decode cX3_tellsAll 104 = .ok (.invokevirtual 178, 3) := by decide +kernel
theorem dX3_tellsAll_107 : decode cX3_tellsAll 107 = .ok (.ireturn, 1) := by decide +kernel
theorem dX3_tellsAll_108 : decode cX3_tellsAll 108 = .ok (.aload_n 0, 1) := by decide +kernel
theorem dX3_tellsAll_109 : decode cX3_tellsAll 109 = .ok (.iconst 0, 1) := by decide +kernel
theorem dX3_tellsAll_110 : decode cX3_tellsAll 110 = .ok (.invokevirtual 182, 3) := by decide +kernel
theorem dX3_tellsAll_113 : decode cX3_tellsAll 113 = .ok (.ireturn, 1) := by decide +kernel
theorem dX3_tellsAll_114 : decode cX3_tellsAll 114 = .ok (.aload_n 0, 1) := by decide +kernel
theorem dX3_tellsAll_115 : decode cX3_tellsAll 115 = .ok (.iconst 1, 1) := by decide +kernel
theorem dX3_tellsAll_116 : decode cX3_tellsAll 116 = .ok (.invokevirtual 182, 3) := by decide +kernel
theorem dX3_tellsAll_119 : decode cX3_tellsAll 119 = .ok (.ireturn, 1) := by decide +kernel
theorem dX3_tellsAll_120 : decode cX3_tellsAll 120 = .ok (.aload_n 0, 1) := by decide +kernel
theorem dX3_tellsAll_121 : decode cX3_tellsAll 121 = .ok (.getfield 7, 3) := by decide +kernel
theorem dX3_tellsAll_124 : decode cX3_tellsAll 124 = .ok (.iconst 5, 1) := by decide +kernel
theorem dX3_tellsAll_125 : decode cX3_tellsAll 125 = .ok (.laload, 1) := by decide +kernel
theorem dX3_tellsAll_126 : decode cX3_tellsAll 126 = .ok (.l2i, 1) := by decide +kernel
theorem dX3_tellsAll_127 : decode cX3_tellsAll 127 = .ok (.ireturn, 1) := by decide +kernel
set_option maxRecDepth 20000 in
theorem ggX3_value_X3_isIn : GoodIn wsX3_value wsX3_isIn := goodIn_r _ [6] (by decide +kernel) (by decide +kernel)
set_option maxRecDepth 20000 in
theorem gX3_value_X3_isIn : GoodIn wsX3_value (va_wsS RX3 34 yX3_isIn wsX3_isIn) := goodIn_app (goodIn_of _ (by decide +kernel)) ggX3_value_X3_isIn
set_option maxRecDepth 20000 in
theorem ggX3_value_X3_tellsAll : GoodIn wsX3_value wsX3_tellsAll := goodIn_r _ [10, 11, 12, 13, 14, 5, 15, 16, 17, 18, 19, 20, 21, 22, 23, 24, 25, 26, 27, 28, 29, 30, 31, 32, 33, 34, 35, 36, 37, 38, 39, 40, 41, 42, 43, 44, 45, 46, 47, 48, 49, 50, 51] (by decide +kernel) (by decide +kernel)
set_option maxRecDepth 20000 in
theorem gX3_value_X3_tellsAll : GoodIn wsX3_value (wsV RX3 185 RX3 yX3_tellsAll wsX3_tellsAll) := goodIn_app (goodIn_of _ (by decide +kernel)) ggX3_value_X3_tellsAll
theorem dX3_value_0 : decode cX3_value 0 = .ok (.aload_n 0, 1) := by decide +kernel
theorem dX3_value_1 : decode cX3_value 1 = .ok (.iload_n 1, 1) := by decide +kernel
theorem dX3_value_2 : decode cX3_value 2 = .ok (.i2l, 1) := by decide +kernel
theorem dX3_value_3 : decode cX3_value 3 = .ok (.lconst 0, 1) := by decide +kernel
theorem dX3_value_4 : decode cX3_value 4 = .ok (.ldc2_w 26, 3) := by decide +kernel
theorem dX3_value_7 : decode cX3_value 7 = .ok (.invokestatic 34, 3) := by decide +kernel
theorem dX3_value_10 : decode cX3_value 10 = .ok (.ifCond .eq 7, 3) := by decide +kernel
theorem dX3_value_13 : decode cX3_value 13 = .ok (.iconst 0, 1) := by decide +kernel
theorem dX3_value_14 : decode cX3_value 14 = .ok (.goto 4, 3) := by decide +kernel
theorem dX3_value_17 : decode cX3_value 17 = .ok (.iconst 1, 1) := by decide +kernel
theorem dX3_value_18 : decode cX3_value 18 = .ok (.putfield 30, 3) := by decide +kernel
theorem dX3_value_21 : decode cX3_value 21 = .ok (.aload_n 0, 1) := by decide +kernel
theorem dX3_value_22 : decode cX3_value 22 = .ok (.getfield 30, 3) := by decide +kernel
theorem dX3_value_25 : decode cX3_value 25 = .ok (.ifCond .ne 11, 3) := by decide +kernel
theorem dX3_value_28 : decode cX3_value 28 = .ok (.aload_n 0, 1) := by decide +kernel
theorem dX3_value_29 : decode cX3_value 29 = .ok (.iload_n 1, 1) := by decide +kernel
theorem dX3_value_30 : decode cX3_value 30 = .ok (.invokevirtual 185, 3) := by decide +kernel
theorem dX3_value_33 : decode cX3_value 33 = .ok (.goto 4, 3) := by decide +kernel
theorem dX3_value_36 : decode cX3_value 36 = .ok (.iconst 0, 1) := by decide +kernel
theorem dX3_value_37 : decode cX3_value 37 = .ok (.ireturn, 1) := by decide +kernel
set_option maxRecDepth 20000 in
theorem ggX3_setting_X3_isIn : GoodIn wsX3_setting wsX3_isIn := goodIn_r _ [7] (by decide +kernel) (by decide +kernel)
set_option maxRecDepth 20000 in
theorem gX3_setting_X3_isIn : GoodIn wsX3_setting (va_wsS RX3 34 yX3_isIn wsX3_isIn) := goodIn_app (goodIn_of _ (by decide +kernel)) ggX3_setting_X3_isIn
theorem dX3_setting_0 : decode cX3_setting 0 = .ok (.aload_n 0, 1) := by decide +kernel
theorem dX3_setting_1 : decode cX3_setting 1 = .ok (.iload_n 1, 1) := by decide +kernel
theorem dX3_setting_2 : decode cX3_setting 2 = .ok (.i2l, 1) := by decide +kernel
theorem dX3_setting_3 : decode cX3_setting 3 = .ok (.lconst 0, 1) := by decide +kernel
theorem dX3_setting_4 : decode cX3_setting 4 = .ok (.ldc2_w 87, 3) := by decide +kernel
theorem dX3_setting_7 : decode cX3_setting 7 = .ok (.invokestatic 34, 3) := by decide +kernel
theorem dX3_setting_10 : decode cX3_setting 10 = .ok (.ifCond .eq 7, 3) := by decide +kernel
theorem dX3_setting_13 : decode cX3_setting 13 = .ok (.iconst 0, 1) := by decide +kernel
theorem dX3_setting_14 : decode cX3_setting 14 = .ok (.goto 4, 3) := by decide +kernel
theorem dX3_setting_17 : decode cX3_setting 17 = .ok (.iconst 1, 1) := by decide +kernel
theorem dX3_setting_18 : decode cX3_setting 18 = .ok (.putfield 30, 3) := by decide +kernel
theorem dX3_setting_21 : decode cX3_setting 21 = .ok (.aload_n 0, 1) := by decide +kernel
theorem dX3_setting_22 : decode cX3_setting 22 = .ok (.getfield 30, 3) := by decide +kernel
theorem dX3_setting_25 : decode cX3_setting 25 = .ok (.ifCond .ne 13, 3) := by decide +kernel
theorem dX3_setting_28 : decode cX3_setting 28 = .ok (.aload_n 0, 1) := by decide +kernel
theorem dX3_setting_29 : decode cX3_setting 29 = .ok (.getfield 7, 3) := by decide +kernel
theorem dX3_setting_32 : decode cX3_setting 32 = .ok (.iload_n 1, 1) := by decide +kernel
theorem dX3_setting_33 : decode cX3_setting 33 = .ok (.laload, 1) := by decide +kernel
theorem dX3_setting_34 : decode cX3_setting 34 = .ok (.l2i, 1) := by decide +kernel
theorem dX3_setting_35 : decode cX3_setting 35 = .ok (.goto 4, 3) := by decide +kernel
theorem dX3_setting_38 : decode cX3_setting 38 = .ok (.iconst 0, 1) := by decide +kernel
theorem dX3_setting_39 : decode cX3_setting 39 = .ok (.ireturn, 1) := by decide +kernel
set_option maxRecDepth 20000 in
theorem ggX3_coverer_X3_isAbsence : GoodIn wsX3_coverer wsX3_isAbsence := goodIn_r _ [6, 7, 8, 9, 5, 10, 64, 65, 66, 67, 68, 69, 70, 71, 72, 73, 74, 75, 76, 77, 78] (by decide +kernel) (by decide +kernel)
set_option maxRecDepth 20000 in
theorem gX3_coverer_X3_isAbsence : GoodIn wsX3_coverer (wsV RX3 42 RX3 yX3_isAbsence wsX3_isAbsence) := goodIn_app (goodIn_of _ (by decide +kernel)) ggX3_coverer_X3_isAbsence
set_option maxRecDepth 20000 in
theorem ggX3_coverer_X3_covererOf : GoodIn wsX3_coverer wsX3_covererOf := goodIn_r _ [14, 15, 16, 17, 5, 18, 7, 19, 20, 21, 22, 23, 24, 25, 26, 27, 28, 29, 30, 31, 32, 33, 34, 35, 36, 37, 38, 39, 8, 9, 10, 40, 41, 42, 43, 44, 45, 46, 47, 48, 49, 50, 51, 52, 53, 54, 55, 56, 57, 58, 59, 60, 61, 62, 63, 64, 65, 66, 67, 68, 69, 70, 71, 72, 73, 74, 75, 76, 77, 78] (by decide +kernel) (by decide +kernel)
set_option maxRecDepth 20000 in
theorem gX3_coverer_X3_covererOf : GoodIn wsX3_coverer (wsV RX3 142 RX3 yX3_covererOf wsX3_covererOf) := goodIn_app (goodIn_of _ (by decide +kernel)) ggX3_coverer_X3_covererOf
theorem dX3_coverer_0 : decode cX3_coverer 0 = .ok (.aload_n 0, 1) := by decide +kernel
theorem dX3_coverer_1 : decode cX3_coverer 1 = .ok (.aload_n 0, 1) := by decide +kernel
theorem dX3_coverer_2 : decode cX3_coverer 2 = .ok (.iload_n 1, 1) := by decide +kernel
theorem dX3_coverer_3 : decode cX3_coverer 3 = .ok (.invokevirtual 42, 3) := by decide +kernel
theorem dX3_coverer_6 : decode cX3_coverer 6 = .ok (.ifCond .eq 7, 3) := by decide +kernel
theorem dX3_coverer_9 : decode cX3_coverer 9 = .ok (.iconst 0, 1) := by decide +kernel
theorem dX3_coverer_10 : decode cX3_coverer 10 = .ok (.goto 4, 3) := by decide +kernel
theorem dX3_coverer_13 : decode cX3_coverer 13 = .ok (.iconst 1, 1) := by decide +kernel
theorem dX3_coverer_14 : decode cX3_coverer 14 = .ok (.putfield 30, 3) := by decide +kernel
theorem dX3_coverer_17 : decode cX3_coverer 17 = .ok (.aload_n 0, 1) := by decide +kernel
theorem dX3_coverer_18 : decode cX3_coverer 18 = .ok (.getfield 30, 3) := by decide +kernel
theorem dX3_coverer_21 : decode cX3_coverer 21 = .ok (.ifCond .ne 11, 3) := by decide +kernel
theorem dX3_coverer_24 : decode cX3_coverer 24 = .ok (.aload_n 0, 1) := by decide +kernel
theorem dX3_coverer_25 : decode cX3_coverer 25 = .ok (.iload_n 1, 1) := by decide +kernel
theorem dX3_coverer_26 : decode cX3_coverer 26 = .ok (.invokevirtual 142, 3) := by decide +kernel
theorem dX3_coverer_29 : decode cX3_coverer 29 = .ok (.goto 4, 3) := by decide +kernel
theorem dX3_coverer_32 : decode cX3_coverer 32 = .ok (.iconst 0, 1) := by decide +kernel
theorem dX3_coverer_33 : decode cX3_coverer 33 = .ok (.ireturn, 1) := by decide +kernel
set_option maxRecDepth 20000 in
theorem ggX3_coveredWith_X3_isIn : GoodIn wsX3_coveredWith wsX3_isIn := goodIn_r _ [7] (by decide +kernel) (by decide +kernel)
set_option maxRecDepth 20000 in
theorem gX3_coveredWith_X3_isIn : GoodIn wsX3_coveredWith (va_wsS RX3 34 yX3_isIn wsX3_isIn) := goodIn_app (goodIn_of _ (by decide +kernel)) ggX3_coveredWith_X3_isIn
set_option maxRecDepth 20000 in
theorem ggX3_coveredWith_X3_keeps : GoodIn wsX3_coveredWith wsX3_keeps := goodIn_r _ [11, 12, 3, 86, 87, 88, 89, 90, 91, 92, 93, 94, 95, 96, 97, 98, 99, 100] (by decide +kernel) (by decide +kernel)
set_option maxRecDepth 20000 in
theorem gX3_coveredWith_X3_keeps : GoodIn wsX3_coveredWith (wsV RX3 48 RX3 yX3_keeps wsX3_keeps) := goodIn_app (goodIn_of _ (by decide +kernel)) ggX3_coveredWith_X3_keeps
set_option maxRecDepth 20000 in
theorem ggX3_coveredWith_X3_coversAll : GoodIn wsX3_coveredWith wsX3_coversAll := goodIn_r _ [16, 3, 17, 18, 19, 6, 20, 21, 22, 23, 24, 25, 26, 27, 28, 29, 30, 31, 32, 33, 34, 35, 36, 37, 38, 39, 40, 41, 42, 43, 44, 45, 46, 47, 48, 49, 4, 5, 7, 50, 51, 52, 53, 54, 55, 56, 57, 58, 59, 60, 61, 62, 63, 64, 65, 66, 67, 68, 69, 70, 71, 72, 73, 74, 75, 76, 77, 78, 79, 80, 81, 86, 87, 88, 89, 90, 91, 92, 93, 94, 95, 96, 97, 98, 99, 100] (by decide +kernel) (by decide +kernel)
set_option maxRecDepth 20000 in
theorem gX3_coveredWith_X3_coversAll : GoodIn wsX3_coveredWith (wsV RX3 148 RX3 yX3_coversAll wsX3_coversAll) := goodIn_app (goodIn_of _ (by decide +kernel)) ggX3_coveredWith_X3_coversAll
set_option maxRecDepth 20000 in
theorem ggX3_coveredWith_X3_brings : GoodIn wsX3_coveredWith wsX3_brings := goodIn_r _ [85, 3, 12, 86, 87, 88, 89, 90, 91, 92, 93, 94, 95, 96, 97, 98, 99, 100] (by decide +kernel) (by decide +kernel)
set_option maxRecDepth 20000 in
theorem gX3_coveredWith_X3_brings : GoodIn wsX3_coveredWith (wsV RX3 52 RX3 yX3_brings wsX3_brings) := goodIn_app (goodIn_of _ (by decide +kernel)) ggX3_coveredWith_X3_brings
theorem dX3_coveredWith_0 : decode cX3_coveredWith 0 = .ok (.aload_n 0, 1) := by decide +kernel
theorem dX3_coveredWith_1 : decode cX3_coveredWith 1 = .ok (.iload_n 1, 1) := by decide +kernel
theorem dX3_coveredWith_2 : decode cX3_coveredWith 2 = .ok (.i2l, 1) := by decide +kernel
theorem dX3_coveredWith_3 : decode cX3_coveredWith 3 = .ok (.lconst 0, 1) := by decide +kernel
theorem dX3_coveredWith_4 : decode cX3_coveredWith 4 = .ok (.ldc2_w 89, 3) := by decide +kernel
theorem dX3_coveredWith_7 : decode cX3_coveredWith 7 = .ok (.invokestatic 34, 3) := by decide +kernel
theorem dX3_coveredWith_10 : decode cX3_coveredWith 10 = .ok (.ifCond .eq 7, 3) := by decide +kernel
theorem dX3_coveredWith_13 : decode cX3_coveredWith 13 = .ok (.iconst 0, 1) := by decide +kernel
theorem dX3_coveredWith_14 : decode cX3_coveredWith 14 = .ok (.goto 4, 3) := by decide +kernel
theorem dX3_coveredWith_17 : decode cX3_coveredWith 17 = .ok (.iconst 1, 1) := by decide +kernel
theorem dX3_coveredWith_18 : decode cX3_coveredWith 18 = .ok (.putfield 30, 3) := by decide +kernel
theorem dX3_coveredWith_21 : decode cX3_coveredWith 21 = .ok (.aload_n 0, 1) := by decide +kernel
theorem dX3_coveredWith_22 : decode cX3_coveredWith 22 = .ok (.getfield 30, 3) := by decide +kernel
theorem dX3_coveredWith_25 : decode cX3_coveredWith 25 = .ok (.ifCond .eq 5, 3) := by decide +kernel
theorem dX3_coveredWith_28 : decode cX3_coveredWith 28 = .ok (.iconst 0, 1) := by decide +kernel
theorem dX3_coveredWith_29 : decode cX3_coveredWith 29 = .ok (.ireturn, 1) := by decide +kernel
theorem dX3_coveredWith_30 : decode cX3_coveredWith 30 = .ok (.aload_n 0, 1) := by decide +kernel
theorem dX3_coveredWith_31 : decode cX3_coveredWith 31 = .ok (.iconst 4, 1) := by decide +kernel
theorem dX3_coveredWith_32 : decode cX3_coveredWith 32 = .ok (.invokevirtual 48, 3) := by decide +kernel
theorem dX3_coveredWith_35 : decode cX3_coveredWith 35 = .ok (.aload_n 0, 1) := by decide +kernel
theorem dX3_coveredWith_36 : decode cX3_coveredWith 36 = .ok (.getfield 7, 3) := by decide +kernel
theorem dX3_coveredWith_39 : decode cX3_coveredWith 39 = .ok (.iconst 0, 1) := by decide +kernel
theorem dX3_coveredWith_40 : decode cX3_coveredWith 40 = .ok (.iload_n 1, 1) := by decide +kernel
theorem dX3_coveredWith_41 : decode cX3_coveredWith 41 = .ok (.i2l, 1) := by decide +kernel
theorem dX3_coveredWith_42 : decode cX3_coveredWith 42 = .ok (.lastore, 1) := by decide +kernel
theorem dX3_coveredWith_43 : decode cX3_coveredWith 43 = .ok (.aload_n 0, 1) := by decide +kernel
theorem dX3_coveredWith_44 : decode cX3_coveredWith 44 = .ok (.invokevirtual 148, 3) := by decide +kernel
theorem dX3_coveredWith_47 : decode cX3_coveredWith 47 = .ok (.istore_n 2, 1) := by decide +kernel
theorem dX3_coveredWith_48 : decode cX3_coveredWith 48 = .ok (.aload_n 0, 1) := by decide +kernel
theorem dX3_coveredWith_49 : decode cX3_coveredWith 49 = .ok (.iconst 4, 1) := by decide +kernel
theorem dX3_coveredWith_50 : decode cX3_coveredWith 50 = .ok (.invokevirtual 52, 3) := by decide +kernel
theorem dX3_coveredWith_53 : decode cX3_coveredWith 53 = .ok (.iload_n 2, 1) := by decide +kernel
theorem dX3_coveredWith_54 : decode cX3_coveredWith 54 = .ok (.ireturn, 1) := by decide +kernel
theorem dX3_takes_0 : decode cX3_takes 0 = .ok (.iload_n 0, 1) := by decide +kernel
theorem dX3_takes_1 : decode cX3_takes 1 = .ok (.istore_n 3, 1) := by decide +kernel
theorem dX3_takes_2 : decode cX3_takes 2 = .ok (.iconst 0, 1) := by decide +kernel
theorem dX3_takes_3 : decode cX3_takes 3 = .ok (.istore 4, 2) := by decide +kernel
theorem dX3_takes_5 : decode cX3_takes 5 = .ok (.iload 4, 2) := by decide +kernel
theorem dX3_takes_7 : decode cX3_takes 7 = .ok (.iload_n 1, 1) := by decide +kernel
theorem dX3_takes_8 : decode cX3_takes 8 = .ok (.if_icmp .ge 13, 3) := by decide +kernel
theorem dX3_takes_11 : decode cX3_takes 11 = .ok (.iload_n 3, 1) := by decide +kernel
theorem dX3_takes_12 : decode cX3_takes 12 = .ok (.iload_n 2, 1) := by decide +kernel
theorem dX3_takes_13 : decode cX3_takes 13 = .ok (.idiv, 1) := by decide +kernel
theorem dX3_takes_14 : decode cX3_takes 14 = .ok (.istore_n 3, 1) := by decide +kernel
theorem dX3_takes_15 : decode cX3_takes 15 = .ok (.iinc 4 1, 3) := by decide +kernel
theorem dX3_takes_18 : decode cX3_takes 18 = .ok (.goto (-13), 3) := by decide +kernel
theorem dX3_takes_21 : decode cX3_takes 21 = .ok (.iload_n 3, 1) := by decide +kernel
theorem dX3_takes_22 : decode cX3_takes 22 = .ok (.iload_n 2, 1) := by decide +kernel
theorem dX3_takes_23 : decode cX3_takes 23 = .ok (.irem, 1) := by decide +kernel
theorem dX3_takes_24 : decode cX3_takes 24 = .ok (.iconst 1, 1) := by decide +kernel
theorem dX3_takes_25 : decode cX3_takes 25 = .ok (.isub, 1) := by decide +kernel
theorem dX3_takes_26 : decode cX3_takes 26 = .ok (.ireturn, 1) := by decide +kernel
set_option maxRecDepth 20000 in
theorem ggX3_coveredBy_X3_takes : GoodIn wsX3_coveredBy wsX3_takes := goodIn_r _ [7] (by decide +kernel) (by decide +kernel)
set_option maxRecDepth 20000 in
theorem gX3_coveredBy_X3_takes : GoodIn wsX3_coveredBy (va_wsS RX3 188 yX3_takes wsX3_takes) := goodIn_app (goodIn_of _ (by decide +kernel)) ggX3_coveredBy_X3_takes
set_option maxRecDepth 20000 in
theorem ggX3_coveredBy_X3_ofA : GoodIn wsX3_coveredBy wsX3_ofA := goodIn_r _ [11, 3, 15, 16, 17, 18, 19, 20, 21, 22, 23, 24, 25, 26, 27, 28, 29] (by decide +kernel) (by decide +kernel)
set_option maxRecDepth 20000 in
theorem gX3_coveredBy_X3_ofA : GoodIn wsX3_coveredBy (wsV RX3 59 RX3 yX3_ofA wsX3_ofA) := goodIn_app (goodIn_of _ (by decide +kernel)) ggX3_coveredBy_X3_ofA
set_option maxRecDepth 20000 in
theorem ggX3_coveredBy_X3_isIn : GoodIn wsX3_coveredBy wsX3_isIn := goodIn_r _ [14] (by decide +kernel) (by decide +kernel)
set_option maxRecDepth 20000 in
theorem gX3_coveredBy_X3_isIn : GoodIn wsX3_coveredBy (va_wsS RX3 34 yX3_isIn wsX3_isIn) := goodIn_app (goodIn_of _ (by decide +kernel)) ggX3_coveredBy_X3_isIn
theorem dX3_coveredBy_0 : decode cX3_coveredBy 0 = .ok (.iconst 0, 1) := by decide +kernel
theorem dX3_coveredBy_1 : decode cX3_coveredBy 1 = .ok (.istore 4, 2) := by decide +kernel
theorem dX3_coveredBy_3 : decode cX3_coveredBy 3 = .ok (.iconst 0, 1) := by decide +kernel
theorem dX3_coveredBy_4 : decode cX3_coveredBy 4 = .ok (.istore 5, 2) := by decide +kernel
theorem dX3_coveredBy_6 : decode cX3_coveredBy 6 = .ok (.iload 5, 2) := by decide +kernel
theorem dX3_coveredBy_8 : decode cX3_coveredBy 8 = .ok (.iload_n 2, 1) := by decide +kernel
theorem dX3_coveredBy_9 : decode cX3_coveredBy 9 = .ok (.if_icmp .ge 123, 3) := by decide +kernel
theorem dX3_coveredBy_12 : decode cX3_coveredBy 12 = .ok (.iload_n 1, 1) := by decide +kernel
theorem dX3_coveredBy_13 : decode cX3_coveredBy 13 = .ok (.iload 5, 2) := by decide +kernel
theorem dX3_coveredBy_15 : decode cX3_coveredBy 15 = .ok (.iload_n 3, 1) := by decide +kernel
theorem dX3_coveredBy_16 : decode cX3_coveredBy 16 = .ok (.invokestatic 188, 3) := by decide +kernel
theorem dX3_coveredBy_19 : decode cX3_coveredBy 19 = .ok (.istore 6, 2) := by decide +kernel
theorem dX3_coveredBy_21 : decode cX3_coveredBy 21 = .ok (.iload 6, 2) := by decide +kernel
theorem dX3_coveredBy_23 : decode cX3_coveredBy 23 = .ok (.iconst (-1), 1) := by decide +kernel
theorem dX3_coveredBy_24 : decode cX3_coveredBy 24 = .ok (.if_icmp .eq 102, 3) := by decide +kernel
theorem dX3_coveredBy_27 : decode cX3_coveredBy 27 = .ok (.iinc 4 1, 3) := by decide +kernel
theorem dX3_coveredBy_30 : decode cX3_coveredBy 30 = .ok (.aload_n 0, 1) := by decide +kernel
theorem dX3_coveredBy_31 : decode cX3_coveredBy 31 = .ok (.getfield 23, 3) := by decide +kernel
theorem dX3_coveredBy_34 : decode cX3_coveredBy 34 = .ok (.iload 5, 2) := by decide +kernel
theorem dX3_coveredBy_36 : decode cX3_coveredBy 36 = .ok (.iaload, 1) := by decide +kernel
theorem dX3_coveredBy_37 : decode cX3_coveredBy 37 = .ok (.iload 6, 2) := by decide +kernel
theorem dX3_coveredBy_39 : decode cX3_coveredBy 39 = .ok (.ishr, 1) := by decide +kernel
theorem dX3_coveredBy_40 : decode cX3_coveredBy 40 = .ok (.iconst 1, 1) := by decide +kernel
theorem dX3_coveredBy_41 : decode cX3_coveredBy 41 = .ok (.iand, 1) := by decide +kernel
theorem dX3_coveredBy_42 : decode cX3_coveredBy 42 = .ok (.ifCond .ne 5, 3) := by decide +kernel
theorem dX3_coveredBy_45 : decode cX3_coveredBy 45 = .ok (.iconst (-1), 1) := by decide +kernel
theorem dX3_coveredBy_46 : decode cX3_coveredBy 46 = .ok (.ireturn, 1) := by decide +kernel
theorem dX3_coveredBy_47 : decode cX3_coveredBy 47 = .ok (.iconst 0, 1) := by decide +kernel
theorem dX3_coveredBy_48 : decode cX3_coveredBy 48 = .ok (.istore 7, 2) := by decide +kernel
theorem dX3_coveredBy_50 : decode cX3_coveredBy 50 = .ok (.iload 7, 2) := by decide +kernel
theorem dX3_coveredBy_52 : decode cX3_coveredBy 52 = .ok (.iload 5, 2) := by decide +kernel
theorem dX3_coveredBy_54 : decode cX3_coveredBy 54 = .ok (.if_icmp .ge 72, 3) := by decide +kernel
theorem dX3_coveredBy_57 : decode cX3_coveredBy 57 = .ok (.aload_n 0, 1) := by decide +kernel
theorem dX3_coveredBy_58 : decode cX3_coveredBy 58 = .ok (.aload_n 0, 1) := by decide +kernel
theorem dX3_coveredBy_59 : decode cX3_coveredBy 59 = .ok (.getfield 20, 3) := by decide +kernel
theorem dX3_coveredBy_62 : decode cX3_coveredBy 62 = .ok (.iload 5, 2) := by decide +kernel
theorem dX3_coveredBy_64 : decode cX3_coveredBy 64 = .ok (.iaload, 1) := by decide +kernel
theorem dX3_coveredBy_65 : decode cX3_coveredBy 65 = .ok (.iconst 1, 1) := by decide +kernel
theorem dX3_coveredBy_66 : decode cX3_coveredBy 66 = .ok (.invokevirtual 59, 3) := by decide +kernel
theorem dX3_coveredBy_69 : decode cX3_coveredBy 69 = .ok (.aload_n 0, 1) := by decide +kernel
theorem dX3_coveredBy_70 : decode cX3_coveredBy 70 = .ok (.aload_n 0, 1) := by decide +kernel
theorem dX3_coveredBy_71 : decode cX3_coveredBy 71 = .ok (.getfield 20, 3) := by decide +kernel
theorem dX3_coveredBy_74 : decode cX3_coveredBy 74 = .ok (.iload 7, 2) := by decide +kernel
theorem dX3_coveredBy_76 : decode cX3_coveredBy 76 = .ok (.iaload, 1) := by decide +kernel
theorem dX3_coveredBy_77 : decode cX3_coveredBy 77 = .ok (.iconst 1, 1) := by decide +kernel
theorem dX3_coveredBy_78 : decode cX3_coveredBy 78 = .ok (.invokevirtual 59, 3) := by decide +kernel
theorem dX3_coveredBy_81 : decode cX3_coveredBy 81 = .ok (.isub, 1) := by decide +kernel
theorem dX3_coveredBy_82 : decode cX3_coveredBy 82 = .ok (.istore 8, 2) := by decide +kernel
theorem dX3_coveredBy_84 : decode cX3_coveredBy 84 = .ok (.iload_n 1, 1) := by decide +kernel
theorem dX3_coveredBy_85 : decode cX3_coveredBy 85 = .ok (.iload 7, 2) := by decide +kernel
theorem dX3_coveredBy_87 : decode cX3_coveredBy 87 = .ok (.iload_n 3, 1) := by decide +kernel
theorem dX3_coveredBy_88 : decode cX3_coveredBy 88 = .ok (.invokestatic 188, 3) := by decide +kernel
theorem dX3_coveredBy_91 : decode cX3_coveredBy 91 = .ok (.iload 6, 2) := by decide +kernel
theorem dX3_coveredBy_93 : decode cX3_coveredBy 93 = .ok (.if_icmp .ne 27, 3) := by decide +kernel
theorem dX3_coveredBy_96 : decode cX3_coveredBy 96 = .ok (.iload 8, 2) := by decide +kernel
theorem dX3_coveredBy_98 : decode cX3_coveredBy 98 = .ok (.i2l, 1) := by decide +kernel
theorem dX3_coveredBy_99 : decode cX3_coveredBy 99 = .ok (.aload_n 0, 1) := by decide +kernel
theorem dX3_coveredBy_100 : decode cX3_coveredBy 100 = .ok (.getfield 7, 3) := by decide +kernel
theorem dX3_coveredBy_103 : decode cX3_coveredBy 103 = .ok (.iconst 0, 1) := by decide +kernel
theorem dX3_coveredBy_104 : decode cX3_coveredBy 104 = .ok (.laload, 1) := by decide +kernel
theorem dX3_coveredBy_105 : decode cX3_coveredBy 105 = .ok (.lneg, 1) := by decide +kernel
theorem dX3_coveredBy_106 : decode cX3_coveredBy 106 = .ok (.aload_n 0, 1) := by decide +kernel
theorem dX3_coveredBy_107 : decode cX3_coveredBy 107 = .ok (.getfield 7, 3) := by decide +kernel
theorem dX3_coveredBy_110 : decode cX3_coveredBy 110 = .ok (.iconst 0, 1) := by decide +kernel
theorem dX3_coveredBy_111 : decode cX3_coveredBy 111 = .ok (.laload, 1) := by decide +kernel
theorem dX3_coveredBy_112 : decode cX3_coveredBy 112 = .ok (.invokestatic 34, 3) := by decide +kernel
theorem dX3_coveredBy_115 : decode cX3_coveredBy 115 = .ok (.ifCond .eq 5, 3) := by decide +kernel
theorem dX3_coveredBy_118 : decode cX3_coveredBy 118 = .ok (.iconst (-1), 1) := by decide +kernel
theorem dX3_coveredBy_119 : decode cX3_coveredBy 119 = .ok (.ireturn, 1) := by decide +kernel
theorem dX3_coveredBy_120 : decode cX3_coveredBy 120 = .ok (.iinc 7 1, 3) := by decide +kernel
theorem dX3_coveredBy_123 : decode cX3_coveredBy 123 = .ok (.goto (-73), 3) := by decide +kernel
theorem dX3_coveredBy_126 : decode cX3_coveredBy 126 = .ok (.iinc 5 1, 3) := by decide +kernel
theorem dX3_coveredBy_129 : decode cX3_coveredBy 129 = .ok (.goto (-123), 3) := by decide +kernel
theorem dX3_coveredBy_132 : decode cX3_coveredBy 132 = .ok (.iload 4, 2) := by decide +kernel
theorem dX3_coveredBy_134 : decode cX3_coveredBy 134 = .ok (.ireturn, 1) := by decide +kernel
set_option maxRecDepth 20000 in
theorem ggX3_mostCovered_X3_ofA : GoodIn wsX3_mostCovered wsX3_ofA := goodIn_r _ [9, 2, 57, 58, 59, 60, 61, 62, 63, 64, 65, 66, 67, 68, 69, 70, 71] (by decide +kernel) (by decide +kernel)
set_option maxRecDepth 20000 in
theorem gX3_mostCovered_X3_ofA : GoodIn wsX3_mostCovered (wsV RX3 59 RX3 yX3_ofA wsX3_ofA) := goodIn_app (goodIn_of _ (by decide +kernel)) ggX3_mostCovered_X3_ofA
set_option maxRecDepth 20000 in
theorem ggX3_mostCovered_X3_ableFor : GoodIn wsX3_mostCovered wsX3_ableFor := goodIn_r _ [13, 2, 14, 15, 16, 8, 17, 5, 6, 7, 9, 18, 19, 20, 21, 22, 23, 24, 25, 26, 27, 28, 29, 30, 31, 32, 33, 34, 35, 36, 37, 38, 39, 40, 41, 42, 43, 44, 45, 46, 47, 48, 49, 57, 58, 59, 60, 61, 62, 63, 64, 65, 66, 67, 68, 69, 70, 71] (by decide +kernel) (by decide +kernel)
set_option maxRecDepth 20000 in
theorem gX3_mostCovered_X3_ableFor : GoodIn wsX3_mostCovered (wsV RX3 167 RX3 yX3_ableFor wsX3_ableFor) := goodIn_app (goodIn_of _ (by decide +kernel)) ggX3_mostCovered_X3_ableFor
set_option maxRecDepth 20000 in
theorem ggX3_mostCovered_X3_coveredBy : GoodIn wsX3_mostCovered wsX3_coveredBy := goodIn_r _ [53, 4, 3, 2, 54, 55, 8, 56, 5, 6, 7, 9, 31, 32, 33, 57, 58, 59, 60, 61, 62, 63, 64, 65, 66, 67, 68, 69, 70, 71] (by decide +kernel) (by decide +kernel)
set_option maxRecDepth 20000 in
theorem gX3_mostCovered_X3_coveredBy : GoodIn wsX3_mostCovered (wsV RX3 192 RX3 yX3_coveredBy wsX3_coveredBy) := goodIn_app (goodIn_of _ (by decide +kernel)) ggX3_mostCovered_X3_coveredBy
theorem dX3_mostCovered_0 : decode cX3_mostCovered 0 = .ok (.aload_n 0, 1) := by decide +kernel
theorem dX3_mostCovered_1 : decode cX3_mostCovered 1 = .ok (.iconst 0, 1) := by decide +kernel
theorem dX3_mostCovered_2 : decode cX3_mostCovered 2 = .ok (.putfield 30, 3) := by decide +kernel
theorem dX3_mostCovered_5 : decode cX3_mostCovered 5 = .ok (.iconst 0, 1) := by decide +kernel
theorem dX3_mostCovered_6 : decode cX3_mostCovered 6 = .ok (.istore_n 1, 1) := by decide +kernel
theorem dX3_mostCovered_7 : decode cX3_mostCovered 7 = .ok (.iconst 0, 1) := by decide +kernel
theorem dX3_mostCovered_8 : decode cX3_mostCovered 8 = .ok (.istore_n 2, 1) := by decide +kernel
theorem dX3_mostCovered_9 : decode cX3_mostCovered 9 = .ok (.iload_n 2, 1) := by decide +kernel
theorem dX3_mostCovered_10 : decode cX3_mostCovered 10 = .ok (.i2l, 1) := by decide +kernel
theorem dX3_mostCovered_11 : decode cX3_mostCovered 11 = .ok (.aload_n 0, 1) := by decide +kernel
theorem dX3_mostCovered_12 : decode cX3_mostCovered 12 = .ok (.getfield 7, 3) := by decide +kernel
theorem dX3_mostCovered_15 : decode cX3_mostCovered 15 = .ok (.iconst 4, 1) := by decide +kernel
theorem dX3_mostCovered_16 : decode cX3_mostCovered 16 = .ok (.laload, 1) := by decide +kernel
theorem dX3_mostCovered_17 : decode cX3_mostCovered 17 = .ok (.lcmp, 1) := by decide +kernel
theorem dX3_mostCovered_18 : decode cX3_mostCovered 18 = .ok (.ifCond .ge 39, 3) := by decide +kernel
theorem dX3_mostCovered_21 : decode cX3_mostCovered 21 = .ok (.aload_n 0, 1) := by decide +kernel
theorem dX3_mostCovered_22 : decode cX3_mostCovered 22 = .ok (.iload_n 2, 1) := by decide +kernel
theorem dX3_mostCovered_23 : decode cX3_mostCovered 23 = .ok (.iconst 2, 1) := by decide +kernel
theorem dX3_mostCovered_24 : decode cX3_mostCovered 24 = .ok (.invokevirtual 59, 3) := by decide +kernel
theorem dX3_mostCovered_27 : decode cX3_mostCovered 27 = .ok (.ifCond .ne 24, 3) := by decide +kernel
theorem dX3_mostCovered_30 : decode cX3_mostCovered 30 = .ok (.aload_n 0, 1) := by decide +kernel
theorem dX3_mostCovered_31 : decode cX3_mostCovered 31 = .ok (.getfield 20, 3) := by decide +kernel
theorem dX3_mostCovered_34 : decode cX3_mostCovered 34 = .ok (.iload_n 1, 1) := by decide +kernel
theorem dX3_mostCovered_35 : decode cX3_mostCovered 35 = .ok (.iload_n 2, 1) := by decide +kernel
theorem dX3_mostCovered_36 : decode cX3_mostCovered 36 = .ok (.iastore, 1) := by decide +kernel
theorem dX3_mostCovered_37 : decode cX3_mostCovered 37 = .ok (.aload_n 0, 1) := by decide +kernel
theorem dX3_mostCovered_38 : decode cX3_mostCovered 38 = .ok (.getfield 23, 3) := by decide +kernel
theorem dX3_mostCovered_41 : decode cX3_mostCovered 41 = .ok (.iload_n 1, 1) := by decide +kernel
theorem dX3_mostCovered_42 : decode cX3_mostCovered 42 = .ok (.aload_n 0, 1) := by decide +kernel
theorem dX3_mostCovered_43 : decode cX3_mostCovered 43 = .ok (.iload_n 2, 1) := by decide +kernel
theorem dX3_mostCovered_44 : decode cX3_mostCovered 44 = .ok (.invokevirtual 167, 3) := by decide +kernel
theorem dX3_mostCovered_47 : decode cX3_mostCovered 47 = .ok (.iastore, 1) := by decide +kernel
theorem dX3_mostCovered_48 : decode cX3_mostCovered 48 = .ok (.iinc 1 1, 3) := by decide +kernel
theorem dX3_mostCovered_51 : decode cX3_mostCovered 51 = .ok (.iinc 2 1, 3) := by decide +kernel
theorem dX3_mostCovered_54 : decode cX3_mostCovered 54 = .ok (.goto (-45), 3) := by decide +kernel
theorem dX3_mostCovered_57 : decode cX3_mostCovered 57 = .ok (.iload_n 1, 1) := by decide +kernel
theorem dX3_mostCovered_58 : decode cX3_mostCovered 58 = .ok (.iconst 5, 1) := by decide +kernel
theorem dX3_mostCovered_59 : decode cX3_mostCovered 59 = .ok (.if_icmp .le 5, 3) := by decide +kernel
theorem dX3_mostCovered_62 : decode cX3_mostCovered 62 = .ok (.iconst (-1), 1) := by decide +kernel
theorem dX3_mostCovered_63 : decode cX3_mostCovered 63 = .ok (.ireturn, 1) := by decide +kernel
theorem dX3_mostCovered_64 : decode cX3_mostCovered 64 = .ok (.aload_n 0, 1) := by decide +kernel
theorem dX3_mostCovered_65 : decode cX3_mostCovered 65 = .ok (.getfield 7, 3) := by decide +kernel
theorem dX3_mostCovered_68 : decode cX3_mostCovered 68 = .ok (.iconst 3, 1) := by decide +kernel
theorem dX3_mostCovered_69 : decode cX3_mostCovered 69 = .ok (.laload, 1) := by decide +kernel
theorem dX3_mostCovered_70 : decode cX3_mostCovered 70 = .ok (.l2i, 1) := by decide +kernel
theorem dX3_mostCovered_71 : decode cX3_mostCovered 71 = .ok (.iconst 1, 1) := by decide +kernel
theorem dX3_mostCovered_72 : decode cX3_mostCovered 72 = .ok (.iadd, 1) := by decide +kernel
theorem dX3_mostCovered_73 : decode cX3_mostCovered 73 = .ok (.istore_n 2, 1) := by decide +kernel
theorem dX3_mostCovered_74 : decode cX3_mostCovered 74 = .ok (.iconst 1, 1) := by decide +kernel
theorem dX3_mostCovered_75 : decode cX3_mostCovered 75 = .ok (.istore_n 3, 1) := by decide +kernel
theorem dX3_mostCovered_76 : decode cX3_mostCovered 76 = .ok (.iconst 0, 1) := by decide +kernel
theorem dX3_mostCovered_77 : decode cX3_mostCovered 77 = .ok (.istore 4, 2) := by decide +kernel
theorem dX3_mostCovered_79 : decode cX3_mostCovered 79 = .ok (.iload 4, 2) := by decide +kernel
theorem dX3_mostCovered_81 : decode cX3_mostCovered 81 = .ok (.iload_n 1, 1) := by decide +kernel
theorem dX3_mostCovered_82 : decode cX3_mostCovered 82 = .ok (.if_icmp .ge 13, 3) := by decide +kernel
theorem dX3_mostCovered_85 : decode cX3_mostCovered 85 = .ok (.iload_n 3, 1) := by decide +kernel
theorem dX3_mostCovered_86 : decode cX3_mostCovered 86 = .ok (.iload_n 2, 1) := by decide +kernel
theorem dX3_mostCovered_87 : decode cX3_mostCovered 87 = .ok (.imul, 1) := by decide +kernel
theorem dX3_mostCovered_88 : decode cX3_mostCovered 88 = .ok (.istore_n 3, 1) := by decide +kernel
theorem dX3_mostCovered_89 : decode cX3_mostCovered 89 = .ok (.iinc 4 1, 3) := by decide +kernel
theorem dX3_mostCovered_92 : decode cX3_mostCovered 92 = .ok (.goto (-13), 3) := by decide +kernel
theorem dX3_mostCovered_95 : decode cX3_mostCovered 95 = .ok (.iconst 0, 1) := by decide +kernel
theorem dX3_mostCovered_96 : decode cX3_mostCovered 96 = .ok (.istore 4, 2) := by decide +kernel
theorem dX3_mostCovered_98 : decode cX3_mostCovered 98 = .ok (.iconst 0, 1) := by decide +kernel
theorem dX3_mostCovered_99 : decode cX3_mostCovered 99 = .ok (.istore 5, 2) := by decide +kernel
theorem dX3_mostCovered_101 : decode cX3_mostCovered 101 = .ok (.iload 5, 2) := by decide +kernel
theorem dX3_mostCovered_103 : decode cX3_mostCovered 103 = .ok (.iload_n 3, 1) := by decide +kernel
theorem dX3_mostCovered_104 : decode cX3_mostCovered 104 = .ok (.if_icmp .ge 35, 3) := by decide +kernel
theorem dX3_mostCovered_107 : decode cX3_mostCovered 107 = .ok (.aload_n 0, 1) := by decide +kernel
theorem dX3_mostCovered_108 : decode cX3_mostCovered 108 = .ok (.iload 5, 2) := by decide +kernel
theorem dX3_mostCovered_110 : decode cX3_mostCovered 110 = .ok (.iload_n 1, 1) := by decide +kernel
theorem dX3_mostCovered_111 : decode cX3_mostCovered 111 = .ok (.iload_n 2, 1) := by decide +kernel
theorem dX3_mostCovered_112 : decode cX3_mostCovered 112 = .ok (.invokevirtual 192, 3) := by decide +kernel
theorem dX3_mostCovered_115 : decode cX3_mostCovered 115 = .ok (.istore 6, 2) := by decide +kernel
theorem dX3_mostCovered_117 : decode cX3_mostCovered 117 = .ok (.iload 6, 2) := by decide +kernel
theorem dX3_mostCovered_119 : decode cX3_mostCovered 119 = .ok (.iload 4, 2) := by decide +kernel
theorem dX3_mostCovered_121 : decode cX3_mostCovered 121 = .ok (.if_icmp .le 8, 3) := by decide +kernel
theorem dX3_mostCovered_124 : decode cX3_mostCovered 124 = .ok (.iload 6, 2) := by decide +kernel
theorem dX3_mostCovered_126 : decode cX3_mostCovered 126 = .ok (.goto 5, 3) := by decide +kernel
theorem dX3_mostCovered_129 : decode cX3_mostCovered 129 = .ok (.iload 4, 2) := by decide +kernel
theorem dX3_mostCovered_131 : decode cX3_mostCovered 131 = .ok (.istore 4, 2) := by decide +kernel
theorem dX3_mostCovered_133 : decode cX3_mostCovered 133 = .ok (.iinc 5 1, 3) := by decide +kernel
theorem dX3_mostCovered_136 : decode cX3_mostCovered 136 = .ok (.goto (-35), 3) := by decide +kernel
theorem dX3_mostCovered_139 : decode cX3_mostCovered 139 = .ok (.iload 4, 2) := by decide +kernel
theorem dX3_mostCovered_141 : decode cX3_mostCovered 141 = .ok (.ireturn, 1) := by decide +kernel
set_option maxRecDepth 20000 in
theorem ggX3_freeShifts_X3_isPerson : GoodIn wsX3_freeShifts wsX3_isPerson := goodIn_r _ [6, 7, 8, 9, 5, 10, 44, 45, 46, 47, 48, 49, 50, 51, 52, 53, 54, 55, 56, 57, 58] (by decide +kernel) (by decide +kernel)
set_option maxRecDepth 20000 in
theorem gX3_freeShifts_X3_isPerson : GoodIn wsX3_freeShifts (wsV RX3 38 RX3 yX3_isPerson wsX3_isPerson) := goodIn_app (goodIn_of _ (by decide +kernel)) ggX3_freeShifts_X3_isPerson
set_option maxRecDepth 20000 in
theorem ggX3_freeShifts_X3_whyNot : GoodIn wsX3_freeShifts wsX3_whyNot := goodIn_r _ [14, 7, 15, 16, 17, 5, 18, 19, 20, 21, 22, 23, 24, 25, 26, 27, 8, 9, 10, 28, 29, 30, 31, 32, 33, 34, 35, 36, 37, 38, 39, 40, 41, 42, 43, 44, 45, 46, 47, 48, 49, 50, 51, 52, 53, 54, 55, 56, 57, 58] (by decide +kernel) (by decide +kernel)
set_option maxRecDepth 20000 in
theorem gX3_freeShifts_X3_whyNot : GoodIn wsX3_freeShifts (wsV RX3 81 RX3 yX3_whyNot wsX3_whyNot) := goodIn_app (goodIn_of _ (by decide +kernel)) ggX3_freeShifts_X3_whyNot
theorem dX3_freeShifts_0 : decode cX3_freeShifts 0 = .ok (.aload_n 0, 1) := by decide +kernel
theorem dX3_freeShifts_1 : decode cX3_freeShifts 1 = .ok (.aload_n 0, 1) := by decide +kernel
theorem dX3_freeShifts_2 : decode cX3_freeShifts 2 = .ok (.iload_n 1, 1) := by decide +kernel
theorem dX3_freeShifts_3 : decode cX3_freeShifts 3 = .ok (.invokevirtual 38, 3) := by decide +kernel
theorem dX3_freeShifts_6 : decode cX3_freeShifts 6 = .ok (.ifCond .eq 7, 3) := by decide +kernel
theorem dX3_freeShifts_9 : decode cX3_freeShifts 9 = .ok (.iconst 0, 1) := by decide +kernel
theorem dX3_freeShifts_10 : decode cX3_freeShifts 10 = .ok (.goto 4, 3) := by decide +kernel
theorem dX3_freeShifts_13 : decode cX3_freeShifts 13 = .ok (.iconst 1, 1) := by decide +kernel
theorem dX3_freeShifts_14 : decode cX3_freeShifts 14 = .ok (.putfield 30, 3) := by decide +kernel
theorem dX3_freeShifts_17 : decode cX3_freeShifts 17 = .ok (.aload_n 0, 1) := by decide +kernel
theorem dX3_freeShifts_18 : decode cX3_freeShifts 18 = .ok (.getfield 30, 3) := by decide +kernel
theorem dX3_freeShifts_21 : decode cX3_freeShifts 21 = .ok (.ifCond .eq 5, 3) := by decide +kernel
theorem dX3_freeShifts_24 : decode cX3_freeShifts 24 = .ok (.iconst 0, 1) := by decide +kernel
theorem dX3_freeShifts_25 : decode cX3_freeShifts 25 = .ok (.ireturn, 1) := by decide +kernel
theorem dX3_freeShifts_26 : decode cX3_freeShifts 26 = .ok (.iconst 0, 1) := by decide +kernel
theorem dX3_freeShifts_27 : decode cX3_freeShifts 27 = .ok (.istore_n 2, 1) := by decide +kernel
theorem dX3_freeShifts_28 : decode cX3_freeShifts 28 = .ok (.iconst 0, 1) := by decide +kernel
theorem dX3_freeShifts_29 : decode cX3_freeShifts 29 = .ok (.istore_n 3, 1) := by decide +kernel
theorem dX3_freeShifts_30 : decode cX3_freeShifts 30 = .ok (.iload_n 3, 1) := by decide +kernel
theorem dX3_freeShifts_31 : decode cX3_freeShifts 31 = .ok (.bipush 42, 2) := by decide +kernel
theorem dX3_freeShifts_33 : decode cX3_freeShifts 33 = .ok (.if_icmp .ge 26, 3) := by decide +kernel
theorem dX3_freeShifts_36 : decode cX3_freeShifts 36 = .ok (.iload_n 2, 1) := by decide +kernel
theorem dX3_freeShifts_37 : decode cX3_freeShifts 37 = .ok (.aload_n 0, 1) := by decide +kernel
theorem dX3_freeShifts_38 : decode cX3_freeShifts 38 = .ok (.iload_n 1, 1) := by decide +kernel
theorem dX3_freeShifts_39 : decode cX3_freeShifts 39 = .ok (.iload_n 3, 1) := by decide +kernel
theorem dX3_freeShifts_40 : decode cX3_freeShifts 40 = .ok (.invokevirtual 81, 3) := by decide +kernel
theorem dX3_freeShifts_43 : decode cX3_freeShifts 43 = .ok (.ifCond .ne 7, 3) := by decide +kernel
theorem dX3_freeShifts_46 : decode cX3_freeShifts 46 = .ok (.iconst 1, 1) := by decide +kernel
theorem dX3_freeShifts_47 : decode cX3_freeShifts 47 = .ok (.goto 4, 3) := by decide +kernel
theorem dX3_freeShifts_50 : decode cX3_freeShifts 50 = .ok (.iconst 0, 1) := by decide +kernel
theorem dX3_freeShifts_51 : decode cX3_freeShifts 51 = .ok (.iadd, 1) := by decide +kernel
theorem dX3_freeShifts_52 : decode cX3_freeShifts 52 = .ok (.istore_n 2, 1) := by decide +kernel
theorem dX3_freeShifts_53 : decode cX3_freeShifts 53 = .ok (.iinc 3 1, 3) := by decide +kernel
theorem dX3_freeShifts_56 : decode cX3_freeShifts 56 = .ok (.goto (-26), 3) := by decide +kernel
theorem dX3_freeShifts_59 : decode cX3_freeShifts 59 = .ok (.iload_n 2, 1) := by decide +kernel
theorem dX3_freeShifts_60 : decode cX3_freeShifts 60 = .ok (.ireturn, 1) := by decide +kernel
set_option maxRecDepth 20000 in
theorem ggX3_spread_X3_ofP : GoodIn wsX3_spread wsX3_ofP := goodIn_r _ [7, 2, 8, 9, 10, 11, 12, 13, 14, 15, 16, 17, 18, 19, 20, 21, 22] (by decide +kernel) (by decide +kernel)
set_option maxRecDepth 20000 in
theorem gX3_spread_X3_ofP : GoodIn wsX3_spread (wsV RX3 55 RX3 yX3_ofP wsX3_ofP) := goodIn_app (goodIn_of _ (by decide +kernel)) ggX3_spread_X3_ofP
theorem dX3_spread_0 : decode cX3_spread 0 = .ok (.aload_n 0, 1) := by decide +kernel
theorem dX3_spread_1 : decode cX3_spread 1 = .ok (.iconst 0, 1) := by decide +kernel
theorem dX3_spread_2 : decode cX3_spread 2 = .ok (.putfield 30, 3) := by decide +kernel
theorem dX3_spread_5 : decode cX3_spread 5 = .ok (.lconst 0, 1) := by decide +kernel
theorem dX3_spread_6 : decode cX3_spread 6 = .ok (.lstore_n 1, 1) := by decide +kernel
theorem dX3_spread_7 : decode cX3_spread 7 = .ok (.iconst 0, 1) := by decide +kernel
theorem dX3_spread_8 : decode cX3_spread 8 = .ok (.istore_n 3, 1) := by decide +kernel
theorem dX3_spread_9 : decode cX3_spread 9 = .ok (.iload_n 3, 1) := by decide +kernel
theorem dX3_spread_10 : decode cX3_spread 10 = .ok (.i2l, 1) := by decide +kernel
theorem dX3_spread_11 : decode cX3_spread 11 = .ok (.aload_n 0, 1) := by decide +kernel
theorem dX3_spread_12 : decode cX3_spread 12 = .ok (.getfield 7, 3) := by decide +kernel
theorem dX3_spread_15 : decode cX3_spread 15 = .ok (.iconst 3, 1) := by decide +kernel
theorem dX3_spread_16 : decode cX3_spread 16 = .ok (.laload, 1) := by decide +kernel
theorem dX3_spread_17 : decode cX3_spread 17 = .ok (.lcmp, 1) := by decide +kernel
theorem dX3_spread_18 : decode cX3_spread 18 = .ok (.ifCond .ge 35, 3) := by decide +kernel
theorem dX3_spread_21 : decode cX3_spread 21 = .ok (.aload_n 0, 1) := by decide +kernel
theorem dX3_spread_22 : decode cX3_spread 22 = .ok (.iload_n 3, 1) := by decide +kernel
theorem dX3_spread_23 : decode cX3_spread 23 = .ok (.iconst 1, 1) := by decide +kernel
theorem dX3_spread_24 : decode cX3_spread 24 = .ok (.invokevirtual 55, 3) := by decide +kernel
theorem dX3_spread_27 : decode cX3_spread 27 = .ok (.lstore 4, 2) := by decide +kernel
theorem dX3_spread_29 : decode cX3_spread 29 = .ok (.lload_n 1, 1) := by decide +kernel
theorem dX3_spread_30 : decode cX3_spread 30 = .ok (.lload 4, 2) := by decide +kernel
theorem dX3_spread_32 : decode cX3_spread 32 = .ok (.lconst 0, 1) := by decide +kernel
theorem dX3_spread_33 : decode cX3_spread 33 = .ok (.lcmp, 1) := by decide +kernel
theorem dX3_spread_34 : decode cX3_spread 34 = .ok (.ifCond .ge 9, 3) := by decide +kernel
theorem dX3_spread_37 : decode cX3_spread 37 = .ok (.lload 4, 2) := by decide +kernel
theorem dX3_spread_39 : decode cX3_spread 39 = .ok (.lneg, 1) := by decide +kernel
theorem dX3_spread_40 : decode cX3_spread 40 = .ok (.goto 5, 3) := by decide +kernel
theorem dX3_spread_43 : decode cX3_spread 43 = .ok (.lload 4, 2) := by decide +kernel
theorem dX3_spread_45 : decode cX3_spread 45 = .ok (.ladd, 1) := by decide +kernel
theorem dX3_spread_46 : decode cX3_spread 46 = .ok (.lstore_n 1, 1) := by decide +kernel
theorem dX3_spread_47 : decode cX3_spread 47 = .ok (.iinc 3 1, 3) := by decide +kernel
theorem dX3_spread_50 : decode cX3_spread 50 = .ok (.goto (-41), 3) := by decide +kernel
theorem dX3_spread_53 : decode cX3_spread 53 = .ok (.aload_n 0, 1) := by decide +kernel
theorem dX3_spread_54 : decode cX3_spread 54 = .ok (.getfield 7, 3) := by decide +kernel
theorem dX3_spread_57 : decode cX3_spread 57 = .ok (.iconst 3, 1) := by decide +kernel
theorem dX3_spread_58 : decode cX3_spread 58 = .ok (.laload, 1) := by decide +kernel
theorem dX3_spread_59 : decode cX3_spread 59 = .ok (.lconst 0, 1) := by decide +kernel
theorem dX3_spread_60 : decode cX3_spread 60 = .ok (.lcmp, 1) := by decide +kernel
theorem dX3_spread_61 : decode cX3_spread 61 = .ok (.ifCond .ne 7, 3) := by decide +kernel
theorem dX3_spread_64 : decode cX3_spread 64 = .ok (.dconst 0, 1) := by decide +kernel
theorem dX3_spread_65 : decode cX3_spread 65 = .ok (.goto 13, 3) := by decide +kernel
theorem dX3_spread_68 : decode cX3_spread 68 = .ok (.lload_n 1, 1) := by decide +kernel
theorem dX3_spread_69 : decode cX3_spread 69 = .ok (.l2d, 1) := by decide +kernel
theorem dX3_spread_70 : decode cX3_spread 70 = .ok (.aload_n 0, 1) := by decide +kernel
theorem dX3_spread_71 : decode cX3_spread 71 = .ok (.getfield 7, 3) := by decide +kernel
theorem dX3_spread_74 : decode cX3_spread 74 = .ok (.iconst 3, 1) := by decide +kernel
theorem dX3_spread_75 : decode cX3_spread 75 = .ok (.laload, 1) := by decide +kernel
theorem dX3_spread_76 : decode cX3_spread 76 = .ok (.l2d, 1) := by decide +kernel
theorem dX3_spread_77 : decode cX3_spread 77 = .ok (.ddiv, 1) := by decide +kernel
theorem dX3_spread_78 : decode cX3_spread 78 = .ok (.dreturn, 1) := by decide +kernel
set_option maxRecDepth 20000 in
theorem ggX3_append_X3_isIn : GoodIn wsX3_append wsX3_isIn := goodIn_r _ [8] (by decide +kernel) (by decide +kernel)
set_option maxRecDepth 20000 in
theorem gX3_append_X3_isIn : GoodIn wsX3_append (va_wsS RX3 34 yX3_isIn wsX3_isIn) := goodIn_app (goodIn_of _ (by decide +kernel)) ggX3_append_X3_isIn
theorem dX3_append_0 : decode cX3_append 0 = .ok (.aload_n 0, 1) := by decide +kernel
theorem dX3_append_1 : decode cX3_append 1 = .ok (.iload_n 1, 1) := by decide +kernel
theorem dX3_append_2 : decode cX3_append 2 = .ok (.i2l, 1) := by decide +kernel
theorem dX3_append_3 : decode cX3_append 3 = .ok (.lconst 0, 1) := by decide +kernel
theorem dX3_append_4 : decode cX3_append 4 = .ok (.ldc2_w 195, 3) := by decide +kernel
theorem dX3_append_7 : decode cX3_append 7 = .ok (.invokestatic 34, 3) := by decide +kernel
theorem dX3_append_10 : decode cX3_append 10 = .ok (.ifCond .ne 7, 3) := by decide +kernel
theorem dX3_append_13 : decode cX3_append 13 = .ok (.iconst 1, 1) := by decide +kernel
theorem dX3_append_14 : decode cX3_append 14 = .ok (.goto 17, 3) := by decide +kernel
theorem dX3_append_17 : decode cX3_append 17 = .ok (.aload_n 0, 1) := by decide +kernel
theorem dX3_append_18 : decode cX3_append 18 = .ok (.getfield 197, 3) := by decide +kernel
theorem dX3_append_21 : decode cX3_append 21 = .ok (.bipush 100, 2) := by decide +kernel
theorem dX3_append_23 : decode cX3_append 23 = .ok (.if_icmp .ge 7, 3) := by decide +kernel
theorem dX3_append_26 : decode cX3_append 26 = .ok (.iconst 0, 1) := by decide +kernel
theorem dX3_append_27 : decode cX3_append 27 = .ok (.goto 4, 3) := by decide +kernel
theorem dX3_append_30 : decode cX3_append 30 = .ok (.iconst 2, 1) := by decide +kernel
theorem dX3_append_31 : decode cX3_append 31 = .ok (.putfield 30, 3) := by decide +kernel
theorem dX3_append_34 : decode cX3_append 34 = .ok (.aload_n 0, 1) := by decide +kernel
theorem dX3_append_35 : decode cX3_append 35 = .ok (.getfield 30, 3) := by decide +kernel
theorem dX3_append_38 : decode cX3_append 38 = .ok (.ifCond .eq 5, 3) := by decide +kernel
theorem dX3_append_41 : decode cX3_append 41 = .ok (.iconst 0, 1) := by decide +kernel
theorem dX3_append_42 : decode cX3_append 42 = .ok (.ireturn, 1) := by decide +kernel
theorem dX3_append_43 : decode cX3_append 43 = .ok (.aload_n 0, 1) := by decide +kernel
theorem dX3_append_44 : decode cX3_append 44 = .ok (.getfield 16, 3) := by decide +kernel
theorem dX3_append_47 : decode cX3_append 47 = .ok (.aload_n 0, 1) := by decide +kernel
theorem dX3_append_48 : decode cX3_append 48 = .ok (.getfield 197, 3) := by decide +kernel
theorem dX3_append_51 : decode cX3_append 51 = .ok (.iload_n 1, 1) := by decide +kernel
theorem dX3_append_52 : decode cX3_append 52 = .ok (.iastore, 1) := by decide +kernel
theorem dX3_append_53 : decode cX3_append 53 = .ok (.aload_n 0, 1) := by decide +kernel
theorem dX3_append_54 : decode cX3_append 54 = .ok (.dup, 1) := by decide +kernel
theorem dX3_append_55 : decode cX3_append 55 = .ok (.getfield 197, 3) := by decide +kernel
theorem dX3_append_58 : decode cX3_append 58 = .ok (.iconst 1, 1) := by decide +kernel
theorem dX3_append_59 : decode cX3_append 59 = .ok (.iadd, 1) := by decide +kernel
theorem dX3_append_60 : decode cX3_append 60 = .ok (.putfield 197, 3) := by decide +kernel
theorem dX3_append_63 : decode cX3_append 63 = .ok (.aload_n 0, 1) := by decide +kernel
theorem dX3_append_64 : decode cX3_append 64 = .ok (.getfield 197, 3) := by decide +kernel
theorem dX3_append_67 : decode cX3_append 67 = .ok (.ireturn, 1) := by decide +kernel
theorem dX3_clearText_0 : decode cX3_clearText 0 = .ok (.aload_n 0, 1) := by decide +kernel
theorem dX3_clearText_1 : decode cX3_clearText 1 = .ok (.iconst 0, 1) := by decide +kernel
theorem dX3_clearText_2 : decode cX3_clearText 2 = .ok (.putfield 30, 3) := by decide +kernel
theorem dX3_clearText_5 : decode cX3_clearText 5 = .ok (.aload_n 0, 1) := by decide +kernel
theorem dX3_clearText_6 : decode cX3_clearText 6 = .ok (.getfield 197, 3) := by decide +kernel
theorem dX3_clearText_9 : decode cX3_clearText 9 = .ok (.istore_n 1, 1) := by decide +kernel
theorem dX3_clearText_10 : decode cX3_clearText 10 = .ok (.aload_n 0, 1) := by decide +kernel
theorem dX3_clearText_11 : decode cX3_clearText 11 = .ok (.iconst 0, 1) := by decide +kernel
theorem dX3_clearText_12 : decode cX3_clearText 12 = .ok (.putfield 197, 3) := by decide +kernel
theorem dX3_clearText_15 : decode cX3_clearText 15 = .ok (.iload_n 1, 1) := by decide +kernel
theorem dX3_clearText_16 : decode cX3_clearText 16 = .ok (.ireturn, 1) := by decide +kernel
set_option maxRecDepth 20000 in
theorem ggX3_isHere_X3_isIn : GoodIn wsX3_isHere wsX3_isIn := goodIn_r _ [7] (by decide +kernel) (by decide +kernel)
set_option maxRecDepth 20000 in
theorem gX3_isHere_X3_isIn : GoodIn wsX3_isHere (va_wsS RX3 34 yX3_isIn wsX3_isIn) := goodIn_app (goodIn_of _ (by decide +kernel)) ggX3_isHere_X3_isIn
theorem dX3_isHere_0 : decode cX3_isHere 0 = .ok (.aload_n 0, 1) := by decide +kernel
theorem dX3_isHere_1 : decode cX3_isHere 1 = .ok (.getfield 200, 3) := by decide +kernel
theorem dX3_isHere_4 : decode cX3_isHere 4 = .ok (.aload_n 0, 1) := by decide +kernel
theorem dX3_isHere_5 : decode cX3_isHere 5 = .ok (.getfield 197, 3) := by decide +kernel
theorem dX3_isHere_8 : decode cX3_isHere 8 = .ok (.if_icmp .ge 27, 3) := by decide +kernel
theorem dX3_isHere_11 : decode cX3_isHere 11 = .ok (.aload_n 0, 1) := by decide +kernel
theorem dX3_isHere_12 : decode cX3_isHere 12 = .ok (.getfield 16, 3) := by decide +kernel
theorem dX3_isHere_15 : decode cX3_isHere 15 = .ok (.aload_n 0, 1) := by decide +kernel
theorem dX3_isHere_16 : decode cX3_isHere 16 = .ok (.getfield 200, 3) := by decide +kernel
theorem dX3_isHere_19 : decode cX3_isHere 19 = .ok (.iaload, 1) := by decide +kernel
theorem dX3_isHere_20 : decode cX3_isHere 20 = .ok (.i2l, 1) := by decide +kernel
theorem dX3_isHere_21 : decode cX3_isHere 21 = .ok (.iload_n 1, 1) := by decide +kernel
theorem dX3_isHere_22 : decode cX3_isHere 22 = .ok (.i2l, 1) := by decide +kernel
theorem dX3_isHere_23 : decode cX3_isHere 23 = .ok (.iload_n 2, 1) := by decide +kernel
theorem dX3_isHere_24 : decode cX3_isHere 24 = .ok (.i2l, 1) := by decide +kernel
theorem dX3_isHere_25 : decode cX3_isHere 25 = .ok (.invokestatic 34, 3) := by decide +kernel
theorem dX3_isHere_28 : decode cX3_isHere 28 = .ok (.ifCond .eq 7, 3) := by decide +kernel
theorem dX3_isHere_31 : decode cX3_isHere 31 = .ok (.iconst 1, 1) := by decide +kernel
theorem dX3_isHere_32 : decode cX3_isHere 32 = .ok (.goto 4, 3) := by decide +kernel
theorem dX3_isHere_35 : decode cX3_isHere 35 = .ok (.iconst 0, 1) := by decide +kernel
theorem dX3_isHere_36 : decode cX3_isHere 36 = .ok (.ireturn, 1) := by decide +kernel
set_option maxRecDepth 20000 in
theorem ggX3_passes_X3_isHere : GoodIn wsX3_passes wsX3_isHere := goodIn_r _ [8, 2, 9, 1, 10, 11, 7, 12, 13, 14, 15, 16, 17, 18, 19, 20, 21, 22, 23, 24, 25, 26, 27] (by decide +kernel) (by decide +kernel)
set_option maxRecDepth 20000 in
theorem gX3_passes_X3_isHere : GoodIn wsX3_passes (wsV RX3 203 RX3 yX3_isHere wsX3_isHere) := goodIn_app (goodIn_of _ (by decide +kernel)) ggX3_passes_X3_isHere
theorem dX3_passes_0 : decode cX3_passes 0 = .ok (.aload_n 0, 1) := by decide +kernel
theorem dX3_passes_1 : decode cX3_passes 1 = .ok (.iload_n 1, 1) := by decide +kernel
theorem dX3_passes_2 : decode cX3_passes 2 = .ok (.iload_n 2, 1) := by decide +kernel
theorem dX3_passes_3 : decode cX3_passes 3 = .ok (.invokevirtual 203, 3) := by decide +kernel
theorem dX3_passes_6 : decode cX3_passes 6 = .ok (.ifCond .ne 5, 3) := by decide +kernel
theorem dX3_passes_9 : decode cX3_passes 9 = .ok (.iconst 0, 1) := by decide +kernel
theorem dX3_passes_10 : decode cX3_passes 10 = .ok (.ireturn, 1) := by decide +kernel
theorem dX3_passes_11 : decode cX3_passes 11 = .ok (.aload_n 0, 1) := by decide +kernel
theorem dX3_passes_12 : decode cX3_passes 12 = .ok (.aload_n 0, 1) := by decide +kernel
theorem dX3_passes_13 : decode cX3_passes 13 = .ok (.getfield 16, 3) := by decide +kernel
theorem dX3_passes_16 : decode cX3_passes 16 = .ok (.aload_n 0, 1) := by decide +kernel
theorem dX3_passes_17 : decode cX3_passes 17 = .ok (.getfield 200, 3) := by decide +kernel
theorem dX3_passes_20 : decode cX3_passes 20 = .ok (.iaload, 1) := by decide +kernel
theorem dX3_passes_21 : decode cX3_passes 21 = .ok (.bipush 48, 2) := by decide +kernel
theorem dX3_passes_23 : decode cX3_passes 23 = .ok (.isub, 1) := by decide +kernel
theorem dX3_passes_24 : decode cX3_passes 24 = .ok (.putfield 206, 3) := by decide +kernel
theorem dX3_passes_27 : decode cX3_passes 27 = .ok (.aload_n 0, 1) := by decide +kernel
theorem dX3_passes_28 : decode cX3_passes 28 = .ok (.dup, 1) := by decide +kernel
theorem dX3_passes_29 : decode cX3_passes 29 = .ok (.getfield 200, 3) := by decide +kernel
theorem dX3_passes_32 : decode cX3_passes 32 = .ok (.iconst 1, 1) := by decide +kernel
theorem dX3_passes_33 : decode cX3_passes 33 = .ok (.iadd, 1) := by decide +kernel
theorem dX3_passes_34 : decode cX3_passes 34 = .ok (.putfield 200, 3) := by decide +kernel
theorem dX3_passes_37 : decode cX3_passes 37 = .ok (.iconst 1, 1) := by decide +kernel
theorem dX3_passes_38 : decode cX3_passes 38 = .ok (.ireturn, 1) := by decide +kernel
set_option maxRecDepth 20000 in
theorem ggX3_passesNumber_X3_passes : GoodIn wsX3_passesNumber wsX3_passes := goodIn_r _ [8, 9, 1, 3, 10, 11, 12, 7, 13, 14, 15, 16, 17, 18, 19, 20, 21, 22, 23, 24, 25, 26, 27, 28, 29, 30, 31, 32] (by decide +kernel) (by decide +kernel)
set_option maxRecDepth 20000 in
theorem gX3_passesNumber_X3_passes : GoodIn wsX3_passesNumber (wsV RX3 212 RX3 yX3_passes wsX3_passes) := goodIn_app (goodIn_of _ (by decide +kernel)) ggX3_passesNumber_X3_passes
set_option maxRecDepth 20000 in
theorem ggX3_passesNumber_X3_isHere : GoodIn wsX3_passesNumber wsX3_isHere := goodIn_r _ [13, 1, 14, 9, 15, 16, 7, 17, 18, 19, 20, 21, 22, 23, 24, 25, 26, 27, 28, 29, 30, 31, 32] (by decide +kernel) (by decide +kernel)
set_option maxRecDepth 20000 in
theorem gX3_passesNumber_X3_isHere : GoodIn wsX3_passesNumber (wsV RX3 203 RX3 yX3_isHere wsX3_isHere) := goodIn_app (goodIn_of _ (by decide +kernel)) ggX3_passesNumber_X3_isHere
theorem dX3_passesNumber_0 : decode cX3_passesNumber 0 = .ok (.aload_n 0, 1) := by decide +kernel
theorem dX3_passesNumber_1 : decode cX3_passesNumber 1 = .ok (.aload_n 0, 1) := by decide +kernel
theorem dX3_passesNumber_2 : decode cX3_passesNumber 2 = .ok (.getfield 200, 3) := by decide +kernel
theorem dX3_passesNumber_5 : decode cX3_passesNumber 5 = .ok (.putfield 209, 3) := by decide +kernel
theorem dX3_passesNumber_8 : decode cX3_passesNumber 8 = .ok (.aload_n 0, 1) := by decide +kernel
theorem dX3_passesNumber_9 : decode cX3_passesNumber 9 = .ok (.bipush 48, 2) := by decide +kernel
theorem dX3_passesNumber_11 : decode cX3_passesNumber 11 = .ok (.bipush 57, 2) := by decide +kernel
theorem dX3_passesNumber_13 : decode cX3_passesNumber 13 = .ok (.invokevirtual 212, 3) := by decide +kernel
theorem dX3_passesNumber_16 : decode cX3_passesNumber 16 = .ok (.ifCond .ne 5, 3) := by decide +kernel
theorem dX3_passesNumber_19 : decode cX3_passesNumber 19 = .ok (.iconst 0, 1) := by decide +kernel
theorem dX3_passesNumber_20 : decode cX3_passesNumber 20 = .ok (.ireturn, 1) := by decide +kernel
theorem dX3_passesNumber_21 : decode cX3_passesNumber 21 = .ok (.aload_n 0, 1) := by decide +kernel
theorem dX3_passesNumber_22 : decode cX3_passesNumber 22 = .ok (.getfield 206, 3) := by decide +kernel
theorem dX3_passesNumber_25 : decode cX3_passesNumber 25 = .ok (.istore_n 2, 1) := by decide +kernel
theorem dX3_passesNumber_26 : decode cX3_passesNumber 26 = .ok (.aload_n 0, 1) := by decide +kernel
theorem dX3_passesNumber_27 : decode cX3_passesNumber 27 = .ok (.bipush 48, 2) := by decide +kernel
theorem dX3_passesNumber_29 : decode cX3_passesNumber 29 = .ok (.bipush 57, 2) := by decide +kernel
theorem dX3_passesNumber_31 : decode cX3_passesNumber 31 = .ok (.invokevirtual 212, 3) := by decide +kernel
theorem dX3_passesNumber_34 : decode cX3_passesNumber 34 = .ok (.ifCond .eq 13, 3) := by decide +kernel
theorem dX3_passesNumber_37 : decode cX3_passesNumber 37 = .ok (.bipush 10, 2) := by decide +kernel
theorem dX3_passesNumber_39 : decode cX3_passesNumber 39 = .ok (.iload_n 2, 1) := by decide +kernel
theorem dX3_passesNumber_40 : decode cX3_passesNumber 40 = .ok (.imul, 1) := by decide +kernel
theorem dX3_passesNumber_41 : decode cX3_passesNumber 41 = .ok (.aload_n 0, 1) := by decide +kernel
theorem dX3_passesNumber_42 : decode cX3_passesNumber 42 = .ok (.getfield 206, 3) := by decide +kernel
theorem dX3_passesNumber_45 : decode cX3_passesNumber 45 = .ok (.iadd, 1) := by decide +kernel
theorem dX3_passesNumber_46 : decode cX3_passesNumber 46 = .ok (.istore_n 2, 1) := by decide +kernel
theorem dX3_passesNumber_47 : decode cX3_passesNumber 47 = .ok (.aload_n 0, 1) := by decide +kernel
theorem dX3_passesNumber_48 : decode cX3_passesNumber 48 = .ok (.bipush 48, 2) := by decide +kernel
theorem dX3_passesNumber_50 : decode cX3_passesNumber 50 = .ok (.bipush 57, 2) := by decide +kernel
theorem dX3_passesNumber_52 : decode cX3_passesNumber 52 = .ok (.invokevirtual 203, 3) := by decide +kernel
theorem dX3_passesNumber_55 : decode cX3_passesNumber 55 = .ok (.ifCond .eq 5, 3) := by decide +kernel
theorem dX3_passesNumber_58 : decode cX3_passesNumber 58 = .ok (.iconst 0, 1) := by decide +kernel
theorem dX3_passesNumber_59 : decode cX3_passesNumber 59 = .ok (.ireturn, 1) := by decide +kernel
theorem dX3_passesNumber_60 : decode cX3_passesNumber 60 = .ok (.iload_n 2, 1) := by decide +kernel
theorem dX3_passesNumber_61 : decode cX3_passesNumber 61 = .ok (.iload_n 1, 1) := by decide +kernel
theorem dX3_passesNumber_62 : decode cX3_passesNumber 62 = .ok (.if_icmp .le 13, 3) := by decide +kernel
theorem dX3_passesNumber_65 : decode cX3_passesNumber 65 = .ok (.aload_n 0, 1) := by decide +kernel
theorem dX3_passesNumber_66 : decode cX3_passesNumber 66 = .ok (.aload_n 0, 1) := by decide +kernel
theorem dX3_passesNumber_67 : decode cX3_passesNumber 67 = .ok (.getfield 209, 3) := by decide +kernel
theorem dX3_passesNumber_70 : decode cX3_passesNumber 70 = .ok (.putfield 200, 3) := by decide +kernel
theorem dX3_passesNumber_73 : decode cX3_passesNumber 73 = .ok (.iconst 0, 1) := by decide +kernel
theorem dX3_passesNumber_74 : decode cX3_passesNumber 74 = .ok (.ireturn, 1) := by decide +kernel
theorem dX3_passesNumber_75 : decode cX3_passesNumber 75 = .ok (.aload_n 0, 1) := by decide +kernel
theorem dX3_passesNumber_76 : decode cX3_passesNumber 76 = .ok (.iload_n 2, 1) := by decide +kernel
theorem dX3_passesNumber_77 : decode cX3_passesNumber 77 = .ok (.putfield 206, 3) := by decide +kernel
theorem dX3_passesNumber_80 : decode cX3_passesNumber 80 = .ok (.iconst 1, 1) := by decide +kernel
theorem dX3_passesNumber_81 : decode cX3_passesNumber 81 = .ok (.ireturn, 1) := by decide +kernel
set_option maxRecDepth 20000 in
theorem ggX3_passesAbsence_X3_passes : GoodIn wsX3_passesAbsence wsX3_passes := goodIn_r _ [8, 9, 10, 1, 11, 12, 13, 7, 14, 15, 16, 17, 18, 24, 25, 26, 27, 28, 29, 30, 31, 32, 33, 34, 35, 36, 37, 38] (by decide +kernel) (by decide +kernel)
set_option maxRecDepth 20000 in
theorem gX3_passesAbsence_X3_passes : GoodIn wsX3_passesAbsence (wsV RX3 212 RX3 yX3_passes wsX3_passes) := goodIn_app (goodIn_of _ (by decide +kernel)) ggX3_passesAbsence_X3_passes
set_option maxRecDepth 20000 in
theorem ggX3_passesAbsence_X3_passesNumber : GoodIn wsX3_passesAbsence wsX3_passesNumber := goodIn_r _ [22, 10, 23, 1, 4, 5, 6, 7, 8, 9, 11, 12, 13, 14, 15, 16, 17, 18, 24, 25, 26, 27, 28, 29, 30, 31, 32, 33, 34, 35, 36, 37, 38] (by decide +kernel) (by decide +kernel)
set_option maxRecDepth 20000 in
theorem gX3_passesAbsence_X3_passesNumber : GoodIn wsX3_passesAbsence (wsV RX3 218 RX3 yX3_passesNumber wsX3_passesNumber) := goodIn_app (goodIn_of _ (by decide +kernel)) ggX3_passesAbsence_X3_passesNumber
theorem dX3_passesAbsence_0 : decode cX3_passesAbsence 0 = .ok (.aload_n 0, 1) := by decide +kernel
theorem dX3_passesAbsence_1 : decode cX3_passesAbsence 1 = .ok (.bipush 48, 2) := by decide +kernel
theorem dX3_passesAbsence_3 : decode cX3_passesAbsence 3 = .ok (.bipush 55, 2) := by decide +kernel
theorem dX3_passesAbsence_5 : decode cX3_passesAbsence 5 = .ok (.invokevirtual 212, 3) := by decide +kernel
theorem dX3_passesAbsence_8 : decode cX3_passesAbsence 8 = .ok (.ifCond .ne 5, 3) := by decide +kernel
theorem dX3_passesAbsence_11 : decode cX3_passesAbsence 11 = .ok (.iconst 0, 1) := by decide +kernel
theorem dX3_passesAbsence_12 : decode cX3_passesAbsence 12 = .ok (.ireturn, 1) := by decide +kernel
theorem dX3_passesAbsence_13 : decode cX3_passesAbsence 13 = .ok (.aload_n 0, 1) := by decide +kernel
theorem dX3_passesAbsence_14 : decode cX3_passesAbsence 14 = .ok (.aload_n 0, 1) := by decide +kernel
theorem dX3_passesAbsence_15 : decode cX3_passesAbsence 15 = .ok (.getfield 206, 3) := by decide +kernel
theorem dX3_passesAbsence_18 : decode cX3_passesAbsence 18 = .ok (.putfield 215, 3) := by decide +kernel
theorem dX3_passesAbsence_21 : decode cX3_passesAbsence 21 = .ok (.aload_n 0, 1) := by decide +kernel
theorem dX3_passesAbsence_22 : decode cX3_passesAbsence 22 = .ok (.bipush 44, 2) := by decide +kernel
theorem dX3_passesAbsence_24 : decode cX3_passesAbsence 24 = .ok (.bipush 44, 2) := by decide +kernel
theorem dX3_passesAbsence_26 : decode cX3_passesAbsence 26 = .ok (.invokevirtual 212, 3) := by decide +kernel
theorem dX3_passesAbsence_29 : decode cX3_passesAbsence 29 = .ok (.ifCond .eq 12, 3) := by decide +kernel
theorem dX3_passesAbsence_32 : decode cX3_passesAbsence 32 = .ok (.aload_n 0, 1) := by decide +kernel
theorem dX3_passesAbsence_33 : decode cX3_passesAbsence 33 = .ok (.bipush 41, 2) := by decide +kernel
theorem dX3_passesAbsence_35 : decode cX3_passesAbsence 35 = .ok (.invokevirtual 218, 3) := by decide +kernel
theorem dX3_passesAbsence_38 : decode cX3_passesAbsence 38 = .ok (.ifCond .ne 5, 3) := by decide +kernel
theorem dX3_passesAbsence_41 : decode cX3_passesAbsence 41 = .ok (.iconst 0, 1) := by decide +kernel
theorem dX3_passesAbsence_42 : decode cX3_passesAbsence 42 = .ok (.ireturn, 1) := by decide +kernel
theorem dX3_passesAbsence_43 : decode cX3_passesAbsence 43 = .ok (.aload_n 0, 1) := by decide +kernel
theorem dX3_passesAbsence_44 : decode cX3_passesAbsence 44 = .ok (.aload_n 0, 1) := by decide +kernel
theorem dX3_passesAbsence_45 : decode cX3_passesAbsence 45 = .ok (.getfield 206, 3) := by decide +kernel
theorem dX3_passesAbsence_48 : decode cX3_passesAbsence 48 = .ok (.putfield 221, 3) := by decide +kernel
theorem dX3_passesAbsence_51 : decode cX3_passesAbsence 51 = .ok (.iconst 1, 1) := by decide +kernel
theorem dX3_passesAbsence_52 : decode cX3_passesAbsence 52 = .ok (.ireturn, 1) := by decide +kernel
set_option maxRecDepth 20000 in
theorem ggX3_passesBid_X3_passes : GoodIn wsX3_passesBid wsX3_passes := goodIn_r _ [9, 10, 11, 1, 12, 13, 14, 8, 15, 16, 17, 18, 19, 25, 26, 27, 28, 29, 30, 31, 32, 33, 34, 35, 36, 37, 38, 39] (by decide +kernel) (by decide +kernel)
set_option maxRecDepth 20000 in
theorem gX3_passesBid_X3_passes : GoodIn wsX3_passesBid (wsV RX3 212 RX3 yX3_passes wsX3_passes) := goodIn_app (goodIn_of _ (by decide +kernel)) ggX3_passesBid_X3_passes
set_option maxRecDepth 20000 in
theorem ggX3_passesBid_X3_passesNumber : GoodIn wsX3_passesBid wsX3_passesNumber := goodIn_r _ [23, 11, 24, 1, 5, 6, 7, 8, 9, 10, 12, 13, 14, 15, 16, 17, 18, 19, 25, 26, 27, 28, 29, 30, 31, 32, 33, 34, 35, 36, 37, 38, 39] (by decide +kernel) (by decide +kernel)
set_option maxRecDepth 20000 in
theorem gX3_passesBid_X3_passesNumber : GoodIn wsX3_passesBid (wsV RX3 218 RX3 yX3_passesNumber wsX3_passesNumber) := goodIn_app (goodIn_of _ (by decide +kernel)) ggX3_passesBid_X3_passesNumber
theorem dX3_passesBid_0 : decode cX3_passesBid 0 = .ok (.aload_n 0, 1) := by decide +kernel
theorem dX3_passesBid_1 : decode cX3_passesBid 1 = .ok (.bipush 48, 2) := by decide +kernel
theorem dX3_passesBid_3 : decode cX3_passesBid 3 = .ok (.bipush 55, 2) := by decide +kernel
theorem dX3_passesBid_5 : decode cX3_passesBid 5 = .ok (.invokevirtual 212, 3) := by decide +kernel
theorem dX3_passesBid_8 : decode cX3_passesBid 8 = .ok (.ifCond .ne 5, 3) := by decide +kernel
theorem dX3_passesBid_11 : decode cX3_passesBid 11 = .ok (.iconst 0, 1) := by decide +kernel
theorem dX3_passesBid_12 : decode cX3_passesBid 12 = .ok (.ireturn, 1) := by decide +kernel
theorem dX3_passesBid_13 : decode cX3_passesBid 13 = .ok (.aload_n 0, 1) := by decide +kernel
theorem dX3_passesBid_14 : decode cX3_passesBid 14 = .ok (.aload_n 0, 1) := by decide +kernel
theorem dX3_passesBid_15 : decode cX3_passesBid 15 = .ok (.getfield 206, 3) := by decide +kernel
theorem dX3_passesBid_18 : decode cX3_passesBid 18 = .ok (.putfield 215, 3) := by decide +kernel
theorem dX3_passesBid_21 : decode cX3_passesBid 21 = .ok (.aload_n 0, 1) := by decide +kernel
theorem dX3_passesBid_22 : decode cX3_passesBid 22 = .ok (.bipush 44, 2) := by decide +kernel
theorem dX3_passesBid_24 : decode cX3_passesBid 24 = .ok (.bipush 44, 2) := by decide +kernel
theorem dX3_passesBid_26 : decode cX3_passesBid 26 = .ok (.invokevirtual 212, 3) := by decide +kernel
theorem dX3_passesBid_29 : decode cX3_passesBid 29 = .ok (.ifCond .eq 12, 3) := by decide +kernel
theorem dX3_passesBid_32 : decode cX3_passesBid 32 = .ok (.aload_n 0, 1) := by decide +kernel
theorem dX3_passesBid_33 : decode cX3_passesBid 33 = .ok (.bipush 29, 2) := by decide +kernel
theorem dX3_passesBid_35 : decode cX3_passesBid 35 = .ok (.invokevirtual 218, 3) := by decide +kernel
theorem dX3_passesBid_38 : decode cX3_passesBid 38 = .ok (.ifCond .ne 5, 3) := by decide +kernel
theorem dX3_passesBid_41 : decode cX3_passesBid 41 = .ok (.iconst 0, 1) := by decide +kernel
theorem dX3_passesBid_42 : decode cX3_passesBid 42 = .ok (.ireturn, 1) := by decide +kernel
theorem dX3_passesBid_43 : decode cX3_passesBid 43 = .ok (.aload_n 0, 1) := by decide +kernel
theorem dX3_passesBid_44 : decode cX3_passesBid 44 = .ok (.aload_n 0, 1) := by decide +kernel
theorem dX3_passesBid_45 : decode cX3_passesBid 45 = .ok (.getfield 206, 3) := by decide +kernel
theorem dX3_passesBid_48 : decode cX3_passesBid 48 = .ok (.putfield 221, 3) := by decide +kernel
theorem dX3_passesBid_51 : decode cX3_passesBid 51 = .ok (.aload_n 0, 1) := by decide +kernel
theorem dX3_passesBid_52 : decode cX3_passesBid 52 = .ok (.bipush 44, 2) := by decide +kernel
theorem dX3_passesBid_54 : decode cX3_passesBid 54 = .ok (.bipush 44, 2) := by decide +kernel
theorem dX3_passesBid_56 : decode cX3_passesBid 56 = .ok (.invokevirtual 212, 3) := by decide +kernel
theorem dX3_passesBid_59 : decode cX3_passesBid 59 = .ok (.ifCond .eq 12, 3) := by decide +kernel
theorem dX3_passesBid_62 : decode cX3_passesBid 62 = .ok (.aload_n 0, 1) := by decide +kernel
theorem dX3_passesBid_63 : decode cX3_passesBid 63 = .ok (.bipush 50, 2) := by decide +kernel
theorem dX3_passesBid_65 : decode cX3_passesBid 65 = .ok (.invokevirtual 218, 3) := by decide +kernel
theorem dX3_passesBid_68 : decode cX3_passesBid 68 = .ok (.ifCond .ne 5, 3) := by decide +kernel
theorem dX3_passesBid_71 : decode cX3_passesBid 71 = .ok (.iconst 0, 1) := by decide +kernel
theorem dX3_passesBid_72 : decode cX3_passesBid 72 = .ok (.ireturn, 1) := by decide +kernel
theorem dX3_passesBid_73 : decode cX3_passesBid 73 = .ok (.aload_n 0, 1) := by decide +kernel
theorem dX3_passesBid_74 : decode cX3_passesBid 74 = .ok (.aload_n 0, 1) := by decide +kernel
theorem dX3_passesBid_75 : decode cX3_passesBid 75 = .ok (.getfield 206, 3) := by decide +kernel
theorem dX3_passesBid_78 : decode cX3_passesBid 78 = .ok (.putfield 224, 3) := by decide +kernel
theorem dX3_passesBid_81 : decode cX3_passesBid 81 = .ok (.iconst 1, 1) := by decide +kernel
theorem dX3_passesBid_82 : decode cX3_passesBid 82 = .ok (.ireturn, 1) := by decide +kernel
set_option maxRecDepth 20000 in
theorem ggX3_passesOrder_X3_passes : GoodIn wsX3_passesOrder wsX3_passes := goodIn_r _ [8, 9, 10, 2, 11, 12, 13, 7, 14, 15, 16, 17, 18, 34, 35, 36, 37, 38, 39, 40, 41, 42, 43, 44, 45, 46, 47, 48] (by decide +kernel) (by decide +kernel)
set_option maxRecDepth 20000 in
theorem gX3_passesOrder_X3_passes : GoodIn wsX3_passesOrder (wsV RX3 212 RX3 yX3_passes wsX3_passes) := goodIn_app (goodIn_of _ (by decide +kernel)) ggX3_passesOrder_X3_passes
set_option maxRecDepth 20000 in
theorem ggX3_passesOrder_X3_passesAbsence : GoodIn wsX3_passesOrder wsX3_passesAbsence := goodIn_r _ [22, 2, 3, 23, 4, 5, 6, 7, 8, 9, 10, 11, 12, 13, 14, 15, 16, 17, 18, 24, 25, 26, 27, 28, 34, 35, 36, 37, 38, 39, 40, 41, 42, 43, 44, 45, 46, 47, 48] (by decide +kernel) (by decide +kernel)
set_option maxRecDepth 20000 in
theorem gX3_passesOrder_X3_passesAbsence : GoodIn wsX3_passesOrder (wsV RX3 230 RX3 yX3_passesAbsence wsX3_passesAbsence) := goodIn_app (goodIn_of _ (by decide +kernel)) ggX3_passesOrder_X3_passesAbsence
set_option maxRecDepth 20000 in
theorem ggX3_passesOrder_X3_passesBid : GoodIn wsX3_passesOrder wsX3_passesBid := goodIn_r _ [32, 2, 3, 23, 33, 4, 5, 6, 7, 8, 9, 10, 11, 12, 13, 14, 15, 16, 17, 18, 24, 25, 26, 27, 28, 34, 35, 36, 37, 38, 39, 40, 41, 42, 43, 44, 45, 46, 47, 48] (by decide +kernel) (by decide +kernel)
set_option maxRecDepth 20000 in
theorem gX3_passesOrder_X3_passesBid : GoodIn wsX3_passesOrder (wsV RX3 234 RX3 yX3_passesBid wsX3_passesBid) := goodIn_app (goodIn_of _ (by decide +kernel)) ggX3_passesOrder_X3_passesBid
set_option maxRecDepth 20000 in
theorem ggX3_passesOrder_X3_passesNumber : GoodIn wsX3_passesOrder wsX3_passesNumber := goodIn_r _ [27, 10, 28, 2, 4, 5, 6, 7, 8, 9, 11, 12, 13, 14, 15, 16, 17, 18, 34, 35, 36, 37, 38, 39, 40, 41, 42, 43, 44, 45, 46, 47, 48] (by decide +kernel) (by decide +kernel)
set_option maxRecDepth 20000 in
theorem gX3_passesOrder_X3_passesNumber : GoodIn wsX3_passesOrder (wsV RX3 218 RX3 yX3_passesNumber wsX3_passesNumber) := goodIn_app (goodIn_of _ (by decide +kernel)) ggX3_passesOrder_X3_passesNumber
theorem dX3_passesOrder_0 : decode cX3_passesOrder 0 = .ok (.aload_n 0, 1) := by decide +kernel
theorem dX3_passesOrder_1 : decode cX3_passesOrder 1 = .ok (.bipush 97, 2) := by decide +kernel
theorem dX3_passesOrder_3 : decode cX3_passesOrder 3 = .ok (.bipush 97, 2) := by decide +kernel
theorem dX3_passesOrder_5 : decode cX3_passesOrder 5 = .ok (.invokevirtual 212, 3) := by decide +kernel
theorem dX3_passesOrder_8 : decode cX3_passesOrder 8 = .ok (.ifCond .eq 16, 3) := by decide +kernel
theorem dX3_passesOrder_11 : decode cX3_passesOrder 11 = .ok (.aload_n 0, 1) := by decide +kernel
theorem dX3_passesOrder_12 : decode cX3_passesOrder 12 = .ok (.iconst 0, 1) := by decide +kernel
theorem dX3_passesOrder_13 : decode cX3_passesOrder 13 = .ok (.putfield 227, 3) := by decide +kernel
theorem dX3_passesOrder_16 : decode cX3_passesOrder 16 = .ok (.aload_n 0, 1) := by decide +kernel
theorem dX3_passesOrder_17 : decode cX3_passesOrder 17 = .ok (.invokevirtual 230, 3) := by decide +kernel
theorem dX3_passesOrder_20 : decode cX3_passesOrder 20 = .ok (.istore_n 1, 1) := by decide +kernel
theorem dX3_passesOrder_21 : decode cX3_passesOrder 21 = .ok (.goto 75, 3) := by decide +kernel
theorem dX3_passesOrder_24 : decode cX3_passesOrder 24 = .ok (.aload_n 0, 1) := by decide +kernel
theorem dX3_passesOrder_25 : decode cX3_passesOrder 25 = .ok (.bipush 98, 2) := by decide +kernel
theorem dX3_passesOrder_27 : decode cX3_passesOrder 27 = .ok (.bipush 98, 2) := by decide +kernel
theorem dX3_passesOrder_29 : decode cX3_passesOrder 29 = .ok (.invokevirtual 212, 3) := by decide +kernel
theorem dX3_passesOrder_32 : decode cX3_passesOrder 32 = .ok (.ifCond .eq 16, 3) := by decide +kernel
theorem dX3_passesOrder_35 : decode cX3_passesOrder 35 = .ok (.aload_n 0, 1) := by decide +kernel
theorem dX3_passesOrder_36 : decode cX3_passesOrder 36 = .ok (.iconst 1, 1) := by decide +kernel
theorem dX3_passesOrder_37 : decode cX3_passesOrder 37 = .ok (.putfield 227, 3) := by decide +kernel
theorem dX3_passesOrder_40 : decode cX3_passesOrder 40 = .ok (.aload_n 0, 1) := by decide +kernel
theorem dX3_passesOrder_41 : decode cX3_passesOrder 41 = .ok (.invokevirtual 234, 3) := by decide +kernel
theorem dX3_passesOrder_44 : decode cX3_passesOrder 44 = .ok (.istore_n 1, 1) := by decide +kernel
theorem dX3_passesOrder_45 : decode cX3_passesOrder 45 = .ok (.goto 51, 3) := by decide +kernel
theorem dX3_passesOrder_48 : decode cX3_passesOrder 48 = .ok (.aload_n 0, 1) := by decide +kernel
theorem dX3_passesOrder_49 : decode cX3_passesOrder 49 = .ok (.bipush 99, 2) := by decide +kernel
theorem dX3_passesOrder_51 : decode cX3_passesOrder 51 = .ok (.bipush 99, 2) := by decide +kernel
theorem dX3_passesOrder_53 : decode cX3_passesOrder 53 = .ok (.invokevirtual 212, 3) := by decide +kernel
theorem dX3_passesOrder_56 : decode cX3_passesOrder 56 = .ok (.ifCond .eq 26, 3) := by decide +kernel
theorem dX3_passesOrder_59 : decode cX3_passesOrder 59 = .ok (.aload_n 0, 1) := by decide +kernel
theorem dX3_passesOrder_60 : decode cX3_passesOrder 60 = .ok (.iconst 2, 1) := by decide +kernel
theorem dX3_passesOrder_61 : decode cX3_passesOrder 61 = .ok (.putfield 227, 3) := by decide +kernel
theorem dX3_passesOrder_64 : decode cX3_passesOrder 64 = .ok (.aload_n 0, 1) := by decide +kernel
theorem dX3_passesOrder_65 : decode cX3_passesOrder 65 = .ok (.bipush 29, 2) := by decide +kernel
theorem dX3_passesOrder_67 : decode cX3_passesOrder 67 = .ok (.invokevirtual 218, 3) := by decide +kernel
theorem dX3_passesOrder_70 : decode cX3_passesOrder 70 = .ok (.istore_n 1, 1) := by decide +kernel
theorem dX3_passesOrder_71 : decode cX3_passesOrder 71 = .ok (.aload_n 0, 1) := by decide +kernel
theorem dX3_passesOrder_72 : decode cX3_passesOrder 72 = .ok (.aload_n 0, 1) := by decide +kernel
theorem dX3_passesOrder_73 : decode cX3_passesOrder 73 = .ok (.getfield 206, 3) := by decide +kernel
theorem dX3_passesOrder_76 : decode cX3_passesOrder 76 = .ok (.putfield 215, 3) := by decide +kernel
theorem dX3_passesOrder_79 : decode cX3_passesOrder 79 = .ok (.goto 17, 3) := by decide +kernel
theorem dX3_passesOrder_82 : decode cX3_passesOrder 82 = .ok (.aload_n 0, 1) := by decide +kernel
theorem dX3_passesOrder_83 : decode cX3_passesOrder 83 = .ok (.iconst 3, 1) := by decide +kernel
theorem dX3_passesOrder_84 : decode cX3_passesOrder 84 = .ok (.putfield 227, 3) := by decide +kernel
theorem dX3_passesOrder_87 : decode cX3_passesOrder 87 = .ok (.aload_n 0, 1) := by decide +kernel
theorem dX3_passesOrder_88 : decode cX3_passesOrder 88 = .ok (.bipush 122, 2) := by decide +kernel
theorem dX3_passesOrder_90 : decode cX3_passesOrder 90 = .ok (.bipush 122, 2) := by decide +kernel
theorem dX3_passesOrder_92 : decode cX3_passesOrder 92 = .ok (.invokevirtual 212, 3) := by decide +kernel
theorem dX3_passesOrder_95 : decode cX3_passesOrder 95 = .ok (.istore_n 1, 1) := by decide +kernel
theorem dX3_passesOrder_96 : decode cX3_passesOrder 96 = .ok (.iload_n 1, 1) := by decide +kernel
theorem dX3_passesOrder_97 : decode cX3_passesOrder 97 = .ok (.ifCond .eq 18, 3) := by decide +kernel
theorem dX3_passesOrder_100 : decode cX3_passesOrder 100 = .ok (.aload_n 0, 1) := by decide +kernel
theorem dX3_passesOrder_101 : decode cX3_passesOrder 101 = .ok (.bipush 59, 2) := by decide +kernel
theorem dX3_passesOrder_103 : decode cX3_passesOrder 103 = .ok (.bipush 59, 2) := by decide +kernel
theorem dX3_passesOrder_105 : decode cX3_passesOrder 105 = .ok (.invokevirtual 212, 3) := by decide +kernel
theorem dX3_passesOrder_108 : decode cX3_passesOrder 108 = .ok (.ifCond .eq 7, 3) := by decide +kernel
theorem dX3_passesOrder_111 : decode cX3_passesOrder 111 = .ok (.iconst 1, 1) := by decide +kernel
theorem dX3_passesOrder_112 : decode cX3_passesOrder 112 = .ok (.goto 4, 3) := by decide +kernel
theorem dX3_passesOrder_115 : decode cX3_passesOrder 115 = .ok (.iconst 0, 1) := by decide +kernel
theorem dX3_passesOrder_116 : decode cX3_passesOrder 116 = .ok (.ireturn, 1) := by decide +kernel
set_option maxRecDepth 20000 in
theorem ggX3_faultOf_X3_passesOrder : GoodIn wsX3_faultOf wsX3_passesOrder := goodIn_r _ [7, 8, 9, 10, 11, 12, 13, 6, 14, 15, 1, 16, 17, 18, 19, 2, 20, 21, 22, 23, 24, 25, 26, 27, 28, 29, 30, 31, 32, 33, 34, 35, 36, 37, 38, 39, 40, 41, 42, 43, 44, 45, 46, 47, 48, 49, 50, 51, 52] (by decide +kernel) (by decide +kernel)
set_option maxRecDepth 20000 in
theorem gX3_faultOf_X3_passesOrder : GoodIn wsX3_faultOf (wsV RX3 237 RX3 yX3_passesOrder wsX3_passesOrder) := goodIn_app (goodIn_of _ (by decide +kernel)) ggX3_faultOf_X3_passesOrder
theorem dX3_faultOf_0 : decode cX3_faultOf 0 = .ok (.aload_n 0, 1) := by decide +kernel
theorem dX3_faultOf_1 : decode cX3_faultOf 1 = .ok (.iconst 0, 1) := by decide +kernel
theorem dX3_faultOf_2 : decode cX3_faultOf 2 = .ok (.putfield 200, 3) := by decide +kernel
theorem dX3_faultOf_5 : decode cX3_faultOf 5 = .ok (.aload_n 0, 1) := by decide +kernel
theorem dX3_faultOf_6 : decode cX3_faultOf 6 = .ok (.getfield 200, 3) := by decide +kernel
theorem dX3_faultOf_9 : decode cX3_faultOf 9 = .ok (.aload_n 0, 1) := by decide +kernel
theorem dX3_faultOf_10 : decode cX3_faultOf 10 = .ok (.getfield 197, 3) := by decide +kernel
theorem dX3_faultOf_13 : decode cX3_faultOf 13 = .ok (.if_icmp .ge 15, 3) := by decide +kernel
theorem dX3_faultOf_16 : decode cX3_faultOf 16 = .ok (.aload_n 0, 1) := by decide +kernel
theorem dX3_faultOf_17 : decode cX3_faultOf 17 = .ok (.invokevirtual 237, 3) := by decide +kernel
theorem dX3_faultOf_20 : decode cX3_faultOf 20 = .ok (.ifCond .ne (-15), 3) := by decide +kernel
theorem dX3_faultOf_23 : decode cX3_faultOf 23 = .ok (.aload_n 0, 1) := by decide +kernel
theorem dX3_faultOf_24 : decode cX3_faultOf 24 = .ok (.getfield 200, 3) := by decide +kernel
theorem dX3_faultOf_27 : decode cX3_faultOf 27 = .ok (.ireturn, 1) := by decide +kernel
theorem dX3_faultOf_28 : decode cX3_faultOf 28 = .ok (.iconst (-1), 1) := by decide +kernel
theorem dX3_faultOf_29 : decode cX3_faultOf 29 = .ok (.ireturn, 1) := by decide +kernel
set_option maxRecDepth 20000 in
theorem ggX3_does_X3_isPerson : GoodIn wsX3_does wsX3_isPerson := goodIn_r _ [10, 5, 11, 12, 9, 13, 100, 101, 102, 103, 104, 105, 106, 107, 108, 109, 110, 111, 112, 113, 114] (by decide +kernel) (by decide +kernel)
set_option maxRecDepth 20000 in
theorem gX3_does_X3_isPerson : GoodIn wsX3_does (wsV RX3 38 RX3 yX3_isPerson wsX3_isPerson) := goodIn_app (goodIn_of _ (by decide +kernel)) ggX3_does_X3_isPerson
set_option maxRecDepth 20000 in
theorem ggX3_does_X3_mayBeAbsent : GoodIn wsX3_does wsX3_mayBeAbsent := goodIn_r _ [17, 5, 18, 19, 20, 21, 9, 22, 23, 24, 25, 26, 27, 28, 29, 30, 31, 32, 33, 34, 100, 101, 102, 103, 104, 105, 106, 107, 108, 109, 110, 111, 112, 113, 114] (by decide +kernel) (by decide +kernel)
set_option maxRecDepth 20000 in
theorem gX3_does_X3_mayBeAbsent : GoodIn wsX3_does (wsV RX3 108 RX3 yX3_mayBeAbsent wsX3_mayBeAbsent) := goodIn_app (goodIn_of _ (by decide +kernel)) ggX3_does_X3_mayBeAbsent
set_option maxRecDepth 20000 in
theorem ggX3_does_X3_adds : GoodIn wsX3_does wsX3_adds := goodIn_r _ [38, 5, 39, 40, 41, 9, 42, 43, 44, 45, 46, 100, 101, 102, 103, 104, 105, 106, 107, 108, 109, 110, 111, 112, 113, 114] (by decide +kernel) (by decide +kernel)
set_option maxRecDepth 20000 in
theorem gX3_does_X3_adds : GoodIn wsX3_does (wsV RX3 120 RX3 yX3_adds wsX3_adds) := goodIn_app (goodIn_of _ (by decide +kernel)) ggX3_does_X3_adds
set_option maxRecDepth 20000 in
theorem ggX3_does_X3_isAbsence : GoodIn wsX3_does wsX3_isAbsence := goodIn_r _ [50, 5, 11, 12, 9, 13, 100, 101, 102, 103, 104, 105, 106, 107, 108, 109, 110, 111, 112, 113, 114] (by decide +kernel) (by decide +kernel)
set_option maxRecDepth 20000 in
theorem gX3_does_X3_isAbsence : GoodIn wsX3_does (wsV RX3 42 RX3 yX3_isAbsence wsX3_isAbsence) := goodIn_app (goodIn_of _ (by decide +kernel)) ggX3_does_X3_isAbsence
set_option maxRecDepth 20000 in
theorem ggX3_does_X3_isIn : GoodIn wsX3_does wsX3_isIn := goodIn_r _ [13] (by decide +kernel) (by decide +kernel)
set_option maxRecDepth 20000 in
theorem gX3_does_X3_isIn : GoodIn wsX3_does (va_wsS RX3 34 yX3_isIn wsX3_isIn) := goodIn_app (goodIn_of _ (by decide +kernel)) ggX3_does_X3_isIn
set_option maxRecDepth 20000 in
theorem ggX3_does_X3_mayBid : GoodIn wsX3_does wsX3_mayBid := goodIn_r _ [54, 31, 32, 33, 9, 34, 5, 100, 101, 102, 103, 104, 105, 106, 107, 108, 109, 110, 111, 112, 113, 114] (by decide +kernel) (by decide +kernel)
set_option maxRecDepth 20000 in
theorem gX3_does_X3_mayBid : GoodIn wsX3_does (wsV RX3 126 RX3 yX3_mayBid wsX3_mayBid) := goodIn_app (goodIn_of _ (by decide +kernel)) ggX3_does_X3_mayBid
set_option maxRecDepth 20000 in
theorem ggX3_does_X3_becomes : GoodIn wsX3_does wsX3_becomes := goodIn_r _ [42, 5, 100, 101, 102, 103, 104, 105, 106, 107, 108, 109, 110, 111, 112, 113, 114] (by decide +kernel) (by decide +kernel)
set_option maxRecDepth 20000 in
theorem gX3_does_X3_becomes : GoodIn wsX3_does (wsV RX3 113 RX3 yX3_becomes wsX3_becomes) := goodIn_app (goodIn_of _ (by decide +kernel)) ggX3_does_X3_becomes
set_option maxRecDepth 20000 in
theorem ggX3_does_X3_covers : GoodIn wsX3_does wsX3_covers := goodIn_r _ [58, 5, 59, 60, 61, 9, 62, 31, 32, 33, 34, 63, 64, 65, 66, 67, 68, 69, 70, 71, 72, 73, 74, 27, 28, 29, 30, 75, 76, 77, 78, 79, 11, 12, 13, 19, 20, 21, 22, 23, 24, 25, 26, 80, 81, 82, 83, 84, 85, 86, 87, 88, 89, 90, 91, 92, 93, 94, 95, 39, 40, 41, 42, 43, 44, 45, 46, 100, 101, 102, 103, 104, 105, 106, 107, 108, 109, 110, 111, 112, 113, 114] (by decide +kernel) (by decide +kernel)
set_option maxRecDepth 20000 in
theorem gX3_does_X3_covers : GoodIn wsX3_does (wsV RX3 145 RX3 yX3_covers wsX3_covers) := goodIn_app (goodIn_of _ (by decide +kernel)) ggX3_does_X3_covers
set_option maxRecDepth 20000 in
theorem ggX3_does_X3_coversAll : GoodIn wsX3_does wsX3_coversAll := goodIn_r _ [99, 5, 31, 32, 33, 9, 34, 55, 56, 57, 58, 59, 60, 61, 62, 63, 64, 65, 66, 67, 68, 69, 70, 71, 72, 73, 74, 27, 28, 29, 30, 75, 76, 77, 78, 79, 11, 12, 13, 19, 20, 21, 22, 23, 24, 25, 26, 80, 81, 82, 83, 84, 85, 86, 87, 88, 89, 90, 91, 92, 93, 94, 95, 39, 40, 41, 42, 43, 44, 45, 46, 100, 101, 102, 103, 104, 105, 106, 107, 108, 109, 110, 111, 112, 113, 114] (by decide +kernel) (by decide +kernel)
set_option maxRecDepth 20000 in
theorem gX3_does_X3_coversAll : GoodIn wsX3_does (wsV RX3 148 RX3 yX3_coversAll wsX3_coversAll) := goodIn_app (goodIn_of _ (by decide +kernel)) ggX3_does_X3_coversAll
theorem dX3_does_0 : decode cX3_does 0 = .ok (.aload_n 0, 1) := by decide +kernel
theorem dX3_does_1 : decode cX3_does 1 = .ok (.getfield 227, 3) := by decide +kernel
theorem dX3_does_4 : decode cX3_does 4 = .ok (.ifCond .ne 54, 3) := by decide +kernel
theorem dX3_does_7 : decode cX3_does 7 = .ok (.aload_n 0, 1) := by decide +kernel
theorem dX3_does_8 : decode cX3_does 8 = .ok (.aload_n 0, 1) := by decide +kernel
theorem dX3_does_9 : decode cX3_does 9 = .ok (.getfield 215, 3) := by decide +kernel
theorem dX3_does_12 : decode cX3_does 12 = .ok (.invokevirtual 38, 3) := by decide +kernel
theorem dX3_does_15 : decode cX3_does 15 = .ok (.ifCond .eq 22, 3) := by decide +kernel
theorem dX3_does_18 : decode cX3_does 18 = .ok (.aload_n 0, 1) := by decide +kernel
theorem dX3_does_19 : decode cX3_does 19 = .ok (.aload_n 0, 1) := by decide +kernel
theorem dX3_does_20 : decode cX3_does 20 = .ok (.getfield 215, 3) := by decide +kernel
theorem dX3_does_23 : decode cX3_does 23 = .ok (.aload_n 0, 1) := by decide +kernel
theorem dX3_does_24 : decode cX3_does 24 = .ok (.getfield 221, 3) := by decide +kernel
theorem dX3_does_27 : decode cX3_does 27 = .ok (.invokevirtual 108, 3) := by decide +kernel
theorem dX3_does_30 : decode cX3_does 30 = .ok (.ifCond .eq 7, 3) := by decide +kernel
theorem dX3_does_33 : decode cX3_does 33 = .ok (.iconst 1, 1) := by decide +kernel
theorem dX3_does_34 : decode cX3_does 34 = .ok (.goto 4, 3) := by decide +kernel
theorem dX3_does_37 : decode cX3_does 37 = .ok (.iconst 0, 1) := by decide +kernel
theorem dX3_does_38 : decode cX3_does 38 = .ok (.istore_n 1, 1) := by decide +kernel
theorem dX3_does_39 : decode cX3_does 39 = .ok (.iload_n 1, 1) := by decide +kernel
theorem dX3_does_40 : decode cX3_does 40 = .ok (.ifCond .eq 16, 3) := by decide +kernel
theorem dX3_does_43 : decode cX3_does 43 = .ok (.aload_n 0, 1) := by decide +kernel
theorem dX3_does_44 : decode cX3_does 44 = .ok (.aload_n 0, 1) := by decide +kernel
theorem dX3_does_45 : decode cX3_does 45 = .ok (.getfield 215, 3) := by decide +kernel
theorem dX3_does_48 : decode cX3_does 48 = .ok (.aload_n 0, 1) := by decide +kernel
theorem dX3_does_49 : decode cX3_does 49 = .ok (.getfield 221, 3) := by decide +kernel
theorem dX3_does_52 : decode cX3_does 52 = .ok (.invokevirtual 120, 3) := by decide +kernel
theorem dX3_does_55 : decode cX3_does 55 = .ok (.pop, 1) := by decide +kernel
theorem dX3_does_56 : decode cX3_does 56 = .ok (.iload_n 1, 1) := by decide +kernel
theorem dX3_does_57 : decode cX3_does 57 = .ok (.ireturn, 1) := by decide +kernel
theorem dX3_does_58 : decode cX3_does 58 = .ok (.aload_n 0, 1) := by decide +kernel
theorem dX3_does_59 : decode cX3_does 59 = .ok (.getfield 227, 3) := by decide +kernel
theorem dX3_does_62 : decode cX3_does 62 = .ok (.iconst 1, 1) := by decide +kernel
theorem dX3_does_63 : decode cX3_does 63 = .ok (.if_icmp .ne 88, 3) := by decide +kernel
theorem dX3_does_66 : decode cX3_does 66 = .ok (.aload_n 0, 1) := by decide +kernel
theorem dX3_does_67 : decode cX3_does 67 = .ok (.aload_n 0, 1) := by decide +kernel
theorem dX3_does_68 : decode cX3_does 68 = .ok (.getfield 215, 3) := by decide +kernel
theorem dX3_does_71 : decode cX3_does 71 = .ok (.invokevirtual 38, 3) := by decide +kernel
theorem dX3_does_74 : decode cX3_does 74 = .ok (.ifCond .eq 51, 3) := by decide +kernel
theorem dX3_does_77 : decode cX3_does 77 = .ok (.aload_n 0, 1) := by decide +kernel
theorem dX3_does_78 : decode cX3_does 78 = .ok (.aload_n 0, 1) := by decide +kernel
theorem dX3_does_79 : decode cX3_does 79 = .ok (.getfield 221, 3) := by decide +kernel
theorem dX3_does_82 : decode cX3_does 82 = .ok (.invokevirtual 42, 3) := by decide +kernel
theorem dX3_does_85 : decode cX3_does 85 = .ok (.ifCond .eq 40, 3) := by decide +kernel
theorem dX3_does_88 : decode cX3_does 88 = .ok (.aload_n 0, 1) := by decide +kernel
theorem dX3_does_89 : decode cX3_does 89 = .ok (.getfield 224, 3) := by decide +kernel
theorem dX3_does_92 : decode cX3_does 92 = .ok (.i2l, 1) := by decide +kernel
theorem dX3_does_93 : decode cX3_does 93 = .ok (.lconst 0, 1) := by decide +kernel
theorem dX3_does_94 : decode cX3_does 94 = .ok (.aload_n 0, 1) := by decide +kernel
theorem dX3_does_95 : decode cX3_does 95 = .ok (.getfield 7, 3) := by decide +kernel
theorem dX3_does_98 : decode cX3_does 98 = .ok (.iconst 2, 1) := by decide +kernel
theorem dX3_does_99 : decode cX3_does 99 = .ok (.laload, 1) := by decide +kernel
theorem dX3_does_100 : decode cX3_does 100 = .ok (.invokestatic 34, 3) := by decide +kernel
theorem dX3_does_103 : decode cX3_does 103 = .ok (.ifCond .eq 22, 3) := by decide +kernel
theorem dX3_does_106 : decode cX3_does 106 = .ok (.aload_n 0, 1) := by decide +kernel
theorem dX3_does_107 : decode cX3_does 107 = .ok (.aload_n 0, 1) := by decide +kernel
theorem dX3_does_108 : decode cX3_does 108 = .ok (.getfield 215, 3) := by decide +kernel
theorem dX3_does_111 : decode cX3_does 111 = .ok (.aload_n 0, 1) := by decide +kernel
theorem dX3_does_112 : decode cX3_does 112 = .ok (.getfield 221, 3) := by decide +kernel
theorem dX3_does_115 : decode cX3_does 115 = .ok (.invokevirtual 126, 3) := by decide +kernel
theorem dX3_does_118 : decode cX3_does 118 = .ok (.ifCond .eq 7, 3) := by decide +kernel
theorem dX3_does_121 : decode cX3_does 121 = .ok (.iconst 1, 1) := by decide +kernel
theorem dX3_does_122 : decode cX3_does 122 = .ok (.goto 4, 3) := by decide +kernel
theorem dX3_does_125 : decode cX3_does 125 = .ok (.iconst 0, 1) := by decide +kernel
theorem dX3_does_126 : decode cX3_does 126 = .ok (.istore_n 1, 1) := by decide +kernel
theorem dX3_does_127 : decode cX3_does 127 = .ok (.iload_n 1, 1) := by decide +kernel
theorem dX3_does_128 : decode cX3_does 128 = .ok (.ifCond .eq 21, 3) := by decide +kernel
theorem dX3_does_131 : decode cX3_does 131 = .ok (.aload_n 0, 1) := by decide +kernel
theorem dX3_does_132 : decode cX3_does 132 = .ok (.aload_n 0, 1) := by decide +kernel
theorem dX3_does_133 : decode cX3_does 133 = .ok (.getfield 221, 3) := by decide +kernel
theorem dX3_does_136 : decode cX3_does 136 = .ok (.iconst 5, 1) := by decide +kernel
theorem dX3_does_137 : decode cX3_does 137 = .ok (.aload_n 0, 1) := by decide +kernel
theorem dX3_does_138 : decode cX3_does 138 = .ok (.getfield 215, 3) := by decide +kernel
theorem dX3_does_141 : decode cX3_does 141 = .ok (.iadd, 1) := by decide +kernel
theorem dX3_does_142 : decode cX3_does 142 = .ok (.aload_n 0, 1) := by decide +kernel
theorem dX3_does_143 : decode cX3_does 143 = .ok (.getfield 224, 3) := by decide +kernel
theorem dX3_does_146 : decode cX3_does 146 = .ok (.invokevirtual 113, 3) := by decide +kernel
theorem dX3_does_149 : decode cX3_does 149 = .ok (.iload_n 1, 1) := by decide +kernel
theorem dX3_does_150 : decode cX3_does 150 = .ok (.ireturn, 1) := by decide +kernel
theorem dX3_does_151 : decode cX3_does 151 = .ok (.aload_n 0, 1) := by decide +kernel
theorem dX3_does_152 : decode cX3_does 152 = .ok (.getfield 227, 3) := by decide +kernel
theorem dX3_does_155 : decode cX3_does 155 = .ok (.iconst 2, 1) := by decide +kernel
theorem dX3_does_156 : decode cX3_does 156 = .ok (.if_icmp .ne 32, 3) := by decide +kernel
theorem dX3_does_159 : decode cX3_does 159 = .ok (.aload_n 0, 1) := by decide +kernel
theorem dX3_does_160 : decode cX3_does 160 = .ok (.aload_n 0, 1) := by decide +kernel
theorem dX3_does_161 : decode cX3_does 161 = .ok (.getfield 215, 3) := by decide +kernel
theorem dX3_does_164 : decode cX3_does 164 = .ok (.invokevirtual 42, 3) := by decide +kernel
theorem dX3_does_167 : decode cX3_does 167 = .ok (.ifCond .eq 19, 3) := by decide +kernel
theorem dX3_does_170 : decode cX3_does 170 = .ok (.aload_n 0, 1) := by decide +kernel
theorem dX3_does_171 : decode cX3_does 171 = .ok (.aload_n 0, 1) := by decide +kernel
theorem dX3_does_172 : decode cX3_does 172 = .ok (.getfield 215, 3) := by decide +kernel
theorem dX3_does_175 : decode cX3_does 175 = .ok (.invokevirtual 145, 3) := by decide +kernel
theorem dX3_does_178 : decode cX3_does 178 = .ok (.iconst (-1), 1) := by decide +kernel
theorem dX3_does_179 : decode cX3_does 179 = .ok (.if_icmp .eq 7, 3) := by decide +kernel
theorem dX3_does_182 : decode cX3_does 182 = .ok (.iconst 1, 1) := by decide +kernel
theorem dX3_does_183 : decode cX3_does 183 = .ok (.goto 4, 3) := by decide +kernel
theorem dX3_does_186 : decode cX3_does 186 = .ok (.iconst 0, 1) := by decide +kernel
theorem dX3_does_187 : decode cX3_does 187 = .ok (.ireturn, 1) := by decide +kernel
theorem dX3_does_188 : decode cX3_does 188 = .ok (.aload_n 0, 1) := by decide +kernel
theorem dX3_does_189 : decode cX3_does 189 = .ok (.invokevirtual 148, 3) := by decide +kernel
theorem dX3_does_192 : decode cX3_does 192 = .ok (.pop, 1) := by decide +kernel
theorem dX3_does_193 : decode cX3_does 193 = .ok (.iconst 1, 1) := by decide +kernel
theorem dX3_does_194 : decode cX3_does 194 = .ok (.ireturn, 1) := by decide +kernel
set_option maxRecDepth 20000 in
theorem ggX3_carryOut_X3_faultOf : GoodIn wsX3_carryOut wsX3_faultOf := goodIn_r _ [8, 2, 3, 9, 10, 11, 7, 12, 13, 14, 15, 16, 17, 18, 19, 20, 21, 22, 23, 24, 25, 26, 27, 28, 29, 30, 31, 32, 33, 34, 35, 36, 37, 38, 39, 40, 41, 42, 148, 149, 150, 151, 152, 153, 154, 155, 156, 157, 158, 159, 160, 161, 162] (by decide +kernel) (by decide +kernel)
set_option maxRecDepth 20000 in
theorem gX3_carryOut_X3_faultOf : GoodIn wsX3_carryOut (wsV RX3 240 RX3 yX3_faultOf wsX3_faultOf) := goodIn_app (goodIn_of _ (by decide +kernel)) ggX3_carryOut_X3_faultOf
set_option maxRecDepth 20000 in
theorem ggX3_carryOut_X3_records : GoodIn wsX3_carryOut wsX3_records := goodIn_r _ [46, 47, 48, 49, 50, 51, 7, 52, 53, 148, 149, 150, 151, 152, 153, 154, 155, 156, 157, 158, 159, 160, 161, 162] (by decide +kernel) (by decide +kernel)
set_option maxRecDepth 20000 in
theorem gX3_carryOut_X3_records : GoodIn wsX3_carryOut (wsV RX3 93 RX3 yX3_records wsX3_records) := goodIn_app (goodIn_of _ (by decide +kernel)) ggX3_carryOut_X3_records
set_option maxRecDepth 20000 in
theorem ggX3_carryOut_X3_passesOrder : GoodIn wsX3_carryOut wsX3_passesOrder := goodIn_r _ [12, 13, 14, 15, 16, 17, 18, 7, 19, 20, 2, 21, 22, 23, 24, 3, 25, 26, 27, 28, 29, 30, 31, 32, 33, 34, 35, 36, 37, 38, 39, 40, 41, 42, 148, 149, 150, 151, 152, 153, 154, 155, 156, 157, 158, 159, 160, 161, 162] (by decide +kernel) (by decide +kernel)
set_option maxRecDepth 20000 in
theorem gX3_carryOut_X3_passesOrder : GoodIn wsX3_carryOut (wsV RX3 237 RX3 yX3_passesOrder wsX3_passesOrder) := goodIn_app (goodIn_of _ (by decide +kernel)) ggX3_carryOut_X3_passesOrder
