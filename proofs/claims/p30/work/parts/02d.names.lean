set_option maxRecDepth 20000 in
theorem gX2_digestAbsence_X1_aboutAbsence : GoodIn wsX2_digestAbsence (wsV RX2 146 RX1 yX1_aboutAbsence wsX1_aboutAbsence) := goodIn_app (goodIn_of _ (by decide +kernel)) ggX2_digestAbsence_X1_aboutAbsence
set_option maxRecDepth 20000 in
theorem ggX2_digestAbsence_X2_bidIndex : GoodIn wsX2_digestAbsence wsX2_bidIndex := goodIn_r _ [23] (by decide +kernel) (by decide +kernel)
set_option maxRecDepth 20000 in
theorem gX2_digestAbsence_X2_bidIndex : GoodIn wsX2_digestAbsence (va_wsS RX2 102 yX2_bidIndex wsX2_bidIndex) := goodIn_app (goodIn_of _ (by decide +kernel)) ggX2_digestAbsence_X2_bidIndex
theorem dX2_digestAbsence_0 : decode cX2_digestAbsence 0 = .ok (.lload_n 1, 1) := by decide +kernel
theorem dX2_digestAbsence_1 : decode cX2_digestAbsence 1 = .ok (.lstore 4, 2) := by decide +kernel
theorem dX2_digestAbsence_3 : decode cX2_digestAbsence 3 = .ok (.iconst 0, 1) := by decide +kernel
theorem dX2_digestAbsence_4 : decode cX2_digestAbsence 4 = .ok (.istore 6, 2) := by decide +kernel
theorem dX2_digestAbsence_6 : decode cX2_digestAbsence 6 = .ok (.iload 6, 2) := by decide +kernel
theorem dX2_digestAbsence_8 : decode cX2_digestAbsence 8 = .ok (.bipush 7, 2) := by decide +kernel
theorem dX2_digestAbsence_10 : decode cX2_digestAbsence 10 = .ok (.if_icmp .ge 29, 3) := by decide +kernel
theorem dX2_digestAbsence_13 : decode cX2_digestAbsence 13 = .ok (.ldc2_w 201, 3) := by decide +kernel
theorem dX2_digestAbsence_16 : decode cX2_digestAbsence 16 = .ok (.lload 4, 2) := by decide +kernel
theorem dX2_digestAbsence_18 : decode cX2_digestAbsence 18 = .ok (.lmul, 1) := by decide +kernel
theorem dX2_digestAbsence_19 : decode cX2_digestAbsence 19 = .ok (.aload_n 0, 1) := by decide +kernel
theorem dX2_digestAbsence_20 : decode cX2_digestAbsence 20 = .ok (.getfield 12, 3) := by decide +kernel
theorem dX2_digestAbsence_23 : decode cX2_digestAbsence 23 = .ok (.iload_n 3, 1) := by decide +kernel
theorem dX2_digestAbsence_24 : decode cX2_digestAbsence 24 = .ok (.iload 6, 2) := by decide +kernel
theorem dX2_digestAbsence_26 : decode cX2_digestAbsence 26 = .ok (.invokevirtual 146, 3) := by decide +kernel
theorem dX2_digestAbsence_29 : decode cX2_digestAbsence 29 = .ok (.i2l, 1) := by decide +kernel
theorem dX2_digestAbsence_30 : decode cX2_digestAbsence 30 = .ok (.ladd, 1) := by decide +kernel
theorem dX2_digestAbsence_31 : decode cX2_digestAbsence 31 = .ok (.lstore 4, 2) := by decide +kernel
theorem dX2_digestAbsence_33 : decode cX2_digestAbsence 33 = .ok (.iinc 6 1, 3) := by decide +kernel
theorem dX2_digestAbsence_36 : decode cX2_digestAbsence 36 = .ok (.goto (-30), 3) := by decide +kernel
theorem dX2_digestAbsence_39 : decode cX2_digestAbsence 39 = .ok (.iconst 0, 1) := by decide +kernel
theorem dX2_digestAbsence_40 : decode cX2_digestAbsence 40 = .ok (.istore 6, 2) := by decide +kernel
theorem dX2_digestAbsence_42 : decode cX2_digestAbsence 42 = .ok (.iload 6, 2) := by decide +kernel
theorem dX2_digestAbsence_44 : decode cX2_digestAbsence 44 = .ok (.aload_n 0, 1) := by decide +kernel
theorem dX2_digestAbsence_45 : decode cX2_digestAbsence 45 = .ok (.getfield 12, 3) := by decide +kernel
theorem dX2_digestAbsence_48 : decode cX2_digestAbsence 48 = .ok (.getfield 56, 3) := by decide +kernel
theorem dX2_digestAbsence_51 : decode cX2_digestAbsence 51 = .ok (.if_icmp .ge 33, 3) := by decide +kernel
theorem dX2_digestAbsence_54 : decode cX2_digestAbsence 54 = .ok (.ldc2_w 201, 3) := by decide +kernel
theorem dX2_digestAbsence_57 : decode cX2_digestAbsence 57 = .ok (.lload 4, 2) := by decide +kernel
theorem dX2_digestAbsence_59 : decode cX2_digestAbsence 59 = .ok (.lmul, 1) := by decide +kernel
theorem dX2_digestAbsence_60 : decode cX2_digestAbsence 60 = .ok (.aload_n 0, 1) := by decide +kernel
theorem dX2_digestAbsence_61 : decode cX2_digestAbsence 61 = .ok (.getfield 12, 3) := by decide +kernel
theorem dX2_digestAbsence_64 : decode cX2_digestAbsence 64 = .ok (.getfield 99, 3) := by decide +kernel
theorem dX2_digestAbsence_67 : decode cX2_digestAbsence 67 = .ok (.iload 6, 2) := by decide +kernel
theorem dX2_digestAbsence_69 : decode cX2_digestAbsence 69 = .ok (.iload_n 3, 1) := by decide +kernel
theorem dX2_digestAbsence_70 : decode cX2_digestAbsence 70 = .ok (.invokestatic 102, 3) := by decide +kernel
theorem dX2_digestAbsence_73 : decode cX2_digestAbsence 73 = .ok (.iaload, 1) := by decide +kernel
theorem dX2_digestAbsence_74 : decode cX2_digestAbsence 74 = .ok (.i2l, 1) := by decide +kernel
theorem dX2_digestAbsence_75 : decode cX2_digestAbsence 75 = .ok (.ladd, 1) := by decide +kernel
theorem dX2_digestAbsence_76 : decode cX2_digestAbsence 76 = .ok (.lstore 4, 2) := by decide +kernel
theorem dX2_digestAbsence_78 : decode cX2_digestAbsence 78 = .ok (.iinc 6 1, 3) := by decide +kernel
theorem dX2_digestAbsence_81 : decode cX2_digestAbsence 81 = .ok (.goto (-39), 3) := by decide +kernel
theorem dX2_digestAbsence_84 : decode cX2_digestAbsence 84 = .ok (.lload 4, 2) := by decide +kernel
theorem dX2_digestAbsence_86 : decode cX2_digestAbsence 86 = .ok (.lreturn, 1) := by decide +kernel
set_option maxRecDepth 20000 in
theorem ggX2_needPerson_X1_hasPerson : GoodIn wsX2_needPerson wsX1_hasPerson := goodIn_r _ [8, 9, 15, 16, 17, 18, 19, 20, 21, 22, 23, 24, 25, 26, 27, 28, 29] (by decide +kernel) (by decide +kernel)
set_option maxRecDepth 20000 in
theorem gX2_needPerson_X1_hasPerson : GoodIn wsX2_needPerson (wsV RX2 213 RX1 yX1_hasPerson wsX1_hasPerson) := goodIn_app (goodIn_of _ (by decide +kernel)) ggX2_needPerson_X1_hasPerson
theorem dX2_needPerson_0 : decode cX2_needPerson 0 = .ok (.aload_n 0, 1) := by decide +kernel
theorem dX2_needPerson_1 : decode cX2_needPerson 1 = .ok (.getfield 12, 3) := by decide +kernel
theorem dX2_needPerson_4 : decode cX2_needPerson 4 = .ok (.iload_n 1, 1) := by decide +kernel
theorem dX2_needPerson_5 : decode cX2_needPerson 5 = .ok (.invokevirtual 213, 3) := by decide +kernel
theorem dX2_needPerson_8 : decode cX2_needPerson 8 = .ok (.ifCond .ne 13, 3) := by decide +kernel
theorem dX2_needPerson_11 : decode cX2_needPerson 11 = .ok (.new 216, 3) := by decide +kernel
theorem dX2_needPerson_14 : decode cX2_needPerson 14 = .ok (.dup, 1) := by decide +kernel
theorem dX2_needPerson_15 : decode cX2_needPerson 15 = .ok (.ldc 218, 2) := by decide +kernel
theorem dX2_needPerson_17 : decode cX2_needPerson 17 = .ok (.invokespecial 220, 3) := by decide +kernel
theorem dX2_needPerson_20 : decode cX2_needPerson 20 = .ok (.athrow, 1) := by decide +kernel
theorem dX2_needPerson_21 : decode cX2_needPerson 21 = .ok (.return_, 1) := by decide +kernel
set_option maxRecDepth 20000 in
theorem ggX2_needAbsence_X1_hasAbsence : GoodIn wsX2_needAbsence wsX1_hasAbsence := goodIn_r _ [8, 9, 15, 16, 17, 18, 19, 20, 21, 22, 23, 24, 25, 26, 27, 28, 29] (by decide +kernel) (by decide +kernel)
set_option maxRecDepth 20000 in
theorem gX2_needAbsence_X1_hasAbsence : GoodIn wsX2_needAbsence (wsV RX2 221 RX1 yX1_hasAbsence wsX1_hasAbsence) := goodIn_app (goodIn_of _ (by decide +kernel)) ggX2_needAbsence_X1_hasAbsence
theorem dX2_needAbsence_0 : decode cX2_needAbsence 0 = .ok (.aload_n 0, 1) := by decide +kernel
theorem dX2_needAbsence_1 : decode cX2_needAbsence 1 = .ok (.getfield 12, 3) := by decide +kernel
theorem dX2_needAbsence_4 : decode cX2_needAbsence 4 = .ok (.iload_n 1, 1) := by decide +kernel
theorem dX2_needAbsence_5 : decode cX2_needAbsence 5 = .ok (.invokevirtual 221, 3) := by decide +kernel
theorem dX2_needAbsence_8 : decode cX2_needAbsence 8 = .ok (.ifCond .ne 13, 3) := by decide +kernel
theorem dX2_needAbsence_11 : decode cX2_needAbsence 11 = .ok (.new 216, 3) := by decide +kernel
theorem dX2_needAbsence_14 : decode cX2_needAbsence 14 = .ok (.dup, 1) := by decide +kernel
theorem dX2_needAbsence_15 : decode cX2_needAbsence 15 = .ok (.ldc 224, 2) := by decide +kernel
theorem dX2_needAbsence_17 : decode cX2_needAbsence 17 = .ok (.invokespecial 220, 3) := by decide +kernel
theorem dX2_needAbsence_20 : decode cX2_needAbsence 20 = .ok (.athrow, 1) := by decide +kernel
theorem dX2_needAbsence_21 : decode cX2_needAbsence 21 = .ok (.return_, 1) := by decide +kernel
theorem dX2_needInRange_0 : decode cX2_needInRange 0 = .ok (.iload_n 0, 1) := by decide +kernel
theorem dX2_needInRange_1 : decode cX2_needInRange 1 = .ok (.iload_n 1, 1) := by decide +kernel
theorem dX2_needInRange_2 : decode cX2_needInRange 2 = .ok (.if_icmp .lt 8, 3) := by decide +kernel
theorem dX2_needInRange_5 : decode cX2_needInRange 5 = .ok (.iload_n 0, 1) := by decide +kernel
theorem dX2_needInRange_6 : decode cX2_needInRange 6 = .ok (.iload_n 2, 1) := by decide +kernel
theorem dX2_needInRange_7 : decode cX2_needInRange 7 = .ok (.if_icmp .le 13, 3) := by decide +kernel
theorem dX2_needInRange_10 : decode cX2_needInRange 10 = .ok (.new 49, 3) := by decide +kernel
theorem dX2_needInRange_13 : decode cX2_needInRange 13 = .ok (.dup, 1) := by decide +kernel
theorem dX2_needInRange_14 : decode cX2_needInRange 14 = .ok (.ldc 226, 2) := by decide +kernel
theorem dX2_needInRange_16 : decode cX2_needInRange 16 = .ok (.invokespecial 53, 3) := by decide +kernel
theorem dX2_needInRange_19 : decode cX2_needInRange 19 = .ok (.athrow, 1) := by decide +kernel
theorem dX2_needInRange_20 : decode cX2_needInRange 20 = .ok (.return_, 1) := by decide +kernel
theorem dX2_needAllowed_0 : decode cX2_needAllowed 0 = .ok (.iload_n 0, 1) := by decide +kernel
theorem dX2_needAllowed_1 : decode cX2_needAllowed 1 = .ok (.ifCond .ne 13, 3) := by decide +kernel
theorem dX2_needAllowed_4 : decode cX2_needAllowed 4 = .ok (.new 228, 3) := by decide +kernel
theorem dX2_needAllowed_7 : decode cX2_needAllowed 7 = .ok (.dup, 1) := by decide +kernel
theorem dX2_needAllowed_8 : decode cX2_needAllowed 8 = .ok (.ldc 230, 2) := by decide +kernel
theorem dX2_needAllowed_10 : decode cX2_needAllowed 10 = .ok (.invokespecial 232, 3) := by decide +kernel
theorem dX2_needAllowed_13 : decode cX2_needAllowed 13 = .ok (.athrow, 1) := by decide +kernel
theorem dX2_needAllowed_14 : decode cX2_needAllowed 14 = .ok (.return_, 1) := by decide +kernel
set_option maxRecDepth 20000 in
theorem ggX2_save_X2_dropOldest : GoodIn wsX2_save wsX2_dropOldest := goodIn_r _ [8, 2, 1, 33, 34, 35, 36, 37] (by decide +kernel) (by decide +kernel)
set_option maxRecDepth 20000 in
theorem gX2_save_X2_dropOldest : GoodIn wsX2_save (wsV RX2 233 RX2 yX2_dropOldest wsX2_dropOldest) := goodIn_app (goodIn_of _ (by decide +kernel)) ggX2_save_X2_dropOldest
set_option maxRecDepth 20000 in
theorem ggX2_save_X1_copyFrom : GoodIn wsX2_save wsX1_copyFrom := goodIn_r _ [13, 14, 15, 16, 17, 18, 19, 20, 21, 22, 23, 24, 25, 26, 27, 28, 29, 30, 31, 32, 38, 39, 40, 41, 42, 43, 44, 45, 46, 47, 48, 49, 50, 51, 52] (by decide +kernel) (by decide +kernel)
set_option maxRecDepth 20000 in
theorem gX2_save_X1_copyFrom : GoodIn wsX2_save (wsV RX2 152 RX1 yX1_copyFrom wsX1_copyFrom) := goodIn_app (goodIn_of _ (by decide +kernel)) ggX2_save_X1_copyFrom
theorem dX2_save_0 : decode cX2_save 0 = .ok (.aload_n 0, 1) := by decide +kernel
theorem dX2_save_1 : decode cX2_save 1 = .ok (.getfield 196, 3) := by decide +kernel
theorem dX2_save_4 : decode cX2_save 4 = .ok (.iconst 4, 1) := by decide +kernel
theorem dX2_save_5 : decode cX2_save 5 = .ok (.if_icmp .ne 7, 3) := by decide +kernel
theorem dX2_save_8 : decode cX2_save 8 = .ok (.aload_n 0, 1) := by decide +kernel
theorem dX2_save_9 : decode cX2_save 9 = .ok (.invokevirtual 233, 3) := by decide +kernel
theorem dX2_save_12 : decode cX2_save 12 = .ok (.aload_n 0, 1) := by decide +kernel
theorem dX2_save_13 : decode cX2_save 13 = .ok (.getfield 19, 3) := by decide +kernel
theorem dX2_save_16 : decode cX2_save 16 = .ok (.aload_n 0, 1) := by decide +kernel
theorem dX2_save_17 : decode cX2_save 17 = .ok (.getfield 196, 3) := by decide +kernel
theorem dX2_save_20 : decode cX2_save 20 = .ok (.aaload, 1) := by decide +kernel
theorem dX2_save_21 : decode cX2_save 21 = .ok (.aload_n 0, 1) := by decide +kernel
theorem dX2_save_22 : decode cX2_save 22 = .ok (.getfield 12, 3) := by decide +kernel
theorem dX2_save_25 : decode cX2_save 25 = .ok (.invokevirtual 152, 3) := by decide +kernel
theorem dX2_save_28 : decode cX2_save 28 = .ok (.aload_n 0, 1) := by decide +kernel
theorem dX2_save_29 : decode cX2_save 29 = .ok (.dup, 1) := by decide +kernel
theorem dX2_save_30 : decode cX2_save 30 = .ok (.getfield 196, 3) := by decide +kernel
theorem dX2_save_33 : decode cX2_save 33 = .ok (.iconst 1, 1) := by decide +kernel
theorem dX2_save_34 : decode cX2_save 34 = .ok (.iadd, 1) := by decide +kernel
theorem dX2_save_35 : decode cX2_save 35 = .ok (.putfield 196, 3) := by decide +kernel
theorem dX2_save_38 : decode cX2_save 38 = .ok (.return_, 1) := by decide +kernel
theorem dX2_dropOldest_0 : decode cX2_dropOldest 0 = .ok (.aload_n 0, 1) := by decide +kernel
theorem dX2_dropOldest_1 : decode cX2_dropOldest 1 = .ok (.getfield 19, 3) := by decide +kernel
theorem dX2_dropOldest_4 : decode cX2_dropOldest 4 = .ok (.iconst 0, 1) := by decide +kernel
theorem dX2_dropOldest_5 : decode cX2_dropOldest 5 = .ok (.aaload, 1) := by decide +kernel
theorem dX2_dropOldest_6 : decode cX2_dropOldest 6 = .ok (.astore_n 1, 1) := by decide +kernel
theorem dX2_dropOldest_7 : decode cX2_dropOldest 7 = .ok (.iconst 1, 1) := by decide +kernel
theorem dX2_dropOldest_8 : decode cX2_dropOldest 8 = .ok (.istore_n 2, 1) := by decide +kernel
theorem dX2_dropOldest_9 : decode cX2_dropOldest 9 = .ok (.iload_n 2, 1) := by decide +kernel
theorem dX2_dropOldest_10 : decode cX2_dropOldest 10 = .ok (.iconst 4, 1) := by decide +kernel
theorem dX2_dropOldest_11 : decode cX2_dropOldest 11 = .ok (.if_icmp .ge 23, 3) := by decide +kernel
theorem dX2_dropOldest_14 : decode cX2_dropOldest 14 = .ok (.aload_n 0, 1) := by decide +kernel
theorem dX2_dropOldest_15 : decode cX2_dropOldest 15 = .ok (.getfield 19, 3) := by decide +kernel
theorem dX2_dropOldest_18 : decode cX2_dropOldest 18 = .ok (.iload_n 2, 1) := by decide +kernel
theorem dX2_dropOldest_19 : decode cX2_dropOldest 19 = .ok (.iconst 1, 1) := by decide +kernel
theorem dX2_dropOldest_20 : decode cX2_dropOldest 20 = .ok (.isub, 1) := by decide +kernel
theorem dX2_dropOldest_21 : decode cX2_dropOldest 21 = .ok (.aload_n 0, 1) := by decide +kernel
theorem dX2_dropOldest_22 : decode cX2_dropOldest 22 = .ok (.getfield 19, 3) := by decide +kernel
theorem dX2_dropOldest_25 : decode cX2_dropOldest 25 = .ok (.iload_n 2, 1) := by decide +kernel
theorem dX2_dropOldest_26 : decode cX2_dropOldest 26 = .ok (.aaload, 1) := by decide +kernel
theorem dX2_dropOldest_27 : decode cX2_dropOldest 27 = .ok (.aastore, 1) := by decide +kernel
theorem dX2_dropOldest_28 : decode cX2_dropOldest 28 = .ok (.iinc 2 1, 3) := by decide +kernel
theorem dX2_dropOldest_31 : decode cX2_dropOldest 31 = .ok (.goto (-22), 3) := by decide +kernel
theorem dX2_dropOldest_34 : decode cX2_dropOldest 34 = .ok (.aload_n 0, 1) := by decide +kernel
theorem dX2_dropOldest_35 : decode cX2_dropOldest 35 = .ok (.getfield 19, 3) := by decide +kernel
theorem dX2_dropOldest_38 : decode cX2_dropOldest 38 = .ok (.iconst 3, 1) := by decide +kernel
theorem dX2_dropOldest_39 : decode cX2_dropOldest 39 = .ok (.aload_n 1, 1) := by decide +kernel
theorem dX2_dropOldest_40 : decode cX2_dropOldest 40 = .ok (.aastore, 1) := by decide +kernel
theorem dX2_dropOldest_41 : decode cX2_dropOldest 41 = .ok (.aload_n 0, 1) := by decide +kernel
theorem dX2_dropOldest_42 : decode cX2_dropOldest 42 = .ok (.dup, 1) := by decide +kernel
theorem dX2_dropOldest_43 : decode cX2_dropOldest 43 = .ok (.getfield 196, 3) := by decide +kernel
theorem dX2_dropOldest_46 : decode cX2_dropOldest 46 = .ok (.iconst 1, 1) := by decide +kernel
theorem dX2_dropOldest_47 : decode cX2_dropOldest 47 = .ok (.isub, 1) := by decide +kernel
theorem dX2_dropOldest_48 : decode cX2_dropOldest 48 = .ok (.putfield 196, 3) := by decide +kernel
theorem dX2_dropOldest_51 : decode cX2_dropOldest 51 = .ok (.return_, 1) := by decide +kernel
theorem dX2_bidIndex_0 : decode cX2_bidIndex 0 = .ok (.iload_n 1, 1) := by decide +kernel
theorem dX2_bidIndex_1 : decode cX2_bidIndex 1 = .ok (.bipush 8, 2) := by decide +kernel
theorem dX2_bidIndex_3 : decode cX2_bidIndex 3 = .ok (.imul, 1) := by decide +kernel
theorem dX2_bidIndex_4 : decode cX2_bidIndex 4 = .ok (.iload_n 0, 1) := by decide +kernel
theorem dX2_bidIndex_5 : decode cX2_bidIndex 5 = .ok (.iadd, 1) := by decide +kernel
theorem dX2_bidIndex_6 : decode cX2_bidIndex 6 = .ok (.ireturn, 1) := by decide +kernel
theorem dJ13_bitCount_95d88_0 : decode cJ13_bitCount_95d88 0 = .ok (.lload_n 0, 1) := by decide +kernel
theorem dJ13_bitCount_95d88_1 : decode cJ13_bitCount_95d88 1 = .ok (.lload_n 0, 1) := by decide +kernel
theorem dJ13_bitCount_95d88_2 : decode cJ13_bitCount_95d88 2 = .ok (.iconst 1, 1) := by decide +kernel
theorem dJ13_bitCount_95d88_3 : decode cJ13_bitCount_95d88 3 = .ok (.lushr, 1) := by decide +kernel
theorem dJ13_bitCount_95d88_4 : decode cJ13_bitCount_95d88 4 = .ok (.ldc2_w 314, 3) := by decide +kernel
theorem dJ13_bitCount_95d88_7 : decode cJ13_bitCount_95d88 7 = .ok (.land, 1) := by decide +kernel
theorem dJ13_bitCount_95d88_8 : decode cJ13_bitCount_95d88 8 = .ok (.lsub, 1) := by decide +kernel
theorem dJ13_bitCount_95d88_9 : decode cJ13_bitCount_95d88 9 = .ok (.lstore_n 0, 1) := by decide +kernel
theorem dJ13_bitCount_95d88_10 : decode cJ13_bitCount_95d88 10 = .ok (.lload_n 0, 1) := by decide +kernel
theorem dJ13_bitCount_95d88_11 : decode cJ13_bitCount_95d88 11 = .ok (.ldc2_w 316, 3) := by decide +kernel
theorem dJ13_bitCount_95d88_14 : decode cJ13_bitCount_95d88 14 = .ok (.land, 1) := by decide +kernel
theorem dJ13_bitCount_95d88_15 : decode cJ13_bitCount_95d88 15 = .ok (.lload_n 0, 1) := by decide +kernel
theorem dJ13_bitCount_95d88_16 : decode cJ13_bitCount_95d88 16 = .ok (.iconst 2, 1) := by decide +kernel
theorem dJ13_bitCount_95d88_17 : decode cJ13_bitCount_95d88 17 = .ok (.lushr, 1) := by decide +kernel
theorem dJ13_bitCount_95d88_18 : decode cJ13_bitCount_95d88 18 = .ok (.ldc2_w 316, 3) := by decide +kernel
theorem dJ13_bitCount_95d88_21 : decode cJ13_bitCount_95d88 21 = .ok (.land, 1) := by decide +kernel
theorem dJ13_bitCount_95d88_22 : decode cJ13_bitCount_95d88 22 = .ok (.ladd, 1) := by decide +kernel
theorem dJ13_bitCount_95d88_23 : decode cJ13_bitCount_95d88 23 = .ok (.lstore_n 0, 1) := by decide +kernel
theorem dJ13_bitCount_95d88_24 : decode cJ13_bitCount_95d88 24 = .ok (.lload_n 0, 1) := by decide +kernel
theorem dJ13_bitCount_95d88_25 : decode cJ13_bitCount_95d88 25 = .ok (.lload_n 0, 1) := by decide +kernel
theorem dJ13_bitCount_95d88_26 : decode cJ13_bitCount_95d88 26 = .ok (.iconst 4, 1) := by decide +kernel
theorem dJ13_bitCount_95d88_27 : decode cJ13_bitCount_95d88 27 = .ok (.lushr, 1) := by decide +kernel
theorem dJ13_bitCount_95d88_28 : decode cJ13_bitCount_95d88 28 = .ok (.ladd, 1) := by decide +kernel
theorem dJ13_bitCount_95d88_29 : decode cJ13_bitCount_95d88 29 = .ok (.ldc2_w 318, 3) := by decide +kernel
theorem dJ13_bitCount_95d88_32 : decode cJ13_bitCount_95d88 32 = .ok (.land, 1) := by decide +kernel
theorem dJ13_bitCount_95d88_33 : decode cJ13_bitCount_95d88 33 = .ok (.lstore_n 0, 1) := by decide +kernel
theorem dJ13_bitCount_95d88_34 : decode cJ13_bitCount_95d88 34 = .ok (.lload_n 0, 1) := by decide +kernel
theorem dJ13_bitCount_95d88_35 : decode cJ13_bitCount_95d88 35 = .ok (.lload_n 0, 1) := by decide +kernel
theorem dJ13_bitCount_95d88_36 : decode cJ13_bitCount_95d88 36 = .ok (.bipush 8, 2) := by decide +kernel
theorem dJ13_bitCount_95d88_38 : decode cJ13_bitCount_95d88 38 = .ok (.lushr, 1) := by decide +kernel
theorem dJ13_bitCount_95d88_39 : decode cJ13_bitCount_95d88 39 = .ok (.ladd, 1) := by decide +kernel
theorem dJ13_bitCount_95d88_40 : decode cJ13_bitCount_95d88 40 = .ok (.lstore_n 0, 1) := by decide +kernel
theorem dJ13_bitCount_95d88_41 : decode cJ13_bitCount_95d88 41 = .ok (.lload_n 0, 1) := by decide +kernel
theorem dJ13_bitCount_95d88_42 : decode cJ13_bitCount_95d88 42 = .ok (.lload_n 0, 1) := by decide +kernel
theorem dJ13_bitCount_95d88_43 : decode cJ13_bitCount_95d88 43 = .ok (.bipush 16, 2) := by decide +kernel
theorem dJ13_bitCount_95d88_45 : decode cJ13_bitCount_95d88 45 = .ok (.lushr, 1) := by decide +kernel
theorem dJ13_bitCount_95d88_46 : decode cJ13_bitCount_95d88 46 = .ok (.ladd, 1) := by decide +kernel
theorem dJ13_bitCount_95d88_47 : decode cJ13_bitCount_95d88 47 = .ok (.lstore_n 0, 1) := by decide +kernel
theorem dJ13_bitCount_95d88_48 : decode cJ13_bitCount_95d88 48 = .ok (.lload_n 0, 1) := by decide +kernel
theorem dJ13_bitCount_95d88_49 : decode cJ13_bitCount_95d88 49 = .ok (.lload_n 0, 1) := by decide +kernel
theorem dJ13_bitCount_95d88_50 : decode cJ13_bitCount_95d88 50 = .ok (.bipush 32, 2) := by decide +kernel
theorem dJ13_bitCount_95d88_52 : decode cJ13_bitCount_95d88 52 = .ok (.lushr, 1) := by decide +kernel
theorem dJ13_bitCount_95d88_53 : decode cJ13_bitCount_95d88 53 = .ok (.ladd, 1) := by decide +kernel
theorem dJ13_bitCount_95d88_54 : decode cJ13_bitCount_95d88 54 = .ok (.lstore_n 0, 1) := by decide +kernel
theorem dJ13_bitCount_95d88_55 : decode cJ13_bitCount_95d88 55 = .ok (.lload_n 0, 1) := by decide +kernel
theorem dJ13_bitCount_95d88_56 : decode cJ13_bitCount_95d88 56 = .ok (.l2i, 1) := by decide +kernel
theorem dJ13_bitCount_95d88_57 : decode cJ13_bitCount_95d88 57 = .ok (.bipush 127, 2) := by decide +kernel
theorem dJ13_bitCount_95d88_59 : decode cJ13_bitCount_95d88 59 = .ok (.iand, 1) := by decide +kernel
theorem dJ13_bitCount_95d88_60 : decode cJ13_bitCount_95d88 60 = .ok (.ireturn, 1) := by decide +kernel
theorem dJ9_max_7cf53_0 : decode cJ9_max_7cf53 0 = .ok (.iload_n 0, 1) := by decide +kernel
theorem dJ9_max_7cf53_1 : decode cJ9_max_7cf53 1 = .ok (.iload_n 1, 1) := by decide +kernel
theorem dJ9_max_7cf53_2 : decode cJ9_max_7cf53 2 = .ok (.if_icmp .lt 7, 3) := by decide +kernel
theorem dJ9_max_7cf53_5 : decode cJ9_max_7cf53 5 = .ok (.iload_n 0, 1) := by decide +kernel
theorem dJ9_max_7cf53_6 : decode cJ9_max_7cf53 6 = .ok (.goto 4, 3) := by decide +kernel
theorem dJ9_max_7cf53_9 : decode cJ9_max_7cf53 9 = .ok (.iload_n 1, 1) := by decide +kernel
theorem dJ9_max_7cf53_10 : decode cJ9_max_7cf53 10 = .ok (.ireturn, 1) := by decide +kernel
theorem dJ9_min_7cf53_0 : decode cJ9_min_7cf53 0 = .ok (.iload_n 0, 1) := by decide +kernel
theorem dJ9_min_7cf53_1 : decode cJ9_min_7cf53 1 = .ok (.iload_n 1, 1) := by decide +kernel
theorem dJ9_min_7cf53_2 : decode cJ9_min_7cf53 2 = .ok (.if_icmp .gt 7, 3) := by decide +kernel
theorem dJ9_min_7cf53_5 : decode cJ9_min_7cf53 5 = .ok (.iload_n 0, 1) := by decide +kernel
theorem dJ9_min_7cf53_6 : decode cJ9_min_7cf53 6 = .ok (.goto 4, 3) := by decide +kernel
theorem dJ9_min_7cf53_9 : decode cJ9_min_7cf53 9 = .ok (.iload_n 1, 1) := by decide +kernel
theorem dJ9_min_7cf53_10 : decode cJ9_min_7cf53 10 = .ok (.ireturn, 1) := by decide +kernel
theorem dL_cell_0 : decode cL_cell 0 = .ok (.iload_n 1, 1) := by decide +kernel
theorem dL_cell_1 : decode cL_cell 1 = .ok (.aload_n 0, 1) := by decide +kernel
theorem dL_cell_2 : decode cL_cell 2 = .ok (.arraylength, 1) := by decide +kernel
theorem dL_cell_3 : decode cL_cell 3 = .ok (.if_icmp .ge 9, 3) := by decide +kernel
theorem dL_cell_6 : decode cL_cell 6 = .ok (.aload_n 0, 1) := by decide +kernel
theorem dL_cell_7 : decode cL_cell 7 = .ok (.iload_n 1, 1) := by decide +kernel
theorem dL_cell_8 : decode cL_cell 8 = .ok (.iaload, 1) := by decide +kernel
theorem dL_cell_9 : decode cL_cell 9 = .ok (.goto 9, 3) := by decide +kernel
theorem dL_cell_12 : decode cL_cell 12 = .ok (.ldc 7, 2) := by decide +kernel
theorem dL_cell_14 : decode cL_cell 14 = .ok (.iload_n 1, 1) := by decide +kernel
theorem dL_cell_15 : decode cL_cell 15 = .ok (.iconst 3, 1) := by decide +kernel
theorem dL_cell_16 : decode cL_cell 16 = .ok (.iadd, 1) := by decide +kernel
theorem dL_cell_17 : decode cL_cell 17 = .ok (.imul, 1) := by decide +kernel
theorem dL_cell_18 : decode cL_cell 18 = .ok (.ireturn, 1) := by decide +kernel
theorem dL_up_0 : decode cL_up 0 = .ok (.iload_n 0, 1) := by decide +kernel
theorem dL_up_1 : decode cL_up 1 = .ok (.ldc 8, 2) := by decide +kernel
theorem dL_up_3 : decode cL_up 3 = .ok (.iand, 1) := by decide +kernel
theorem dL_up_4 : decode cL_up 4 = .ok (.iload_n 1, 1) := by decide +kernel
theorem dL_up_5 : decode cL_up 5 = .ok (.irem, 1) := by decide +kernel
theorem dL_up_6 : decode cL_up 6 = .ok (.ireturn, 1) := by decide +kernel
theorem dL_some_0 : decode cL_some 0 = .ok (.iload_n 0, 1) := by decide +kernel
theorem dL_some_1 : decode cL_some 1 = .ok (.i2l, 1) := by decide +kernel
theorem dL_some_2 : decode cL_some 2 = .ok (.bipush 16, 2) := by decide +kernel
theorem dL_some_4 : decode cL_some 4 = .ok (.lshl, 1) := by decide +kernel
theorem dL_some_5 : decode cL_some 5 = .ok (.iload_n 1, 1) := by decide +kernel
theorem dL_some_6 : decode cL_some 6 = .ok (.i2l, 1) := by decide +kernel
theorem dL_some_7 : decode cL_some 7 = .ok (.ldc2_w 9, 3) := by decide +kernel
theorem dL_some_10 : decode cL_some 10 = .ok (.land, 1) := by decide +kernel
theorem dL_some_11 : decode cL_some 11 = .ok (.lxor, 1) := by decide +kernel
theorem dL_some_12 : decode cL_some 12 = .ok (.iload_n 1, 1) := by decide +kernel
theorem dL_some_13 : decode cL_some 13 = .ok (.i2l, 1) := by decide +kernel
theorem dL_some_14 : decode cL_some 14 = .ok (.ldc2_w 11, 3) := by decide +kernel
theorem dL_some_17 : decode cL_some 17 = .ok (.lmul, 1) := by decide +kernel
theorem dL_some_18 : decode cL_some 18 = .ok (.land, 1) := by decide +kernel
theorem dL_some_19 : decode cL_some 19 = .ok (.ldc2_w 13, 3) := by decide +kernel
theorem dL_some_22 : decode cL_some 22 = .ok (.land, 1) := by decide +kernel
theorem dL_some_23 : decode cL_some 23 = .ok (.lreturn, 1) := by decide +kernel
set_option maxRecDepth 20000 in
theorem ggL_view_X2_value : GoodIn wsL_view wsX2_value := goodIn_ca (goodIn_r _ [7, 8, 9, 10, 6, 11, 12, 13, 14, 15, 16, 17, 18, 19, 20, 21, 22, 23, 24, 25, 26, 27, 28, 29, 30, 31, 32, 33, 34, 35, 36, 37, 38, 39, 40, 41, 42, 43, 44, 45, 46, 47, 48, 49, 50, 51, 52, 53, 54, 55, 56, 57, 58, 149, 150, 151, 152, 153, 154, 155, 156, 157, 158, 159, 160, 161, 162, 163, 164, 165, 166, 167, 168] (by decide +kernel) (by decide +kernel)) (goodIn_sub (fun _ h => List.mem_cons_of_mem _ (List.mem_append_left _ (List.mem_append_right _ h))) (by decide +kernel))
set_option maxRecDepth 20000 in
theorem gL_view_X2_value : GoodIn wsL_view (wsV RL 19 RX2 yX2_value wsX2_value) := goodIn_app (goodIn_of _ (by decide +kernel)) ggL_view_X2_value
set_option maxRecDepth 20000 in
theorem ggL_view_X2_setting : GoodIn wsL_view wsX2_setting := goodIn_ca (goodIn_r _ [62, 8, 63, 9, 10, 6, 11, 12, 13, 149, 150, 151, 152, 153, 154, 155, 156, 157, 158, 159, 160, 161, 162, 163, 164, 165, 166, 167, 168] (by decide +kernel) (by decide +kernel)) (goodIn_sub (fun _ h => List.mem_cons_of_mem _ (List.mem_append_left _ (List.mem_append_right _ h))) (by decide +kernel))
set_option maxRecDepth 20000 in
theorem gL_view_X2_setting : GoodIn wsL_view (wsV RL 25 RX2 yX2_setting wsX2_setting) := goodIn_app (goodIn_of _ (by decide +kernel)) ggL_view_X2_setting
set_option maxRecDepth 20000 in
theorem ggL_view_X2_person : GoodIn wsL_view wsX2_person := goodIn_ca (goodIn_ca (goodIn_r _ [67, 8, 68, 69, 70, 6, 71, 72, 73, 74, 75, 76, 17, 77, 19, 9, 10, 11, 12, 13, 78, 79, 80, 81, 82, 83, 84, 31, 85, 86, 87, 88, 89, 90, 91, 92, 93, 94, 95, 96, 97, 98, 99, 100, 101, 20, 51, 52, 53, 149, 150, 151, 152, 153, 154, 155, 156, 157, 158, 159, 160, 161, 162, 163, 164, 165, 166, 167, 168] (by decide +kernel) (by decide +kernel)) (goodIn_sub (fun _ h => List.mem_cons_of_mem _ (List.mem_append_right _ h)) (by decide +kernel))) (goodIn_sub (fun _ h => List.mem_cons_of_mem _ (List.mem_append_left _ (List.mem_append_right _ h))) (by decide +kernel))
set_option maxRecDepth 20000 in
theorem gL_view_X2_person : GoodIn wsL_view (wsV RL 28 RX2 yX2_person wsX2_person) := goodIn_app (goodIn_of _ (by decide +kernel)) ggL_view_X2_person
set_option maxRecDepth 20000 in
theorem ggL_view_X2_work : GoodIn wsL_view wsX2_work := goodIn_ca (goodIn_r _ [105, 8, 68, 69, 70, 6, 71, 72, 73, 74, 75, 76, 17, 77, 19, 106, 94, 95, 96, 82, 83, 97, 84, 149, 150, 151, 152, 153, 154, 155, 156, 157, 158, 159, 160, 161, 162, 163, 164, 165, 166, 167, 168] (by decide +kernel) (by decide +kernel)) (goodIn_sub (fun _ h => List.mem_cons_of_mem _ (List.mem_append_right _ h)) (by decide +kernel))
set_option maxRecDepth 20000 in
theorem gL_view_X2_work : GoodIn wsL_view (wsV RL 32 RX2 yX2_work wsX2_work) := goodIn_app (goodIn_of _ (by decide +kernel)) ggL_view_X2_work
set_option maxRecDepth 20000 in
theorem ggL_view_X2_absence : GoodIn wsL_view wsX2_absence := goodIn_ca (goodIn_ca (goodIn_r _ [110, 8, 111, 112, 113, 6, 114, 72, 73, 115, 116, 117, 17, 118, 20, 9, 10, 11, 12, 13, 119, 120, 121, 122, 123, 124, 26, 125, 58, 47, 48, 49, 50, 19, 51, 52, 53, 126, 127, 128, 129, 130, 131, 132, 133, 83, 93, 94, 95, 96, 82, 97, 84, 134, 135, 136, 137, 138, 139, 140, 141, 142, 149, 150, 151, 152, 153, 154, 155, 156, 157, 158, 159, 160, 161, 162, 163, 164, 165, 166, 167, 168] (by decide +kernel) (by decide +kernel)) (goodIn_sub (fun _ h => List.mem_cons_of_mem _ (List.mem_append_right _ h)) (by decide +kernel))) (goodIn_sub (fun _ h => List.mem_cons_of_mem _ (List.mem_append_left _ (List.mem_append_right _ h))) (by decide +kernel))
set_option maxRecDepth 20000 in
theorem gL_view_X2_absence : GoodIn wsL_view (wsV RL 36 RX2 yX2_absence wsX2_absence) := goodIn_app (goodIn_of _ (by decide +kernel)) ggL_view_X2_absence
set_option maxRecDepth 20000 in
theorem ggL_view_X2_bidOf : GoodIn wsL_view wsX2_bidOf := goodIn_ca (goodIn_r _ [146, 8, 147, 68, 69, 70, 6, 71, 72, 73, 74, 75, 76, 17, 77, 19, 111, 112, 113, 114, 115, 116, 117, 118, 20, 148, 52, 53, 149, 150, 151, 152, 153, 154, 155, 156, 157, 158, 159, 160, 161, 162, 163, 164, 165, 166, 167, 168] (by decide +kernel) (by decide +kernel)) (goodIn_sub (fun _ h => List.mem_cons_of_mem _ (List.mem_append_right _ h)) (by decide +kernel))
set_option maxRecDepth 20000 in
theorem gL_view_X2_bidOf : GoodIn wsL_view (wsV RL 39 RX2 yX2_bidOf wsX2_bidOf) := goodIn_app (goodIn_of _ (by decide +kernel)) ggL_view_X2_bidOf
theorem dL_view_0 : decode cL_view 0 = .ok (.ldc2_w 15, 3) := by decide +kernel
theorem dL_view_3 : decode cL_view 3 = .ok (.lstore_n 1, 1) := by decide +kernel
theorem dL_view_4 : decode cL_view 4 = .ok (.iconst 0, 1) := by decide +kernel
theorem dL_view_5 : decode cL_view 5 = .ok (.istore_n 3, 1) := by decide +kernel
theorem dL_view_6 : decode cL_view 6 = .ok (.iload_n 3, 1) := by decide +kernel
theorem dL_view_7 : decode cL_view 7 = .ok (.bipush 11, 2) := by decide +kernel
theorem dL_view_9 : decode cL_view 9 = .ok (.if_icmp .ge 22, 3) := by decide +kernel
theorem dL_view_12 : decode cL_view 12 = .ok (.ldc2_w 17, 3) := by decide +kernel
theorem dL_view_15 : decode cL_view 15 = .ok (.lload_n 1, 1) := by decide +kernel
theorem dL_view_16 : decode cL_view 16 = .ok (.lmul, 1) := by decide +kernel
theorem dL_view_17 : decode cL_view 17 = .ok (.aload_n 0, 1) := by decide +kernel
theorem dL_view_18 : decode cL_view 18 = .ok (.iload_n 3, 1) := by decide +kernel
theorem dL_view_19 : decode cL_view 19 = .ok (.invokevirtual 19, 3) := by decide +kernel
theorem dL_view_22 : decode cL_view 22 = .ok (.i2l, 1) := by decide +kernel
theorem dL_view_23 : decode cL_view 23 = .ok (.ladd, 1) := by decide +kernel
theorem dL_view_24 : decode cL_view 24 = .ok (.lstore_n 1, 1) := by decide +kernel
theorem dL_view_25 : decode cL_view 25 = .ok (.iinc 3 1, 3) := by decide +kernel
theorem dL_view_28 : decode cL_view 28 = .ok (.goto (-22), 3) := by decide +kernel
theorem dL_view_31 : decode cL_view 31 = .ok (.iconst 0, 1) := by decide +kernel
theorem dL_view_32 : decode cL_view 32 = .ok (.istore_n 3, 1) := by decide +kernel
theorem dL_view_33 : decode cL_view 33 = .ok (.iload_n 3, 1) := by decide +kernel
theorem dL_view_34 : decode cL_view 34 = .ok (.iconst 3, 1) := by decide +kernel
theorem dL_view_35 : decode cL_view 35 = .ok (.if_icmp .ge 22, 3) := by decide +kernel
theorem dL_view_38 : decode cL_view 38 = .ok (.ldc2_w 17, 3) := by decide +kernel
theorem dL_view_41 : decode cL_view 41 = .ok (.lload_n 1, 1) := by decide +kernel
theorem dL_view_42 : decode cL_view 42 = .ok (.lmul, 1) := by decide +kernel
theorem dL_view_43 : decode cL_view 43 = .ok (.aload_n 0, 1) := by decide +kernel
theorem dL_view_44 : decode cL_view 44 = .ok (.iload_n 3, 1) := by decide +kernel
theorem dL_view_45 : decode cL_view 45 = .ok (.invokevirtual 25, 3) := by decide +kernel
theorem dL_view_48 : decode cL_view 48 = .ok (.i2l, 1) := by decide +kernel
theorem dL_view_49 : decode cL_view 49 = .ok (.ladd, 1) := by decide +kernel
theorem dL_view_50 : decode cL_view 50 = .ok (.lstore_n 1, 1) := by decide +kernel
theorem dL_view_51 : decode cL_view 51 = .ok (.iinc 3 1, 3) := by decide +kernel
theorem dL_view_54 : decode cL_view 54 = .ok (.goto (-21), 3) := by decide +kernel
theorem dL_view_57 : decode cL_view 57 = .ok (.iconst 0, 1) := by decide +kernel
theorem dL_view_58 : decode cL_view 58 = .ok (.istore_n 3, 1) := by decide +kernel
theorem dL_view_59 : decode cL_view 59 = .ok (.iload_n 3, 1) := by decide +kernel
theorem dL_view_60 : decode cL_view 60 = .ok (.aload_n 0, 1) := by decide +kernel
theorem dL_view_61 : decode cL_view 61 = .ok (.iconst 0, 1) := by decide +kernel
theorem dL_view_62 : decode cL_view 62 = .ok (.invokevirtual 19, 3) := by decide +kernel
theorem dL_view_65 : decode cL_view 65 = .ok (.if_icmp .ge 52, 3) := by decide +kernel
theorem dL_view_68 : decode cL_view 68 = .ok (.iconst 0, 1) := by decide +kernel
theorem dL_view_69 : decode cL_view 69 = .ok (.istore 4, 2) := by decide +kernel
theorem dL_view_71 : decode cL_view 71 = .ok (.iload 4, 2) := by decide +kernel
theorem dL_view_73 : decode cL_view 73 = .ok (.bipush 7, 2) := by decide +kernel
theorem dL_view_75 : decode cL_view 75 = .ok (.if_icmp .ge 24, 3) := by decide +kernel
theorem dL_view_78 : decode cL_view 78 = .ok (.ldc2_w 17, 3) := by decide +kernel
theorem dL_view_81 : decode cL_view 81 = .ok (.lload_n 1, 1) := by decide +kernel
theorem dL_view_82 : decode cL_view 82 = .ok (.lmul, 1) := by decide +kernel
theorem dL_view_83 : decode cL_view 83 = .ok (.aload_n 0, 1) := by decide +kernel
theorem dL_view_84 : decode cL_view 84 = .ok (.iload_n 3, 1) := by decide +kernel
theorem dL_view_85 : decode cL_view 85 = .ok (.iload 4, 2) := by decide +kernel
theorem dL_view_87 : decode cL_view 87 = .ok (.invokevirtual 28, 3) := by decide +kernel
theorem dL_view_90 : decode cL_view 90 = .ok (.i2l, 1) := by decide +kernel
theorem dL_view_91 : decode cL_view 91 = .ok (.ladd, 1) := by decide +kernel
theorem dL_view_92 : decode cL_view 92 = .ok (.lstore_n 1, 1) := by decide +kernel
theorem dL_view_93 : decode cL_view 93 = .ok (.iinc 4 1, 3) := by decide +kernel
theorem dL_view_96 : decode cL_view 96 = .ok (.goto (-25), 3) := by decide +kernel
theorem dL_view_99 : decode cL_view 99 = .ok (.ldc2_w 17, 3) := by decide +kernel
theorem dL_view_102 : decode cL_view 102 = .ok (.lload_n 1, 1) := by decide +kernel
theorem dL_view_103 : decode cL_view 103 = .ok (.lmul, 1) := by decide +kernel
theorem dL_view_104 : decode cL_view 104 = .ok (.aload_n 0, 1) := by decide +kernel
theorem dL_view_105 : decode cL_view 105 = .ok (.iload_n 3, 1) := by decide +kernel
theorem dL_view_106 : decode cL_view 106 = .ok (.invokevirtual 32, 3) := by decide +kernel
theorem dL_view_109 : decode cL_view 109 = .ok (.ladd, 1) := by decide +kernel
theorem dL_view_110 : decode cL_view 110 = .ok (.lstore_n 1, 1) := by decide +kernel
theorem dL_view_111 : decode cL_view 111 = .ok (.iinc 3 1, 3) := by decide +kernel
theorem dL_view_114 : decode cL_view 114 = .ok (.goto (-55), 3) := by decide +kernel
theorem dL_view_117 : decode cL_view 117 = .ok (.iconst 0, 1) := by decide +kernel
theorem dL_view_118 : decode cL_view 118 = .ok (.istore_n 3, 1) := by decide +kernel
theorem dL_view_119 : decode cL_view 119 = .ok (.iload_n 3, 1) := by decide +kernel
theorem dL_view_120 : decode cL_view 120 = .ok (.aload_n 0, 1) := by decide +kernel
theorem dL_view_121 : decode cL_view 121 = .ok (.iconst 1, 1) := by decide +kernel
theorem dL_view_122 : decode cL_view 122 = .ok (.invokevirtual 19, 3) := by decide +kernel
theorem dL_view_125 : decode cL_view 125 = .ok (.if_icmp .ge 74, 3) := by decide +kernel
theorem dL_view_128 : decode cL_view 128 = .ok (.iconst 0, 1) := by decide +kernel
theorem dL_view_129 : decode cL_view 129 = .ok (.istore 4, 2) := by decide +kernel
theorem dL_view_131 : decode cL_view 131 = .ok (.iload 4, 2) := by decide +kernel
theorem dL_view_133 : decode cL_view 133 = .ok (.bipush 7, 2) := by decide +kernel
theorem dL_view_135 : decode cL_view 135 = .ok (.if_icmp .ge 24, 3) := by decide +kernel
theorem dL_view_138 : decode cL_view 138 = .ok (.ldc2_w 17, 3) := by decide +kernel
theorem dL_view_141 : decode cL_view 141 = .ok (.lload_n 1, 1) := by decide +kernel
theorem dL_view_142 : decode cL_view 142 = .ok (.lmul, 1) := by decide +kernel
theorem dL_view_143 : decode cL_view 143 = .ok (.aload_n 0, 1) := by decide +kernel
theorem dL_view_144 : decode cL_view 144 = .ok (.iload_n 3, 1) := by decide +kernel
theorem dL_view_145 : decode cL_view 145 = .ok (.iload 4, 2) := by decide +kernel
theorem dL_view_147 : decode cL_view 147 = .ok (.invokevirtual 36, 3) := by decide +kernel
theorem dL_view_150 : decode cL_view 150 = .ok (.i2l, 1) := by decide +kernel
theorem dL_view_151 : decode cL_view 151 = .ok (.ladd, 1) := by decide +kernel
theorem dL_view_152 : decode cL_view 152 = .ok (.lstore_n 1, 1) := by decide +kernel
theorem dL_view_153 : decode cL_view 153 = .ok (.iinc 4 1, 3) := by decide +kernel
theorem dL_view_156 : decode cL_view 156 = .ok (.goto (-25), 3) := by decide +kernel
theorem dL_view_159 : decode cL_view 159 = .ok (.iconst 0, 1) := by decide +kernel
theorem dL_view_160 : decode cL_view 160 = .ok (.istore 4, 2) := by decide +kernel
theorem dL_view_162 : decode cL_view 162 = .ok (.iload 4, 2) := by decide +kernel
theorem dL_view_164 : decode cL_view 164 = .ok (.aload_n 0, 1) := by decide +kernel
theorem dL_view_165 : decode cL_view 165 = .ok (.iconst 0, 1) := by decide +kernel
theorem dL_view_166 : decode cL_view 166 = .ok (.invokevirtual 19, 3) := by decide +kernel
theorem dL_view_169 : decode cL_view 169 = .ok (.if_icmp .ge 24, 3) := by decide +kernel
theorem dL_view_172 : decode cL_view 172 = .ok (.ldc2_w 17, 3) := by decide +kernel
theorem dL_view_175 : decode cL_view 175 = .ok (.lload_n 1, 1) := by decide +kernel
theorem dL_view_176 : decode cL_view 176 = .ok (.lmul, 1) := by decide +kernel
theorem dL_view_177 : decode cL_view 177 = .ok (.aload_n 0, 1) := by decide +kernel
theorem dL_view_178 : decode cL_view 178 = .ok (.iload 4, 2) := by decide +kernel
theorem dL_view_180 : decode cL_view 180 = .ok (.iload_n 3, 1) := by decide +kernel
theorem dL_view_181 : decode cL_view 181 = .ok (.invokevirtual 39, 3) := by decide +kernel
theorem dL_view_184 : decode cL_view 184 = .ok (.i2l, 1) := by decide +kernel
theorem dL_view_185 : decode cL_view 185 = .ok (.ladd, 1) := by decide +kernel
theorem dL_view_186 : decode cL_view 186 = .ok (.lstore_n 1, 1) := by decide +kernel
theorem dL_view_187 : decode cL_view 187 = .ok (.iinc 4 1, 3) := by decide +kernel
theorem dL_view_190 : decode cL_view 190 = .ok (.goto (-28), 3) := by decide +kernel
theorem dL_view_193 : decode cL_view 193 = .ok (.iinc 3 1, 3) := by decide +kernel
theorem dL_view_196 : decode cL_view 196 = .ok (.goto (-77), 3) := by decide +kernel
theorem dL_view_199 : decode cL_view 199 = .ok (.lload_n 1, 1) := by decide +kernel
theorem dL_view_200 : decode cL_view 200 = .ok (.lreturn, 1) := by decide +kernel
set_option maxRecDepth 20000 in
theorem ggL_any_X2_set : GoodIn wsL_any wsX2_set := goodIn_ca (goodIn_r _ [5, 6, 7, 8, 9, 10, 11, 4, 12, 13, 14, 15, 16, 17, 18, 19, 20, 21, 22, 23, 24, 25, 26, 27, 28, 29, 30, 31, 32, 33, 34, 35, 36, 37, 38, 39, 40, 41, 42, 43, 44, 45, 46, 47, 48, 187, 188, 189, 190, 191, 192, 193, 194, 195, 196, 197, 198, 199, 200, 201, 202, 203, 204, 205, 206] (by decide +kernel) (by decide +kernel)) (goodIn_sub (fun _ h => List.mem_cons_of_mem _ (List.mem_append_left _ (List.mem_append_left _ (List.mem_append_right _ h)))) (by decide +kernel))
set_option maxRecDepth 20000 in
theorem gL_any_X2_set : GoodIn wsL_any (wsV RL 42 RX2 yX2_set wsX2_set) := goodIn_app (goodIn_of _ (by decide +kernel)) ggL_any_X2_set
set_option maxRecDepth 20000 in
theorem ggL_any_X2_addPerson : GoodIn wsL_any wsX2_addPerson := goodIn_ca (goodIn_ca (goodIn_r _ [52, 13, 14, 53, 8, 54, 55, 56, 4, 57, 58, 59, 15, 16, 17, 18, 19, 20, 21, 22, 23, 24, 25, 26, 27, 28, 29, 30, 31, 32, 33, 34, 35, 36, 37, 38, 39, 40, 41, 42, 43, 44, 45, 46, 47, 48, 60, 61, 62, 63, 187, 188, 189, 190, 191, 192, 193, 194, 195, 196, 197, 198, 199, 200, 201, 202, 203, 204, 205, 206] (by decide +kernel) (by decide +kernel)) (goodIn_sub (fun _ h => List.mem_cons_of_mem _ (List.mem_append_left _ (List.mem_append_left _ (List.mem_append_right _ h)))) (by decide +kernel))) (goodIn_sub (fun _ h => List.mem_cons_of_mem _ (List.mem_append_left _ (List.mem_append_right _ h))) (by decide +kernel))
set_option maxRecDepth 20000 in
theorem gL_any_X2_addPerson : GoodIn wsL_any (wsV RL 45 RX2 yX2_addPerson wsX2_addPerson) := goodIn_app (goodIn_of _ (by decide +kernel)) ggL_any_X2_addPerson
set_option maxRecDepth 20000 in
theorem ggL_any_X2_roster : GoodIn wsL_any wsX2_roster := goodIn_ca (goodIn_ca (goodIn_ca (goodIn_r _ [67, 8, 68, 69, 70, 71, 4, 72, 73, 74, 75, 76, 77, 28, 78, 36, 10, 11, 12, 13, 14, 79, 80, 81, 82, 37, 38, 39, 55, 56, 57, 58, 59, 15, 16, 17, 18, 19, 20, 21, 22, 23, 24, 25, 26, 27, 29, 30, 31, 32, 33, 34, 35, 40, 41, 42, 43, 44, 45, 46, 47, 48, 83, 84, 85, 86, 87, 88, 89, 187, 188, 189, 190, 191, 192, 193, 194, 195, 196, 197, 198, 199, 200, 201, 202, 203, 204, 205, 206] (by decide +kernel) (by decide +kernel)) (goodIn_sub (fun _ h => List.mem_cons_of_mem _ (List.mem_append_right _ h)) (by decide +kernel))) (goodIn_sub (fun _ h => List.mem_cons_of_mem _ (List.mem_append_left _ (List.mem_append_left _ (List.mem_append_right _ h)))) (by decide +kernel))) (goodIn_sub (fun _ h => List.mem_cons_of_mem _ (List.mem_append_left _ (List.mem_append_right _ h))) (by decide +kernel))
set_option maxRecDepth 20000 in
theorem gL_any_X2_roster : GoodIn wsL_any (wsV RL 49 RX2 yX2_roster wsX2_roster) := goodIn_app (goodIn_of _ (by decide +kernel)) ggL_any_X2_roster
set_option maxRecDepth 20000 in
theorem ggL_any_X2_absent : GoodIn wsL_any wsX2_absent := goodIn_ca (goodIn_ca (goodIn_ca (goodIn_r _ [93, 8, 69, 70, 71, 4, 72, 73, 74, 75, 76, 77, 28, 78, 36, 10, 11, 12, 13, 14, 94, 95, 96, 97, 37, 38, 98, 42, 55, 56, 57, 58, 59, 15, 16, 17, 18, 19, 20, 21, 22, 23, 24, 25, 26, 27, 29, 30, 31, 32, 33, 34, 35, 39, 40, 41, 43, 44, 45, 46, 47, 48, 99, 100, 101, 102, 103, 104, 105, 106, 107, 108, 187, 188, 189, 190, 191, 192, 193, 194, 195, 196, 197, 198, 199, 200, 201, 202, 203, 204, 205, 206] (by decide +kernel) (by decide +kernel)) (goodIn_sub (fun _ h => List.mem_cons_of_mem _ (List.mem_append_right _ h)) (by decide +kernel))) (goodIn_sub (fun _ h => List.mem_cons_of_mem _ (List.mem_append_left _ (List.mem_append_left _ (List.mem_append_right _ h)))) (by decide +kernel))) (goodIn_sub (fun _ h => List.mem_cons_of_mem _ (List.mem_append_left _ (List.mem_append_right _ h))) (by decide +kernel))
set_option maxRecDepth 20000 in
theorem gL_any_X2_absent : GoodIn wsL_any (wsV RL 53 RX2 yX2_absent wsX2_absent) := goodIn_app (goodIn_of _ (by decide +kernel)) ggL_any_X2_absent
set_option maxRecDepth 20000 in
theorem ggL_any_X2_bid : GoodIn wsL_any wsX2_bid := goodIn_ca (goodIn_ca (goodIn_ca (goodIn_r _ [112, 8, 9, 113, 69, 70, 71, 4, 72, 73, 74, 75, 76, 77, 28, 78, 36, 114, 115, 116, 117, 118, 119, 120, 121, 42, 10, 11, 12, 13, 14, 122, 123, 124, 125, 45, 43, 55, 56, 57, 58, 59, 15, 16, 17, 18, 19, 20, 21, 22, 23, 24, 25, 26, 27, 29, 30, 31, 32, 33, 34, 35, 37, 38, 39, 40, 41, 44, 46, 47, 48, 126, 107, 108, 127, 128, 129, 130, 187, 188, 189, 190, 191, 192, 193, 194, 195, 196, 197, 198, 199, 200, 201, 202, 203, 204, 205, 206] (by decide +kernel) (by decide +kernel)) (goodIn_sub (fun _ h => List.mem_cons_of_mem _ (List.mem_append_right _ h)) (by decide +kernel))) (goodIn_sub (fun _ h => List.mem_cons_of_mem _ (List.mem_append_left _ (List.mem_append_left _ (List.mem_append_right _ h)))) (by decide +kernel))) (goodIn_sub (fun _ h => List.mem_cons_of_mem _ (List.mem_append_left _ (List.mem_append_right _ h))) (by decide +kernel))
set_option maxRecDepth 20000 in
theorem gL_any_X2_bid : GoodIn wsL_any (wsV RL 56 RX2 yX2_bid wsX2_bid) := goodIn_app (goodIn_of _ (by decide +kernel)) ggL_any_X2_bid
set_option maxRecDepth 20000 in
theorem ggL_any_X2_cover : GoodIn wsL_any wsX2_cover := goodIn_ca (goodIn_ca (goodIn_r _ [134, 8, 135, 114, 115, 116, 4, 117, 73, 74, 118, 119, 120, 28, 121, 42, 136, 137, 138, 139, 45, 36, 140, 141, 142, 143, 43, 44, 38, 144, 145, 146, 147, 37, 98, 39, 148, 149, 150, 151, 30, 152, 153, 154, 155, 156, 157, 158, 159, 48, 41, 40, 107, 108, 160, 161, 162, 55, 56, 57, 58, 59, 15, 16, 17, 18, 19, 20, 21, 22, 23, 24, 25, 26, 27, 29, 31, 32, 33, 34, 35, 46, 47, 163, 164, 165, 166, 167, 103, 104, 105, 106, 187, 188, 189, 190, 191, 192, 193, 194, 195, 196, 197, 198, 199, 200, 201, 202, 203, 204, 205, 206] (by decide +kernel) (by decide +kernel)) (goodIn_sub (fun _ h => List.mem_cons_of_mem _ (List.mem_append_right _ h)) (by decide +kernel))) (goodIn_sub (fun _ h => List.mem_cons_of_mem _ (List.mem_append_left _ (List.mem_append_right _ h))) (by decide +kernel))
set_option maxRecDepth 20000 in
theorem gL_any_X2_cover : GoodIn wsL_any (wsV RL 60 RX2 yX2_cover wsX2_cover) := goodIn_app (goodIn_of _ (by decide +kernel)) ggL_any_X2_cover
set_option maxRecDepth 20000 in
theorem ggL_any_X2_handOver : GoodIn wsL_any wsX2_handOver := goodIn_ca (goodIn_ca (goodIn_r _ [171, 8, 135, 114, 115, 116, 4, 117, 73, 74, 118, 119, 120, 28, 121, 42, 69, 70, 71, 72, 75, 76, 77, 78, 36, 172, 173, 174, 175, 45, 176, 141, 142, 143, 43, 44, 38, 144, 145, 146, 147, 37, 98, 39, 148, 149, 150, 151, 30, 152, 153, 154, 155, 55, 56, 57, 58, 59, 15, 16, 17, 18, 19, 20, 21, 22, 23, 24, 25, 26, 27, 29, 31, 32, 33, 34, 35, 40, 41, 46, 47, 48, 177, 178, 179, 180, 187, 188, 189, 190, 191, 192, 193, 194, 195, 196, 197, 198, 199, 200, 201, 202, 203, 204, 205, 206] (by decide +kernel) (by decide +kernel)) (goodIn_sub (fun _ h => List.mem_cons_of_mem _ (List.mem_append_right _ h)) (by decide +kernel))) (goodIn_sub (fun _ h => List.mem_cons_of_mem _ (List.mem_append_left _ (List.mem_append_right _ h))) (by decide +kernel))
set_option maxRecDepth 20000 in
theorem gL_any_X2_handOver : GoodIn wsL_any (wsV RL 63 RX2 yX2_handOver wsX2_handOver) := goodIn_app (goodIn_of _ (by decide +kernel)) ggL_any_X2_handOver
set_option maxRecDepth 20000 in
theorem ggL_any_X2_giveUp : GoodIn wsL_any wsX2_giveUp := goodIn_ca (goodIn_ca (goodIn_r _ [184, 8, 185, 114, 115, 116, 4, 117, 73, 74, 118, 119, 120, 28, 121, 42, 55, 56, 57, 58, 59, 15, 16, 17, 18, 19, 20, 21, 22, 23, 24, 25, 26, 27, 29, 30, 31, 32, 33, 34, 35, 36, 37, 38, 39, 40, 41, 43, 44, 45, 46, 47, 48, 127, 128, 129, 130, 107, 108, 186, 104, 105, 106, 187, 188, 189, 190, 191, 192, 193, 194, 195, 196, 197, 198, 199, 200, 201, 202, 203, 204, 205, 206] (by decide +kernel) (by decide +kernel)) (goodIn_sub (fun _ h => List.mem_cons_of_mem _ (List.mem_append_right _ h)) (by decide +kernel))) (goodIn_sub (fun _ h => List.mem_cons_of_mem _ (List.mem_append_left _ (List.mem_append_right _ h))) (by decide +kernel))
set_option maxRecDepth 20000 in
theorem gL_any_X2_giveUp : GoodIn wsL_any (wsV RL 66 RX2 yX2_giveUp wsX2_giveUp) := goodIn_app (goodIn_of _ (by decide +kernel)) ggL_any_X2_giveUp
theorem dL_any_0 : decode cL_any 0 = .ok (.iload_n 2, 1) := by decide +kernel
theorem dL_any_1 : decode cL_any 1 = .ok (.bipush 7, 2) := by decide +kernel
theorem dL_any_3 : decode cL_any 3 = .ok (.iand, 1) := by decide +kernel
theorem dL_any_4 : decode cL_any 4 = .ok (.tableswitch 97 0 6 #[44, 51, 61, 69, 76, 84, 90], 44) := by decide +kernel
theorem dL_any_48 : decode cL_any 48 = .ok (.aload_n 0, 1) := by decide +kernel
theorem dL_any_49 : decode cL_any 49 = .ok (.iload_n 1, 1) := by decide +kernel
theorem dL_any_50 : decode cL_any 50 = .ok (.iload_n 2, 1) := by decide +kernel
theorem dL_any_51 : decode cL_any 51 = .ok (.invokevirtual 42, 3) := by decide +kernel
theorem dL_any_54 : decode cL_any 54 = .ok (.ireturn, 1) := by decide +kernel
theorem dL_any_55 : decode cL_any 55 = .ok (.aload_n 0, 1) := by decide +kernel
theorem dL_any_56 : decode cL_any 56 = .ok (.iload_n 1, 1) := by decide +kernel
theorem dL_any_57 : decode cL_any 57 = .ok (.i2l, 1) := by decide +kernel
theorem dL_any_58 : decode cL_any 58 = .ok (.iload_n 2, 1) := by decide +kernel
theorem dL_any_59 : decode cL_any 59 = .ok (.i2l, 1) := by decide +kernel
theorem dL_any_60 : decode cL_any 60 = .ok (.lmul, 1) := by decide +kernel
theorem dL_any_61 : decode cL_any 61 = .ok (.invokevirtual 45, 3) := by decide +kernel
theorem dL_any_64 : decode cL_any 64 = .ok (.ireturn, 1) := by decide +kernel
theorem dL_any_65 : decode cL_any 65 = .ok (.aload_n 0, 1) := by decide +kernel
theorem dL_any_66 : decode cL_any 66 = .ok (.iload_n 1, 1) := by decide +kernel
theorem dL_any_67 : decode cL_any 67 = .ok (.iload_n 2, 1) := by decide +kernel
theorem dL_any_68 : decode cL_any 68 = .ok (.iconst 1, 1) := by decide +kernel
theorem dL_any_69 : decode cL_any 69 = .ok (.invokevirtual 49, 3) := by decide +kernel
theorem dL_any_72 : decode cL_any 72 = .ok (.ireturn, 1) := by decide +kernel
theorem dL_any_73 : decode cL_any 73 = .ok (.aload_n 0, 1) := by decide +kernel
theorem dL_any_74 : decode cL_any 74 = .ok (.iload_n 1, 1) := by decide +kernel
theorem dL_any_75 : decode cL_any 75 = .ok (.iload_n 2, 1) := by decide +kernel
theorem dL_any_76 : decode cL_any 76 = .ok (.invokevirtual 53, 3) := by decide +kernel
theorem dL_any_79 : decode cL_any 79 = .ok (.ireturn, 1) := by decide +kernel
theorem dL_any_80 : decode cL_any 80 = .ok (.aload_n 0, 1) := by decide +kernel
theorem dL_any_81 : decode cL_any 81 = .ok (.iload_n 1, 1) := by decide +kernel
theorem dL_any_82 : decode cL_any 82 = .ok (.iload_n 2, 1) := by decide +kernel
theorem dL_any_83 : decode cL_any 83 = .ok (.iload_n 1, 1) := by decide +kernel
theorem dL_any_84 : decode cL_any 84 = .ok (.invokevirtual 56, 3) := by decide +kernel
theorem dL_any_87 : decode cL_any 87 = .ok (.ireturn, 1) := by decide +kernel
theorem dL_any_88 : decode cL_any 88 = .ok (.aload_n 0, 1) := by decide +kernel
theorem dL_any_89 : decode cL_any 89 = .ok (.iload_n 1, 1) := by decide +kernel
theorem dL_any_90 : decode cL_any 90 = .ok (.invokevirtual 60, 3) := by decide +kernel
theorem dL_any_93 : decode cL_any 93 = .ok (.ireturn, 1) := by decide +kernel
theorem dL_any_94 : decode cL_any 94 = .ok (.aload_n 0, 1) := by decide +kernel
theorem dL_any_95 : decode cL_any 95 = .ok (.iload_n 1, 1) := by decide +kernel
theorem dL_any_96 : decode cL_any 96 = .ok (.iload_n 2, 1) := by decide +kernel
theorem dL_any_97 : decode cL_any 97 = .ok (.invokevirtual 63, 3) := by decide +kernel
theorem dL_any_100 : decode cL_any 100 = .ok (.ireturn, 1) := by decide +kernel
theorem dL_any_101 : decode cL_any 101 = .ok (.aload_n 0, 1) := by decide +kernel
theorem dL_any_102 : decode cL_any 102 = .ok (.iload_n 1, 1) := by decide +kernel
theorem dL_any_103 : decode cL_any 103 = .ok (.invokevirtual 66, 3) := by decide +kernel
theorem dL_any_106 : decode cL_any 106 = .ok (.ireturn, 1) := by decide +kernel
set_option maxRecDepth 20000 in
theorem ggL_turn_L_up : GoodIn wsL_turn wsL_up := goodIn_r _ [4, 5] (by decide +kernel) (by decide +kernel)
set_option maxRecDepth 20000 in
theorem gL_turn_L_up : GoodIn wsL_turn (va_wsS RL 69 yL_up wsL_up) := goodIn_app (goodIn_of _ (by decide +kernel)) ggL_turn_L_up
set_option maxRecDepth 20000 in
theorem ggL_turn_X2_set : GoodIn wsL_turn wsX2_set := goodIn_ca (goodIn_r _ [10, 11, 12, 13, 14, 15, 16, 9, 17, 18, 19, 20, 21, 22, 23, 24, 25, 26, 27, 28, 29, 30, 31, 32, 33, 34, 35, 36, 37, 38, 39, 40, 41, 42, 43, 44, 45, 46, 47, 48, 49, 50, 51, 52, 53, 214, 215, 216, 217, 218, 219, 220, 221, 222, 223, 224, 225, 226, 227, 228, 229, 230, 231, 232, 233] (by decide +kernel) (by decide +kernel)) (goodIn_sub (fun _ h => List.mem_cons_of_mem _ (List.mem_append_left _ (List.mem_append_left _ (List.mem_append_right _ h)))) (by decide +kernel))
set_option maxRecDepth 20000 in
theorem gL_turn_X2_set : GoodIn wsL_turn (wsV RL 42 RX2 yX2_set wsX2_set) := goodIn_app (goodIn_of _ (by decide +kernel)) ggL_turn_X2_set
set_option maxRecDepth 20000 in
theorem ggL_turn_L_some : GoodIn wsL_turn wsL_some := goodIn_r _ [56, 57, 58, 59] (by decide +kernel) (by decide +kernel)
set_option maxRecDepth 20000 in
theorem gL_turn_L_some : GoodIn wsL_turn (va_wsS RL 74 yL_some wsL_some) := goodIn_app (goodIn_of _ (by decide +kernel)) ggL_turn_L_some
set_option maxRecDepth 20000 in
theorem ggL_turn_X2_addPerson : GoodIn wsL_turn wsX2_addPerson := goodIn_ca (goodIn_ca (goodIn_r _ [63, 18, 19, 64, 13, 65, 66, 67, 9, 68, 69, 70, 20, 21, 22, 23, 24, 25, 26, 27, 28, 29, 30, 31, 32, 33, 34, 35, 36, 37, 38, 39, 40, 41, 42, 43, 44, 45, 46, 47, 48, 49, 50, 51, 52, 53, 71, 72, 73, 74, 214, 215, 216, 217, 218, 219, 220, 221, 222, 223, 224, 225, 226, 227, 228, 229, 230, 231, 232, 233] (by decide +kernel) (by decide +kernel)) (goodIn_sub (fun _ h => List.mem_cons_of_mem _ (List.mem_append_left _ (List.mem_append_left _ (List.mem_append_right _ h)))) (by decide +kernel))) (goodIn_sub (fun _ h => List.mem_cons_of_mem _ (List.mem_append_left _ (List.mem_append_right _ h))) (by decide +kernel))
set_option maxRecDepth 20000 in
theorem gL_turn_X2_addPerson : GoodIn wsL_turn (wsV RL 45 RX2 yX2_addPerson wsX2_addPerson) := goodIn_app (goodIn_of _ (by decide +kernel)) ggL_turn_X2_addPerson
set_option maxRecDepth 20000 in
theorem ggL_turn_X2_roster : GoodIn wsL_turn wsX2_roster := goodIn_ca (goodIn_ca (goodIn_ca (goodIn_r _ [78, 13, 79, 80, 81, 82, 9, 83, 84, 85, 86, 87, 88, 33, 89, 41, 15, 16, 17, 18, 19, 90, 91, 92, 93, 42, 43, 44, 66, 67, 68, 69, 70, 20, 21, 22, 23, 24, 25, 26, 27, 28, 29, 30, 31, 32, 34, 35, 36, 37, 38, 39, 40, 45, 46, 47, 48, 49, 50, 51, 52, 53, 94, 95, 96, 97, 98, 99, 100, 214, 215, 216, 217, 218, 219, 220, 221, 222, 223, 224, 225, 226, 227, 228, 229, 230, 231, 232, 233] (by decide +kernel) (by decide +kernel)) (goodIn_sub (fun _ h => List.mem_cons_of_mem _ (List.mem_append_right _ h)) (by decide +kernel))) (goodIn_sub (fun _ h => List.mem_cons_of_mem _ (List.mem_append_left _ (List.mem_append_left _ (List.mem_append_right _ h)))) (by decide +kernel))) (goodIn_sub (fun _ h => List.mem_cons_of_mem _ (List.mem_append_left _ (List.mem_append_right _ h))) (by decide +kernel))
set_option maxRecDepth 20000 in
theorem gL_turn_X2_roster : GoodIn wsL_turn (wsV RL 49 RX2 yX2_roster wsX2_roster) := goodIn_app (goodIn_of _ (by decide +kernel)) ggL_turn_X2_roster
set_option maxRecDepth 20000 in
theorem ggL_turn_X2_absent : GoodIn wsL_turn wsX2_absent := goodIn_ca (goodIn_ca (goodIn_ca (goodIn_r _ [104, 13, 80, 81, 82, 9, 83, 84, 85, 86, 87, 88, 33, 89, 41, 15, 16, 17, 18, 19, 105, 106, 107, 108, 42, 43, 109, 47, 66, 67, 68, 69, 70, 20, 21, 22, 23, 24, 25, 26, 27, 28, 29, 30, 31, 32, 34, 35, 36, 37, 38, 39, 40, 44, 45, 46, 48, 49, 50, 51, 52, 53, 110, 111, 112, 113, 114, 115, 116, 117, 118, 119, 214, 215, 216, 217, 218, 219, 220, 221, 222, 223, 224, 225, 226, 227, 228, 229, 230, 231, 232, 233] (by decide +kernel) (by decide +kernel)) (goodIn_sub (fun _ h => List.mem_cons_of_mem _ (List.mem_append_right _ h)) (by decide +kernel))) (goodIn_sub (fun _ h => List.mem_cons_of_mem _ (List.mem_append_left _ (List.mem_append_left _ (List.mem_append_right _ h)))) (by decide +kernel))) (goodIn_sub (fun _ h => List.mem_cons_of_mem _ (List.mem_append_left _ (List.mem_append_right _ h))) (by decide +kernel))
set_option maxRecDepth 20000 in
theorem gL_turn_X2_absent : GoodIn wsL_turn (wsV RL 53 RX2 yX2_absent wsX2_absent) := goodIn_app (goodIn_of _ (by decide +kernel)) ggL_turn_X2_absent
set_option maxRecDepth 20000 in
theorem ggL_turn_X2_bid : GoodIn wsL_turn wsX2_bid := goodIn_ca (goodIn_ca (goodIn_ca (goodIn_r _ [123, 13, 14, 124, 80, 81, 82, 9, 83, 84, 85, 86, 87, 88, 33, 89, 41, 125, 126, 127, 128, 129, 130, 131, 132, 47, 15, 16, 17, 18, 19, 133, 134, 135, 136, 50, 48, 66, 67, 68, 69, 70, 20, 21, 22, 23, 24, 25, 26, 27, 28, 29, 30, 31, 32, 34, 35, 36, 37, 38, 39, 40, 42, 43, 44, 45, 46, 49, 51, 52, 53, 137, 118, 119, 138, 139, 140, 141, 214, 215, 216, 217, 218, 219, 220, 221, 222, 223, 224, 225, 226, 227, 228, 229, 230, 231, 232, 233] (by decide +kernel) (by decide +kernel)) (goodIn_sub (fun _ h => List.mem_cons_of_mem _ (List.mem_append_right _ h)) (by decide +kernel))) (goodIn_sub (fun _ h => List.mem_cons_of_mem _ (List.mem_append_left _ (List.mem_append_left _ (List.mem_append_right _ h)))) (by decide +kernel))) (goodIn_sub (fun _ h => List.mem_cons_of_mem _ (List.mem_append_left _ (List.mem_append_right _ h))) (by decide +kernel))
set_option maxRecDepth 20000 in
theorem gL_turn_X2_bid : GoodIn wsL_turn (wsV RL 56 RX2 yX2_bid wsX2_bid) := goodIn_app (goodIn_of _ (by decide +kernel)) ggL_turn_X2_bid
set_option maxRecDepth 20000 in
theorem ggL_turn_X2_takeBack : GoodIn wsL_turn wsX2_takeBack := goodIn_ca (goodIn_ca (goodIn_r _ [145, 13, 124, 80, 81, 82, 9, 83, 84, 85, 86, 87, 88, 33, 89, 41, 125, 126, 127, 128, 129, 130, 131, 132, 47, 137, 118, 119, 66, 67, 68, 69, 70, 20, 21, 22, 23, 24, 25, 26, 27, 28, 29, 30, 31, 32, 34, 35, 36, 37, 38, 39, 40, 42, 43, 44, 45, 46, 48, 49, 50, 51, 52, 53, 214, 215, 216, 217, 218, 219, 220, 221, 222, 223, 224, 225, 226, 227, 228, 229, 230, 231, 232, 233] (by decide +kernel) (by decide +kernel)) (goodIn_sub (fun _ h => List.mem_cons_of_mem _ (List.mem_append_right _ h)) (by decide +kernel))) (goodIn_sub (fun _ h => List.mem_cons_of_mem _ (List.mem_append_left _ (List.mem_append_right _ h))) (by decide +kernel))
set_option maxRecDepth 20000 in
theorem gL_turn_X2_takeBack : GoodIn wsL_turn (wsV RL 78 RX2 yX2_takeBack wsX2_takeBack) := goodIn_app (goodIn_of _ (by decide +kernel)) ggL_turn_X2_takeBack
set_option maxRecDepth 20000 in
theorem ggL_turn_X2_cover : GoodIn wsL_turn wsX2_cover := goodIn_ca (goodIn_ca (goodIn_r _ [149, 13, 150, 125, 126, 127, 9, 128, 84, 85, 129, 130, 131, 33, 132, 47, 151, 152, 153, 154, 50, 41, 155, 156, 157, 158, 48, 49, 43, 159, 160, 161, 162, 42, 109, 44, 163, 164, 165, 166, 35, 167, 168, 169, 170, 171, 172, 173, 174, 53, 46, 45, 118, 119, 175, 176, 177, 66, 67, 68, 69, 70, 20, 21, 22, 23, 24, 25, 26, 27, 28, 29, 30, 31, 32, 34, 36, 37, 38, 39, 40, 51, 52, 178, 179, 180, 181, 182, 114, 115, 116, 117, 214, 215, 216, 217, 218, 219, 220, 221, 222, 223, 224, 225, 226, 227, 228, 229, 230, 231, 232, 233] (by decide +kernel) (by decide +kernel)) (goodIn_sub (fun _ h => List.mem_cons_of_mem _ (List.mem_append_right _ h)) (by decide +kernel))) (goodIn_sub (fun _ h => List.mem_cons_of_mem _ (List.mem_append_left _ (List.mem_append_right _ h))) (by decide +kernel))
set_option maxRecDepth 20000 in
theorem gL_turn_X2_cover : GoodIn wsL_turn (wsV RL 60 RX2 yX2_cover wsX2_cover) := goodIn_app (goodIn_of _ (by decide +kernel)) ggL_turn_X2_cover
set_option maxRecDepth 20000 in
theorem ggL_turn_X2_coverAll : GoodIn wsL_turn wsX2_coverAll := goodIn_r _ [186, 13, 20, 21, 22, 9, 23, 24, 25, 26, 27, 28, 29, 30, 31, 32, 33, 34, 35, 36, 37, 38, 39, 40, 41, 42, 43, 44, 45, 46, 47, 48, 49, 50, 51, 52, 53, 187, 188, 189, 190, 191, 179, 180, 181, 182, 152, 153, 154, 155, 156, 157, 158, 159, 160, 161, 162, 109, 163, 164, 165, 166, 167, 168, 169, 170, 171, 172, 173, 174, 118, 119, 175, 176, 177, 114, 115, 116, 117, 214, 215, 216, 217, 218, 219, 220, 221, 222, 223, 224, 225, 226, 227, 228, 229, 230, 231, 232, 233] (by decide +kernel) (by decide +kernel)
set_option maxRecDepth 20000 in
theorem gL_turn_X2_coverAll : GoodIn wsL_turn (wsV RL 81 RX2 yX2_coverAll wsX2_coverAll) := goodIn_app (goodIn_of _ (by decide +kernel)) ggL_turn_X2_coverAll
set_option maxRecDepth 20000 in
theorem ggL_turn_X2_handOver : GoodIn wsL_turn wsX2_handOver := goodIn_ca (goodIn_ca (goodIn_r _ [195, 13, 150, 125, 126, 127, 9, 128, 84, 85, 129, 130, 131, 33, 132, 47, 80, 81, 82, 83, 86, 87, 88, 89, 41, 196, 197, 198, 199, 50, 200, 156, 157, 158, 48, 49, 43, 159, 160, 161, 162, 42, 109, 44, 163, 164, 165, 166, 35, 167, 168, 169, 170, 66, 67, 68, 69, 70, 20, 21, 22, 23, 24, 25, 26, 27, 28, 29, 30, 31, 32, 34, 36, 37, 38, 39, 40, 45, 46, 51, 52, 53, 201, 202, 203, 204, 214, 215, 216, 217, 218, 219, 220, 221, 222, 223, 224, 225, 226, 227, 228, 229, 230, 231, 232, 233] (by decide +kernel) (by decide +kernel)) (goodIn_sub (fun _ h => List.mem_cons_of_mem _ (List.mem_append_right _ h)) (by decide +kernel))) (goodIn_sub (fun _ h => List.mem_cons_of_mem _ (List.mem_append_left _ (List.mem_append_right _ h))) (by decide +kernel))
set_option maxRecDepth 20000 in
theorem gL_turn_X2_handOver : GoodIn wsL_turn (wsV RL 63 RX2 yX2_handOver wsX2_handOver) := goodIn_app (goodIn_of _ (by decide +kernel)) ggL_turn_X2_handOver
set_option maxRecDepth 20000 in
theorem ggL_turn_X2_giveUp : GoodIn wsL_turn wsX2_giveUp := goodIn_ca (goodIn_ca (goodIn_r _ [208, 13, 209, 125, 126, 127, 9, 128, 84, 85, 129, 130, 131, 33, 132, 47, 66, 67, 68, 69, 70, 20, 21, 22, 23, 24, 25, 26, 27, 28, 29, 30, 31, 32, 34, 35, 36, 37, 38, 39, 40, 41, 42, 43, 44, 45, 46, 48, 49, 50, 51, 52, 53, 138, 139, 140, 141, 118, 119, 210, 115, 116, 117, 214, 215, 216, 217, 218, 219, 220, 221, 222, 223, 224, 225, 226, 227, 228, 229, 230, 231, 232, 233] (by decide +kernel) (by decide +kernel)) (goodIn_sub (fun _ h => List.mem_cons_of_mem _ (List.mem_append_right _ h)) (by decide +kernel))) (goodIn_sub (fun _ h => List.mem_cons_of_mem _ (List.mem_append_left _ (List.mem_append_right _ h))) (by decide +kernel))
set_option maxRecDepth 20000 in
theorem gL_turn_X2_giveUp : GoodIn wsL_turn (wsV RL 66 RX2 yX2_giveUp wsX2_giveUp) := goodIn_app (goodIn_of _ (by decide +kernel)) ggL_turn_X2_giveUp
set_option maxRecDepth 20000 in
theorem ggL_turn_L_any : GoodIn wsL_turn wsL_any := goodIn_ca (goodIn_ca (goodIn_ca (goodIn_r _ [213, 6, 7, 8, 9, 10, 11, 12, 13, 14, 15, 16, 17, 18, 19, 20, 21, 22, 23, 24, 25, 26, 27, 28, 29, 30, 31, 32, 33, 34, 35, 36, 37, 38, 39, 40, 41, 42, 43, 44, 45, 46, 47, 48, 49, 50, 51, 52, 53, 60, 61, 62, 63, 64, 65, 66, 67, 68, 69, 70, 71, 72, 73, 74, 75, 76, 77, 78, 79, 80, 81, 82, 83, 84, 85, 86, 87, 88, 89, 90, 91, 92, 93, 94, 95, 96, 97, 98, 99, 100, 101, 102, 103, 104, 105, 106, 107, 108, 109, 110, 111, 112, 113, 114, 115, 116, 117, 118, 119, 120, 121, 122, 123, 124, 125, 126, 127, 128, 129, 130, 131, 132, 133, 134, 135, 136, 137, 138, 139, 140, 141, 146, 147, 148, 149, 150, 151, 152, 153, 154, 155, 156, 157, 158, 159, 160, 161, 162, 163, 164, 165, 166, 167, 168, 169, 170, 171, 172, 173, 174, 175, 176, 177, 178, 179, 180, 181, 182, 192, 193, 194, 195, 196, 197, 198, 199, 200, 201, 202, 203, 204, 205, 206, 207, 208, 209, 210, 214, 215, 216, 217, 218, 219, 220, 221, 222, 223, 224, 225, 226, 227, 228, 229, 230, 231, 232, 233] (by decide +kernel) (by decide +kernel)) (goodIn_sub (fun _ h => List.mem_cons_of_mem _ (List.mem_append_left _ (List.mem_append_left _ (List.mem_append_right _ h)))) (by decide +kernel))) (goodIn_sub (fun _ h => List.mem_cons_of_mem _ (List.mem_append_left _ (List.mem_append_right _ h))) (by decide +kernel))) (goodIn_sub (fun _ h => List.mem_cons_of_mem _ (List.mem_append_right _ h)) (by decide +kernel))
set_option maxRecDepth 20000 in
theorem gL_turn_L_any : GoodIn wsL_turn (va_wsS RL 85 yL_any wsL_any) := goodIn_app (goodIn_of _ (by decide +kernel)) ggL_turn_L_any
theorem dL_turn_0 : decode cL_turn 0 = .ok (.iload_n 2, 1) := by decide +kernel
theorem dL_turn_1 : decode cL_turn 1 = .ok (.bipush 6, 2) := by decide +kernel
theorem dL_turn_3 : decode cL_turn 3 = .ok (.invokestatic 69, 3) := by decide +kernel
theorem dL_turn_6 : decode cL_turn 6 = .ok (.istore 4, 2) := by decide +kernel
theorem dL_turn_8 : decode cL_turn 8 = .ok (.iload_n 3, 1) := by decide +kernel
theorem dL_turn_9 : decode cL_turn 9 = .ok (.bipush 8, 2) := by decide +kernel
theorem dL_turn_11 : decode cL_turn 11 = .ok (.invokestatic 69, 3) := by decide +kernel
theorem dL_turn_14 : decode cL_turn 14 = .ok (.istore 5, 2) := by decide +kernel
theorem dL_turn_16 : decode cL_turn 16 = .ok (.iload_n 1, 1) := by decide +kernel
theorem dL_turn_17 : decode cL_turn 17 = .ok (.tableswitch 216 0 14 #[75, 102, 112, 137, 137, 137, 162, 162, 162, 179, 188, 188, 195, 200, 209], 75) := by decide +kernel
theorem dL_turn_92 : decode cL_turn 92 = .ok (.aload_n 0, 1) := by decide +kernel
theorem dL_turn_93 : decode cL_turn 93 = .ok (.iload_n 2, 1) := by decide +kernel
theorem dL_turn_94 : decode cL_turn 94 = .ok (.iconst 3, 1) := by decide +kernel
theorem dL_turn_95 : decode cL_turn 95 = .ok (.invokestatic 69, 3) := by decide +kernel
theorem dL_turn_98 : decode cL_turn 98 = .ok (.iload_n 3, 1) := by decide +kernel
theorem dL_turn_99 : decode cL_turn 99 = .ok (.iload_n 2, 1) := by decide +kernel
theorem dL_turn_100 : decode cL_turn 100 = .ok (.iconst 4, 1) := by decide +kernel
theorem dL_turn_101 : decode cL_turn 101 = .ok (.iand, 1) := by decide +kernel
theorem dL_turn_102 : decode cL_turn 102 = .ok (.ifCond .ne 8, 3) := by decide +kernel
theorem dL_turn_105 : decode cL_turn 105 = .ok (.bipush 6, 2) := by decide +kernel
theorem dL_turn_107 : decode cL_turn 107 = .ok (.goto 5, 3) := by decide +kernel
theorem dL_turn_110 : decode cL_turn 110 = .ok (.bipush 51, 2) := by decide +kernel
theorem dL_turn_112 : decode cL_turn 112 = .ok (.invokestatic 69, 3) := by decide +kernel
theorem dL_turn_115 : decode cL_turn 115 = .ok (.invokevirtual 42, 3) := by decide +kernel
theorem dL_turn_118 : decode cL_turn 118 = .ok (.ireturn, 1) := by decide +kernel
theorem dL_turn_119 : decode cL_turn 119 = .ok (.aload_n 0, 1) := by decide +kernel
theorem dL_turn_120 : decode cL_turn 120 = .ok (.iload_n 2, 1) := by decide +kernel
theorem dL_turn_121 : decode cL_turn 121 = .ok (.iload_n 3, 1) := by decide +kernel
theorem dL_turn_122 : decode cL_turn 122 = .ok (.invokestatic 74, 3) := by decide +kernel
theorem dL_turn_125 : decode cL_turn 125 = .ok (.invokevirtual 45, 3) := by decide +kernel
theorem dL_turn_128 : decode cL_turn 128 = .ok (.ireturn, 1) := by decide +kernel
theorem dL_turn_129 : decode cL_turn 129 = .ok (.aload_n 0, 1) := by decide +kernel
theorem dL_turn_130 : decode cL_turn 130 = .ok (.iload 4, 2) := by decide +kernel
theorem dL_turn_132 : decode cL_turn 132 = .ok (.iload_n 3, 1) := by decide +kernel
theorem dL_turn_133 : decode cL_turn 133 = .ok (.bipush 42, 2) := by decide +kernel
theorem dL_turn_135 : decode cL_turn 135 = .ok (.invokestatic 69, 3) := by decide +kernel
theorem dL_turn_138 : decode cL_turn 138 = .ok (.iload_n 2, 1) := by decide +kernel
theorem dL_turn_139 : decode cL_turn 139 = .ok (.bipush 64, 2) := by decide +kernel
theorem dL_turn_141 : decode cL_turn 141 = .ok (.iand, 1) := by decide +kernel
theorem dL_turn_142 : decode cL_turn 142 = .ok (.ifCond .ne 7, 3) := by decide +kernel
theorem dL_turn_145 : decode cL_turn 145 = .ok (.iconst 1, 1) := by decide +kernel
theorem dL_turn_146 : decode cL_turn 146 = .ok (.goto 4, 3) := by decide +kernel
theorem dL_turn_149 : decode cL_turn 149 = .ok (.iconst 0, 1) := by decide +kernel
theorem dL_turn_150 : decode cL_turn 150 = .ok (.invokevirtual 49, 3) := by decide +kernel
theorem dL_turn_153 : decode cL_turn 153 = .ok (.ireturn, 1) := by decide +kernel
theorem dL_turn_154 : decode cL_turn 154 = .ok (.aload_n 0, 1) := by decide +kernel
theorem dL_turn_155 : decode cL_turn 155 = .ok (.iload 4, 2) := by decide +kernel
theorem dL_turn_157 : decode cL_turn 157 = .ok (.iload_n 3, 1) := by decide +kernel
theorem dL_turn_158 : decode cL_turn 158 = .ok (.iload_n 2, 1) := by decide +kernel
theorem dL_turn_159 : decode cL_turn 159 = .ok (.bipush 64, 2) := by decide +kernel
theorem dL_turn_161 : decode cL_turn 161 = .ok (.iand, 1) := by decide +kernel
theorem dL_turn_162 : decode cL_turn 162 = .ok (.ifCond .ne 8, 3) := by decide +kernel
theorem dL_turn_165 : decode cL_turn 165 = .ok (.bipush 12, 2) := by decide +kernel
theorem dL_turn_167 : decode cL_turn 167 = .ok (.goto 5, 3) := by decide +kernel
theorem dL_turn_170 : decode cL_turn 170 = .ok (.bipush 42, 2) := by decide +kernel
theorem dL_turn_172 : decode cL_turn 172 = .ok (.invokestatic 69, 3) := by decide +kernel
theorem dL_turn_175 : decode cL_turn 175 = .ok (.invokevirtual 53, 3) := by decide +kernel
theorem dL_turn_178 : decode cL_turn 178 = .ok (.ireturn, 1) := by decide +kernel
theorem dL_turn_179 : decode cL_turn 179 = .ok (.aload_n 0, 1) := by decide +kernel
theorem dL_turn_180 : decode cL_turn 180 = .ok (.iload 4, 2) := by decide +kernel
theorem dL_turn_182 : decode cL_turn 182 = .ok (.iload 5, 2) := by decide +kernel
theorem dL_turn_184 : decode cL_turn 184 = .ok (.iload_n 2, 1) := by decide +kernel
theorem dL_turn_185 : decode cL_turn 185 = .ok (.iconst 4, 1) := by decide +kernel
theorem dL_turn_186 : decode cL_turn 186 = .ok (.ishr, 1) := by decide +kernel
theorem dL_turn_187 : decode cL_turn 187 = .ok (.bipush 21, 2) := by decide +kernel
theorem dL_turn_189 : decode cL_turn 189 = .ok (.invokestatic 69, 3) := by decide +kernel
theorem dL_turn_192 : decode cL_turn 192 = .ok (.invokevirtual 56, 3) := by decide +kernel
theorem dL_turn_195 : decode cL_turn 195 = .ok (.ireturn, 1) := by decide +kernel
theorem dL_turn_196 : decode cL_turn 196 = .ok (.aload_n 0, 1) := by decide +kernel
theorem dL_turn_197 : decode cL_turn 197 = .ok (.iload 4, 2) := by decide +kernel
theorem dL_turn_199 : decode cL_turn 199 = .ok (.iload 5, 2) := by decide +kernel
theorem dL_turn_201 : decode cL_turn 201 = .ok (.invokevirtual 78, 3) := by decide +kernel
theorem dL_turn_204 : decode cL_turn 204 = .ok (.ireturn, 1) := by decide +kernel
theorem dL_turn_205 : decode cL_turn 205 = .ok (.aload_n 0, 1) := by decide +kernel
theorem dL_turn_206 : decode cL_turn 206 = .ok (.iload 5, 2) := by decide +kernel
theorem dL_turn_208 : decode cL_turn 208 = .ok (.invokevirtual 60, 3) := by decide +kernel
theorem dL_turn_211 : decode cL_turn 211 = .ok (.ireturn, 1) := by decide +kernel
theorem dL_turn_212 : decode cL_turn 212 = .ok (.aload_n 0, 1) := by decide +kernel
theorem dL_turn_213 : decode cL_turn 213 = .ok (.invokevirtual 81, 3) := by decide +kernel
theorem dL_turn_216 : decode cL_turn 216 = .ok (.ireturn, 1) := by decide +kernel
theorem dL_turn_217 : decode cL_turn 217 = .ok (.aload_n 0, 1) := by decide +kernel
theorem dL_turn_218 : decode cL_turn 218 = .ok (.iload 5, 2) := by decide +kernel
theorem dL_turn_220 : decode cL_turn 220 = .ok (.iload 4, 2) := by decide +kernel
theorem dL_turn_222 : decode cL_turn 222 = .ok (.invokevirtual 63, 3) := by decide +kernel
theorem dL_turn_225 : decode cL_turn 225 = .ok (.ireturn, 1) := by decide +kernel
theorem dL_turn_226 : decode cL_turn 226 = .ok (.aload_n 0, 1) := by decide +kernel
theorem dL_turn_227 : decode cL_turn 227 = .ok (.iload 5, 2) := by decide +kernel
theorem dL_turn_229 : decode cL_turn 229 = .ok (.invokevirtual 66, 3) := by decide +kernel
theorem dL_turn_232 : decode cL_turn 232 = .ok (.ireturn, 1) := by decide +kernel
theorem dL_turn_233 : decode cL_turn 233 = .ok (.aload_n 0, 1) := by decide +kernel
theorem dL_turn_234 : decode cL_turn 234 = .ok (.iload_n 2, 1) := by decide +kernel
theorem dL_turn_235 : decode cL_turn 235 = .ok (.iload_n 3, 1) := by decide +kernel
theorem dL_turn_236 : decode cL_turn 236 = .ok (.invokestatic 85, 3) := by decide +kernel
theorem dL_turn_239 : decode cL_turn 239 = .ok (.ireturn, 1) := by decide +kernel
set_option maxRecDepth 20000 in
theorem ggL_tries_L_turn : GoodIn wsL_tries wsL_turn := goodIn_ca (goodIn_ca (goodIn_ca (goodIn_r _ [8, 9, 10, 7, 11, 12, 13, 14, 15, 16, 17, 18, 19, 20, 21, 22, 23, 24, 25, 26, 27, 28, 29, 30, 31, 32, 33, 34, 35, 36, 37, 38, 39, 40, 41, 42, 43, 44, 45, 46, 47, 48, 49, 50, 51, 52, 53, 54, 55, 56, 57, 58, 59, 60, 61, 62, 63, 64, 65, 66, 67, 68, 69, 70, 71, 72, 73, 74, 75, 76, 77, 78, 79, 80, 81, 82, 83, 84, 85, 86, 87, 88, 89, 90, 91, 92, 93, 94, 95, 96, 97, 98, 99, 100, 101, 102, 103, 104, 105, 106, 107, 108, 109, 110, 111, 112, 113, 114, 115, 116, 117, 118, 119, 120, 121, 122, 123, 124, 125, 126, 127, 128, 129, 130, 131, 132, 133, 134, 135, 136, 137, 138, 139, 140, 141, 142, 143, 144, 145, 146, 147, 148, 149, 150, 151, 152, 153, 154, 155, 156, 157, 158, 159, 160, 161, 162, 163, 164, 165, 166, 167, 168, 169, 170, 171, 172, 173, 174, 175, 176, 177, 178, 179, 180, 181, 182, 183, 184, 185, 186, 187, 188, 189, 190, 191, 192, 193, 194, 195, 196, 197, 198, 199, 200, 201, 202, 203, 204, 205, 206, 207, 208, 209, 210, 211, 212, 213, 214, 215, 216, 217, 218, 219, 220, 221, 222, 223, 224, 225, 226, 227, 228, 229, 230, 231, 232, 233, 234, 235, 236, 237, 238, 239, 240] (by decide +kernel) (by decide +kernel)) (goodIn_sub (fun _ h => List.mem_cons_of_mem _ (List.mem_append_left _ (List.mem_append_left _ (List.mem_append_right _ h)))) (by decide +kernel))) (goodIn_sub (fun _ h => List.mem_cons_of_mem _ (List.mem_append_left _ (List.mem_append_right _ h))) (by decide +kernel))) (goodIn_sub (fun _ h => List.mem_cons_of_mem _ (List.mem_append_right _ h)) (by decide +kernel))
set_option maxRecDepth 20000 in
theorem gL_tries_L_turn : GoodIn wsL_tries (va_wsS RL 89 yL_turn wsL_turn) := goodIn_app (goodIn_of _ (by decide +kernel)) ggL_tries_L_turn
theorem dL_tries_0 : decode cL_tries 0 = .ok (.aload_n 0, 1) := by decide +kernel
theorem dL_tries_1 : decode cL_tries 1 = .ok (.iload_n 1, 1) := by decide +kernel
theorem dL_tries_2 : decode cL_tries 2 = .ok (.iload_n 2, 1) := by decide +kernel
theorem dL_tries_3 : decode cL_tries 3 = .ok (.iload_n 3, 1) := by decide +kernel
theorem dL_tries_4 : decode cL_tries 4 = .ok (.invokestatic 89, 3) := by decide +kernel
theorem dL_tries_7 : decode cL_tries 7 = .ok (.ireturn, 1) := by decide +kernel
theorem dL_tries_8 : decode cL_tries 8 = .ok (.astore 4, 2) := by decide +kernel
theorem dL_tries_10 : decode cL_tries 10 = .ok (.ldc 95, 2) := by decide +kernel
theorem dL_tries_12 : decode cL_tries 12 = .ok (.ireturn, 1) := by decide +kernel
theorem dL_tries_13 : decode cL_tries 13 = .ok (.astore 4, 2) := by decide +kernel
theorem dL_tries_15 : decode cL_tries 15 = .ok (.ldc 95, 2) := by decide +kernel
theorem dL_tries_17 : decode cL_tries 17 = .ok (.ireturn, 1) := by decide +kernel
theorem dL_tries_18 : decode cL_tries 18 = .ok (.astore 4, 2) := by decide +kernel
theorem dL_tries_20 : decode cL_tries 20 = .ok (.ldc 95, 2) := by decide +kernel
theorem dL_tries_22 : decode cL_tries 22 = .ok (.ireturn, 1) := by decide +kernel
set_option maxRecDepth 20000 in
theorem ggL_isAbsenceRight_X2_absence : GoodIn wsL_isAbsenceRight wsX2_absence := goodIn_ca (goodIn_ca (goodIn_r _ [5, 6, 7, 8, 9, 4, 10, 11, 12, 13, 14, 15, 16, 17, 18, 19, 20, 21, 22, 23, 24, 25, 26, 27, 28, 29, 30, 31, 32, 33, 34, 35, 36, 37, 38, 39, 40, 41, 42, 43, 44, 45, 46, 47, 48, 49, 50, 51, 52, 53, 54, 55, 56, 57, 58, 59, 60, 61, 62, 63, 64, 65, 79, 80, 81, 82, 83, 84, 85, 86, 87, 88, 89, 90, 91, 92, 93, 94, 95, 96, 97, 98] (by decide +kernel) (by decide +kernel)) (goodIn_sub (fun _ h => List.mem_cons_of_mem _ (List.mem_append_left _ (List.mem_append_right _ h))) (by decide +kernel))) (goodIn_sub (fun _ h => List.mem_cons_of_mem _ (List.mem_append_right _ h)) (by decide +kernel))
set_option maxRecDepth 20000 in
theorem gL_isAbsenceRight_X2_absence : GoodIn wsL_isAbsenceRight (wsV RL 36 RX2 yX2_absence wsX2_absence) := goodIn_app (goodIn_of _ (by decide +kernel)) ggL_isAbsenceRight_X2_absence
set_option maxRecDepth 20000 in
theorem ggL_isAbsenceRight_X2_work : GoodIn wsL_isAbsenceRight wsX2_work := goodIn_ca (goodIn_r _ [69, 6, 70, 71, 72, 4, 73, 11, 12, 74, 75, 76, 16, 77, 37, 78, 51, 52, 53, 54, 49, 55, 56, 79, 80, 81, 82, 83, 84, 85, 86, 87, 88, 89, 90, 91, 92, 93, 94, 95, 96, 97, 98] (by decide +kernel) (by decide +kernel)) (goodIn_sub (fun _ h => List.mem_cons_of_mem _ (List.mem_append_left _ (List.mem_append_right _ h))) (by decide +kernel))
set_option maxRecDepth 20000 in
theorem gL_isAbsenceRight_X2_work : GoodIn wsL_isAbsenceRight (wsV RL 32 RX2 yX2_work wsX2_work) := goodIn_app (goodIn_of _ (by decide +kernel)) ggL_isAbsenceRight_X2_work
theorem dL_isAbsenceRight_0 : decode cL_isAbsenceRight 0 = .ok (.aload_n 0, 1) := by decide +kernel
theorem dL_isAbsenceRight_1 : decode cL_isAbsenceRight 1 = .ok (.iload_n 1, 1) := by decide +kernel
theorem dL_isAbsenceRight_2 : decode cL_isAbsenceRight 2 = .ok (.iconst 1, 1) := by decide +kernel
theorem dL_isAbsenceRight_3 : decode cL_isAbsenceRight 3 = .ok (.invokevirtual 36, 3) := by decide +kernel
theorem dL_isAbsenceRight_6 : decode cL_isAbsenceRight 6 = .ok (.istore_n 2, 1) := by decide +kernel
theorem dL_isAbsenceRight_7 : decode cL_isAbsenceRight 7 = .ok (.aload_n 0, 1) := by decide +kernel
theorem dL_isAbsenceRight_8 : decode cL_isAbsenceRight 8 = .ok (.iload_n 1, 1) := by decide +kernel
theorem dL_isAbsenceRight_9 : decode cL_isAbsenceRight 9 = .ok (.iconst 2, 1) := by decide +kernel
theorem dL_isAbsenceRight_10 : decode cL_isAbsenceRight 10 = .ok (.invokevirtual 36, 3) := by decide +kernel
theorem dL_isAbsenceRight_13 : decode cL_isAbsenceRight 13 = .ok (.istore_n 3, 1) := by decide +kernel
theorem dL_isAbsenceRight_14 : decode cL_isAbsenceRight 14 = .ok (.aload_n 0, 1) := by decide +kernel
theorem dL_isAbsenceRight_15 : decode cL_isAbsenceRight 15 = .ok (.iload_n 1, 1) := by decide +kernel
theorem dL_isAbsenceRight_16 : decode cL_isAbsenceRight 16 = .ok (.iconst 3, 1) := by decide +kernel
theorem dL_isAbsenceRight_17 : decode cL_isAbsenceRight 17 = .ok (.invokevirtual 36, 3) := by decide +kernel
theorem dL_isAbsenceRight_20 : decode cL_isAbsenceRight 20 = .ok (.istore 4, 2) := by decide +kernel
theorem dL_isAbsenceRight_22 : decode cL_isAbsenceRight 22 = .ok (.iload_n 3, 1) := by decide +kernel
theorem dL_isAbsenceRight_23 : decode cL_isAbsenceRight 23 = .ok (.iconst 1, 1) := by decide +kernel
theorem dL_isAbsenceRight_24 : decode cL_isAbsenceRight 24 = .ok (.if_icmp .eq 8, 3) := by decide +kernel
theorem dL_isAbsenceRight_27 : decode cL_isAbsenceRight 27 = .ok (.iload_n 3, 1) := by decide +kernel
theorem dL_isAbsenceRight_28 : decode cL_isAbsenceRight 28 = .ok (.iconst 2, 1) := by decide +kernel
theorem dL_isAbsenceRight_29 : decode cL_isAbsenceRight 29 = .ok (.if_icmp .ne 7, 3) := by decide +kernel
theorem dL_isAbsenceRight_32 : decode cL_isAbsenceRight 32 = .ok (.iconst 1, 1) := by decide +kernel
theorem dL_isAbsenceRight_33 : decode cL_isAbsenceRight 33 = .ok (.goto 4, 3) := by decide +kernel
theorem dL_isAbsenceRight_36 : decode cL_isAbsenceRight 36 = .ok (.iconst 0, 1) := by decide +kernel
theorem dL_isAbsenceRight_37 : decode cL_isAbsenceRight 37 = .ok (.istore 5, 2) := by decide +kernel
theorem dL_isAbsenceRight_39 : decode cL_isAbsenceRight 39 = .ok (.iload_n 3, 1) := by decide +kernel
theorem dL_isAbsenceRight_40 : decode cL_isAbsenceRight 40 = .ok (.ifCond .lt 47, 3) := by decide +kernel
theorem dL_isAbsenceRight_43 : decode cL_isAbsenceRight 43 = .ok (.iload_n 3, 1) := by decide +kernel
theorem dL_isAbsenceRight_44 : decode cL_isAbsenceRight 44 = .ok (.iconst 4, 1) := by decide +kernel
theorem dL_isAbsenceRight_45 : decode cL_isAbsenceRight 45 = .ok (.if_icmp .ge 42, 3) := by decide +kernel
theorem dL_isAbsenceRight_48 : decode cL_isAbsenceRight 48 = .ok (.iload 5, 2) := by decide +kernel
theorem dL_isAbsenceRight_50 : decode cL_isAbsenceRight 50 = .ok (.iload 4, 2) := by decide +kernel
theorem dL_isAbsenceRight_52 : decode cL_isAbsenceRight 52 = .ok (.iconst (-1), 1) := by decide +kernel
theorem dL_isAbsenceRight_53 : decode cL_isAbsenceRight 53 = .ok (.if_icmp .eq 7, 3) := by decide +kernel
theorem dL_isAbsenceRight_56 : decode cL_isAbsenceRight 56 = .ok (.iconst 1, 1) := by decide +kernel
theorem dL_isAbsenceRight_57 : decode cL_isAbsenceRight 57 = .ok (.goto 4, 3) := by decide +kernel
theorem dL_isAbsenceRight_60 : decode cL_isAbsenceRight 60 = .ok (.iconst 0, 1) := by decide +kernel
theorem dL_isAbsenceRight_61 : decode cL_isAbsenceRight 61 = .ok (.if_icmp .ne 26, 3) := by decide +kernel
theorem dL_isAbsenceRight_64 : decode cL_isAbsenceRight 64 = .ok (.aload_n 0, 1) := by decide +kernel
theorem dL_isAbsenceRight_65 : decode cL_isAbsenceRight 65 = .ok (.aload_n 0, 1) := by decide +kernel
theorem dL_isAbsenceRight_66 : decode cL_isAbsenceRight 66 = .ok (.iload_n 1, 1) := by decide +kernel
theorem dL_isAbsenceRight_67 : decode cL_isAbsenceRight 67 = .ok (.iconst 0, 1) := by decide +kernel
theorem dL_isAbsenceRight_68 : decode cL_isAbsenceRight 68 = .ok (.invokevirtual 36, 3) := by decide +kernel
theorem dL_isAbsenceRight_71 : decode cL_isAbsenceRight 71 = .ok (.invokevirtual 32, 3) := by decide +kernel
theorem dL_isAbsenceRight_74 : decode cL_isAbsenceRight 74 = .ok (.iload_n 2, 1) := by decide +kernel
theorem dL_isAbsenceRight_75 : decode cL_isAbsenceRight 75 = .ok (.lshr, 1) := by decide +kernel
theorem dL_isAbsenceRight_76 : decode cL_isAbsenceRight 76 = .ok (.lconst 1, 1) := by decide +kernel
theorem dL_isAbsenceRight_77 : decode cL_isAbsenceRight 77 = .ok (.land, 1) := by decide +kernel
theorem dL_isAbsenceRight_78 : decode cL_isAbsenceRight 78 = .ok (.lconst 0, 1) := by decide +kernel
theorem dL_isAbsenceRight_79 : decode cL_isAbsenceRight 79 = .ok (.lcmp, 1) := by decide +kernel
theorem dL_isAbsenceRight_80 : decode cL_isAbsenceRight 80 = .ok (.ifCond .ne 7, 3) := by decide +kernel
theorem dL_isAbsenceRight_83 : decode cL_isAbsenceRight 83 = .ok (.iconst 1, 1) := by decide +kernel
theorem dL_isAbsenceRight_84 : decode cL_isAbsenceRight 84 = .ok (.goto 4, 3) := by decide +kernel
theorem dL_isAbsenceRight_87 : decode cL_isAbsenceRight 87 = .ok (.iconst 0, 1) := by decide +kernel
theorem dL_isAbsenceRight_88 : decode cL_isAbsenceRight 88 = .ok (.istore 6, 2) := by decide +kernel
theorem dL_isAbsenceRight_90 : decode cL_isAbsenceRight 90 = .ok (.iload 6, 2) := by decide +kernel
theorem dL_isAbsenceRight_92 : decode cL_isAbsenceRight 92 = .ok (.ifCond .eq 38, 3) := by decide +kernel
theorem dL_isAbsenceRight_95 : decode cL_isAbsenceRight 95 = .ok (.iload 5, 2) := by decide +kernel
theorem dL_isAbsenceRight_97 : decode cL_isAbsenceRight 97 = .ok (.ifCond .eq 29, 3) := by decide +kernel
theorem dL_isAbsenceRight_100 : decode cL_isAbsenceRight 100 = .ok (.aload_n 0, 1) := by decide +kernel
theorem dL_isAbsenceRight_101 : decode cL_isAbsenceRight 101 = .ok (.iload 4, 2) := by decide +kernel
theorem dL_isAbsenceRight_103 : decode cL_isAbsenceRight 103 = .ok (.invokevirtual 32, 3) := by decide +kernel
theorem dL_isAbsenceRight_106 : decode cL_isAbsenceRight 106 = .ok (.iload_n 2, 1) := by decide +kernel
theorem dL_isAbsenceRight_107 : decode cL_isAbsenceRight 107 = .ok (.lshr, 1) := by decide +kernel
theorem dL_isAbsenceRight_108 : decode cL_isAbsenceRight 108 = .ok (.lconst 1, 1) := by decide +kernel
theorem dL_isAbsenceRight_109 : decode cL_isAbsenceRight 109 = .ok (.land, 1) := by decide +kernel
theorem dL_isAbsenceRight_110 : decode cL_isAbsenceRight 110 = .ok (.lconst 1, 1) := by decide +kernel
theorem dL_isAbsenceRight_111 : decode cL_isAbsenceRight 111 = .ok (.lcmp, 1) := by decide +kernel
theorem dL_isAbsenceRight_112 : decode cL_isAbsenceRight 112 = .ok (.ifCond .ne 18, 3) := by decide +kernel
theorem dL_isAbsenceRight_115 : decode cL_isAbsenceRight 115 = .ok (.iload 4, 2) := by decide +kernel
theorem dL_isAbsenceRight_117 : decode cL_isAbsenceRight 117 = .ok (.aload_n 0, 1) := by decide +kernel
theorem dL_isAbsenceRight_118 : decode cL_isAbsenceRight 118 = .ok (.iload_n 1, 1) := by decide +kernel
theorem dL_isAbsenceRight_119 : decode cL_isAbsenceRight 119 = .ok (.iconst 0, 1) := by decide +kernel
theorem dL_isAbsenceRight_120 : decode cL_isAbsenceRight 120 = .ok (.invokevirtual 36, 3) := by decide +kernel
theorem dL_isAbsenceRight_123 : decode cL_isAbsenceRight 123 = .ok (.if_icmp .eq 7, 3) := by decide +kernel
theorem dL_isAbsenceRight_126 : decode cL_isAbsenceRight 126 = .ok (.iconst 1, 1) := by decide +kernel
theorem dL_isAbsenceRight_127 : decode cL_isAbsenceRight 127 = .ok (.goto 4, 3) := by decide +kernel
theorem dL_isAbsenceRight_130 : decode cL_isAbsenceRight 130 = .ok (.iconst 0, 1) := by decide +kernel
theorem dL_isAbsenceRight_131 : decode cL_isAbsenceRight 131 = .ok (.istore 6, 2) := by decide +kernel
theorem dL_isAbsenceRight_133 : decode cL_isAbsenceRight 133 = .ok (.iload 6, 2) := by decide +kernel
theorem dL_isAbsenceRight_135 : decode cL_isAbsenceRight 135 = .ok (.ifCond .eq 34, 3) := by decide +kernel
theorem dL_isAbsenceRight_138 : decode cL_isAbsenceRight 138 = .ok (.iload_n 3, 1) := by decide +kernel
theorem dL_isAbsenceRight_139 : decode cL_isAbsenceRight 139 = .ok (.ifCond .eq 12, 3) := by decide +kernel
theorem dL_isAbsenceRight_142 : decode cL_isAbsenceRight 142 = .ok (.aload_n 0, 1) := by decide +kernel
theorem dL_isAbsenceRight_143 : decode cL_isAbsenceRight 143 = .ok (.iload_n 1, 1) := by decide +kernel
theorem dL_isAbsenceRight_144 : decode cL_isAbsenceRight 144 = .ok (.iconst 5, 1) := by decide +kernel
theorem dL_isAbsenceRight_145 : decode cL_isAbsenceRight 145 = .ok (.invokevirtual 36, 3) := by decide +kernel
theorem dL_isAbsenceRight_148 : decode cL_isAbsenceRight 148 = .ok (.ifCond .ne 21, 3) := by decide +kernel
theorem dL_isAbsenceRight_151 : decode cL_isAbsenceRight 151 = .ok (.iload 5, 2) := by decide +kernel
theorem dL_isAbsenceRight_153 : decode cL_isAbsenceRight 153 = .ok (.ifCond .ne 12, 3) := by decide +kernel
theorem dL_isAbsenceRight_156 : decode cL_isAbsenceRight 156 = .ok (.aload_n 0, 1) := by decide +kernel
theorem dL_isAbsenceRight_157 : decode cL_isAbsenceRight 157 = .ok (.iload_n 1, 1) := by decide +kernel
theorem dL_isAbsenceRight_158 : decode cL_isAbsenceRight 158 = .ok (.iconst 4, 1) := by decide +kernel
theorem dL_isAbsenceRight_159 : decode cL_isAbsenceRight 159 = .ok (.invokevirtual 36, 3) := by decide +kernel
theorem dL_isAbsenceRight_162 : decode cL_isAbsenceRight 162 = .ok (.ifCond .ne 7, 3) := by decide +kernel
theorem dL_isAbsenceRight_165 : decode cL_isAbsenceRight 165 = .ok (.iconst 1, 1) := by decide +kernel
theorem dL_isAbsenceRight_166 : decode cL_isAbsenceRight 166 = .ok (.goto 4, 3) := by decide +kernel
theorem dL_isAbsenceRight_169 : decode cL_isAbsenceRight 169 = .ok (.iconst 0, 1) := by decide +kernel
theorem dL_isAbsenceRight_170 : decode cL_isAbsenceRight 170 = .ok (.ireturn, 1) := by decide +kernel
theorem dL_ones_0 : decode cL_ones 0 = .ok (.iconst 0, 1) := by decide +kernel
theorem dL_ones_1 : decode cL_ones 1 = .ok (.istore_n 2, 1) := by decide +kernel
theorem dL_ones_2 : decode cL_ones 2 = .ok (.iconst 0, 1) := by decide +kernel
theorem dL_ones_3 : decode cL_ones 3 = .ok (.istore_n 3, 1) := by decide +kernel
theorem dL_ones_4 : decode cL_ones 4 = .ok (.iload_n 3, 1) := by decide +kernel
theorem dL_ones_5 : decode cL_ones 5 = .ok (.bipush 42, 2) := by decide +kernel
theorem dL_ones_7 : decode cL_ones 7 = .ok (.if_icmp .ge 18, 3) := by decide +kernel
theorem dL_ones_10 : decode cL_ones 10 = .ok (.iload_n 2, 1) := by decide +kernel
theorem dL_ones_11 : decode cL_ones 11 = .ok (.lload_n 0, 1) := by decide +kernel
theorem dL_ones_12 : decode cL_ones 12 = .ok (.iload_n 3, 1) := by decide +kernel
theorem dL_ones_13 : decode cL_ones 13 = .ok (.lshr, 1) := by decide +kernel
theorem dL_ones_14 : decode cL_ones 14 = .ok (.lconst 1, 1) := by decide +kernel
theorem dL_ones_15 : decode cL_ones 15 = .ok (.land, 1) := by decide +kernel
theorem dL_ones_16 : decode cL_ones 16 = .ok (.l2i, 1) := by decide +kernel
theorem dL_ones_17 : decode cL_ones 17 = .ok (.iadd, 1) := by decide +kernel
theorem dL_ones_18 : decode cL_ones 18 = .ok (.istore_n 2, 1) := by decide +kernel
theorem dL_ones_19 : decode cL_ones 19 = .ok (.iinc 3 1, 3) := by decide +kernel
theorem dL_ones_22 : decode cL_ones 22 = .ok (.goto (-18), 3) := by decide +kernel
theorem dL_ones_25 : decode cL_ones 25 = .ok (.iload_n 2, 1) := by decide +kernel
theorem dL_ones_26 : decode cL_ones 26 = .ok (.ireturn, 1) := by decide +kernel
set_option maxRecDepth 20000 in
theorem ggL_areRight_X2_value : GoodIn wsL_areRight wsX2_value := goodIn_ca (goodIn_r _ [5, 6, 7, 8, 4, 9, 10, 11, 12, 13, 14, 15, 16, 17, 18, 19, 20, 21, 22, 23, 24, 25, 26, 27, 28, 29, 30, 31, 32, 33, 34, 35, 36, 37, 38, 39, 40, 41, 42, 43, 44, 45, 46, 47, 48, 49, 50, 51, 52, 53, 54, 55, 56, 143, 144, 145, 146, 147, 148, 149, 150, 151, 152, 153, 154, 155, 156, 157, 158, 159, 160, 161, 162] (by decide +kernel) (by decide +kernel)) (goodIn_sub (fun _ h => List.mem_cons_of_mem _ (List.mem_append_left _ (List.mem_append_right _ h))) (by decide +kernel))
set_option maxRecDepth 20000 in
theorem gL_areRight_X2_value : GoodIn wsL_areRight (wsV RL 19 RX2 yX2_value wsX2_value) := goodIn_app (goodIn_of _ (by decide +kernel)) ggL_areRight_X2_value
set_option maxRecDepth 20000 in
theorem ggL_areRight_X2_person : GoodIn wsL_areRight wsX2_person := goodIn_ca (goodIn_ca (goodIn_r _ [60, 6, 61, 62, 63, 4, 64, 65, 66, 67, 68, 69, 15, 70, 17, 7, 8, 9, 10, 11, 71, 72, 73, 74, 75, 76, 77, 29, 78, 79, 80, 81, 82, 83, 84, 85, 86, 87, 88, 89, 90, 91, 92, 93, 94, 18, 49, 50, 51, 143, 144, 145, 146, 147, 148, 149, 150, 151, 152, 153, 154, 155, 156, 157, 158, 159, 160, 161, 162] (by decide +kernel) (by decide +kernel)) (goodIn_sub (fun _ h => List.mem_cons_of_mem _ (List.mem_append_right _ h)) (by decide +kernel))) (goodIn_sub (fun _ h => List.mem_cons_of_mem _ (List.mem_append_left _ (List.mem_append_right _ h))) (by decide +kernel))
set_option maxRecDepth 20000 in
theorem gL_areRight_X2_person : GoodIn wsL_areRight (wsV RL 28 RX2 yX2_person wsX2_person) := goodIn_app (goodIn_of _ (by decide +kernel)) ggL_areRight_X2_person
set_option maxRecDepth 20000 in
theorem ggL_areRight_X2_work : GoodIn wsL_areRight wsX2_work := goodIn_ca (goodIn_r _ [98, 6, 61, 62, 63, 4, 64, 65, 66, 67, 68, 69, 15, 70, 17, 99, 87, 88, 89, 75, 76, 90, 77, 143, 144, 145, 146, 147, 148, 149, 150, 151, 152, 153, 154, 155, 156, 157, 158, 159, 160, 161, 162] (by decide +kernel) (by decide +kernel)) (goodIn_sub (fun _ h => List.mem_cons_of_mem _ (List.mem_append_right _ h)) (by decide +kernel))
set_option maxRecDepth 20000 in
theorem gL_areRight_X2_work : GoodIn wsL_areRight (wsV RL 32 RX2 yX2_work wsX2_work) := goodIn_app (goodIn_of _ (by decide +kernel)) ggL_areRight_X2_work
set_option maxRecDepth 20000 in
theorem ggL_areRight_L_ones : GoodIn wsL_areRight wsL_ones := goodIn_r _ [103] (by decide +kernel) (by decide +kernel)
set_option maxRecDepth 20000 in
theorem gL_areRight_L_ones : GoodIn wsL_areRight (va_wsS RL 100 yL_ones wsL_ones) := goodIn_app (goodIn_of _ (by decide +kernel)) ggL_areRight_L_ones
set_option maxRecDepth 20000 in
theorem ggL_areRight_L_isAbsenceRight : GoodIn wsL_areRight wsL_isAbsenceRight := goodIn_ca (goodIn_ca (goodIn_r _ [106, 107, 108, 109, 4, 110, 6, 111, 112, 113, 114, 65, 66, 115, 116, 117, 15, 118, 18, 7, 8, 9, 10, 11, 119, 120, 121, 122, 123, 124, 24, 125, 56, 45, 46, 47, 48, 17, 49, 50, 51, 126, 127, 128, 129, 130, 131, 132, 133, 76, 86, 87, 88, 89, 75, 90, 77, 134, 135, 136, 137, 138, 139, 140, 141, 142, 95, 96, 97, 98, 61, 62, 63, 64, 67, 68, 69, 70, 99, 143, 144, 145, 146, 147, 148, 149, 150, 151, 152, 153, 154, 155, 156, 157, 158, 159, 160, 161, 162] (by decide +kernel) (by decide +kernel)) (goodIn_sub (fun _ h => List.mem_cons_of_mem _ (List.mem_append_right _ h)) (by decide +kernel))) (goodIn_sub (fun _ h => List.mem_cons_of_mem _ (List.mem_append_left _ (List.mem_append_right _ h))) (by decide +kernel))
set_option maxRecDepth 20000 in
theorem gL_areRight_L_isAbsenceRight : GoodIn wsL_areRight (va_wsS RL 103 yL_isAbsenceRight wsL_isAbsenceRight) := goodIn_app (goodIn_of _ (by decide +kernel)) ggL_areRight_L_isAbsenceRight
theorem dL_areRight_0 : decode cL_areRight 0 = .ok (.lconst 0, 1) := by decide +kernel
theorem dL_areRight_1 : decode cL_areRight 1 = .ok (.lstore_n 1, 1) := by decide +kernel
theorem dL_areRight_2 : decode cL_areRight 2 = .ok (.iconst 0, 1) := by decide +kernel
theorem dL_areRight_3 : decode cL_areRight 3 = .ok (.istore_n 3, 1) := by decide +kernel
theorem dL_areRight_4 : decode cL_areRight 4 = .ok (.iconst 0, 1) := by decide +kernel
theorem dL_areRight_5 : decode cL_areRight 5 = .ok (.istore 4, 2) := by decide +kernel
theorem dL_areRight_7 : decode cL_areRight 7 = .ok (.iconst 1, 1) := by decide +kernel
theorem dL_areRight_8 : decode cL_areRight 8 = .ok (.istore 5, 2) := by decide +kernel
theorem dL_areRight_10 : decode cL_areRight 10 = .ok (.iconst 0, 1) := by decide +kernel
theorem dL_areRight_11 : decode cL_areRight 11 = .ok (.istore 6, 2) := by decide +kernel
theorem dL_areRight_13 : decode cL_areRight 13 = .ok (.iload 6, 2) := by decide +kernel
theorem dL_areRight_15 : decode cL_areRight 15 = .ok (.aload_n 0, 1) := by decide +kernel
theorem dL_areRight_16 : decode cL_areRight 16 = .ok (.iconst 0, 1) := by decide +kernel
theorem dL_areRight_17 : decode cL_areRight 17 = .ok (.invokevirtual 19, 3) := by decide +kernel
theorem dL_areRight_20 : decode cL_areRight 20 = .ok (.if_icmp .ge 106, 3) := by decide +kernel
theorem dL_areRight_23 : decode cL_areRight 23 = .ok (.iload 5, 2) := by decide +kernel
theorem dL_areRight_25 : decode cL_areRight 25 = .ok (.ifCond .eq 101, 3) := by decide +kernel
theorem dL_areRight_28 : decode cL_areRight 28 = .ok (.lload_n 1, 1) := by decide +kernel
theorem dL_areRight_29 : decode cL_areRight 29 = .ok (.aload_n 0, 1) := by decide +kernel
theorem dL_areRight_30 : decode cL_areRight 30 = .ok (.iload 6, 2) := by decide +kernel
theorem dL_areRight_32 : decode cL_areRight 32 = .ok (.iconst 3, 1) := by decide +kernel
theorem dL_areRight_33 : decode cL_areRight 33 = .ok (.invokevirtual 28, 3) := by decide +kernel
theorem dL_areRight_36 : decode cL_areRight 36 = .ok (.i2l, 1) := by decide +kernel
theorem dL_areRight_37 : decode cL_areRight 37 = .ok (.ladd, 1) := by decide +kernel
theorem dL_areRight_38 : decode cL_areRight 38 = .ok (.lstore_n 1, 1) := by decide +kernel
theorem dL_areRight_39 : decode cL_areRight 39 = .ok (.iload_n 3, 1) := by decide +kernel
theorem dL_areRight_40 : decode cL_areRight 40 = .ok (.aload_n 0, 1) := by decide +kernel
theorem dL_areRight_41 : decode cL_areRight 41 = .ok (.iload 6, 2) := by decide +kernel
theorem dL_areRight_43 : decode cL_areRight 43 = .ok (.iconst 1, 1) := by decide +kernel
theorem dL_areRight_44 : decode cL_areRight 44 = .ok (.invokevirtual 28, 3) := by decide +kernel
theorem dL_areRight_47 : decode cL_areRight 47 = .ok (.iadd, 1) := by decide +kernel
theorem dL_areRight_48 : decode cL_areRight 48 = .ok (.istore_n 3, 1) := by decide +kernel
theorem dL_areRight_49 : decode cL_areRight 49 = .ok (.iload 4, 2) := by decide +kernel
theorem dL_areRight_51 : decode cL_areRight 51 = .ok (.aload_n 0, 1) := by decide +kernel
theorem dL_areRight_52 : decode cL_areRight 52 = .ok (.iload 6, 2) := by decide +kernel
theorem dL_areRight_54 : decode cL_areRight 54 = .ok (.iconst 2, 1) := by decide +kernel
theorem dL_areRight_55 : decode cL_areRight 55 = .ok (.invokevirtual 28, 3) := by decide +kernel
theorem dL_areRight_58 : decode cL_areRight 58 = .ok (.iadd, 1) := by decide +kernel
theorem dL_areRight_59 : decode cL_areRight 59 = .ok (.istore 4, 2) := by decide +kernel
theorem dL_areRight_61 : decode cL_areRight 61 = .ok (.aload_n 0, 1) := by decide +kernel
theorem dL_areRight_62 : decode cL_areRight 62 = .ok (.iload 6, 2) := by decide +kernel
theorem dL_areRight_64 : decode cL_areRight 64 = .ok (.iconst 5, 1) := by decide +kernel
theorem dL_areRight_65 : decode cL_areRight 65 = .ok (.invokevirtual 28, 3) := by decide +kernel
theorem dL_areRight_68 : decode cL_areRight 68 = .ok (.aload_n 0, 1) := by decide +kernel
theorem dL_areRight_69 : decode cL_areRight 69 = .ok (.iload 6, 2) := by decide +kernel
theorem dL_areRight_71 : decode cL_areRight 71 = .ok (.invokevirtual 32, 3) := by decide +kernel
theorem dL_areRight_74 : decode cL_areRight 74 = .ok (.invokestatic 100, 3) := by decide +kernel
theorem dL_areRight_77 : decode cL_areRight 77 = .ok (.if_icmp .ne 40, 3) := by decide +kernel
theorem dL_areRight_80 : decode cL_areRight 80 = .ok (.aload_n 0, 1) := by decide +kernel
theorem dL_areRight_81 : decode cL_areRight 81 = .ok (.iload 6, 2) := by decide +kernel
theorem dL_areRight_83 : decode cL_areRight 83 = .ok (.iconst 5, 1) := by decide +kernel
theorem dL_areRight_84 : decode cL_areRight 84 = .ok (.invokevirtual 28, 3) := by decide +kernel
theorem dL_areRight_87 : decode cL_areRight 87 = .ok (.aload_n 0, 1) := by decide +kernel
theorem dL_areRight_88 : decode cL_areRight 88 = .ok (.iload 6, 2) := by decide +kernel
theorem dL_areRight_90 : decode cL_areRight 90 = .ok (.iconst 0, 1) := by decide +kernel
theorem dL_areRight_91 : decode cL_areRight 91 = .ok (.invokevirtual 28, 3) := by decide +kernel
theorem dL_areRight_94 : decode cL_areRight 94 = .ok (.aload_n 0, 1) := by decide +kernel
theorem dL_areRight_95 : decode cL_areRight 95 = .ok (.iload 6, 2) := by decide +kernel
theorem dL_areRight_97 : decode cL_areRight 97 = .ok (.iconst 1, 1) := by decide +kernel
theorem dL_areRight_98 : decode cL_areRight 98 = .ok (.invokevirtual 28, 3) := by decide +kernel
theorem dL_areRight_101 : decode cL_areRight 101 = .ok (.isub, 1) := by decide +kernel
theorem dL_areRight_102 : decode cL_areRight 102 = .ok (.aload_n 0, 1) := by decide +kernel
theorem dL_areRight_103 : decode cL_areRight 103 = .ok (.iload 6, 2) := by decide +kernel
theorem dL_areRight_105 : decode cL_areRight 105 = .ok (.iconst 2, 1) := by decide +kernel
theorem dL_areRight_106 : decode cL_areRight 106 = .ok (.invokevirtual 28, 3) := by decide +kernel
theorem dL_areRight_109 : decode cL_areRight 109 = .ok (.iadd, 1) := by decide +kernel
theorem dL_areRight_110 : decode cL_areRight 110 = .ok (.if_icmp .ne 7, 3) := by decide +kernel
theorem dL_areRight_113 : decode cL_areRight 113 = .ok (.iconst 1, 1) := by decide +kernel
theorem dL_areRight_114 : decode cL_areRight 114 = .ok (.goto 4, 3) := by decide +kernel
theorem dL_areRight_117 : decode cL_areRight 117 = .ok (.iconst 0, 1) := by decide +kernel
theorem dL_areRight_118 : decode cL_areRight 118 = .ok (.istore 5, 2) := by decide +kernel
theorem dL_areRight_120 : decode cL_areRight 120 = .ok (.iinc 6 1, 3) := by decide +kernel
theorem dL_areRight_123 : decode cL_areRight 123 = .ok (.goto (-110), 3) := by decide +kernel
theorem dL_areRight_126 : decode cL_areRight 126 = .ok (.iconst 0, 1) := by decide +kernel
theorem dL_areRight_127 : decode cL_areRight 127 = .ok (.istore 6, 2) := by decide +kernel
theorem dL_areRight_129 : decode cL_areRight 129 = .ok (.iload 6, 2) := by decide +kernel
theorem dL_areRight_131 : decode cL_areRight 131 = .ok (.aload_n 0, 1) := by decide +kernel
theorem dL_areRight_132 : decode cL_areRight 132 = .ok (.iconst 1, 1) := by decide +kernel
theorem dL_areRight_133 : decode cL_areRight 133 = .ok (.invokevirtual 19, 3) := by decide +kernel
theorem dL_areRight_136 : decode cL_areRight 136 = .ok (.if_icmp .ge 22, 3) := by decide +kernel
theorem dL_areRight_139 : decode cL_areRight 139 = .ok (.iload 5, 2) := by decide +kernel
theorem dL_areRight_141 : decode cL_areRight 141 = .ok (.ifCond .eq 17, 3) := by decide +kernel
theorem dL_areRight_144 : decode cL_areRight 144 = .ok (.aload_n 0, 1) := by decide +kernel
theorem dL_areRight_145 : decode cL_areRight 145 = .ok (.iload 6, 2) := by decide +kernel
theorem dL_areRight_147 : decode cL_areRight 147 = .ok (.invokestatic 103, 3) := by decide +kernel
theorem dL_areRight_150 : decode cL_areRight 150 = .ok (.istore 5, 2) := by decide +kernel
theorem dL_areRight_152 : decode cL_areRight 152 = .ok (.iinc 6 1, 3) := by decide +kernel
theorem dL_areRight_155 : decode cL_areRight 155 = .ok (.goto (-26), 3) := by decide +kernel
theorem dL_areRight_158 : decode cL_areRight 158 = .ok (.aload_n 0, 1) := by decide +kernel
theorem dL_areRight_159 : decode cL_areRight 159 = .ok (.iconst 2, 1) := by decide +kernel
theorem dL_areRight_160 : decode cL_areRight 160 = .ok (.invokevirtual 19, 3) := by decide +kernel
theorem dL_areRight_163 : decode cL_areRight 163 = .ok (.aload_n 0, 1) := by decide +kernel
theorem dL_areRight_164 : decode cL_areRight 164 = .ok (.iconst 3, 1) := by decide +kernel
theorem dL_areRight_165 : decode cL_areRight 165 = .ok (.invokevirtual 19, 3) := by decide +kernel
theorem dL_areRight_168 : decode cL_areRight 168 = .ok (.iadd, 1) := by decide +kernel
theorem dL_areRight_169 : decode cL_areRight 169 = .ok (.aload_n 0, 1) := by decide +kernel
theorem dL_areRight_170 : decode cL_areRight 170 = .ok (.iconst 4, 1) := by decide +kernel
theorem dL_areRight_171 : decode cL_areRight 171 = .ok (.invokevirtual 19, 3) := by decide +kernel
theorem dL_areRight_174 : decode cL_areRight 174 = .ok (.iadd, 1) := by decide +kernel
theorem dL_areRight_175 : decode cL_areRight 175 = .ok (.aload_n 0, 1) := by decide +kernel
theorem dL_areRight_176 : decode cL_areRight 176 = .ok (.iconst 5, 1) := by decide +kernel
theorem dL_areRight_177 : decode cL_areRight 177 = .ok (.invokevirtual 19, 3) := by decide +kernel
theorem dL_areRight_180 : decode cL_areRight 180 = .ok (.iadd, 1) := by decide +kernel
theorem dL_areRight_181 : decode cL_areRight 181 = .ok (.aload_n 0, 1) := by decide +kernel
theorem dL_areRight_182 : decode cL_areRight 182 = .ok (.iconst 1, 1) := by decide +kernel
theorem dL_areRight_183 : decode cL_areRight 183 = .ok (.invokevirtual 19, 3) := by decide +kernel
theorem dL_areRight_186 : decode cL_areRight 186 = .ok (.if_icmp .ne 23, 3) := by decide +kernel
theorem dL_areRight_189 : decode cL_areRight 189 = .ok (.iload 4, 2) := by decide +kernel
theorem dL_areRight_191 : decode cL_areRight 191 = .ok (.aload_n 0, 1) := by decide +kernel
theorem dL_areRight_192 : decode cL_areRight 192 = .ok (.iconst 3, 1) := by decide +kernel
theorem dL_areRight_193 : decode cL_areRight 193 = .ok (.invokevirtual 19, 3) := by decide +kernel
theorem dL_areRight_196 : decode cL_areRight 196 = .ok (.aload_n 0, 1) := by decide +kernel
theorem dL_areRight_197 : decode cL_areRight 197 = .ok (.iconst 4, 1) := by decide +kernel
theorem dL_areRight_198 : decode cL_areRight 198 = .ok (.invokevirtual 19, 3) := by decide +kernel
theorem dL_areRight_201 : decode cL_areRight 201 = .ok (.iadd, 1) := by decide +kernel
theorem dL_areRight_202 : decode cL_areRight 202 = .ok (.if_icmp .ne 7, 3) := by decide +kernel
theorem dL_areRight_205 : decode cL_areRight 205 = .ok (.iconst 1, 1) := by decide +kernel
theorem dL_areRight_206 : decode cL_areRight 206 = .ok (.goto 4, 3) := by decide +kernel
theorem dL_areRight_209 : decode cL_areRight 209 = .ok (.iconst 0, 1) := by decide +kernel
theorem dL_areRight_210 : decode cL_areRight 210 = .ok (.istore 6, 2) := by decide +kernel
theorem dL_areRight_212 : decode cL_areRight 212 = .ok (.iload 5, 2) := by decide +kernel
theorem dL_areRight_214 : decode cL_areRight 214 = .ok (.ifCond .eq 27, 3) := by decide +kernel
theorem dL_areRight_217 : decode cL_areRight 217 = .ok (.lload_n 1, 1) := by decide +kernel
theorem dL_areRight_218 : decode cL_areRight 218 = .ok (.lconst 0, 1) := by decide +kernel
theorem dL_areRight_219 : decode cL_areRight 219 = .ok (.lcmp, 1) := by decide +kernel
theorem dL_areRight_220 : decode cL_areRight 220 = .ok (.ifCond .ne 21, 3) := by decide +kernel
theorem dL_areRight_223 : decode cL_areRight 223 = .ok (.iload_n 3, 1) := by decide +kernel
theorem dL_areRight_224 : decode cL_areRight 224 = .ok (.aload_n 0, 1) := by decide +kernel
theorem dL_areRight_225 : decode cL_areRight 225 = .ok (.iconst 1, 1) := by decide +kernel
theorem dL_areRight_226 : decode cL_areRight 226 = .ok (.invokevirtual 19, 3) := by decide +kernel
theorem dL_areRight_229 : decode cL_areRight 229 = .ok (.if_icmp .ne 12, 3) := by decide +kernel
theorem dL_areRight_232 : decode cL_areRight 232 = .ok (.iload 6, 2) := by decide +kernel
theorem dL_areRight_234 : decode cL_areRight 234 = .ok (.ifCond .eq 7, 3) := by decide +kernel
theorem dL_areRight_237 : decode cL_areRight 237 = .ok (.iconst 1, 1) := by decide +kernel
theorem dL_areRight_238 : decode cL_areRight 238 = .ok (.goto 4, 3) := by decide +kernel
theorem dL_areRight_241 : decode cL_areRight 241 = .ok (.iconst 0, 1) := by decide +kernel
theorem dL_areRight_242 : decode cL_areRight 242 = .ok (.ireturn, 1) := by decide +kernel
set_option maxRecDepth 20000 in
theorem ggL_isUndone_L_view : GoodIn wsL_isUndone wsL_view := goodIn_ca (goodIn_ca (goodIn_r _ [4, 5, 6, 7, 8, 9, 10, 11, 12, 13, 14, 15, 16, 17, 18, 19, 20, 21, 22, 23, 24, 25, 26, 27, 28, 29, 30, 31, 32, 33, 34, 35, 36, 37, 38, 39, 40, 41, 42, 43, 44, 45, 46, 47, 48, 49, 50, 51, 52, 53, 54, 55, 56, 57, 58, 59, 60, 61, 62, 63, 64, 65, 66, 67, 68, 69, 70, 71, 72, 73, 74, 75, 76, 77, 78, 79, 80, 81, 82, 83, 84, 85, 86, 87, 88, 89, 90, 91, 92, 93, 94, 95, 96, 97, 98, 99, 100, 101, 102, 103, 104, 105, 106, 107, 108, 109, 110, 111, 112, 113, 114, 115, 116, 117, 118, 119, 120, 121, 122, 123, 124, 125, 126, 127, 128, 129, 130, 131, 132, 133, 134, 135, 136, 137, 138, 139, 140, 141, 142, 143, 144, 145, 146, 147, 148, 149, 150, 151, 152, 307, 308, 309, 310, 311, 312, 313, 314, 315, 316, 317, 318, 319, 320, 321, 322, 323, 324, 325, 326] (by decide +kernel) (by decide +kernel)) (goodIn_sub (fun _ h => List.mem_cons_of_mem _ (List.mem_append_left _ (List.mem_append_left _ (List.mem_append_right _ h)))) (by decide +kernel))) (goodIn_sub (fun _ h => List.mem_cons_of_mem _ (List.mem_append_left _ (List.mem_append_right _ h))) (by decide +kernel))
set_option maxRecDepth 20000 in
theorem gL_isUndone_L_view : GoodIn wsL_isUndone (va_wsS RL 107 yL_view wsL_view) := goodIn_app (goodIn_of _ (by decide +kernel)) ggL_isUndone_L_view
set_option maxRecDepth 20000 in
theorem ggL_isUndone_X2_undo : GoodIn wsL_isUndone wsX2_undo := goodIn_ca (goodIn_r _ [156, 157, 12, 158, 159, 160, 10, 161, 162, 163, 164, 165, 166, 21, 167, 142, 168, 169, 170, 171, 25, 23, 86, 87, 88, 35, 89, 24, 127, 128, 30, 129, 62, 55, 307, 308, 309, 310, 311, 312, 313, 314, 315, 316, 317, 318, 319, 320, 321, 322, 323, 324, 325, 326] (by decide +kernel) (by decide +kernel)) (goodIn_sub (fun _ h => List.mem_cons_of_mem _ (List.mem_append_right _ h)) (by decide +kernel))
set_option maxRecDepth 20000 in
theorem gL_isUndone_X2_undo : GoodIn wsL_isUndone (wsV RL 111 RX2 yX2_undo wsX2_undo) := goodIn_app (goodIn_of _ (by decide +kernel)) ggL_isUndone_X2_undo
set_option maxRecDepth 20000 in
theorem ggL_isUndone_L_tries : GoodIn wsL_isUndone wsL_tries := goodIn_ca (goodIn_ca (goodIn_ca (goodIn_r _ [174, 175, 176, 177, 178, 179, 180, 3, 181, 182, 183, 184, 185, 186, 187, 188, 10, 189, 190, 191, 12, 67, 13, 14, 15, 16, 17, 192, 193, 194, 195, 157, 158, 196, 197, 198, 199, 164, 165, 166, 21, 167, 142, 168, 169, 170, 171, 25, 23, 86, 87, 88, 35, 89, 24, 127, 128, 30, 129, 62, 55, 200, 201, 202, 203, 204, 205, 206, 207, 208, 209, 210, 211, 159, 160, 161, 162, 163, 212, 213, 214, 215, 216, 217, 218, 219, 220, 72, 73, 74, 75, 76, 77, 78, 79, 80, 81, 221, 222, 223, 224, 225, 91, 92, 93, 94, 95, 96, 226, 227, 228, 229, 230, 231, 232, 233, 101, 234, 235, 236, 237, 238, 239, 240, 241, 56, 57, 242, 243, 244, 245, 151, 115, 116, 117, 118, 119, 120, 121, 122, 246, 247, 248, 249, 152, 250, 52, 53, 54, 251, 252, 253, 254, 255, 256, 257, 258, 259, 260, 261, 262, 263, 134, 135, 136, 137, 97, 98, 99, 100, 138, 139, 140, 141, 143, 144, 145, 146, 264, 265, 266, 267, 268, 269, 270, 271, 272, 273, 274, 275, 276, 277, 278, 279, 280, 281, 282, 283, 284, 285, 286, 287, 288, 289, 290, 291, 292, 293, 294, 295, 296, 297, 298, 299, 300, 301, 302, 303, 304, 305, 306, 307, 308, 309, 310, 311, 312, 313, 314, 315, 316, 317, 318, 319, 320, 321, 322, 323, 324, 325, 326] (by decide +kernel) (by decide +kernel)) (goodIn_sub (fun _ h => List.mem_cons_of_mem _ (List.mem_append_left _ (List.mem_append_left _ (List.mem_append_right _ h)))) (by decide +kernel))) (goodIn_sub (fun _ h => List.mem_cons_of_mem _ (List.mem_append_right _ h)) (by decide +kernel))) (goodIn_sub (fun _ h => List.mem_cons_of_mem _ (List.mem_append_left _ (List.mem_append_right _ h))) (by decide +kernel))
set_option maxRecDepth 20000 in
theorem gL_isUndone_L_tries : GoodIn wsL_isUndone (va_wsS RL 114 yL_tries wsL_tries) := goodIn_app (goodIn_of _ (by decide +kernel)) ggL_isUndone_L_tries
theorem dL_isUndone_0 : decode cL_isUndone 0 = .ok (.aload_n 0, 1) := by decide +kernel
theorem dL_isUndone_1 : decode cL_isUndone 1 = .ok (.invokestatic 107, 3) := by decide +kernel
theorem dL_isUndone_4 : decode cL_isUndone 4 = .ok (.lstore 7, 2) := by decide +kernel
theorem dL_isUndone_6 : decode cL_isUndone 6 = .ok (.aload_n 0, 1) := by decide +kernel
theorem dL_isUndone_7 : decode cL_isUndone 7 = .ok (.invokevirtual 111, 3) := by decide +kernel
theorem dL_isUndone_10 : decode cL_isUndone 10 = .ok (.pop, 1) := by decide +kernel
theorem dL_isUndone_11 : decode cL_isUndone 11 = .ok (.aload_n 0, 1) := by decide +kernel
theorem dL_isUndone_12 : decode cL_isUndone 12 = .ok (.invokestatic 107, 3) := by decide +kernel
theorem dL_isUndone_15 : decode cL_isUndone 15 = .ok (.lload 5, 2) := by decide +kernel
theorem dL_isUndone_17 : decode cL_isUndone 17 = .ok (.lcmp, 1) := by decide +kernel
theorem dL_isUndone_18 : decode cL_isUndone 18 = .ok (.ifCond .ne 29, 3) := by decide +kernel
theorem dL_isUndone_21 : decode cL_isUndone 21 = .ok (.aload_n 0, 1) := by decide +kernel
theorem dL_isUndone_22 : decode cL_isUndone 22 = .ok (.iload_n 1, 1) := by decide +kernel
theorem dL_isUndone_23 : decode cL_isUndone 23 = .ok (.iload_n 2, 1) := by decide +kernel
theorem dL_isUndone_24 : decode cL_isUndone 24 = .ok (.iload_n 3, 1) := by decide +kernel
theorem dL_isUndone_25 : decode cL_isUndone 25 = .ok (.invokestatic 114, 3) := by decide +kernel
theorem dL_isUndone_28 : decode cL_isUndone 28 = .ok (.iload 4, 2) := by decide +kernel
theorem dL_isUndone_30 : decode cL_isUndone 30 = .ok (.if_icmp .ne 17, 3) := by decide +kernel
theorem dL_isUndone_33 : decode cL_isUndone 33 = .ok (.aload_n 0, 1) := by decide +kernel
theorem dL_isUndone_34 : decode cL_isUndone 34 = .ok (.invokestatic 107, 3) := by decide +kernel
theorem dL_isUndone_37 : decode cL_isUndone 37 = .ok (.lload 7, 2) := by decide +kernel
theorem dL_isUndone_39 : decode cL_isUndone 39 = .ok (.lcmp, 1) := by decide +kernel
theorem dL_isUndone_40 : decode cL_isUndone 40 = .ok (.ifCond .ne 7, 3) := by decide +kernel
theorem dL_isUndone_43 : decode cL_isUndone 43 = .ok (.iconst 1, 1) := by decide +kernel
theorem dL_isUndone_44 : decode cL_isUndone 44 = .ok (.goto 4, 3) := by decide +kernel
theorem dL_isUndone_47 : decode cL_isUndone 47 = .ok (.iconst 0, 1) := by decide +kernel
theorem dL_isUndone_48 : decode cL_isUndone 48 = .ok (.ireturn, 1) := by decide +kernel
set_option maxRecDepth 20000 in
theorem ggL_law_X2_init : GoodIn wsL_law wsX2_init := goodIn_r _ [6, 7, 8, 9, 10, 11, 12, 13, 14, 15, 16, 17, 18, 19, 20, 21, 22, 23, 24, 25, 26, 27, 28, 29, 30, 31, 32, 33, 34, 35, 36, 37, 38, 39, 40, 41, 42, 43, 44, 45, 368, 369, 370, 371, 372, 373, 374, 375, 376, 377, 378, 379, 380, 381, 382, 363, 364, 365, 366, 367, 383, 384, 385, 386, 387, 388, 389, 390] (by decide +kernel) (by decide +kernel)
set_option maxRecDepth 20000 in
theorem gL_law_X2_init : GoodIn wsL_law (wsX2_init) := ggL_law_X2_init
set_option maxRecDepth 20000 in
theorem ggL_law_L_cell : GoodIn wsL_law wsL_cell := goodIn_r _ [49, 50] (by decide +kernel) (by decide +kernel)
set_option maxRecDepth 20000 in
theorem gL_law_L_cell : GoodIn wsL_law (va_wsS RL 118 yL_cell wsL_cell) := goodIn_app (goodIn_of _ (by decide +kernel)) ggL_law_L_cell
set_option maxRecDepth 20000 in
theorem ggL_law_L_view : GoodIn wsL_law wsL_view := goodIn_ca (goodIn_ca (goodIn_r _ [53, 54, 55, 56, 57, 58, 2, 59, 13, 60, 61, 62, 63, 64, 65, 66, 67, 12, 68, 69, 70, 71, 72, 73, 74, 75, 34, 76, 77, 78, 79, 30, 80, 81, 82, 83, 84, 85, 86, 87, 88, 89, 90, 91, 92, 93, 94, 95, 96, 97, 98, 37, 99, 100, 101, 102, 103, 104, 36, 105, 106, 107, 108, 109, 110, 111, 112, 113, 114, 115, 116, 117, 118, 119, 120, 121, 122, 123, 124, 125, 126, 127, 27, 28, 29, 31, 128, 129, 130, 131, 132, 133, 134, 135, 136, 137, 138, 139, 140, 141, 142, 143, 144, 145, 146, 147, 148, 149, 150, 151, 152, 153, 154, 155, 156, 157, 158, 159, 160, 161, 162, 163, 164, 32, 33, 35, 165, 166, 167, 168, 169, 170, 171, 172, 173, 174, 175, 176, 25, 177, 178, 179, 180, 181, 182, 183, 184, 185, 186, 363, 364, 365, 366, 367, 368, 369, 370, 371, 372, 373, 374, 375, 376, 377, 378, 379, 380, 381, 382] (by decide +kernel) (by decide +kernel)) (goodIn_sub (fun _ h => List.mem_append_left _ (List.mem_append_left _ (List.mem_append_right _ h))) (by decide +kernel))) (goodIn_sub (fun _ h => List.mem_append_left _ (List.mem_append_right _ h)) (by decide +kernel))
set_option maxRecDepth 20000 in
theorem gL_law_L_view : GoodIn wsL_law (va_wsS RL 107 yL_view wsL_view) := goodIn_app (goodIn_of _ (by decide +kernel)) ggL_law_L_view
set_option maxRecDepth 20000 in
theorem ggL_law_X2_digest : GoodIn wsL_law wsX2_digest := goodIn_r _ [190, 191, 19, 192, 193, 13, 109, 194, 195, 196, 65, 66, 67, 12, 68, 69, 70, 71, 72, 73, 74, 75, 34, 76, 77, 78, 79, 30, 80, 81, 82, 83, 84, 85, 86, 87, 88, 89, 90, 91, 92, 93, 94, 95, 96, 97, 98, 37, 99, 2, 100, 101, 102, 103, 104, 36, 197, 198, 199, 200, 124, 125, 126, 127, 27, 28, 29, 31, 128, 129, 130, 131, 132, 133, 134, 135, 136, 137, 138, 139, 140, 141, 142, 143, 148, 201, 202, 203, 204, 185, 161, 162, 163, 164, 32, 33, 35, 165, 166, 167, 168, 169, 170, 171, 172, 173, 174, 175, 176, 25, 177, 178, 179, 180, 186, 363, 364, 365, 366, 367, 383, 384, 385, 386, 387, 388, 389, 390, 368, 369, 370, 371, 372, 373, 374, 375, 376, 377, 378, 379, 380, 381, 382] (by decide +kernel) (by decide +kernel)
set_option maxRecDepth 20000 in
theorem gL_law_X2_digest : GoodIn wsL_law (wsV RL 122 RX2 yX2_digest wsX2_digest) := goodIn_app (goodIn_of _ (by decide +kernel)) ggL_law_X2_digest
set_option maxRecDepth 20000 in
theorem ggL_law_L_tries : GoodIn wsL_law wsL_tries := goodIn_ca (goodIn_ca (goodIn_ca (goodIn_r _ [207, 208, 209, 210, 3, 211, 212, 48, 213, 214, 215, 216, 217, 218, 219, 220, 2, 221, 222, 223, 13, 109, 60, 61, 62, 63, 64, 224, 225, 226, 227, 196, 15, 228, 229, 230, 231, 232, 233, 234, 12, 235, 25, 38, 39, 40, 41, 71, 69, 27, 28, 29, 30, 31, 70, 32, 33, 34, 35, 36, 37, 236, 237, 238, 239, 240, 241, 242, 243, 244, 245, 246, 194, 247, 248, 249, 250, 251, 252, 253, 254, 255, 256, 257, 258, 259, 260, 114, 115, 116, 117, 118, 119, 120, 121, 122, 123, 261, 262, 263, 264, 265, 129, 130, 131, 132, 133, 134, 266, 267, 268, 269, 270, 271, 272, 273, 139, 274, 275, 276, 277, 278, 279, 280, 281, 99, 100, 282, 283, 284, 285, 185, 153, 154, 155, 156, 157, 158, 159, 160, 286, 287, 288, 289, 186, 290, 96, 97, 98, 291, 292, 293, 294, 295, 296, 297, 298, 299, 300, 301, 302, 303, 169, 170, 171, 172, 135, 136, 137, 138, 173, 174, 175, 176, 177, 178, 179, 180, 304, 305, 306, 307, 308, 309, 310, 311, 312, 313, 314, 315, 316, 317, 318, 319, 320, 321, 322, 323, 324, 325, 326, 327, 328, 329, 330, 331, 332, 333, 334, 335, 336, 337, 338, 339, 340, 341, 342, 343, 344, 345, 346, 363, 364, 365, 366, 367, 368, 369, 370, 371, 372, 373, 374, 375, 376, 377, 378, 379, 380, 381, 382] (by decide +kernel) (by decide +kernel)) (goodIn_sub (fun _ h => List.mem_append_left _ (List.mem_append_left _ (List.mem_append_right _ h))) (by decide +kernel))) (goodIn_sub (fun _ h => List.mem_append_right _ h) (by decide +kernel))) (goodIn_sub (fun _ h => List.mem_append_left _ (List.mem_append_right _ h)) (by decide +kernel))
set_option maxRecDepth 20000 in
theorem gL_law_L_tries : GoodIn wsL_law (va_wsS RL 114 yL_tries wsL_tries) := goodIn_app (goodIn_of _ (by decide +kernel)) ggL_law_L_tries
set_option maxRecDepth 20000 in
theorem ggL_law_L_isUndone : GoodIn wsL_law wsL_isUndone := goodIn_ca (goodIn_ca (goodIn_ca (goodIn_r _ [349, 51, 52, 48, 53, 54, 55, 56, 57, 58, 2, 59, 13, 60, 61, 62, 63, 64, 65, 66, 67, 12, 68, 69, 70, 71, 72, 73, 74, 75, 34, 76, 77, 78, 79, 30, 80, 81, 82, 83, 84, 85, 86, 87, 88, 89, 90, 91, 92, 93, 94, 95, 96, 97, 98, 37, 99, 100, 101, 102, 103, 104, 36, 105, 106, 107, 108, 109, 110, 111, 112, 113, 114, 115, 116, 117, 118, 119, 120, 121, 122, 123, 124, 125, 126, 127, 27, 28, 29, 31, 128, 129, 130, 131, 132, 133, 134, 135, 136, 137, 138, 139, 140, 141, 142, 143, 144, 145, 146, 147, 148, 149, 150, 151, 152, 153, 154, 155, 156, 157, 158, 159, 160, 161, 162, 163, 164, 32, 33, 35, 165, 166, 167, 168, 169, 170, 171, 172, 173, 174, 175, 176, 25, 177, 178, 179, 180, 181, 182, 183, 184, 185, 186, 350, 351, 352, 353, 196, 15, 247, 248, 249, 250, 251, 232, 233, 234, 235, 38, 39, 40, 41, 205, 206, 207, 208, 209, 210, 3, 211, 212, 213, 214, 215, 216, 217, 218, 219, 220, 221, 222, 223, 224, 225, 226, 227, 228, 229, 230, 231, 236, 237, 238, 239, 240, 241, 242, 243, 244, 245, 246, 194, 252, 253, 254, 255, 256, 257, 258, 259, 260, 261, 262, 263, 264, 265, 266, 267, 268, 269, 270, 271, 272, 273, 274, 275, 276, 277, 278, 279, 280, 281, 282, 283, 284, 285, 286, 287, 288, 289, 290, 291, 292, 293, 294, 295, 296, 297, 298, 299, 300, 301, 302, 303, 304, 305, 306, 307, 308, 309, 310, 311, 312, 313, 314, 315, 316, 317, 318, 319, 320, 321, 322, 323, 324, 325, 326, 327, 328, 329, 330, 331, 332, 333, 334, 335, 336, 337, 338, 339, 340, 341, 342, 343, 344, 345, 346, 363, 364, 365, 366, 367, 368, 369, 370, 371, 372, 373, 374, 375, 376, 377, 378, 379, 380, 381, 382] (by decide +kernel) (by decide +kernel)) (goodIn_sub (fun _ h => List.mem_append_left _ (List.mem_append_left _ (List.mem_append_right _ h))) (by decide +kernel))) (goodIn_sub (fun _ h => List.mem_append_left _ (List.mem_append_right _ h)) (by decide +kernel))) (goodIn_sub (fun _ h => List.mem_append_right _ h) (by decide +kernel))
set_option maxRecDepth 20000 in
theorem gL_law_L_isUndone : GoodIn wsL_law (va_wsS RL 126 yL_isUndone wsL_isUndone) := goodIn_app (goodIn_of _ (by decide +kernel)) ggL_law_L_isUndone
set_option maxRecDepth 20000 in
theorem ggL_law_L_areRight : GoodIn wsL_law wsL_areRight := goodIn_ca (goodIn_ca (goodIn_r _ [356, 56, 57, 58, 2, 59, 13, 60, 61, 62, 63, 64, 65, 66, 67, 12, 68, 69, 70, 71, 72, 73, 74, 75, 34, 76, 77, 78, 79, 30, 80, 81, 82, 83, 84, 85, 86, 87, 88, 89, 90, 91, 92, 93, 94, 95, 96, 97, 98, 37, 99, 100, 101, 102, 103, 104, 36, 110, 111, 112, 113, 114, 115, 116, 117, 118, 119, 120, 121, 122, 123, 124, 125, 126, 127, 27, 28, 29, 31, 128, 129, 130, 131, 132, 133, 134, 135, 136, 137, 138, 139, 140, 141, 142, 143, 144, 145, 146, 147, 148, 357, 358, 48, 359, 360, 361, 362, 149, 150, 151, 152, 153, 154, 155, 156, 157, 158, 159, 160, 161, 162, 163, 164, 32, 33, 35, 165, 166, 167, 168, 169, 170, 171, 172, 173, 174, 175, 176, 25, 177, 178, 179, 180, 363, 364, 365, 366, 367, 368, 369, 370, 371, 372, 373, 374, 375, 376, 377, 378, 379, 380, 381, 382] (by decide +kernel) (by decide +kernel)) (goodIn_sub (fun _ h => List.mem_append_left _ (List.mem_append_left _ (List.mem_append_right _ h))) (by decide +kernel))) (goodIn_sub (fun _ h => List.mem_append_left _ (List.mem_append_right _ h)) (by decide +kernel))
set_option maxRecDepth 20000 in
theorem gL_law_L_areRight : GoodIn wsL_law (va_wsS RL 130 yL_areRight wsL_areRight) := goodIn_app (goodIn_of _ (by decide +kernel)) ggL_law_L_areRight
theorem dL_law_0 : decode cL_law 0 = .ok (.new 20, 3) := by decide +kernel
theorem dL_law_3 : decode cL_law 3 = .ok (.dup, 1) := by decide +kernel
theorem dL_law_4 : decode cL_law 4 = .ok (.invokespecial 117, 3) := by decide +kernel
theorem dL_law_7 : decode cL_law 7 = .ok (.astore_n 1, 1) := by decide +kernel
theorem dL_law_8 : decode cL_law 8 = .ok (.aload_n 0, 1) := by decide +kernel
theorem dL_law_9 : decode cL_law 9 = .ok (.arraylength, 1) := by decide +kernel
theorem dL_law_10 : decode cL_law 10 = .ok (.iconst 3, 1) := by decide +kernel
theorem dL_law_11 : decode cL_law 11 = .ok (.idiv, 1) := by decide +kernel
theorem dL_law_12 : decode cL_law 12 = .ok (.bipush 36, 2) := by decide +kernel
theorem dL_law_14 : decode cL_law 14 = .ok (.if_icmp .ge 10, 3) := by decide +kernel
theorem dL_law_17 : decode cL_law 17 = .ok (.aload_n 0, 1) := by decide +kernel
theorem dL_law_18 : decode cL_law 18 = .ok (.arraylength, 1) := by decide +kernel
theorem dL_law_19 : decode cL_law 19 = .ok (.iconst 3, 1) := by decide +kernel
theorem dL_law_20 : decode cL_law 20 = .ok (.idiv, 1) := by decide +kernel
theorem dL_law_21 : decode cL_law 21 = .ok (.goto 5, 3) := by decide +kernel
theorem dL_law_24 : decode cL_law 24 = .ok (.bipush 36, 2) := by decide +kernel
theorem dL_law_26 : decode cL_law 26 = .ok (.istore_n 2, 1) := by decide +kernel
theorem dL_law_27 : decode cL_law 27 = .ok (.iconst 0, 1) := by decide +kernel
theorem dL_law_28 : decode cL_law 28 = .ok (.istore_n 3, 1) := by decide +kernel
theorem dL_law_29 : decode cL_law 29 = .ok (.iload_n 3, 1) := by decide +kernel
theorem dL_law_30 : decode cL_law 30 = .ok (.iload_n 2, 1) := by decide +kernel
theorem dL_law_31 : decode cL_law 31 = .ok (.if_icmp .ge 145, 3) := by decide +kernel
theorem dL_law_34 : decode cL_law 34 = .ok (.aload_n 0, 1) := by decide +kernel
theorem dL_law_35 : decode cL_law 35 = .ok (.iconst 3, 1) := by decide +kernel
theorem dL_law_36 : decode cL_law 36 = .ok (.iload_n 3, 1) := by decide +kernel
theorem dL_law_37 : decode cL_law 37 = .ok (.imul, 1) := by decide +kernel
theorem dL_law_38 : decode cL_law 38 = .ok (.invokestatic 118, 3) := by decide +kernel
theorem dL_law_41 : decode cL_law 41 = .ok (.istore 4, 2) := by decide +kernel
theorem dL_law_43 : decode cL_law 43 = .ok (.aload_n 0, 1) := by decide +kernel
theorem dL_law_44 : decode cL_law 44 = .ok (.iconst 3, 1) := by decide +kernel
theorem dL_law_45 : decode cL_law 45 = .ok (.iload_n 3, 1) := by decide +kernel
theorem dL_law_46 : decode cL_law 46 = .ok (.imul, 1) := by decide +kernel
theorem dL_law_47 : decode cL_law 47 = .ok (.iconst 1, 1) := by decide +kernel
theorem dL_law_48 : decode cL_law 48 = .ok (.iadd, 1) := by decide +kernel
theorem dL_law_49 : decode cL_law 49 = .ok (.invokestatic 118, 3) := by decide +kernel
theorem dL_law_52 : decode cL_law 52 = .ok (.istore 5, 2) := by decide +kernel
theorem dL_law_54 : decode cL_law 54 = .ok (.aload_n 0, 1) := by decide +kernel
theorem dL_law_55 : decode cL_law 55 = .ok (.iconst 3, 1) := by decide +kernel
theorem dL_law_56 : decode cL_law 56 = .ok (.iload_n 3, 1) := by decide +kernel
theorem dL_law_57 : decode cL_law 57 = .ok (.imul, 1) := by decide +kernel
theorem dL_law_58 : decode cL_law 58 = .ok (.iconst 2, 1) := by decide +kernel
theorem dL_law_59 : decode cL_law 59 = .ok (.iadd, 1) := by decide +kernel
theorem dL_law_60 : decode cL_law 60 = .ok (.invokestatic 118, 3) := by decide +kernel
theorem dL_law_63 : decode cL_law 63 = .ok (.istore 6, 2) := by decide +kernel
theorem dL_law_65 : decode cL_law 65 = .ok (.iload_n 3, 1) := by decide +kernel
theorem dL_law_66 : decode cL_law 66 = .ok (.iconst 3, 1) := by decide +kernel
theorem dL_law_67 : decode cL_law 67 = .ok (.if_icmp .ge 7, 3) := by decide +kernel
theorem dL_law_70 : decode cL_law 70 = .ok (.iconst 1, 1) := by decide +kernel
theorem dL_law_71 : decode cL_law 71 = .ok (.goto 8, 3) := by decide +kernel
theorem dL_law_74 : decode cL_law 74 = .ok (.iload 4, 2) := by decide +kernel
theorem dL_law_76 : decode cL_law 76 = .ok (.bipush 15, 2) := by decide +kernel
theorem dL_law_78 : decode cL_law 78 = .ok (.iand, 1) := by decide +kernel
theorem dL_law_79 : decode cL_law 79 = .ok (.istore 7, 2) := by decide +kernel
theorem dL_law_81 : decode cL_law 81 = .ok (.aload_n 1, 1) := by decide +kernel
theorem dL_law_82 : decode cL_law 82 = .ok (.invokestatic 107, 3) := by decide +kernel
theorem dL_law_85 : decode cL_law 85 = .ok (.lstore 8, 2) := by decide +kernel
theorem dL_law_87 : decode cL_law 87 = .ok (.aload_n 1, 1) := by decide +kernel
theorem dL_law_88 : decode cL_law 88 = .ok (.invokevirtual 122, 3) := by decide +kernel
theorem dL_law_91 : decode cL_law 91 = .ok (.lstore 10, 2) := by decide +kernel
theorem dL_law_93 : decode cL_law 93 = .ok (.aload_n 1, 1) := by decide +kernel
theorem dL_law_94 : decode cL_law 94 = .ok (.iload 7, 2) := by decide +kernel
theorem dL_law_96 : decode cL_law 96 = .ok (.iload 5, 2) := by decide +kernel
theorem dL_law_98 : decode cL_law 98 = .ok (.iload 6, 2) := by decide +kernel
theorem dL_law_100 : decode cL_law 100 = .ok (.invokestatic 114, 3) := by decide +kernel
theorem dL_law_103 : decode cL_law 103 = .ok (.istore 12, 2) := by decide +kernel
theorem dL_law_105 : decode cL_law 105 = .ok (.iload 12, 2) := by decide +kernel
theorem dL_law_107 : decode cL_law 107 = .ok (.ldc 95, 2) := by decide +kernel
theorem dL_law_109 : decode cL_law 109 = .ok (.if_icmp .ne 25, 3) := by decide +kernel
theorem dL_law_112 : decode cL_law 112 = .ok (.aload_n 1, 1) := by decide +kernel
theorem dL_law_113 : decode cL_law 113 = .ok (.invokestatic 107, 3) := by decide +kernel
theorem dL_law_116 : decode cL_law 116 = .ok (.lload 8, 2) := by decide +kernel
theorem dL_law_118 : decode cL_law 118 = .ok (.lcmp, 1) := by decide +kernel
theorem dL_law_119 : decode cL_law 119 = .ok (.ifCond .ne 13, 3) := by decide +kernel
theorem dL_law_122 : decode cL_law 122 = .ok (.aload_n 1, 1) := by decide +kernel
theorem dL_law_123 : decode cL_law 123 = .ok (.invokevirtual 122, 3) := by decide +kernel
theorem dL_law_126 : decode cL_law 126 = .ok (.lload 10, 2) := by decide +kernel
theorem dL_law_128 : decode cL_law 128 = .ok (.lcmp, 1) := by decide +kernel
theorem dL_law_129 : decode cL_law 129 = .ok (.ifCond .eq 32, 3) := by decide +kernel
theorem dL_law_132 : decode cL_law 132 = .ok (.iconst 0, 1) := by decide +kernel
theorem dL_law_133 : decode cL_law 133 = .ok (.ireturn, 1) := by decide +kernel
theorem dL_law_134 : decode cL_law 134 = .ok (.iload 4, 2) := by decide +kernel
theorem dL_law_136 : decode cL_law 136 = .ok (.bipush 16, 2) := by decide +kernel
theorem dL_law_138 : decode cL_law 138 = .ok (.iand, 1) := by decide +kernel
theorem dL_law_139 : decode cL_law 139 = .ok (.ifCond .ne 22, 3) := by decide +kernel
theorem dL_law_142 : decode cL_law 142 = .ok (.aload_n 1, 1) := by decide +kernel
theorem dL_law_143 : decode cL_law 143 = .ok (.iload 7, 2) := by decide +kernel
theorem dL_law_145 : decode cL_law 145 = .ok (.iload 5, 2) := by decide +kernel
theorem dL_law_147 : decode cL_law 147 = .ok (.iload 6, 2) := by decide +kernel
theorem dL_law_149 : decode cL_law 149 = .ok (.iload 12, 2) := by decide +kernel
theorem dL_law_151 : decode cL_law 151 = .ok (.lload 8, 2) := by decide +kernel
theorem dL_law_153 : decode cL_law 153 = .ok (.invokestatic 126, 3) := by decide +kernel
theorem dL_law_156 : decode cL_law 156 = .ok (.ifCond .ne 5, 3) := by decide +kernel
theorem dL_law_159 : decode cL_law 159 = .ok (.iconst 0, 1) := by decide +kernel
theorem dL_law_160 : decode cL_law 160 = .ok (.ireturn, 1) := by decide +kernel
theorem dL_law_161 : decode cL_law 161 = .ok (.aload_n 1, 1) := by decide +kernel
theorem dL_law_162 : decode cL_law 162 = .ok (.invokestatic 130, 3) := by decide +kernel
theorem dL_law_165 : decode cL_law 165 = .ok (.ifCond .ne 5, 3) := by decide +kernel
theorem dL_law_168 : decode cL_law 168 = .ok (.iconst 0, 1) := by decide +kernel
theorem dL_law_169 : decode cL_law 169 = .ok (.ireturn, 1) := by decide +kernel
theorem dL_law_170 : decode cL_law 170 = .ok (.iinc 3 1, 3) := by decide +kernel
theorem dL_law_173 : decode cL_law 173 = .ok (.goto (-144), 3) := by decide +kernel
theorem dL_law_176 : decode cL_law 176 = .ok (.iconst 1, 1) := by decide +kernel
theorem dL_law_177 : decode cL_law 177 = .ok (.ireturn, 1) := by decide +kernel
abbrev vwCl : List vw_C := [(RX0, TX0, 8), (RX1, TX1, 15), (RX2, TX2, 5)]

