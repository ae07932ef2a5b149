set_option maxRecDepth 20000 in
theorem ggX3_carryOut_X3_does : GoodIn wsX3_carryOut wsX3_does := goodIn_r _ [57, 13, 15, 32, 42, 53, 58, 59, 60, 7, 61, 25, 26, 27, 62, 63, 64, 65, 66, 67, 68, 69, 70, 71, 72, 73, 74, 75, 76, 77, 78, 79, 80, 81, 82, 83, 84, 85, 86, 87, 88, 89, 90, 91, 92, 93, 94, 95, 96, 97, 98, 99, 100, 101, 102, 103, 104, 105, 106, 107, 108, 109, 110, 111, 112, 113, 114, 115, 116, 117, 118, 119, 120, 121, 122, 123, 124, 125, 126, 127, 128, 129, 130, 131, 132, 133, 134, 135, 136, 137, 138, 139, 140, 141, 142, 143, 144, 145, 146, 147, 148, 149, 150, 151, 152, 153, 154, 155, 156, 157, 158, 159, 160, 161, 162] (by decide +kernel) (by decide +kernel)
set_option maxRecDepth 20000 in
theorem gX3_carryOut_X3_does : GoodIn wsX3_carryOut (wsV RX3 243 RX3 yX3_does wsX3_does) := goodIn_app (goodIn_of _ (by decide +kernel)) ggX3_carryOut_X3_does
theorem dX3_carryOut_0 : decode cX3_carryOut 0 = .ok (.aload_n 0, 1) := by decide +kernel
theorem dX3_carryOut_1 : decode cX3_carryOut 1 = .ok (.iconst 0, 1) := by decide +kernel
theorem dX3_carryOut_2 : decode cX3_carryOut 2 = .ok (.putfield 30, 3) := by decide +kernel
theorem dX3_carryOut_5 : decode cX3_carryOut 5 = .ok (.aload_n 0, 1) := by decide +kernel
theorem dX3_carryOut_6 : decode cX3_carryOut 6 = .ok (.invokevirtual 240, 3) := by decide +kernel
theorem dX3_carryOut_9 : decode cX3_carryOut 9 = .ok (.istore_n 1, 1) := by decide +kernel
theorem dX3_carryOut_10 : decode cX3_carryOut 10 = .ok (.iload_n 1, 1) := by decide +kernel
theorem dX3_carryOut_11 : decode cX3_carryOut 11 = .ok (.iconst (-1), 1) := by decide +kernel
theorem dX3_carryOut_12 : decode cX3_carryOut 12 = .ok (.if_icmp .eq 8, 3) := by decide +kernel
theorem dX3_carryOut_15 : decode cX3_carryOut 15 = .ok (.bipush (-10), 2) := by decide +kernel
theorem dX3_carryOut_17 : decode cX3_carryOut 17 = .ok (.iload_n 1, 1) := by decide +kernel
theorem dX3_carryOut_18 : decode cX3_carryOut 18 = .ok (.isub, 1) := by decide +kernel
theorem dX3_carryOut_19 : decode cX3_carryOut 19 = .ok (.ireturn, 1) := by decide +kernel
theorem dX3_carryOut_20 : decode cX3_carryOut 20 = .ok (.aload_n 0, 1) := by decide +kernel
theorem dX3_carryOut_21 : decode cX3_carryOut 21 = .ok (.invokevirtual 93, 3) := by decide +kernel
theorem dX3_carryOut_24 : decode cX3_carryOut 24 = .ok (.iconst 0, 1) := by decide +kernel
theorem dX3_carryOut_25 : decode cX3_carryOut 25 = .ok (.istore_n 2, 1) := by decide +kernel
theorem dX3_carryOut_26 : decode cX3_carryOut 26 = .ok (.aload_n 0, 1) := by decide +kernel
theorem dX3_carryOut_27 : decode cX3_carryOut 27 = .ok (.iconst 0, 1) := by decide +kernel
theorem dX3_carryOut_28 : decode cX3_carryOut 28 = .ok (.putfield 200, 3) := by decide +kernel
theorem dX3_carryOut_31 : decode cX3_carryOut 31 = .ok (.aload_n 0, 1) := by decide +kernel
theorem dX3_carryOut_32 : decode cX3_carryOut 32 = .ok (.getfield 197, 3) := by decide +kernel
theorem dX3_carryOut_35 : decode cX3_carryOut 35 = .ok (.ifCond .le 7, 3) := by decide +kernel
theorem dX3_carryOut_38 : decode cX3_carryOut 38 = .ok (.iconst 1, 1) := by decide +kernel
theorem dX3_carryOut_39 : decode cX3_carryOut 39 = .ok (.goto 4, 3) := by decide +kernel
theorem dX3_carryOut_42 : decode cX3_carryOut 42 = .ok (.iconst 0, 1) := by decide +kernel
theorem dX3_carryOut_43 : decode cX3_carryOut 43 = .ok (.istore_n 3, 1) := by decide +kernel
theorem dX3_carryOut_44 : decode cX3_carryOut 44 = .ok (.iload_n 3, 1) := by decide +kernel
theorem dX3_carryOut_45 : decode cX3_carryOut 45 = .ok (.ifCond .eq 59, 3) := by decide +kernel
theorem dX3_carryOut_48 : decode cX3_carryOut 48 = .ok (.aload_n 0, 1) := by decide +kernel
theorem dX3_carryOut_49 : decode cX3_carryOut 49 = .ok (.invokevirtual 237, 3) := by decide +kernel
theorem dX3_carryOut_52 : decode cX3_carryOut 52 = .ok (.ifCond .eq 14, 3) := by decide +kernel
theorem dX3_carryOut_55 : decode cX3_carryOut 55 = .ok (.aload_n 0, 1) := by decide +kernel
theorem dX3_carryOut_56 : decode cX3_carryOut 56 = .ok (.invokevirtual 243, 3) := by decide +kernel
theorem dX3_carryOut_59 : decode cX3_carryOut 59 = .ok (.ifCond .eq 7, 3) := by decide +kernel
theorem dX3_carryOut_62 : decode cX3_carryOut 62 = .ok (.iconst 1, 1) := by decide +kernel
theorem dX3_carryOut_63 : decode cX3_carryOut 63 = .ok (.goto 4, 3) := by decide +kernel
theorem dX3_carryOut_66 : decode cX3_carryOut 66 = .ok (.iconst 0, 1) := by decide +kernel
theorem dX3_carryOut_67 : decode cX3_carryOut 67 = .ok (.istore_n 3, 1) := by decide +kernel
theorem dX3_carryOut_68 : decode cX3_carryOut 68 = .ok (.iload_n 2, 1) := by decide +kernel
theorem dX3_carryOut_69 : decode cX3_carryOut 69 = .ok (.iload_n 3, 1) := by decide +kernel
theorem dX3_carryOut_70 : decode cX3_carryOut 70 = .ok (.ifCond .eq 7, 3) := by decide +kernel
theorem dX3_carryOut_73 : decode cX3_carryOut 73 = .ok (.iconst 1, 1) := by decide +kernel
theorem dX3_carryOut_74 : decode cX3_carryOut 74 = .ok (.goto 4, 3) := by decide +kernel
theorem dX3_carryOut_77 : decode cX3_carryOut 77 = .ok (.iconst 0, 1) := by decide +kernel
theorem dX3_carryOut_78 : decode cX3_carryOut 78 = .ok (.iadd, 1) := by decide +kernel
theorem dX3_carryOut_79 : decode cX3_carryOut 79 = .ok (.istore_n 2, 1) := by decide +kernel
theorem dX3_carryOut_80 : decode cX3_carryOut 80 = .ok (.iload_n 3, 1) := by decide +kernel
theorem dX3_carryOut_81 : decode cX3_carryOut 81 = .ok (.ifCond .eq 18, 3) := by decide +kernel
theorem dX3_carryOut_84 : decode cX3_carryOut 84 = .ok (.aload_n 0, 1) := by decide +kernel
theorem dX3_carryOut_85 : decode cX3_carryOut 85 = .ok (.getfield 200, 3) := by decide +kernel
theorem dX3_carryOut_88 : decode cX3_carryOut 88 = .ok (.aload_n 0, 1) := by decide +kernel
theorem dX3_carryOut_89 : decode cX3_carryOut 89 = .ok (.getfield 197, 3) := by decide +kernel
theorem dX3_carryOut_92 : decode cX3_carryOut 92 = .ok (.if_icmp .ge 7, 3) := by decide +kernel
theorem dX3_carryOut_95 : decode cX3_carryOut 95 = .ok (.iconst 1, 1) := by decide +kernel
theorem dX3_carryOut_96 : decode cX3_carryOut 96 = .ok (.goto 4, 3) := by decide +kernel
theorem dX3_carryOut_99 : decode cX3_carryOut 99 = .ok (.iconst 0, 1) := by decide +kernel
theorem dX3_carryOut_100 : decode cX3_carryOut 100 = .ok (.istore_n 3, 1) := by decide +kernel
theorem dX3_carryOut_101 : decode cX3_carryOut 101 = .ok (.goto (-57), 3) := by decide +kernel
theorem dX3_carryOut_104 : decode cX3_carryOut 104 = .ok (.iload_n 2, 1) := by decide +kernel
theorem dX3_carryOut_105 : decode cX3_carryOut 105 = .ok (.ireturn, 1) := by decide +kernel
set_option maxRecDepth 20000 in
theorem ggX3_digestPerson_X3_tellsPerson : GoodIn wsX3_digestPerson wsX3_tellsPerson := goodIn_r _ [6, 7, 8, 9, 5, 10, 11, 12, 13, 14, 15, 16, 17, 18, 19, 20, 21, 22, 23, 24, 25, 26, 27, 28, 29, 30, 31, 32, 33, 34, 35, 36, 37, 38, 39, 40, 41, 42, 43, 44, 45, 46, 47, 48, 49, 50, 51, 56, 57, 58, 59, 60, 61, 62, 63, 64, 65, 66, 67, 68, 69, 70] (by decide +kernel) (by decide +kernel)
set_option maxRecDepth 20000 in
theorem gX3_digestPerson_X3_tellsPerson : GoodIn wsX3_digestPerson (wsV RX3 160 RX3 yX3_tellsPerson wsX3_tellsPerson) := goodIn_app (goodIn_of _ (by decide +kernel)) ggX3_digestPerson_X3_tellsPerson
set_option maxRecDepth 20000 in
theorem ggX3_digestPerson_X3_workOf : GoodIn wsX3_digestPerson wsX3_workOf := goodIn_r _ [55, 32, 33, 34, 5, 35, 36, 37, 38, 39, 11, 12, 13, 14, 15, 16, 17, 18, 19, 40, 41, 42, 43, 24, 25, 26, 27, 44, 45, 46, 47, 48, 49, 50, 51, 56, 57, 58, 59, 60, 61, 62, 63, 64, 65, 66, 67, 68, 69, 70] (by decide +kernel) (by decide +kernel)
set_option maxRecDepth 20000 in
theorem gX3_digestPerson_X3_workOf : GoodIn wsX3_digestPerson (wsV RX3 163 RX3 yX3_workOf wsX3_workOf) := goodIn_app (goodIn_of _ (by decide +kernel)) ggX3_digestPerson_X3_workOf
theorem dX3_digestPerson_0 : decode cX3_digestPerson 0 = .ok (.lload_n 1, 1) := by decide +kernel
theorem dX3_digestPerson_1 : decode cX3_digestPerson 1 = .ok (.lstore 4, 2) := by decide +kernel
theorem dX3_digestPerson_3 : decode cX3_digestPerson 3 = .ok (.iconst 0, 1) := by decide +kernel
theorem dX3_digestPerson_4 : decode cX3_digestPerson 4 = .ok (.istore 6, 2) := by decide +kernel
theorem dX3_digestPerson_6 : decode cX3_digestPerson 6 = .ok (.iload 6, 2) := by decide +kernel
theorem dX3_digestPerson_8 : decode cX3_digestPerson 8 = .ok (.bipush 7, 2) := by decide +kernel
theorem dX3_digestPerson_10 : decode cX3_digestPerson 10 = .ok (.if_icmp .ge 26, 3) := by decide +kernel
theorem dX3_digestPerson_13 : decode cX3_digestPerson 13 = .ok (.ldc2_w 246, 3) := by decide +kernel
theorem dX3_digestPerson_16 : decode cX3_digestPerson 16 = .ok (.lload 4, 2) := by decide +kernel
theorem dX3_digestPerson_18 : decode cX3_digestPerson 18 = .ok (.lmul, 1) := by decide +kernel
theorem dX3_digestPerson_19 : decode cX3_digestPerson 19 = .ok (.aload_n 0, 1) := by decide +kernel
theorem dX3_digestPerson_20 : decode cX3_digestPerson 20 = .ok (.iload_n 3, 1) := by decide +kernel
theorem dX3_digestPerson_21 : decode cX3_digestPerson 21 = .ok (.iload 6, 2) := by decide +kernel
theorem dX3_digestPerson_23 : decode cX3_digestPerson 23 = .ok (.invokevirtual 160, 3) := by decide +kernel
theorem dX3_digestPerson_26 : decode cX3_digestPerson 26 = .ok (.i2l, 1) := by decide +kernel
theorem dX3_digestPerson_27 : decode cX3_digestPerson 27 = .ok (.ladd, 1) := by decide +kernel
theorem dX3_digestPerson_28 : decode cX3_digestPerson 28 = .ok (.lstore 4, 2) := by decide +kernel
theorem dX3_digestPerson_30 : decode cX3_digestPerson 30 = .ok (.iinc 6 1, 3) := by decide +kernel
theorem dX3_digestPerson_33 : decode cX3_digestPerson 33 = .ok (.goto (-27), 3) := by decide +kernel
theorem dX3_digestPerson_36 : decode cX3_digestPerson 36 = .ok (.ldc2_w 246, 3) := by decide +kernel
theorem dX3_digestPerson_39 : decode cX3_digestPerson 39 = .ok (.lload 4, 2) := by decide +kernel
theorem dX3_digestPerson_41 : decode cX3_digestPerson 41 = .ok (.lmul, 1) := by decide +kernel
theorem dX3_digestPerson_42 : decode cX3_digestPerson 42 = .ok (.aload_n 0, 1) := by decide +kernel
theorem dX3_digestPerson_43 : decode cX3_digestPerson 43 = .ok (.iload_n 3, 1) := by decide +kernel
theorem dX3_digestPerson_44 : decode cX3_digestPerson 44 = .ok (.invokevirtual 163, 3) := by decide +kernel
theorem dX3_digestPerson_47 : decode cX3_digestPerson 47 = .ok (.ladd, 1) := by decide +kernel
theorem dX3_digestPerson_48 : decode cX3_digestPerson 48 = .ok (.lreturn, 1) := by decide +kernel
set_option maxRecDepth 20000 in
theorem ggX3_digestAbsence_X3_tellsAbsence : GoodIn wsX3_digestAbsence wsX3_tellsAbsence := goodIn_r _ [7, 8, 9, 10, 6, 11, 2, 12, 13, 14, 15, 16, 17, 18, 19, 20, 21, 22, 23, 24, 25, 26, 27, 28, 29, 30, 31, 32, 33, 34, 35, 36, 37, 38, 39, 40, 41, 42, 43, 44, 45, 46, 47, 48, 49, 50, 51, 52, 53, 54, 55, 56, 57, 58, 59, 60, 61, 62, 63, 64, 65, 66, 67, 68, 69, 70] (by decide +kernel) (by decide +kernel)
set_option maxRecDepth 20000 in
theorem gX3_digestAbsence_X3_tellsAbsence : GoodIn wsX3_digestAbsence (wsV RX3 170 RX3 yX3_tellsAbsence wsX3_tellsAbsence) := goodIn_app (goodIn_of _ (by decide +kernel)) ggX3_digestAbsence_X3_tellsAbsence
set_option maxRecDepth 20000 in
theorem ggX3_digestAbsence_X3_ofA : GoodIn wsX3_digestAbsence wsX3_ofA := goodIn_r _ [11, 2, 56, 57, 58, 59, 60, 61, 62, 63, 64, 65, 66, 67, 68, 69, 70] (by decide +kernel) (by decide +kernel)
set_option maxRecDepth 20000 in
theorem gX3_digestAbsence_X3_ofA : GoodIn wsX3_digestAbsence (wsV RX3 59 RX3 yX3_ofA wsX3_ofA) := goodIn_app (goodIn_of _ (by decide +kernel)) ggX3_digestAbsence_X3_ofA
theorem dX3_digestAbsence_0 : decode cX3_digestAbsence 0 = .ok (.lload_n 1, 1) := by decide +kernel
theorem dX3_digestAbsence_1 : decode cX3_digestAbsence 1 = .ok (.lstore 4, 2) := by decide +kernel
theorem dX3_digestAbsence_3 : decode cX3_digestAbsence 3 = .ok (.iconst 0, 1) := by decide +kernel
theorem dX3_digestAbsence_4 : decode cX3_digestAbsence 4 = .ok (.istore 6, 2) := by decide +kernel
theorem dX3_digestAbsence_6 : decode cX3_digestAbsence 6 = .ok (.iload 6, 2) := by decide +kernel
theorem dX3_digestAbsence_8 : decode cX3_digestAbsence 8 = .ok (.bipush 7, 2) := by decide +kernel
theorem dX3_digestAbsence_10 : decode cX3_digestAbsence 10 = .ok (.if_icmp .ge 26, 3) := by decide +kernel
theorem dX3_digestAbsence_13 : decode cX3_digestAbsence 13 = .ok (.ldc2_w 246, 3) := by decide +kernel
theorem dX3_digestAbsence_16 : decode cX3_digestAbsence 16 = .ok (.lload 4, 2) := by decide +kernel
theorem dX3_digestAbsence_18 : decode cX3_digestAbsence 18 = .ok (.lmul, 1) := by decide +kernel
theorem dX3_digestAbsence_19 : decode cX3_digestAbsence 19 = .ok (.aload_n 0, 1) := by decide +kernel
theorem dX3_digestAbsence_20 : decode cX3_digestAbsence 20 = .ok (.iload_n 3, 1) := by decide +kernel
theorem dX3_digestAbsence_21 : decode cX3_digestAbsence 21 = .ok (.iload 6, 2) := by decide +kernel
theorem dX3_digestAbsence_23 : decode cX3_digestAbsence 23 = .ok (.invokevirtual 170, 3) := by decide +kernel
theorem dX3_digestAbsence_26 : decode cX3_digestAbsence 26 = .ok (.i2l, 1) := by decide +kernel
theorem dX3_digestAbsence_27 : decode cX3_digestAbsence 27 = .ok (.ladd, 1) := by decide +kernel
theorem dX3_digestAbsence_28 : decode cX3_digestAbsence 28 = .ok (.lstore 4, 2) := by decide +kernel
theorem dX3_digestAbsence_30 : decode cX3_digestAbsence 30 = .ok (.iinc 6 1, 3) := by decide +kernel
theorem dX3_digestAbsence_33 : decode cX3_digestAbsence 33 = .ok (.goto (-27), 3) := by decide +kernel
theorem dX3_digestAbsence_36 : decode cX3_digestAbsence 36 = .ok (.iconst 0, 1) := by decide +kernel
theorem dX3_digestAbsence_37 : decode cX3_digestAbsence 37 = .ok (.istore 6, 2) := by decide +kernel
theorem dX3_digestAbsence_39 : decode cX3_digestAbsence 39 = .ok (.iload 6, 2) := by decide +kernel
theorem dX3_digestAbsence_41 : decode cX3_digestAbsence 41 = .ok (.i2l, 1) := by decide +kernel
theorem dX3_digestAbsence_42 : decode cX3_digestAbsence 42 = .ok (.aload_n 0, 1) := by decide +kernel
theorem dX3_digestAbsence_43 : decode cX3_digestAbsence 43 = .ok (.getfield 7, 3) := by decide +kernel
theorem dX3_digestAbsence_46 : decode cX3_digestAbsence 46 = .ok (.iconst 3, 1) := by decide +kernel
theorem dX3_digestAbsence_47 : decode cX3_digestAbsence 47 = .ok (.laload, 1) := by decide +kernel
theorem dX3_digestAbsence_48 : decode cX3_digestAbsence 48 = .ok (.lcmp, 1) := by decide +kernel
theorem dX3_digestAbsence_49 : decode cX3_digestAbsence 49 = .ok (.ifCond .ge 28, 3) := by decide +kernel
theorem dX3_digestAbsence_52 : decode cX3_digestAbsence 52 = .ok (.ldc2_w 246, 3) := by decide +kernel
theorem dX3_digestAbsence_55 : decode cX3_digestAbsence 55 = .ok (.lload 4, 2) := by decide +kernel
theorem dX3_digestAbsence_57 : decode cX3_digestAbsence 57 = .ok (.lmul, 1) := by decide +kernel
theorem dX3_digestAbsence_58 : decode cX3_digestAbsence 58 = .ok (.aload_n 0, 1) := by decide +kernel
theorem dX3_digestAbsence_59 : decode cX3_digestAbsence 59 = .ok (.iload_n 3, 1) := by decide +kernel
theorem dX3_digestAbsence_60 : decode cX3_digestAbsence 60 = .ok (.iconst 5, 1) := by decide +kernel
theorem dX3_digestAbsence_61 : decode cX3_digestAbsence 61 = .ok (.iload 6, 2) := by decide +kernel
theorem dX3_digestAbsence_63 : decode cX3_digestAbsence 63 = .ok (.iadd, 1) := by decide +kernel
theorem dX3_digestAbsence_64 : decode cX3_digestAbsence 64 = .ok (.invokevirtual 59, 3) := by decide +kernel
theorem dX3_digestAbsence_67 : decode cX3_digestAbsence 67 = .ok (.i2l, 1) := by decide +kernel
theorem dX3_digestAbsence_68 : decode cX3_digestAbsence 68 = .ok (.ladd, 1) := by decide +kernel
theorem dX3_digestAbsence_69 : decode cX3_digestAbsence 69 = .ok (.lstore 4, 2) := by decide +kernel
theorem dX3_digestAbsence_71 : decode cX3_digestAbsence 71 = .ok (.iinc 6 1, 3) := by decide +kernel
theorem dX3_digestAbsence_74 : decode cX3_digestAbsence 74 = .ok (.goto (-35), 3) := by decide +kernel
theorem dX3_digestAbsence_77 : decode cX3_digestAbsence 77 = .ok (.lload 4, 2) := by decide +kernel
theorem dX3_digestAbsence_79 : decode cX3_digestAbsence 79 = .ok (.lreturn, 1) := by decide +kernel
set_option maxRecDepth 20000 in
theorem ggX3_digest_X3_tellsAll : GoodIn wsX3_digest wsX3_tellsAll := goodIn_r _ [11, 5, 12, 13, 14, 10, 15, 16, 17, 18, 19, 20, 21, 22, 23, 24, 25, 26, 27, 28, 29, 30, 31, 32, 33, 34, 35, 36, 105, 106, 107, 108, 109, 110, 111, 112, 113, 114, 115, 116, 117, 118, 119] (by decide +kernel) (by decide +kernel)
set_option maxRecDepth 20000 in
theorem gX3_digest_X3_tellsAll : GoodIn wsX3_digest (wsV RX3 185 RX3 yX3_tellsAll wsX3_tellsAll) := goodIn_app (goodIn_of _ (by decide +kernel)) ggX3_digest_X3_tellsAll
set_option maxRecDepth 20000 in
theorem ggX3_digest_X3_digestPerson : GoodIn wsX3_digest wsX3_digestPerson := goodIn_r _ [40, 4, 41, 42, 43, 10, 44, 45, 46, 47, 48, 49, 50, 51, 52, 25, 26, 27, 28, 5, 53, 54, 55, 56, 16, 17, 18, 19, 57, 58, 59, 60, 61, 62, 63, 64, 65, 66, 67, 68, 69, 70, 71, 72, 73, 74, 75, 76, 77, 78, 79, 80, 81, 82, 83, 84, 105, 106, 107, 108, 109, 110, 111, 112, 113, 114, 115, 116, 117, 118, 119] (by decide +kernel) (by decide +kernel)
set_option maxRecDepth 20000 in
theorem gX3_digest_X3_digestPerson : GoodIn wsX3_digest (wsV RX3 250 RX3 yX3_digestPerson wsX3_digestPerson) := goodIn_app (goodIn_of _ (by decide +kernel)) ggX3_digest_X3_digestPerson
set_option maxRecDepth 20000 in
theorem ggX3_digest_X3_digestAbsence : GoodIn wsX3_digest wsX3_digestAbsence := goodIn_r _ [88, 4, 5, 89, 90, 91, 10, 92, 16, 17, 18, 19, 33, 34, 35, 36, 93, 94, 95, 96, 97, 98, 99, 100, 101, 102, 103, 104, 69, 70, 71, 72, 61, 62, 63, 64, 65, 66, 67, 68, 49, 50, 51, 52, 25, 26, 27, 28, 73, 74, 75, 76, 77, 78, 79, 80, 105, 106, 107, 108, 109, 110, 111, 112, 113, 114, 115, 116, 117, 118, 119] (by decide +kernel) (by decide +kernel)
set_option maxRecDepth 20000 in
theorem gX3_digest_X3_digestAbsence : GoodIn wsX3_digest (wsV RX3 254 RX3 yX3_digestAbsence wsX3_digestAbsence) := goodIn_app (goodIn_of _ (by decide +kernel)) ggX3_digest_X3_digestAbsence
theorem dX3_digest_0 : decode cX3_digest 0 = .ok (.aload_n 0, 1) := by decide +kernel
theorem dX3_digest_1 : decode cX3_digest 1 = .ok (.iconst 0, 1) := by decide +kernel
theorem dX3_digest_2 : decode cX3_digest 2 = .ok (.putfield 30, 3) := by decide +kernel
theorem dX3_digest_5 : decode cX3_digest 5 = .ok (.ldc2_w 248, 3) := by decide +kernel
theorem dX3_digest_8 : decode cX3_digest 8 = .ok (.aload_n 0, 1) := by decide +kernel
theorem dX3_digest_9 : decode cX3_digest 9 = .ok (.getfield 197, 3) := by decide +kernel
theorem dX3_digest_12 : decode cX3_digest 12 = .ok (.i2l, 1) := by decide +kernel
theorem dX3_digest_13 : decode cX3_digest 13 = .ok (.ladd, 1) := by decide +kernel
theorem dX3_digest_14 : decode cX3_digest 14 = .ok (.lstore_n 1, 1) := by decide +kernel
theorem dX3_digest_15 : decode cX3_digest 15 = .ok (.iconst 0, 1) := by decide +kernel
theorem dX3_digest_16 : decode cX3_digest 16 = .ok (.istore_n 3, 1) := by decide +kernel
theorem dX3_digest_17 : decode cX3_digest 17 = .ok (.iload_n 3, 1) := by decide +kernel
theorem dX3_digest_18 : decode cX3_digest 18 = .ok (.bipush 11, 2) := by decide +kernel
theorem dX3_digest_20 : decode cX3_digest 20 = .ok (.if_icmp .ge 22, 3) := by decide +kernel
theorem dX3_digest_23 : decode cX3_digest 23 = .ok (.ldc2_w 246, 3) := by decide +kernel
theorem dX3_digest_26 : decode cX3_digest 26 = .ok (.lload_n 1, 1) := by decide +kernel
theorem dX3_digest_27 : decode cX3_digest 27 = .ok (.lmul, 1) := by decide +kernel
theorem dX3_digest_28 : decode cX3_digest 28 = .ok (.aload_n 0, 1) := by decide +kernel
theorem dX3_digest_29 : decode cX3_digest 29 = .ok (.iload_n 3, 1) := by decide +kernel
theorem dX3_digest_30 : decode cX3_digest 30 = .ok (.invokevirtual 185, 3) := by decide +kernel
theorem dX3_digest_33 : decode cX3_digest 33 = .ok (.i2l, 1) := by decide +kernel
theorem dX3_digest_34 : decode cX3_digest 34 = .ok (.ladd, 1) := by decide +kernel
theorem dX3_digest_35 : decode cX3_digest 35 = .ok (.lstore_n 1, 1) := by decide +kernel
theorem dX3_digest_36 : decode cX3_digest 36 = .ok (.iinc 3 1, 3) := by decide +kernel
theorem dX3_digest_39 : decode cX3_digest 39 = .ok (.goto (-22), 3) := by decide +kernel
theorem dX3_digest_42 : decode cX3_digest 42 = .ok (.iconst 0, 1) := by decide +kernel
theorem dX3_digest_43 : decode cX3_digest 43 = .ok (.istore_n 3, 1) := by decide +kernel
theorem dX3_digest_44 : decode cX3_digest 44 = .ok (.iload_n 3, 1) := by decide +kernel
theorem dX3_digest_45 : decode cX3_digest 45 = .ok (.iconst 3, 1) := by decide +kernel
theorem dX3_digest_46 : decode cX3_digest 46 = .ok (.if_icmp .ge 22, 3) := by decide +kernel
theorem dX3_digest_49 : decode cX3_digest 49 = .ok (.ldc2_w 246, 3) := by decide +kernel
theorem dX3_digest_52 : decode cX3_digest 52 = .ok (.lload_n 1, 1) := by decide +kernel
theorem dX3_digest_53 : decode cX3_digest 53 = .ok (.lmul, 1) := by decide +kernel
theorem dX3_digest_54 : decode cX3_digest 54 = .ok (.aload_n 0, 1) := by decide +kernel
theorem dX3_digest_55 : decode cX3_digest 55 = .ok (.getfield 7, 3) := by decide +kernel
theorem dX3_digest_58 : decode cX3_digest 58 = .ok (.iload_n 3, 1) := by decide +kernel
theorem dX3_digest_59 : decode cX3_digest 59 = .ok (.laload, 1) := by decide +kernel
theorem dX3_digest_60 : decode cX3_digest 60 = .ok (.ladd, 1) := by decide +kernel
theorem dX3_digest_61 : decode cX3_digest 61 = .ok (.lstore_n 1, 1) := by decide +kernel
theorem dX3_digest_62 : decode cX3_digest 62 = .ok (.iinc 3 1, 3) := by decide +kernel
theorem dX3_digest_65 : decode cX3_digest 65 = .ok (.goto (-21), 3) := by decide +kernel
theorem dX3_digest_68 : decode cX3_digest 68 = .ok (.iconst 0, 1) := by decide +kernel
theorem dX3_digest_69 : decode cX3_digest 69 = .ok (.istore_n 3, 1) := by decide +kernel
theorem dX3_digest_70 : decode cX3_digest 70 = .ok (.iload_n 3, 1) := by decide +kernel
theorem dX3_digest_71 : decode cX3_digest 71 = .ok (.i2l, 1) := by decide +kernel
theorem dX3_digest_72 : decode cX3_digest 72 = .ok (.aload_n 0, 1) := by decide +kernel
theorem dX3_digest_73 : decode cX3_digest 73 = .ok (.getfield 7, 3) := by decide +kernel
theorem dX3_digest_76 : decode cX3_digest 76 = .ok (.iconst 3, 1) := by decide +kernel
theorem dX3_digest_77 : decode cX3_digest 77 = .ok (.laload, 1) := by decide +kernel
theorem dX3_digest_78 : decode cX3_digest 78 = .ok (.lcmp, 1) := by decide +kernel
theorem dX3_digest_79 : decode cX3_digest 79 = .ok (.ifCond .ge 16, 3) := by decide +kernel
theorem dX3_digest_82 : decode cX3_digest 82 = .ok (.aload_n 0, 1) := by decide +kernel
theorem dX3_digest_83 : decode cX3_digest 83 = .ok (.lload_n 1, 1) := by decide +kernel
theorem dX3_digest_84 : decode cX3_digest 84 = .ok (.iload_n 3, 1) := by decide +kernel
theorem dX3_digest_85 : decode cX3_digest 85 = .ok (.invokevirtual 250, 3) := by decide +kernel
theorem dX3_digest_88 : decode cX3_digest 88 = .ok (.lstore_n 1, 1) := by decide +kernel
theorem dX3_digest_89 : decode cX3_digest 89 = .ok (.iinc 3 1, 3) := by decide +kernel
theorem dX3_digest_92 : decode cX3_digest 92 = .ok (.goto (-22), 3) := by decide +kernel
theorem dX3_digest_95 : decode cX3_digest 95 = .ok (.iconst 0, 1) := by decide +kernel
theorem dX3_digest_96 : decode cX3_digest 96 = .ok (.istore_n 3, 1) := by decide +kernel
theorem dX3_digest_97 : decode cX3_digest 97 = .ok (.iload_n 3, 1) := by decide +kernel
theorem dX3_digest_98 : decode cX3_digest 98 = .ok (.i2l, 1) := by decide +kernel
theorem dX3_digest_99 : decode cX3_digest 99 = .ok (.aload_n 0, 1) := by decide +kernel
theorem dX3_digest_100 : decode cX3_digest 100 = .ok (.getfield 7, 3) := by decide +kernel
theorem dX3_digest_103 : decode cX3_digest 103 = .ok (.iconst 4, 1) := by decide +kernel
theorem dX3_digest_104 : decode cX3_digest 104 = .ok (.laload, 1) := by decide +kernel
theorem dX3_digest_105 : decode cX3_digest 105 = .ok (.lcmp, 1) := by decide +kernel
theorem dX3_digest_106 : decode cX3_digest 106 = .ok (.ifCond .ge 16, 3) := by decide +kernel
theorem dX3_digest_109 : decode cX3_digest 109 = .ok (.aload_n 0, 1) := by decide +kernel
theorem dX3_digest_110 : decode cX3_digest 110 = .ok (.lload_n 1, 1) := by decide +kernel
theorem dX3_digest_111 : decode cX3_digest 111 = .ok (.iload_n 3, 1) := by decide +kernel
theorem dX3_digest_112 : decode cX3_digest 112 = .ok (.invokevirtual 254, 3) := by decide +kernel
theorem dX3_digest_115 : decode cX3_digest 115 = .ok (.lstore_n 1, 1) := by decide +kernel
theorem dX3_digest_116 : decode cX3_digest 116 = .ok (.iinc 3 1, 3) := by decide +kernel
theorem dX3_digest_119 : decode cX3_digest 119 = .ok (.goto (-22), 3) := by decide +kernel
theorem dX3_digest_122 : decode cX3_digest 122 = .ok (.ldc2_w 246, 3) := by decide +kernel
theorem dX3_digest_125 : decode cX3_digest 125 = .ok (.lload_n 1, 1) := by decide +kernel
theorem dX3_digest_126 : decode cX3_digest 126 = .ok (.lmul, 1) := by decide +kernel
theorem dX3_digest_127 : decode cX3_digest 127 = .ok (.aload_n 0, 1) := by decide +kernel
theorem dX3_digest_128 : decode cX3_digest 128 = .ok (.getfield 45, 3) := by decide +kernel
theorem dX3_digest_131 : decode cX3_digest 131 = .ok (.i2l, 1) := by decide +kernel
theorem dX3_digest_132 : decode cX3_digest 132 = .ok (.ladd, 1) := by decide +kernel
theorem dX3_digest_133 : decode cX3_digest 133 = .ok (.lreturn, 1) := by decide +kernel
theorem dJ13_bitCount_95d88_0 : decode cJ13_bitCount_95d88 0 = .ok (.lload_n 0, 1) := by decide +kernel
theorem dJ13_bitCount_95d88_1 : decode cJ13_bitCount_95d88 1 = .ok (.lload_n 0, 1) := by decide +kernel
theorem dJ13_bitCount_95d88_2 : decode cJ13_bitCount_95d88 2 = .ok (.iconst 1, 1) := by decide +kernel
theorem dJ13_bitCount_95d88_3 : decode cJ13_bitCount_95d88 3 = .ok (.lushr, 1) := by decide +kernel
theorem dJ13_bitCount_95d88_4 : decode cJ13_bitCount_95d88 4 = .ok (.ldc2_w 314, 3) := by decide +kernel
theorem dJ13_bitCount_95d88_7 : decode cJ13_bitCount_95d88 7 = .ok (.land, 1) := by decide +kernel
theorem dJ13_bitCount_95d88_8 : decode cJ13_bitCount_95d88 8 = .ok (.lsub, 1) := by decide +kernel
theorem dJ13_bitCount_95d88_9 : decode cJ13_bitCount_95d88 9 = .ok (.lstore_n 0, 1) := by decide +kernel
theorem dJ13_bitCount_95d88_10 : decode cJ13_bitCount_95d88 10 = .ok (.lload_n 0, 1) := by decide +kernel
theorem dJ13_bitCount_95d88_11 : decode cJ13_bitCount_95d88 11 = .ok (.ldc2_w 316, 3) := by decide +kernel
theorem dJ13_bitCount_95d88_14 : decode cJ13_bitCount_95d88 14 = .ok (.land, 1) := by decide +kernel
theorem dJ13_bitCount_95d88_15 : decode cJ13_bitCount_95d88 15 = .ok (.lload_n 0, 1) := by decide +kernel
theorem dJ13_bitCount_95d88_16 : decode cJ13_bitCount_95d88 16 = .ok (.iconst 2, 1) := by decide +kernel
theorem dJ13_bitCount_95d88_17 : decode cJ13_bitCount_95d88 17 = .ok (.lushr, 1) := by decide +kernel
theorem dJ13_bitCount_95d88_18 : decode cJ13_bitCount_95d88 18 = .ok (.ldc2_w 316, 3) := by decide +kernel
theorem dJ13_bitCount_95d88_21 : decode cJ13_bitCount_95d88 21 = .ok (.land, 1) := by decide +kernel
theorem dJ13_bitCount_95d88_22 : decode cJ13_bitCount_95d88 22 = .ok (.ladd, 1) := by decide +kernel
theorem dJ13_bitCount_95d88_23 : decode cJ13_bitCount_95d88 23 = .ok (.lstore_n 0, 1) := by decide +kernel
theorem dJ13_bitCount_95d88_24 : decode cJ13_bitCount_95d88 24 = .ok (.lload_n 0, 1) := by decide +kernel
theorem dJ13_bitCount_95d88_25 : decode cJ13_bitCount_95d88 25 = .ok (.lload_n 0, 1) := by decide +kernel
theorem dJ13_bitCount_95d88_26 : decode cJ13_bitCount_95d88 26 = .ok (.iconst 4, 1) := by decide +kernel
theorem dJ13_bitCount_95d88_27 : decode cJ13_bitCount_95d88 27 = .ok (.lushr, 1) := by decide +kernel
theorem dJ13_bitCount_95d88_28 : decode cJ13_bitCount_95d88 28 = .ok (.ladd, 1) := by decide +kernel
theorem dJ13_bitCount_95d88_29 : decode cJ13_bitCount_95d88 29 = .ok (.ldc2_w 318, 3) := by decide +kernel
theorem dJ13_bitCount_95d88_32 : decode cJ13_bitCount_95d88 32 = .ok (.land, 1) := by decide +kernel
theorem dJ13_bitCount_95d88_33 : decode cJ13_bitCount_95d88 33 = .ok (.lstore_n 0, 1) := by decide +kernel
theorem dJ13_bitCount_95d88_34 : decode cJ13_bitCount_95d88 34 = .ok (.lload_n 0, 1) := by decide +kernel
theorem dJ13_bitCount_95d88_35 : decode cJ13_bitCount_95d88 35 = .ok (.lload_n 0, 1) := by decide +kernel
theorem dJ13_bitCount_95d88_36 : decode cJ13_bitCount_95d88 36 = .ok (.bipush 8, 2) := by decide +kernel
theorem dJ13_bitCount_95d88_38 : decode cJ13_bitCount_95d88 38 = .ok (.lushr, 1) := by decide +kernel
theorem dJ13_bitCount_95d88_39 : decode cJ13_bitCount_95d88 39 = .ok (.ladd, 1) := by decide +kernel
theorem dJ13_bitCount_95d88_40 : decode cJ13_bitCount_95d88 40 = .ok (.lstore_n 0, 1) := by decide +kernel
theorem dJ13_bitCount_95d88_41 : decode cJ13_bitCount_95d88 41 = .ok (.lload_n 0, 1) := by decide +kernel
theorem dJ13_bitCount_95d88_42 : decode cJ13_bitCount_95d88 42 = .ok (.lload_n 0, 1) := by decide +kernel
theorem dJ13_bitCount_95d88_43 : decode cJ13_bitCount_95d88 43 = .ok (.bipush 16, 2) := by decide +kernel
theorem dJ13_bitCount_95d88_45 : decode cJ13_bitCount_95d88 45 = .ok (.lushr, 1) := by decide +kernel
theorem dJ13_bitCount_95d88_46 : decode cJ13_bitCount_95d88 46 = .ok (.ladd, 1) := by decide +kernel
theorem dJ13_bitCount_95d88_47 : decode cJ13_bitCount_95d88 47 = .ok (.lstore_n 0, 1) := by decide +kernel
theorem dJ13_bitCount_95d88_48 : decode cJ13_bitCount_95d88 48 = .ok (.lload_n 0, 1) := by decide +kernel
theorem dJ13_bitCount_95d88_49 : decode cJ13_bitCount_95d88 49 = .ok (.lload_n 0, 1) := by decide +kernel
theorem dJ13_bitCount_95d88_50 : decode cJ13_bitCount_95d88 50 = .ok (.bipush 32, 2) := by decide +kernel
theorem dJ13_bitCount_95d88_52 : decode cJ13_bitCount_95d88 52 = .ok (.lushr, 1) := by decide +kernel
theorem dJ13_bitCount_95d88_53 : decode cJ13_bitCount_95d88 53 = .ok (.ladd, 1) := by decide +kernel
theorem dJ13_bitCount_95d88_54 : decode cJ13_bitCount_95d88 54 = .ok (.lstore_n 0, 1) := by decide +kernel
theorem dJ13_bitCount_95d88_55 : decode cJ13_bitCount_95d88 55 = .ok (.lload_n 0, 1) := by decide +kernel
theorem dJ13_bitCount_95d88_56 : decode cJ13_bitCount_95d88 56 = .ok (.l2i, 1) := by decide +kernel
theorem dJ13_bitCount_95d88_57 : decode cJ13_bitCount_95d88 57 = .ok (.bipush 127, 2) := by decide +kernel
theorem dJ13_bitCount_95d88_59 : decode cJ13_bitCount_95d88 59 = .ok (.iand, 1) := by decide +kernel
theorem dJ13_bitCount_95d88_60 : decode cJ13_bitCount_95d88 60 = .ok (.ireturn, 1) := by decide +kernel
theorem dJ9_abs_0f7a4_0 : decode cJ9_abs_0f7a4 0 = .ok (.iload_n 0, 1) := by decide +kernel
theorem dJ9_abs_0f7a4_1 : decode cJ9_abs_0f7a4 1 = .ok (.ifCond .ge 8, 3) := by decide +kernel
theorem dJ9_abs_0f7a4_4 : decode cJ9_abs_0f7a4 4 = .ok (.iload_n 0, 1) := by decide +kernel
theorem dJ9_abs_0f7a4_5 : decode cJ9_abs_0f7a4 5 = .ok (.ineg, 1) := by decide +kernel
theorem dJ9_abs_0f7a4_6 : decode cJ9_abs_0f7a4 6 = .ok (.goto 4, 3) := by decide +kernel
theorem dJ9_abs_0f7a4_9 : decode cJ9_abs_0f7a4 9 = .ok (.iload_n 0, 1) := by decide +kernel
theorem dJ9_abs_0f7a4_10 : decode cJ9_abs_0f7a4 10 = .ok (.ireturn, 1) := by decide +kernel
theorem dJ9_max_7cf53_0 : decode cJ9_max_7cf53 0 = .ok (.iload_n 0, 1) := by decide +kernel
theorem dJ9_max_7cf53_1 : decode cJ9_max_7cf53 1 = .ok (.iload_n 1, 1) := by decide +kernel
theorem dJ9_max_7cf53_2 : decode cJ9_max_7cf53 2 = .ok (.if_icmp .lt 7, 3) := by decide +kernel
theorem dJ9_max_7cf53_5 : decode cJ9_max_7cf53 5 = .ok (.iload_n 0, 1) := by decide +kernel
theorem dJ9_max_7cf53_6 : decode cJ9_max_7cf53 6 = .ok (.goto 4, 3) := by decide +kernel
theorem dJ9_max_7cf53_9 : decode cJ9_max_7cf53 9 = .ok (.iload_n 1, 1) := by decide +kernel
theorem dJ9_max_7cf53_10 : decode cJ9_max_7cf53 10 = .ok (.ireturn, 1) := by decide +kernel
theorem dJ9_min_7cf53_0 : decode cJ9_min_7cf53 0 = .ok (.iload_n 0, 1) := by decide +kernel
theorem dJ9_min_7cf53_1 : decode cJ9_min_7cf53 1 = .ok (.iload_n 1, 1) := by decide +kernel
theorem dJ9_min_7cf53_2 : decode cJ9_min_7cf53 2 = .ok (.if_icmp .gt 7, 3) := by decide +kernel
theorem dJ9_min_7cf53_5 : decode cJ9_min_7cf53 5 = .ok (.iload_n 0, 1) := by decide +kernel
theorem dJ9_min_7cf53_6 : decode cJ9_min_7cf53 6 = .ok (.goto 4, 3) := by decide +kernel
theorem dJ9_min_7cf53_9 : decode cJ9_min_7cf53 9 = .ok (.iload_n 1, 1) := by decide +kernel
theorem dJ9_min_7cf53_10 : decode cJ9_min_7cf53 10 = .ok (.ireturn, 1) := by decide +kernel
abbrev vwCl : List vw_C := [(RX0, TX0, 8), (RX1, TX1, 15), (RX2, TX2, 5), (RX3, TX3, 15)]
