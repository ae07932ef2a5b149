set_option maxRecDepth 20000 in
theorem gX1_coverOpen_X2_bidIndex_n74 : GoodIn wsX1_coverOpen (wsX2_bidIndex) := ggX1_coverOpen_X2_bidIndex
set_option maxRecDepth 20000 in
theorem ggX1_coverOpen_X1_dropBids : GoodIn wsX1_coverOpen wsX1_dropBids := goodIn_r _ [49, 1, 40, 41, 42, 50, 51, 52, 53, 54, 55, 56, 57, 58, 59, 60, 61, 62, 63, 64] (by decide +kernel) (by decide +kernel)
set_option maxRecDepth 20000 in
theorem gX1_coverOpen_X1_dropBids : GoodIn wsX1_coverOpen (wsV RX1 70 RX1 yX1_dropBids wsX1_dropBids) := goodIn_app (goodIn_of _ (by decide +kernel)) ggX1_coverOpen_X1_dropBids
theorem dX1_coverOpen_0 : decode cX1_coverOpen 0 = .ok (.aload_n 0, 1) := by decide +kernel
theorem dX1_coverOpen_1 : decode cX1_coverOpen 1 = .ok (.iload_n 1, 1) := by decide +kernel
theorem dX1_coverOpen_2 : decode cX1_coverOpen 2 = .ok (.invokevirtual 102, 3) := by decide +kernel
theorem dX1_coverOpen_5 : decode cX1_coverOpen 5 = .ok (.istore_n 2, 1) := by decide +kernel
theorem dX1_coverOpen_6 : decode cX1_coverOpen 6 = .ok (.iload_n 2, 1) := by decide +kernel
theorem dX1_coverOpen_7 : decode cX1_coverOpen 7 = .ok (.iconst (-1), 1) := by decide +kernel
theorem dX1_coverOpen_8 : decode cX1_coverOpen 8 = .ok (.if_icmp .ne 5, 3) := by decide +kernel
theorem dX1_coverOpen_11 : decode cX1_coverOpen 11 = .ok (.iconst 0, 1) := by decide +kernel
theorem dX1_coverOpen_12 : decode cX1_coverOpen 12 = .ok (.ireturn, 1) := by decide +kernel
theorem dX1_coverOpen_13 : decode cX1_coverOpen 13 = .ok (.aload_n 0, 1) := by decide +kernel
theorem dX1_coverOpen_14 : decode cX1_coverOpen 14 = .ok (.getfield 46, 3) := by decide +kernel
theorem dX1_coverOpen_17 : decode cX1_coverOpen 17 = .ok (.iload_n 2, 1) := by decide +kernel
theorem dX1_coverOpen_18 : decode cX1_coverOpen 18 = .ok (.iload_n 1, 1) := by decide +kernel
theorem dX1_coverOpen_19 : decode cX1_coverOpen 19 = .ok (.invokestatic 74, 3) := by decide +kernel
theorem dX1_coverOpen_22 : decode cX1_coverOpen 22 = .ok (.iaload, 1) := by decide +kernel
theorem dX1_coverOpen_23 : decode cX1_coverOpen 23 = .ok (.istore_n 3, 1) := by decide +kernel
theorem dX1_coverOpen_24 : decode cX1_coverOpen 24 = .ok (.iload_n 3, 1) := by decide +kernel
theorem dX1_coverOpen_25 : decode cX1_coverOpen 25 = .ok (.iconst (-1), 1) := by decide +kernel
theorem dX1_coverOpen_26 : decode cX1_coverOpen 26 = .ok (.if_icmp .eq 20, 3) := by decide +kernel
theorem dX1_coverOpen_29 : decode cX1_coverOpen 29 = .ok (.aload_n 0, 1) := by decide +kernel
theorem dX1_coverOpen_30 : decode cX1_coverOpen 30 = .ok (.getfield 37, 3) := by decide +kernel
theorem dX1_coverOpen_33 : decode cX1_coverOpen 33 = .ok (.iload_n 1, 1) := by decide +kernel
theorem dX1_coverOpen_34 : decode cX1_coverOpen 34 = .ok (.iconst 1, 1) := by decide +kernel
theorem dX1_coverOpen_35 : decode cX1_coverOpen 35 = .ok (.iastore, 1) := by decide +kernel
theorem dX1_coverOpen_36 : decode cX1_coverOpen 36 = .ok (.aload_n 0, 1) := by decide +kernel
theorem dX1_coverOpen_37 : decode cX1_coverOpen 37 = .ok (.getfield 43, 3) := by decide +kernel
theorem dX1_coverOpen_40 : decode cX1_coverOpen 40 = .ok (.iload_n 1, 1) := by decide +kernel
theorem dX1_coverOpen_41 : decode cX1_coverOpen 41 = .ok (.iload_n 3, 1) := by decide +kernel
theorem dX1_coverOpen_42 : decode cX1_coverOpen 42 = .ok (.iastore, 1) := by decide +kernel
theorem dX1_coverOpen_43 : decode cX1_coverOpen 43 = .ok (.goto 32, 3) := by decide +kernel
theorem dX1_coverOpen_46 : decode cX1_coverOpen 46 = .ok (.aload_n 0, 1) := by decide +kernel
theorem dX1_coverOpen_47 : decode cX1_coverOpen 47 = .ok (.getfield 37, 3) := by decide +kernel
theorem dX1_coverOpen_50 : decode cX1_coverOpen 50 = .ok (.iload_n 1, 1) := by decide +kernel
theorem dX1_coverOpen_51 : decode cX1_coverOpen 51 = .ok (.iconst 2, 1) := by decide +kernel
theorem dX1_coverOpen_52 : decode cX1_coverOpen 52 = .ok (.iastore, 1) := by decide +kernel
theorem dX1_coverOpen_53 : decode cX1_coverOpen 53 = .ok (.aload_n 0, 1) := by decide +kernel
theorem dX1_coverOpen_54 : decode cX1_coverOpen 54 = .ok (.getfield 43, 3) := by decide +kernel
theorem dX1_coverOpen_57 : decode cX1_coverOpen 57 = .ok (.iload_n 1, 1) := by decide +kernel
theorem dX1_coverOpen_58 : decode cX1_coverOpen 58 = .ok (.aload_n 0, 1) := by decide +kernel
theorem dX1_coverOpen_59 : decode cX1_coverOpen 59 = .ok (.getfield 9, 3) := by decide +kernel
theorem dX1_coverOpen_62 : decode cX1_coverOpen 62 = .ok (.iconst 1, 1) := by decide +kernel
theorem dX1_coverOpen_63 : decode cX1_coverOpen 63 = .ok (.iaload, 1) := by decide +kernel
theorem dX1_coverOpen_64 : decode cX1_coverOpen 64 = .ok (.iastore, 1) := by decide +kernel
theorem dX1_coverOpen_65 : decode cX1_coverOpen 65 = .ok (.aload_n 0, 1) := by decide +kernel
theorem dX1_coverOpen_66 : decode cX1_coverOpen 66 = .ok (.getfield 28, 3) := by decide +kernel
theorem dX1_coverOpen_69 : decode cX1_coverOpen 69 = .ok (.iload_n 2, 1) := by decide +kernel
theorem dX1_coverOpen_70 : decode cX1_coverOpen 70 = .ok (.dup2, 1) := by decide +kernel
theorem dX1_coverOpen_71 : decode cX1_coverOpen 71 = .ok (.iaload, 1) := by decide +kernel
theorem dX1_coverOpen_72 : decode cX1_coverOpen 72 = .ok (.iconst 1, 1) := by decide +kernel
theorem dX1_coverOpen_73 : decode cX1_coverOpen 73 = .ok (.iadd, 1) := by decide +kernel
theorem dX1_coverOpen_74 : decode cX1_coverOpen 74 = .ok (.iastore, 1) := by decide +kernel
theorem dX1_coverOpen_75 : decode cX1_coverOpen 75 = .ok (.aload_n 0, 1) := by decide +kernel
theorem dX1_coverOpen_76 : decode cX1_coverOpen 76 = .ok (.getfield 40, 3) := by decide +kernel
theorem dX1_coverOpen_79 : decode cX1_coverOpen 79 = .ok (.iload_n 1, 1) := by decide +kernel
theorem dX1_coverOpen_80 : decode cX1_coverOpen 80 = .ok (.iload_n 2, 1) := by decide +kernel
theorem dX1_coverOpen_81 : decode cX1_coverOpen 81 = .ok (.iastore, 1) := by decide +kernel
theorem dX1_coverOpen_82 : decode cX1_coverOpen 82 = .ok (.aload_n 0, 1) := by decide +kernel
theorem dX1_coverOpen_83 : decode cX1_coverOpen 83 = .ok (.getfield 22, 3) := by decide +kernel
theorem dX1_coverOpen_86 : decode cX1_coverOpen 86 = .ok (.iload_n 2, 1) := by decide +kernel
theorem dX1_coverOpen_87 : decode cX1_coverOpen 87 = .ok (.dup2, 1) := by decide +kernel
theorem dX1_coverOpen_88 : decode cX1_coverOpen 88 = .ok (.laload, 1) := by decide +kernel
theorem dX1_coverOpen_89 : decode cX1_coverOpen 89 = .ok (.lconst 1, 1) := by decide +kernel
theorem dX1_coverOpen_90 : decode cX1_coverOpen 90 = .ok (.aload_n 0, 1) := by decide +kernel
theorem dX1_coverOpen_91 : decode cX1_coverOpen 91 = .ok (.getfield 34, 3) := by decide +kernel
theorem dX1_coverOpen_94 : decode cX1_coverOpen 94 = .ok (.iload_n 1, 1) := by decide +kernel
theorem dX1_coverOpen_95 : decode cX1_coverOpen 95 = .ok (.iaload, 1) := by decide +kernel
theorem dX1_coverOpen_96 : decode cX1_coverOpen 96 = .ok (.lshl, 1) := by decide +kernel
theorem dX1_coverOpen_97 : decode cX1_coverOpen 97 = .ok (.lor, 1) := by decide +kernel
theorem dX1_coverOpen_98 : decode cX1_coverOpen 98 = .ok (.lastore, 1) := by decide +kernel
theorem dX1_coverOpen_99 : decode cX1_coverOpen 99 = .ok (.aload_n 0, 1) := by decide +kernel
theorem dX1_coverOpen_100 : decode cX1_coverOpen 100 = .ok (.getfield 25, 3) := by decide +kernel
theorem dX1_coverOpen_103 : decode cX1_coverOpen 103 = .ok (.iload_n 2, 1) := by decide +kernel
theorem dX1_coverOpen_104 : decode cX1_coverOpen 104 = .ok (.dup2, 1) := by decide +kernel
theorem dX1_coverOpen_105 : decode cX1_coverOpen 105 = .ok (.iaload, 1) := by decide +kernel
theorem dX1_coverOpen_106 : decode cX1_coverOpen 106 = .ok (.aload_n 0, 1) := by decide +kernel
theorem dX1_coverOpen_107 : decode cX1_coverOpen 107 = .ok (.getfield 43, 3) := by decide +kernel
theorem dX1_coverOpen_110 : decode cX1_coverOpen 110 = .ok (.iload_n 1, 1) := by decide +kernel
theorem dX1_coverOpen_111 : decode cX1_coverOpen 111 = .ok (.iaload, 1) := by decide +kernel
theorem dX1_coverOpen_112 : decode cX1_coverOpen 112 = .ok (.iadd, 1) := by decide +kernel
theorem dX1_coverOpen_113 : decode cX1_coverOpen 113 = .ok (.iastore, 1) := by decide +kernel
theorem dX1_coverOpen_114 : decode cX1_coverOpen 114 = .ok (.aload_n 0, 1) := by decide +kernel
theorem dX1_coverOpen_115 : decode cX1_coverOpen 115 = .ok (.getfield 25, 3) := by decide +kernel
theorem dX1_coverOpen_118 : decode cX1_coverOpen 118 = .ok (.aload_n 0, 1) := by decide +kernel
theorem dX1_coverOpen_119 : decode cX1_coverOpen 119 = .ok (.getfield 31, 3) := by decide +kernel
theorem dX1_coverOpen_122 : decode cX1_coverOpen 122 = .ok (.iload_n 1, 1) := by decide +kernel
theorem dX1_coverOpen_123 : decode cX1_coverOpen 123 = .ok (.iaload, 1) := by decide +kernel
theorem dX1_coverOpen_124 : decode cX1_coverOpen 124 = .ok (.dup2, 1) := by decide +kernel
theorem dX1_coverOpen_125 : decode cX1_coverOpen 125 = .ok (.iaload, 1) := by decide +kernel
theorem dX1_coverOpen_126 : decode cX1_coverOpen 126 = .ok (.aload_n 0, 1) := by decide +kernel
theorem dX1_coverOpen_127 : decode cX1_coverOpen 127 = .ok (.getfield 43, 3) := by decide +kernel
theorem dX1_coverOpen_130 : decode cX1_coverOpen 130 = .ok (.iload_n 1, 1) := by decide +kernel
theorem dX1_coverOpen_131 : decode cX1_coverOpen 131 = .ok (.iaload, 1) := by decide +kernel
theorem dX1_coverOpen_132 : decode cX1_coverOpen 132 = .ok (.isub, 1) := by decide +kernel
theorem dX1_coverOpen_133 : decode cX1_coverOpen 133 = .ok (.iastore, 1) := by decide +kernel
theorem dX1_coverOpen_134 : decode cX1_coverOpen 134 = .ok (.aload_n 0, 1) := by decide +kernel
theorem dX1_coverOpen_135 : decode cX1_coverOpen 135 = .ok (.iload_n 1, 1) := by decide +kernel
theorem dX1_coverOpen_136 : decode cX1_coverOpen 136 = .ok (.invokevirtual 70, 3) := by decide +kernel
theorem dX1_coverOpen_139 : decode cX1_coverOpen 139 = .ok (.iconst 1, 1) := by decide +kernel
theorem dX1_coverOpen_140 : decode cX1_coverOpen 140 = .ok (.ireturn, 1) := by decide +kernel
set_option maxRecDepth 20000 in
theorem ggX1_coverAllOpen_X1_coverOpen : GoodIn wsX1_coverAllOpen wsX1_coverOpen := goodIn_r _ [6, 7, 8, 9, 10, 11, 12, 13, 14, 15, 16, 17, 18, 19, 5, 20, 21, 22, 23, 24, 25, 26, 27, 28, 29, 30, 31, 32, 33, 34, 35, 36, 37, 38, 39, 40, 41, 42, 43, 44, 45, 46, 47, 48, 49, 50, 51, 52, 53, 54, 55, 56, 57, 58, 59, 60, 61, 62, 63, 64, 65, 66, 67, 68, 69] (by decide +kernel) (by decide +kernel)
set_option maxRecDepth 20000 in
theorem gX1_coverAllOpen_X1_coverOpen : GoodIn wsX1_coverAllOpen (wsV RX1 106 RX1 yX1_coverOpen wsX1_coverOpen) := goodIn_app (goodIn_of _ (by decide +kernel)) ggX1_coverAllOpen_X1_coverOpen
theorem dX1_coverAllOpen_0 : decode cX1_coverAllOpen 0 = .ok (.iconst 0, 1) := by decide +kernel
theorem dX1_coverAllOpen_1 : decode cX1_coverAllOpen 1 = .ok (.istore_n 1, 1) := by decide +kernel
theorem dX1_coverAllOpen_2 : decode cX1_coverAllOpen 2 = .ok (.iconst 0, 1) := by decide +kernel
theorem dX1_coverAllOpen_3 : decode cX1_coverAllOpen 3 = .ok (.istore_n 2, 1) := by decide +kernel
theorem dX1_coverAllOpen_4 : decode cX1_coverAllOpen 4 = .ok (.iload_n 2, 1) := by decide +kernel
theorem dX1_coverAllOpen_5 : decode cX1_coverAllOpen 5 = .ok (.aload_n 0, 1) := by decide +kernel
theorem dX1_coverAllOpen_6 : decode cX1_coverAllOpen 6 = .ok (.getfield 65, 3) := by decide +kernel
theorem dX1_coverAllOpen_9 : decode cX1_coverAllOpen 9 = .ok (.if_icmp .ge 20, 3) := by decide +kernel
theorem dX1_coverAllOpen_12 : decode cX1_coverAllOpen 12 = .ok (.aload_n 0, 1) := by decide +kernel
theorem dX1_coverAllOpen_13 : decode cX1_coverAllOpen 13 = .ok (.iload_n 2, 1) := by decide +kernel
theorem dX1_coverAllOpen_14 : decode cX1_coverAllOpen 14 = .ok (.invokevirtual 106, 3) := by decide +kernel
theorem dX1_coverAllOpen_17 : decode cX1_coverAllOpen 17 = .ok (.ifCond .eq 6, 3) := by decide +kernel
theorem dX1_coverAllOpen_20 : decode cX1_coverAllOpen 20 = .ok (.iinc 1 1, 3) := by decide +kernel
theorem dX1_coverAllOpen_23 : decode cX1_coverAllOpen 23 = .ok (.iinc 2 1, 3) := by decide +kernel
theorem dX1_coverAllOpen_26 : decode cX1_coverAllOpen 26 = .ok (.goto (-22), 3) := by decide +kernel
theorem dX1_coverAllOpen_29 : decode cX1_coverAllOpen 29 = .ok (.iload_n 1, 1) := by decide +kernel
theorem dX1_coverAllOpen_30 : decode cX1_coverAllOpen 30 = .ok (.ireturn, 1) := by decide +kernel
theorem dX1_moveCover_0 : decode cX1_moveCover 0 = .ok (.lconst 1, 1) := by decide +kernel
theorem dX1_moveCover_1 : decode cX1_moveCover 1 = .ok (.aload_n 0, 1) := by decide +kernel
theorem dX1_moveCover_2 : decode cX1_moveCover 2 = .ok (.getfield 34, 3) := by decide +kernel
theorem dX1_moveCover_5 : decode cX1_moveCover 5 = .ok (.iload_n 1, 1) := by decide +kernel
theorem dX1_moveCover_6 : decode cX1_moveCover 6 = .ok (.iaload, 1) := by decide +kernel
theorem dX1_moveCover_7 : decode cX1_moveCover 7 = .ok (.lshl, 1) := by decide +kernel
theorem dX1_moveCover_8 : decode cX1_moveCover 8 = .ok (.lstore_n 3, 1) := by decide +kernel
theorem dX1_moveCover_9 : decode cX1_moveCover 9 = .ok (.aload_n 0, 1) := by decide +kernel
theorem dX1_moveCover_10 : decode cX1_moveCover 10 = .ok (.getfield 40, 3) := by decide +kernel
theorem dX1_moveCover_13 : decode cX1_moveCover 13 = .ok (.iload_n 1, 1) := by decide +kernel
theorem dX1_moveCover_14 : decode cX1_moveCover 14 = .ok (.iaload, 1) := by decide +kernel
theorem dX1_moveCover_15 : decode cX1_moveCover 15 = .ok (.istore 5, 2) := by decide +kernel
theorem dX1_moveCover_17 : decode cX1_moveCover 17 = .ok (.aload_n 0, 1) := by decide +kernel
theorem dX1_moveCover_18 : decode cX1_moveCover 18 = .ok (.getfield 22, 3) := by decide +kernel
theorem dX1_moveCover_21 : decode cX1_moveCover 21 = .ok (.iload 5, 2) := by decide +kernel
theorem dX1_moveCover_23 : decode cX1_moveCover 23 = .ok (.dup2, 1) := by decide +kernel
theorem dX1_moveCover_24 : decode cX1_moveCover 24 = .ok (.laload, 1) := by decide +kernel
theorem dX1_moveCover_25 : decode cX1_moveCover 25 = .ok (.lload_n 3, 1) := by decide +kernel
theorem dX1_moveCover_26 : decode cX1_moveCover 26 = .ok (.ldc2_w 68, 3) := by decide +kernel
theorem dX1_moveCover_29 : decode cX1_moveCover 29 = .ok (.lxor, 1) := by decide +kernel
theorem dX1_moveCover_30 : decode cX1_moveCover 30 = .ok (.land, 1) := by decide +kernel
theorem dX1_moveCover_31 : decode cX1_moveCover 31 = .ok (.lastore, 1) := by decide +kernel
theorem dX1_moveCover_32 : decode cX1_moveCover 32 = .ok (.aload_n 0, 1) := by decide +kernel
theorem dX1_moveCover_33 : decode cX1_moveCover 33 = .ok (.getfield 25, 3) := by decide +kernel
theorem dX1_moveCover_36 : decode cX1_moveCover 36 = .ok (.iload 5, 2) := by decide +kernel
theorem dX1_moveCover_38 : decode cX1_moveCover 38 = .ok (.dup2, 1) := by decide +kernel
theorem dX1_moveCover_39 : decode cX1_moveCover 39 = .ok (.iaload, 1) := by decide +kernel
theorem dX1_moveCover_40 : decode cX1_moveCover 40 = .ok (.aload_n 0, 1) := by decide +kernel
theorem dX1_moveCover_41 : decode cX1_moveCover 41 = .ok (.getfield 43, 3) := by decide +kernel
theorem dX1_moveCover_44 : decode cX1_moveCover 44 = .ok (.iload_n 1, 1) := by decide +kernel
theorem dX1_moveCover_45 : decode cX1_moveCover 45 = .ok (.iaload, 1) := by decide +kernel
theorem dX1_moveCover_46 : decode cX1_moveCover 46 = .ok (.isub, 1) := by decide +kernel
theorem dX1_moveCover_47 : decode cX1_moveCover 47 = .ok (.iastore, 1) := by decide +kernel
theorem dX1_moveCover_48 : decode cX1_moveCover 48 = .ok (.aload_n 0, 1) := by decide +kernel
theorem dX1_moveCover_49 : decode cX1_moveCover 49 = .ok (.getfield 22, 3) := by decide +kernel
theorem dX1_moveCover_52 : decode cX1_moveCover 52 = .ok (.iload_n 2, 1) := by decide +kernel
theorem dX1_moveCover_53 : decode cX1_moveCover 53 = .ok (.dup2, 1) := by decide +kernel
theorem dX1_moveCover_54 : decode cX1_moveCover 54 = .ok (.laload, 1) := by decide +kernel
theorem dX1_moveCover_55 : decode cX1_moveCover 55 = .ok (.lload_n 3, 1) := by decide +kernel
theorem dX1_moveCover_56 : decode cX1_moveCover 56 = .ok (.lor, 1) := by decide +kernel
theorem dX1_moveCover_57 : decode cX1_moveCover 57 = .ok (.lastore, 1) := by decide +kernel
theorem dX1_moveCover_58 : decode cX1_moveCover 58 = .ok (.aload_n 0, 1) := by decide +kernel
theorem dX1_moveCover_59 : decode cX1_moveCover 59 = .ok (.getfield 25, 3) := by decide +kernel
theorem dX1_moveCover_62 : decode cX1_moveCover 62 = .ok (.iload_n 2, 1) := by decide +kernel
theorem dX1_moveCover_63 : decode cX1_moveCover 63 = .ok (.dup2, 1) := by decide +kernel
theorem dX1_moveCover_64 : decode cX1_moveCover 64 = .ok (.iaload, 1) := by decide +kernel
theorem dX1_moveCover_65 : decode cX1_moveCover 65 = .ok (.aload_n 0, 1) := by decide +kernel
theorem dX1_moveCover_66 : decode cX1_moveCover 66 = .ok (.getfield 43, 3) := by decide +kernel
theorem dX1_moveCover_69 : decode cX1_moveCover 69 = .ok (.iload_n 1, 1) := by decide +kernel
theorem dX1_moveCover_70 : decode cX1_moveCover 70 = .ok (.iaload, 1) := by decide +kernel
theorem dX1_moveCover_71 : decode cX1_moveCover 71 = .ok (.iadd, 1) := by decide +kernel
theorem dX1_moveCover_72 : decode cX1_moveCover 72 = .ok (.iastore, 1) := by decide +kernel
theorem dX1_moveCover_73 : decode cX1_moveCover 73 = .ok (.aload_n 0, 1) := by decide +kernel
theorem dX1_moveCover_74 : decode cX1_moveCover 74 = .ok (.getfield 40, 3) := by decide +kernel
theorem dX1_moveCover_77 : decode cX1_moveCover 77 = .ok (.iload_n 1, 1) := by decide +kernel
theorem dX1_moveCover_78 : decode cX1_moveCover 78 = .ok (.iload_n 2, 1) := by decide +kernel
theorem dX1_moveCover_79 : decode cX1_moveCover 79 = .ok (.iastore, 1) := by decide +kernel
theorem dX1_moveCover_80 : decode cX1_moveCover 80 = .ok (.aload_n 0, 1) := by decide +kernel
theorem dX1_moveCover_81 : decode cX1_moveCover 81 = .ok (.dup, 1) := by decide +kernel
theorem dX1_moveCover_82 : decode cX1_moveCover 82 = .ok (.getfield 58, 3) := by decide +kernel
theorem dX1_moveCover_85 : decode cX1_moveCover 85 = .ok (.iconst 1, 1) := by decide +kernel
theorem dX1_moveCover_86 : decode cX1_moveCover 86 = .ok (.iadd, 1) := by decide +kernel
theorem dX1_moveCover_87 : decode cX1_moveCover 87 = .ok (.putfield 58, 3) := by decide +kernel
theorem dX1_moveCover_90 : decode cX1_moveCover 90 = .ok (.return_, 1) := by decide +kernel
set_option maxRecDepth 20000 in
theorem ggX1_aboutPerson_J13_bitCount_95d88 : GoodIn wsX1_aboutPerson wsJ13_bitCount_95d88 := goodIn_r _ [9, 10, 11, 12] (by decide +kernel) (by decide +kernel)
set_option maxRecDepth 20000 in
theorem gX1_aboutPerson_J13_bitCount_95d88 : GoodIn wsX1_aboutPerson (va_wsS RX1 110 yJ13_bitCount_95d88 wsJ13_bitCount_95d88) := goodIn_app (goodIn_of _ (by decide +kernel)) ggX1_aboutPerson_J13_bitCount_95d88
set_option maxRecDepth 20000 in
theorem ggX1_aboutPerson_X1_worked : GoodIn wsX1_aboutPerson wsX1_worked := goodIn_r _ [17, 1, 2, 18, 3, 28, 29, 30, 31, 32, 33, 34, 35, 36, 37, 38, 39, 40, 41, 42] (by decide +kernel) (by decide +kernel)
set_option maxRecDepth 20000 in
theorem gX1_aboutPerson_X1_worked : GoodIn wsX1_aboutPerson (wsV RX1 78 RX1 yX1_worked wsX1_worked) := goodIn_app (goodIn_of _ (by decide +kernel)) ggX1_aboutPerson_X1_worked
set_option maxRecDepth 20000 in
theorem ggX1_aboutPerson_X1_bidsBy : GoodIn wsX1_aboutPerson wsX1_bidsBy := goodIn_r _ [22, 23, 24, 25, 26, 27, 28, 29, 30, 31, 32, 33, 34, 35, 36, 37, 38, 39, 40, 41, 42] (by decide +kernel) (by decide +kernel)
set_option maxRecDepth 20000 in
theorem gX1_aboutPerson_X1_bidsBy : GoodIn wsX1_aboutPerson (wsV RX1 116 RX1 yX1_bidsBy wsX1_bidsBy) := goodIn_app (goodIn_of _ (by decide +kernel)) ggX1_aboutPerson_X1_bidsBy
theorem dX1_aboutPerson_0 : decode cX1_aboutPerson 0 = .ok (.iload_n 2, 1) := by decide +kernel
theorem dX1_aboutPerson_1 : decode cX1_aboutPerson 1 = .ok (.tableswitch 92 0 5 #[39, 49, 59, 69, 76, 83], 39) := by decide +kernel
theorem dX1_aboutPerson_40 : decode cX1_aboutPerson 40 = .ok (.aload_n 0, 1) := by decide +kernel
theorem dX1_aboutPerson_41 : decode cX1_aboutPerson 41 = .ok (.getfield 15, 3) := by decide +kernel
theorem dX1_aboutPerson_44 : decode cX1_aboutPerson 44 = .ok (.iload_n 1, 1) := by decide +kernel
theorem dX1_aboutPerson_45 : decode cX1_aboutPerson 45 = .ok (.laload, 1) := by decide +kernel
theorem dX1_aboutPerson_46 : decode cX1_aboutPerson 46 = .ok (.invokestatic 110, 3) := by decide +kernel
theorem dX1_aboutPerson_49 : decode cX1_aboutPerson 49 = .ok (.ireturn, 1) := by decide +kernel
theorem dX1_aboutPerson_50 : decode cX1_aboutPerson 50 = .ok (.aload_n 0, 1) := by decide +kernel
theorem dX1_aboutPerson_51 : decode cX1_aboutPerson 51 = .ok (.getfield 19, 3) := by decide +kernel
theorem dX1_aboutPerson_54 : decode cX1_aboutPerson 54 = .ok (.iload_n 1, 1) := by decide +kernel
theorem dX1_aboutPerson_55 : decode cX1_aboutPerson 55 = .ok (.laload, 1) := by decide +kernel
theorem dX1_aboutPerson_56 : decode cX1_aboutPerson 56 = .ok (.invokestatic 110, 3) := by decide +kernel
theorem dX1_aboutPerson_59 : decode cX1_aboutPerson 59 = .ok (.ireturn, 1) := by decide +kernel
theorem dX1_aboutPerson_60 : decode cX1_aboutPerson 60 = .ok (.aload_n 0, 1) := by decide +kernel
theorem dX1_aboutPerson_61 : decode cX1_aboutPerson 61 = .ok (.getfield 22, 3) := by decide +kernel
theorem dX1_aboutPerson_64 : decode cX1_aboutPerson 64 = .ok (.iload_n 1, 1) := by decide +kernel
theorem dX1_aboutPerson_65 : decode cX1_aboutPerson 65 = .ok (.laload, 1) := by decide +kernel
theorem dX1_aboutPerson_66 : decode cX1_aboutPerson 66 = .ok (.invokestatic 110, 3) := by decide +kernel
theorem dX1_aboutPerson_69 : decode cX1_aboutPerson 69 = .ok (.ireturn, 1) := by decide +kernel
theorem dX1_aboutPerson_70 : decode cX1_aboutPerson 70 = .ok (.aload_n 0, 1) := by decide +kernel
theorem dX1_aboutPerson_71 : decode cX1_aboutPerson 71 = .ok (.getfield 25, 3) := by decide +kernel
theorem dX1_aboutPerson_74 : decode cX1_aboutPerson 74 = .ok (.iload_n 1, 1) := by decide +kernel
theorem dX1_aboutPerson_75 : decode cX1_aboutPerson 75 = .ok (.iaload, 1) := by decide +kernel
theorem dX1_aboutPerson_76 : decode cX1_aboutPerson 76 = .ok (.ireturn, 1) := by decide +kernel
theorem dX1_aboutPerson_77 : decode cX1_aboutPerson 77 = .ok (.aload_n 0, 1) := by decide +kernel
theorem dX1_aboutPerson_78 : decode cX1_aboutPerson 78 = .ok (.getfield 28, 3) := by decide +kernel
theorem dX1_aboutPerson_81 : decode cX1_aboutPerson 81 = .ok (.iload_n 1, 1) := by decide +kernel
theorem dX1_aboutPerson_82 : decode cX1_aboutPerson 82 = .ok (.iaload, 1) := by decide +kernel
theorem dX1_aboutPerson_83 : decode cX1_aboutPerson 83 = .ok (.ireturn, 1) := by decide +kernel
theorem dX1_aboutPerson_84 : decode cX1_aboutPerson 84 = .ok (.aload_n 0, 1) := by decide +kernel
theorem dX1_aboutPerson_85 : decode cX1_aboutPerson 85 = .ok (.iload_n 1, 1) := by decide +kernel
theorem dX1_aboutPerson_86 : decode cX1_aboutPerson 86 = .ok (.invokevirtual 78, 3) := by decide +kernel
theorem dX1_aboutPerson_89 : decode cX1_aboutPerson 89 = .ok (.invokestatic 110, 3) := by decide +kernel
theorem dX1_aboutPerson_92 : decode cX1_aboutPerson 92 = .ok (.ireturn, 1) := by decide +kernel
theorem dX1_aboutPerson_93 : decode cX1_aboutPerson 93 = .ok (.aload_n 0, 1) := by decide +kernel
theorem dX1_aboutPerson_94 : decode cX1_aboutPerson 94 = .ok (.iload_n 1, 1) := by decide +kernel
theorem dX1_aboutPerson_95 : decode cX1_aboutPerson 95 = .ok (.invokevirtual 116, 3) := by decide +kernel
theorem dX1_aboutPerson_98 : decode cX1_aboutPerson 98 = .ok (.ireturn, 1) := by decide +kernel
set_option maxRecDepth 20000 in
theorem ggX1_aboutAbsence_X1_bidsFor : GoodIn wsX1_aboutAbsence wsX1_bidsFor := goodIn_r _ [10, 11, 12, 13, 14, 15, 41, 42, 43, 44, 45, 46, 47, 48, 49, 50, 51, 52, 53, 54, 55] (by decide +kernel) (by decide +kernel)
set_option maxRecDepth 20000 in
theorem gX1_aboutAbsence_X1_bidsFor : GoodIn wsX1_aboutAbsence (wsV RX1 119 RX1 yX1_bidsFor wsX1_bidsFor) := goodIn_app (goodIn_of _ (by decide +kernel)) ggX1_aboutAbsence_X1_bidsFor
set_option maxRecDepth 20000 in
theorem ggX1_aboutAbsence_X1_personsWhoCanCover : GoodIn wsX1_aboutAbsence wsX1_personsWhoCanCover := goodIn_r _ [19, 11, 20, 21, 22, 9, 23, 1, 2, 24, 25, 26, 27, 28, 29, 30, 31, 32, 33, 34, 35, 36, 37, 38, 39, 40, 41, 42, 43, 44, 45, 46, 47, 48, 49, 50, 51, 52, 53, 54, 55] (by decide +kernel) (by decide +kernel)
set_option maxRecDepth 20000 in
theorem gX1_aboutAbsence_X1_personsWhoCanCover : GoodIn wsX1_aboutAbsence (wsV RX1 122 RX1 yX1_personsWhoCanCover wsX1_personsWhoCanCover) := goodIn_app (goodIn_of _ (by decide +kernel)) ggX1_aboutAbsence_X1_personsWhoCanCover
theorem dX1_aboutAbsence_0 : decode cX1_aboutAbsence 0 = .ok (.iload_n 2, 1) := by decide +kernel
theorem dX1_aboutAbsence_1 : decode cX1_aboutAbsence 1 = .ok (.tableswitch 80 0 5 #[39, 46, 53, 60, 67, 74], 39) := by decide +kernel
theorem dX1_aboutAbsence_40 : decode cX1_aboutAbsence 40 = .ok (.aload_n 0, 1) := by decide +kernel
theorem dX1_aboutAbsence_41 : decode cX1_aboutAbsence 41 = .ok (.getfield 31, 3) := by decide +kernel
theorem dX1_aboutAbsence_44 : decode cX1_aboutAbsence 44 = .ok (.iload_n 1, 1) := by decide +kernel
theorem dX1_aboutAbsence_45 : decode cX1_aboutAbsence 45 = .ok (.iaload, 1) := by decide +kernel
theorem dX1_aboutAbsence_46 : decode cX1_aboutAbsence 46 = .ok (.ireturn, 1) := by decide +kernel
theorem dX1_aboutAbsence_47 : decode cX1_aboutAbsence 47 = .ok (.aload_n 0, 1) := by decide +kernel
theorem dX1_aboutAbsence_48 : decode cX1_aboutAbsence 48 = .ok (.getfield 34, 3) := by decide +kernel
theorem dX1_aboutAbsence_51 : decode cX1_aboutAbsence 51 = .ok (.iload_n 1, 1) := by decide +kernel
theorem dX1_aboutAbsence_52 : decode cX1_aboutAbsence 52 = .ok (.iaload, 1) := by decide +kernel
theorem dX1_aboutAbsence_53 : decode cX1_aboutAbsence 53 = .ok (.ireturn, 1) := by decide +kernel
theorem dX1_aboutAbsence_54 : decode cX1_aboutAbsence 54 = .ok (.aload_n 0, 1) := by decide +kernel
theorem dX1_aboutAbsence_55 : decode cX1_aboutAbsence 55 = .ok (.getfield 37, 3) := by decide +kernel
theorem dX1_aboutAbsence_58 : decode cX1_aboutAbsence 58 = .ok (.iload_n 1, 1) := by decide +kernel
theorem dX1_aboutAbsence_59 : decode cX1_aboutAbsence 59 = .ok (.iaload, 1) := by decide +kernel
theorem dX1_aboutAbsence_60 : decode cX1_aboutAbsence 60 = .ok (.ireturn, 1) := by decide +kernel
theorem dX1_aboutAbsence_61 : decode cX1_aboutAbsence 61 = .ok (.aload_n 0, 1) := by decide +kernel
theorem dX1_aboutAbsence_62 : decode cX1_aboutAbsence 62 = .ok (.getfield 40, 3) := by decide +kernel
theorem dX1_aboutAbsence_65 : decode cX1_aboutAbsence 65 = .ok (.iload_n 1, 1) := by decide +kernel
theorem dX1_aboutAbsence_66 : decode cX1_aboutAbsence 66 = .ok (.iaload, 1) := by decide +kernel
theorem dX1_aboutAbsence_67 : decode cX1_aboutAbsence 67 = .ok (.ireturn, 1) := by decide +kernel
theorem dX1_aboutAbsence_68 : decode cX1_aboutAbsence 68 = .ok (.aload_n 0, 1) := by decide +kernel
theorem dX1_aboutAbsence_69 : decode cX1_aboutAbsence 69 = .ok (.getfield 43, 3) := by decide +kernel
theorem dX1_aboutAbsence_72 : decode cX1_aboutAbsence 72 = .ok (.iload_n 1, 1) := by decide +kernel
theorem dX1_aboutAbsence_73 : decode cX1_aboutAbsence 73 = .ok (.iaload, 1) := by decide +kernel
theorem dX1_aboutAbsence_74 : decode cX1_aboutAbsence 74 = .ok (.ireturn, 1) := by decide +kernel
theorem dX1_aboutAbsence_75 : decode cX1_aboutAbsence 75 = .ok (.aload_n 0, 1) := by decide +kernel
theorem dX1_aboutAbsence_76 : decode cX1_aboutAbsence 76 = .ok (.iload_n 1, 1) := by decide +kernel
theorem dX1_aboutAbsence_77 : decode cX1_aboutAbsence 77 = .ok (.invokevirtual 119, 3) := by decide +kernel
theorem dX1_aboutAbsence_80 : decode cX1_aboutAbsence 80 = .ok (.ireturn, 1) := by decide +kernel
theorem dX1_aboutAbsence_81 : decode cX1_aboutAbsence 81 = .ok (.aload_n 0, 1) := by decide +kernel
theorem dX1_aboutAbsence_82 : decode cX1_aboutAbsence 82 = .ok (.iload_n 1, 1) := by decide +kernel
theorem dX1_aboutAbsence_83 : decode cX1_aboutAbsence 83 = .ok (.invokevirtual 122, 3) := by decide +kernel
theorem dX1_aboutAbsence_86 : decode cX1_aboutAbsence 86 = .ok (.ireturn, 1) := by decide +kernel
set_option maxRecDepth 20000 in
theorem ggX1_aboutAll_X1_countOf : GoodIn wsX1_aboutAll wsX1_countOf := goodIn_r _ [8, 2, 9, 43, 44, 45, 46, 47, 48, 49, 50, 51, 52, 53, 54, 55, 56, 57] (by decide +kernel) (by decide +kernel)
set_option maxRecDepth 20000 in
theorem gX1_aboutAll_X1_countOf : GoodIn wsX1_aboutAll (wsV RX1 125 RX1 yX1_countOf wsX1_countOf) := goodIn_app (goodIn_of _ (by decide +kernel)) ggX1_aboutAll_X1_countOf
set_option maxRecDepth 20000 in
theorem ggX1_aboutAll_X1_greatestMeter : GoodIn wsX1_aboutAll wsX1_greatestMeter := goodIn_r _ [13, 1, 14, 15, 16, 17, 18, 43, 44, 45, 46, 47, 48, 49, 50, 51, 52, 53, 54, 55, 56, 57] (by decide +kernel) (by decide +kernel)
set_option maxRecDepth 20000 in
theorem gX1_aboutAll_X1_greatestMeter : GoodIn wsX1_aboutAll (wsV RX1 128 RX1 yX1_greatestMeter wsX1_greatestMeter) := goodIn_app (goodIn_of _ (by decide +kernel)) ggX1_aboutAll_X1_greatestMeter
set_option maxRecDepth 20000 in
theorem ggX1_aboutAll_X1_lowestMeter : GoodIn wsX1_aboutAll wsX1_lowestMeter := goodIn_r _ [22, 1, 14, 23, 24, 17, 25, 43, 44, 45, 46, 47, 48, 49, 50, 51, 52, 53, 54, 55, 56, 57] (by decide +kernel) (by decide +kernel)
set_option maxRecDepth 20000 in
theorem gX1_aboutAll_X1_lowestMeter : GoodIn wsX1_aboutAll (wsV RX1 132 RX1 yX1_lowestMeter wsX1_lowestMeter) := goodIn_app (goodIn_of _ (by decide +kernel)) ggX1_aboutAll_X1_lowestMeter
set_option maxRecDepth 20000 in
theorem ggX1_aboutAll_X1_allBids : GoodIn wsX1_aboutAll wsX1_allBids := goodIn_r _ [29, 2, 30, 31, 32, 7, 33, 1, 34, 35, 36, 37, 43, 44, 45, 46, 47, 48, 49, 50, 51, 52, 53, 54, 55, 56, 57] (by decide +kernel) (by decide +kernel)
set_option maxRecDepth 20000 in
theorem gX1_aboutAll_X1_allBids : GoodIn wsX1_aboutAll (wsV RX1 135 RX1 yX1_allBids wsX1_allBids) := goodIn_app (goodIn_of _ (by decide +kernel)) ggX1_aboutAll_X1_allBids
set_option maxRecDepth 20000 in
theorem ggX1_aboutAll_X1_allPoints : GoodIn wsX1_aboutAll wsX1_allPoints := goodIn_r _ [41, 2, 42, 43, 44, 45, 46, 47, 48, 49, 50, 51, 52, 53, 54, 55, 56, 57] (by decide +kernel) (by decide +kernel)
set_option maxRecDepth 20000 in
theorem gX1_aboutAll_X1_allPoints : GoodIn wsX1_aboutAll (wsV RX1 138 RX1 yX1_allPoints wsX1_allPoints) := goodIn_app (goodIn_of _ (by decide +kernel)) ggX1_aboutAll_X1_allPoints
theorem dX1_aboutAll_0 : decode cX1_aboutAll 0 = .ok (.iload_n 1, 1) := by decide +kernel
theorem dX1_aboutAll_1 : decode cX1_aboutAll 1 = .ok (.tableswitch 109 0 9 #[55, 60, 65, 71, 77, 83, 89, 94, 99, 104], 55) := by decide +kernel
theorem dX1_aboutAll_56 : decode cX1_aboutAll 56 = .ok (.aload_n 0, 1) := by decide +kernel
theorem dX1_aboutAll_57 : decode cX1_aboutAll 57 = .ok (.getfield 62, 3) := by decide +kernel
theorem dX1_aboutAll_60 : decode cX1_aboutAll 60 = .ok (.ireturn, 1) := by decide +kernel
theorem dX1_aboutAll_61 : decode cX1_aboutAll 61 = .ok (.aload_n 0, 1) := by decide +kernel
theorem dX1_aboutAll_62 : decode cX1_aboutAll 62 = .ok (.getfield 65, 3) := by decide +kernel
theorem dX1_aboutAll_65 : decode cX1_aboutAll 65 = .ok (.ireturn, 1) := by decide +kernel
theorem dX1_aboutAll_66 : decode cX1_aboutAll 66 = .ok (.aload_n 0, 1) := by decide +kernel
theorem dX1_aboutAll_67 : decode cX1_aboutAll 67 = .ok (.iconst 0, 1) := by decide +kernel
theorem dX1_aboutAll_68 : decode cX1_aboutAll 68 = .ok (.invokevirtual 125, 3) := by decide +kernel
theorem dX1_aboutAll_71 : decode cX1_aboutAll 71 = .ok (.ireturn, 1) := by decide +kernel
theorem dX1_aboutAll_72 : decode cX1_aboutAll 72 = .ok (.aload_n 0, 1) := by decide +kernel
theorem dX1_aboutAll_73 : decode cX1_aboutAll 73 = .ok (.iconst 1, 1) := by decide +kernel
theorem dX1_aboutAll_74 : decode cX1_aboutAll 74 = .ok (.invokevirtual 125, 3) := by decide +kernel
theorem dX1_aboutAll_77 : decode cX1_aboutAll 77 = .ok (.ireturn, 1) := by decide +kernel
theorem dX1_aboutAll_78 : decode cX1_aboutAll 78 = .ok (.aload_n 0, 1) := by decide +kernel
theorem dX1_aboutAll_79 : decode cX1_aboutAll 79 = .ok (.iconst 2, 1) := by decide +kernel
theorem dX1_aboutAll_80 : decode cX1_aboutAll 80 = .ok (.invokevirtual 125, 3) := by decide +kernel
theorem dX1_aboutAll_83 : decode cX1_aboutAll 83 = .ok (.ireturn, 1) := by decide +kernel
theorem dX1_aboutAll_84 : decode cX1_aboutAll 84 = .ok (.aload_n 0, 1) := by decide +kernel
theorem dX1_aboutAll_85 : decode cX1_aboutAll 85 = .ok (.iconst 3, 1) := by decide +kernel
theorem dX1_aboutAll_86 : decode cX1_aboutAll 86 = .ok (.invokevirtual 125, 3) := by decide +kernel
theorem dX1_aboutAll_89 : decode cX1_aboutAll 89 = .ok (.ireturn, 1) := by decide +kernel
theorem dX1_aboutAll_90 : decode cX1_aboutAll 90 = .ok (.aload_n 0, 1) := by decide +kernel
theorem dX1_aboutAll_91 : decode cX1_aboutAll 91 = .ok (.invokevirtual 128, 3) := by decide +kernel
theorem dX1_aboutAll_94 : decode cX1_aboutAll 94 = .ok (.ireturn, 1) := by decide +kernel
theorem dX1_aboutAll_95 : decode cX1_aboutAll 95 = .ok (.aload_n 0, 1) := by decide +kernel
theorem dX1_aboutAll_96 : decode cX1_aboutAll 96 = .ok (.invokevirtual 132, 3) := by decide +kernel
theorem dX1_aboutAll_99 : decode cX1_aboutAll 99 = .ok (.ireturn, 1) := by decide +kernel
theorem dX1_aboutAll_100 : decode cX1_aboutAll 100 = .ok (.aload_n 0, 1) := by decide +kernel
theorem dX1_aboutAll_101 : decode cX1_aboutAll 101 = .ok (.invokevirtual 135, 3) := by decide +kernel
theorem dX1_aboutAll_104 : decode cX1_aboutAll 104 = .ok (.ireturn, 1) := by decide +kernel
theorem dX1_aboutAll_105 : decode cX1_aboutAll 105 = .ok (.aload_n 0, 1) := by decide +kernel
theorem dX1_aboutAll_106 : decode cX1_aboutAll 106 = .ok (.invokevirtual 138, 3) := by decide +kernel
theorem dX1_aboutAll_109 : decode cX1_aboutAll 109 = .ok (.ireturn, 1) := by decide +kernel
theorem dX1_aboutAll_110 : decode cX1_aboutAll 110 = .ok (.aload_n 0, 1) := by decide +kernel
theorem dX1_aboutAll_111 : decode cX1_aboutAll 111 = .ok (.getfield 58, 3) := by decide +kernel
theorem dX1_aboutAll_114 : decode cX1_aboutAll 114 = .ok (.ireturn, 1) := by decide +kernel
theorem dX1_countOf_0 : decode cX1_countOf 0 = .ok (.iconst 0, 1) := by decide +kernel
theorem dX1_countOf_1 : decode cX1_countOf 1 = .ok (.istore_n 2, 1) := by decide +kernel
theorem dX1_countOf_2 : decode cX1_countOf 2 = .ok (.iconst 0, 1) := by decide +kernel
theorem dX1_countOf_3 : decode cX1_countOf 3 = .ok (.istore_n 3, 1) := by decide +kernel
theorem dX1_countOf_4 : decode cX1_countOf 4 = .ok (.iload_n 3, 1) := by decide +kernel
theorem dX1_countOf_5 : decode cX1_countOf 5 = .ok (.aload_n 0, 1) := by decide +kernel
theorem dX1_countOf_6 : decode cX1_countOf 6 = .ok (.getfield 65, 3) := by decide +kernel
theorem dX1_countOf_9 : decode cX1_countOf 9 = .ok (.if_icmp .ge 22, 3) := by decide +kernel
theorem dX1_countOf_12 : decode cX1_countOf 12 = .ok (.aload_n 0, 1) := by decide +kernel
theorem dX1_countOf_13 : decode cX1_countOf 13 = .ok (.getfield 37, 3) := by decide +kernel
theorem dX1_countOf_16 : decode cX1_countOf 16 = .ok (.iload_n 3, 1) := by decide +kernel
theorem dX1_countOf_17 : decode cX1_countOf 17 = .ok (.iaload, 1) := by decide +kernel
theorem dX1_countOf_18 : decode cX1_countOf 18 = .ok (.iload_n 1, 1) := by decide +kernel
theorem dX1_countOf_19 : decode cX1_countOf 19 = .ok (.if_icmp .ne 6, 3) := by decide +kernel
theorem dX1_countOf_22 : decode cX1_countOf 22 = .ok (.iinc 2 1, 3) := by decide +kernel
theorem dX1_countOf_25 : decode cX1_countOf 25 = .ok (.iinc 3 1, 3) := by decide +kernel
theorem dX1_countOf_28 : decode cX1_countOf 28 = .ok (.goto (-24), 3) := by decide +kernel
theorem dX1_countOf_31 : decode cX1_countOf 31 = .ok (.iload_n 2, 1) := by decide +kernel
theorem dX1_countOf_32 : decode cX1_countOf 32 = .ok (.ireturn, 1) := by decide +kernel
theorem dX1_greatestMeter_0 : decode cX1_greatestMeter 0 = .ok (.aload_n 0, 1) := by decide +kernel
theorem dX1_greatestMeter_1 : decode cX1_greatestMeter 1 = .ok (.getfield 62, 3) := by decide +kernel
theorem dX1_greatestMeter_4 : decode cX1_greatestMeter 4 = .ok (.ifCond .ne 5, 3) := by decide +kernel
theorem dX1_greatestMeter_7 : decode cX1_greatestMeter 7 = .ok (.iconst (-1), 1) := by decide +kernel
theorem dX1_greatestMeter_8 : decode cX1_greatestMeter 8 = .ok (.ireturn, 1) := by decide +kernel
theorem dX1_greatestMeter_9 : decode cX1_greatestMeter 9 = .ok (.aload_n 0, 1) := by decide +kernel
theorem dX1_greatestMeter_10 : decode cX1_greatestMeter 10 = .ok (.getfield 25, 3) := by decide +kernel
theorem dX1_greatestMeter_13 : decode cX1_greatestMeter 13 = .ok (.iconst 0, 1) := by decide +kernel
theorem dX1_greatestMeter_14 : decode cX1_greatestMeter 14 = .ok (.iaload, 1) := by decide +kernel
theorem dX1_greatestMeter_15 : decode cX1_greatestMeter 15 = .ok (.istore_n 1, 1) := by decide +kernel
theorem dX1_greatestMeter_16 : decode cX1_greatestMeter 16 = .ok (.iconst 1, 1) := by decide +kernel
theorem dX1_greatestMeter_17 : decode cX1_greatestMeter 17 = .ok (.istore_n 2, 1) := by decide +kernel
theorem dX1_greatestMeter_18 : decode cX1_greatestMeter 18 = .ok (.iload_n 2, 1) := by decide +kernel
theorem dX1_greatestMeter_19 : decode cX1_greatestMeter 19 = .ok (.aload_n 0, 1) := by decide +kernel
theorem dX1_greatestMeter_20 : decode cX1_greatestMeter 20 = .ok (.getfield 62, 3) := by decide +kernel
theorem dX1_greatestMeter_23 : decode cX1_greatestMeter 23 = .ok (.if_icmp .ge 20, 3) := by decide +kernel
theorem dX1_greatestMeter_26 : decode cX1_greatestMeter 26 = .ok (.iload_n 1, 1) := by decide +kernel
theorem dX1_greatestMeter_27 : decode cX1_greatestMeter 27 = .ok (.aload_n 0, 1) := by decide +kernel
theorem dX1_greatestMeter_28 : decode cX1_greatestMeter 28 = .ok (.getfield 25, 3) := by decide +kernel
theorem dX1_greatestMeter_31 : decode cX1_greatestMeter 31 = .ok (.iload_n 2, 1) := by decide +kernel
theorem dX1_greatestMeter_32 : decode cX1_greatestMeter 32 = .ok (.iaload, 1) := by decide +kernel
theorem dX1_greatestMeter_33 : decode cX1_greatestMeter 33 = .ok (.invokestatic 141, 3) := by decide +kernel
theorem dX1_greatestMeter_36 : decode cX1_greatestMeter 36 = .ok (.istore_n 1, 1) := by decide +kernel
theorem dX1_greatestMeter_37 : decode cX1_greatestMeter 37 = .ok (.iinc 2 1, 3) := by decide +kernel
theorem dX1_greatestMeter_40 : decode cX1_greatestMeter 40 = .ok (.goto (-22), 3) := by decide +kernel
theorem dX1_greatestMeter_43 : decode cX1_greatestMeter 43 = .ok (.iload_n 1, 1) := by decide +kernel
theorem dX1_greatestMeter_44 : decode cX1_greatestMeter 44 = .ok (.ireturn, 1) := by decide +kernel
theorem dX1_lowestMeter_0 : decode cX1_lowestMeter 0 = .ok (.aload_n 0, 1) := by decide +kernel
theorem dX1_lowestMeter_1 : decode cX1_lowestMeter 1 = .ok (.getfield 62, 3) := by decide +kernel
theorem dX1_lowestMeter_4 : decode cX1_lowestMeter 4 = .ok (.ifCond .ne 5, 3) := by decide +kernel
theorem dX1_lowestMeter_7 : decode cX1_lowestMeter 7 = .ok (.iconst (-1), 1) := by decide +kernel
theorem dX1_lowestMeter_8 : decode cX1_lowestMeter 8 = .ok (.ireturn, 1) := by decide +kernel
theorem dX1_lowestMeter_9 : decode cX1_lowestMeter 9 = .ok (.aload_n 0, 1) := by decide +kernel
theorem dX1_lowestMeter_10 : decode cX1_lowestMeter 10 = .ok (.getfield 25, 3) := by decide +kernel
theorem dX1_lowestMeter_13 : decode cX1_lowestMeter 13 = .ok (.iconst 0, 1) := by decide +kernel
theorem dX1_lowestMeter_14 : decode cX1_lowestMeter 14 = .ok (.iaload, 1) := by decide +kernel
theorem dX1_lowestMeter_15 : decode cX1_lowestMeter 15 = .ok (.istore_n 1, 1) := by decide +kernel
theorem dX1_lowestMeter_16 : decode cX1_lowestMeter 16 = .ok (.iconst 1, 1) := by decide +kernel
theorem dX1_lowestMeter_17 : decode cX1_lowestMeter 17 = .ok (.istore_n 2, 1) := by decide +kernel
theorem dX1_lowestMeter_18 : decode cX1_lowestMeter 18 = .ok (.iload_n 2, 1) := by decide +kernel
theorem dX1_lowestMeter_19 : decode cX1_lowestMeter 19 = .ok (.aload_n 0, 1) := by decide +kernel
theorem dX1_lowestMeter_20 : decode cX1_lowestMeter 20 = .ok (.getfield 62, 3) := by decide +kernel
theorem dX1_lowestMeter_23 : decode cX1_lowestMeter 23 = .ok (.if_icmp .ge 20, 3) := by decide +kernel
theorem dX1_lowestMeter_26 : decode cX1_lowestMeter 26 = .ok (.iload_n 1, 1) := by decide +kernel
theorem dX1_lowestMeter_27 : decode cX1_lowestMeter 27 = .ok (.aload_n 0, 1) := by decide +kernel
theorem dX1_lowestMeter_28 : decode cX1_lowestMeter 28 = .ok (.getfield 25, 3) := by decide +kernel
theorem dX1_lowestMeter_31 : decode cX1_lowestMeter 31 = .ok (.iload_n 2, 1) := by decide +kernel
theorem dX1_lowestMeter_32 : decode cX1_lowestMeter 32 = .ok (.iaload, 1) := by decide +kernel
theorem dX1_lowestMeter_33 : decode cX1_lowestMeter 33 = .ok (.invokestatic 146, 3) := by decide +kernel
theorem dX1_lowestMeter_36 : decode cX1_lowestMeter 36 = .ok (.istore_n 1, 1) := by decide +kernel
theorem dX1_lowestMeter_37 : decode cX1_lowestMeter 37 = .ok (.iinc 2 1, 3) := by decide +kernel
theorem dX1_lowestMeter_40 : decode cX1_lowestMeter 40 = .ok (.goto (-22), 3) := by decide +kernel
theorem dX1_lowestMeter_43 : decode cX1_lowestMeter 43 = .ok (.iload_n 1, 1) := by decide +kernel
theorem dX1_lowestMeter_44 : decode cX1_lowestMeter 44 = .ok (.ireturn, 1) := by decide +kernel
set_option maxRecDepth 20000 in
theorem ggX1_allBids_X1_bidsFor : GoodIn wsX1_allBids wsX1_bidsFor := goodIn_r _ [6, 7, 8, 9, 10, 11, 12, 13, 14, 15, 16, 17, 18, 19, 20, 21, 22, 23, 24, 25, 26] (by decide +kernel) (by decide +kernel)
set_option maxRecDepth 20000 in
theorem gX1_allBids_X1_bidsFor : GoodIn wsX1_allBids (wsV RX1 119 RX1 yX1_bidsFor wsX1_bidsFor) := goodIn_app (goodIn_of _ (by decide +kernel)) ggX1_allBids_X1_bidsFor
theorem dX1_allBids_0 : decode cX1_allBids 0 = .ok (.iconst 0, 1) := by decide +kernel
theorem dX1_allBids_1 : decode cX1_allBids 1 = .ok (.istore_n 1, 1) := by decide +kernel
theorem dX1_allBids_2 : decode cX1_allBids 2 = .ok (.iconst 0, 1) := by decide +kernel
theorem dX1_allBids_3 : decode cX1_allBids 3 = .ok (.istore_n 2, 1) := by decide +kernel
theorem dX1_allBids_4 : decode cX1_allBids 4 = .ok (.iload_n 2, 1) := by decide +kernel
theorem dX1_allBids_5 : decode cX1_allBids 5 = .ok (.aload_n 0, 1) := by decide +kernel
theorem dX1_allBids_6 : decode cX1_allBids 6 = .ok (.getfield 65, 3) := by decide +kernel
theorem dX1_allBids_9 : decode cX1_allBids 9 = .ok (.if_icmp .ge 17, 3) := by decide +kernel
theorem dX1_allBids_12 : decode cX1_allBids 12 = .ok (.iload_n 1, 1) := by decide +kernel
theorem dX1_allBids_13 : decode cX1_allBids 13 = .ok (.aload_n 0, 1) := by decide +kernel
theorem dX1_allBids_14 : decode cX1_allBids 14 = .ok (.iload_n 2, 1) := by decide +kernel
theorem dX1_allBids_15 : decode cX1_allBids 15 = .ok (.invokevirtual 119, 3) := by decide +kernel
theorem dX1_allBids_18 : decode cX1_allBids 18 = .ok (.iadd, 1) := by decide +kernel
theorem dX1_allBids_19 : decode cX1_allBids 19 = .ok (.istore_n 1, 1) := by decide +kernel
theorem dX1_allBids_20 : decode cX1_allBids 20 = .ok (.iinc 2 1, 3) := by decide +kernel
theorem dX1_allBids_23 : decode cX1_allBids 23 = .ok (.goto (-19), 3) := by decide +kernel
theorem dX1_allBids_26 : decode cX1_allBids 26 = .ok (.iload_n 1, 1) := by decide +kernel
theorem dX1_allBids_27 : decode cX1_allBids 27 = .ok (.ireturn, 1) := by decide +kernel
theorem dX1_allPoints_0 : decode cX1_allPoints 0 = .ok (.iconst 0, 1) := by decide +kernel
theorem dX1_allPoints_1 : decode cX1_allPoints 1 = .ok (.istore_n 1, 1) := by decide +kernel
theorem dX1_allPoints_2 : decode cX1_allPoints 2 = .ok (.iconst 0, 1) := by decide +kernel
theorem dX1_allPoints_3 : decode cX1_allPoints 3 = .ok (.istore_n 2, 1) := by decide +kernel
theorem dX1_allPoints_4 : decode cX1_allPoints 4 = .ok (.iload_n 2, 1) := by decide +kernel
theorem dX1_allPoints_5 : decode cX1_allPoints 5 = .ok (.aload_n 0, 1) := by decide +kernel
theorem dX1_allPoints_6 : decode cX1_allPoints 6 = .ok (.getfield 65, 3) := by decide +kernel
theorem dX1_allPoints_9 : decode cX1_allPoints 9 = .ok (.if_icmp .ge 18, 3) := by decide +kernel
theorem dX1_allPoints_12 : decode cX1_allPoints 12 = .ok (.iload_n 1, 1) := by decide +kernel
theorem dX1_allPoints_13 : decode cX1_allPoints 13 = .ok (.aload_n 0, 1) := by decide +kernel
theorem dX1_allPoints_14 : decode cX1_allPoints 14 = .ok (.getfield 43, 3) := by decide +kernel
theorem dX1_allPoints_17 : decode cX1_allPoints 17 = .ok (.iload_n 2, 1) := by decide +kernel
theorem dX1_allPoints_18 : decode cX1_allPoints 18 = .ok (.iaload, 1) := by decide +kernel
theorem dX1_allPoints_19 : decode cX1_allPoints 19 = .ok (.iadd, 1) := by decide +kernel
theorem dX1_allPoints_20 : decode cX1_allPoints 20 = .ok (.istore_n 1, 1) := by decide +kernel
theorem dX1_allPoints_21 : decode cX1_allPoints 21 = .ok (.iinc 2 1, 3) := by decide +kernel
theorem dX1_allPoints_24 : decode cX1_allPoints 24 = .ok (.goto (-20), 3) := by decide +kernel
theorem dX1_allPoints_27 : decode cX1_allPoints 27 = .ok (.iload_n 1, 1) := by decide +kernel
theorem dX1_allPoints_28 : decode cX1_allPoints 28 = .ok (.ireturn, 1) := by decide +kernel
set_option maxRecDepth 20000 in
theorem ggX2_init_X1_init : GoodIn wsX2_init wsX1_init := goodIn_r _ [16, 17, 2, 3, 18, 19, 20, 21, 22, 23, 24, 25, 26, 27, 28, 29, 30, 31, 32, 33, 34, 35, 40, 41, 42, 43, 44, 45, 46, 47, 48, 49, 50, 51, 52, 53, 54] (by decide +kernel) (by decide +kernel)
set_option maxRecDepth 20000 in
theorem gX2_init_X1_init : GoodIn wsX2_init (wsX1_init) := ggX2_init_X1_init
set_option maxRecDepth 20000 in
theorem ggX2_init_X0_init : GoodIn wsX2_init wsX0_init := goodIn_r _ [37, 38, 2, 3, 18, 39, 60, 61, 62, 63, 64, 65, 66, 67] (by decide +kernel) (by decide +kernel)
set_option maxRecDepth 20000 in
theorem gX2_init_X0_init_n25 : GoodIn wsX2_init (wsX0_init) := ggX2_init_X0_init
theorem dX2_init_0 : decode cX2_init 0 = .ok (.aload_n 0, 1) := by decide +kernel
theorem dX2_init_1 : decode cX2_init 1 = .ok (.invokespecial 3, 3) := by decide +kernel
theorem dX2_init_4 : decode cX2_init 4 = .ok (.aload_n 0, 1) := by decide +kernel
theorem dX2_init_5 : decode cX2_init 5 = .ok (.new 9, 3) := by decide +kernel
theorem dX2_init_8 : decode cX2_init 8 = .ok (.dup, 1) := by decide +kernel
theorem dX2_init_9 : decode cX2_init 9 = .ok (.invokespecial 11, 3) := by decide +kernel
theorem dX2_init_12 : decode cX2_init 12 = .ok (.putfield 12, 3) := by decide +kernel
theorem dX2_init_15 : decode cX2_init 15 = .ok (.aload_n 0, 1) := by decide +kernel
theorem dX2_init_16 : decode cX2_init 16 = .ok (.new 9, 3) := by decide +kernel
theorem dX2_init_19 : decode cX2_init 19 = .ok (.dup, 1) := by decide +kernel
theorem dX2_init_20 : decode cX2_init 20 = .ok (.invokespecial 11, 3) := by decide +kernel
theorem dX2_init_23 : decode cX2_init 23 = .ok (.putfield 16, 3) := by decide +kernel
theorem dX2_init_26 : decode cX2_init 26 = .ok (.aload_n 0, 1) := by decide +kernel
theorem dX2_init_27 : decode cX2_init 27 = .ok (.iconst 4, 1) := by decide +kernel
theorem dX2_init_28 : decode cX2_init 28 = .ok (.anewarray 9, 3) := by decide +kernel
theorem dX2_init_31 : decode cX2_init 31 = .ok (.putfield 19, 3) := by decide +kernel
theorem dX2_init_34 : decode cX2_init 34 = .ok (.aload_n 0, 1) := by decide +kernel
theorem dX2_init_35 : decode cX2_init 35 = .ok (.new 23, 3) := by decide +kernel
theorem dX2_init_38 : decode cX2_init 38 = .ok (.dup, 1) := by decide +kernel
theorem dX2_init_39 : decode cX2_init 39 = .ok (.invokespecial 25, 3) := by decide +kernel
theorem dX2_init_42 : decode cX2_init 42 = .ok (.putfield 26, 3) := by decide +kernel
theorem dX2_init_45 : decode cX2_init 45 = .ok (.iconst 0, 1) := by decide +kernel
theorem dX2_init_46 : decode cX2_init 46 = .ok (.istore_n 1, 1) := by decide +kernel
theorem dX2_init_47 : decode cX2_init 47 = .ok (.iload_n 1, 1) := by decide +kernel
theorem dX2_init_48 : decode cX2_init 48 = .ok (.iconst 4, 1) := by decide +kernel
theorem dX2_init_49 : decode cX2_init 49 = .ok (.if_icmp .ge 22, 3) := by decide +kernel
theorem dX2_init_52 : decode cX2_init 52 = .ok (.aload_n 0, 1) := by decide +kernel
theorem dX2_init_53 : decode cX2_init 53 = .ok (.getfield 19, 3) := by decide +kernel
theorem dX2_init_56 : decode cX2_init 56 = .ok (.iload_n 1, 1) := by decide +kernel
theorem dX2_init_57 : decode cX2_init 57 = .ok (.new 9, 3) := by decide +kernel
theorem dX2_init_60 : decode cX2_init 60 = .ok (.dup, 1) := by decide +kernel
theorem dX2_init_61 : decode cX2_init 61 = .ok (.invokespecial 11, 3) := by decide +kernel
theorem dX2_init_64 : decode cX2_init 64 = .ok (.aastore, 1) := by decide +kernel
theorem dX2_init_65 : decode cX2_init 65 = .ok (.iinc 1 1, 3) := by decide +kernel
theorem dX2_init_68 : decode cX2_init 68 = .ok (.goto (-21), 3) := by decide +kernel
theorem dX2_init_71 : decode cX2_init 71 = .ok (.return_, 1) := by decide +kernel
set_option maxRecDepth 20000 in
theorem ggX2_set_X2_needInRange : GoodIn wsX2_set wsX2_needInRange := goodIn_ca (goodIn_r _ [8, 9, 10] (by decide +kernel) (by decide +kernel)) (goodIn_sub (fun _ h => List.mem_cons_of_mem _ (List.mem_append_right _ h)) (by decide +kernel))
set_option maxRecDepth 20000 in
theorem gX2_set_X2_needInRange : GoodIn wsX2_set (va_wsS RX2 30 yX2_needInRange wsX2_needInRange) := goodIn_app (goodIn_of _ (by decide +kernel)) ggX2_set_X2_needInRange
set_option maxRecDepth 20000 in
theorem ggX2_set_X2_save : GoodIn wsX2_set wsX2_save := goodIn_r _ [14, 15, 16, 3, 17, 18, 19, 7, 20, 21, 22, 23, 24, 25, 26, 27, 28, 29, 30, 31, 32, 33, 34, 35, 36, 37, 38, 39, 40, 41, 42, 43, 44, 45, 46, 47, 48, 49, 50, 51, 52, 53, 54, 55, 56, 57, 58, 59, 60, 61, 62, 63, 64] (by decide +kernel) (by decide +kernel)
set_option maxRecDepth 20000 in
theorem gX2_set_X2_save : GoodIn wsX2_set (wsV RX2 41 RX2 yX2_save wsX2_save) := goodIn_app (goodIn_of _ (by decide +kernel)) ggX2_set_X2_save
theorem dX2_set_0 : decode cX2_set 0 = .ok (.iload_n 1, 1) := by decide +kernel
theorem dX2_set_1 : decode cX2_set 1 = .ok (.iconst 0, 1) := by decide +kernel
theorem dX2_set_2 : decode cX2_set 2 = .ok (.iconst 2, 1) := by decide +kernel
theorem dX2_set_3 : decode cX2_set 3 = .ok (.invokestatic 30, 3) := by decide +kernel
theorem dX2_set_6 : decode cX2_set 6 = .ok (.iload_n 2, 1) := by decide +kernel
theorem dX2_set_7 : decode cX2_set 7 = .ok (.getstatic 34, 3) := by decide +kernel
theorem dX2_set_10 : decode cX2_set 10 = .ok (.iload_n 1, 1) := by decide +kernel
theorem dX2_set_11 : decode cX2_set 11 = .ok (.iaload, 1) := by decide +kernel
theorem dX2_set_12 : decode cX2_set 12 = .ok (.getstatic 38, 3) := by decide +kernel
theorem dX2_set_15 : decode cX2_set 15 = .ok (.iload_n 1, 1) := by decide +kernel
theorem dX2_set_16 : decode cX2_set 16 = .ok (.iaload, 1) := by decide +kernel
theorem dX2_set_17 : decode cX2_set 17 = .ok (.invokestatic 30, 3) := by decide +kernel
theorem dX2_set_20 : decode cX2_set 20 = .ok (.aload_n 0, 1) := by decide +kernel
theorem dX2_set_21 : decode cX2_set 21 = .ok (.invokevirtual 41, 3) := by decide +kernel
theorem dX2_set_24 : decode cX2_set 24 = .ok (.aload_n 0, 1) := by decide +kernel
theorem dX2_set_25 : decode cX2_set 25 = .ok (.getfield 12, 3) := by decide +kernel
theorem dX2_set_28 : decode cX2_set 28 = .ok (.getfield 44, 3) := by decide +kernel
theorem dX2_set_31 : decode cX2_set 31 = .ok (.iload_n 1, 1) := by decide +kernel
theorem dX2_set_32 : decode cX2_set 32 = .ok (.iaload, 1) := by decide +kernel
theorem dX2_set_33 : decode cX2_set 33 = .ok (.istore_n 3, 1) := by decide +kernel
theorem dX2_set_34 : decode cX2_set 34 = .ok (.aload_n 0, 1) := by decide +kernel
theorem dX2_set_35 : decode cX2_set 35 = .ok (.getfield 12, 3) := by decide +kernel
theorem dX2_set_38 : decode cX2_set 38 = .ok (.getfield 44, 3) := by decide +kernel
theorem dX2_set_41 : decode cX2_set 41 = .ok (.iload_n 1, 1) := by decide +kernel
theorem dX2_set_42 : decode cX2_set 42 = .ok (.iload_n 2, 1) := by decide +kernel
theorem dX2_set_43 : decode cX2_set 43 = .ok (.iastore, 1) := by decide +kernel
theorem dX2_set_44 : decode cX2_set 44 = .ok (.iload_n 3, 1) := by decide +kernel
theorem dX2_set_45 : decode cX2_set 45 = .ok (.ireturn, 1) := by decide +kernel
set_option maxRecDepth 20000 in
theorem ggX2_addPerson_X2_needAllowed : GoodIn wsX2_addPerson wsX2_needAllowed := goodIn_ca (goodIn_r _ [9, 10, 11] (by decide +kernel) (by decide +kernel)) (goodIn_sub (fun _ h => List.mem_cons_of_mem _ (List.mem_append_right _ h)) (by decide +kernel))
set_option maxRecDepth 20000 in
theorem gX2_addPerson_X2_needAllowed : GoodIn wsX2_addPerson (va_wsS RX2 60 yX2_needAllowed wsX2_needAllowed) := goodIn_app (goodIn_of _ (by decide +kernel)) ggX2_addPerson_X2_needAllowed
set_option maxRecDepth 20000 in
theorem ggX2_addPerson_X2_save : GoodIn wsX2_addPerson wsX2_save := goodIn_r _ [15, 16, 17, 4, 18, 19, 20, 8, 21, 22, 23, 24, 25, 26, 27, 28, 29, 30, 31, 32, 33, 34, 35, 36, 37, 38, 39, 40, 41, 42, 43, 44, 45, 50, 51, 52, 53, 54, 55, 56, 57, 58, 59, 60, 61, 62, 63, 64, 65, 66, 67, 68, 69] (by decide +kernel) (by decide +kernel)
set_option maxRecDepth 20000 in
theorem gX2_addPerson_X2_save : GoodIn wsX2_addPerson (wsV RX2 41 RX2 yX2_save wsX2_save) := goodIn_app (goodIn_of _ (by decide +kernel)) ggX2_addPerson_X2_save
set_option maxRecDepth 20000 in
theorem ggX2_addPerson_X1_enterPerson : GoodIn wsX2_addPerson wsX1_enterPerson := goodIn_r _ [49, 33, 34, 35, 36, 37, 38, 55, 56, 57, 58, 59, 60, 61, 62, 63, 64, 65, 66, 67, 68, 69] (by decide +kernel) (by decide +kernel)
set_option maxRecDepth 20000 in
theorem gX2_addPerson_X1_enterPerson : GoodIn wsX2_addPerson (wsV RX2 64 RX1 yX1_enterPerson wsX1_enterPerson) := goodIn_app (goodIn_of _ (by decide +kernel)) ggX2_addPerson_X1_enterPerson
theorem dX2_addPerson_0 : decode cX2_addPerson 0 = .ok (.lload_n 1, 1) := by decide +kernel
theorem dX2_addPerson_1 : decode cX2_addPerson 1 = .ok (.lconst 0, 1) := by decide +kernel
theorem dX2_addPerson_2 : decode cX2_addPerson 2 = .ok (.lcmp, 1) := by decide +kernel
theorem dX2_addPerson_3 : decode cX2_addPerson 3 = .ok (.ifCond .lt 11, 3) := by decide +kernel
theorem dX2_addPerson_6 : decode cX2_addPerson 6 = .ok (.lload_n 1, 1) := by decide +kernel
theorem dX2_addPerson_7 : decode cX2_addPerson 7 = .ok (.ldc2_w 47, 3) := by decide +kernel
theorem dX2_addPerson_10 : decode cX2_addPerson 10 = .ok (.lcmp, 1) := by decide +kernel
theorem dX2_addPerson_11 : decode cX2_addPerson 11 = .ok (.ifCond .le 13, 3) := by decide +kernel
theorem dX2_addPerson_14 : decode cX2_addPerson 14 = .ok (.new 49, 3) := by decide +kernel
theorem dX2_addPerson_17 : decode cX2_addPerson 17 = .ok (.dup, 1) := by decide +kernel
theorem dX2_addPerson_18 : decode cX2_addPerson 18 = .ok (.ldc 51, 2) := by decide +kernel
theorem dX2_addPerson_20 : decode cX2_addPerson 20 = .ok (.invokespecial 53, 3) := by decide +kernel
theorem dX2_addPerson_23 : decode cX2_addPerson 23 = .ok (.athrow, 1) := by decide +kernel
theorem dX2_addPerson_24 : decode cX2_addPerson 24 = .ok (.aload_n 0, 1) := by decide +kernel
theorem dX2_addPerson_25 : decode cX2_addPerson 25 = .ok (.getfield 12, 3) := by decide +kernel
theorem dX2_addPerson_28 : decode cX2_addPerson 28 = .ok (.getfield 56, 3) := by decide +kernel
theorem dX2_addPerson_31 : decode cX2_addPerson 31 = .ok (.bipush 8, 2) := by decide +kernel
theorem dX2_addPerson_33 : decode cX2_addPerson 33 = .ok (.if_icmp .ge 7, 3) := by decide +kernel
theorem dX2_addPerson_36 : decode cX2_addPerson 36 = .ok (.iconst 1, 1) := by decide +kernel
theorem dX2_addPerson_37 : decode cX2_addPerson 37 = .ok (.goto 4, 3) := by decide +kernel
theorem dX2_addPerson_40 : decode cX2_addPerson 40 = .ok (.iconst 0, 1) := by decide +kernel
theorem dX2_addPerson_41 : decode cX2_addPerson 41 = .ok (.invokestatic 60, 3) := by decide +kernel
theorem dX2_addPerson_44 : decode cX2_addPerson 44 = .ok (.aload_n 0, 1) := by decide +kernel
theorem dX2_addPerson_45 : decode cX2_addPerson 45 = .ok (.invokevirtual 41, 3) := by decide +kernel
theorem dX2_addPerson_48 : decode cX2_addPerson 48 = .ok (.aload_n 0, 1) := by decide +kernel
theorem dX2_addPerson_49 : decode cX2_addPerson 49 = .ok (.getfield 12, 3) := by decide +kernel
theorem dX2_addPerson_52 : decode cX2_addPerson 52 = .ok (.lload_n 1, 1) := by decide +kernel
theorem dX2_addPerson_53 : decode cX2_addPerson 53 = .ok (.invokevirtual 64, 3) := by decide +kernel
theorem dX2_addPerson_56 : decode cX2_addPerson 56 = .ok (.ireturn, 1) := by decide +kernel
set_option maxRecDepth 20000 in
theorem ggX2_roster_X2_needPerson : GoodIn wsX2_roster wsX2_needPerson := goodIn_ca (goodIn_r _ [7, 8, 9, 1, 10, 11, 12, 13, 14, 15, 69, 70, 71, 72, 73, 74, 75, 76, 77, 78, 79, 80, 81, 82, 83, 84, 85, 86, 87, 88] (by decide +kernel) (by decide +kernel)) (goodIn_sub (fun _ h => List.mem_cons_of_mem _ (List.mem_append_left _ (List.mem_append_left _ (List.mem_append_right _ h)))) (by decide +kernel))
set_option maxRecDepth 20000 in
theorem gX2_roster_X2_needPerson : GoodIn wsX2_roster (wsV RX2 68 RX2 yX2_needPerson wsX2_needPerson) := goodIn_app (goodIn_of _ (by decide +kernel)) ggX2_roster_X2_needPerson
set_option maxRecDepth 20000 in
theorem ggX2_roster_X2_needInRange : GoodIn wsX2_roster wsX2_needInRange := goodIn_ca (goodIn_r _ [18, 19, 20] (by decide +kernel) (by decide +kernel)) (goodIn_sub (fun _ h => List.mem_cons_of_mem _ (List.mem_append_left _ (List.mem_append_right _ h))) (by decide +kernel))
set_option maxRecDepth 20000 in
theorem gX2_roster_X2_needInRange : GoodIn wsX2_roster (va_wsS RX2 30 yX2_needInRange wsX2_needInRange) := goodIn_app (goodIn_of _ (by decide +kernel)) ggX2_roster_X2_needInRange
set_option maxRecDepth 20000 in
theorem ggX2_roster_X1_canChangeRoster : GoodIn wsX2_roster wsX1_canChangeRoster := goodIn_r _ [24, 25, 26, 27, 74, 75, 76, 77, 78, 79, 80, 81, 82, 83, 84, 85, 86, 87, 88] (by decide +kernel) (by decide +kernel)
set_option maxRecDepth 20000 in
theorem gX2_roster_X1_canChangeRoster : GoodIn wsX2_roster (wsV RX2 72 RX1 yX1_canChangeRoster wsX1_canChangeRoster) := goodIn_app (goodIn_of _ (by decide +kernel)) ggX2_roster_X1_canChangeRoster
set_option maxRecDepth 20000 in
theorem ggX2_roster_X2_needAllowed : GoodIn wsX2_roster wsX2_needAllowed := goodIn_ca (goodIn_r _ [30, 31, 32] (by decide +kernel) (by decide +kernel)) (goodIn_sub (fun _ h => List.mem_cons_of_mem _ (List.mem_append_right _ h)) (by decide +kernel))
set_option maxRecDepth 20000 in
theorem gX2_roster_X2_needAllowed : GoodIn wsX2_roster (va_wsS RX2 60 yX2_needAllowed wsX2_needAllowed) := goodIn_app (goodIn_of _ (by decide +kernel)) ggX2_roster_X2_needAllowed
set_option maxRecDepth 20000 in
theorem ggX2_roster_X2_save : GoodIn wsX2_roster wsX2_save := goodIn_r _ [36, 37, 38, 1, 39, 40, 41, 6, 42, 43, 44, 45, 13, 46, 47, 48, 49, 50, 51, 52, 15, 25, 26, 27, 53, 54, 55, 56, 57, 58, 59, 60, 61, 69, 70, 71, 72, 73, 74, 75, 76, 77, 78, 79, 80, 81, 82, 83, 84, 85, 86, 87, 88] (by decide +kernel) (by decide +kernel)
set_option maxRecDepth 20000 in
theorem gX2_roster_X2_save : GoodIn wsX2_roster (wsV RX2 41 RX2 yX2_save wsX2_save) := goodIn_app (goodIn_of _ (by decide +kernel)) ggX2_roster_X2_save
set_option maxRecDepth 20000 in
theorem ggX2_roster_J13_bitCount_95d88 : GoodIn wsX2_roster wsJ13_bitCount_95d88 := goodIn_r _ [65, 66, 67, 68] (by decide +kernel) (by decide +kernel)
set_option maxRecDepth 20000 in
theorem gX2_roster_J13_bitCount_95d88 : GoodIn wsX2_roster (va_wsS RX2 80 yJ13_bitCount_95d88 wsJ13_bitCount_95d88) := goodIn_app (goodIn_of _ (by decide +kernel)) ggX2_roster_J13_bitCount_95d88
theorem dX2_roster_0 : decode cX2_roster 0 = .ok (.aload_n 0, 1) := by decide +kernel
theorem dX2_roster_1 : decode cX2_roster 1 = .ok (.iload_n 1, 1) := by decide +kernel
theorem dX2_roster_2 : decode cX2_roster 2 = .ok (.invokevirtual 68, 3) := by decide +kernel
theorem dX2_roster_5 : decode cX2_roster 5 = .ok (.iload_n 2, 1) := by decide +kernel
theorem dX2_roster_6 : decode cX2_roster 6 = .ok (.iconst 0, 1) := by decide +kernel
theorem dX2_roster_7 : decode cX2_roster 7 = .ok (.bipush 41, 2) := by decide +kernel
theorem dX2_roster_9 : decode cX2_roster 9 = .ok (.invokestatic 30, 3) := by decide +kernel
theorem dX2_roster_12 : decode cX2_roster 12 = .ok (.aload_n 0, 1) := by decide +kernel
theorem dX2_roster_13 : decode cX2_roster 13 = .ok (.getfield 12, 3) := by decide +kernel
theorem dX2_roster_16 : decode cX2_roster 16 = .ok (.iload_n 1, 1) := by decide +kernel
theorem dX2_roster_17 : decode cX2_roster 17 = .ok (.iload_n 2, 1) := by decide +kernel
theorem dX2_roster_18 : decode cX2_roster 18 = .ok (.iload_n 3, 1) := by decide +kernel
theorem dX2_roster_19 : decode cX2_roster 19 = .ok (.invokevirtual 72, 3) := by decide +kernel
theorem dX2_roster_22 : decode cX2_roster 22 = .ok (.invokestatic 60, 3) := by decide +kernel
theorem dX2_roster_25 : decode cX2_roster 25 = .ok (.aload_n 0, 1) := by decide +kernel
theorem dX2_roster_26 : decode cX2_roster 26 = .ok (.invokevirtual 41, 3) := by decide +kernel
theorem dX2_roster_29 : decode cX2_roster 29 = .ok (.aload_n 0, 1) := by decide +kernel
theorem dX2_roster_30 : decode cX2_roster 30 = .ok (.getfield 12, 3) := by decide +kernel
theorem dX2_roster_33 : decode cX2_roster 33 = .ok (.getfield 76, 3) := by decide +kernel
theorem dX2_roster_36 : decode cX2_roster 36 = .ok (.iload_n 1, 1) := by decide +kernel
theorem dX2_roster_37 : decode cX2_roster 37 = .ok (.dup2, 1) := by decide +kernel
theorem dX2_roster_38 : decode cX2_roster 38 = .ok (.laload, 1) := by decide +kernel
theorem dX2_roster_39 : decode cX2_roster 39 = .ok (.lconst 1, 1) := by decide +kernel
theorem dX2_roster_40 : decode cX2_roster 40 = .ok (.iload_n 2, 1) := by decide +kernel
theorem dX2_roster_41 : decode cX2_roster 41 = .ok (.lshl, 1) := by decide +kernel
theorem dX2_roster_42 : decode cX2_roster 42 = .ok (.lxor, 1) := by decide +kernel
theorem dX2_roster_43 : decode cX2_roster 43 = .ok (.lastore, 1) := by decide +kernel
theorem dX2_roster_44 : decode cX2_roster 44 = .ok (.aload_n 0, 1) := by decide +kernel
theorem dX2_roster_45 : decode cX2_roster 45 = .ok (.getfield 12, 3) := by decide +kernel
theorem dX2_roster_48 : decode cX2_roster 48 = .ok (.getfield 76, 3) := by decide +kernel
theorem dX2_roster_51 : decode cX2_roster 51 = .ok (.iload_n 1, 1) := by decide +kernel
theorem dX2_roster_52 : decode cX2_roster 52 = .ok (.laload, 1) := by decide +kernel
theorem dX2_roster_53 : decode cX2_roster 53 = .ok (.invokestatic 80, 3) := by decide +kernel
theorem dX2_roster_56 : decode cX2_roster 56 = .ok (.ireturn, 1) := by decide +kernel
set_option maxRecDepth 20000 in
theorem ggX2_absent_X2_needPerson : GoodIn wsX2_absent wsX2_needPerson := goodIn_ca (goodIn_r _ [6, 7, 8, 1, 9, 10, 11, 12, 13, 14, 72, 73, 74, 75, 76, 77, 78, 79, 80, 81, 82, 83, 84, 85, 86, 87, 88, 89, 90, 91] (by decide +kernel) (by decide +kernel)) (goodIn_sub (fun _ h => List.mem_cons_of_mem _ (List.mem_append_left _ (List.mem_append_left _ (List.mem_append_right _ h)))) (by decide +kernel))
set_option maxRecDepth 20000 in
theorem gX2_absent_X2_needPerson : GoodIn wsX2_absent (wsV RX2 68 RX2 yX2_needPerson wsX2_needPerson) := goodIn_app (goodIn_of _ (by decide +kernel)) ggX2_absent_X2_needPerson
set_option maxRecDepth 20000 in
theorem ggX2_absent_X2_needInRange : GoodIn wsX2_absent wsX2_needInRange := goodIn_ca (goodIn_r _ [17, 18, 19] (by decide +kernel) (by decide +kernel)) (goodIn_sub (fun _ h => List.mem_cons_of_mem _ (List.mem_append_left _ (List.mem_append_right _ h))) (by decide +kernel))
set_option maxRecDepth 20000 in
theorem gX2_absent_X2_needInRange : GoodIn wsX2_absent (va_wsS RX2 30 yX2_needInRange wsX2_needInRange) := goodIn_app (goodIn_of _ (by decide +kernel)) ggX2_absent_X2_needInRange
set_option maxRecDepth 20000 in
theorem ggX2_absent_X1_canBeAbsent : GoodIn wsX2_absent wsX1_canBeAbsent := goodIn_r _ [23, 24, 25, 26, 27, 77, 78, 79, 80, 81, 82, 83, 84, 85, 86, 87, 88, 89, 90, 91] (by decide +kernel) (by decide +kernel)
set_option maxRecDepth 20000 in
theorem gX2_absent_X1_canBeAbsent : GoodIn wsX2_absent (wsV RX2 85 RX1 yX1_canBeAbsent wsX1_canBeAbsent) := goodIn_app (goodIn_of _ (by decide +kernel)) ggX2_absent_X1_canBeAbsent
set_option maxRecDepth 20000 in
theorem ggX2_absent_X2_needAllowed : GoodIn wsX2_absent wsX2_needAllowed := goodIn_ca (goodIn_r _ [30, 31, 32] (by decide +kernel) (by decide +kernel)) (goodIn_sub (fun _ h => List.mem_cons_of_mem _ (List.mem_append_right _ h)) (by decide +kernel))
set_option maxRecDepth 20000 in
theorem gX2_absent_X2_needAllowed : GoodIn wsX2_absent (va_wsS RX2 60 yX2_needAllowed wsX2_needAllowed) := goodIn_app (goodIn_of _ (by decide +kernel)) ggX2_absent_X2_needAllowed
set_option maxRecDepth 20000 in
theorem ggX2_absent_X2_save : GoodIn wsX2_absent wsX2_save := goodIn_r _ [36, 37, 38, 1, 39, 40, 41, 5, 42, 43, 44, 45, 12, 46, 47, 48, 49, 50, 51, 52, 14, 24, 25, 53, 54, 55, 27, 56, 57, 58, 59, 60, 61, 72, 73, 74, 75, 76, 77, 78, 79, 80, 81, 82, 83, 84, 85, 86, 87, 88, 89, 90, 91] (by decide +kernel) (by decide +kernel)
set_option maxRecDepth 20000 in
theorem gX2_absent_X2_save : GoodIn wsX2_absent (wsV RX2 41 RX2 yX2_save wsX2_save) := goodIn_app (goodIn_of _ (by decide +kernel)) ggX2_absent_X2_save
set_option maxRecDepth 20000 in
theorem ggX2_absent_X1_enterAbsence : GoodIn wsX2_absent wsX1_enterAbsence := goodIn_r _ [65, 27, 56, 57, 58, 59, 60, 25, 66, 67, 68, 12, 69, 61, 70, 5, 71, 77, 78, 79, 80, 81, 82, 83, 84, 85, 86, 87, 88, 89, 90, 91] (by decide +kernel) (by decide +kernel)
set_option maxRecDepth 20000 in
theorem gX2_absent_X1_enterAbsence : GoodIn wsX2_absent (wsV RX2 89 RX1 yX1_enterAbsence wsX1_enterAbsence) := goodIn_app (goodIn_of _ (by decide +kernel)) ggX2_absent_X1_enterAbsence
theorem dX2_absent_0 : decode cX2_absent 0 = .ok (.aload_n 0, 1) := by decide +kernel
theorem dX2_absent_1 : decode cX2_absent 1 = .ok (.iload_n 1, 1) := by decide +kernel
theorem dX2_absent_2 : decode cX2_absent 2 = .ok (.invokevirtual 68, 3) := by decide +kernel
theorem dX2_absent_5 : decode cX2_absent 5 = .ok (.iload_n 2, 1) := by decide +kernel
theorem dX2_absent_6 : decode cX2_absent 6 = .ok (.iconst 0, 1) := by decide +kernel
theorem dX2_absent_7 : decode cX2_absent 7 = .ok (.bipush 41, 2) := by decide +kernel
theorem dX2_absent_9 : decode cX2_absent 9 = .ok (.invokestatic 30, 3) := by decide +kernel
theorem dX2_absent_12 : decode cX2_absent 12 = .ok (.aload_n 0, 1) := by decide +kernel
theorem dX2_absent_13 : decode cX2_absent 13 = .ok (.getfield 12, 3) := by decide +kernel
theorem dX2_absent_16 : decode cX2_absent 16 = .ok (.iload_n 1, 1) := by decide +kernel
theorem dX2_absent_17 : decode cX2_absent 17 = .ok (.iload_n 2, 1) := by decide +kernel
theorem dX2_absent_18 : decode cX2_absent 18 = .ok (.invokevirtual 85, 3) := by decide +kernel
theorem dX2_absent_21 : decode cX2_absent 21 = .ok (.invokestatic 60, 3) := by decide +kernel
theorem dX2_absent_24 : decode cX2_absent 24 = .ok (.aload_n 0, 1) := by decide +kernel
theorem dX2_absent_25 : decode cX2_absent 25 = .ok (.invokevirtual 41, 3) := by decide +kernel
theorem dX2_absent_28 : decode cX2_absent 28 = .ok (.aload_n 0, 1) := by decide +kernel
theorem dX2_absent_29 : decode cX2_absent 29 = .ok (.getfield 12, 3) := by decide +kernel
theorem dX2_absent_32 : decode cX2_absent 32 = .ok (.iload_n 1, 1) := by decide +kernel
theorem dX2_absent_33 : decode cX2_absent 33 = .ok (.iload_n 2, 1) := by decide +kernel
theorem dX2_absent_34 : decode cX2_absent 34 = .ok (.invokevirtual 89, 3) := by decide +kernel
theorem dX2_absent_37 : decode cX2_absent 37 = .ok (.ireturn, 1) := by decide +kernel
set_option maxRecDepth 20000 in
theorem ggX2_bid_X2_needPerson : GoodIn wsX2_bid wsX2_needPerson := goodIn_ca (goodIn_r _ [8, 9, 10, 1, 11, 12, 13, 14, 15, 16, 78, 79, 80, 81, 82, 83, 84, 85, 86, 87, 88, 89, 90, 91, 92, 93, 94, 95, 96, 97] (by decide +kernel) (by decide +kernel)) (goodIn_sub (fun _ h => List.mem_cons_of_mem _ (List.mem_append_left _ (List.mem_append_left _ (List.mem_append_right _ h)))) (by decide +kernel))
set_option maxRecDepth 20000 in
theorem gX2_bid_X2_needPerson : GoodIn wsX2_bid (wsV RX2 68 RX2 yX2_needPerson wsX2_needPerson) := goodIn_app (goodIn_of _ (by decide +kernel)) ggX2_bid_X2_needPerson
set_option maxRecDepth 20000 in
theorem ggX2_bid_X2_needAbsence : GoodIn wsX2_bid wsX2_needAbsence := goodIn_ca (goodIn_r _ [20, 9, 10, 1, 21, 22, 23, 14, 24, 25, 78, 79, 80, 81, 82, 83, 84, 85, 86, 87, 88, 89, 90, 91, 92, 93, 94, 95, 96, 97] (by decide +kernel) (by decide +kernel)) (goodIn_sub (fun _ h => List.mem_cons_of_mem _ (List.mem_append_left _ (List.mem_append_left _ (List.mem_append_right _ h)))) (by decide +kernel))
set_option maxRecDepth 20000 in
theorem gX2_bid_X2_needAbsence : GoodIn wsX2_bid (wsV RX2 93 RX2 yX2_needAbsence wsX2_needAbsence) := goodIn_app (goodIn_of _ (by decide +kernel)) ggX2_bid_X2_needAbsence
set_option maxRecDepth 20000 in
theorem ggX2_bid_X2_needInRange : GoodIn wsX2_bid wsX2_needInRange := goodIn_ca (goodIn_r _ [28, 29, 30] (by decide +kernel) (by decide +kernel)) (goodIn_sub (fun _ h => List.mem_cons_of_mem _ (List.mem_append_left _ (List.mem_append_right _ h))) (by decide +kernel))
set_option maxRecDepth 20000 in
theorem gX2_bid_X2_needInRange : GoodIn wsX2_bid (va_wsS RX2 30 yX2_needInRange wsX2_needInRange) := goodIn_app (goodIn_of _ (by decide +kernel)) ggX2_bid_X2_needInRange
set_option maxRecDepth 20000 in
theorem ggX2_bid_X1_canBid : GoodIn wsX2_bid wsX1_canBid := goodIn_r _ [34, 35, 36, 83, 84, 85, 86, 87, 88, 89, 90, 91, 92, 93, 94, 95, 96, 97] (by decide +kernel) (by decide +kernel)
set_option maxRecDepth 20000 in
theorem gX2_bid_X1_canBid : GoodIn wsX2_bid (wsV RX2 96 RX1 yX1_canBid wsX1_canBid) := goodIn_app (goodIn_of _ (by decide +kernel)) ggX2_bid_X1_canBid
set_option maxRecDepth 20000 in
theorem ggX2_bid_X2_needAllowed : GoodIn wsX2_bid wsX2_needAllowed := goodIn_ca (goodIn_r _ [39, 40, 41] (by decide +kernel) (by decide +kernel)) (goodIn_sub (fun _ h => List.mem_cons_of_mem _ (List.mem_append_right _ h)) (by decide +kernel))
set_option maxRecDepth 20000 in
theorem gX2_bid_X2_needAllowed : GoodIn wsX2_bid (va_wsS RX2 60 yX2_needAllowed wsX2_needAllowed) := goodIn_app (goodIn_of _ (by decide +kernel)) ggX2_bid_X2_needAllowed
set_option maxRecDepth 20000 in
theorem ggX2_bid_X2_save : GoodIn wsX2_bid wsX2_save := goodIn_r _ [45, 46, 47, 1, 48, 49, 50, 7, 51, 52, 53, 54, 14, 55, 56, 57, 58, 59, 60, 61, 16, 62, 63, 64, 65, 66, 25, 36, 67, 35, 68, 69, 70, 78, 79, 80, 81, 82, 83, 84, 85, 86, 87, 88, 89, 90, 91, 92, 93, 94, 95, 96, 97] (by decide +kernel) (by decide +kernel)
set_option maxRecDepth 20000 in
theorem gX2_bid_X2_save : GoodIn wsX2_bid (wsV RX2 41 RX2 yX2_save wsX2_save) := goodIn_app (goodIn_of _ (by decide +kernel)) ggX2_bid_X2_save
set_option maxRecDepth 20000 in
theorem ggX2_bid_X2_bidIndex : GoodIn wsX2_bid wsX2_bidIndex := goodIn_r _ [73] (by decide +kernel) (by decide +kernel)
set_option maxRecDepth 20000 in
theorem gX2_bid_X2_bidIndex : GoodIn wsX2_bid (va_wsS RX2 102 yX2_bidIndex wsX2_bidIndex) := goodIn_app (goodIn_of _ (by decide +kernel)) ggX2_bid_X2_bidIndex
set_option maxRecDepth 20000 in
theorem ggX2_bid_X1_bidsFor : GoodIn wsX2_bid wsX1_bidsFor := goodIn_r _ [77, 16, 70, 72, 7, 73, 83, 84, 85, 86, 87, 88, 89, 90, 91, 92, 93, 94, 95, 96, 97] (by decide +kernel) (by decide +kernel)
set_option maxRecDepth 20000 in
theorem gX2_bid_X1_bidsFor : GoodIn wsX2_bid (wsV RX2 105 RX1 yX1_bidsFor wsX1_bidsFor) := goodIn_app (goodIn_of _ (by decide +kernel)) ggX2_bid_X1_bidsFor
theorem dX2_bid_0 : decode cX2_bid 0 = .ok (.aload_n 0, 1) := by decide +kernel
theorem dX2_bid_1 : decode cX2_bid 1 = .ok (.iload_n 1, 1) := by decide +kernel
theorem dX2_bid_2 : decode cX2_bid 2 = .ok (.invokevirtual 68, 3) := by decide +kernel
theorem dX2_bid_5 : decode cX2_bid 5 = .ok (.aload_n 0, 1) := by decide +kernel
theorem dX2_bid_6 : decode cX2_bid 6 = .ok (.iload_n 2, 1) := by decide +kernel
theorem dX2_bid_7 : decode cX2_bid 7 = .ok (.invokevirtual 93, 3) := by decide +kernel
theorem dX2_bid_10 : decode cX2_bid 10 = .ok (.iload_n 3, 1) := by decide +kernel
theorem dX2_bid_11 : decode cX2_bid 11 = .ok (.iconst 0, 1) := by decide +kernel
theorem dX2_bid_12 : decode cX2_bid 12 = .ok (.aload_n 0, 1) := by decide +kernel
theorem dX2_bid_13 : decode cX2_bid 13 = .ok (.getfield 12, 3) := by decide +kernel
theorem dX2_bid_16 : decode cX2_bid 16 = .ok (.getfield 44, 3) := by decide +kernel
theorem dX2_bid_19 : decode cX2_bid 19 = .ok (.iconst 2, 1) := by decide +kernel
theorem dX2_bid_20 : decode cX2_bid 20 = .ok (.iaload, 1) := by decide +kernel
theorem dX2_bid_21 : decode cX2_bid 21 = .ok (.invokestatic 30, 3) := by decide +kernel
theorem dX2_bid_24 : decode cX2_bid 24 = .ok (.aload_n 0, 1) := by decide +kernel
theorem dX2_bid_25 : decode cX2_bid 25 = .ok (.getfield 12, 3) := by decide +kernel
theorem dX2_bid_28 : decode cX2_bid 28 = .ok (.iload_n 1, 1) := by decide +kernel
theorem dX2_bid_29 : decode cX2_bid 29 = .ok (.iload_n 2, 1) := by decide +kernel
theorem dX2_bid_30 : decode cX2_bid 30 = .ok (.invokevirtual 96, 3) := by decide +kernel
theorem dX2_bid_33 : decode cX2_bid 33 = .ok (.invokestatic 60, 3) := by decide +kernel
theorem dX2_bid_36 : decode cX2_bid 36 = .ok (.aload_n 0, 1) := by decide +kernel
theorem dX2_bid_37 : decode cX2_bid 37 = .ok (.invokevirtual 41, 3) := by decide +kernel
theorem dX2_bid_40 : decode cX2_bid 40 = .ok (.aload_n 0, 1) := by decide +kernel
theorem dX2_bid_41 : decode cX2_bid 41 = .ok (.getfield 12, 3) := by decide +kernel
theorem dX2_bid_44 : decode cX2_bid 44 = .ok (.getfield 99, 3) := by decide +kernel
theorem dX2_bid_47 : decode cX2_bid 47 = .ok (.iload_n 1, 1) := by decide +kernel
theorem dX2_bid_48 : decode cX2_bid 48 = .ok (.iload_n 2, 1) := by decide +kernel
theorem dX2_bid_49 : decode cX2_bid 49 = .ok (.invokestatic 102, 3) := by decide +kernel
theorem dX2_bid_52 : decode cX2_bid 52 = .ok (.iload_n 3, 1) := by decide +kernel
theorem dX2_bid_53 : decode cX2_bid 53 = .ok (.iastore, 1) := by decide +kernel
theorem dX2_bid_54 : decode cX2_bid 54 = .ok (.aload_n 0, 1) := by decide +kernel
theorem dX2_bid_55 : decode cX2_bid 55 = .ok (.getfield 12, 3) := by decide +kernel
theorem dX2_bid_58 : decode cX2_bid 58 = .ok (.iload_n 2, 1) := by decide +kernel
theorem dX2_bid_59 : decode cX2_bid 59 = .ok (.invokevirtual 105, 3) := by decide +kernel
theorem dX2_bid_62 : decode cX2_bid 62 = .ok (.ireturn, 1) := by decide +kernel
set_option maxRecDepth 20000 in
theorem ggX2_takeBack_X2_needPerson : GoodIn wsX2_takeBack wsX2_needPerson := goodIn_ca (goodIn_r _ [7, 8, 9, 1, 10, 11, 12, 13, 14, 15, 64, 65, 66, 67, 68, 69, 70, 71, 72, 73, 74, 75, 76, 77, 78, 79, 80, 81, 82, 83] (by decide +kernel) (by decide +kernel)) (goodIn_sub (fun _ h => List.mem_cons_of_mem _ (List.mem_append_left _ (List.mem_append_right _ h))) (by decide +kernel))
set_option maxRecDepth 20000 in
theorem gX2_takeBack_X2_needPerson : GoodIn wsX2_takeBack (wsV RX2 68 RX2 yX2_needPerson wsX2_needPerson) := goodIn_app (goodIn_of _ (by decide +kernel)) ggX2_takeBack_X2_needPerson
set_option maxRecDepth 20000 in
theorem ggX2_takeBack_X2_needAbsence : GoodIn wsX2_takeBack wsX2_needAbsence := goodIn_ca (goodIn_r _ [19, 8, 9, 1, 20, 21, 22, 13, 23, 24, 64, 65, 66, 67, 68, 69, 70, 71, 72, 73, 74, 75, 76, 77, 78, 79, 80, 81, 82, 83] (by decide +kernel) (by decide +kernel)) (goodIn_sub (fun _ h => List.mem_cons_of_mem _ (List.mem_append_left _ (List.mem_append_right _ h))) (by decide +kernel))
set_option maxRecDepth 20000 in
theorem gX2_takeBack_X2_needAbsence : GoodIn wsX2_takeBack (wsV RX2 93 RX2 yX2_needAbsence wsX2_needAbsence) := goodIn_app (goodIn_of _ (by decide +kernel)) ggX2_takeBack_X2_needAbsence
set_option maxRecDepth 20000 in
theorem ggX2_takeBack_X2_bidIndex : GoodIn wsX2_takeBack wsX2_bidIndex := goodIn_r _ [27] (by decide +kernel) (by decide +kernel)
set_option maxRecDepth 20000 in
theorem gX2_takeBack_X2_bidIndex : GoodIn wsX2_takeBack (va_wsS RX2 102 yX2_bidIndex wsX2_bidIndex) := goodIn_app (goodIn_of _ (by decide +kernel)) ggX2_takeBack_X2_bidIndex
set_option maxRecDepth 20000 in
theorem ggX2_takeBack_X2_needAllowed : GoodIn wsX2_takeBack wsX2_needAllowed := goodIn_ca (goodIn_r _ [30, 31, 32] (by decide +kernel) (by decide +kernel)) (goodIn_sub (fun _ h => List.mem_cons_of_mem _ (List.mem_append_right _ h)) (by decide +kernel))
set_option maxRecDepth 20000 in
theorem gX2_takeBack_X2_needAllowed : GoodIn wsX2_takeBack (va_wsS RX2 60 yX2_needAllowed wsX2_needAllowed) := goodIn_app (goodIn_of _ (by decide +kernel)) ggX2_takeBack_X2_needAllowed
set_option maxRecDepth 20000 in
theorem ggX2_takeBack_X2_save : GoodIn wsX2_takeBack wsX2_save := goodIn_r _ [36, 37, 38, 1, 39, 40, 41, 6, 42, 43, 44, 45, 13, 46, 47, 48, 49, 50, 51, 52, 15, 53, 54, 55, 56, 57, 24, 58, 59, 60, 61, 62, 63, 64, 65, 66, 67, 68, 69, 70, 71, 72, 73, 74, 75, 76, 77, 78, 79, 80, 81, 82, 83] (by decide +kernel) (by decide +kernel)
set_option maxRecDepth 20000 in
theorem gX2_takeBack_X2_save : GoodIn wsX2_takeBack (wsV RX2 41 RX2 yX2_save wsX2_save) := goodIn_app (goodIn_of _ (by decide +kernel)) ggX2_takeBack_X2_save
theorem dX2_takeBack_0 : decode cX2_takeBack 0 = .ok (.aload_n 0, 1) := by decide +kernel
theorem dX2_takeBack_1 : decode cX2_takeBack 1 = .ok (.iload_n 1, 1) := by decide +kernel
theorem dX2_takeBack_2 : decode cX2_takeBack 2 = .ok (.invokevirtual 68, 3) := by decide +kernel
theorem dX2_takeBack_5 : decode cX2_takeBack 5 = .ok (.aload_n 0, 1) := by decide +kernel
theorem dX2_takeBack_6 : decode cX2_takeBack 6 = .ok (.iload_n 2, 1) := by decide +kernel
theorem dX2_takeBack_7 : decode cX2_takeBack 7 = .ok (.invokevirtual 93, 3) := by decide +kernel
theorem dX2_takeBack_10 : decode cX2_takeBack 10 = .ok (.iload_n 1, 1) := by decide +kernel
theorem dX2_takeBack_11 : decode cX2_takeBack 11 = .ok (.iload_n 2, 1) := by decide +kernel
theorem dX2_takeBack_12 : decode cX2_takeBack 12 = .ok (.invokestatic 102, 3) := by decide +kernel
theorem dX2_takeBack_15 : decode cX2_takeBack 15 = .ok (.istore_n 3, 1) := by decide +kernel
theorem dX2_takeBack_16 : decode cX2_takeBack 16 = .ok (.aload_n 0, 1) := by decide +kernel
theorem dX2_takeBack_17 : decode cX2_takeBack 17 = .ok (.getfield 12, 3) := by decide +kernel
theorem dX2_takeBack_20 : decode cX2_takeBack 20 = .ok (.getfield 99, 3) := by decide +kernel
theorem dX2_takeBack_23 : decode cX2_takeBack 23 = .ok (.iload_n 3, 1) := by decide +kernel
theorem dX2_takeBack_24 : decode cX2_takeBack 24 = .ok (.iaload, 1) := by decide +kernel
theorem dX2_takeBack_25 : decode cX2_takeBack 25 = .ok (.iconst (-1), 1) := by decide +kernel
theorem dX2_takeBack_26 : decode cX2_takeBack 26 = .ok (.if_icmp .eq 7, 3) := by decide +kernel
theorem dX2_takeBack_29 : decode cX2_takeBack 29 = .ok (.iconst 1, 1) := by decide +kernel
theorem dX2_takeBack_30 : decode cX2_takeBack 30 = .ok (.goto 4, 3) := by decide +kernel
theorem dX2_takeBack_33 : decode cX2_takeBack 33 = .ok (.iconst 0, 1) := by decide +kernel
theorem dX2_takeBack_34 : decode cX2_takeBack 34 = .ok (.invokestatic 60, 3) := by decide +kernel
theorem dX2_takeBack_37 : decode cX2_takeBack 37 = .ok (.aload_n 0, 1) := by decide +kernel
theorem dX2_takeBack_38 : decode cX2_takeBack 38 = .ok (.invokevirtual 41, 3) := by decide +kernel
theorem dX2_takeBack_41 : decode cX2_takeBack 41 = .ok (.aload_n 0, 1) := by decide +kernel
theorem dX2_takeBack_42 : decode cX2_takeBack 42 = .ok (.getfield 12, 3) := by decide +kernel
theorem dX2_takeBack_45 : decode cX2_takeBack 45 = .ok (.getfield 99, 3) := by decide +kernel
theorem dX2_takeBack_48 : decode cX2_takeBack 48 = .ok (.iload_n 3, 1) := by decide +kernel
theorem dX2_takeBack_49 : decode cX2_takeBack 49 = .ok (.iaload, 1) := by decide +kernel
theorem dX2_takeBack_50 : decode cX2_takeBack 50 = .ok (.istore 4, 2) := by decide +kernel
theorem dX2_takeBack_52 : decode cX2_takeBack 52 = .ok (.aload_n 0, 1) := by decide +kernel
theorem dX2_takeBack_53 : decode cX2_takeBack 53 = .ok (.getfield 12, 3) := by decide +kernel
theorem dX2_takeBack_56 : decode cX2_takeBack 56 = .ok (.getfield 99, 3) := by decide +kernel
theorem dX2_takeBack_59 : decode cX2_takeBack 59 = .ok (.iload_n 3, 1) := by decide +kernel
theorem dX2_takeBack_60 : decode cX2_takeBack 60 = .ok (.iconst (-1), 1) := by decide +kernel
theorem dX2_takeBack_61 : decode cX2_takeBack 61 = .ok (.iastore, 1) := by decide +kernel
theorem dX2_takeBack_62 : decode cX2_takeBack 62 = .ok (.iload 4, 2) := by decide +kernel
theorem dX2_takeBack_64 : decode cX2_takeBack 64 = .ok (.ireturn, 1) := by decide +kernel
set_option maxRecDepth 20000 in
theorem ggX2_cover_X2_needAbsence : GoodIn wsX2_cover wsX2_needAbsence := goodIn_ca (goodIn_r _ [7, 8, 9, 1, 10, 11, 12, 13, 14, 15, 92, 93, 94, 95, 96, 97, 98, 99, 100, 101, 102, 103, 104, 105, 106, 107, 108, 109, 110, 111] (by decide +kernel) (by decide +kernel)) (goodIn_sub (fun _ h => List.mem_cons_of_mem _ (List.mem_append_left _ (List.mem_append_right _ h))) (by decide +kernel))
set_option maxRecDepth 20000 in
theorem gX2_cover_X2_needAbsence : GoodIn wsX2_cover (wsV RX2 93 RX2 yX2_needAbsence wsX2_needAbsence) := goodIn_app (goodIn_of _ (by decide +kernel)) ggX2_cover_X2_needAbsence
set_option maxRecDepth 20000 in
theorem ggX2_cover_X1_nextCoverer : GoodIn wsX2_cover wsX1_nextCoverer := goodIn_r _ [19, 20, 21, 22, 23, 24, 13, 25, 26, 27, 28, 29, 30, 31, 32, 33, 34, 35, 36, 37, 38, 39, 40, 41, 42, 43, 44, 45, 46, 47, 48, 49, 50, 51, 52, 6, 53, 54, 55, 56, 97, 98, 99, 100, 101, 102, 103, 104, 105, 106, 107, 108, 109, 110, 111] (by decide +kernel) (by decide +kernel)
set_option maxRecDepth 20000 in
theorem gX2_cover_X1_nextCoverer : GoodIn wsX2_cover (wsV RX2 109 RX1 yX1_nextCoverer wsX1_nextCoverer) := goodIn_app (goodIn_of _ (by decide +kernel)) ggX2_cover_X1_nextCoverer
set_option maxRecDepth 20000 in
theorem ggX2_cover_X2_needAllowed : GoodIn wsX2_cover wsX2_needAllowed := goodIn_ca (goodIn_r _ [59, 60, 61] (by decide +kernel) (by decide +kernel)) (goodIn_sub (fun _ h => List.mem_cons_of_mem _ (List.mem_append_right _ h)) (by decide +kernel))
set_option maxRecDepth 20000 in
theorem gX2_cover_X2_needAllowed : GoodIn wsX2_cover (va_wsS RX2 60 yX2_needAllowed wsX2_needAllowed) := goodIn_app (goodIn_of _ (by decide +kernel)) ggX2_cover_X2_needAllowed
set_option maxRecDepth 20000 in
theorem ggX2_cover_X2_save : GoodIn wsX2_cover wsX2_save := goodIn_r _ [65, 66, 67, 1, 68, 69, 70, 6, 71, 72, 73, 74, 13, 75, 40, 76, 77, 78, 79, 80, 21, 33, 28, 35, 51, 50, 15, 26, 27, 20, 81, 82, 49, 92, 93, 94, 95, 96, 97, 98, 99, 100, 101, 102, 103, 104, 105, 106, 107, 108, 109, 110, 111] (by decide +kernel) (by decide +kernel)
set_option maxRecDepth 20000 in
theorem gX2_cover_X2_save : GoodIn wsX2_cover (wsV RX2 41 RX2 yX2_save wsX2_save) := goodIn_app (goodIn_of _ (by decide +kernel)) ggX2_cover_X2_save
set_option maxRecDepth 20000 in
theorem ggX2_cover_X1_coverOpen : GoodIn wsX2_cover wsX1_coverOpen := goodIn_r _ [86, 49, 20, 82, 40, 50, 81, 35, 27, 51, 26, 87, 17, 18, 13, 19, 21, 22, 23, 24, 25, 28, 29, 30, 31, 32, 33, 34, 36, 37, 38, 39, 41, 42, 43, 44, 45, 46, 47, 48, 52, 6, 53, 54, 55, 56, 88, 89, 90, 91, 97, 98, 99, 100, 101, 102, 103, 104, 105, 106, 107, 108, 109, 110, 111] (by decide +kernel) (by decide +kernel)
set_option maxRecDepth 20000 in
theorem gX2_cover_X1_coverOpen : GoodIn wsX2_cover (wsV RX2 112 RX1 yX1_coverOpen wsX1_coverOpen) := goodIn_app (goodIn_of _ (by decide +kernel)) ggX2_cover_X1_coverOpen
theorem dX2_cover_0 : decode cX2_cover 0 = .ok (.aload_n 0, 1) := by decide +kernel
theorem dX2_cover_1 : decode cX2_cover 1 = .ok (.iload_n 1, 1) := by decide +kernel
theorem dX2_cover_2 : decode cX2_cover 2 = .ok (.invokevirtual 93, 3) := by decide +kernel
theorem dX2_cover_5 : decode cX2_cover 5 = .ok (.aload_n 0, 1) := by decide +kernel
theorem dX2_cover_6 : decode cX2_cover 6 = .ok (.getfield 12, 3) := by decide +kernel
theorem dX2_cover_9 : decode cX2_cover 9 = .ok (.iload_n 1, 1) := by decide +kernel
theorem dX2_cover_10 : decode cX2_cover 10 = .ok (.invokevirtual 109, 3) := by decide +kernel
theorem dX2_cover_13 : decode cX2_cover 13 = .ok (.iconst (-1), 1) := by decide +kernel
theorem dX2_cover_14 : decode cX2_cover 14 = .ok (.if_icmp .eq 7, 3) := by decide +kernel
theorem dX2_cover_17 : decode cX2_cover 17 = .ok (.iconst 1, 1) := by decide +kernel
theorem dX2_cover_18 : decode cX2_cover 18 = .ok (.goto 4, 3) := by decide +kernel
theorem dX2_cover_21 : decode cX2_cover 21 = .ok (.iconst 0, 1) := by decide +kernel
theorem dX2_cover_22 : decode cX2_cover 22 = .ok (.invokestatic 60, 3) := by decide +kernel
theorem dX2_cover_25 : decode cX2_cover 25 = .ok (.aload_n 0, 1) := by decide +kernel
theorem dX2_cover_26 : decode cX2_cover 26 = .ok (.invokevirtual 41, 3) := by decide +kernel
theorem dX2_cover_29 : decode cX2_cover 29 = .ok (.aload_n 0, 1) := by decide +kernel
theorem dX2_cover_30 : decode cX2_cover 30 = .ok (.getfield 12, 3) := by decide +kernel
theorem dX2_cover_33 : decode cX2_cover 33 = .ok (.iload_n 1, 1) := by decide +kernel
theorem dX2_cover_34 : decode cX2_cover 34 = .ok (.invokevirtual 112, 3) := by decide +kernel
theorem dX2_cover_37 : decode cX2_cover 37 = .ok (.pop, 1) := by decide +kernel
theorem dX2_cover_38 : decode cX2_cover 38 = .ok (.aload_n 0, 1) := by decide +kernel
theorem dX2_cover_39 : decode cX2_cover 39 = .ok (.getfield 12, 3) := by decide +kernel
theorem dX2_cover_42 : decode cX2_cover 42 = .ok (.getfield 116, 3) := by decide +kernel
theorem dX2_cover_45 : decode cX2_cover 45 = .ok (.iload_n 1, 1) := by decide +kernel
theorem dX2_cover_46 : decode cX2_cover 46 = .ok (.iaload, 1) := by decide +kernel
theorem dX2_cover_47 : decode cX2_cover 47 = .ok (.ireturn, 1) := by decide +kernel
set_option maxRecDepth 20000 in
theorem ggX2_coverAll_X2_save : GoodIn wsX2_coverAll wsX2_save := goodIn_r _ [6, 7, 8, 1, 9, 10, 11, 5, 12, 13, 14, 15, 16, 17, 18, 19, 20, 21, 22, 23, 24, 25, 26, 27, 28, 29, 30, 31, 32, 33, 34, 35, 36, 79, 80, 81, 82, 83, 84, 85, 86, 87, 88, 89, 90, 91, 92, 93, 94, 95, 96, 97, 98] (by decide +kernel) (by decide +kernel)
set_option maxRecDepth 20000 in
theorem gX2_coverAll_X2_save : GoodIn wsX2_coverAll (wsV RX2 41 RX2 yX2_save wsX2_save) := goodIn_app (goodIn_of _ (by decide +kernel)) ggX2_coverAll_X2_save
set_option maxRecDepth 20000 in
theorem ggX2_coverAll_X1_coverAllOpen : GoodIn wsX2_coverAll wsX1_coverAllOpen := goodIn_r _ [40, 30, 41, 42, 43, 16, 44, 36, 33, 35, 18, 29, 34, 27, 32, 28, 31, 45, 46, 47, 48, 24, 49, 50, 51, 52, 26, 53, 54, 55, 56, 25, 57, 58, 59, 60, 61, 62, 63, 64, 65, 66, 67, 68, 69, 70, 5, 71, 72, 73, 74, 75, 76, 77, 78, 84, 85, 86, 87, 88, 89, 90, 91, 92, 93, 94, 95, 96, 97, 98] (by decide +kernel) (by decide +kernel)
set_option maxRecDepth 20000 in
theorem gX2_coverAll_X1_coverAllOpen : GoodIn wsX2_coverAll (wsV RX2 119 RX1 yX1_coverAllOpen wsX1_coverAllOpen) := goodIn_app (goodIn_of _ (by decide +kernel)) ggX2_coverAll_X1_coverAllOpen
theorem dX2_coverAll_0 : decode cX2_coverAll 0 = .ok (.aload_n 0, 1) := by decide +kernel
theorem dX2_coverAll_1 : decode cX2_coverAll 1 = .ok (.invokevirtual 41, 3) := by decide +kernel
theorem dX2_coverAll_4 : decode cX2_coverAll 4 = .ok (.aload_n 0, 1) := by decide +kernel
theorem dX2_coverAll_5 : decode cX2_coverAll 5 = .ok (.getfield 12, 3) := by decide +kernel
theorem dX2_coverAll_8 : decode cX2_coverAll 8 = .ok (.invokevirtual 119, 3) := by decide +kernel
theorem dX2_coverAll_11 : decode cX2_coverAll 11 = .ok (.ireturn, 1) := by decide +kernel
set_option maxRecDepth 20000 in
theorem ggX2_handOver_X2_needAbsence : GoodIn wsX2_handOver wsX2_needAbsence := goodIn_ca (goodIn_r _ [7, 8, 9, 1, 10, 11, 12, 13, 14, 15, 86, 87, 88, 89, 90, 91, 92, 93, 94, 95, 96, 97, 98, 99, 100, 101, 102, 103, 104, 105] (by decide +kernel) (by decide +kernel)) (goodIn_sub (fun _ h => List.mem_cons_of_mem _ (List.mem_append_left _ (List.mem_append_right _ h))) (by decide +kernel))
set_option maxRecDepth 20000 in
theorem gX2_handOver_X2_needAbsence : GoodIn wsX2_handOver (wsV RX2 93 RX2 yX2_needAbsence wsX2_needAbsence) := goodIn_app (goodIn_of _ (by decide +kernel)) ggX2_handOver_X2_needAbsence
set_option maxRecDepth 20000 in
theorem ggX2_handOver_X2_needPerson : GoodIn wsX2_handOver wsX2_needPerson := goodIn_ca (goodIn_r _ [19, 8, 9, 1, 20, 21, 22, 13, 23, 24, 86, 87, 88, 89, 90, 91, 92, 93, 94, 95, 96, 97, 98, 99, 100, 101, 102, 103, 104, 105] (by decide +kernel) (by decide +kernel)) (goodIn_sub (fun _ h => List.mem_cons_of_mem _ (List.mem_append_left _ (List.mem_append_right _ h))) (by decide +kernel))
set_option maxRecDepth 20000 in
theorem gX2_handOver_X2_needPerson : GoodIn wsX2_handOver (wsV RX2 68 RX2 yX2_needPerson wsX2_needPerson) := goodIn_app (goodIn_of _ (by decide +kernel)) ggX2_handOver_X2_needPerson
set_option maxRecDepth 20000 in
theorem ggX2_handOver_X1_isCovered : GoodIn wsX2_handOver wsX1_isCovered := goodIn_r _ [28, 29, 91, 92, 93, 94, 95, 96, 97, 98, 99, 100, 101, 102, 103, 104, 105] (by decide +kernel) (by decide +kernel)
set_option maxRecDepth 20000 in
theorem gX2_handOver_X1_isCovered : GoodIn wsX2_handOver (wsV RX2 123 RX1 yX1_isCovered wsX1_isCovered) := goodIn_app (goodIn_of _ (by decide +kernel)) ggX2_handOver_X1_isCovered
set_option maxRecDepth 20000 in
theorem ggX2_handOver_X1_hindrance : GoodIn wsX2_handOver wsX1_hindrance := goodIn_r _ [33, 34, 35, 36, 37, 38, 39, 13, 40, 41, 42, 43, 44, 45, 46, 47, 48, 49, 50, 51, 52, 91, 92, 93, 94, 95, 96, 97, 98, 99, 100, 101, 102, 103, 104, 105] (by decide +kernel) (by decide +kernel)
set_option maxRecDepth 20000 in
theorem gX2_handOver_X1_hindrance : GoodIn wsX2_handOver (wsV RX2 126 RX1 yX1_hindrance wsX1_hindrance) := goodIn_app (goodIn_of _ (by decide +kernel)) ggX2_handOver_X1_hindrance
set_option maxRecDepth 20000 in
theorem ggX2_handOver_X2_needAllowed : GoodIn wsX2_handOver wsX2_needAllowed := goodIn_ca (goodIn_r _ [55, 56, 57] (by decide +kernel) (by decide +kernel)) (goodIn_sub (fun _ h => List.mem_cons_of_mem _ (List.mem_append_right _ h)) (by decide +kernel))
set_option maxRecDepth 20000 in
theorem gX2_handOver_X2_needAllowed : GoodIn wsX2_handOver (va_wsS RX2 60 yX2_needAllowed wsX2_needAllowed) := goodIn_app (goodIn_of _ (by decide +kernel)) ggX2_handOver_X2_needAllowed
set_option maxRecDepth 20000 in
theorem ggX2_handOver_X2_save : GoodIn wsX2_handOver wsX2_save := goodIn_r _ [61, 62, 63, 1, 64, 65, 66, 6, 67, 68, 69, 70, 13, 71, 48, 72, 73, 74, 75, 76, 24, 41, 36, 43, 77, 78, 15, 34, 35, 29, 79, 80, 81, 86, 87, 88, 89, 90, 91, 92, 93, 94, 95, 96, 97, 98, 99, 100, 101, 102, 103, 104, 105] (by decide +kernel) (by decide +kernel)
set_option maxRecDepth 20000 in
theorem gX2_handOver_X2_save : GoodIn wsX2_handOver (wsV RX2 41 RX2 yX2_save wsX2_save) := goodIn_app (goodIn_of _ (by decide +kernel)) ggX2_handOver_X2_save
set_option maxRecDepth 20000 in
theorem ggX2_handOver_X1_moveCover : GoodIn wsX2_handOver wsX1_moveCover := goodIn_r _ [85, 35, 79, 43, 42, 77, 80, 76, 91, 92, 93, 94, 95, 96, 97, 98, 99, 100, 101, 102, 103, 104, 105] (by decide +kernel) (by decide +kernel)
set_option maxRecDepth 20000 in
theorem gX2_handOver_X1_moveCover : GoodIn wsX2_handOver (wsV RX2 129 RX1 yX1_moveCover wsX1_moveCover) := goodIn_app (goodIn_of _ (by decide +kernel)) ggX2_handOver_X1_moveCover
theorem dX2_handOver_0 : decode cX2_handOver 0 = .ok (.aload_n 0, 1) := by decide +kernel
theorem dX2_handOver_1 : decode cX2_handOver 1 = .ok (.iload_n 1, 1) := by decide +kernel
theorem dX2_handOver_2 : decode cX2_handOver 2 = .ok (.invokevirtual 93, 3) := by decide +kernel
theorem dX2_handOver_5 : decode cX2_handOver 5 = .ok (.aload_n 0, 1) := by decide +kernel
theorem dX2_handOver_6 : decode cX2_handOver 6 = .ok (.iload_n 2, 1) := by decide +kernel
theorem dX2_handOver_7 : decode cX2_handOver 7 = .ok (.invokevirtual 68, 3) := by decide +kernel
theorem dX2_handOver_10 : decode cX2_handOver 10 = .ok (.aload_n 0, 1) := by decide +kernel
theorem dX2_handOver_11 : decode cX2_handOver 11 = .ok (.getfield 12, 3) := by decide +kernel
theorem dX2_handOver_14 : decode cX2_handOver 14 = .ok (.iload_n 1, 1) := by decide +kernel
theorem dX2_handOver_15 : decode cX2_handOver 15 = .ok (.invokevirtual 123, 3) := by decide +kernel
theorem dX2_handOver_18 : decode cX2_handOver 18 = .ok (.ifCond .eq 19, 3) := by decide +kernel
theorem dX2_handOver_21 : decode cX2_handOver 21 = .ok (.aload_n 0, 1) := by decide +kernel
theorem dX2_handOver_22 : decode cX2_handOver 22 = .ok (.getfield 12, 3) := by decide +kernel
theorem dX2_handOver_25 : decode cX2_handOver 25 = .ok (.iload_n 2, 1) := by decide +kernel
theorem dX2_handOver_26 : decode cX2_handOver 26 = .ok (.iload_n 1, 1) := by decide +kernel
theorem dX2_handOver_27 : decode cX2_handOver 27 = .ok (.invokevirtual 126, 3) := by decide +kernel
theorem dX2_handOver_30 : decode cX2_handOver 30 = .ok (.ifCond .ne 7, 3) := by decide +kernel
theorem dX2_handOver_33 : decode cX2_handOver 33 = .ok (.iconst 1, 1) := by decide +kernel
theorem dX2_handOver_34 : decode cX2_handOver 34 = .ok (.goto 4, 3) := by decide +kernel
theorem dX2_handOver_37 : decode cX2_handOver 37 = .ok (.iconst 0, 1) := by decide +kernel
theorem dX2_handOver_38 : decode cX2_handOver 38 = .ok (.invokestatic 60, 3) := by decide +kernel
theorem dX2_handOver_41 : decode cX2_handOver 41 = .ok (.aload_n 0, 1) := by decide +kernel
theorem dX2_handOver_42 : decode cX2_handOver 42 = .ok (.invokevirtual 41, 3) := by decide +kernel
theorem dX2_handOver_45 : decode cX2_handOver 45 = .ok (.aload_n 0, 1) := by decide +kernel
theorem dX2_handOver_46 : decode cX2_handOver 46 = .ok (.getfield 12, 3) := by decide +kernel
theorem dX2_handOver_49 : decode cX2_handOver 49 = .ok (.getfield 116, 3) := by decide +kernel
theorem dX2_handOver_52 : decode cX2_handOver 52 = .ok (.iload_n 1, 1) := by decide +kernel
theorem dX2_handOver_53 : decode cX2_handOver 53 = .ok (.iaload, 1) := by decide +kernel
theorem dX2_handOver_54 : decode cX2_handOver 54 = .ok (.istore_n 3, 1) := by decide +kernel
theorem dX2_handOver_55 : decode cX2_handOver 55 = .ok (.aload_n 0, 1) := by decide +kernel
theorem dX2_handOver_56 : decode cX2_handOver 56 = .ok (.getfield 12, 3) := by decide +kernel
theorem dX2_handOver_59 : decode cX2_handOver 59 = .ok (.iload_n 1, 1) := by decide +kernel
theorem dX2_handOver_60 : decode cX2_handOver 60 = .ok (.iload_n 2, 1) := by decide +kernel
theorem dX2_handOver_61 : decode cX2_handOver 61 = .ok (.invokevirtual 129, 3) := by decide +kernel
theorem dX2_handOver_64 : decode cX2_handOver 64 = .ok (.iload_n 3, 1) := by decide +kernel
theorem dX2_handOver_65 : decode cX2_handOver 65 = .ok (.ireturn, 1) := by decide +kernel
set_option maxRecDepth 20000 in
theorem ggX2_giveUp_X2_needAbsence : GoodIn wsX2_giveUp wsX2_needAbsence := goodIn_ca (goodIn_r _ [7, 8, 9, 1, 10, 11, 12, 13, 14, 15, 63, 64, 65, 66, 67, 68, 69, 70, 71, 72, 73, 74, 75, 76, 77, 78, 79, 80, 81, 82] (by decide +kernel) (by decide +kernel)) (goodIn_sub (fun _ h => List.mem_cons_of_mem _ (List.mem_append_left _ (List.mem_append_right _ h))) (by decide +kernel))
set_option maxRecDepth 20000 in
theorem gX2_giveUp_X2_needAbsence : GoodIn wsX2_giveUp (wsV RX2 93 RX2 yX2_needAbsence wsX2_needAbsence) := goodIn_app (goodIn_of _ (by decide +kernel)) ggX2_giveUp_X2_needAbsence
set_option maxRecDepth 20000 in
theorem ggX2_giveUp_X2_needAllowed : GoodIn wsX2_giveUp wsX2_needAllowed := goodIn_ca (goodIn_r _ [18, 19, 20] (by decide +kernel) (by decide +kernel)) (goodIn_sub (fun _ h => List.mem_cons_of_mem _ (List.mem_append_right _ h)) (by decide +kernel))
set_option maxRecDepth 20000 in
theorem gX2_giveUp_X2_needAllowed : GoodIn wsX2_giveUp (va_wsS RX2 60 yX2_needAllowed wsX2_needAllowed) := goodIn_app (goodIn_of _ (by decide +kernel)) ggX2_giveUp_X2_needAllowed
set_option maxRecDepth 20000 in
theorem ggX2_giveUp_X2_save : GoodIn wsX2_giveUp wsX2_save := goodIn_r _ [24, 25, 26, 1, 27, 28, 29, 6, 30, 31, 32, 33, 13, 34, 35, 36, 37, 38, 39, 40, 41, 42, 43, 44, 45, 46, 15, 47, 48, 49, 50, 51, 52, 63, 64, 65, 66, 67, 68, 69, 70, 71, 72, 73, 74, 75, 76, 77, 78, 79, 80, 81, 82] (by decide +kernel) (by decide +kernel)
set_option maxRecDepth 20000 in
theorem gX2_giveUp_X2_save : GoodIn wsX2_giveUp (wsV RX2 41 RX2 yX2_save wsX2_save) := goodIn_app (goodIn_of _ (by decide +kernel)) ggX2_giveUp_X2_save
set_option maxRecDepth 20000 in
theorem ggX2_giveUp_X1_bidsFor : GoodIn wsX2_giveUp wsX1_bidsFor := goodIn_r _ [56, 41, 52, 57, 6, 58, 68, 69, 70, 71, 72, 73, 74, 75, 76, 77, 78, 79, 80, 81, 82] (by decide +kernel) (by decide +kernel)
set_option maxRecDepth 20000 in
theorem gX2_giveUp_X1_bidsFor : GoodIn wsX2_giveUp (wsV RX2 105 RX1 yX1_bidsFor wsX1_bidsFor) := goodIn_app (goodIn_of _ (by decide +kernel)) ggX2_giveUp_X1_bidsFor
set_option maxRecDepth 20000 in
theorem ggX2_giveUp_X1_dropBids : GoodIn wsX2_giveUp wsX1_dropBids := goodIn_r _ [62, 52, 57, 6, 58, 68, 69, 70, 71, 72, 73, 74, 75, 76, 77, 78, 79, 80, 81, 82] (by decide +kernel) (by decide +kernel)
set_option maxRecDepth 20000 in
theorem gX2_giveUp_X1_dropBids : GoodIn wsX2_giveUp (wsV RX2 136 RX1 yX1_dropBids wsX1_dropBids) := goodIn_app (goodIn_of _ (by decide +kernel)) ggX2_giveUp_X1_dropBids
theorem dX2_giveUp_0 : decode cX2_giveUp 0 = .ok (.aload_n 0, 1) := by decide +kernel
theorem dX2_giveUp_1 : decode cX2_giveUp 1 = .ok (.iload_n 1, 1) := by decide +kernel
theorem dX2_giveUp_2 : decode cX2_giveUp 2 = .ok (.invokevirtual 93, 3) := by decide +kernel
theorem dX2_giveUp_5 : decode cX2_giveUp 5 = .ok (.aload_n 0, 1) := by decide +kernel
theorem dX2_giveUp_6 : decode cX2_giveUp 6 = .ok (.getfield 12, 3) := by decide +kernel
theorem dX2_giveUp_9 : decode cX2_giveUp 9 = .ok (.getfield 133, 3) := by decide +kernel
theorem dX2_giveUp_12 : decode cX2_giveUp 12 = .ok (.iload_n 1, 1) := by decide +kernel
theorem dX2_giveUp_13 : decode cX2_giveUp 13 = .ok (.iaload, 1) := by decide +kernel
theorem dX2_giveUp_14 : decode cX2_giveUp 14 = .ok (.ifCond .ne 7, 3) := by decide +kernel
theorem dX2_giveUp_17 : decode cX2_giveUp 17 = .ok (.iconst 1, 1) := by decide +kernel
theorem dX2_giveUp_18 : decode cX2_giveUp 18 = .ok (.goto 4, 3) := by decide +kernel
theorem dX2_giveUp_21 : decode cX2_giveUp 21 = .ok (.iconst 0, 1) := by decide +kernel
theorem dX2_giveUp_22 : decode cX2_giveUp 22 = .ok (.invokestatic 60, 3) := by decide +kernel
theorem dX2_giveUp_25 : decode cX2_giveUp 25 = .ok (.aload_n 0, 1) := by decide +kernel
theorem dX2_giveUp_26 : decode cX2_giveUp 26 = .ok (.invokevirtual 41, 3) := by decide +kernel
theorem dX2_giveUp_29 : decode cX2_giveUp 29 = .ok (.aload_n 0, 1) := by decide +kernel
theorem dX2_giveUp_30 : decode cX2_giveUp 30 = .ok (.getfield 12, 3) := by decide +kernel
theorem dX2_giveUp_33 : decode cX2_giveUp 33 = .ok (.iload_n 1, 1) := by decide +kernel
theorem dX2_giveUp_34 : decode cX2_giveUp 34 = .ok (.invokevirtual 105, 3) := by decide +kernel
theorem dX2_giveUp_37 : decode cX2_giveUp 37 = .ok (.istore_n 2, 1) := by decide +kernel
theorem dX2_giveUp_38 : decode cX2_giveUp 38 = .ok (.aload_n 0, 1) := by decide +kernel
theorem dX2_giveUp_39 : decode cX2_giveUp 39 = .ok (.getfield 12, 3) := by decide +kernel
theorem dX2_giveUp_42 : decode cX2_giveUp 42 = .ok (.getfield 133, 3) := by decide +kernel
theorem dX2_giveUp_45 : decode cX2_giveUp 45 = .ok (.iload_n 1, 1) := by decide +kernel
theorem dX2_giveUp_46 : decode cX2_giveUp 46 = .ok (.iconst 3, 1) := by decide +kernel
theorem dX2_giveUp_47 : decode cX2_giveUp 47 = .ok (.iastore, 1) := by decide +kernel
theorem dX2_giveUp_48 : decode cX2_giveUp 48 = .ok (.aload_n 0, 1) := by decide +kernel
theorem dX2_giveUp_49 : decode cX2_giveUp 49 = .ok (.getfield 12, 3) := by decide +kernel
theorem dX2_giveUp_52 : decode cX2_giveUp 52 = .ok (.iload_n 1, 1) := by decide +kernel
theorem dX2_giveUp_53 : decode cX2_giveUp 53 = .ok (.invokevirtual 136, 3) := by decide +kernel
theorem dX2_giveUp_56 : decode cX2_giveUp 56 = .ok (.iload_n 2, 1) := by decide +kernel
theorem dX2_giveUp_57 : decode cX2_giveUp 57 = .ok (.ireturn, 1) := by decide +kernel
set_option maxRecDepth 20000 in
theorem ggX2_person_X2_needPerson : GoodIn wsX2_person wsX2_needPerson := goodIn_ca (goodIn_r _ [6, 7, 8, 1, 9, 10, 11, 12, 13, 14, 49, 50, 51, 52, 53, 54, 55, 56, 57, 58, 59, 60, 61, 62, 63, 64, 65, 66, 67, 68] (by decide +kernel) (by decide +kernel)) (goodIn_sub (fun _ h => List.mem_cons_of_mem _ (List.mem_append_left _ (List.mem_append_right _ h))) (by decide +kernel))
set_option maxRecDepth 20000 in
theorem gX2_person_X2_needPerson : GoodIn wsX2_person (wsV RX2 68 RX2 yX2_needPerson wsX2_needPerson) := goodIn_app (goodIn_of _ (by decide +kernel)) ggX2_person_X2_needPerson
set_option maxRecDepth 20000 in
theorem ggX2_person_X2_needInRange : GoodIn wsX2_person wsX2_needInRange := goodIn_ca (goodIn_r _ [17, 18, 19] (by decide +kernel) (by decide +kernel)) (goodIn_sub (fun _ h => List.mem_cons_of_mem _ (List.mem_append_right _ h)) (by decide +kernel))
set_option maxRecDepth 20000 in
theorem gX2_person_X2_needInRange : GoodIn wsX2_person (va_wsS RX2 30 yX2_needInRange wsX2_needInRange) := goodIn_app (goodIn_of _ (by decide +kernel)) ggX2_person_X2_needInRange
set_option maxRecDepth 20000 in
theorem ggX2_person_X1_aboutPerson : GoodIn wsX2_person wsX1_aboutPerson := goodIn_r _ [23, 24, 25, 26, 27, 28, 29, 30, 31, 32, 33, 34, 35, 36, 37, 38, 12, 39, 40, 41, 42, 43, 44, 45, 46, 47, 5, 48, 54, 55, 56, 57, 58, 59, 60, 61, 62, 63, 64, 65, 66, 67, 68] (by decide +kernel) (by decide +kernel)
set_option maxRecDepth 20000 in
theorem gX2_person_X1_aboutPerson : GoodIn wsX2_person (wsV RX2 139 RX1 yX1_aboutPerson wsX1_aboutPerson) := goodIn_app (goodIn_of _ (by decide +kernel)) ggX2_person_X1_aboutPerson
theorem dX2_person_0 : decode cX2_person 0 = .ok (.aload_n 0, 1) := by decide +kernel
theorem dX2_person_1 : decode cX2_person 1 = .ok (.iload_n 1, 1) := by decide +kernel
theorem dX2_person_2 : decode cX2_person 2 = .ok (.invokevirtual 68, 3) := by decide +kernel
theorem dX2_person_5 : decode cX2_person 5 = .ok (.iload_n 2, 1) := by decide +kernel
theorem dX2_person_6 : decode cX2_person 6 = .ok (.iconst 0, 1) := by decide +kernel
theorem dX2_person_7 : decode cX2_person 7 = .ok (.bipush 6, 2) := by decide +kernel
theorem dX2_person_9 : decode cX2_person 9 = .ok (.invokestatic 30, 3) := by decide +kernel
theorem dX2_person_12 : decode cX2_person 12 = .ok (.aload_n 0, 1) := by decide +kernel
theorem dX2_person_13 : decode cX2_person 13 = .ok (.getfield 12, 3) := by decide +kernel
theorem dX2_person_16 : decode cX2_person 16 = .ok (.iload_n 1, 1) := by decide +kernel
theorem dX2_person_17 : decode cX2_person 17 = .ok (.iload_n 2, 1) := by decide +kernel
theorem dX2_person_18 : decode cX2_person 18 = .ok (.invokevirtual 139, 3) := by decide +kernel
theorem dX2_person_21 : decode cX2_person 21 = .ok (.ireturn, 1) := by decide +kernel
set_option maxRecDepth 20000 in
theorem ggX2_work_X2_needPerson : GoodIn wsX2_work wsX2_needPerson := goodIn_ca (goodIn_r _ [6, 7, 8, 1, 9, 10, 11, 12, 13, 14, 23, 24, 25, 26, 27, 28, 29, 30, 31, 32, 33, 34, 35, 36, 37, 38, 39, 40, 41, 42] (by decide +kernel) (by decide +kernel)) (goodIn_sub (fun _ h => List.mem_cons_of_mem _ (List.mem_append_right _ h)) (by decide +kernel))
set_option maxRecDepth 20000 in
theorem gX2_work_X2_needPerson : GoodIn wsX2_work (wsV RX2 68 RX2 yX2_needPerson wsX2_needPerson) := goodIn_app (goodIn_of _ (by decide +kernel)) ggX2_work_X2_needPerson
set_option maxRecDepth 20000 in
theorem ggX2_work_X1_worked : GoodIn wsX2_work wsX1_worked := goodIn_r _ [18, 19, 20, 21, 22, 28, 29, 30, 31, 32, 33, 34, 35, 36, 37, 38, 39, 40, 41, 42] (by decide +kernel) (by decide +kernel)
set_option maxRecDepth 20000 in
theorem gX2_work_X1_worked : GoodIn wsX2_work (wsV RX2 142 RX1 yX1_worked wsX1_worked) := goodIn_app (goodIn_of _ (by decide +kernel)) ggX2_work_X1_worked
theorem dX2_work_0 : decode cX2_work 0 = .ok (.aload_n 0, 1) := by decide +kernel
theorem dX2_work_1 : decode cX2_work 1 = .ok (.iload_n 1, 1) := by decide +kernel
theorem dX2_work_2 : decode cX2_work 2 = .ok (.invokevirtual 68, 3) := by decide +kernel
theorem dX2_work_5 : decode cX2_work 5 = .ok (.aload_n 0, 1) := by decide +kernel
theorem dX2_work_6 : decode cX2_work 6 = .ok (.getfield 12, 3) := by decide +kernel
theorem dX2_work_9 : decode cX2_work 9 = .ok (.iload_n 1, 1) := by decide +kernel
theorem dX2_work_10 : decode cX2_work 10 = .ok (.invokevirtual 142, 3) := by decide +kernel
theorem dX2_work_13 : decode cX2_work 13 = .ok (.lreturn, 1) := by decide +kernel
set_option maxRecDepth 20000 in
theorem ggX2_absence_X2_needAbsence : GoodIn wsX2_absence wsX2_needAbsence := goodIn_ca (goodIn_r _ [6, 7, 8, 1, 9, 10, 11, 12, 13, 14, 62, 63, 64, 65, 66, 67, 68, 69, 70, 71, 72, 73, 74, 75, 76, 77, 78, 79, 80, 81] (by decide +kernel) (by decide +kernel)) (goodIn_sub (fun _ h => List.mem_cons_of_mem _ (List.mem_append_left _ (List.mem_append_right _ h))) (by decide +kernel))
set_option maxRecDepth 20000 in
theorem gX2_absence_X2_needAbsence : GoodIn wsX2_absence (wsV RX2 93 RX2 yX2_needAbsence wsX2_needAbsence) := goodIn_app (goodIn_of _ (by decide +kernel)) ggX2_absence_X2_needAbsence
set_option maxRecDepth 20000 in
theorem ggX2_absence_X2_needInRange : GoodIn wsX2_absence wsX2_needInRange := goodIn_ca (goodIn_r _ [17, 18, 19] (by decide +kernel) (by decide +kernel)) (goodIn_sub (fun _ h => List.mem_cons_of_mem _ (List.mem_append_right _ h)) (by decide +kernel))
set_option maxRecDepth 20000 in
theorem gX2_absence_X2_needInRange : GoodIn wsX2_absence (va_wsS RX2 30 yX2_needInRange wsX2_needInRange) := goodIn_app (goodIn_of _ (by decide +kernel)) ggX2_absence_X2_needInRange
set_option maxRecDepth 20000 in
theorem ggX2_absence_X1_aboutAbsence : GoodIn wsX2_absence wsX1_aboutAbsence := goodIn_r _ [23, 24, 25, 26, 27, 28, 29, 30, 31, 12, 32, 33, 34, 35, 5, 36, 37, 38, 39, 40, 41, 42, 43, 44, 45, 46, 47, 48, 49, 50, 51, 52, 53, 54, 55, 56, 57, 58, 59, 60, 61, 67, 68, 69, 70, 71, 72, 73, 74, 75, 76, 77, 78, 79, 80, 81] (by decide +kernel) (by decide +kernel)
set_option maxRecDepth 20000 in
theorem gX2_absence_X1_aboutAbsence : GoodIn wsX2_absence (wsV RX2 146 RX1 yX1_aboutAbsence wsX1_aboutAbsence) := goodIn_app (goodIn_of _ (by decide +kernel)) ggX2_absence_X1_aboutAbsence
theorem dX2_absence_0 : decode cX2_absence 0 = .ok (.aload_n 0, 1) := by decide +kernel
theorem dX2_absence_1 : decode cX2_absence 1 = .ok (.iload_n 1, 1) := by decide +kernel
theorem dX2_absence_2 : decode cX2_absence 2 = .ok (.invokevirtual 93, 3) := by decide +kernel
theorem dX2_absence_5 : decode cX2_absence 5 = .ok (.iload_n 2, 1) := by decide +kernel
theorem dX2_absence_6 : decode cX2_absence 6 = .ok (.iconst 0, 1) := by decide +kernel
theorem dX2_absence_7 : decode cX2_absence 7 = .ok (.bipush 6, 2) := by decide +kernel
theorem dX2_absence_9 : decode cX2_absence 9 = .ok (.invokestatic 30, 3) := by decide +kernel
theorem dX2_absence_12 : decode cX2_absence 12 = .ok (.aload_n 0, 1) := by decide +kernel
theorem dX2_absence_13 : decode cX2_absence 13 = .ok (.getfield 12, 3) := by decide +kernel
theorem dX2_absence_16 : decode cX2_absence 16 = .ok (.iload_n 1, 1) := by decide +kernel
theorem dX2_absence_17 : decode cX2_absence 17 = .ok (.iload_n 2, 1) := by decide +kernel
theorem dX2_absence_18 : decode cX2_absence 18 = .ok (.invokevirtual 146, 3) := by decide +kernel
theorem dX2_absence_21 : decode cX2_absence 21 = .ok (.ireturn, 1) := by decide +kernel
set_option maxRecDepth 20000 in
theorem ggX2_bidOf_X2_needPerson : GoodIn wsX2_bidOf wsX2_needPerson := goodIn_ca (goodIn_r _ [7, 8, 9, 1, 10, 11, 12, 13, 14, 15, 28, 29, 30, 31, 32, 33, 34, 35, 36, 37, 38, 39, 40, 41, 42, 43, 44, 45, 46, 47] (by decide +kernel) (by decide +kernel)) (goodIn_sub (fun _ h => List.mem_cons_of_mem _ (List.mem_append_right _ h)) (by decide +kernel))
set_option maxRecDepth 20000 in
theorem gX2_bidOf_X2_needPerson : GoodIn wsX2_bidOf (wsV RX2 68 RX2 yX2_needPerson wsX2_needPerson) := goodIn_app (goodIn_of _ (by decide +kernel)) ggX2_bidOf_X2_needPerson
set_option maxRecDepth 20000 in
theorem ggX2_bidOf_X2_needAbsence : GoodIn wsX2_bidOf wsX2_needAbsence := goodIn_ca (goodIn_r _ [19, 8, 9, 1, 20, 21, 22, 13, 23, 24, 28, 29, 30, 31, 32, 33, 34, 35, 36, 37, 38, 39, 40, 41, 42, 43, 44, 45, 46, 47] (by decide +kernel) (by decide +kernel)) (goodIn_sub (fun _ h => List.mem_cons_of_mem _ (List.mem_append_right _ h)) (by decide +kernel))
set_option maxRecDepth 20000 in
theorem gX2_bidOf_X2_needAbsence : GoodIn wsX2_bidOf (wsV RX2 93 RX2 yX2_needAbsence wsX2_needAbsence) := goodIn_app (goodIn_of _ (by decide +kernel)) ggX2_bidOf_X2_needAbsence
set_option maxRecDepth 20000 in
theorem ggX2_bidOf_X2_bidIndex : GoodIn wsX2_bidOf wsX2_bidIndex := goodIn_r _ [27] (by decide +kernel) (by decide +kernel)
set_option maxRecDepth 20000 in
theorem gX2_bidOf_X2_bidIndex : GoodIn wsX2_bidOf (va_wsS RX2 102 yX2_bidIndex wsX2_bidIndex) := goodIn_app (goodIn_of _ (by decide +kernel)) ggX2_bidOf_X2_bidIndex
theorem dX2_bidOf_0 : decode cX2_bidOf 0 = .ok (.aload_n 0, 1) := by decide +kernel
theorem dX2_bidOf_1 : decode cX2_bidOf 1 = .ok (.iload_n 1, 1) := by decide +kernel
theorem dX2_bidOf_2 : decode cX2_bidOf 2 = .ok (.invokevirtual 68, 3) := by decide +kernel
theorem dX2_bidOf_5 : decode cX2_bidOf 5 = .ok (.aload_n 0, 1) := by decide +kernel
theorem dX2_bidOf_6 : decode cX2_bidOf 6 = .ok (.iload_n 2, 1) := by decide +kernel
theorem dX2_bidOf_7 : decode cX2_bidOf 7 = .ok (.invokevirtual 93, 3) := by decide +kernel
theorem dX2_bidOf_10 : decode cX2_bidOf 10 = .ok (.aload_n 0, 1) := by decide +kernel
theorem dX2_bidOf_11 : decode cX2_bidOf 11 = .ok (.getfield 12, 3) := by decide +kernel
theorem dX2_bidOf_14 : decode cX2_bidOf 14 = .ok (.getfield 99, 3) := by decide +kernel
theorem dX2_bidOf_17 : decode cX2_bidOf 17 = .ok (.iload_n 1, 1) := by decide +kernel
theorem dX2_bidOf_18 : decode cX2_bidOf 18 = .ok (.iload_n 2, 1) := by decide +kernel
theorem dX2_bidOf_19 : decode cX2_bidOf 19 = .ok (.invokestatic 102, 3) := by decide +kernel
theorem dX2_bidOf_22 : decode cX2_bidOf 22 = .ok (.iaload, 1) := by decide +kernel
theorem dX2_bidOf_23 : decode cX2_bidOf 23 = .ok (.ireturn, 1) := by decide +kernel
set_option maxRecDepth 20000 in
theorem ggX2_value_X2_needInRange : GoodIn wsX2_value wsX2_needInRange := goodIn_ca (goodIn_r _ [5, 6, 7] (by decide +kernel) (by decide +kernel)) (goodIn_sub (fun _ h => List.mem_cons_of_mem _ (List.mem_append_right _ h)) (by decide +kernel))
set_option maxRecDepth 20000 in
theorem gX2_value_X2_needInRange : GoodIn wsX2_value (va_wsS RX2 30 yX2_needInRange wsX2_needInRange) := goodIn_app (goodIn_of _ (by decide +kernel)) ggX2_value_X2_needInRange
set_option maxRecDepth 20000 in
theorem ggX2_value_X1_aboutAll : GoodIn wsX2_value wsX1_aboutAll := goodIn_r _ [12, 13, 14, 15, 16, 17, 18, 11, 19, 20, 21, 22, 23, 24, 25, 26, 27, 28, 29, 30, 31, 32, 33, 34, 35, 36, 37, 38, 39, 40, 41, 42, 43, 44, 45, 46, 4, 47, 48, 49, 50, 51, 52, 58, 59, 60, 61, 62, 63, 64, 65, 66, 67, 68, 69, 70, 71, 72] (by decide +kernel) (by decide +kernel)
set_option maxRecDepth 20000 in
theorem gX2_value_X1_aboutAll : GoodIn wsX2_value (wsV RX2 149 RX1 yX1_aboutAll wsX1_aboutAll) := goodIn_app (goodIn_of _ (by decide +kernel)) ggX2_value_X1_aboutAll
theorem dX2_value_0 : decode cX2_value 0 = .ok (.iload_n 1, 1) := by decide +kernel
theorem dX2_value_1 : decode cX2_value 1 = .ok (.iconst 0, 1) := by decide +kernel
theorem dX2_value_2 : decode cX2_value 2 = .ok (.bipush 10, 2) := by decide +kernel
theorem dX2_value_4 : decode cX2_value 4 = .ok (.invokestatic 30, 3) := by decide +kernel
theorem dX2_value_7 : decode cX2_value 7 = .ok (.aload_n 0, 1) := by decide +kernel
theorem dX2_value_8 : decode cX2_value 8 = .ok (.getfield 12, 3) := by decide +kernel
theorem dX2_value_11 : decode cX2_value 11 = .ok (.iload_n 1, 1) := by decide +kernel
theorem dX2_value_12 : decode cX2_value 12 = .ok (.invokevirtual 149, 3) := by decide +kernel
theorem dX2_value_15 : decode cX2_value 15 = .ok (.ireturn, 1) := by decide +kernel
set_option maxRecDepth 20000 in
theorem ggX2_setting_X2_needInRange : GoodIn wsX2_setting wsX2_needInRange := goodIn_ca (goodIn_r _ [6, 7, 8] (by decide +kernel) (by decide +kernel)) (goodIn_sub (fun _ h => List.mem_cons_of_mem _ (List.mem_append_right _ h)) (by decide +kernel))
set_option maxRecDepth 20000 in
theorem gX2_setting_X2_needInRange : GoodIn wsX2_setting (va_wsS RX2 30 yX2_needInRange wsX2_needInRange) := goodIn_app (goodIn_of _ (by decide +kernel)) ggX2_setting_X2_needInRange
theorem dX2_setting_0 : decode cX2_setting 0 = .ok (.iload_n 1, 1) := by decide +kernel
theorem dX2_setting_1 : decode cX2_setting 1 = .ok (.iconst 0, 1) := by decide +kernel
theorem dX2_setting_2 : decode cX2_setting 2 = .ok (.iconst 2, 1) := by decide +kernel
theorem dX2_setting_3 : decode cX2_setting 3 = .ok (.invokestatic 30, 3) := by decide +kernel
theorem dX2_setting_6 : decode cX2_setting 6 = .ok (.aload_n 0, 1) := by decide +kernel
theorem dX2_setting_7 : decode cX2_setting 7 = .ok (.getfield 12, 3) := by decide +kernel
theorem dX2_setting_10 : decode cX2_setting 10 = .ok (.getfield 44, 3) := by decide +kernel
theorem dX2_setting_13 : decode cX2_setting 13 = .ok (.iload_n 1, 1) := by decide +kernel
theorem dX2_setting_14 : decode cX2_setting 14 = .ok (.iaload, 1) := by decide +kernel
theorem dX2_setting_15 : decode cX2_setting 15 = .ok (.ireturn, 1) := by decide +kernel
set_option maxRecDepth 20000 in
theorem ggX2_undo_X2_needAllowed : GoodIn wsX2_undo wsX2_needAllowed := goodIn_ca (goodIn_r _ [7, 8, 9] (by decide +kernel) (by decide +kernel)) (goodIn_sub (fun _ h => List.mem_cons_of_mem _ (List.mem_append_right _ h)) (by decide +kernel))
set_option maxRecDepth 20000 in
theorem gX2_undo_X2_needAllowed : GoodIn wsX2_undo (va_wsS RX2 60 yX2_needAllowed wsX2_needAllowed) := goodIn_app (goodIn_of _ (by decide +kernel)) ggX2_undo_X2_needAllowed
set_option maxRecDepth 20000 in
theorem ggX2_undo_X1_copyFrom : GoodIn wsX2_undo wsX1_copyFrom := goodIn_r _ [14, 15, 16, 17, 18, 19, 20, 21, 22, 23, 24, 25, 26, 27, 28, 29, 30, 31, 32, 33, 39, 40, 41, 42, 43, 44, 45, 46, 47, 48, 49, 50, 51, 52, 53] (by decide +kernel) (by decide +kernel)
set_option maxRecDepth 20000 in
theorem gX2_undo_X1_copyFrom : GoodIn wsX2_undo (wsV RX2 152 RX1 yX1_copyFrom wsX1_copyFrom) := goodIn_app (goodIn_of _ (by decide +kernel)) ggX2_undo_X1_copyFrom
theorem dX2_undo_0 : decode cX2_undo 0 = .ok (.aload_n 0, 1) := by decide +kernel
theorem dX2_undo_1 : decode cX2_undo 1 = .ok (.getfield 196, 3) := by decide +kernel
theorem dX2_undo_4 : decode cX2_undo 4 = .ok (.ifCond .le 7, 3) := by decide +kernel
theorem dX2_undo_7 : decode cX2_undo 7 = .ok (.iconst 1, 1) := by decide +kernel
theorem dX2_undo_8 : decode cX2_undo 8 = .ok (.goto 4, 3) := by decide +kernel
theorem dX2_undo_11 : decode cX2_undo 11 = .ok (.iconst 0, 1) := by decide +kernel
theorem dX2_undo_12 : decode cX2_undo 12 = .ok (.invokestatic 60, 3) := by decide +kernel
theorem dX2_undo_15 : decode cX2_undo 15 = .ok (.aload_n 0, 1) := by decide +kernel
theorem dX2_undo_16 : decode cX2_undo 16 = .ok (.dup, 1) := by decide +kernel
theorem dX2_undo_17 : decode cX2_undo 17 = .ok (.getfield 196, 3) := by decide +kernel
theorem dX2_undo_20 : decode cX2_undo 20 = .ok (.iconst 1, 1) := by decide +kernel
theorem dX2_undo_21 : decode cX2_undo 21 = .ok (.isub, 1) := by decide +kernel
theorem dX2_undo_22 : decode cX2_undo 22 = .ok (.putfield 196, 3) := by decide +kernel
theorem dX2_undo_25 : decode cX2_undo 25 = .ok (.aload_n 0, 1) := by decide +kernel
theorem dX2_undo_26 : decode cX2_undo 26 = .ok (.getfield 12, 3) := by decide +kernel
theorem dX2_undo_29 : decode cX2_undo 29 = .ok (.aload_n 0, 1) := by decide +kernel
theorem dX2_undo_30 : decode cX2_undo 30 = .ok (.getfield 19, 3) := by decide +kernel
theorem dX2_undo_33 : decode cX2_undo 33 = .ok (.aload_n 0, 1) := by decide +kernel
theorem dX2_undo_34 : decode cX2_undo 34 = .ok (.getfield 196, 3) := by decide +kernel
theorem dX2_undo_37 : decode cX2_undo 37 = .ok (.aaload, 1) := by decide +kernel
theorem dX2_undo_38 : decode cX2_undo 38 = .ok (.invokevirtual 152, 3) := by decide +kernel
theorem dX2_undo_41 : decode cX2_undo 41 = .ok (.aload_n 0, 1) := by decide +kernel
theorem dX2_undo_42 : decode cX2_undo 42 = .ok (.getfield 196, 3) := by decide +kernel
theorem dX2_undo_45 : decode cX2_undo 45 = .ok (.ireturn, 1) := by decide +kernel
set_option maxRecDepth 20000 in
theorem ggX2_digest_X1_aboutAll : GoodIn wsX2_digest wsX1_aboutAll := goodIn_r _ [14, 15, 16, 17, 18, 19, 20, 13, 21, 22, 23, 24, 25, 26, 27, 28, 29, 30, 31, 32, 33, 34, 35, 36, 37, 38, 39, 40, 41, 42, 43, 44, 45, 46, 47, 48, 49, 50, 51, 52, 53, 54, 55, 128, 129, 130, 131, 132, 133, 134, 135, 136, 137, 138, 139, 140, 141, 142] (by decide +kernel) (by decide +kernel)
set_option maxRecDepth 20000 in
theorem gX2_digest_X1_aboutAll : GoodIn wsX2_digest (wsV RX2 149 RX1 yX1_aboutAll wsX1_aboutAll) := goodIn_app (goodIn_of _ (by decide +kernel)) ggX2_digest_X1_aboutAll
set_option maxRecDepth 20000 in
theorem ggX2_digest_X2_digestPerson : GoodIn wsX2_digest wsX2_digestPerson := goodIn_r _ [59, 4, 5, 60, 61, 62, 13, 63, 64, 65, 66, 27, 67, 68, 69, 70, 71, 72, 73, 74, 75, 76, 77, 78, 79, 80, 81, 82, 83, 16, 47, 48, 49, 50, 84, 115, 116, 117, 118, 119, 128, 129, 130, 131, 132, 133, 134, 135, 136, 137, 138, 139, 140, 141, 142] (by decide +kernel) (by decide +kernel)
set_option maxRecDepth 20000 in
theorem gX2_digest_X2_digestPerson : GoodIn wsX2_digest (wsV RX2 203 RX2 yX2_digestPerson wsX2_digestPerson) := goodIn_app (goodIn_of _ (by decide +kernel)) ggX2_digest_X2_digestPerson
set_option maxRecDepth 20000 in
theorem ggX2_digest_X2_digestAbsence : GoodIn wsX2_digest wsX2_digestAbsence := goodIn_r _ [88, 4, 5, 7, 89, 90, 91, 92, 13, 93, 94, 95, 22, 96, 55, 43, 44, 45, 46, 15, 47, 48, 49, 50, 97, 98, 99, 100, 101, 102, 103, 104, 65, 75, 76, 77, 78, 64, 79, 66, 105, 106, 107, 108, 109, 110, 111, 112, 113, 114, 115, 116, 117, 118, 119, 128, 129, 130, 131, 132, 133, 134, 135, 136, 137, 138, 139, 140, 141, 142] (by decide +kernel) (by decide +kernel)
set_option maxRecDepth 20000 in
theorem gX2_digest_X2_digestAbsence : GoodIn wsX2_digest (wsV RX2 210 RX2 yX2_digestAbsence wsX2_digestAbsence) := goodIn_app (goodIn_of _ (by decide +kernel)) ggX2_digest_X2_digestAbsence
theorem dX2_digest_0 : decode cX2_digest 0 = .ok (.ldc2_w 199, 3) := by decide +kernel
theorem dX2_digest_3 : decode cX2_digest 3 = .ok (.aload_n 0, 1) := by decide +kernel
theorem dX2_digest_4 : decode cX2_digest 4 = .ok (.getfield 26, 3) := by decide +kernel
theorem dX2_digest_7 : decode cX2_digest 7 = .ok (.getfield 174, 3) := by decide +kernel
theorem dX2_digest_10 : decode cX2_digest 10 = .ok (.i2l, 1) := by decide +kernel
theorem dX2_digest_11 : decode cX2_digest 11 = .ok (.ladd, 1) := by decide +kernel
theorem dX2_digest_12 : decode cX2_digest 12 = .ok (.lstore_n 1, 1) := by decide +kernel
theorem dX2_digest_13 : decode cX2_digest 13 = .ok (.iconst 0, 1) := by decide +kernel
theorem dX2_digest_14 : decode cX2_digest 14 = .ok (.istore_n 3, 1) := by decide +kernel
theorem dX2_digest_15 : decode cX2_digest 15 = .ok (.iload_n 3, 1) := by decide +kernel
theorem dX2_digest_16 : decode cX2_digest 16 = .ok (.bipush 11, 2) := by decide +kernel
theorem dX2_digest_18 : decode cX2_digest 18 = .ok (.if_icmp .ge 25, 3) := by decide +kernel
theorem dX2_digest_21 : decode cX2_digest 21 = .ok (.ldc2_w 201, 3) := by decide +kernel
theorem dX2_digest_24 : decode cX2_digest 24 = .ok (.lload_n 1, 1) := by decide +kernel
theorem dX2_digest_25 : decode cX2_digest 25 = .ok (.lmul, 1) := by decide +kernel
theorem dX2_digest_26 : decode cX2_digest 26 = .ok (.aload_n 0, 1) := by decide +kernel
theorem dX2_digest_27 : decode cX2_digest 27 = .ok (.getfield 12, 3) := by decide +kernel
theorem dX2_digest_30 : decode cX2_digest 30 = .ok (.iload_n 3, 1) := by decide +kernel
theorem dX2_digest_31 : decode cX2_digest 31 = .ok (.invokevirtual 149, 3) := by decide +kernel
theorem dX2_digest_34 : decode cX2_digest 34 = .ok (.i2l, 1) := by decide +kernel
theorem dX2_digest_35 : decode cX2_digest 35 = .ok (.ladd, 1) := by decide +kernel
theorem dX2_digest_36 : decode cX2_digest 36 = .ok (.lstore_n 1, 1) := by decide +kernel
theorem dX2_digest_37 : decode cX2_digest 37 = .ok (.iinc 3 1, 3) := by decide +kernel
theorem dX2_digest_40 : decode cX2_digest 40 = .ok (.goto (-25), 3) := by decide +kernel
theorem dX2_digest_43 : decode cX2_digest 43 = .ok (.iconst 0, 1) := by decide +kernel
theorem dX2_digest_44 : decode cX2_digest 44 = .ok (.istore_n 3, 1) := by decide +kernel
theorem dX2_digest_45 : decode cX2_digest 45 = .ok (.iload_n 3, 1) := by decide +kernel
theorem dX2_digest_46 : decode cX2_digest 46 = .ok (.iconst 3, 1) := by decide +kernel
theorem dX2_digest_47 : decode cX2_digest 47 = .ok (.if_icmp .ge 26, 3) := by decide +kernel
theorem dX2_digest_50 : decode cX2_digest 50 = .ok (.ldc2_w 201, 3) := by decide +kernel
theorem dX2_digest_53 : decode cX2_digest 53 = .ok (.lload_n 1, 1) := by decide +kernel
theorem dX2_digest_54 : decode cX2_digest 54 = .ok (.lmul, 1) := by decide +kernel
theorem dX2_digest_55 : decode cX2_digest 55 = .ok (.aload_n 0, 1) := by decide +kernel
theorem dX2_digest_56 : decode cX2_digest 56 = .ok (.getfield 12, 3) := by decide +kernel
theorem dX2_digest_59 : decode cX2_digest 59 = .ok (.getfield 44, 3) := by decide +kernel
theorem dX2_digest_62 : decode cX2_digest 62 = .ok (.iload_n 3, 1) := by decide +kernel
theorem dX2_digest_63 : decode cX2_digest 63 = .ok (.iaload, 1) := by decide +kernel
theorem dX2_digest_64 : decode cX2_digest 64 = .ok (.i2l, 1) := by decide +kernel
theorem dX2_digest_65 : decode cX2_digest 65 = .ok (.ladd, 1) := by decide +kernel
theorem dX2_digest_66 : decode cX2_digest 66 = .ok (.lstore_n 1, 1) := by decide +kernel
theorem dX2_digest_67 : decode cX2_digest 67 = .ok (.iinc 3 1, 3) := by decide +kernel
theorem dX2_digest_70 : decode cX2_digest 70 = .ok (.goto (-25), 3) := by decide +kernel
theorem dX2_digest_73 : decode cX2_digest 73 = .ok (.iconst 0, 1) := by decide +kernel
theorem dX2_digest_74 : decode cX2_digest 74 = .ok (.istore_n 3, 1) := by decide +kernel
theorem dX2_digest_75 : decode cX2_digest 75 = .ok (.iload_n 3, 1) := by decide +kernel
theorem dX2_digest_76 : decode cX2_digest 76 = .ok (.aload_n 0, 1) := by decide +kernel
theorem dX2_digest_77 : decode cX2_digest 77 = .ok (.getfield 12, 3) := by decide +kernel
theorem dX2_digest_80 : decode cX2_digest 80 = .ok (.getfield 56, 3) := by decide +kernel
theorem dX2_digest_83 : decode cX2_digest 83 = .ok (.if_icmp .ge 16, 3) := by decide +kernel
theorem dX2_digest_86 : decode cX2_digest 86 = .ok (.aload_n 0, 1) := by decide +kernel
theorem dX2_digest_87 : decode cX2_digest 87 = .ok (.lload_n 1, 1) := by decide +kernel
theorem dX2_digest_88 : decode cX2_digest 88 = .ok (.iload_n 3, 1) := by decide +kernel
theorem dX2_digest_89 : decode cX2_digest 89 = .ok (.invokevirtual 203, 3) := by decide +kernel
theorem dX2_digest_92 : decode cX2_digest 92 = .ok (.lstore_n 1, 1) := by decide +kernel
theorem dX2_digest_93 : decode cX2_digest 93 = .ok (.iinc 3 1, 3) := by decide +kernel
theorem dX2_digest_96 : decode cX2_digest 96 = .ok (.goto (-21), 3) := by decide +kernel
theorem dX2_digest_99 : decode cX2_digest 99 = .ok (.iconst 0, 1) := by decide +kernel
theorem dX2_digest_100 : decode cX2_digest 100 = .ok (.istore_n 3, 1) := by decide +kernel
theorem dX2_digest_101 : decode cX2_digest 101 = .ok (.iload_n 3, 1) := by decide +kernel
theorem dX2_digest_102 : decode cX2_digest 102 = .ok (.aload_n 0, 1) := by decide +kernel
theorem dX2_digest_103 : decode cX2_digest 103 = .ok (.getfield 12, 3) := by decide +kernel
theorem dX2_digest_106 : decode cX2_digest 106 = .ok (.getfield 207, 3) := by decide +kernel
theorem dX2_digest_109 : decode cX2_digest 109 = .ok (.if_icmp .ge 16, 3) := by decide +kernel
theorem dX2_digest_112 : decode cX2_digest 112 = .ok (.aload_n 0, 1) := by decide +kernel
theorem dX2_digest_113 : decode cX2_digest 113 = .ok (.lload_n 1, 1) := by decide +kernel
theorem dX2_digest_114 : decode cX2_digest 114 = .ok (.iload_n 3, 1) := by decide +kernel
theorem dX2_digest_115 : decode cX2_digest 115 = .ok (.invokevirtual 210, 3) := by decide +kernel
theorem dX2_digest_118 : decode cX2_digest 118 = .ok (.lstore_n 1, 1) := by decide +kernel
theorem dX2_digest_119 : decode cX2_digest 119 = .ok (.iinc 3 1, 3) := by decide +kernel
theorem dX2_digest_122 : decode cX2_digest 122 = .ok (.goto (-21), 3) := by decide +kernel
theorem dX2_digest_125 : decode cX2_digest 125 = .ok (.ldc2_w 201, 3) := by decide +kernel
theorem dX2_digest_128 : decode cX2_digest 128 = .ok (.lload_n 1, 1) := by decide +kernel
theorem dX2_digest_129 : decode cX2_digest 129 = .ok (.lmul, 1) := by decide +kernel
theorem dX2_digest_130 : decode cX2_digest 130 = .ok (.aload_n 0, 1) := by decide +kernel
theorem dX2_digest_131 : decode cX2_digest 131 = .ok (.getfield 196, 3) := by decide +kernel
theorem dX2_digest_134 : decode cX2_digest 134 = .ok (.i2l, 1) := by decide +kernel
theorem dX2_digest_135 : decode cX2_digest 135 = .ok (.ladd, 1) := by decide +kernel
theorem dX2_digest_136 : decode cX2_digest 136 = .ok (.lreturn, 1) := by decide +kernel
set_option maxRecDepth 20000 in
theorem ggX2_digestPerson_X1_aboutPerson : GoodIn wsX2_digestPerson wsX1_aboutPerson := goodIn_r _ [7, 8, 9, 10, 11, 12, 13, 14, 15, 16, 17, 18, 19, 20, 21, 22, 6, 23, 24, 25, 26, 27, 28, 29, 30, 31, 32, 33, 40, 41, 42, 43, 44, 45, 46, 47, 48, 49, 50, 51, 52, 53, 54] (by decide +kernel) (by decide +kernel)
set_option maxRecDepth 20000 in
theorem gX2_digestPerson_X1_aboutPerson : GoodIn wsX2_digestPerson (wsV RX2 139 RX1 yX1_aboutPerson wsX1_aboutPerson) := goodIn_app (goodIn_of _ (by decide +kernel)) ggX2_digestPerson_X1_aboutPerson
set_option maxRecDepth 20000 in
theorem ggX2_digestPerson_X1_worked : GoodIn wsX2_digestPerson wsX1_worked := goodIn_r _ [23, 8, 9, 24, 10, 40, 41, 42, 43, 44, 45, 46, 47, 48, 49, 50, 51, 52, 53, 54] (by decide +kernel) (by decide +kernel)
set_option maxRecDepth 20000 in
theorem gX2_digestPerson_X1_worked : GoodIn wsX2_digestPerson (wsV RX2 142 RX1 yX1_worked wsX1_worked) := goodIn_app (goodIn_of _ (by decide +kernel)) ggX2_digestPerson_X1_worked
theorem dX2_digestPerson_0 : decode cX2_digestPerson 0 = .ok (.lload_n 1, 1) := by decide +kernel
theorem dX2_digestPerson_1 : decode cX2_digestPerson 1 = .ok (.lstore 4, 2) := by decide +kernel
theorem dX2_digestPerson_3 : decode cX2_digestPerson 3 = .ok (.iconst 0, 1) := by decide +kernel
theorem dX2_digestPerson_4 : decode cX2_digestPerson 4 = .ok (.istore 6, 2) := by decide +kernel
theorem dX2_digestPerson_6 : decode cX2_digestPerson 6 = .ok (.iload 6, 2) := by decide +kernel
theorem dX2_digestPerson_8 : decode cX2_digestPerson 8 = .ok (.bipush 7, 2) := by decide +kernel
theorem dX2_digestPerson_10 : decode cX2_digestPerson 10 = .ok (.if_icmp .ge 29, 3) := by decide +kernel
theorem dX2_digestPerson_13 : decode cX2_digestPerson 13 = .ok (.ldc2_w 201, 3) := by decide +kernel
theorem dX2_digestPerson_16 : decode cX2_digestPerson 16 = .ok (.lload 4, 2) := by decide +kernel
theorem dX2_digestPerson_18 : decode cX2_digestPerson 18 = .ok (.lmul, 1) := by decide +kernel
theorem dX2_digestPerson_19 : decode cX2_digestPerson 19 = .ok (.aload_n 0, 1) := by decide +kernel
theorem dX2_digestPerson_20 : decode cX2_digestPerson 20 = .ok (.getfield 12, 3) := by decide +kernel
theorem dX2_digestPerson_23 : decode cX2_digestPerson 23 = .ok (.iload_n 3, 1) := by decide +kernel
theorem dX2_digestPerson_24 : decode cX2_digestPerson 24 = .ok (.iload 6, 2) := by decide +kernel
theorem dX2_digestPerson_26 : decode cX2_digestPerson 26 = .ok (.invokevirtual 139, 3) := by decide +kernel
theorem dX2_digestPerson_29 : decode cX2_digestPerson 29 = .ok (.i2l, 1) := by decide +kernel
theorem dX2_digestPerson_30 : decode cX2_digestPerson 30 = .ok (.ladd, 1) := by decide +kernel
theorem dX2_digestPerson_31 : decode cX2_digestPerson 31 = .ok (.lstore 4, 2) := by decide +kernel
theorem dX2_digestPerson_33 : decode cX2_digestPerson 33 = .ok (.iinc 6 1, 3) := by decide +kernel
theorem dX2_digestPerson_36 : decode cX2_digestPerson 36 = .ok (.goto (-30), 3) := by decide +kernel
theorem dX2_digestPerson_39 : decode cX2_digestPerson 39 = .ok (.ldc2_w 201, 3) := by decide +kernel
theorem dX2_digestPerson_42 : decode cX2_digestPerson 42 = .ok (.lload 4, 2) := by decide +kernel
theorem dX2_digestPerson_44 : decode cX2_digestPerson 44 = .ok (.lmul, 1) := by decide +kernel
theorem dX2_digestPerson_45 : decode cX2_digestPerson 45 = .ok (.aload_n 0, 1) := by decide +kernel
theorem dX2_digestPerson_46 : decode cX2_digestPerson 46 = .ok (.getfield 12, 3) := by decide +kernel
theorem dX2_digestPerson_49 : decode cX2_digestPerson 49 = .ok (.iload_n 3, 1) := by decide +kernel
theorem dX2_digestPerson_50 : decode cX2_digestPerson 50 = .ok (.invokevirtual 142, 3) := by decide +kernel
theorem dX2_digestPerson_53 : decode cX2_digestPerson 53 = .ok (.ladd, 1) := by decide +kernel
theorem dX2_digestPerson_54 : decode cX2_digestPerson 54 = .ok (.lreturn, 1) := by decide +kernel
set_option maxRecDepth 20000 in
theorem ggX2_digestAbsence_X1_aboutAbsence : GoodIn wsX2_digestAbsence wsX1_aboutAbsence := goodIn_r _ [9, 10, 11, 12, 13, 14, 15, 16, 17, 8, 18, 19, 20, 21, 22, 23, 24, 25, 26, 27, 28, 29, 30, 31, 32, 33, 34, 35, 36, 37, 38, 39, 40, 41, 42, 43, 44, 45, 46, 47, 48, 55, 56, 57, 58, 59, 60, 61, 62, 63, 64, 65, 66, 67, 68, 69] (by decide +kernel) (by decide +kernel)
