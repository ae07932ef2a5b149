theorem dX0_read_170 : decode cX0_read 170 = .ok (.goto 24, 3) := by decide +kernel
theorem dX0_read_173 : decode cX0_read 173 = .ok (.aload_n 0, 1) := by decide +kernel
theorem dX0_read_174 : decode cX0_read 174 = .ok (.dup, 1) := by decide +kernel
theorem dX0_read_175 : decode cX0_read 175 = .ok (.getfield 15, 3) := by decide +kernel
theorem dX0_read_178 : decode cX0_read 178 = .ok (.iconst 1, 1) := by decide +kernel
theorem dX0_read_179 : decode cX0_read 179 = .ok (.iadd, 1) := by decide +kernel
theorem dX0_read_180 : decode cX0_read 180 = .ok (.putfield 15, 3) := by decide +kernel
theorem dX0_read_183 : decode cX0_read 183 = .ok (.goto 11, 3) := by decide +kernel
theorem dX0_read_186 : decode cX0_read 186 = .ok (.aload_n 0, 1) := by decide +kernel
theorem dX0_read_187 : decode cX0_read 187 = .ok (.aload_n 0, 1) := by decide +kernel
theorem dX0_read_188 : decode cX0_read 188 = .ok (.getfield 15, 3) := by decide +kernel
theorem dX0_read_191 : decode cX0_read 191 = .ok (.invokevirtual 62, 3) := by decide +kernel
theorem dX0_read_194 : decode cX0_read 194 = .ok (.aload_n 0, 1) := by decide +kernel
theorem dX0_read_195 : decode cX0_read 195 = .ok (.bipush 59, 2) := by decide +kernel
theorem dX0_read_197 : decode cX0_read 197 = .ok (.invokevirtual 49, 3) := by decide +kernel
theorem dX0_read_200 : decode cX0_read 200 = .ok (.return_, 1) := by decide +kernel
set_option maxRecDepth 20000 in
theorem ggX0_readPerson_X0_signAt : GoodIn wsX0_readPerson wsX0_signAt := goodIn_r _ [6, 7, 8, 14, 15, 16, 17, 18, 19, 20, 21] (by decide +kernel) (by decide +kernel)
set_option maxRecDepth 20000 in
theorem gX0_readPerson_X0_signAt : GoodIn wsX0_readPerson (wsV RX0 35 RX0 yX0_signAt wsX0_signAt) := goodIn_app (goodIn_of _ (by decide +kernel)) ggX0_readPerson_X0_signAt
set_option maxRecDepth 20000 in
theorem ggX0_readPerson_X0_fail : GoodIn wsX0_readPerson wsX0_fail := goodIn_r _ [12, 13, 14, 15, 16, 17, 18, 19, 20, 21] (by decide +kernel) (by decide +kernel)
set_option maxRecDepth 20000 in
theorem gX0_readPerson_X0_fail : GoodIn wsX0_readPerson (wsV RX0 62 RX0 yX0_fail wsX0_fail) := goodIn_app (goodIn_of _ (by decide +kernel)) ggX0_readPerson_X0_fail
theorem dX0_readPerson_0 : decode cX0_readPerson 0 = .ok (.aload_n 0, 1) := by decide +kernel
theorem dX0_readPerson_1 : decode cX0_readPerson 1 = .ok (.aload_n 0, 1) := by decide +kernel
theorem dX0_readPerson_2 : decode cX0_readPerson 2 = .ok (.getfield 15, 3) := by decide +kernel
theorem dX0_readPerson_5 : decode cX0_readPerson 5 = .ok (.invokevirtual 35, 3) := by decide +kernel
theorem dX0_readPerson_8 : decode cX0_readPerson 8 = .ok (.bipush 48, 2) := by decide +kernel
theorem dX0_readPerson_10 : decode cX0_readPerson 10 = .ok (.isub, 1) := by decide +kernel
theorem dX0_readPerson_11 : decode cX0_readPerson 11 = .ok (.istore_n 1, 1) := by decide +kernel
theorem dX0_readPerson_12 : decode cX0_readPerson 12 = .ok (.iload_n 1, 1) := by decide +kernel
theorem dX0_readPerson_13 : decode cX0_readPerson 13 = .ok (.ifCond .lt 9, 3) := by decide +kernel
theorem dX0_readPerson_16 : decode cX0_readPerson 16 = .ok (.iload_n 1, 1) := by decide +kernel
theorem dX0_readPerson_17 : decode cX0_readPerson 17 = .ok (.bipush 8, 2) := by decide +kernel
theorem dX0_readPerson_19 : decode cX0_readPerson 19 = .ok (.if_icmp .lt 13, 3) := by decide +kernel
theorem dX0_readPerson_22 : decode cX0_readPerson 22 = .ok (.aload_n 0, 1) := by decide +kernel
theorem dX0_readPerson_23 : decode cX0_readPerson 23 = .ok (.aload_n 0, 1) := by decide +kernel
theorem dX0_readPerson_24 : decode cX0_readPerson 24 = .ok (.getfield 15, 3) := by decide +kernel
theorem dX0_readPerson_27 : decode cX0_readPerson 27 = .ok (.invokevirtual 62, 3) := by decide +kernel
theorem dX0_readPerson_30 : decode cX0_readPerson 30 = .ok (.iconst 0, 1) := by decide +kernel
theorem dX0_readPerson_31 : decode cX0_readPerson 31 = .ok (.ireturn, 1) := by decide +kernel
theorem dX0_readPerson_32 : decode cX0_readPerson 32 = .ok (.aload_n 0, 1) := by decide +kernel
theorem dX0_readPerson_33 : decode cX0_readPerson 33 = .ok (.dup, 1) := by decide +kernel
theorem dX0_readPerson_34 : decode cX0_readPerson 34 = .ok (.getfield 15, 3) := by decide +kernel
theorem dX0_readPerson_37 : decode cX0_readPerson 37 = .ok (.iconst 1, 1) := by decide +kernel
theorem dX0_readPerson_38 : decode cX0_readPerson 38 = .ok (.iadd, 1) := by decide +kernel
theorem dX0_readPerson_39 : decode cX0_readPerson 39 = .ok (.putfield 15, 3) := by decide +kernel
theorem dX0_readPerson_42 : decode cX0_readPerson 42 = .ok (.iload_n 1, 1) := by decide +kernel
theorem dX0_readPerson_43 : decode cX0_readPerson 43 = .ok (.ireturn, 1) := by decide +kernel
set_option maxRecDepth 20000 in
theorem ggX0_readNumber_X0_signAt : GoodIn wsX0_readNumber wsX0_signAt := goodIn_r _ [6, 7, 8, 17, 18, 19, 20, 21, 22, 23, 24] (by decide +kernel) (by decide +kernel)
set_option maxRecDepth 20000 in
theorem gX0_readNumber_X0_signAt : GoodIn wsX0_readNumber (wsV RX0 35 RX0 yX0_signAt wsX0_signAt) := goodIn_app (goodIn_of _ (by decide +kernel)) ggX0_readNumber_X0_signAt
set_option maxRecDepth 20000 in
theorem ggX0_readNumber_X0_isDigit : GoodIn wsX0_readNumber wsX0_isDigit := goodIn_r _ [11] (by decide +kernel) (by decide +kernel)
set_option maxRecDepth 20000 in
theorem gX0_readNumber_X0_isDigit : GoodIn wsX0_readNumber (va_wsS RX0 65 yX0_isDigit wsX0_isDigit) := goodIn_app (goodIn_of _ (by decide +kernel)) ggX0_readNumber_X0_isDigit
set_option maxRecDepth 20000 in
theorem ggX0_readNumber_X0_fail : GoodIn wsX0_readNumber wsX0_fail := goodIn_r _ [15, 16, 17, 18, 19, 20, 21, 22, 23, 24] (by decide +kernel) (by decide +kernel)
set_option maxRecDepth 20000 in
theorem gX0_readNumber_X0_fail : GoodIn wsX0_readNumber (wsV RX0 62 RX0 yX0_fail wsX0_fail) := goodIn_app (goodIn_of _ (by decide +kernel)) ggX0_readNumber_X0_fail
theorem dX0_readNumber_0 : decode cX0_readNumber 0 = .ok (.aload_n 0, 1) := by decide +kernel
theorem dX0_readNumber_1 : decode cX0_readNumber 1 = .ok (.getfield 15, 3) := by decide +kernel
theorem dX0_readNumber_4 : decode cX0_readNumber 4 = .ok (.istore_n 2, 1) := by decide +kernel
theorem dX0_readNumber_5 : decode cX0_readNumber 5 = .ok (.iconst 0, 1) := by decide +kernel
theorem dX0_readNumber_6 : decode cX0_readNumber 6 = .ok (.istore_n 3, 1) := by decide +kernel
theorem dX0_readNumber_7 : decode cX0_readNumber 7 = .ok (.iconst 0, 1) := by decide +kernel
theorem dX0_readNumber_8 : decode cX0_readNumber 8 = .ok (.istore 4, 2) := by decide +kernel
theorem dX0_readNumber_10 : decode cX0_readNumber 10 = .ok (.iload 4, 2) := by decide +kernel
theorem dX0_readNumber_12 : decode cX0_readNumber 12 = .ok (.iconst 2, 1) := by decide +kernel
theorem dX0_readNumber_13 : decode cX0_readNumber 13 = .ok (.if_icmp .ge 50, 3) := by decide +kernel
theorem dX0_readNumber_16 : decode cX0_readNumber 16 = .ok (.aload_n 0, 1) := by decide +kernel
theorem dX0_readNumber_17 : decode cX0_readNumber 17 = .ok (.aload_n 0, 1) := by decide +kernel
theorem dX0_readNumber_18 : decode cX0_readNumber 18 = .ok (.getfield 15, 3) := by decide +kernel
theorem dX0_readNumber_21 : decode cX0_readNumber 21 = .ok (.invokevirtual 35, 3) := by decide +kernel
theorem dX0_readNumber_24 : decode cX0_readNumber 24 = .ok (.invokestatic 65, 3) := by decide +kernel
theorem dX0_readNumber_27 : decode cX0_readNumber 27 = .ok (.ifCond .eq 36, 3) := by decide +kernel
theorem dX0_readNumber_30 : decode cX0_readNumber 30 = .ok (.bipush 10, 2) := by decide +kernel
theorem dX0_readNumber_32 : decode cX0_readNumber 32 = .ok (.iload_n 3, 1) := by decide +kernel
theorem dX0_readNumber_33 : decode cX0_readNumber 33 = .ok (.imul, 1) := by decide +kernel
theorem dX0_readNumber_34 : decode cX0_readNumber 34 = .ok (.aload_n 0, 1) := by decide +kernel
theorem dX0_readNumber_35 : decode cX0_readNumber 35 = .ok (.aload_n 0, 1) := by decide +kernel
theorem dX0_readNumber_36 : decode cX0_readNumber 36 = .ok (.getfield 15, 3) := by decide +kernel
theorem dX0_readNumber_39 : decode cX0_readNumber 39 = .ok (.invokevirtual 35, 3) := by decide +kernel
theorem dX0_readNumber_42 : decode cX0_readNumber 42 = .ok (.iadd, 1) := by decide +kernel
theorem dX0_readNumber_43 : decode cX0_readNumber 43 = .ok (.bipush 48, 2) := by decide +kernel
theorem dX0_readNumber_45 : decode cX0_readNumber 45 = .ok (.isub, 1) := by decide +kernel
theorem dX0_readNumber_46 : decode cX0_readNumber 46 = .ok (.istore_n 3, 1) := by decide +kernel
theorem dX0_readNumber_47 : decode cX0_readNumber 47 = .ok (.aload_n 0, 1) := by decide +kernel
theorem dX0_readNumber_48 : decode cX0_readNumber 48 = .ok (.dup, 1) := by decide +kernel
theorem dX0_readNumber_49 : decode cX0_readNumber 49 = .ok (.getfield 15, 3) := by decide +kernel
theorem dX0_readNumber_52 : decode cX0_readNumber 52 = .ok (.iconst 1, 1) := by decide +kernel
theorem dX0_readNumber_53 : decode cX0_readNumber 53 = .ok (.iadd, 1) := by decide +kernel
theorem dX0_readNumber_54 : decode cX0_readNumber 54 = .ok (.putfield 15, 3) := by decide +kernel
theorem dX0_readNumber_57 : decode cX0_readNumber 57 = .ok (.iinc 4 1, 3) := by decide +kernel
theorem dX0_readNumber_60 : decode cX0_readNumber 60 = .ok (.goto (-50), 3) := by decide +kernel
theorem dX0_readNumber_63 : decode cX0_readNumber 63 = .ok (.aload_n 0, 1) := by decide +kernel
theorem dX0_readNumber_64 : decode cX0_readNumber 64 = .ok (.getfield 15, 3) := by decide +kernel
theorem dX0_readNumber_67 : decode cX0_readNumber 67 = .ok (.iload_n 2, 1) := by decide +kernel
theorem dX0_readNumber_68 : decode cX0_readNumber 68 = .ok (.if_icmp .eq 17, 3) := by decide +kernel
theorem dX0_readNumber_71 : decode cX0_readNumber 71 = .ok (.aload_n 0, 1) := by decide +kernel
theorem dX0_readNumber_72 : decode cX0_readNumber 72 = .ok (.aload_n 0, 1) := by decide +kernel
theorem dX0_readNumber_73 : decode cX0_readNumber 73 = .ok (.getfield 15, 3) := by decide +kernel
theorem dX0_readNumber_76 : decode cX0_readNumber 76 = .ok (.invokevirtual 35, 3) := by decide +kernel
theorem dX0_readNumber_79 : decode cX0_readNumber 79 = .ok (.invokestatic 65, 3) := by decide +kernel
theorem dX0_readNumber_82 : decode cX0_readNumber 82 = .ok (.ifCond .eq 14, 3) := by decide +kernel
theorem dX0_readNumber_85 : decode cX0_readNumber 85 = .ok (.aload_n 0, 1) := by decide +kernel
theorem dX0_readNumber_86 : decode cX0_readNumber 86 = .ok (.aload_n 0, 1) := by decide +kernel
theorem dX0_readNumber_87 : decode cX0_readNumber 87 = .ok (.getfield 15, 3) := by decide +kernel
theorem dX0_readNumber_90 : decode cX0_readNumber 90 = .ok (.invokevirtual 62, 3) := by decide +kernel
theorem dX0_readNumber_93 : decode cX0_readNumber 93 = .ok (.goto 13, 3) := by decide +kernel
theorem dX0_readNumber_96 : decode cX0_readNumber 96 = .ok (.iload_n 3, 1) := by decide +kernel
theorem dX0_readNumber_97 : decode cX0_readNumber 97 = .ok (.iload_n 1, 1) := by decide +kernel
theorem dX0_readNumber_98 : decode cX0_readNumber 98 = .ok (.if_icmp .le 8, 3) := by decide +kernel
theorem dX0_readNumber_101 : decode cX0_readNumber 101 = .ok (.aload_n 0, 1) := by decide +kernel
theorem dX0_readNumber_102 : decode cX0_readNumber 102 = .ok (.iload_n 2, 1) := by decide +kernel
theorem dX0_readNumber_103 : decode cX0_readNumber 103 = .ok (.invokevirtual 62, 3) := by decide +kernel
theorem dX0_readNumber_106 : decode cX0_readNumber 106 = .ok (.iload_n 3, 1) := by decide +kernel
theorem dX0_readNumber_107 : decode cX0_readNumber 107 = .ok (.ireturn, 1) := by decide +kernel
set_option maxRecDepth 20000 in
theorem ggX0_expect_X0_signAt : GoodIn wsX0_expect wsX0_signAt := goodIn_r _ [6, 7, 8, 14, 15, 16, 17, 18, 19, 20, 21] (by decide +kernel) (by decide +kernel)
set_option maxRecDepth 20000 in
theorem gX0_expect_X0_signAt : GoodIn wsX0_expect (wsV RX0 35 RX0 yX0_signAt wsX0_signAt) := goodIn_app (goodIn_of _ (by decide +kernel)) ggX0_expect_X0_signAt
set_option maxRecDepth 20000 in
theorem ggX0_expect_X0_fail : GoodIn wsX0_expect wsX0_fail := goodIn_r _ [12, 13, 14, 15, 16, 17, 18, 19, 20, 21] (by decide +kernel) (by decide +kernel)
set_option maxRecDepth 20000 in
theorem gX0_expect_X0_fail : GoodIn wsX0_expect (wsV RX0 62 RX0 yX0_fail wsX0_fail) := goodIn_app (goodIn_of _ (by decide +kernel)) ggX0_expect_X0_fail
theorem dX0_expect_0 : decode cX0_expect 0 = .ok (.aload_n 0, 1) := by decide +kernel
theorem dX0_expect_1 : decode cX0_expect 1 = .ok (.aload_n 0, 1) := by decide +kernel
theorem dX0_expect_2 : decode cX0_expect 2 = .ok (.getfield 15, 3) := by decide +kernel
theorem dX0_expect_5 : decode cX0_expect 5 = .ok (.invokevirtual 35, 3) := by decide +kernel
theorem dX0_expect_8 : decode cX0_expect 8 = .ok (.iload_n 1, 1) := by decide +kernel
theorem dX0_expect_9 : decode cX0_expect 9 = .ok (.if_icmp .ne 16, 3) := by decide +kernel
theorem dX0_expect_12 : decode cX0_expect 12 = .ok (.aload_n 0, 1) := by decide +kernel
theorem dX0_expect_13 : decode cX0_expect 13 = .ok (.dup, 1) := by decide +kernel
theorem dX0_expect_14 : decode cX0_expect 14 = .ok (.getfield 15, 3) := by decide +kernel
theorem dX0_expect_17 : decode cX0_expect 17 = .ok (.iconst 1, 1) := by decide +kernel
theorem dX0_expect_18 : decode cX0_expect 18 = .ok (.iadd, 1) := by decide +kernel
theorem dX0_expect_19 : decode cX0_expect 19 = .ok (.putfield 15, 3) := by decide +kernel
theorem dX0_expect_22 : decode cX0_expect 22 = .ok (.goto 11, 3) := by decide +kernel
theorem dX0_expect_25 : decode cX0_expect 25 = .ok (.aload_n 0, 1) := by decide +kernel
theorem dX0_expect_26 : decode cX0_expect 26 = .ok (.aload_n 0, 1) := by decide +kernel
theorem dX0_expect_27 : decode cX0_expect 27 = .ok (.getfield 15, 3) := by decide +kernel
theorem dX0_expect_30 : decode cX0_expect 30 = .ok (.invokevirtual 62, 3) := by decide +kernel
theorem dX0_expect_33 : decode cX0_expect 33 = .ok (.return_, 1) := by decide +kernel
theorem dX0_fail_0 : decode cX0_fail 0 = .ok (.aload_n 0, 1) := by decide +kernel
theorem dX0_fail_1 : decode cX0_fail 1 = .ok (.getfield 19, 3) := by decide +kernel
theorem dX0_fail_4 : decode cX0_fail 4 = .ok (.iconst (-1), 1) := by decide +kernel
theorem dX0_fail_5 : decode cX0_fail 5 = .ok (.if_icmp .ne 8, 3) := by decide +kernel
theorem dX0_fail_8 : decode cX0_fail 8 = .ok (.aload_n 0, 1) := by decide +kernel
theorem dX0_fail_9 : decode cX0_fail 9 = .ok (.iload_n 1, 1) := by decide +kernel
theorem dX0_fail_10 : decode cX0_fail 10 = .ok (.putfield 19, 3) := by decide +kernel
theorem dX0_fail_13 : decode cX0_fail 13 = .ok (.return_, 1) := by decide +kernel
theorem dX0_signAt_0 : decode cX0_signAt 0 = .ok (.iload_n 1, 1) := by decide +kernel
theorem dX0_signAt_1 : decode cX0_signAt 1 = .ok (.ifCond .lt 20, 3) := by decide +kernel
theorem dX0_signAt_4 : decode cX0_signAt 4 = .ok (.iload_n 1, 1) := by decide +kernel
theorem dX0_signAt_5 : decode cX0_signAt 5 = .ok (.aload_n 0, 1) := by decide +kernel
theorem dX0_signAt_6 : decode cX0_signAt 6 = .ok (.getfield 22, 3) := by decide +kernel
theorem dX0_signAt_9 : decode cX0_signAt 9 = .ok (.if_icmp .ge 12, 3) := by decide +kernel
theorem dX0_signAt_12 : decode cX0_signAt 12 = .ok (.aload_n 0, 1) := by decide +kernel
theorem dX0_signAt_13 : decode cX0_signAt 13 = .ok (.getfield 9, 3) := by decide +kernel
theorem dX0_signAt_16 : decode cX0_signAt 16 = .ok (.iload_n 1, 1) := by decide +kernel
theorem dX0_signAt_17 : decode cX0_signAt 17 = .ok (.iaload, 1) := by decide +kernel
theorem dX0_signAt_18 : decode cX0_signAt 18 = .ok (.goto 4, 3) := by decide +kernel
theorem dX0_signAt_21 : decode cX0_signAt 21 = .ok (.iconst (-1), 1) := by decide +kernel
theorem dX0_signAt_22 : decode cX0_signAt 22 = .ok (.ireturn, 1) := by decide +kernel
theorem dX0_isDigit_0 : decode cX0_isDigit 0 = .ok (.iload_n 0, 1) := by decide +kernel
theorem dX0_isDigit_1 : decode cX0_isDigit 1 = .ok (.bipush 48, 2) := by decide +kernel
theorem dX0_isDigit_3 : decode cX0_isDigit 3 = .ok (.if_icmp .lt 13, 3) := by decide +kernel
theorem dX0_isDigit_6 : decode cX0_isDigit 6 = .ok (.iload_n 0, 1) := by decide +kernel
theorem dX0_isDigit_7 : decode cX0_isDigit 7 = .ok (.bipush 57, 2) := by decide +kernel
theorem dX0_isDigit_9 : decode cX0_isDigit 9 = .ok (.if_icmp .gt 7, 3) := by decide +kernel
theorem dX0_isDigit_12 : decode cX0_isDigit 12 = .ok (.iconst 1, 1) := by decide +kernel
theorem dX0_isDigit_13 : decode cX0_isDigit 13 = .ok (.goto 4, 3) := by decide +kernel
theorem dX0_isDigit_16 : decode cX0_isDigit 16 = .ok (.iconst 0, 1) := by decide +kernel
theorem dX0_isDigit_17 : decode cX0_isDigit 17 = .ok (.ireturn, 1) := by decide +kernel
theorem dX1_init_0 : decode cX1_init 0 = .ok (.aload_n 0, 1) := by decide +kernel
theorem dX1_init_1 : decode cX1_init 1 = .ok (.invokespecial 3, 3) := by decide +kernel
theorem dX1_init_4 : decode cX1_init 4 = .ok (.aload_n 0, 1) := by decide +kernel
theorem dX1_init_5 : decode cX1_init 5 = .ok (.iconst 3, 1) := by decide +kernel
theorem dX1_init_6 : decode cX1_init 6 = .ok (.newarray .int, 2) := by decide +kernel
theorem dX1_init_8 : decode cX1_init 8 = .ok (.putfield 9, 3) := by decide +kernel
theorem dX1_init_11 : decode cX1_init 11 = .ok (.aload_n 0, 1) := by decide +kernel
theorem dX1_init_12 : decode cX1_init 12 = .ok (.bipush 8, 2) := by decide +kernel
theorem dX1_init_14 : decode cX1_init 14 = .ok (.newarray .long, 2) := by decide +kernel
theorem dX1_init_16 : decode cX1_init 16 = .ok (.putfield 15, 3) := by decide +kernel
theorem dX1_init_19 : decode cX1_init 19 = .ok (.aload_n 0, 1) := by decide +kernel
theorem dX1_init_20 : decode cX1_init 20 = .ok (.bipush 8, 2) := by decide +kernel
theorem dX1_init_22 : decode cX1_init 22 = .ok (.newarray .long, 2) := by decide +kernel
theorem dX1_init_24 : decode cX1_init 24 = .ok (.putfield 19, 3) := by decide +kernel
theorem dX1_init_27 : decode cX1_init 27 = .ok (.aload_n 0, 1) := by decide +kernel
theorem dX1_init_28 : decode cX1_init 28 = .ok (.bipush 8, 2) := by decide +kernel
theorem dX1_init_30 : decode cX1_init 30 = .ok (.newarray .long, 2) := by decide +kernel
theorem dX1_init_32 : decode cX1_init 32 = .ok (.putfield 22, 3) := by decide +kernel
theorem dX1_init_35 : decode cX1_init 35 = .ok (.aload_n 0, 1) := by decide +kernel
theorem dX1_init_36 : decode cX1_init 36 = .ok (.bipush 8, 2) := by decide +kernel
theorem dX1_init_38 : decode cX1_init 38 = .ok (.newarray .int, 2) := by decide +kernel
theorem dX1_init_40 : decode cX1_init 40 = .ok (.putfield 25, 3) := by decide +kernel
theorem dX1_init_43 : decode cX1_init 43 = .ok (.aload_n 0, 1) := by decide +kernel
theorem dX1_init_44 : decode cX1_init 44 = .ok (.bipush 8, 2) := by decide +kernel
theorem dX1_init_46 : decode cX1_init 46 = .ok (.newarray .int, 2) := by decide +kernel
theorem dX1_init_48 : decode cX1_init 48 = .ok (.putfield 28, 3) := by decide +kernel
theorem dX1_init_51 : decode cX1_init 51 = .ok (.aload_n 0, 1) := by decide +kernel
theorem dX1_init_52 : decode cX1_init 52 = .ok (.bipush 30, 2) := by decide +kernel
theorem dX1_init_54 : decode cX1_init 54 = .ok (.newarray .int, 2) := by decide +kernel
theorem dX1_init_56 : decode cX1_init 56 = .ok (.putfield 31, 3) := by decide +kernel
theorem dX1_init_59 : decode cX1_init 59 = .ok (.aload_n 0, 1) := by decide +kernel
theorem dX1_init_60 : decode cX1_init 60 = .ok (.bipush 30, 2) := by decide +kernel
theorem dX1_init_62 : decode cX1_init 62 = .ok (.newarray .int, 2) := by decide +kernel
theorem dX1_init_64 : decode cX1_init 64 = .ok (.putfield 34, 3) := by decide +kernel
theorem dX1_init_67 : decode cX1_init 67 = .ok (.aload_n 0, 1) := by decide +kernel
theorem dX1_init_68 : decode cX1_init 68 = .ok (.bipush 30, 2) := by decide +kernel
theorem dX1_init_70 : decode cX1_init 70 = .ok (.newarray .int, 2) := by decide +kernel
theorem dX1_init_72 : decode cX1_init 72 = .ok (.putfield 37, 3) := by decide +kernel
theorem dX1_init_75 : decode cX1_init 75 = .ok (.aload_n 0, 1) := by decide +kernel
theorem dX1_init_76 : decode cX1_init 76 = .ok (.bipush 30, 2) := by decide +kernel
theorem dX1_init_78 : decode cX1_init 78 = .ok (.newarray .int, 2) := by decide +kernel
theorem dX1_init_80 : decode cX1_init 80 = .ok (.putfield 40, 3) := by decide +kernel
theorem dX1_init_83 : decode cX1_init 83 = .ok (.aload_n 0, 1) := by decide +kernel
theorem dX1_init_84 : decode cX1_init 84 = .ok (.bipush 30, 2) := by decide +kernel
theorem dX1_init_86 : decode cX1_init 86 = .ok (.newarray .int, 2) := by decide +kernel
theorem dX1_init_88 : decode cX1_init 88 = .ok (.putfield 43, 3) := by decide +kernel
theorem dX1_init_91 : decode cX1_init 91 = .ok (.aload_n 0, 1) := by decide +kernel
theorem dX1_init_92 : decode cX1_init 92 = .ok (.sipush 240, 3) := by decide +kernel
theorem dX1_init_95 : decode cX1_init 95 = .ok (.newarray .int, 2) := by decide +kernel
theorem dX1_init_97 : decode cX1_init 97 = .ok (.putfield 46, 3) := by decide +kernel
theorem dX1_init_100 : decode cX1_init 100 = .ok (.getstatic 49, 3) := by decide +kernel
theorem dX1_init_103 : decode cX1_init 103 = .ok (.iconst 0, 1) := by decide +kernel
theorem dX1_init_104 : decode cX1_init 104 = .ok (.aload_n 0, 1) := by decide +kernel
theorem dX1_init_105 : decode cX1_init 105 = .ok (.getfield 9, 3) := by decide +kernel
theorem dX1_init_108 : decode cX1_init 108 = .ok (.iconst 0, 1) := by decide +kernel
theorem dX1_init_109 : decode cX1_init 109 = .ok (.iconst 3, 1) := by decide +kernel
theorem dX1_init_110 : decode cX1_init 110 = .ok (.invokestatic 52, 3) := by decide +kernel
theorem dX1_init_113 : decode cX1_init 113 = .ok (.return_, 1) := by decide +kernel
theorem dX1_copyFrom_0 : decode cX1_copyFrom 0 = .ok (.aload_n 1, 1) := by decide +kernel
theorem dX1_copyFrom_1 : decode cX1_copyFrom 1 = .ok (.getfield 9, 3) := by decide +kernel
theorem dX1_copyFrom_4 : decode cX1_copyFrom 4 = .ok (.iconst 0, 1) := by decide +kernel
theorem dX1_copyFrom_5 : decode cX1_copyFrom 5 = .ok (.aload_n 0, 1) := by decide +kernel
theorem dX1_copyFrom_6 : decode cX1_copyFrom 6 = .ok (.getfield 9, 3) := by decide +kernel
theorem dX1_copyFrom_9 : decode cX1_copyFrom 9 = .ok (.iconst 0, 1) := by decide +kernel
theorem dX1_copyFrom_10 : decode cX1_copyFrom 10 = .ok (.iconst 3, 1) := by decide +kernel
theorem dX1_copyFrom_11 : decode cX1_copyFrom 11 = .ok (.invokestatic 52, 3) := by decide +kernel
theorem dX1_copyFrom_14 : decode cX1_copyFrom 14 = .ok (.aload_n 0, 1) := by decide +kernel
theorem dX1_copyFrom_15 : decode cX1_copyFrom 15 = .ok (.aload_n 1, 1) := by decide +kernel
theorem dX1_copyFrom_16 : decode cX1_copyFrom 16 = .ok (.getfield 58, 3) := by decide +kernel
theorem dX1_copyFrom_19 : decode cX1_copyFrom 19 = .ok (.putfield 58, 3) := by decide +kernel
theorem dX1_copyFrom_22 : decode cX1_copyFrom 22 = .ok (.aload_n 0, 1) := by decide +kernel
theorem dX1_copyFrom_23 : decode cX1_copyFrom 23 = .ok (.aload_n 1, 1) := by decide +kernel
theorem dX1_copyFrom_24 : decode cX1_copyFrom 24 = .ok (.getfield 62, 3) := by decide +kernel
theorem dX1_copyFrom_27 : decode cX1_copyFrom 27 = .ok (.putfield 62, 3) := by decide +kernel
theorem dX1_copyFrom_30 : decode cX1_copyFrom 30 = .ok (.aload_n 1, 1) := by decide +kernel
theorem dX1_copyFrom_31 : decode cX1_copyFrom 31 = .ok (.getfield 15, 3) := by decide +kernel
theorem dX1_copyFrom_34 : decode cX1_copyFrom 34 = .ok (.iconst 0, 1) := by decide +kernel
theorem dX1_copyFrom_35 : decode cX1_copyFrom 35 = .ok (.aload_n 0, 1) := by decide +kernel
theorem dX1_copyFrom_36 : decode cX1_copyFrom 36 = .ok (.getfield 15, 3) := by decide +kernel
theorem dX1_copyFrom_39 : decode cX1_copyFrom 39 = .ok (.iconst 0, 1) := by decide +kernel
theorem dX1_copyFrom_40 : decode cX1_copyFrom 40 = .ok (.bipush 8, 2) := by decide +kernel
theorem dX1_copyFrom_42 : decode cX1_copyFrom 42 = .ok (.invokestatic 52, 3) := by decide +kernel
theorem dX1_copyFrom_45 : decode cX1_copyFrom 45 = .ok (.aload_n 1, 1) := by decide +kernel
theorem dX1_copyFrom_46 : decode cX1_copyFrom 46 = .ok (.getfield 19, 3) := by decide +kernel
theorem dX1_copyFrom_49 : decode cX1_copyFrom 49 = .ok (.iconst 0, 1) := by decide +kernel
theorem dX1_copyFrom_50 : decode cX1_copyFrom 50 = .ok (.aload_n 0, 1) := by decide +kernel
theorem dX1_copyFrom_51 : decode cX1_copyFrom 51 = .ok (.getfield 19, 3) := by decide +kernel
theorem dX1_copyFrom_54 : decode cX1_copyFrom 54 = .ok (.iconst 0, 1) := by decide +kernel
theorem dX1_copyFrom_55 : decode cX1_copyFrom 55 = .ok (.bipush 8, 2) := by decide +kernel
theorem dX1_copyFrom_57 : decode cX1_copyFrom 57 = .ok (.invokestatic 52, 3) := by decide +kernel
theorem dX1_copyFrom_60 : decode cX1_copyFrom 60 = .ok (.aload_n 1, 1) := by decide +kernel
theorem dX1_copyFrom_61 : decode cX1_copyFrom 61 = .ok (.getfield 22, 3) := by decide +kernel
theorem dX1_copyFrom_64 : decode cX1_copyFrom 64 = .ok (.iconst 0, 1) := by decide +kernel
theorem dX1_copyFrom_65 : decode cX1_copyFrom 65 = .ok (.aload_n 0, 1) := by decide +kernel
theorem dX1_copyFrom_66 : decode cX1_copyFrom 66 = .ok (.getfield 22, 3) := by decide +kernel
theorem dX1_copyFrom_69 : decode cX1_copyFrom 69 = .ok (.iconst 0, 1) := by decide +kernel
theorem dX1_copyFrom_70 : decode cX1_copyFrom 70 = .ok (.bipush 8, 2) := by decide +kernel
theorem dX1_copyFrom_72 : decode cX1_copyFrom 72 = .ok (.invokestatic 52, 3) := by decide +kernel
theorem dX1_copyFrom_75 : decode cX1_copyFrom 75 = .ok (.aload_n 1, 1) := by decide +kernel
theorem dX1_copyFrom_76 : decode cX1_copyFrom 76 = .ok (.getfield 25, 3) := by decide +kernel
theorem dX1_copyFrom_79 : decode cX1_copyFrom 79 = .ok (.iconst 0, 1) := by decide +kernel
theorem dX1_copyFrom_80 : decode cX1_copyFrom 80 = .ok (.aload_n 0, 1) := by decide +kernel
theorem dX1_copyFrom_81 : decode cX1_copyFrom 81 = .ok (.getfield 25, 3) := by decide +kernel
theorem dX1_copyFrom_84 : decode cX1_copyFrom 84 = .ok (.iconst 0, 1) := by decide +kernel
theorem dX1_copyFrom_85 : decode cX1_copyFrom 85 = .ok (.bipush 8, 2) := by decide +kernel
theorem dX1_copyFrom_87 : decode cX1_copyFrom 87 = .ok (.invokestatic 52, 3) := by decide +kernel
theorem dX1_copyFrom_90 : decode cX1_copyFrom 90 = .ok (.aload_n 1, 1) := by decide +kernel
theorem dX1_copyFrom_91 : decode cX1_copyFrom 91 = .ok (.getfield 28, 3) := by decide +kernel
theorem dX1_copyFrom_94 : decode cX1_copyFrom 94 = .ok (.iconst 0, 1) := by decide +kernel
theorem dX1_copyFrom_95 : decode cX1_copyFrom 95 = .ok (.aload_n 0, 1) := by decide +kernel
theorem dX1_copyFrom_96 : decode cX1_copyFrom 96 = .ok (.getfield 28, 3) := by decide +kernel
theorem dX1_copyFrom_99 : decode cX1_copyFrom 99 = .ok (.iconst 0, 1) := by decide +kernel
theorem dX1_copyFrom_100 : decode cX1_copyFrom 100 = .ok (.bipush 8, 2) := by decide +kernel
theorem dX1_copyFrom_102 : decode cX1_copyFrom 102 = .ok (.invokestatic 52, 3) := by decide +kernel
theorem dX1_copyFrom_105 : decode cX1_copyFrom 105 = .ok (.aload_n 0, 1) := by decide +kernel
theorem dX1_copyFrom_106 : decode cX1_copyFrom 106 = .ok (.aload_n 1, 1) := by decide +kernel
theorem dX1_copyFrom_107 : decode cX1_copyFrom 107 = .ok (.getfield 65, 3) := by decide +kernel
theorem dX1_copyFrom_110 : decode cX1_copyFrom 110 = .ok (.putfield 65, 3) := by decide +kernel
theorem dX1_copyFrom_113 : decode cX1_copyFrom 113 = .ok (.aload_n 1, 1) := by decide +kernel
theorem dX1_copyFrom_114 : decode cX1_copyFrom 114 = .ok (.getfield 31, 3) := by decide +kernel
theorem dX1_copyFrom_117 : decode cX1_copyFrom 117 = .ok (.iconst 0, 1) := by decide +kernel
theorem dX1_copyFrom_118 : decode cX1_copyFrom 118 = .ok (.aload_n 0, 1) := by decide +kernel
theorem dX1_copyFrom_119 : decode cX1_copyFrom 119 = .ok (.getfield 31, 3) := by decide +kernel
theorem dX1_copyFrom_122 : decode cX1_copyFrom 122 = .ok (.iconst 0, 1) := by decide +kernel
theorem dX1_copyFrom_123 : decode cX1_copyFrom 123 = .ok (.bipush 30, 2) := by decide +kernel
theorem dX1_copyFrom_125 : decode cX1_copyFrom 125 = .ok (.invokestatic 52, 3) := by decide +kernel
theorem dX1_copyFrom_128 : decode cX1_copyFrom 128 = .ok (.aload_n 1, 1) := by decide +kernel
theorem dX1_copyFrom_129 : decode cX1_copyFrom 129 = .ok (.getfield 34, 3) := by decide +kernel
theorem dX1_copyFrom_132 : decode cX1_copyFrom 132 = .ok (.iconst 0, 1) := by decide +kernel
theorem dX1_copyFrom_133 : decode cX1_copyFrom 133 = .ok (.aload_n 0, 1) := by decide +kernel
theorem dX1_copyFrom_134 : decode cX1_copyFrom 134 = .ok (.getfield 34, 3) := by decide +kernel
theorem dX1_copyFrom_137 : decode cX1_copyFrom 137 = .ok (.iconst 0, 1) := by decide +kernel
theorem dX1_copyFrom_138 : decode cX1_copyFrom 138 = .ok (.bipush 30, 2) := by decide +kernel
theorem dX1_copyFrom_140 : decode cX1_copyFrom 140 = .ok (.invokestatic 52, 3) := by decide +kernel
theorem dX1_copyFrom_143 : decode cX1_copyFrom 143 = .ok (.aload_n 1, 1) := by decide +kernel
theorem dX1_copyFrom_144 : decode cX1_copyFrom 144 = .ok (.getfield 37, 3) := by decide +kernel
theorem dX1_copyFrom_147 : decode cX1_copyFrom 147 = .ok (.iconst 0, 1) := by decide +kernel
theorem dX1_copyFrom_148 : decode cX1_copyFrom 148 = .ok (.aload_n 0, 1) := by decide +kernel
theorem dX1_copyFrom_149 : decode cX1_copyFrom 149 = .ok (.getfield 37, 3) := by decide +kernel
theorem dX1_copyFrom_152 : decode cX1_copyFrom 152 = .ok (.iconst 0, 1) := by decide +kernel
theorem dX1_copyFrom_153 : decode cX1_copyFrom 153 = .ok (.bipush 30, 2) := by decide +kernel
theorem dX1_copyFrom_155 : decode cX1_copyFrom 155 = .ok (.invokestatic 52, 3) := by decide +kernel
theorem dX1_copyFrom_158 : decode cX1_copyFrom 158 = .ok (.aload_n 1, 1) := by decide +kernel
theorem dX1_copyFrom_159 : decode cX1_copyFrom 159 = .ok (.getfield 40, 3) := by decide +kernel
theorem dX1_copyFrom_162 : decode cX1_copyFrom 162 = .ok (.iconst 0, 1) := by decide +kernel
theorem dX1_copyFrom_163 : decode cX1_copyFrom 163 = .ok (.aload_n 0, 1) := by decide +kernel
theorem dX1_copyFrom_164 : decode cX1_copyFrom 164 = .ok (.getfield 40, 3) := by decide +kernel
theorem dX1_copyFrom_167 : decode cX1_copyFrom 167 = .ok (.iconst 0, 1) := by decide +kernel
theorem dX1_copyFrom_168 : decode cX1_copyFrom 168 = .ok (.bipush 30, 2) := by decide +kernel
theorem dX1_copyFrom_170 : decode cX1_copyFrom 170 = .ok (.invokestatic 52, 3) := by decide +kernel
theorem dX1_copyFrom_173 : decode cX1_copyFrom 173 = .ok (.aload_n 1, 1) := by decide +kernel
theorem dX1_copyFrom_174 : decode cX1_copyFrom 174 = .ok (.getfield 43, 3) := by decide +kernel
theorem dX1_copyFrom_177 : decode cX1_copyFrom 177 = .ok (.iconst 0, 1) := by decide +kernel
theorem dX1_copyFrom_178 : decode cX1_copyFrom 178 = .ok (.aload_n 0, 1) := by decide +kernel
theorem dX1_copyFrom_179 : decode cX1_copyFrom 179 = .ok (.getfield 43, 3) := by decide +kernel
theorem dX1_copyFrom_182 : decode cX1_copyFrom 182 = .ok (.iconst 0, 1) := by decide +kernel
theorem dX1_copyFrom_183 : decode cX1_copyFrom 183 = .ok (.bipush 30, 2) := by decide +kernel
theorem dX1_copyFrom_185 : decode cX1_copyFrom 185 = .ok (.invokestatic 52, 3) := by decide +kernel
theorem dX1_copyFrom_188 : decode cX1_copyFrom 188 = .ok (.aload_n 1, 1) := by decide +kernel
theorem dX1_copyFrom_189 : decode cX1_copyFrom 189 = .ok (.getfield 46, 3) := by decide +kernel
theorem dX1_copyFrom_192 : decode cX1_copyFrom 192 = .ok (.iconst 0, 1) := by decide +kernel
theorem dX1_copyFrom_193 : decode cX1_copyFrom 193 = .ok (.aload_n 0, 1) := by decide +kernel
theorem dX1_copyFrom_194 : decode cX1_copyFrom 194 = .ok (.getfield 46, 3) := by decide +kernel
theorem dX1_copyFrom_197 : decode cX1_copyFrom 197 = .ok (.iconst 0, 1) := by decide +kernel
theorem dX1_copyFrom_198 : decode cX1_copyFrom 198 = .ok (.sipush 240, 3) := by decide +kernel
theorem dX1_copyFrom_201 : decode cX1_copyFrom 201 = .ok (.invokestatic 52, 3) := by decide +kernel
theorem dX1_copyFrom_204 : decode cX1_copyFrom 204 = .ok (.return_, 1) := by decide +kernel
theorem dX1_hasPerson_0 : decode cX1_hasPerson 0 = .ok (.iload_n 1, 1) := by decide +kernel
theorem dX1_hasPerson_1 : decode cX1_hasPerson 1 = .ok (.ifCond .lt 15, 3) := by decide +kernel
theorem dX1_hasPerson_4 : decode cX1_hasPerson 4 = .ok (.iload_n 1, 1) := by decide +kernel
theorem dX1_hasPerson_5 : decode cX1_hasPerson 5 = .ok (.aload_n 0, 1) := by decide +kernel
theorem dX1_hasPerson_6 : decode cX1_hasPerson 6 = .ok (.getfield 62, 3) := by decide +kernel
theorem dX1_hasPerson_9 : decode cX1_hasPerson 9 = .ok (.if_icmp .ge 7, 3) := by decide +kernel
theorem dX1_hasPerson_12 : decode cX1_hasPerson 12 = .ok (.iconst 1, 1) := by decide +kernel
theorem dX1_hasPerson_13 : decode cX1_hasPerson 13 = .ok (.goto 4, 3) := by decide +kernel
theorem dX1_hasPerson_16 : decode cX1_hasPerson 16 = .ok (.iconst 0, 1) := by decide +kernel
theorem dX1_hasPerson_17 : decode cX1_hasPerson 17 = .ok (.ireturn, 1) := by decide +kernel
theorem dX1_hasAbsence_0 : decode cX1_hasAbsence 0 = .ok (.iload_n 1, 1) := by decide +kernel
theorem dX1_hasAbsence_1 : decode cX1_hasAbsence 1 = .ok (.ifCond .lt 15, 3) := by decide +kernel
theorem dX1_hasAbsence_4 : decode cX1_hasAbsence 4 = .ok (.iload_n 1, 1) := by decide +kernel
theorem dX1_hasAbsence_5 : decode cX1_hasAbsence 5 = .ok (.aload_n 0, 1) := by decide +kernel
theorem dX1_hasAbsence_6 : decode cX1_hasAbsence 6 = .ok (.getfield 65, 3) := by decide +kernel
theorem dX1_hasAbsence_9 : decode cX1_hasAbsence 9 = .ok (.if_icmp .ge 7, 3) := by decide +kernel
theorem dX1_hasAbsence_12 : decode cX1_hasAbsence 12 = .ok (.iconst 1, 1) := by decide +kernel
theorem dX1_hasAbsence_13 : decode cX1_hasAbsence 13 = .ok (.goto 4, 3) := by decide +kernel
theorem dX1_hasAbsence_16 : decode cX1_hasAbsence 16 = .ok (.iconst 0, 1) := by decide +kernel
theorem dX1_hasAbsence_17 : decode cX1_hasAbsence 17 = .ok (.ireturn, 1) := by decide +kernel
theorem dX1_isCovered_0 : decode cX1_isCovered 0 = .ok (.aload_n 0, 1) := by decide +kernel
theorem dX1_isCovered_1 : decode cX1_isCovered 1 = .ok (.getfield 37, 3) := by decide +kernel
theorem dX1_isCovered_4 : decode cX1_isCovered 4 = .ok (.iload_n 1, 1) := by decide +kernel
theorem dX1_isCovered_5 : decode cX1_isCovered 5 = .ok (.iaload, 1) := by decide +kernel
theorem dX1_isCovered_6 : decode cX1_isCovered 6 = .ok (.iconst 1, 1) := by decide +kernel
theorem dX1_isCovered_7 : decode cX1_isCovered 7 = .ok (.if_icmp .eq 13, 3) := by decide +kernel
theorem dX1_isCovered_10 : decode cX1_isCovered 10 = .ok (.aload_n 0, 1) := by decide +kernel
theorem dX1_isCovered_11 : decode cX1_isCovered 11 = .ok (.getfield 37, 3) := by decide +kernel
theorem dX1_isCovered_14 : decode cX1_isCovered 14 = .ok (.iload_n 1, 1) := by decide +kernel
theorem dX1_isCovered_15 : decode cX1_isCovered 15 = .ok (.iaload, 1) := by decide +kernel
theorem dX1_isCovered_16 : decode cX1_isCovered 16 = .ok (.iconst 2, 1) := by decide +kernel
theorem dX1_isCovered_17 : decode cX1_isCovered 17 = .ok (.if_icmp .ne 7, 3) := by decide +kernel
theorem dX1_isCovered_20 : decode cX1_isCovered 20 = .ok (.iconst 1, 1) := by decide +kernel
theorem dX1_isCovered_21 : decode cX1_isCovered 21 = .ok (.goto 4, 3) := by decide +kernel
theorem dX1_isCovered_24 : decode cX1_isCovered 24 = .ok (.iconst 0, 1) := by decide +kernel
theorem dX1_isCovered_25 : decode cX1_isCovered 25 = .ok (.ireturn, 1) := by decide +kernel
theorem dX1_enterPerson_0 : decode cX1_enterPerson 0 = .ok (.aload_n 0, 1) := by decide +kernel
theorem dX1_enterPerson_1 : decode cX1_enterPerson 1 = .ok (.getfield 62, 3) := by decide +kernel
theorem dX1_enterPerson_4 : decode cX1_enterPerson 4 = .ok (.istore_n 3, 1) := by decide +kernel
theorem dX1_enterPerson_5 : decode cX1_enterPerson 5 = .ok (.aload_n 0, 1) := by decide +kernel
theorem dX1_enterPerson_6 : decode cX1_enterPerson 6 = .ok (.getfield 15, 3) := by decide +kernel
theorem dX1_enterPerson_9 : decode cX1_enterPerson 9 = .ok (.iload_n 3, 1) := by decide +kernel
theorem dX1_enterPerson_10 : decode cX1_enterPerson 10 = .ok (.lload_n 1, 1) := by decide +kernel
theorem dX1_enterPerson_11 : decode cX1_enterPerson 11 = .ok (.lastore, 1) := by decide +kernel
theorem dX1_enterPerson_12 : decode cX1_enterPerson 12 = .ok (.aload_n 0, 1) := by decide +kernel
theorem dX1_enterPerson_13 : decode cX1_enterPerson 13 = .ok (.getfield 19, 3) := by decide +kernel
theorem dX1_enterPerson_16 : decode cX1_enterPerson 16 = .ok (.iload_n 3, 1) := by decide +kernel
theorem dX1_enterPerson_17 : decode cX1_enterPerson 17 = .ok (.lconst 0, 1) := by decide +kernel
theorem dX1_enterPerson_18 : decode cX1_enterPerson 18 = .ok (.lastore, 1) := by decide +kernel
theorem dX1_enterPerson_19 : decode cX1_enterPerson 19 = .ok (.aload_n 0, 1) := by decide +kernel
theorem dX1_enterPerson_20 : decode cX1_enterPerson 20 = .ok (.getfield 22, 3) := by decide +kernel
theorem dX1_enterPerson_23 : decode cX1_enterPerson 23 = .ok (.iload_n 3, 1) := by decide +kernel
theorem dX1_enterPerson_24 : decode cX1_enterPerson 24 = .ok (.lconst 0, 1) := by decide +kernel
theorem dX1_enterPerson_25 : decode cX1_enterPerson 25 = .ok (.lastore, 1) := by decide +kernel
theorem dX1_enterPerson_26 : decode cX1_enterPerson 26 = .ok (.aload_n 0, 1) := by decide +kernel
theorem dX1_enterPerson_27 : decode cX1_enterPerson 27 = .ok (.getfield 25, 3) := by decide +kernel
theorem dX1_enterPerson_30 : decode cX1_enterPerson 30 = .ok (.iload_n 3, 1) := by decide +kernel
theorem dX1_enterPerson_31 : decode cX1_enterPerson 31 = .ok (.iconst 0, 1) := by decide +kernel
theorem dX1_enterPerson_32 : decode cX1_enterPerson 32 = .ok (.iastore, 1) := by decide +kernel
theorem dX1_enterPerson_33 : decode cX1_enterPerson 33 = .ok (.aload_n 0, 1) := by decide +kernel
theorem dX1_enterPerson_34 : decode cX1_enterPerson 34 = .ok (.getfield 28, 3) := by decide +kernel
theorem dX1_enterPerson_37 : decode cX1_enterPerson 37 = .ok (.iload_n 3, 1) := by decide +kernel
theorem dX1_enterPerson_38 : decode cX1_enterPerson 38 = .ok (.iconst 0, 1) := by decide +kernel
theorem dX1_enterPerson_39 : decode cX1_enterPerson 39 = .ok (.iastore, 1) := by decide +kernel
theorem dX1_enterPerson_40 : decode cX1_enterPerson 40 = .ok (.aload_n 0, 1) := by decide +kernel
theorem dX1_enterPerson_41 : decode cX1_enterPerson 41 = .ok (.dup, 1) := by decide +kernel
theorem dX1_enterPerson_42 : decode cX1_enterPerson 42 = .ok (.getfield 62, 3) := by decide +kernel
theorem dX1_enterPerson_45 : decode cX1_enterPerson 45 = .ok (.iconst 1, 1) := by decide +kernel
theorem dX1_enterPerson_46 : decode cX1_enterPerson 46 = .ok (.iadd, 1) := by decide +kernel
theorem dX1_enterPerson_47 : decode cX1_enterPerson 47 = .ok (.putfield 62, 3) := by decide +kernel
theorem dX1_enterPerson_50 : decode cX1_enterPerson 50 = .ok (.iload_n 3, 1) := by decide +kernel
theorem dX1_enterPerson_51 : decode cX1_enterPerson 51 = .ok (.ireturn, 1) := by decide +kernel
theorem dX1_canChangeRoster_0 : decode cX1_canChangeRoster 0 = .ok (.lconst 1, 1) := by decide +kernel
theorem dX1_canChangeRoster_1 : decode cX1_canChangeRoster 1 = .ok (.iload_n 2, 1) := by decide +kernel
theorem dX1_canChangeRoster_2 : decode cX1_canChangeRoster 2 = .ok (.lshl, 1) := by decide +kernel
theorem dX1_canChangeRoster_3 : decode cX1_canChangeRoster 3 = .ok (.lstore 4, 2) := by decide +kernel
theorem dX1_canChangeRoster_5 : decode cX1_canChangeRoster 5 = .ok (.aload_n 0, 1) := by decide +kernel
theorem dX1_canChangeRoster_6 : decode cX1_canChangeRoster 6 = .ok (.getfield 15, 3) := by decide +kernel
theorem dX1_canChangeRoster_9 : decode cX1_canChangeRoster 9 = .ok (.iload_n 1, 1) := by decide +kernel
theorem dX1_canChangeRoster_10 : decode cX1_canChangeRoster 10 = .ok (.laload, 1) := by decide +kernel
theorem dX1_canChangeRoster_11 : decode cX1_canChangeRoster 11 = .ok (.lload 4, 2) := by decide +kernel
theorem dX1_canChangeRoster_13 : decode cX1_canChangeRoster 13 = .ok (.land, 1) := by decide +kernel
theorem dX1_canChangeRoster_14 : decode cX1_canChangeRoster 14 = .ok (.lconst 0, 1) := by decide +kernel
theorem dX1_canChangeRoster_15 : decode cX1_canChangeRoster 15 = .ok (.lcmp, 1) := by decide +kernel
theorem dX1_canChangeRoster_16 : decode cX1_canChangeRoster 16 = .ok (.ifCond .eq 7, 3) := by decide +kernel
theorem dX1_canChangeRoster_19 : decode cX1_canChangeRoster 19 = .ok (.iconst 1, 1) := by decide +kernel
theorem dX1_canChangeRoster_20 : decode cX1_canChangeRoster 20 = .ok (.goto 4, 3) := by decide +kernel
theorem dX1_canChangeRoster_23 : decode cX1_canChangeRoster 23 = .ok (.iconst 0, 1) := by decide +kernel
theorem dX1_canChangeRoster_24 : decode cX1_canChangeRoster 24 = .ok (.istore 6, 2) := by decide +kernel
theorem dX1_canChangeRoster_26 : decode cX1_canChangeRoster 26 = .ok (.iload 6, 2) := by decide +kernel
theorem dX1_canChangeRoster_28 : decode cX1_canChangeRoster 28 = .ok (.iload_n 3, 1) := by decide +kernel
theorem dX1_canChangeRoster_29 : decode cX1_canChangeRoster 29 = .ok (.if_icmp .eq 28, 3) := by decide +kernel
theorem dX1_canChangeRoster_32 : decode cX1_canChangeRoster 32 = .ok (.aload_n 0, 1) := by decide +kernel
theorem dX1_canChangeRoster_33 : decode cX1_canChangeRoster 33 = .ok (.getfield 19, 3) := by decide +kernel
theorem dX1_canChangeRoster_36 : decode cX1_canChangeRoster 36 = .ok (.iload_n 1, 1) := by decide +kernel
theorem dX1_canChangeRoster_37 : decode cX1_canChangeRoster 37 = .ok (.laload, 1) := by decide +kernel
theorem dX1_canChangeRoster_38 : decode cX1_canChangeRoster 38 = .ok (.aload_n 0, 1) := by decide +kernel
theorem dX1_canChangeRoster_39 : decode cX1_canChangeRoster 39 = .ok (.getfield 22, 3) := by decide +kernel
theorem dX1_canChangeRoster_42 : decode cX1_canChangeRoster 42 = .ok (.iload_n 1, 1) := by decide +kernel
theorem dX1_canChangeRoster_43 : decode cX1_canChangeRoster 43 = .ok (.laload, 1) := by decide +kernel
theorem dX1_canChangeRoster_44 : decode cX1_canChangeRoster 44 = .ok (.lor, 1) := by decide +kernel
theorem dX1_canChangeRoster_45 : decode cX1_canChangeRoster 45 = .ok (.lload 4, 2) := by decide +kernel
theorem dX1_canChangeRoster_47 : decode cX1_canChangeRoster 47 = .ok (.land, 1) := by decide +kernel
theorem dX1_canChangeRoster_48 : decode cX1_canChangeRoster 48 = .ok (.lconst 0, 1) := by decide +kernel
theorem dX1_canChangeRoster_49 : decode cX1_canChangeRoster 49 = .ok (.lcmp, 1) := by decide +kernel
theorem dX1_canChangeRoster_50 : decode cX1_canChangeRoster 50 = .ok (.ifCond .ne 7, 3) := by decide +kernel
theorem dX1_canChangeRoster_53 : decode cX1_canChangeRoster 53 = .ok (.iconst 1, 1) := by decide +kernel
theorem dX1_canChangeRoster_54 : decode cX1_canChangeRoster 54 = .ok (.goto 4, 3) := by decide +kernel
theorem dX1_canChangeRoster_57 : decode cX1_canChangeRoster 57 = .ok (.iconst 0, 1) := by decide +kernel
theorem dX1_canChangeRoster_58 : decode cX1_canChangeRoster 58 = .ok (.ireturn, 1) := by decide +kernel
theorem dX1_canBeAbsent_0 : decode cX1_canBeAbsent 0 = .ok (.lconst 1, 1) := by decide +kernel
theorem dX1_canBeAbsent_1 : decode cX1_canBeAbsent 1 = .ok (.iload_n 2, 1) := by decide +kernel
theorem dX1_canBeAbsent_2 : decode cX1_canBeAbsent 2 = .ok (.lshl, 1) := by decide +kernel
theorem dX1_canBeAbsent_3 : decode cX1_canBeAbsent 3 = .ok (.lstore_n 3, 1) := by decide +kernel
theorem dX1_canBeAbsent_4 : decode cX1_canBeAbsent 4 = .ok (.aload_n 0, 1) := by decide +kernel
theorem dX1_canBeAbsent_5 : decode cX1_canBeAbsent 5 = .ok (.getfield 15, 3) := by decide +kernel
theorem dX1_canBeAbsent_8 : decode cX1_canBeAbsent 8 = .ok (.iload_n 1, 1) := by decide +kernel
theorem dX1_canBeAbsent_9 : decode cX1_canBeAbsent 9 = .ok (.laload, 1) := by decide +kernel
theorem dX1_canBeAbsent_10 : decode cX1_canBeAbsent 10 = .ok (.aload_n 0, 1) := by decide +kernel
theorem dX1_canBeAbsent_11 : decode cX1_canBeAbsent 11 = .ok (.getfield 19, 3) := by decide +kernel
theorem dX1_canBeAbsent_14 : decode cX1_canBeAbsent 14 = .ok (.iload_n 1, 1) := by decide +kernel
theorem dX1_canBeAbsent_15 : decode cX1_canBeAbsent 15 = .ok (.laload, 1) := by decide +kernel
theorem dX1_canBeAbsent_16 : decode cX1_canBeAbsent 16 = .ok (.ldc2_w 68, 3) := by decide +kernel
theorem dX1_canBeAbsent_19 : decode cX1_canBeAbsent 19 = .ok (.lxor, 1) := by decide +kernel
theorem dX1_canBeAbsent_20 : decode cX1_canBeAbsent 20 = .ok (.land, 1) := by decide +kernel
theorem dX1_canBeAbsent_21 : decode cX1_canBeAbsent 21 = .ok (.lload_n 3, 1) := by decide +kernel
theorem dX1_canBeAbsent_22 : decode cX1_canBeAbsent 22 = .ok (.land, 1) := by decide +kernel
theorem dX1_canBeAbsent_23 : decode cX1_canBeAbsent 23 = .ok (.lconst 0, 1) := by decide +kernel
theorem dX1_canBeAbsent_24 : decode cX1_canBeAbsent 24 = .ok (.lcmp, 1) := by decide +kernel
theorem dX1_canBeAbsent_25 : decode cX1_canBeAbsent 25 = .ok (.ifCond .eq 16, 3) := by decide +kernel
theorem dX1_canBeAbsent_28 : decode cX1_canBeAbsent 28 = .ok (.aload_n 0, 1) := by decide +kernel
theorem dX1_canBeAbsent_29 : decode cX1_canBeAbsent 29 = .ok (.getfield 65, 3) := by decide +kernel
theorem dX1_canBeAbsent_32 : decode cX1_canBeAbsent 32 = .ok (.bipush 30, 2) := by decide +kernel
theorem dX1_canBeAbsent_34 : decode cX1_canBeAbsent 34 = .ok (.if_icmp .ge 7, 3) := by decide +kernel
theorem dX1_canBeAbsent_37 : decode cX1_canBeAbsent 37 = .ok (.iconst 1, 1) := by decide +kernel
theorem dX1_canBeAbsent_38 : decode cX1_canBeAbsent 38 = .ok (.goto 4, 3) := by decide +kernel
theorem dX1_canBeAbsent_41 : decode cX1_canBeAbsent 41 = .ok (.iconst 0, 1) := by decide +kernel
theorem dX1_canBeAbsent_42 : decode cX1_canBeAbsent 42 = .ok (.ireturn, 1) := by decide +kernel
set_option maxRecDepth 20000 in
theorem ggX1_enterAbsence_X1_dropBids : GoodIn wsX1_enterAbsence wsX1_dropBids := goodIn_r _ [12, 13, 14, 15, 16, 17, 18, 19, 20, 21, 22, 23, 24, 25, 26, 27, 28, 29, 30, 31] (by decide +kernel) (by decide +kernel)
set_option maxRecDepth 20000 in
theorem gX1_enterAbsence_X1_dropBids : GoodIn wsX1_enterAbsence (wsV RX1 70 RX1 yX1_dropBids wsX1_dropBids) := goodIn_app (goodIn_of _ (by decide +kernel)) ggX1_enterAbsence_X1_dropBids
theorem dX1_enterAbsence_0 : decode cX1_enterAbsence 0 = .ok (.aload_n 0, 1) := by decide +kernel
theorem dX1_enterAbsence_1 : decode cX1_enterAbsence 1 = .ok (.getfield 65, 3) := by decide +kernel
theorem dX1_enterAbsence_4 : decode cX1_enterAbsence 4 = .ok (.istore_n 3, 1) := by decide +kernel
theorem dX1_enterAbsence_5 : decode cX1_enterAbsence 5 = .ok (.aload_n 0, 1) := by decide +kernel
theorem dX1_enterAbsence_6 : decode cX1_enterAbsence 6 = .ok (.getfield 31, 3) := by decide +kernel
theorem dX1_enterAbsence_9 : decode cX1_enterAbsence 9 = .ok (.iload_n 3, 1) := by decide +kernel
theorem dX1_enterAbsence_10 : decode cX1_enterAbsence 10 = .ok (.iload_n 1, 1) := by decide +kernel
theorem dX1_enterAbsence_11 : decode cX1_enterAbsence 11 = .ok (.iastore, 1) := by decide +kernel
theorem dX1_enterAbsence_12 : decode cX1_enterAbsence 12 = .ok (.aload_n 0, 1) := by decide +kernel
theorem dX1_enterAbsence_13 : decode cX1_enterAbsence 13 = .ok (.getfield 34, 3) := by decide +kernel
theorem dX1_enterAbsence_16 : decode cX1_enterAbsence 16 = .ok (.iload_n 3, 1) := by decide +kernel
theorem dX1_enterAbsence_17 : decode cX1_enterAbsence 17 = .ok (.iload_n 2, 1) := by decide +kernel
theorem dX1_enterAbsence_18 : decode cX1_enterAbsence 18 = .ok (.iastore, 1) := by decide +kernel
theorem dX1_enterAbsence_19 : decode cX1_enterAbsence 19 = .ok (.aload_n 0, 1) := by decide +kernel
theorem dX1_enterAbsence_20 : decode cX1_enterAbsence 20 = .ok (.getfield 37, 3) := by decide +kernel
theorem dX1_enterAbsence_23 : decode cX1_enterAbsence 23 = .ok (.iload_n 3, 1) := by decide +kernel
theorem dX1_enterAbsence_24 : decode cX1_enterAbsence 24 = .ok (.iconst 0, 1) := by decide +kernel
theorem dX1_enterAbsence_25 : decode cX1_enterAbsence 25 = .ok (.iastore, 1) := by decide +kernel
theorem dX1_enterAbsence_26 : decode cX1_enterAbsence 26 = .ok (.aload_n 0, 1) := by decide +kernel
theorem dX1_enterAbsence_27 : decode cX1_enterAbsence 27 = .ok (.getfield 40, 3) := by decide +kernel
theorem dX1_enterAbsence_30 : decode cX1_enterAbsence 30 = .ok (.iload_n 3, 1) := by decide +kernel
theorem dX1_enterAbsence_31 : decode cX1_enterAbsence 31 = .ok (.iconst (-1), 1) := by decide +kernel
theorem dX1_enterAbsence_32 : decode cX1_enterAbsence 32 = .ok (.iastore, 1) := by decide +kernel
theorem dX1_enterAbsence_33 : decode cX1_enterAbsence 33 = .ok (.aload_n 0, 1) := by decide +kernel
theorem dX1_enterAbsence_34 : decode cX1_enterAbsence 34 = .ok (.getfield 43, 3) := by decide +kernel
theorem dX1_enterAbsence_37 : decode cX1_enterAbsence 37 = .ok (.iload_n 3, 1) := by decide +kernel
theorem dX1_enterAbsence_38 : decode cX1_enterAbsence 38 = .ok (.iconst 0, 1) := by decide +kernel
theorem dX1_enterAbsence_39 : decode cX1_enterAbsence 39 = .ok (.iastore, 1) := by decide +kernel
theorem dX1_enterAbsence_40 : decode cX1_enterAbsence 40 = .ok (.aload_n 0, 1) := by decide +kernel
theorem dX1_enterAbsence_41 : decode cX1_enterAbsence 41 = .ok (.iload_n 3, 1) := by decide +kernel
theorem dX1_enterAbsence_42 : decode cX1_enterAbsence 42 = .ok (.invokevirtual 70, 3) := by decide +kernel
theorem dX1_enterAbsence_45 : decode cX1_enterAbsence 45 = .ok (.aload_n 0, 1) := by decide +kernel
theorem dX1_enterAbsence_46 : decode cX1_enterAbsence 46 = .ok (.getfield 19, 3) := by decide +kernel
theorem dX1_enterAbsence_49 : decode cX1_enterAbsence 49 = .ok (.iload_n 1, 1) := by decide +kernel
theorem dX1_enterAbsence_50 : decode cX1_enterAbsence 50 = .ok (.dup2, 1) := by decide +kernel
theorem dX1_enterAbsence_51 : decode cX1_enterAbsence 51 = .ok (.laload, 1) := by decide +kernel
theorem dX1_enterAbsence_52 : decode cX1_enterAbsence 52 = .ok (.lconst 1, 1) := by decide +kernel
theorem dX1_enterAbsence_53 : decode cX1_enterAbsence 53 = .ok (.iload_n 2, 1) := by decide +kernel
theorem dX1_enterAbsence_54 : decode cX1_enterAbsence 54 = .ok (.lshl, 1) := by decide +kernel
theorem dX1_enterAbsence_55 : decode cX1_enterAbsence 55 = .ok (.lor, 1) := by decide +kernel
theorem dX1_enterAbsence_56 : decode cX1_enterAbsence 56 = .ok (.lastore, 1) := by decide +kernel
theorem dX1_enterAbsence_57 : decode cX1_enterAbsence 57 = .ok (.aload_n 0, 1) := by decide +kernel
theorem dX1_enterAbsence_58 : decode cX1_enterAbsence 58 = .ok (.dup, 1) := by decide +kernel
theorem dX1_enterAbsence_59 : decode cX1_enterAbsence 59 = .ok (.getfield 65, 3) := by decide +kernel
theorem dX1_enterAbsence_62 : decode cX1_enterAbsence 62 = .ok (.iconst 1, 1) := by decide +kernel
theorem dX1_enterAbsence_63 : decode cX1_enterAbsence 63 = .ok (.iadd, 1) := by decide +kernel
theorem dX1_enterAbsence_64 : decode cX1_enterAbsence 64 = .ok (.putfield 65, 3) := by decide +kernel
theorem dX1_enterAbsence_67 : decode cX1_enterAbsence 67 = .ok (.iload_n 3, 1) := by decide +kernel
theorem dX1_enterAbsence_68 : decode cX1_enterAbsence 68 = .ok (.ireturn, 1) := by decide +kernel
theorem dX1_canBid_0 : decode cX1_canBid 0 = .ok (.aload_n 0, 1) := by decide +kernel
theorem dX1_canBid_1 : decode cX1_canBid 1 = .ok (.getfield 37, 3) := by decide +kernel
theorem dX1_canBid_4 : decode cX1_canBid 4 = .ok (.iload_n 2, 1) := by decide +kernel
theorem dX1_canBid_5 : decode cX1_canBid 5 = .ok (.iaload, 1) := by decide +kernel
theorem dX1_canBid_6 : decode cX1_canBid 6 = .ok (.ifCond .ne 17, 3) := by decide +kernel
theorem dX1_canBid_9 : decode cX1_canBid 9 = .ok (.aload_n 0, 1) := by decide +kernel
theorem dX1_canBid_10 : decode cX1_canBid 10 = .ok (.getfield 31, 3) := by decide +kernel
theorem dX1_canBid_13 : decode cX1_canBid 13 = .ok (.iload_n 2, 1) := by decide +kernel
theorem dX1_canBid_14 : decode cX1_canBid 14 = .ok (.iaload, 1) := by decide +kernel
theorem dX1_canBid_15 : decode cX1_canBid 15 = .ok (.iload_n 1, 1) := by decide +kernel
theorem dX1_canBid_16 : decode cX1_canBid 16 = .ok (.if_icmp .eq 7, 3) := by decide +kernel
theorem dX1_canBid_19 : decode cX1_canBid 19 = .ok (.iconst 1, 1) := by decide +kernel
theorem dX1_canBid_20 : decode cX1_canBid 20 = .ok (.goto 4, 3) := by decide +kernel
theorem dX1_canBid_23 : decode cX1_canBid 23 = .ok (.iconst 0, 1) := by decide +kernel
theorem dX1_canBid_24 : decode cX1_canBid 24 = .ok (.ireturn, 1) := by decide +kernel
set_option maxRecDepth 20000 in
theorem ggX1_bidsFor_X2_bidIndex : GoodIn wsX1_bidsFor wsX2_bidIndex := goodIn_r _ [5] (by decide +kernel) (by decide +kernel)
set_option maxRecDepth 20000 in
theorem gX1_bidsFor_X2_bidIndex_n74 : GoodIn wsX1_bidsFor (wsX2_bidIndex) := ggX1_bidsFor_X2_bidIndex
theorem dX1_bidsFor_0 : decode cX1_bidsFor 0 = .ok (.iconst 0, 1) := by decide +kernel
theorem dX1_bidsFor_1 : decode cX1_bidsFor 1 = .ok (.istore_n 2, 1) := by decide +kernel
theorem dX1_bidsFor_2 : decode cX1_bidsFor 2 = .ok (.iconst 0, 1) := by decide +kernel
theorem dX1_bidsFor_3 : decode cX1_bidsFor 3 = .ok (.istore_n 3, 1) := by decide +kernel
theorem dX1_bidsFor_4 : decode cX1_bidsFor 4 = .ok (.iload_n 3, 1) := by decide +kernel
theorem dX1_bidsFor_5 : decode cX1_bidsFor 5 = .ok (.aload_n 0, 1) := by decide +kernel
theorem dX1_bidsFor_6 : decode cX1_bidsFor 6 = .ok (.getfield 62, 3) := by decide +kernel
theorem dX1_bidsFor_9 : decode cX1_bidsFor 9 = .ok (.if_icmp .ge 26, 3) := by decide +kernel
theorem dX1_bidsFor_12 : decode cX1_bidsFor 12 = .ok (.aload_n 0, 1) := by decide +kernel
theorem dX1_bidsFor_13 : decode cX1_bidsFor 13 = .ok (.getfield 46, 3) := by decide +kernel
theorem dX1_bidsFor_16 : decode cX1_bidsFor 16 = .ok (.iload_n 3, 1) := by decide +kernel
theorem dX1_bidsFor_17 : decode cX1_bidsFor 17 = .ok (.iload_n 1, 1) := by decide +kernel
theorem dX1_bidsFor_18 : decode cX1_bidsFor 18 = .ok (.invokestatic 74, 3) := by decide +kernel
theorem dX1_bidsFor_21 : decode cX1_bidsFor 21 = .ok (.iaload, 1) := by decide +kernel
theorem dX1_bidsFor_22 : decode cX1_bidsFor 22 = .ok (.iconst (-1), 1) := by decide +kernel
theorem dX1_bidsFor_23 : decode cX1_bidsFor 23 = .ok (.if_icmp .eq 6, 3) := by decide +kernel
theorem dX1_bidsFor_26 : decode cX1_bidsFor 26 = .ok (.iinc 2 1, 3) := by decide +kernel
theorem dX1_bidsFor_29 : decode cX1_bidsFor 29 = .ok (.iinc 3 1, 3) := by decide +kernel
theorem dX1_bidsFor_32 : decode cX1_bidsFor 32 = .ok (.goto (-28), 3) := by decide +kernel
theorem dX1_bidsFor_35 : decode cX1_bidsFor 35 = .ok (.iload_n 2, 1) := by decide +kernel
theorem dX1_bidsFor_36 : decode cX1_bidsFor 36 = .ok (.ireturn, 1) := by decide +kernel
set_option maxRecDepth 20000 in
theorem ggX1_bidsBy_X2_bidIndex : GoodIn wsX1_bidsBy wsX2_bidIndex := goodIn_r _ [5] (by decide +kernel) (by decide +kernel)
set_option maxRecDepth 20000 in
theorem gX1_bidsBy_X2_bidIndex_n74 : GoodIn wsX1_bidsBy (wsX2_bidIndex) := ggX1_bidsBy_X2_bidIndex
theorem dX1_bidsBy_0 : decode cX1_bidsBy 0 = .ok (.iconst 0, 1) := by decide +kernel
theorem dX1_bidsBy_1 : decode cX1_bidsBy 1 = .ok (.istore_n 2, 1) := by decide +kernel
theorem dX1_bidsBy_2 : decode cX1_bidsBy 2 = .ok (.iconst 0, 1) := by decide +kernel
theorem dX1_bidsBy_3 : decode cX1_bidsBy 3 = .ok (.istore_n 3, 1) := by decide +kernel
theorem dX1_bidsBy_4 : decode cX1_bidsBy 4 = .ok (.iload_n 3, 1) := by decide +kernel
theorem dX1_bidsBy_5 : decode cX1_bidsBy 5 = .ok (.aload_n 0, 1) := by decide +kernel
theorem dX1_bidsBy_6 : decode cX1_bidsBy 6 = .ok (.getfield 65, 3) := by decide +kernel
theorem dX1_bidsBy_9 : decode cX1_bidsBy 9 = .ok (.if_icmp .ge 26, 3) := by decide +kernel
theorem dX1_bidsBy_12 : decode cX1_bidsBy 12 = .ok (.aload_n 0, 1) := by decide +kernel
theorem dX1_bidsBy_13 : decode cX1_bidsBy 13 = .ok (.getfield 46, 3) := by decide +kernel
theorem dX1_bidsBy_16 : decode cX1_bidsBy 16 = .ok (.iload_n 1, 1) := by decide +kernel
theorem dX1_bidsBy_17 : decode cX1_bidsBy 17 = .ok (.iload_n 3, 1) := by decide +kernel
theorem dX1_bidsBy_18 : decode cX1_bidsBy 18 = .ok (.invokestatic 74, 3) := by decide +kernel
theorem dX1_bidsBy_21 : decode cX1_bidsBy 21 = .ok (.iaload, 1) := by decide +kernel
theorem dX1_bidsBy_22 : decode cX1_bidsBy 22 = .ok (.iconst (-1), 1) := by decide +kernel
theorem dX1_bidsBy_23 : decode cX1_bidsBy 23 = .ok (.if_icmp .eq 6, 3) := by decide +kernel
theorem dX1_bidsBy_26 : decode cX1_bidsBy 26 = .ok (.iinc 2 1, 3) := by decide +kernel
theorem dX1_bidsBy_29 : decode cX1_bidsBy 29 = .ok (.iinc 3 1, 3) := by decide +kernel
theorem dX1_bidsBy_32 : decode cX1_bidsBy 32 = .ok (.goto (-28), 3) := by decide +kernel
theorem dX1_bidsBy_35 : decode cX1_bidsBy 35 = .ok (.iload_n 2, 1) := by decide +kernel
theorem dX1_bidsBy_36 : decode cX1_bidsBy 36 = .ok (.ireturn, 1) := by decide +kernel
set_option maxRecDepth 20000 in
theorem ggX1_dropBids_X2_bidIndex : GoodIn wsX1_dropBids wsX2_bidIndex := goodIn_r _ [4] (by decide +kernel) (by decide +kernel)
set_option maxRecDepth 20000 in
theorem gX1_dropBids_X2_bidIndex_n74 : GoodIn wsX1_dropBids (wsX2_bidIndex) := ggX1_dropBids_X2_bidIndex
theorem dX1_dropBids_0 : decode cX1_dropBids 0 = .ok (.iconst 0, 1) := by decide +kernel
theorem dX1_dropBids_1 : decode cX1_dropBids 1 = .ok (.istore_n 2, 1) := by decide +kernel
theorem dX1_dropBids_2 : decode cX1_dropBids 2 = .ok (.iload_n 2, 1) := by decide +kernel
theorem dX1_dropBids_3 : decode cX1_dropBids 3 = .ok (.bipush 8, 2) := by decide +kernel
theorem dX1_dropBids_5 : decode cX1_dropBids 5 = .ok (.if_icmp .ge 20, 3) := by decide +kernel
theorem dX1_dropBids_8 : decode cX1_dropBids 8 = .ok (.aload_n 0, 1) := by decide +kernel
theorem dX1_dropBids_9 : decode cX1_dropBids 9 = .ok (.getfield 46, 3) := by decide +kernel
theorem dX1_dropBids_12 : decode cX1_dropBids 12 = .ok (.iload_n 2, 1) := by decide +kernel
theorem dX1_dropBids_13 : decode cX1_dropBids 13 = .ok (.iload_n 1, 1) := by decide +kernel
theorem dX1_dropBids_14 : decode cX1_dropBids 14 = .ok (.invokestatic 74, 3) := by decide +kernel
theorem dX1_dropBids_17 : decode cX1_dropBids 17 = .ok (.iconst (-1), 1) := by decide +kernel
theorem dX1_dropBids_18 : decode cX1_dropBids 18 = .ok (.iastore, 1) := by decide +kernel
theorem dX1_dropBids_19 : decode cX1_dropBids 19 = .ok (.iinc 2 1, 3) := by decide +kernel
theorem dX1_dropBids_22 : decode cX1_dropBids 22 = .ok (.goto (-20), 3) := by decide +kernel
theorem dX1_dropBids_25 : decode cX1_dropBids 25 = .ok (.return_, 1) := by decide +kernel
theorem dX1_worked_0 : decode cX1_worked 0 = .ok (.aload_n 0, 1) := by decide +kernel
theorem dX1_worked_1 : decode cX1_worked 1 = .ok (.getfield 15, 3) := by decide +kernel
theorem dX1_worked_4 : decode cX1_worked 4 = .ok (.iload_n 1, 1) := by decide +kernel
theorem dX1_worked_5 : decode cX1_worked 5 = .ok (.laload, 1) := by decide +kernel
theorem dX1_worked_6 : decode cX1_worked 6 = .ok (.aload_n 0, 1) := by decide +kernel
theorem dX1_worked_7 : decode cX1_worked 7 = .ok (.getfield 19, 3) := by decide +kernel
theorem dX1_worked_10 : decode cX1_worked 10 = .ok (.iload_n 1, 1) := by decide +kernel
theorem dX1_worked_11 : decode cX1_worked 11 = .ok (.laload, 1) := by decide +kernel
theorem dX1_worked_12 : decode cX1_worked 12 = .ok (.ldc2_w 68, 3) := by decide +kernel
theorem dX1_worked_15 : decode cX1_worked 15 = .ok (.lxor, 1) := by decide +kernel
theorem dX1_worked_16 : decode cX1_worked 16 = .ok (.land, 1) := by decide +kernel
theorem dX1_worked_17 : decode cX1_worked 17 = .ok (.aload_n 0, 1) := by decide +kernel
theorem dX1_worked_18 : decode cX1_worked 18 = .ok (.getfield 22, 3) := by decide +kernel
theorem dX1_worked_21 : decode cX1_worked 21 = .ok (.iload_n 1, 1) := by decide +kernel
theorem dX1_worked_22 : decode cX1_worked 22 = .ok (.laload, 1) := by decide +kernel
theorem dX1_worked_23 : decode cX1_worked 23 = .ok (.lor, 1) := by decide +kernel
theorem dX1_worked_24 : decode cX1_worked 24 = .ok (.lreturn, 1) := by decide +kernel
theorem dX1_restBehind_0 : decode cX1_restBehind 0 = .ok (.lconst 0, 1) := by decide +kernel
theorem dX1_restBehind_1 : decode cX1_restBehind 1 = .ok (.lstore_n 3, 1) := by decide +kernel
theorem dX1_restBehind_2 : decode cX1_restBehind 2 = .ok (.iconst 1, 1) := by decide +kernel
theorem dX1_restBehind_3 : decode cX1_restBehind 3 = .ok (.istore 5, 2) := by decide +kernel
theorem dX1_restBehind_5 : decode cX1_restBehind 5 = .ok (.iload 5, 2) := by decide +kernel
theorem dX1_restBehind_7 : decode cX1_restBehind 7 = .ok (.aload_n 0, 1) := by decide +kernel
theorem dX1_restBehind_8 : decode cX1_restBehind 8 = .ok (.getfield 9, 3) := by decide +kernel
theorem dX1_restBehind_11 : decode cX1_restBehind 11 = .ok (.iconst 0, 1) := by decide +kernel
theorem dX1_restBehind_12 : decode cX1_restBehind 12 = .ok (.iaload, 1) := by decide +kernel
theorem dX1_restBehind_13 : decode cX1_restBehind 13 = .ok (.if_icmp .gt 16, 3) := by decide +kernel
theorem dX1_restBehind_16 : decode cX1_restBehind 16 = .ok (.lload_n 3, 1) := by decide +kernel
theorem dX1_restBehind_17 : decode cX1_restBehind 17 = .ok (.lload_n 1, 1) := by decide +kernel
theorem dX1_restBehind_18 : decode cX1_restBehind 18 = .ok (.iload 5, 2) := by decide +kernel
theorem dX1_restBehind_20 : decode cX1_restBehind 20 = .ok (.lshl, 1) := by decide +kernel
theorem dX1_restBehind_21 : decode cX1_restBehind 21 = .ok (.lor, 1) := by decide +kernel
theorem dX1_restBehind_22 : decode cX1_restBehind 22 = .ok (.lstore_n 3, 1) := by decide +kernel
theorem dX1_restBehind_23 : decode cX1_restBehind 23 = .ok (.iinc 5 1, 3) := by decide +kernel
theorem dX1_restBehind_26 : decode cX1_restBehind 26 = .ok (.goto (-21), 3) := by decide +kernel
theorem dX1_restBehind_29 : decode cX1_restBehind 29 = .ok (.lload_n 3, 1) := by decide +kernel
theorem dX1_restBehind_30 : decode cX1_restBehind 30 = .ok (.lreturn, 1) := by decide +kernel
theorem dX1_restBefore_0 : decode cX1_restBefore 0 = .ok (.lconst 0, 1) := by decide +kernel
theorem dX1_restBefore_1 : decode cX1_restBefore 1 = .ok (.lstore_n 3, 1) := by decide +kernel
theorem dX1_restBefore_2 : decode cX1_restBefore 2 = .ok (.iconst 1, 1) := by decide +kernel
theorem dX1_restBefore_3 : decode cX1_restBefore 3 = .ok (.istore 5, 2) := by decide +kernel
theorem dX1_restBefore_5 : decode cX1_restBefore 5 = .ok (.iload 5, 2) := by decide +kernel
theorem dX1_restBefore_7 : decode cX1_restBefore 7 = .ok (.aload_n 0, 1) := by decide +kernel
theorem dX1_restBefore_8 : decode cX1_restBefore 8 = .ok (.getfield 9, 3) := by decide +kernel
theorem dX1_restBefore_11 : decode cX1_restBefore 11 = .ok (.iconst 0, 1) := by decide +kernel
theorem dX1_restBefore_12 : decode cX1_restBefore 12 = .ok (.iaload, 1) := by decide +kernel
theorem dX1_restBefore_13 : decode cX1_restBefore 13 = .ok (.if_icmp .gt 16, 3) := by decide +kernel
theorem dX1_restBefore_16 : decode cX1_restBefore 16 = .ok (.lload_n 3, 1) := by decide +kernel
theorem dX1_restBefore_17 : decode cX1_restBefore 17 = .ok (.lload_n 1, 1) := by decide +kernel
theorem dX1_restBefore_18 : decode cX1_restBefore 18 = .ok (.iload 5, 2) := by decide +kernel
theorem dX1_restBefore_20 : decode cX1_restBefore 20 = .ok (.lushr, 1) := by decide +kernel
theorem dX1_restBefore_21 : decode cX1_restBefore 21 = .ok (.lor, 1) := by decide +kernel
theorem dX1_restBefore_22 : decode cX1_restBefore 22 = .ok (.lstore_n 3, 1) := by decide +kernel
theorem dX1_restBefore_23 : decode cX1_restBefore 23 = .ok (.iinc 5 1, 3) := by decide +kernel
theorem dX1_restBefore_26 : decode cX1_restBefore 26 = .ok (.goto (-21), 3) := by decide +kernel
theorem dX1_restBefore_29 : decode cX1_restBefore 29 = .ok (.lload_n 3, 1) := by decide +kernel
theorem dX1_restBefore_30 : decode cX1_restBefore 30 = .ok (.lreturn, 1) := by decide +kernel
set_option maxRecDepth 20000 in
theorem ggX1_free_X1_worked : GoodIn wsX1_free wsX1_worked := goodIn_r _ [8, 9, 2, 3, 10, 20, 21, 22, 23, 24, 25, 26, 27, 28, 29, 30, 31, 32, 33, 34] (by decide +kernel) (by decide +kernel)
set_option maxRecDepth 20000 in
theorem gX1_free_X1_worked : GoodIn wsX1_free (wsV RX1 78 RX1 yX1_worked wsX1_worked) := goodIn_app (goodIn_of _ (by decide +kernel)) ggX1_free_X1_worked
set_option maxRecDepth 20000 in
theorem ggX1_free_X1_restBehind : GoodIn wsX1_free wsX1_restBehind := goodIn_r _ [14, 15, 20, 21, 22, 23, 24, 25, 26, 27, 28, 29, 30, 31, 32, 33, 34] (by decide +kernel) (by decide +kernel)
set_option maxRecDepth 20000 in
theorem gX1_free_X1_restBehind : GoodIn wsX1_free (wsV RX1 84 RX1 yX1_restBehind wsX1_restBehind) := goodIn_app (goodIn_of _ (by decide +kernel)) ggX1_free_X1_restBehind
set_option maxRecDepth 20000 in
theorem ggX1_free_X1_restBefore : GoodIn wsX1_free wsX1_restBefore := goodIn_r _ [19, 15, 20, 21, 22, 23, 24, 25, 26, 27, 28, 29, 30, 31, 32, 33, 34] (by decide +kernel) (by decide +kernel)
set_option maxRecDepth 20000 in
theorem gX1_free_X1_restBefore : GoodIn wsX1_free (wsV RX1 88 RX1 yX1_restBefore wsX1_restBefore) := goodIn_app (goodIn_of _ (by decide +kernel)) ggX1_free_X1_restBefore
theorem dX1_free_0 : decode cX1_free 0 = .ok (.aload_n 0, 1) := by decide +kernel
theorem dX1_free_1 : decode cX1_free 1 = .ok (.iload_n 1, 1) := by decide +kernel
theorem dX1_free_2 : decode cX1_free 2 = .ok (.invokevirtual 78, 3) := by decide +kernel
theorem dX1_free_5 : decode cX1_free 5 = .ok (.lstore_n 2, 1) := by decide +kernel
theorem dX1_free_6 : decode cX1_free 6 = .ok (.ldc2_w 82, 3) := by decide +kernel
theorem dX1_free_9 : decode cX1_free 9 = .ok (.aload_n 0, 1) := by decide +kernel
theorem dX1_free_10 : decode cX1_free 10 = .ok (.getfield 19, 3) := by decide +kernel
theorem dX1_free_13 : decode cX1_free 13 = .ok (.iload_n 1, 1) := by decide +kernel
theorem dX1_free_14 : decode cX1_free 14 = .ok (.laload, 1) := by decide +kernel
theorem dX1_free_15 : decode cX1_free 15 = .ok (.lload_n 2, 1) := by decide +kernel
theorem dX1_free_16 : decode cX1_free 16 = .ok (.lor, 1) := by decide +kernel
theorem dX1_free_17 : decode cX1_free 17 = .ok (.aload_n 0, 1) := by decide +kernel
theorem dX1_free_18 : decode cX1_free 18 = .ok (.lload_n 2, 1) := by decide +kernel
theorem dX1_free_19 : decode cX1_free 19 = .ok (.invokevirtual 84, 3) := by decide +kernel
theorem dX1_free_22 : decode cX1_free 22 = .ok (.lor, 1) := by decide +kernel
theorem dX1_free_23 : decode cX1_free 23 = .ok (.aload_n 0, 1) := by decide +kernel
theorem dX1_free_24 : decode cX1_free 24 = .ok (.lload_n 2, 1) := by decide +kernel
theorem dX1_free_25 : decode cX1_free 25 = .ok (.invokevirtual 88, 3) := by decide +kernel
theorem dX1_free_28 : decode cX1_free 28 = .ok (.lor, 1) := by decide +kernel
theorem dX1_free_29 : decode cX1_free 29 = .ok (.ldc2_w 68, 3) := by decide +kernel
theorem dX1_free_32 : decode cX1_free 32 = .ok (.lxor, 1) := by decide +kernel
theorem dX1_free_33 : decode cX1_free 33 = .ok (.land, 1) := by decide +kernel
theorem dX1_free_34 : decode cX1_free 34 = .ok (.lreturn, 1) := by decide +kernel
set_option maxRecDepth 20000 in
theorem ggX1_hindrance_X1_worked : GoodIn wsX1_hindrance wsX1_worked := goodIn_r _ [8, 9, 3, 10, 11, 21, 22, 23, 24, 25, 26, 27, 28, 29, 30, 31, 32, 33, 34, 35] (by decide +kernel) (by decide +kernel)
set_option maxRecDepth 20000 in
theorem gX1_hindrance_X1_worked : GoodIn wsX1_hindrance (wsV RX1 78 RX1 yX1_worked wsX1_worked) := goodIn_app (goodIn_of _ (by decide +kernel)) ggX1_hindrance_X1_worked
set_option maxRecDepth 20000 in
theorem ggX1_hindrance_X1_restBehind : GoodIn wsX1_hindrance wsX1_restBehind := goodIn_r _ [15, 16, 21, 22, 23, 24, 25, 26, 27, 28, 29, 30, 31, 32, 33, 34, 35] (by decide +kernel) (by decide +kernel)
set_option maxRecDepth 20000 in
theorem gX1_hindrance_X1_restBehind : GoodIn wsX1_hindrance (wsV RX1 84 RX1 yX1_restBehind wsX1_restBehind) := goodIn_app (goodIn_of _ (by decide +kernel)) ggX1_hindrance_X1_restBehind
set_option maxRecDepth 20000 in
theorem ggX1_hindrance_X1_restBefore : GoodIn wsX1_hindrance wsX1_restBefore := goodIn_r _ [20, 16, 21, 22, 23, 24, 25, 26, 27, 28, 29, 30, 31, 32, 33, 34, 35] (by decide +kernel) (by decide +kernel)
set_option maxRecDepth 20000 in
theorem gX1_hindrance_X1_restBefore : GoodIn wsX1_hindrance (wsV RX1 88 RX1 yX1_restBefore wsX1_restBefore) := goodIn_app (goodIn_of _ (by decide +kernel)) ggX1_hindrance_X1_restBefore
theorem dX1_hindrance_0 : decode cX1_hindrance 0 = .ok (.aload_n 0, 1) := by decide +kernel
theorem dX1_hindrance_1 : decode cX1_hindrance 1 = .ok (.getfield 31, 3) := by decide +kernel
theorem dX1_hindrance_4 : decode cX1_hindrance 4 = .ok (.iload_n 2, 1) := by decide +kernel
theorem dX1_hindrance_5 : decode cX1_hindrance 5 = .ok (.iaload, 1) := by decide +kernel
theorem dX1_hindrance_6 : decode cX1_hindrance 6 = .ok (.iload_n 1, 1) := by decide +kernel
theorem dX1_hindrance_7 : decode cX1_hindrance 7 = .ok (.if_icmp .ne 5, 3) := by decide +kernel
theorem dX1_hindrance_10 : decode cX1_hindrance 10 = .ok (.iconst 1, 1) := by decide +kernel
theorem dX1_hindrance_11 : decode cX1_hindrance 11 = .ok (.ireturn, 1) := by decide +kernel
theorem dX1_hindrance_12 : decode cX1_hindrance 12 = .ok (.lconst 1, 1) := by decide +kernel
theorem dX1_hindrance_13 : decode cX1_hindrance 13 = .ok (.aload_n 0, 1) := by decide +kernel
theorem dX1_hindrance_14 : decode cX1_hindrance 14 = .ok (.getfield 34, 3) := by decide +kernel
theorem dX1_hindrance_17 : decode cX1_hindrance 17 = .ok (.iload_n 2, 1) := by decide +kernel
theorem dX1_hindrance_18 : decode cX1_hindrance 18 = .ok (.iaload, 1) := by decide +kernel
theorem dX1_hindrance_19 : decode cX1_hindrance 19 = .ok (.lshl, 1) := by decide +kernel
theorem dX1_hindrance_20 : decode cX1_hindrance 20 = .ok (.lstore_n 3, 1) := by decide +kernel
theorem dX1_hindrance_21 : decode cX1_hindrance 21 = .ok (.aload_n 0, 1) := by decide +kernel
theorem dX1_hindrance_22 : decode cX1_hindrance 22 = .ok (.getfield 19, 3) := by decide +kernel
theorem dX1_hindrance_25 : decode cX1_hindrance 25 = .ok (.iload_n 1, 1) := by decide +kernel
theorem dX1_hindrance_26 : decode cX1_hindrance 26 = .ok (.laload, 1) := by decide +kernel
theorem dX1_hindrance_27 : decode cX1_hindrance 27 = .ok (.lload_n 3, 1) := by decide +kernel
theorem dX1_hindrance_28 : decode cX1_hindrance 28 = .ok (.land, 1) := by decide +kernel
theorem dX1_hindrance_29 : decode cX1_hindrance 29 = .ok (.lconst 0, 1) := by decide +kernel
theorem dX1_hindrance_30 : decode cX1_hindrance 30 = .ok (.lcmp, 1) := by decide +kernel
theorem dX1_hindrance_31 : decode cX1_hindrance 31 = .ok (.ifCond .eq 5, 3) := by decide +kernel
theorem dX1_hindrance_34 : decode cX1_hindrance 34 = .ok (.iconst 2, 1) := by decide +kernel
theorem dX1_hindrance_35 : decode cX1_hindrance 35 = .ok (.ireturn, 1) := by decide +kernel
theorem dX1_hindrance_36 : decode cX1_hindrance 36 = .ok (.aload_n 0, 1) := by decide +kernel
theorem dX1_hindrance_37 : decode cX1_hindrance 37 = .ok (.iload_n 1, 1) := by decide +kernel
theorem dX1_hindrance_38 : decode cX1_hindrance 38 = .ok (.invokevirtual 78, 3) := by decide +kernel
theorem dX1_hindrance_41 : decode cX1_hindrance 41 = .ok (.lstore 5, 2) := by decide +kernel
theorem dX1_hindrance_43 : decode cX1_hindrance 43 = .ok (.lload 5, 2) := by decide +kernel
theorem dX1_hindrance_45 : decode cX1_hindrance 45 = .ok (.lload_n 3, 1) := by decide +kernel
theorem dX1_hindrance_46 : decode cX1_hindrance 46 = .ok (.land, 1) := by decide +kernel
theorem dX1_hindrance_47 : decode cX1_hindrance 47 = .ok (.lconst 0, 1) := by decide +kernel
theorem dX1_hindrance_48 : decode cX1_hindrance 48 = .ok (.lcmp, 1) := by decide +kernel
theorem dX1_hindrance_49 : decode cX1_hindrance 49 = .ok (.ifCond .eq 5, 3) := by decide +kernel
theorem dX1_hindrance_52 : decode cX1_hindrance 52 = .ok (.iconst 3, 1) := by decide +kernel
theorem dX1_hindrance_53 : decode cX1_hindrance 53 = .ok (.ireturn, 1) := by decide +kernel
theorem dX1_hindrance_54 : decode cX1_hindrance 54 = .ok (.aload_n 0, 1) := by decide +kernel
theorem dX1_hindrance_55 : decode cX1_hindrance 55 = .ok (.lload 5, 2) := by decide +kernel
theorem dX1_hindrance_57 : decode cX1_hindrance 57 = .ok (.invokevirtual 84, 3) := by decide +kernel
theorem dX1_hindrance_60 : decode cX1_hindrance 60 = .ok (.lload_n 3, 1) := by decide +kernel
theorem dX1_hindrance_61 : decode cX1_hindrance 61 = .ok (.land, 1) := by decide +kernel
theorem dX1_hindrance_62 : decode cX1_hindrance 62 = .ok (.lconst 0, 1) := by decide +kernel
theorem dX1_hindrance_63 : decode cX1_hindrance 63 = .ok (.lcmp, 1) := by decide +kernel
theorem dX1_hindrance_64 : decode cX1_hindrance 64 = .ok (.ifCond .eq 5, 3) := by decide +kernel
theorem dX1_hindrance_67 : decode cX1_hindrance 67 = .ok (.iconst 4, 1) := by decide +kernel
theorem dX1_hindrance_68 : decode cX1_hindrance 68 = .ok (.ireturn, 1) := by decide +kernel
theorem dX1_hindrance_69 : decode cX1_hindrance 69 = .ok (.aload_n 0, 1) := by decide +kernel
theorem dX1_hindrance_70 : decode cX1_hindrance 70 = .ok (.lload 5, 2) := by decide +kernel
theorem dX1_hindrance_72 : decode cX1_hindrance 72 = .ok (.invokevirtual 88, 3) := by decide +kernel
theorem dX1_hindrance_75 : decode cX1_hindrance 75 = .ok (.lload_n 3, 1) := by decide +kernel
theorem dX1_hindrance_76 : decode cX1_hindrance 76 = .ok (.land, 1) := by decide +kernel
theorem dX1_hindrance_77 : decode cX1_hindrance 77 = .ok (.lconst 0, 1) := by decide +kernel
theorem dX1_hindrance_78 : decode cX1_hindrance 78 = .ok (.lcmp, 1) := by decide +kernel
theorem dX1_hindrance_79 : decode cX1_hindrance 79 = .ok (.ifCond .eq 7, 3) := by decide +kernel
theorem dX1_hindrance_82 : decode cX1_hindrance 82 = .ok (.iconst 5, 1) := by decide +kernel
theorem dX1_hindrance_83 : decode cX1_hindrance 83 = .ok (.goto 4, 3) := by decide +kernel
theorem dX1_hindrance_86 : decode cX1_hindrance 86 = .ok (.iconst 0, 1) := by decide +kernel
theorem dX1_hindrance_87 : decode cX1_hindrance 87 = .ok (.ireturn, 1) := by decide +kernel
set_option maxRecDepth 20000 in
theorem ggX1_personsWhoCanCover_X1_hindrance : GoodIn wsX1_personsWhoCanCover wsX1_hindrance := goodIn_r _ [6, 7, 8, 9, 10, 11, 12, 5, 13, 14, 15, 16, 17, 18, 19, 20, 21, 22, 23, 24, 25, 26, 27, 28, 29, 30, 31, 32, 33, 34, 35, 36, 37, 38, 39, 40] (by decide +kernel) (by decide +kernel)
set_option maxRecDepth 20000 in
theorem gX1_personsWhoCanCover_X1_hindrance : GoodIn wsX1_personsWhoCanCover (wsV RX1 91 RX1 yX1_hindrance wsX1_hindrance) := goodIn_app (goodIn_of _ (by decide +kernel)) ggX1_personsWhoCanCover_X1_hindrance
theorem dX1_personsWhoCanCover_0 : decode cX1_personsWhoCanCover 0 = .ok (.iconst 0, 1) := by decide +kernel
theorem dX1_personsWhoCanCover_1 : decode cX1_personsWhoCanCover 1 = .ok (.istore_n 2, 1) := by decide +kernel
theorem dX1_personsWhoCanCover_2 : decode cX1_personsWhoCanCover 2 = .ok (.iconst 0, 1) := by decide +kernel
theorem dX1_personsWhoCanCover_3 : decode cX1_personsWhoCanCover 3 = .ok (.istore_n 3, 1) := by decide +kernel
theorem dX1_personsWhoCanCover_4 : decode cX1_personsWhoCanCover 4 = .ok (.iload_n 3, 1) := by decide +kernel
theorem dX1_personsWhoCanCover_5 : decode cX1_personsWhoCanCover 5 = .ok (.aload_n 0, 1) := by decide +kernel
theorem dX1_personsWhoCanCover_6 : decode cX1_personsWhoCanCover 6 = .ok (.getfield 62, 3) := by decide +kernel
theorem dX1_personsWhoCanCover_9 : decode cX1_personsWhoCanCover 9 = .ok (.if_icmp .ge 24, 3) := by decide +kernel
theorem dX1_personsWhoCanCover_12 : decode cX1_personsWhoCanCover 12 = .ok (.aload_n 0, 1) := by decide +kernel
theorem dX1_personsWhoCanCover_13 : decode cX1_personsWhoCanCover 13 = .ok (.iload_n 3, 1) := by decide +kernel
theorem dX1_personsWhoCanCover_14 : decode cX1_personsWhoCanCover 14 = .ok (.iload_n 1, 1) := by decide +kernel
theorem dX1_personsWhoCanCover_15 : decode cX1_personsWhoCanCover 15 = .ok (.invokevirtual 91, 3) := by decide +kernel
theorem dX1_personsWhoCanCover_18 : decode cX1_personsWhoCanCover 18 = .ok (.ifCond .ne 9, 3) := by decide +kernel
theorem dX1_personsWhoCanCover_21 : decode cX1_personsWhoCanCover 21 = .ok (.iload_n 2, 1) := by decide +kernel
theorem dX1_personsWhoCanCover_22 : decode cX1_personsWhoCanCover 22 = .ok (.iconst 1, 1) := by decide +kernel
theorem dX1_personsWhoCanCover_23 : decode cX1_personsWhoCanCover 23 = .ok (.iload_n 3, 1) := by decide +kernel
theorem dX1_personsWhoCanCover_24 : decode cX1_personsWhoCanCover 24 = .ok (.ishl, 1) := by decide +kernel
theorem dX1_personsWhoCanCover_25 : decode cX1_personsWhoCanCover 25 = .ok (.ior, 1) := by decide +kernel
theorem dX1_personsWhoCanCover_26 : decode cX1_personsWhoCanCover 26 = .ok (.istore_n 2, 1) := by decide +kernel
theorem dX1_personsWhoCanCover_27 : decode cX1_personsWhoCanCover 27 = .ok (.iinc 3 1, 3) := by decide +kernel
theorem dX1_personsWhoCanCover_30 : decode cX1_personsWhoCanCover 30 = .ok (.goto (-26), 3) := by decide +kernel
theorem dX1_personsWhoCanCover_33 : decode cX1_personsWhoCanCover 33 = .ok (.iload_n 2, 1) := by decide +kernel
theorem dX1_personsWhoCanCover_34 : decode cX1_personsWhoCanCover 34 = .ok (.ireturn, 1) := by decide +kernel
theorem dX1_nextOpen_0 : decode cX1_nextOpen 0 = .ok (.iload_n 1, 1) := by decide +kernel
theorem dX1_nextOpen_1 : decode cX1_nextOpen 1 = .ok (.istore_n 2, 1) := by decide +kernel
theorem dX1_nextOpen_2 : decode cX1_nextOpen 2 = .ok (.iload_n 2, 1) := by decide +kernel
theorem dX1_nextOpen_3 : decode cX1_nextOpen 3 = .ok (.aload_n 0, 1) := by decide +kernel
theorem dX1_nextOpen_4 : decode cX1_nextOpen 4 = .ok (.getfield 65, 3) := by decide +kernel
theorem dX1_nextOpen_7 : decode cX1_nextOpen 7 = .ok (.if_icmp .ge 20, 3) := by decide +kernel
theorem dX1_nextOpen_10 : decode cX1_nextOpen 10 = .ok (.aload_n 0, 1) := by decide +kernel
theorem dX1_nextOpen_11 : decode cX1_nextOpen 11 = .ok (.getfield 37, 3) := by decide +kernel
theorem dX1_nextOpen_14 : decode cX1_nextOpen 14 = .ok (.iload_n 2, 1) := by decide +kernel
theorem dX1_nextOpen_15 : decode cX1_nextOpen 15 = .ok (.iaload, 1) := by decide +kernel
theorem dX1_nextOpen_16 : decode cX1_nextOpen 16 = .ok (.ifCond .ne 5, 3) := by decide +kernel
theorem dX1_nextOpen_19 : decode cX1_nextOpen 19 = .ok (.iload_n 2, 1) := by decide +kernel
theorem dX1_nextOpen_20 : decode cX1_nextOpen 20 = .ok (.ireturn, 1) := by decide +kernel
theorem dX1_nextOpen_21 : decode cX1_nextOpen 21 = .ok (.iinc 2 1, 3) := by decide +kernel
theorem dX1_nextOpen_24 : decode cX1_nextOpen 24 = .ok (.goto (-22), 3) := by decide +kernel
theorem dX1_nextOpen_27 : decode cX1_nextOpen 27 = .ok (.iconst (-1), 1) := by decide +kernel
theorem dX1_nextOpen_28 : decode cX1_nextOpen 28 = .ok (.ireturn, 1) := by decide +kernel
set_option maxRecDepth 20000 in
theorem ggX1_nextCoverer_X1_hindrance : GoodIn wsX1_nextCoverer wsX1_hindrance := goodIn_r _ [7, 8, 9, 10, 11, 12, 13, 6, 14, 15, 16, 17, 18, 19, 20, 21, 22, 23, 24, 25, 26, 40, 41, 42, 43, 44, 45, 46, 47, 48, 49, 50, 51, 52, 53, 54] (by decide +kernel) (by decide +kernel)
set_option maxRecDepth 20000 in
theorem gX1_nextCoverer_X1_hindrance : GoodIn wsX1_nextCoverer (wsV RX1 91 RX1 yX1_hindrance wsX1_hindrance) := goodIn_app (goodIn_of _ (by decide +kernel)) ggX1_nextCoverer_X1_hindrance
set_option maxRecDepth 20000 in
theorem ggX1_nextCoverer_X1_comesBefore : GoodIn wsX1_nextCoverer wsX1_comesBefore := goodIn_r _ [30, 31, 32, 33, 34, 35, 36, 37, 38, 6, 39, 40, 41, 42, 43, 44, 45, 46, 47, 48, 49, 50, 51, 52, 53, 54] (by decide +kernel) (by decide +kernel)
set_option maxRecDepth 20000 in
theorem gX1_nextCoverer_X1_comesBefore : GoodIn wsX1_nextCoverer (wsV RX1 94 RX1 yX1_comesBefore wsX1_comesBefore) := goodIn_app (goodIn_of _ (by decide +kernel)) ggX1_nextCoverer_X1_comesBefore
theorem dX1_nextCoverer_0 : decode cX1_nextCoverer 0 = .ok (.aload_n 0, 1) := by decide +kernel
theorem dX1_nextCoverer_1 : decode cX1_nextCoverer 1 = .ok (.getfield 37, 3) := by decide +kernel
theorem dX1_nextCoverer_4 : decode cX1_nextCoverer 4 = .ok (.iload_n 1, 1) := by decide +kernel
theorem dX1_nextCoverer_5 : decode cX1_nextCoverer 5 = .ok (.iaload, 1) := by decide +kernel
theorem dX1_nextCoverer_6 : decode cX1_nextCoverer 6 = .ok (.ifCond .eq 5, 3) := by decide +kernel
theorem dX1_nextCoverer_9 : decode cX1_nextCoverer 9 = .ok (.iconst (-1), 1) := by decide +kernel
theorem dX1_nextCoverer_10 : decode cX1_nextCoverer 10 = .ok (.ireturn, 1) := by decide +kernel
theorem dX1_nextCoverer_11 : decode cX1_nextCoverer 11 = .ok (.iconst (-1), 1) := by decide +kernel
theorem dX1_nextCoverer_12 : decode cX1_nextCoverer 12 = .ok (.istore_n 2, 1) := by decide +kernel
theorem dX1_nextCoverer_13 : decode cX1_nextCoverer 13 = .ok (.iconst 0, 1) := by decide +kernel
theorem dX1_nextCoverer_14 : decode cX1_nextCoverer 14 = .ok (.istore_n 3, 1) := by decide +kernel
theorem dX1_nextCoverer_15 : decode cX1_nextCoverer 15 = .ok (.iload_n 3, 1) := by decide +kernel
theorem dX1_nextCoverer_16 : decode cX1_nextCoverer 16 = .ok (.aload_n 0, 1) := by decide +kernel
theorem dX1_nextCoverer_17 : decode cX1_nextCoverer 17 = .ok (.getfield 62, 3) := by decide +kernel
theorem dX1_nextCoverer_20 : decode cX1_nextCoverer 20 = .ok (.if_icmp .ge 35, 3) := by decide +kernel
theorem dX1_nextCoverer_23 : decode cX1_nextCoverer 23 = .ok (.aload_n 0, 1) := by decide +kernel
theorem dX1_nextCoverer_24 : decode cX1_nextCoverer 24 = .ok (.iload_n 3, 1) := by decide +kernel
theorem dX1_nextCoverer_25 : decode cX1_nextCoverer 25 = .ok (.iload_n 1, 1) := by decide +kernel
theorem dX1_nextCoverer_26 : decode cX1_nextCoverer 26 = .ok (.invokevirtual 91, 3) := by decide +kernel
theorem dX1_nextCoverer_29 : decode cX1_nextCoverer 29 = .ok (.ifCond .ne 20, 3) := by decide +kernel
theorem dX1_nextCoverer_32 : decode cX1_nextCoverer 32 = .ok (.iload_n 2, 1) := by decide +kernel
theorem dX1_nextCoverer_33 : decode cX1_nextCoverer 33 = .ok (.iconst (-1), 1) := by decide +kernel
theorem dX1_nextCoverer_34 : decode cX1_nextCoverer 34 = .ok (.if_icmp .eq 13, 3) := by decide +kernel
theorem dX1_nextCoverer_37 : decode cX1_nextCoverer 37 = .ok (.aload_n 0, 1) := by decide +kernel
theorem dX1_nextCoverer_38 : decode cX1_nextCoverer 38 = .ok (.iload_n 3, 1) := by decide +kernel
theorem dX1_nextCoverer_39 : decode cX1_nextCoverer 39 = .ok (.iload_n 2, 1) := by decide +kernel
theorem dX1_nextCoverer_40 : decode cX1_nextCoverer 40 = .ok (.iload_n 1, 1) := by decide +kernel
theorem dX1_nextCoverer_41 : decode cX1_nextCoverer 41 = .ok (.invokevirtual 94, 3) := by decide +kernel
theorem dX1_nextCoverer_44 : decode cX1_nextCoverer 44 = .ok (.ifCond .eq 5, 3) := by decide +kernel
theorem dX1_nextCoverer_47 : decode cX1_nextCoverer 47 = .ok (.iload_n 3, 1) := by decide +kernel
theorem dX1_nextCoverer_48 : decode cX1_nextCoverer 48 = .ok (.istore_n 2, 1) := by decide +kernel
theorem dX1_nextCoverer_49 : decode cX1_nextCoverer 49 = .ok (.iinc 3 1, 3) := by decide +kernel
theorem dX1_nextCoverer_52 : decode cX1_nextCoverer 52 = .ok (.goto (-37), 3) := by decide +kernel
theorem dX1_nextCoverer_55 : decode cX1_nextCoverer 55 = .ok (.iload_n 2, 1) := by decide +kernel
theorem dX1_nextCoverer_56 : decode cX1_nextCoverer 56 = .ok (.ireturn, 1) := by decide +kernel
set_option maxRecDepth 20000 in
theorem ggX1_comesBefore_X2_bidIndex : GoodIn wsX1_comesBefore wsX2_bidIndex := goodIn_r _ [6] (by decide +kernel) (by decide +kernel)
set_option maxRecDepth 20000 in
theorem gX1_comesBefore_X2_bidIndex_n74 : GoodIn wsX1_comesBefore (wsX2_bidIndex) := ggX1_comesBefore_X2_bidIndex
set_option maxRecDepth 20000 in
theorem ggX1_comesBefore_X1_isLess : GoodIn wsX1_comesBefore wsX1_isLess := goodIn_r _ [10] (by decide +kernel) (by decide +kernel)
set_option maxRecDepth 20000 in
theorem gX1_comesBefore_X1_isLess : GoodIn wsX1_comesBefore (va_wsS RX1 98 yX1_isLess wsX1_isLess) := goodIn_app (goodIn_of _ (by decide +kernel)) ggX1_comesBefore_X1_isLess
theorem dX1_comesBefore_0 : decode cX1_comesBefore 0 = .ok (.aload_n 0, 1) := by decide +kernel
theorem dX1_comesBefore_1 : decode cX1_comesBefore 1 = .ok (.getfield 46, 3) := by decide +kernel
theorem dX1_comesBefore_4 : decode cX1_comesBefore 4 = .ok (.iload_n 1, 1) := by decide +kernel
theorem dX1_comesBefore_5 : decode cX1_comesBefore 5 = .ok (.iload_n 3, 1) := by decide +kernel
theorem dX1_comesBefore_6 : decode cX1_comesBefore 6 = .ok (.invokestatic 74, 3) := by decide +kernel
theorem dX1_comesBefore_9 : decode cX1_comesBefore 9 = .ok (.iaload, 1) := by decide +kernel
theorem dX1_comesBefore_10 : decode cX1_comesBefore 10 = .ok (.istore 4, 2) := by decide +kernel
theorem dX1_comesBefore_12 : decode cX1_comesBefore 12 = .ok (.aload_n 0, 1) := by decide +kernel
theorem dX1_comesBefore_13 : decode cX1_comesBefore 13 = .ok (.getfield 46, 3) := by decide +kernel
theorem dX1_comesBefore_16 : decode cX1_comesBefore 16 = .ok (.iload_n 2, 1) := by decide +kernel
theorem dX1_comesBefore_17 : decode cX1_comesBefore 17 = .ok (.iload_n 3, 1) := by decide +kernel
theorem dX1_comesBefore_18 : decode cX1_comesBefore 18 = .ok (.invokestatic 74, 3) := by decide +kernel
theorem dX1_comesBefore_21 : decode cX1_comesBefore 21 = .ok (.iaload, 1) := by decide +kernel
theorem dX1_comesBefore_22 : decode cX1_comesBefore 22 = .ok (.istore 5, 2) := by decide +kernel
theorem dX1_comesBefore_24 : decode cX1_comesBefore 24 = .ok (.iload 4, 2) := by decide +kernel
theorem dX1_comesBefore_26 : decode cX1_comesBefore 26 = .ok (.iconst (-1), 1) := by decide +kernel
theorem dX1_comesBefore_27 : decode cX1_comesBefore 27 = .ok (.if_icmp .ne 37, 3) := by decide +kernel
theorem dX1_comesBefore_30 : decode cX1_comesBefore 30 = .ok (.iload 5, 2) := by decide +kernel
theorem dX1_comesBefore_32 : decode cX1_comesBefore 32 = .ok (.iconst (-1), 1) := by decide +kernel
theorem dX1_comesBefore_33 : decode cX1_comesBefore 33 = .ok (.if_icmp .ne 31, 3) := by decide +kernel
theorem dX1_comesBefore_36 : decode cX1_comesBefore 36 = .ok (.aload_n 0, 1) := by decide +kernel
theorem dX1_comesBefore_37 : decode cX1_comesBefore 37 = .ok (.getfield 28, 3) := by decide +kernel
theorem dX1_comesBefore_40 : decode cX1_comesBefore 40 = .ok (.iload_n 1, 1) := by decide +kernel
theorem dX1_comesBefore_41 : decode cX1_comesBefore 41 = .ok (.iaload, 1) := by decide +kernel
theorem dX1_comesBefore_42 : decode cX1_comesBefore 42 = .ok (.aload_n 0, 1) := by decide +kernel
theorem dX1_comesBefore_43 : decode cX1_comesBefore 43 = .ok (.getfield 25, 3) := by decide +kernel
theorem dX1_comesBefore_46 : decode cX1_comesBefore 46 = .ok (.iload_n 1, 1) := by decide +kernel
theorem dX1_comesBefore_47 : decode cX1_comesBefore 47 = .ok (.iaload, 1) := by decide +kernel
theorem dX1_comesBefore_48 : decode cX1_comesBefore 48 = .ok (.aload_n 0, 1) := by decide +kernel
theorem dX1_comesBefore_49 : decode cX1_comesBefore 49 = .ok (.getfield 28, 3) := by decide +kernel
theorem dX1_comesBefore_52 : decode cX1_comesBefore 52 = .ok (.iload_n 2, 1) := by decide +kernel
theorem dX1_comesBefore_53 : decode cX1_comesBefore 53 = .ok (.iaload, 1) := by decide +kernel
theorem dX1_comesBefore_54 : decode cX1_comesBefore 54 = .ok (.aload_n 0, 1) := by decide +kernel
theorem dX1_comesBefore_55 : decode cX1_comesBefore 55 = .ok (.getfield 25, 3) := by decide +kernel
theorem dX1_comesBefore_58 : decode cX1_comesBefore 58 = .ok (.iload_n 2, 1) := by decide +kernel
theorem dX1_comesBefore_59 : decode cX1_comesBefore 59 = .ok (.iaload, 1) := by decide +kernel
theorem dX1_comesBefore_60 : decode cX1_comesBefore 60 = .ok (.invokestatic 98, 3) := by decide +kernel
theorem dX1_comesBefore_63 : decode cX1_comesBefore 63 = .ok (.ireturn, 1) := by decide +kernel
theorem dX1_comesBefore_64 : decode cX1_comesBefore 64 = .ok (.iload 4, 2) := by decide +kernel
theorem dX1_comesBefore_66 : decode cX1_comesBefore 66 = .ok (.iconst (-1), 1) := by decide +kernel
theorem dX1_comesBefore_67 : decode cX1_comesBefore 67 = .ok (.if_icmp .eq 9, 3) := by decide +kernel
theorem dX1_comesBefore_70 : decode cX1_comesBefore 70 = .ok (.iload 5, 2) := by decide +kernel
theorem dX1_comesBefore_72 : decode cX1_comesBefore 72 = .ok (.iconst (-1), 1) := by decide +kernel
theorem dX1_comesBefore_73 : decode cX1_comesBefore 73 = .ok (.if_icmp .ne 15, 3) := by decide +kernel
theorem dX1_comesBefore_76 : decode cX1_comesBefore 76 = .ok (.iload 4, 2) := by decide +kernel
theorem dX1_comesBefore_78 : decode cX1_comesBefore 78 = .ok (.iconst (-1), 1) := by decide +kernel
theorem dX1_comesBefore_79 : decode cX1_comesBefore 79 = .ok (.if_icmp .eq 7, 3) := by decide +kernel
theorem dX1_comesBefore_82 : decode cX1_comesBefore 82 = .ok (.iconst 1, 1) := by decide +kernel
theorem dX1_comesBefore_83 : decode cX1_comesBefore 83 = .ok (.goto 4, 3) := by decide +kernel
theorem dX1_comesBefore_86 : decode cX1_comesBefore 86 = .ok (.iconst 0, 1) := by decide +kernel
theorem dX1_comesBefore_87 : decode cX1_comesBefore 87 = .ok (.ireturn, 1) := by decide +kernel
theorem dX1_comesBefore_88 : decode cX1_comesBefore 88 = .ok (.iload 4, 2) := by decide +kernel
theorem dX1_comesBefore_90 : decode cX1_comesBefore 90 = .ok (.aload_n 0, 1) := by decide +kernel
theorem dX1_comesBefore_91 : decode cX1_comesBefore 91 = .ok (.getfield 25, 3) := by decide +kernel
theorem dX1_comesBefore_94 : decode cX1_comesBefore 94 = .ok (.iload_n 1, 1) := by decide +kernel
theorem dX1_comesBefore_95 : decode cX1_comesBefore 95 = .ok (.iaload, 1) := by decide +kernel
theorem dX1_comesBefore_96 : decode cX1_comesBefore 96 = .ok (.iload 5, 2) := by decide +kernel
theorem dX1_comesBefore_98 : decode cX1_comesBefore 98 = .ok (.aload_n 0, 1) := by decide +kernel
theorem dX1_comesBefore_99 : decode cX1_comesBefore 99 = .ok (.getfield 25, 3) := by decide +kernel
theorem dX1_comesBefore_102 : decode cX1_comesBefore 102 = .ok (.iload_n 2, 1) := by decide +kernel
theorem dX1_comesBefore_103 : decode cX1_comesBefore 103 = .ok (.iaload, 1) := by decide +kernel
theorem dX1_comesBefore_104 : decode cX1_comesBefore 104 = .ok (.invokestatic 98, 3) := by decide +kernel
theorem dX1_comesBefore_107 : decode cX1_comesBefore 107 = .ok (.ireturn, 1) := by decide +kernel
theorem dX1_isLess_0 : decode cX1_isLess 0 = .ok (.iload_n 0, 1) := by decide +kernel
theorem dX1_isLess_1 : decode cX1_isLess 1 = .ok (.iload_n 2, 1) := by decide +kernel
theorem dX1_isLess_2 : decode cX1_isLess 2 = .ok (.if_icmp .eq 16, 3) := by decide +kernel
theorem dX1_isLess_5 : decode cX1_isLess 5 = .ok (.iload_n 0, 1) := by decide +kernel
theorem dX1_isLess_6 : decode cX1_isLess 6 = .ok (.iload_n 2, 1) := by decide +kernel
theorem dX1_isLess_7 : decode cX1_isLess 7 = .ok (.if_icmp .ge 7, 3) := by decide +kernel
theorem dX1_isLess_10 : decode cX1_isLess 10 = .ok (.iconst 1, 1) := by decide +kernel
theorem dX1_isLess_11 : decode cX1_isLess 11 = .ok (.goto 17, 3) := by decide +kernel
theorem dX1_isLess_14 : decode cX1_isLess 14 = .ok (.iconst 0, 1) := by decide +kernel
theorem dX1_isLess_15 : decode cX1_isLess 15 = .ok (.goto 13, 3) := by decide +kernel
theorem dX1_isLess_18 : decode cX1_isLess 18 = .ok (.iload_n 1, 1) := by decide +kernel
theorem dX1_isLess_19 : decode cX1_isLess 19 = .ok (.iload_n 3, 1) := by decide +kernel
theorem dX1_isLess_20 : decode cX1_isLess 20 = .ok (.if_icmp .ge 7, 3) := by decide +kernel
theorem dX1_isLess_23 : decode cX1_isLess 23 = .ok (.iconst 1, 1) := by decide +kernel
theorem dX1_isLess_24 : decode cX1_isLess 24 = .ok (.goto 4, 3) := by decide +kernel
theorem dX1_isLess_27 : decode cX1_isLess 27 = .ok (.iconst 0, 1) := by decide +kernel
theorem dX1_isLess_28 : decode cX1_isLess 28 = .ok (.ireturn, 1) := by decide +kernel
set_option maxRecDepth 20000 in
theorem ggX1_coverOpen_X1_nextCoverer : GoodIn wsX1_coverOpen wsX1_nextCoverer := goodIn_r _ [15, 2, 16, 17, 18, 19, 14, 20, 10, 8, 21, 22, 23, 24, 25, 26, 27, 7, 28, 29, 30, 31, 4, 32, 33, 34, 35, 36, 37, 38, 39, 1, 5, 9, 40, 41, 42, 43, 44, 45, 50, 51, 52, 53, 54, 55, 56, 57, 58, 59, 60, 61, 62, 63, 64] (by decide +kernel) (by decide +kernel)
set_option maxRecDepth 20000 in
theorem gX1_coverOpen_X1_nextCoverer : GoodIn wsX1_coverOpen (wsV RX1 102 RX1 yX1_nextCoverer wsX1_nextCoverer) := goodIn_app (goodIn_of _ (by decide +kernel)) ggX1_coverOpen_X1_nextCoverer
set_option maxRecDepth 20000 in
theorem ggX1_coverOpen_X2_bidIndex : GoodIn wsX1_coverOpen wsX2_bidIndex := goodIn_r _ [42] (by decide +kernel) (by decide +kernel)
set_option maxRecDepth 20000 in
theorem gX1_coverOpen_X2_bidIndex_n74 : GoodIn wsX1_coverOpen (wsX2_bidIndex) := ggX1_coverOpen_X2_bidIndex
set_option maxRecDepth 20000 in
theorem ggX1_coverOpen_X1_dropBids : GoodIn wsX1_coverOpen wsX1_dropBids := goodIn_r _ [49, 1, 40, 41, 42, 50, 51, 52, 53, 54, 55, 56, 57, 58, 59, 60, 61, 62, 63, 64] (by decide +kernel) (by decide +kernel)
set_option maxRecDepth 20000 in
theorem gX1_coverOpen_X1_dropBids : GoodIn wsX1_coverOpen (wsV RX1 70 RX1 yX1_dropBids wsX1_dropBids) := goodIn_app (goodIn_of _ (by decide +kernel)) ggX1_coverOpen_X1_dropBids
theorem dX1_coverOpen_0 : decode cX1_coverOpen 0 = .ok (.aload_n 0, 1) := by decide +kernel
theorem dX1_coverOpen_1 : decode cX1_coverOpen 1 = .ok (.iload_n 1, 1) := by decide +kernel
theorem dX1_coverOpen_2 : decode cX1_coverOpen 2 = .ok (.invokevirtual 102, 3) := by decide +kernel
theorem dX1_coverOpen_5 : decode cX1_coverOpen 5 = .ok (.istore_n 2, 1) := by decide +kernel
theorem dX1_coverOpen_6 : decode cX1_coverOpen 6 = .ok (.iload_n 2, 1) := by decide +kernel
theorem dX1_coverOpen_7 : decode cX1_coverOpen 7 = .ok (.iconst (-1), 1) := by decide +kernel
theorem dX1_coverOpen_8 : decode cX1_coverOpen 8 = .ok (.if_icmp .ne 5, 3) := by decide +kernel
theorem dX1_coverOpen_11 : decode cX1_coverOpen 11 = .ok (.iconst 0, 1) := by decide +kernel
theorem dX1_coverOpen_12 : decode cX1_coverOpen 12 = .ok (.ireturn, 1) := by decide +kernel
theorem dX1_coverOpen_13 : decode cX1_coverOpen 13 = .ok (.aload_n 0, 1) := by decide +kernel
theorem dX1_coverOpen_14 : decode cX1_coverOpen 14 = .ok (.getfield 46, 3) := by decide +kernel
theorem dX1_coverOpen_17 : decode cX1_coverOpen 17 = .ok (.iload_n 2, 1) := by decide +kernel
theorem dX1_coverOpen_18 : decode cX1_coverOpen 18 = .ok (.iload_n 1, 1) := by decide +kernel
theorem dX1_coverOpen_19 : decode cX1_coverOpen 19 = .ok (.invokestatic 74, 3) := by decide +kernel
theorem dX1_coverOpen_22 : decode cX1_coverOpen 22 = .ok (.iaload, 1) := by decide +kernel
theorem dX1_coverOpen_23 : decode cX1_coverOpen 23 = .ok (.istore_n 3, 1) := by decide +kernel
theorem dX1_coverOpen_24 : decode cX1_coverOpen 24 = .ok (.iload_n 3, 1) := by decide +kernel
theorem dX1_coverOpen_25 : decode cX1_coverOpen 25 = .ok (.iconst (-1), 1) := by decide +kernel
theorem dX1_coverOpen_26 : decode cX1_coverOpen 26 = .ok (.if_icmp .eq 20, 3) := by decide +kernel
theorem dX1_coverOpen_29 : decode cX1_coverOpen 29 = .ok (.aload_n 0, 1) := by decide +kernel
theorem dX1_coverOpen_30 : decode cX1_coverOpen 30 = .ok (.getfield 37, 3) := by decide +kernel
theorem dX1_coverOpen_33 : decode cX1_coverOpen 33 = .ok (.iload_n 1, 1) := by decide +kernel
theorem dX1_coverOpen_34 : decode cX1_coverOpen 34 = .ok (.iconst 1, 1) := by decide +kernel
theorem dX1_coverOpen_35 : decode cX1_coverOpen 35 = .ok (.iastore, 1) := by decide +kernel
theorem dX1_coverOpen_36 : decode cX1_coverOpen 36 = .ok (.aload_n 0, 1) := by decide +kernel
theorem dX1_coverOpen_37 : decode cX1_coverOpen 37 = .ok (.getfield 43, 3) := by decide +kernel
theorem dX1_coverOpen_40 : decode cX1_coverOpen 40 = .ok (.iload_n 1, 1) := by decide +kernel
theorem dX1_coverOpen_41 : decode cX1_coverOpen 41 = .ok (.iload_n 3, 1) := by decide +kernel
theorem dX1_coverOpen_42 : decode cX1_coverOpen 42 = .ok (.iastore, 1) := by decide +kernel
theorem dX1_coverOpen_43 : decode cX1_coverOpen 43 = .ok (.goto 32, 3) := by decide +kernel
theorem dX1_coverOpen_46 : decode cX1_coverOpen 46 = .ok (.aload_n 0, 1) := by decide +kernel
theorem dX1_coverOpen_47 : decode cX1_coverOpen 47 = .ok (.getfield 37, 3) := by decide +kernel
theorem dX1_coverOpen_50 : decode cX1_coverOpen 50 = .ok (.iload_n 1, 1) := by decide +kernel
theorem dX1_coverOpen_51 : decode cX1_coverOpen 51 = .ok (.iconst 2, 1) := by decide +kernel
theorem dX1_coverOpen_52 : decode cX1_coverOpen 52 = .ok (.iastore, 1) := by decide +kernel
theorem dX1_coverOpen_53 : decode cX1_coverOpen 53 = .ok (.aload_n 0, 1) := by decide +kernel
theorem dX1_coverOpen_54 : decode cX1_coverOpen 54 = .ok (.getfield 43, 3) := by decide +kernel
theorem dX1_coverOpen_57 : decode cX1_coverOpen 57 = .ok (.iload_n 1, 1) := by decide +kernel
theorem dX1_coverOpen_58 : decode cX1_coverOpen 58 = .ok (.aload_n 0, 1) := by decide +kernel
theorem dX1_coverOpen_59 : decode cX1_coverOpen 59 = .ok (.getfield 9, 3) := by decide +kernel
theorem dX1_coverOpen_62 : decode cX1_coverOpen 62 = .ok (.iconst 1, 1) := by decide +kernel
theorem dX1_coverOpen_63 : decode cX1_coverOpen 63 = .ok (.iaload, 1) := by decide +kernel
theorem dX1_coverOpen_64 : decode cX1_coverOpen 64 = .ok (.iastore, 1) := by decide +kernel
theorem dX1_coverOpen_65 : decode cX1_coverOpen 65 = .ok (.aload_n 0, 1) := by decide +kernel
theorem dX1_coverOpen_66 : decode cX1_coverOpen 66 = .ok (.getfield 28, 3) := by decide +kernel
theorem dX1_coverOpen_69 : decode cX1_coverOpen 69 = .ok (.iload_n 2, 1) := by decide +kernel
theorem dX1_coverOpen_70 : decode cX1_coverOpen 70 = .ok (.dup2, 1) := by decide +kernel
theorem dX1_coverOpen_71 : decode cX1_coverOpen 71 = .ok (.iaload, 1) := by decide +kernel
theorem dX1_coverOpen_72 : decode cX1_coverOpen 72 = .ok (.iconst 1, 1) := by decide +kernel
theorem dX1_coverOpen_73 : decode cX1_coverOpen 73 = .ok (.iadd, 1) := by decide +kernel
theorem dX1_coverOpen_74 : decode cX1_coverOpen 74 = .ok (.iastore, 1) := by decide +kernel
theorem dX1_coverOpen_75 : decode cX1_coverOpen 75 = .ok (.aload_n 0, 1) := by decide +kernel
theorem dX1_coverOpen_76 : decode cX1_coverOpen 76 = .ok (.getfield 40, 3) := by decide +kernel
theorem dX1_coverOpen_79 : decode cX1_coverOpen 79 = .ok (.iload_n 1, 1) := by decide +kernel
theorem dX1_coverOpen_80 : decode cX1_coverOpen 80 = .ok (.iload_n 2, 1) := by decide +kernel
theorem dX1_coverOpen_81 : decode cX1_coverOpen 81 = .ok (.iastore, 1) := by decide +kernel
theorem dX1_coverOpen_82 : decode cX1_coverOpen 82 = .ok (.aload_n 0, 1) := by decide +kernel
theorem dX1_coverOpen_83 : decode cX1_coverOpen 83 = .ok (.getfield 22, 3) := by decide +kernel
theorem dX1_coverOpen_86 : decode cX1_coverOpen 86 = .ok (.iload_n 2, 1) := by decide +kernel
theorem dX1_coverOpen_87 : decode cX1_coverOpen 87 = .ok (.dup2, 1) := by decide +kernel
theorem dX1_coverOpen_88 : decode cX1_coverOpen 88 = .ok (.laload, 1) := by decide +kernel
theorem dX1_coverOpen_89 : decode cX1_coverOpen 89 = .ok (.lconst 1, 1) := by decide +kernel
theorem dX1_coverOpen_90 : decode cX1_coverOpen 90 = .ok (.aload_n 0, 1) := by decide +kernel
theorem dX1_coverOpen_91 : decode cX1_coverOpen 91 = .ok (.getfield 34, 3) := by decide +kernel
theorem dX1_coverOpen_94 : decode cX1_coverOpen 94 = .ok (.iload_n 1, 1) := by decide +kernel
theorem dX1_coverOpen_95 : decode cX1_coverOpen 95 = .ok (.iaload, 1) := by decide +kernel
theorem dX1_coverOpen_96 : decode cX1_coverOpen 96 = .ok (.lshl, 1) := by decide +kernel
theorem dX1_coverOpen_97 : decode cX1_coverOpen 97 = .ok (.lor, 1) := by decide +kernel
theorem dX1_coverOpen_98 : decode cX1_coverOpen 98 = .ok (.lastore, 1) := by decide +kernel
theorem dX1_coverOpen_99 : decode cX1_coverOpen 99 = .ok (.aload_n 0, 1) := by decide +kernel
theorem dX1_coverOpen_100 : decode cX1_coverOpen 100 = .ok (.getfield 25, 3) := by decide +kernel
theorem dX1_coverOpen_103 : decode cX1_coverOpen 103 = .ok (.iload_n 2, 1) := by decide +kernel
theorem dX1_coverOpen_104 : decode cX1_coverOpen 104 = .ok (.dup2, 1) := by decide +kernel
theorem dX1_coverOpen_105 : decode cX1_coverOpen 105 = .ok (.iaload, 1) := by decide +kernel
theorem dX1_coverOpen_106 : decode cX1_coverOpen 106 = .ok (.aload_n 0, 1) := by decide +kernel
theorem dX1_coverOpen_107 : decode cX1_coverOpen 107 = .ok (.getfield 43, 3) := by decide +kernel
theorem dX1_coverOpen_110 : decode cX1_coverOpen 110 = .ok (.iload_n 1, 1) := by decide +kernel
theorem dX1_coverOpen_111 : decode cX1_coverOpen 111 = .ok (.iaload, 1) := by decide +kernel
theorem dX1_coverOpen_112 : decode cX1_coverOpen 112 = .ok (.iadd, 1) := by decide +kernel
theorem dX1_coverOpen_113 : decode cX1_coverOpen 113 = .ok (.iastore, 1) := by decide +kernel
theorem dX1_coverOpen_114 : decode cX1_coverOpen 114 = .ok (.aload_n 0, 1) := by decide +kernel
theorem dX1_coverOpen_115 : decode cX1_coverOpen 115 = .ok (.getfield 25, 3) := by decide +kernel
theorem dX1_coverOpen_118 : decode cX1_coverOpen 118 = .ok (.aload_n 0, 1) := by decide +kernel
theorem dX1_coverOpen_119 : decode cX1_coverOpen 119 = .ok (.getfield 31, 3) := by decide +kernel
theorem dX1_coverOpen_122 : decode cX1_coverOpen 122 = .ok (.iload_n 1, 1) := by decide +kernel
theorem dX1_coverOpen_123 : decode cX1_coverOpen 123 = .ok (.iaload, 1) := by decide +kernel
theorem dX1_coverOpen_124 : decode cX1_coverOpen 124 = .ok (.dup2, 1) := by decide +kernel
theorem dX1_coverOpen_125 : decode cX1_coverOpen 125 = .ok (.iaload, 1) := by decide +kernel
theorem dX1_coverOpen_126 : decode cX1_coverOpen 126 = .ok (.aload_n 0, 1) := by decide +kernel
theorem dX1_coverOpen_127 : decode cX1_coverOpen 127 = .ok (.getfield 43, 3) := by decide +kernel
theorem dX1_coverOpen_130 : decode cX1_coverOpen 130 = .ok (.iload_n 1, 1) := by decide +kernel
theorem dX1_coverOpen_131 : decode cX1_coverOpen 131 = .ok (.iaload, 1) := by decide +kernel
theorem dX1_coverOpen_132 : decode cX1_coverOpen 132 = .ok (.isub, 1) := by decide +kernel
theorem dX1_coverOpen_133 : decode cX1_coverOpen 133 = .ok (.iastore, 1) := by decide +kernel
theorem dX1_coverOpen_134 : decode cX1_coverOpen 134 = .ok (.aload_n 0, 1) := by decide +kernel
theorem dX1_coverOpen_135 : decode cX1_coverOpen 135 = .ok (.iload_n 1, 1) := by decide +kernel
theorem dX1_coverOpen_136 : decode cX1_coverOpen 136 = .ok (.invokevirtual 70, 3) := by decide +kernel
theorem dX1_coverOpen_139 : decode cX1_coverOpen 139 = .ok (.iconst 1, 1) := by decide +kernel
theorem dX1_coverOpen_140 : decode cX1_coverOpen 140 = .ok (.ireturn, 1) := by decide +kernel
set_option maxRecDepth 20000 in
theorem ggX1_coverAllOpen_X1_coverOpen : GoodIn wsX1_coverAllOpen wsX1_coverOpen := goodIn_r _ [6, 7, 8, 9, 10, 11, 12, 13, 14, 15, 16, 17, 18, 19, 5, 20, 21, 22, 23, 24, 25, 26, 27, 28, 29, 30, 31, 32, 33, 34, 35, 36, 37, 38, 39, 40, 41, 42, 43, 44, 45, 46, 47, 48, 49, 50, 51, 52, 53, 54, 55, 56, 57, 58, 59, 60, 61, 62, 63, 64, 65, 66, 67, 68, 69] (by decide +kernel) (by decide +kernel)
set_option maxRecDepth 20000 in
theorem gX1_coverAllOpen_X1_coverOpen : GoodIn wsX1_coverAllOpen (wsV RX1 106 RX1 yX1_coverOpen wsX1_coverOpen) := goodIn_app (goodIn_of _ (by decide +kernel)) ggX1_coverAllOpen_X1_coverOpen
theorem dX1_coverAllOpen_0 : decode cX1_coverAllOpen 0 = .ok (.iconst 0, 1) := by decide +kernel
theorem dX1_coverAllOpen_1 : decode cX1_coverAllOpen 1 = .ok (.istore_n 1, 1) := by decide +kernel
theorem dX1_coverAllOpen_2 : decode cX1_coverAllOpen 2 = .ok (.iconst 0, 1) := by decide +kernel
theorem dX1_coverAllOpen_3 : decode cX1_coverAllOpen 3 = .ok (.istore_n 2, 1) := by decide +kernel
theorem dX1_coverAllOpen_4 : decode cX1_coverAllOpen 4 = .ok (.iload_n 2, 1) := by decide +kernel
theorem dX1_coverAllOpen_5 : decode cX1_coverAllOpen 5 = .ok (.aload_n 0, 1) := by decide +kernel
theorem dX1_coverAllOpen_6 : decode cX1_coverAllOpen 6 = .ok (.getfield 65, 3) := by decide +kernel
theorem dX1_coverAllOpen_9 : decode cX1_coverAllOpen 9 = .ok (.if_icmp .ge 20, 3) := by decide +kernel
theorem dX1_coverAllOpen_12 : decode cX1_coverAllOpen 12 = .ok (.aload_n 0, 1) := by decide +kernel
theorem dX1_coverAllOpen_13 : decode cX1_coverAllOpen 13 = .ok (.iload_n 2, 1) := by decide +kernel
theorem dX1_coverAllOpen_14 : decode cX1_coverAllOpen 14 = .ok (.invokevirtual 106, 3) := by decide +kernel
theorem dX1_coverAllOpen_17 : decode cX1_coverAllOpen 17 = .ok (.ifCond .eq 6, 3) := by decide +kernel
theorem dX1_coverAllOpen_20 : decode cX1_coverAllOpen 20 = .ok (.iinc 1 1, 3) := by decide +kernel
theorem dX1_coverAllOpen_23 : decode cX1_coverAllOpen 23 = .ok (.iinc 2 1, 3) := by decide +kernel
theorem dX1_coverAllOpen_26 : decode cX1_coverAllOpen 26 = .ok (.goto (-22), 3) := by decide +kernel
theorem dX1_coverAllOpen_29 : decode cX1_coverAllOpen 29 = .ok (.iload_n 1, 1) := by decide +kernel
theorem dX1_coverAllOpen_30 : decode cX1_coverAllOpen 30 = .ok (.ireturn, 1) := by decide +kernel
theorem dX1_moveCover_0 : decode cX1_moveCover 0 = .ok (.lconst 1, 1) := by decide +kernel
theorem dX1_moveCover_1 : decode cX1_moveCover 1 = .ok (.aload_n 0, 1) := by decide +kernel
theorem dX1_moveCover_2 : decode cX1_moveCover 2 = .ok (.getfield 34, 3) := by decide +kernel
theorem dX1_moveCover_5 : decode cX1_moveCover 5 = .ok (.iload_n 1, 1) := by decide +kernel
theorem dX1_moveCover_6 : decode cX1_moveCover 6 = .ok (.iaload, 1) := by decide +kernel
theorem dX1_moveCover_7 : decode cX1_moveCover 7 = .ok (.lshl, 1) := by decide +kernel
theorem dX1_moveCover_8 : decode cX1_moveCover 8 = .ok (.lstore_n 3, 1) := by decide +kernel
theorem dX1_moveCover_9 : decode cX1_moveCover 9 = .ok (.aload_n 0, 1) := by decide +kernel
theorem dX1_moveCover_10 : decode cX1_moveCover 10 = .ok (.getfield 40, 3) := by decide +kernel
theorem dX1_moveCover_13 : decode cX1_moveCover 13 = .ok (.iload_n 1, 1) := by decide +kernel
theorem dX1_moveCover_14 : decode cX1_moveCover 14 = .ok (.iaload, 1) := by decide +kernel
theorem dX1_moveCover_15 : decode cX1_moveCover 15 = .ok (.istore 5, 2) := by decide +kernel
theorem dX1_moveCover_17 : decode cX1_moveCover 17 = .ok (.aload_n 0, 1) := by decide +kernel
theorem dX1_moveCover_18 : decode cX1_moveCover 18 = .ok (.getfield 22, 3) := by decide +kernel
theorem dX1_moveCover_21 : decode cX1_moveCover 21 = .ok (.iload 5, 2) := by decide +kernel
theorem dX1_moveCover_23 : decode cX1_moveCover 23 = .ok (.dup2, 1) := by decide +kernel
theorem dX1_moveCover_24 : decode cX1_moveCover 24 = .ok (.laload, 1) := by decide +kernel
theorem dX1_moveCover_25 : decode cX1_moveCover 25 = .ok (.lload_n 3, 1) := by decide +kernel
theorem dX1_moveCover_26 : decode cX1_moveCover 26 = .ok (.ldc2_w 68, 3) := by decide +kernel
theorem dX1_moveCover_29 : decode cX1_moveCover 29 = .ok (.lxor, 1) := by decide +kernel
theorem dX1_moveCover_30 : decode cX1_moveCover 30 = .ok (.land, 1) := by decide +kernel
theorem dX1_moveCover_31 : decode cX1_moveCover 31 = .ok (.lastore, 1) := by decide +kernel
theorem dX1_moveCover_32 : decode cX1_moveCover 32 = .ok (.aload_n 0, 1) := by decide +kernel
theorem dX1_moveCover_33 : decode cX1_moveCover 33 = .ok (.getfield 25, 3) := by decide +kernel
theorem dX1_moveCover_36 : decode cX1_moveCover 36 = .ok (.iload 5, 2) := by decide +kernel
theorem dX1_moveCover_38 : decode cX1_moveCover 38 = .ok (.dup2, 1) := by decide +kernel
theorem dX1_moveCover_39 : decode cX1_moveCover 39 = .ok (.iaload, 1) := by decide +kernel
theorem dX1_moveCover_40 : decode cX1_moveCover 40 = .ok (.aload_n 0, 1) := by decide +kernel
theorem dX1_moveCover_41 : decode cX1_moveCover 41 = .ok (.getfield 43, 3) := by decide +kernel
theorem dX1_moveCover_44 : decode cX1_moveCover 44 = .ok (.iload_n 1, 1) := by decide +kernel
theorem dX1_moveCover_45 : decode cX1_moveCover 45 = .ok (.iaload, 1) := by decide +kernel
theorem dX1_moveCover_46 : decode cX1_moveCover 46 = .ok (.isub, 1) := by decide +kernel
theorem dX1_moveCover_47 : decode cX1_moveCover 47 = .ok (.iastore, 1) := by decide +kernel
theorem dX1_moveCover_48 : decode cX1_moveCover 48 = .ok (.aload_n 0, 1) := by decide +kernel
theorem dX1_moveCover_49 : decode cX1_moveCover 49 = .ok (.getfield 22, 3) := by decide +kernel
theorem dX1_moveCover_52 : decode cX1_moveCover 52 = .ok (.iload_n 2, 1) := by decide +kernel
theorem dX1_moveCover_53 : decode cX1_moveCover 53 = .ok (.dup2, 1) := by decide +kernel
theorem dX1_moveCover_54 : decode cX1_moveCover 54 = .ok (.laload, 1) := by decide +kernel
theorem dX1_moveCover_55 : decode cX1_moveCover 55 = .ok (.lload_n 3, 1) := by decide +kernel
theorem dX1_moveCover_56 : decode cX1_moveCover 56 = .ok (.lor, 1) := by decide +kernel
theorem dX1_moveCover_57 : decode cX1_moveCover 57 = .ok (.lastore, 1) := by decide +kernel
theorem dX1_moveCover_58 : decode cX1_moveCover 58 = .ok (.aload_n 0, 1) := by decide +kernel
theorem dX1_moveCover_59 : decode cX1_moveCover 59 = .ok (.getfield 25, 3) := by decide +kernel
theorem dX1_moveCover_62 : decode cX1_moveCover 62 = .ok (.iload_n 2, 1) := by decide +kernel
theorem dX1_moveCover_63 : decode cX1_moveCover 63 = .ok (.dup2, 1) := by decide +kernel
theorem dX1_moveCover_64 : decode cX1_moveCover 64 = .ok (.iaload, 1) := by decide +kernel
theorem dX1_moveCover_65 : decode cX1_moveCover 65 = .ok (.aload_n 0, 1) := by decide +kernel
theorem dX1_moveCover_66 : decode cX1_moveCover 66 = .ok (.getfield 43, 3) := by decide +kernel
theorem dX1_moveCover_69 : decode cX1_moveCover 69 = .ok (.iload_n 1, 1) := by decide +kernel
theorem dX1_moveCover_70 : decode cX1_moveCover 70 = .ok (.iaload, 1) := by decide +kernel
theorem dX1_moveCover_71 : decode cX1_moveCover 71 = .ok (.iadd, 1) := by decide +kernel
theorem dX1_moveCover_72 : decode cX1_moveCover 72 = .ok (.iastore, 1) := by decide +kernel
theorem dX1_moveCover_73 : decode cX1_moveCover 73 = .ok (.aload_n 0, 1) := by decide +kernel
theorem dX1_moveCover_74 : decode cX1_moveCover 74 = .ok (.getfield 40, 3) := by decide +kernel
theorem dX1_moveCover_77 : decode cX1_moveCover 77 = .ok (.iload_n 1, 1) := by decide +kernel
theorem dX1_moveCover_78 : decode cX1_moveCover 78 = .ok (.iload_n 2, 1) := by decide +kernel
theorem dX1_moveCover_79 : decode cX1_moveCover 79 = .ok (.iastore, 1) := by decide +kernel
theorem dX1_moveCover_80 : decode cX1_moveCover 80 = .ok (.aload_n 0, 1) := by decide +kernel
theorem dX1_moveCover_81 : decode cX1_moveCover 81 = .ok (.dup, 1) := by decide +kernel
theorem dX1_moveCover_82 : decode cX1_moveCover 82 = .ok (.getfield 58, 3) := by decide +kernel
theorem dX1_moveCover_85 : decode cX1_moveCover 85 = .ok (.iconst 1, 1) := by decide +kernel
theorem dX1_moveCover_86 : decode cX1_moveCover 86 = .ok (.iadd, 1) := by decide +kernel
theorem dX1_moveCover_87 : decode cX1_moveCover 87 = .ok (.putfield 58, 3) := by decide +kernel
theorem dX1_moveCover_90 : decode cX1_moveCover 90 = .ok (.return_, 1) := by decide +kernel
set_option maxRecDepth 20000 in
theorem ggX1_aboutPerson_J13_bitCount_95d88 : GoodIn wsX1_aboutPerson wsJ13_bitCount_95d88 := goodIn_r _ [9, 10, 11, 12] (by decide +kernel) (by decide +kernel)
set_option maxRecDepth 20000 in
theorem gX1_aboutPerson_J13_bitCount_95d88 : GoodIn wsX1_aboutPerson (va_wsS RX1 110 yJ13_bitCount_95d88 wsJ13_bitCount_95d88) := goodIn_app (goodIn_of _ (by decide +kernel)) ggX1_aboutPerson_J13_bitCount_95d88
set_option maxRecDepth 20000 in
theorem ggX1_aboutPerson_X1_worked : GoodIn wsX1_aboutPerson wsX1_worked := goodIn_r _ [17, 1, 2, 18, 3, 28, 29, 30, 31, 32, 33, 34, 35, 36, 37, 38, 39, 40, 41, 42] (by decide +kernel) (by decide +kernel)
set_option maxRecDepth 20000 in
theorem gX1_aboutPerson_X1_worked : GoodIn wsX1_aboutPerson (wsV RX1 78 RX1 yX1_worked wsX1_worked) := goodIn_app (goodIn_of _ (by decide +kernel)) ggX1_aboutPerson_X1_worked
set_option maxRecDepth 20000 in
theorem ggX1_aboutPerson_X1_bidsBy : GoodIn wsX1_aboutPerson wsX1_bidsBy := goodIn_r _ [22, 23, 24, 25, 26, 27, 28, 29, 30, 31, 32, 33, 34, 35, 36, 37, 38, 39, 40, 41, 42] (by decide +kernel) (by decide +kernel)
set_option maxRecDepth 20000 in
theorem gX1_aboutPerson_X1_bidsBy : GoodIn wsX1_aboutPerson (wsV RX1 116 RX1 yX1_bidsBy wsX1_bidsBy) := goodIn_app (goodIn_of _ (by decide +kernel)) ggX1_aboutPerson_X1_bidsBy
theorem dX1_aboutPerson_0 : decode cX1_aboutPerson 0 = .ok (.iload_n 2, 1) := by decide +kernel
theorem dX1_aboutPerson_1 : decode cX1_aboutPerson 1 = .ok (.tableswitch 92 0 5 #[39, 49, 59, 69, 76, 83], 39) := by decide +kernel
theorem dX1_aboutPerson_40 : decode cX1_aboutPerson 40 = .ok (.aload_n 0, 1) := by decide +kernel
theorem dX1_aboutPerson_41 : decode cX1_aboutPerson 41 = .ok (.getfield 15, 3) := by decide +kernel
theorem dX1_aboutPerson_44 : decode cX1_aboutPerson 44 = .ok (.iload_n 1, 1) := by decide +kernel
theorem dX1_aboutPerson_45 : decode cX1_aboutPerson 45 = .ok (.laload, 1) := by decide +kernel
theorem dX1_aboutPerson_46 : decode cX1_aboutPerson 46 = .ok (.invokestatic 110, 3) := by decide +kernel
theorem dX1_aboutPerson_49 : decode cX1_aboutPerson 49 = .ok (.ireturn, 1) := by decide +kernel
theorem dX1_aboutPerson_50 : decode cX1_aboutPerson 50 = .ok (.aload_n 0, 1) := by decide +kernel
theorem dX1_aboutPerson_51 : decode cX1_aboutPerson 51 = .ok (.getfield 19, 3) := by decide +kernel
theorem dX1_aboutPerson_54 : decode cX1_aboutPerson 54 = .ok (.iload_n 1, 1) := by decide +kernel
theorem dX1_aboutPerson_55 : decode cX1_aboutPerson 55 = .ok (.laload, 1) := by decide +kernel
theorem dX1_aboutPerson_56 : decode cX1_aboutPerson 56 = .ok (.invokestatic 110, 3) := by decide +kernel
theorem dX1_aboutPerson_59 : decode cX1_aboutPerson 59 = .ok (.ireturn, 1) := by decide +kernel
theorem dX1_aboutPerson_60 : decode cX1_aboutPerson 60 = .ok (.aload_n 0, 1) := by decide +kernel
theorem dX1_aboutPerson_61 : decode cX1_aboutPerson 61 = .ok (.getfield 22, 3) := by decide +kernel
theorem dX1_aboutPerson_64 : decode cX1_aboutPerson 64 = .ok (.iload_n 1, 1) := by decide +kernel
theorem dX1_aboutPerson_65 : decode cX1_aboutPerson 65 = .ok (.laload, 1) := by decide +kernel
theorem dX1_aboutPerson_66 : decode cX1_aboutPerson 66 = .ok (.invokestatic 110, 3) := by decide +kernel
theorem dX1_aboutPerson_69 : decode cX1_aboutPerson 69 = .ok (.ireturn, 1) := by decide +kernel
theorem dX1_aboutPerson_70 : decode cX1_aboutPerson 70 = .ok (.aload_n 0, 1) := by decide +kernel
theorem dX1_aboutPerson_71 : decode cX1_aboutPerson 71 = .ok (.getfield 25, 3) := by decide +kernel
theorem dX1_aboutPerson_74 : decode cX1_aboutPerson 74 = .ok (.iload_n 1, 1) := by decide +kernel
theorem dX1_aboutPerson_75 : decode cX1_aboutPerson 75 = .ok (.iaload, 1) := by decide +kernel
theorem dX1_aboutPerson_76 : decode cX1_aboutPerson 76 = .ok (.ireturn, 1) := by decide +kernel
theorem dX1_aboutPerson_77 : decode cX1_aboutPerson 77 = .ok (.aload_n 0, 1) := by decide +kernel
theorem dX1_aboutPerson_78 : decode cX1_aboutPerson 78 = .ok (.getfield 28, 3) := by decide +kernel
theorem dX1_aboutPerson_81 : decode cX1_aboutPerson 81 = .ok (.iload_n 1, 1) := by decide +kernel
theorem dX1_aboutPerson_82 : decode cX1_aboutPerson 82 = .ok (.iaload, 1) := by decide +kernel
theorem dX1_aboutPerson_83 : decode cX1_aboutPerson 83 = .ok (.ireturn, 1) := by decide +kernel
theorem dX1_aboutPerson_84 : decode cX1_aboutPerson 84 = .ok (.aload_n 0, 1) := by decide +kernel
theorem dX1_aboutPerson_85 : decode cX1_aboutPerson 85 = .ok (.iload_n 1, 1) := by decide +kernel
theorem dX1_aboutPerson_86 : decode cX1_aboutPerson 86 = .ok (.invokevirtual 78, 3) := by decide +kernel
theorem dX1_aboutPerson_89 : decode cX1_aboutPerson 89 = .ok (.invokestatic 110, 3) := by decide +kernel
theorem dX1_aboutPerson_92 : decode cX1_aboutPerson 92 = .ok (.ireturn, 1) := by decide +kernel
theorem dX1_aboutPerson_93 : decode cX1_aboutPerson 93 = .ok (.aload_n 0, 1) := by decide +kernel
theorem dX1_aboutPerson_94 : decode cX1_aboutPerson 94 = .ok (.iload_n 1, 1) := by decide +kernel
theorem dX1_aboutPerson_95 : decode cX1_aboutPerson 95 = .ok (.invokevirtual 116, 3) := by decide +kernel
theorem dX1_aboutPerson_98 : decode cX1_aboutPerson 98 = .ok (.ireturn, 1) := by decide +kernel
set_option maxRecDepth 20000 in
theorem ggX1_aboutAbsence_X1_bidsFor : GoodIn wsX1_aboutAbsence wsX1_bidsFor := goodIn_r _ [10, 11, 12, 13, 14, 15, 41, 42, 43, 44, 45, 46, 47, 48, 49, 50, 51, 52, 53, 54, 55] (by decide +kernel) (by decide +kernel)
set_option maxRecDepth 20000 in
theorem gX1_aboutAbsence_X1_bidsFor : GoodIn wsX1_aboutAbsence (wsV RX1 119 RX1 yX1_bidsFor wsX1_bidsFor) := goodIn_app (goodIn_of _ (by decide +kernel)) ggX1_aboutAbsence_X1_bidsFor
set_option maxRecDepth 20000 in
theorem ggX1_aboutAbsence_X1_personsWhoCanCover : GoodIn wsX1_aboutAbsence wsX1_personsWhoCanCover := goodIn_r _ [19, 11, 20, 21, 22, 9, 23, 1, 2, 24, 25, 26, 27, 28, 29, 30, 31, 32, 33, 34, 35, 36, 37, 38, 39, 40, 41, 42, 43, 44, 45, 46, 47, 48, 49, 50, 51, 52, 53, 54, 55] (by decide +kernel) (by decide +kernel)
set_option maxRecDepth 20000 in
theorem gX1_aboutAbsence_X1_personsWhoCanCover : GoodIn wsX1_aboutAbsence (wsV RX1 122 RX1 yX1_personsWhoCanCover wsX1_personsWhoCanCover) := goodIn_app (goodIn_of _ (by decide +kernel)) ggX1_aboutAbsence_X1_personsWhoCanCover
theorem dX1_aboutAbsence_0 : decode cX1_aboutAbsence 0 = .ok (.iload_n 2, 1) := by decide +kernel
theorem dX1_aboutAbsence_1 : decode cX1_aboutAbsence 1 = .ok (.tableswitch 80 0 5 #[39, 46, 53, 60, 67, 74], 39) := by decide +kernel
theorem dX1_aboutAbsence_40 : decode cX1_aboutAbsence 40 = .ok (.aload_n 0, 1) := by decide +kernel
theorem dX1_aboutAbsence_41 : decode cX1_aboutAbsence 41 = .ok (.getfield 31, 3) := by decide +kernel
theorem dX1_aboutAbsence_44 : decode cX1_aboutAbsence 44 = .ok (.iload_n 1, 1) := by decide +kernel
theorem dX1_aboutAbsence_45 : decode cX1_aboutAbsence 45 = .ok (.iaload, 1) := by decide +kernel
theorem dX1_aboutAbsence_46 : decode cX1_aboutAbsence 46 = .ok (.ireturn, 1) := by decide +kernel
theorem dX1_aboutAbsence_47 : decode cX1_aboutAbsence 47 = .ok (.aload_n 0, 1) := by decide +kernel
theorem dX1_aboutAbsence_48 : decode cX1_aboutAbsence 48 = .ok (.getfield 34, 3) := by decide +kernel
theorem dX1_aboutAbsence_51 : decode cX1_aboutAbsence 51 = .ok (.iload_n 1, 1) := by decide +kernel
theorem dX1_aboutAbsence_52 : decode cX1_aboutAbsence 52 = .ok (.iaload, 1) := by decide +kernel
theorem dX1_aboutAbsence_53 : decode cX1_aboutAbsence 53 = .ok (.ireturn, 1) := by decide +kernel
theorem dX1_aboutAbsence_54 : decode cX1_aboutAbsence 54 = .ok (.aload_n 0, 1) := by decide +kernel
theorem dX1_aboutAbsence_55 : decode cX1_aboutAbsence 55 = .ok (.getfield 37, 3) := by decide +kernel
theorem dX1_aboutAbsence_58 : decode cX1_aboutAbsence 58 = .ok (.iload_n 1, 1) := by decide +kernel
theorem dX1_aboutAbsence_59 : decode cX1_aboutAbsence 59 = .ok (.iaload, 1) := by decide +kernel
theorem dX1_aboutAbsence_60 : decode cX1_aboutAbsence 60 = .ok (.ireturn, 1) := by decide +kernel
theorem dX1_aboutAbsence_61 : decode cX1_aboutAbsence 61 = .ok (.aload_n 0, 1) := by decide +kernel
theorem dX1_aboutAbsence_62 : decode cX1_aboutAbsence 62 = .ok (.getfield 40, 3) := by decide +kernel
theorem dX1_aboutAbsence_65 : decode cX1_aboutAbsence 65 = .ok (.iload_n 1, 1) := by decide +kernel
theorem dX1_aboutAbsence_66 : decode cX1_aboutAbsence 66 = .ok (.iaload, 1) := by decide +kernel
theorem dX1_aboutAbsence_67 : decode cX1_aboutAbsence 67 = .ok (.ireturn, 1) := by decide +kernel
theorem dX1_aboutAbsence_68 : decode cX1_aboutAbsence 68 = .ok (.aload_n 0, 1) := by decide +kernel
theorem dX1_aboutAbsence_69 : decode cX1_aboutAbsence 69 = .ok (.getfield 43, 3) := by decide +kernel
theorem dX1_aboutAbsence_72 : decode cX1_aboutAbsence 72 = .ok (.iload_n 1, 1) := by decide +kernel
theorem dX1_aboutAbsence_73 : decode cX1_aboutAbsence 73 = .ok (.iaload, 1) := by decide +kernel
theorem dX1_aboutAbsence_74 : decode cX1_aboutAbsence 74 = .ok (.ireturn, 1) := by decide +kernel
theorem dX1_aboutAbsence_75 : decode cX1_aboutAbsence 75 = .ok (.aload_n 0, 1) := by decide +kernel
theorem dX1_aboutAbsence_76 : decode cX1_aboutAbsence 76 = .ok (.iload_n 1, 1) := by decide +kernel
theorem dX1_aboutAbsence_77 : decode cX1_aboutAbsence 77 = .ok (.invokevirtual 119, 3) := by decide +kernel
theorem dX1_aboutAbsence_80 : decode cX1_aboutAbsence 80 = .ok (.ireturn, 1) := by decide +kernel
theorem dX1_aboutAbsence_81 : decode cX1_aboutAbsence 81 = .ok (.aload_n 0, 1) := by decide +kernel
theorem dX1_aboutAbsence_82 : decode cX1_aboutAbsence 82 = .ok (.iload_n 1, 1) := by decide +kernel
theorem dX1_aboutAbsence_83 : decode cX1_aboutAbsence 83 = .ok (.invokevirtual 122, 3) := by decide +kernel
theorem dX1_aboutAbsence_86 : decode cX1_aboutAbsence 86 = .ok (.ireturn, 1) := by decide +kernel
set_option maxRecDepth 20000 in
theorem ggX1_aboutAll_X1_countOf : GoodIn wsX1_aboutAll wsX1_countOf := goodIn_r _ [8, 2, 9, 43, 44, 45, 46, 47, 48, 49, 50, 51, 52, 53, 54, 55, 56, 57] (by decide +kernel) (by decide +kernel)
set_option maxRecDepth 20000 in
theorem gX1_aboutAll_X1_countOf : GoodIn wsX1_aboutAll (wsV RX1 125 RX1 yX1_countOf wsX1_countOf) := goodIn_app (goodIn_of _ (by decide +kernel)) ggX1_aboutAll_X1_countOf
set_option maxRecDepth 20000 in
theorem ggX1_aboutAll_X1_greatestMeter : GoodIn wsX1_aboutAll wsX1_greatestMeter := goodIn_r _ [13, 1, 14, 15, 16, 17, 18, 43, 44, 45, 46, 47, 48, 49, 50, 51, 52, 53, 54, 55, 56, 57] (by decide +kernel) (by decide +kernel)
set_option maxRecDepth 20000 in
theorem gX1_aboutAll_X1_greatestMeter : GoodIn wsX1_aboutAll (wsV RX1 128 RX1 yX1_greatestMeter wsX1_greatestMeter) := goodIn_app (goodIn_of _ (by decide +kernel)) ggX1_aboutAll_X1_greatestMeter
set_option maxRecDepth 20000 in
theorem ggX1_aboutAll_X1_lowestMeter : GoodIn wsX1_aboutAll wsX1_lowestMeter := goodIn_r _ [22, 1, 14, 23, 24, 17, 25, 43, 44, 45, 46, 47, 48, 49, 50, 51, 52, 53, 54, 55, 56, 57] (by decide +kernel) (by decide +kernel)
set_option maxRecDepth 20000 in
theorem gX1_aboutAll_X1_lowestMeter : GoodIn wsX1_aboutAll (wsV RX1 132 RX1 yX1_lowestMeter wsX1_lowestMeter) := goodIn_app (goodIn_of _ (by decide +kernel)) ggX1_aboutAll_X1_lowestMeter
set_option maxRecDepth 20000 in
theorem ggX1_aboutAll_X1_allBids : GoodIn wsX1_aboutAll wsX1_allBids := goodIn_r _ [29, 2, 30, 31, 32, 7, 33, 1, 34, 35, 36, 37, 43, 44, 45, 46, 47, 48, 49, 50, 51, 52, 53, 54, 55, 56, 57] (by decide +kernel) (by decide +kernel)
set_option maxRecDepth 20000 in
theorem gX1_aboutAll_X1_allBids : GoodIn wsX1_aboutAll (wsV RX1 135 RX1 yX1_allBids wsX1_allBids) := goodIn_app (goodIn_of _ (by decide +kernel)) ggX1_aboutAll_X1_allBids
set_option maxRecDepth 20000 in
theorem ggX1_aboutAll_X1_allPoints : GoodIn wsX1_aboutAll wsX1_allPoints := goodIn_r _ [41, 2, 42, 43, 44, 45, 46, 47, 48, 49, 50, 51, 52, 53, 54, 55, 56, 57] (by decide +kernel) (by decide +kernel)
set_option maxRecDepth 20000 in
theorem gX1_aboutAll_X1_allPoints : GoodIn wsX1_aboutAll (wsV RX1 138 RX1 yX1_allPoints wsX1_allPoints) := goodIn_app (goodIn_of _ (by decide +kernel)) ggX1_aboutAll_X1_allPoints
theorem dX1_aboutAll_0 : decode cX1_aboutAll 0 = .ok (.iload_n 1, 1) := by decide +kernel
theorem dX1_aboutAll_1 : decode cX1_aboutAll 1 = .ok (.tableswitch 109 0 9 #[55, 60, 65, 71, 77, 83, 89, 94, 99, 104], 55) := by decide +kernel
theorem dX1_aboutAll_56 : decode cX1_aboutAll 56 = .ok (.aload_n 0, 1) := by decide +kernel
theorem dX1_aboutAll_57 : decode cX1_aboutAll 57 = .ok (.getfield 62, 3) := by decide +kernel
theorem dX1_aboutAll_60 : decode cX1_aboutAll 60 = .ok (.ireturn, 1) := by decide +kernel
theorem dX1_aboutAll_61 : decode cX1_aboutAll 61 = .ok (.aload_n 0, 1) := by decide +kernel
theorem dX1_aboutAll_62 : decode cX1_aboutAll 62 = .ok (.getfield 65, 3) := by decide +kernel
theorem dX1_aboutAll_65 : decode cX1_aboutAll 65 = .ok (.ireturn, 1) := by decide +kernel
theorem dX1_aboutAll_66 : decode cX1_aboutAll 66 = .ok (.aload_n 0, 1) := by decide +kernel
theorem dX1_aboutAll_67 : decode cX1_aboutAll 67 = .ok (.iconst 0, 1) := by decide +kernel
theorem dX1_aboutAll_68 : decode cX1_aboutAll 68 = .ok (.invokevirtual 125, 3) := by decide +kernel
theorem dX1_aboutAll_71 : decode cX1_aboutAll 71 = .ok (.ireturn, 1) := by decide +kernel
theorem dX1_aboutAll_72 : decode cX1_aboutAll 72 = .ok (.aload_n 0, 1) := by decide +kernel
theorem dX1_aboutAll_73 : decode cX1_aboutAll 73 = .ok (.iconst 1, 1) := by decide +kernel
theorem dX1_aboutAll_74 : decode cX1_aboutAll 74 = .ok (.invokevirtual 125, 3) := by decide +kernel
theorem dX1_aboutAll_77 : decode cX1_aboutAll 77 = .ok (.ireturn, 1) := by decide +kernel
theorem dX1_aboutAll_78 : decode cX1_aboutAll 78 = .ok (.aload_n 0, 1) := by decide +kernel
theorem dX1_aboutAll_79 : decode cX1_aboutAll 79 = .ok (.iconst 2, 1) := by decide +kernel
theorem dX1_aboutAll_80 : decode cX1_aboutAll 80 = .ok (.invokevirtual 125, 3) := by decide +kernel
theorem dX1_aboutAll_83 : decode cX1_aboutAll 83 = .ok (.ireturn, 1) := by decide +kernel
theorem dX1_aboutAll_84 : decode cX1_aboutAll 84 = .ok (.aload_n 0, 1) := by decide +kernel
theorem dX1_aboutAll_85 : decode cX1_aboutAll 85 = .ok (.iconst 3, 1) := by decide +kernel
theorem dX1_aboutAll_86 : decode cX1_aboutAll 86 = .ok (.invokevirtual 125, 3) := by decide +kernel
theorem dX1_aboutAll_89 : decode cX1_aboutAll 89 = .ok (.ireturn, 1) := by decide +kernel
theorem dX1_aboutAll_90 : decode cX1_aboutAll 90 = .ok (.aload_n 0, 1) := by decide +kernel
theorem dX1_aboutAll_91 : decode cX1_aboutAll 91 = .ok (.invokevirtual 128, 3) := by decide +kernel
theorem dX1_aboutAll_94 : decode cX1_aboutAll 94 = .ok (.ireturn, 1) := by decide +kernel
theorem dX1_aboutAll_95 : decode cX1_aboutAll 95 = .ok (.aload_n 0, 1) := by decide +kernel
theorem dX1_aboutAll_96 : decode cX1_aboutAll 96 = .ok (.invokevirtual 132, 3) := by decide +kernel
theorem dX1_aboutAll_99 : decode cX1_aboutAll 99 = .ok (.ireturn, 1) := by decide +kernel
theorem dX1_aboutAll_100 : decode cX1_aboutAll 100 = .ok (.aload_n 0, 1) := by decide +kernel
theorem dX1_aboutAll_101 : decode cX1_aboutAll 101 = .ok (.invokevirtual 135, 3) := by decide +kernel
theorem dX1_aboutAll_104 : decode cX1_aboutAll 104 = .ok (.ireturn, 1) := by decide +kernel
theorem dX1_aboutAll_105 : decode cX1_aboutAll 105 = .ok (.aload_n 0, 1) := by decide +kernel
theorem dX1_aboutAll_106 : decode cX1_aboutAll 106 = .ok (.invokevirtual 138, 3) := by decide +kernel
theorem dX1_aboutAll_109 : decode cX1_aboutAll 109 = .ok (.ireturn, 1) := by decide +kernel
theorem dX1_aboutAll_110 : decode cX1_aboutAll 110 = .ok (.aload_n 0, 1) := by decide +kernel
theorem dX1_aboutAll_111 : decode cX1_aboutAll 111 = .ok (.getfield 58, 3) := by decide +kernel
theorem dX1_aboutAll_114 : decode cX1_aboutAll 114 = .ok (.ireturn, 1) := by decide +kernel
theorem dX1_countOf_0 : decode cX1_countOf 0 = .ok (.iconst 0, 1) := by decide +kernel
theorem dX1_countOf_1 : decode cX1_countOf 1 = .ok (.istore_n 2, 1) := by decide +kernel
theorem dX1_countOf_2 : decode cX1_countOf 2 = .ok (.iconst 0, 1) := by decide +kernel
theorem dX1_countOf_3 : decode cX1_countOf 3 = .ok (.istore_n 3, 1) := by decide +kernel
theorem dX1_countOf_4 : decode cX1_countOf 4 = .ok (.iload_n 3, 1) := by decide +kernel
theorem dX1_countOf_5 : decode cX1_countOf 5 = .ok (.aload_n 0, 1) := by decide +kernel
theorem dX1_countOf_6 : decode cX1_countOf 6 = .ok (.getfield 65, 3) := by decide +kernel
theorem dX1_countOf_9 : decode cX1_countOf 9 = .ok (.if_icmp .ge 22, 3) := by decide +kernel
theorem dX1_countOf_12 : decode cX1_countOf 12 = .ok (.aload_n 0, 1) := by decide +kernel
theorem dX1_countOf_13 : decode cX1_countOf 13 = .ok (.getfield 37, 3) := by decide +kernel
theorem dX1_countOf_16 : decode cX1_countOf 16 = .ok (.iload_n 3, 1) := by decide +kernel
theorem dX1_countOf_17 : decode cX1_countOf 17 = .ok (.iaload, 1) := by decide +kernel
theorem dX1_countOf_18 : decode cX1_countOf 18 = .ok (.iload_n 1, 1) := by decide +kernel
theorem dX1_countOf_19 : decode cX1_countOf 19 = .ok (.if_icmp .ne 6, 3) := by decide +kernel
theorem dX1_countOf_22 : decode cX1_countOf 22 = .ok (.iinc 2 1, 3) := by decide +kernel
theorem dX1_countOf_25 : decode cX1_countOf 25 = .ok (.iinc 3 1, 3) := by decide +kernel
theorem dX1_countOf_28 : decode cX1_countOf 28 = .ok (.goto (-24), 3) := by decide +kernel
theorem dX1_countOf_31 : decode cX1_countOf 31 = .ok (.iload_n 2, 1) := by decide +kernel
theorem dX1_countOf_32 : decode cX1_countOf 32 = .ok (.ireturn, 1) := by decide +kernel
theorem dX1_greatestMeter_0 : decode cX1_greatestMeter 0 = .ok (.aload_n 0, 1) := by decide +kernel
theorem dX1_greatestMeter_1 : decode cX1_greatestMeter 1 = .ok (.getfield 62, 3) := by decide +kernel
theorem dX1_greatestMeter_4 : decode cX1_greatestMeter 4 = .ok (.ifCond .ne 5, 3) := by decide +kernel
theorem dX1_greatestMeter_7 : decode cX1_greatestMeter 7 = .ok (.iconst (-1), 1) := by decide +kernel
theorem dX1_greatestMeter_8 : decode cX1_greatestMeter 8 = .ok (.ireturn, 1) := by decide +kernel
theorem dX1_greatestMeter_9 : decode cX1_greatestMeter 9 = .ok (.aload_n 0, 1) := by decide +kernel
theorem dX1_greatestMeter_10 : decode cX1_greatestMeter 10 = .ok (.getfield 25, 3) := by decide +kernel
theorem dX1_greatestMeter_13 : decode cX1_greatestMeter 13 = .ok (.iconst 0, 1) := by decide +kernel
theorem dX1_greatestMeter_14 : decode cX1_greatestMeter 14 = .ok (.iaload, 1) := by decide +kernel
theorem dX1_greatestMeter_15 : decode cX1_greatestMeter 15 = .ok (.istore_n 1, 1) := by decide +kernel
theorem dX1_greatestMeter_16 : decode cX1_greatestMeter 16 = .ok (.iconst 1, 1) := by decide +kernel
theorem dX1_greatestMeter_17 : decode cX1_greatestMeter 17 = .ok (.istore_n 2, 1) := by decide +kernel
theorem dX1_greatestMeter_18 : decode cX1_greatestMeter 18 = .ok (.iload_n 2, 1) := by decide +kernel
theorem dX1_greatestMeter_19 : decode cX1_greatestMeter 19 = .ok (.aload_n 0, 1) := by decide +kernel
theorem dX1_greatestMeter_20 : decode cX1_greatestMeter 20 = .ok (.getfield 62, 3) := by decide +kernel
theorem dX1_greatestMeter_23 : decode cX1_greatestMeter 23 = .ok (.if_icmp .ge 20, 3) := by decide +kernel
theorem dX1_greatestMeter_26 : decode cX1_greatestMeter 26 = .ok (.iload_n 1, 1) := by decide +kernel
theorem dX1_greatestMeter_27 : decode cX1_greatestMeter 27 = .ok (.aload_n 0, 1) := by decide +kernel
theorem dX1_greatestMeter_28 : decode cX1_greatestMeter 28 = .ok (.getfield 25, 3) := by decide +kernel
theorem dX1_greatestMeter_31 : decode cX1_greatestMeter 31 = .ok (.iload_n 2, 1) := by decide +kernel
theorem dX1_greatestMeter_32 : decode cX1_greatestMeter 32 = .ok (.iaload, 1) := by decide +kernel
theorem dX1_greatestMeter_33 : decode cX1_greatestMeter 33 = .ok (.invokestatic 141, 3) := by decide +kernel
theorem dX1_greatestMeter_36 : decode cX1_greatestMeter 36 = .ok (.istore_n 1, 1) := by decide +kernel
theorem dX1_greatestMeter_37 : decode cX1_greatestMeter 37 = .ok (.iinc 2 1, 3) := by decide +kernel
theorem dX1_greatestMeter_40 : decode cX1_greatestMeter 40 = .ok (.goto (-22), 3) := by decide +kernel
theorem dX1_greatestMeter_43 : decode cX1_greatestMeter 43 = .ok (.iload_n 1, 1) := by decide +kernel
theorem dX1_greatestMeter_44 : decode cX1_greatestMeter 44 = .ok (.ireturn, 1) := by decide +kernel
theorem dX1_lowestMeter_0 : decode cX1_lowestMeter 0 = .ok (.aload_n 0, 1) := by decide +kernel
theorem dX1_lowestMeter_1 : decode cX1_lowestMeter 1 = .ok (.getfield 62, 3) := by decide +kernel
theorem dX1_lowestMeter_4 : decode cX1_lowestMeter 4 = .ok (.ifCond .ne 5, 3) := by decide +kernel
theorem dX1_lowestMeter_7 : decode cX1_lowestMeter 7 = .ok (.iconst (-1), 1) := by decide +kernel
theorem dX1_lowestMeter_8 : decode cX1_lowestMeter 8 = .ok (.ireturn, 1) := by decide +kernel
theorem dX1_lowestMeter_9 : decode cX1_lowestMeter 9 = .ok (.aload_n 0, 1) := by decide +kernel
theorem dX1_lowestMeter_10 : decode cX1_lowestMeter 10 = .ok (.getfield 25, 3) := by decide +kernel
theorem dX1_lowestMeter_13 : decode cX1_lowestMeter 13 = .ok (.iconst 0, 1) := by decide +kernel
theorem dX1_lowestMeter_14 : decode cX1_lowestMeter 14 = .ok (.iaload, 1) := by decide +kernel
theorem dX1_lowestMeter_15 : decode cX1_lowestMeter 15 = .ok (.istore_n 1, 1) := by decide +kernel
theorem dX1_lowestMeter_16 : decode cX1_lowestMeter 16 = .ok (.iconst 1, 1) := by decide +kernel
theorem dX1_lowestMeter_17 : decode cX1_lowestMeter 17 = .ok (.istore_n 2, 1) := by decide +kernel
theorem dX1_lowestMeter_18 : decode cX1_lowestMeter 18 = .ok (.iload_n 2, 1) := by decide +kernel
theorem dX1_lowestMeter_19 : decode cX1_lowestMeter 19 = .ok (.aload_n 0, 1) := by decide +kernel
theorem dX1_lowestMeter_20 : decode cX1_lowestMeter 20 = .ok (.getfield 62, 3) := by decide +kernel
theorem dX1_lowestMeter_23 : decode cX1_lowestMeter 23 = .ok (.if_icmp .ge 20, 3) := by decide +kernel
theorem dX1_lowestMeter_26 : decode cX1_lowestMeter 26 = .ok (.iload_n 1, 1) := by decide +kernel
theorem dX1_lowestMeter_27 : decode cX1_lowestMeter 27 = .ok (.aload_n 0, 1) := by decide +kernel
theorem dX1_lowestMeter_28 : decode cX1_lowestMeter 28 = .ok (.getfield 25, 3) := by decide +kernel
theorem dX1_lowestMeter_31 : decode cX1_lowestMeter 31 = .ok (.iload_n 2, 1) := by decide +kernel
theorem dX1_lowestMeter_32 : decode cX1_lowestMeter 32 = .ok (.iaload, 1) := by decide +kernel
theorem dX1_lowestMeter_33 : decode cX1_lowestMeter 33 = .ok (.invokestatic 146, 3) := by decide +kernel
theorem dX1_lowestMeter_36 : decode cX1_lowestMeter 36 = .ok (.istore_n 1, 1) := by decide +kernel
theorem dX1_lowestMeter_37 : decode cX1_lowestMeter 37 = .ok (.iinc 2 1, 3) := by decide +kernel
theorem dX1_lowestMeter_40 : decode cX1_lowestMeter 40 = .ok (.goto (-22), 3) := by decide +kernel
theorem dX1_lowestMeter_43 : decode cX1_lowestMeter 43 = .ok (.iload_n 1, 1) := by decide +kernel
theorem dX1_lowestMeter_44 : decode cX1_lowestMeter 44 = .ok (.ireturn, 1) := by decide +kernel
set_option maxRecDepth 20000 in
theorem ggX1_allBids_X1_bidsFor : GoodIn wsX1_allBids wsX1_bidsFor := goodIn_r _ [6, 7, 8, 9, 10, 11, 12, 13, 14, 15, 16, 17, 18, 19, 20, 21, 22, 23, 24, 25, 26] (by decide +kernel) (by decide +kernel)
set_option maxRecDepth 20000 in
theorem gX1_allBids_X1_bidsFor : GoodIn wsX1_allBids (wsV RX1 119 RX1 yX1_bidsFor wsX1_bidsFor) := goodIn_app (goodIn_of _ (by decide +kernel)) ggX1_allBids_X1_bidsFor
theorem dX1_allBids_0 : decode cX1_allBids 0 = .ok (.iconst 0, 1) := by decide +kernel
theorem dX1_allBids_1 : decode cX1_allBids 1 = .ok (.istore_n 1, 1) := by decide +kernel
theorem dX1_allBids_2 : decode cX1_allBids 2 = .ok (.iconst 0, 1) := by decide +kernel
theorem dX1_allBids_3 : decode cX1_allBids 3 = .ok (.istore_n 2, 1) := by decide +kernel
theorem dX1_allBids_4 : decode cX1_allBids 4 = .ok (.iload_n 2, 1) := by decide +kernel
theorem dX1_allBids_5 : decode cX1_allBids 5 = .ok (.aload_n 0, 1) := by decide +kernel
theorem dX1_allBids_6 : decode cX1_allBids 6 = .ok (.getfield 65, 3) := by decide +kernel
theorem dX1_allBids_9 : decode cX1_allBids 9 = .ok (.if_icmp .ge 17, 3) := by decide +kernel
theorem dX1_allBids_12 : decode cX1_allBids 12 = .ok (.iload_n 1, 1) := by decide +kernel
theorem dX1_allBids_13 : decode cX1_allBids 13 = .ok (.aload_n 0, 1) := by decide +kernel
theorem dX1_allBids_14 : decode cX1_allBids 14 = .ok (.iload_n 2, 1) := by decide +kernel
theorem dX1_allBids_15 : decode cX1_allBids 15 = .ok (.invokevirtual 119, 3) := by decide +kernel
theorem dX1_allBids_18 : decode cX1_allBids 18 = .ok (.iadd, 1) := by decide +kernel
theorem dX1_allBids_19 : decode cX1_allBids 19 = .ok (.istore_n 1, 1) := by decide +kernel
theorem dX1_allBids_20 : decode cX1_allBids 20 = .ok (.iinc 2 1, 3) := by decide +kernel
theorem dX1_allBids_23 : decode cX1_allBids 23 = .ok (.goto (-19), 3) := by decide +kernel
theorem dX1_allBids_26 : decode cX1_allBids 26 = .ok (.iload_n 1, 1) := by decide +kernel
theorem dX1_allBids_27 : decode cX1_allBids 27 = .ok (.ireturn, 1) := by decide +kernel
theorem dX1_allPoints_0 : decode cX1_allPoints 0 = .ok (.iconst 0, 1) := by decide +kernel
theorem dX1_allPoints_1 : decode cX1_allPoints 1 = .ok (.istore_n 1, 1) := by decide +kernel
theorem dX1_allPoints_2 : decode cX1_allPoints 2 = .ok (.iconst 0, 1) := by decide +kernel
theorem dX1_allPoints_3 : decode cX1_allPoints 3 = .ok (.istore_n 2, 1) := by decide +kernel
theorem dX1_allPoints_4 : decode cX1_allPoints 4 = .ok (.iload_n 2, 1) := by decide +kernel
theorem dX1_allPoints_5 : decode cX1_allPoints 5 = .ok (.aload_n 0, 1) := by decide +kernel
theorem dX1_allPoints_6 : decode cX1_allPoints 6 = .ok (.getfield 65, 3) := by decide +kernel
theorem dX1_allPoints_9 : decode cX1_allPoints 9 = .ok (.if_icmp .ge 18, 3) := by decide +kernel
theorem dX1_allPoints_12 : decode cX1_allPoints 12 = .ok (.iload_n 1, 1) := by decide +kernel
theorem dX1_allPoints_13 : decode cX1_allPoints 13 = .ok (.aload_n 0, 1) := by decide +kernel
theorem dX1_allPoints_14 : decode cX1_allPoints 14 = .ok (.getfield 43, 3) := by decide +kernel
theorem dX1_allPoints_17 : decode cX1_allPoints 17 = .ok (.iload_n 2, 1) := by decide +kernel
theorem dX1_allPoints_18 : decode cX1_allPoints 18 = .ok (.iaload, 1) := by decide +kernel
theorem dX1_allPoints_19 : decode cX1_allPoints 19 = .ok (.iadd, 1) := by decide +kernel
theorem dX1_allPoints_20 : decode cX1_allPoints 20 = .ok (.istore_n 1, 1) := by decide +kernel
theorem dX1_allPoints_21 : decode cX1_allPoints 21 = .ok (.iinc 2 1, 3) := by decide +kernel
theorem dX1_allPoints_24 : decode cX1_allPoints 24 = .ok (.goto (-20), 3) := by decide +kernel
theorem dX1_allPoints_27 : decode cX1_allPoints 27 = .ok (.iload_n 1, 1) := by decide +kernel
theorem dX1_allPoints_28 : decode cX1_allPoints 28 = .ok (.ireturn, 1) := by decide +kernel
set_option maxRecDepth 20000 in
theorem ggX2_init_X1_init : GoodIn wsX2_init wsX1_init := goodIn_r _ [16, 17, 2, 3, 18, 19, 20, 21, 22, 23, 24, 25, 26, 27, 28, 29, 30, 31, 32, 33, 34, 35, 40, 41, 42, 43, 44, 45, 46, 47, 48, 49, 50, 51, 52, 53, 54] (by decide +kernel) (by decide +kernel)
set_option maxRecDepth 20000 in
theorem gX2_init_X1_init : GoodIn wsX2_init (wsX1_init) := ggX2_init_X1_init
set_option maxRecDepth 20000 in
theorem ggX2_init_X0_init : GoodIn wsX2_init wsX0_init := goodIn_r _ [37, 38, 2, 3, 18, 39, 60, 61, 62, 63, 64, 65, 66, 67] (by decide +kernel) (by decide +kernel)
set_option maxRecDepth 20000 in
theorem gX2_init_X0_init_n25 : GoodIn wsX2_init (wsX0_init) := ggX2_init_X0_init
theorem dX2_init_0 : decode cX2_init 0 = .ok (.aload_n 0, 1) := by decide +kernel
theorem dX2_init_1 : decode cX2_init 1 = .ok (.invokespecial 3, 3) := by decide +kernel
theorem dX2_init_4 : decode cX2_init 4 = .ok (.aload_n 0, 1) := by decide +kernel
theorem dX2_init_5 : decode cX2_init 5 = .ok (.new 9, 3) := by decide +kernel
theorem dX2_init_8 : decode cX2_init 8 = .ok (.dup, 1) := by decide +kernel
theorem dX2_init_9 : decode cX2_init 9 = .ok (.invokespecial 11, 3) := by decide +kernel
theorem dX2_init_12 : decode cX2_init 12 = .ok (.putfield 12, 3) := by decide +kernel
theorem dX2_init_15 : decode cX2_init 15 = .ok (.aload_n 0, 1) := by decide +kernel
theorem dX2_init_16 : decode cX2_init 16 = .ok (.new 9, 3) := by decide +kernel
theorem dX2_init_19 : decode cX2_init 19 = .ok (.dup, 1) := by decide +kernel
theorem dX2_init_20 : decode cX2_init 20 = .ok (.invokespecial 11, 3) := by decide +kernel
theorem dX2_init_23 : decode cX2_init 23 = .ok (.putfield 16, 3) := by decide +kernel
theorem dX2_init_26 : decode cX2_init 26 = .ok (.aload_n 0, 1) := by decide +kernel
theorem dX2_init_27 : decode cX2_init 27 = .ok (.iconst 4, 1) := by decide +kernel
theorem dX2_init_28 : decode cX2_init 28 = .ok (.anewarray 9, 3) := by decide +kernel
theorem dX2_init_31 : decode cX2_init 31 = .ok (.putfield 19, 3) := by decide +kernel
theorem dX2_init_34 : decode cX2_init 34 = .ok (.aload_n 0, 1) := by decide +kernel
theorem dX2_init_35 : decode cX2_init 35 = .ok (.new 23, 3) := by decide +kernel
theorem dX2_init_38 : decode cX2_init 38 = .ok (.dup, 1) := by decide +kernel
theorem dX2_init_39 : decode cX2_init 39 = .ok (.invokespecial 25, 3) := by decide +kernel
theorem dX2_init_42 : decode cX2_init 42 = .ok (.putfield 26, 3) := by decide +kernel
theorem dX2_init_45 : decode cX2_init 45 = .ok (.iconst 0, 1) := by decide +kernel
theorem dX2_init_46 : decode cX2_init 46 = .ok (.istore_n 1, 1) := by decide +kernel
theorem dX2_init_47 : decode cX2_init 47 = .ok (.iload_n 1, 1) := by decide +kernel
theorem dX2_init_48 : decode cX2_init 48 = .ok (.iconst 4, 1) := by decide +kernel
theorem dX2_init_49 : decode cX2_init 49 = .ok (.if_icmp .ge 22, 3) := by decide +kernel
theorem dX2_init_52 : decode cX2_init 52 = .ok (.aload_n 0, 1) := by decide +kernel
theorem dX2_init_53 : decode cX2_init 53 = .ok (.getfield 19, 3) := by decide +kernel
theorem dX2_init_56 : decode cX2_init 56 = .ok (.iload_n 1, 1) := by decide +kernel
theorem dX2_init_57 : decode cX2_init 57 = .ok (.new 9, 3) := by decide +kernel
theorem dX2_init_60 : decode cX2_init 60 = .ok (.dup, 1) := by decide +kernel
theorem dX2_init_61 : decode cX2_init 61 = .ok (.invokespecial 11, 3) := by decide +kernel
theorem dX2_init_64 : decode cX2_init 64 = .ok (.aastore, 1) := by decide +kernel
theorem dX2_init_65 : decode cX2_init 65 = .ok (.iinc 1 1, 3) := by decide +kernel
theorem dX2_init_68 : decode cX2_init 68 = .ok (.goto (-21), 3) := by decide +kernel
theorem dX2_init_71 : decode cX2_init 71 = .ok (.return_, 1) := by decide +kernel
set_option maxRecDepth 20000 in
theorem ggX2_set_X2_needInRange : GoodIn wsX2_set wsX2_needInRange := goodIn_ca (goodIn_r _ [8, 9, 10] (by decide +kernel) (by decide +kernel)) (goodIn_sub (fun _ h => List.mem_cons_of_mem _ (List.mem_append_right _ h)) (by decide +kernel))
set_option maxRecDepth 20000 in
theorem gX2_set_X2_needInRange : GoodIn wsX2_set (va_wsS RX2 30 yX2_needInRange wsX2_needInRange) := goodIn_app (goodIn_of _ (by decide +kernel)) ggX2_set_X2_needInRange
set_option maxRecDepth 20000 in
theorem ggX2_set_X2_save : GoodIn wsX2_set wsX2_save := goodIn_r _ [14, 15, 16, 3, 17, 18, 19, 7, 20, 21, 22, 23, 24, 25, 26, 27, 28, 29, 30, 31, 32, 33, 34, 35, 36, 37, 38, 39, 40, 41, 42, 43, 44, 45, 46, 47, 48, 49, 50, 51, 52, 53, 54, 55, 56, 57, 58, 59, 60, 61, 62, 63, 64] (by decide +kernel) (by decide +kernel)
set_option maxRecDepth 20000 in
theorem gX2_set_X2_save : GoodIn wsX2_set (wsV RX2 41 RX2 yX2_save wsX2_save) := goodIn_app (goodIn_of _ (by decide +kernel)) ggX2_set_X2_save
theorem dX2_set_0 : decode cX2_set 0 = .ok (.iload_n 1, 1) := by decide +kernel
theorem dX2_set_1 : decode cX2_set 1 = .ok (.iconst 0, 1) := by decide +kernel
theorem dX2_set_2 : decode cX2_set 2 = .ok (.iconst 2, 1) := by decide +kernel
theorem dX2_set_3 : decode cX2_set 3 = .ok (.invokestatic 30, 3) := by decide +kernel
theorem dX2_set_6 : decode cX2_set 6 = .ok (.iload_n 2, 1) := by decide +kernel
theorem dX2_set_7 : decode cX2_set 7 = .ok (.getstatic 34, 3) := by decide +kernel
theorem dX2_set_10 : decode cX2_set 10 = .ok (.iload_n 1, 1) := by decide +kernel
theorem dX2_set_11 : decode cX2_set 11 = .ok (.iaload, 1) := by decide +kernel
theorem dX2_set_12 : decode cX2_set 12 = .ok (.getstatic 38, 3) := by decide +kernel
theorem dX2_set_15 : decode cX2_set 15 = .ok (.iload_n 1, 1) := by decide +kernel
theorem dX2_set_16 : decode cX2_set 16 = .ok (.iaload, 1) := by decide +kernel
theorem dX2_set_17 : decode cX2_set 17 = .ok (.invokestatic 30, 3) := by decide +kernel
theorem dX2_set_20 : decode cX2_set 20 = .ok (.aload_n 0, 1) := by decide +kernel
theorem dX2_set_21 : decode cX2_set 21 = .ok (.invokevirtual 41, 3) := by decide +kernel
theorem dX2_set_24 : decode cX2_set 24 = .ok (.aload_n 0, 1) := by decide +kernel
theorem dX2_set_25 : decode cX2_set 25 = .ok (.getfield 12, 3) := by decide +kernel
theorem dX2_set_28 : decode cX2_set 28 = .ok (.getfield 44, 3) := by decide +kernel
theorem dX2_set_31 : decode cX2_set 31 = .ok (.iload_n 1, 1) := by decide +kernel
theorem dX2_set_32 : decode cX2_set 32 = .ok (.iaload, 1) := by decide +kernel
theorem dX2_set_33 : decode cX2_set 33 = .ok (.istore_n 3, 1) := by decide +kernel
theorem dX2_set_34 : decode cX2_set 34 = .ok (.aload_n 0, 1) := by decide +kernel
theorem dX2_set_35 : decode cX2_set 35 = .ok (.getfield 12, 3) := by decide +kernel
theorem dX2_set_38 : decode cX2_set 38 = .ok (.getfield 44, 3) := by decide +kernel
theorem dX2_set_41 : decode cX2_set 41 = .ok (.iload_n 1, 1) := by decide +kernel
theorem dX2_set_42 : decode cX2_set 42 = .ok (.iload_n 2, 1) := by decide +kernel
theorem dX2_set_43 : decode cX2_set 43 = .ok (.iastore, 1) := by decide +kernel
theorem dX2_set_44 : decode cX2_set 44 = .ok (.iload_n 3, 1) := by decide +kernel
theorem dX2_set_45 : decode cX2_set 45 = .ok (.ireturn, 1) := by decide +kernel
set_option maxRecDepth 20000 in
theorem ggX2_addPerson_X2_needAllowed : GoodIn wsX2_addPerson wsX2_needAllowed := goodIn_ca (goodIn_r _ [9, 10, 11] (by decide +kernel) (by decide +kernel)) (goodIn_sub (fun _ h => List.mem_cons_of_mem _ (List.mem_append_right _ h)) (by decide +kernel))
set_option maxRecDepth 20000 in
theorem gX2_addPerson_X2_needAllowed : GoodIn wsX2_addPerson (va_wsS RX2 60 yX2_needAllowed wsX2_needAllowed) := goodIn_app (goodIn_of _ (by decide +kernel)) ggX2_addPerson_X2_needAllowed
set_option maxRecDepth 20000 in
theorem ggX2_addPerson_X2_save : GoodIn wsX2_addPerson wsX2_save := goodIn_r _ [15, 16, 17, 4, 18, 19, 20, 8, 21, 22, 23, 24, 25, 26, 27, 28, 29, 30, 31, 32, 33, 34, 35, 36, 37, 38, 39, 40, 41, 42, 43, 44, 45, 50, 51, 52, 53, 54, 55, 56, 57, 58, 59, 60, 61, 62, 63, 64, 65, 66, 67, 68, 69] (by decide +kernel) (by decide +kernel)
set_option maxRecDepth 20000 in
theorem gX2_addPerson_X2_save : GoodIn wsX2_addPerson (wsV RX2 41 RX2 yX2_save wsX2_save) := goodIn_app (goodIn_of _ (by decide +kernel)) ggX2_addPerson_X2_save
set_option maxRecDepth 20000 in
theorem ggX2_addPerson_X1_enterPerson : GoodIn wsX2_addPerson wsX1_enterPerson := goodIn_r _ [49, 33, 34, 35, 36, 37, 38, 55, 56, 57, 58, 59, 60, 61, 62, 63, 64, 65, 66, 67, 68, 69] (by decide +kernel) (by decide +kernel)
set_option maxRecDepth 20000 in
theorem gX2_addPerson_X1_enterPerson : GoodIn wsX2_addPerson (wsV RX2 64 RX1 yX1_enterPerson wsX1_enterPerson) := goodIn_app (goodIn_of _ (by decide +kernel)) ggX2_addPerson_X1_enterPerson
theorem dX2_addPerson_0 : decode cX2_addPerson 0 = .ok (.lload_n 1, 1) := by decide +kernel
theorem dX2_addPerson_1 : decode cX2_addPerson 1 = .ok (.lconst 0, 1) := by decide +kernel
theorem dX2_addPerson_2 : decode cX2_addPerson 2 = .ok (.lcmp, 1) := by decide +kernel
theorem dX2_addPerson_3 : decode cX2_addPerson 3 = .ok (.ifCond .lt 11, 3) := by decide +kernel
theorem dX2_addPerson_6 : decode cX2_addPerson 6 = .ok (.lload_n 1, 1) := by decide +kernel
theorem dX2_addPerson_7 : decode cX2_addPerson 7 = .ok (.ldc2_w 47, 3) := by decide +kernel
theorem dX2_addPerson_10 : decode cX2_addPerson 10 = .ok (.lcmp, 1) := by decide +kernel
theorem dX2_addPerson_11 : decode cX2_addPerson 11 = .ok (.ifCond .le 13, 3) := by decide +kernel
theorem dX2_addPerson_14 : decode cX2_addPerson 14 = .ok (.new 49, 3) := by decide +kernel
theorem dX2_addPerson_17 : decode cX2_addPerson 17 = .ok (.dup, 1) := by decide +kernel
theorem dX2_addPerson_18 : decode cX2_addPerson 18 = .ok (.ldc 51, 2) := by decide +kernel
theorem dX2_addPerson_20 : decode cX2_addPerson 20 = .ok (.invokespecial 53, 3) := by decide +kernel
theorem dX2_addPerson_23 : decode cX2_addPerson 23 = .ok (.athrow, 1) := by decide +kernel
theorem dX2_addPerson_24 : decode cX2_addPerson 24 = .ok (.aload_n 0, 1) := by decide +kernel
theorem dX2_addPerson_25 : decode cX2_addPerson 25 = .ok (.getfield 12, 3) := by decide +kernel
theorem dX2_addPerson_28 : decode cX2_addPerson 28 = .ok (.getfield 56, 3) := by decide +kernel
theorem dX2_addPerson_31 : decode cX2_addPerson 31 = .ok (.bipush 8, 2) := by decide +kernel
theorem dX2_addPerson_33 : decode cX2_addPerson 33 = .ok (.if_icmp .ge 7, 3) := by decide +kernel
theorem dX2_addPerson_36 : decode cX2_addPerson 36 = .ok (.iconst 1, 1) := by decide +kernel
theorem dX2_addPerson_37 : decode cX2_addPerson 37 = .ok (.goto 4, 3) := by decide +kernel
theorem dX2_addPerson_40 : decode cX2_addPerson 40 = .ok (.iconst 0, 1) := by decide +kernel
theorem dX2_addPerson_41 : decode cX2_addPerson 41 = .ok (.invokestatic 60, 3) := by decide +kernel
theorem dX2_addPerson_44 : decode cX2_addPerson 44 = .ok (.aload_n 0, 1) := by decide +kernel
theorem dX2_addPerson_45 : decode cX2_addPerson 45 = .ok (.invokevirtual 41, 3) := by decide +kernel
theorem dX2_addPerson_48 : decode cX2_addPerson 48 = .ok (.aload_n 0, 1) := by decide +kernel
theorem dX2_addPerson_49 : decode cX2_addPerson 49 = .ok (.getfield 12, 3) := by decide +kernel
theorem dX2_addPerson_52 : decode cX2_addPerson 52 = .ok (.lload_n 1, 1) := by decide +kernel
theorem dX2_addPerson_53 : decode cX2_addPerson 53 = .ok (.invokevirtual 64, 3) := by decide +kernel
theorem dX2_addPerson_56 : decode cX2_addPerson 56 = .ok (.ireturn, 1) := by decide +kernel
set_option maxRecDepth 20000 in
theorem ggX2_roster_X2_needPerson : GoodIn wsX2_roster wsX2_needPerson := goodIn_ca (goodIn_r _ [7, 8, 9, 1, 10, 11, 12, 13, 14, 15, 69, 70, 71, 72, 73, 74, 75, 76, 77, 78, 79, 80, 81, 82, 83, 84, 85, 86, 87, 88] (by decide +kernel) (by decide +kernel)) (goodIn_sub (fun _ h => List.mem_cons_of_mem _ (List.mem_append_left _ (List.mem_append_left _ (List.mem_append_right _ h)))) (by decide +kernel))
set_option maxRecDepth 20000 in
theorem gX2_roster_X2_needPerson : GoodIn wsX2_roster (wsV RX2 68 RX2 yX2_needPerson wsX2_needPerson) := goodIn_app (goodIn_of _ (by decide +kernel)) ggX2_roster_X2_needPerson
set_option maxRecDepth 20000 in
theorem ggX2_roster_X2_needInRange : GoodIn wsX2_roster wsX2_needInRange := goodIn_ca (goodIn_r _ [18, 19, 20] (by decide +kernel) (by decide +kernel)) (goodIn_sub (fun _ h => List.mem_cons_of_mem _ (List.mem_append_left _ (List.mem_append_right _ h))) (by decide +kernel))
set_option maxRecDepth 20000 in
theorem gX2_roster_X2_needInRange : GoodIn wsX2_roster (va_wsS RX2 30 yX2_needInRange wsX2_needInRange) := goodIn_app (goodIn_of _ (by decide +kernel)) ggX2_roster_X2_needInRange
set_option maxRecDepth 20000 in
theorem ggX2_roster_X1_canChangeRoster : GoodIn wsX2_roster wsX1_canChangeRoster := goodIn_r _ [24, 25, 26, 27, 74, 75, 76, 77, 78, 79, 80, 81, 82, 83, 84, 85, 86, 87, 88] (by decide +kernel) (by decide +kernel)
set_option maxRecDepth 20000 in
theorem gX2_roster_X1_canChangeRoster : GoodIn wsX2_roster (wsV RX2 72 RX1 yX1_canChangeRoster wsX1_canChangeRoster) := goodIn_app (goodIn_of _ (by decide +kernel)) ggX2_roster_X1_canChangeRoster
set_option maxRecDepth 20000 in
theorem ggX2_roster_X2_needAllowed : GoodIn wsX2_roster wsX2_needAllowed := goodIn_ca (goodIn_r _ [30, 31, 32] (by decide +kernel) (by decide +kernel)) (goodIn_sub (fun _ h => List.mem_cons_of_mem _ (List.mem_append_right _ h)) (by decide +kernel))
set_option maxRecDepth 20000 in
theorem gX2_roster_X2_needAllowed : GoodIn wsX2_roster (va_wsS RX2 60 yX2_needAllowed wsX2_needAllowed) := goodIn_app (goodIn_of _ (by decide +kernel)) ggX2_roster_X2_needAllowed
set_option maxRecDepth 20000 in
theorem ggX2_roster_X2_save : GoodIn wsX2_roster wsX2_save := goodIn_r _ [36, 37, 38, 1, 39, 40, 41, 6, 42, 43, 44, 45, 13, 46, 47, 48, 49, 50, 51, 52, 15, 25, 26, 27, 53, 54, 55, 56, 57, 58, 59, 60, 61, 69, 70, 71, 72, 73, 74, 75, 76, 77, 78, 79, 80, 81, 82, 83, 84, 85, 86, 87, 88] (by decide +kernel) (by decide +kernel)
set_option maxRecDepth 20000 in
theorem gX2_roster_X2_save : GoodIn wsX2_roster (wsV RX2 41 RX2 yX2_save wsX2_save) := goodIn_app (goodIn_of _ (by decide +kernel)) ggX2_roster_X2_save
set_option maxRecDepth 20000 in
theorem ggX2_roster_J13_bitCount_95d88 : GoodIn wsX2_roster wsJ13_bitCount_95d88 := goodIn_r _ [65, 66, 67, 68] (by decide +kernel) (by decide +kernel)
set_option maxRecDepth 20000 in
theorem gX2_roster_J13_bitCount_95d88 : GoodIn wsX2_roster (va_wsS RX2 80 yJ13_bitCount_95d88 wsJ13_bitCount_95d88) := goodIn_app (goodIn_of _ (by decide +kernel)) ggX2_roster_J13_bitCount_95d88
theorem dX2_roster_0 : decode cX2_roster 0 = .ok (.aload_n 0, 1) := by decide +kernel
theorem dX2_roster_1 : decode cX2_roster 1 = .ok (.iload_n 1, 1) := by decide +kernel
theorem dX2_roster_2 : decode cX2_roster 2 = .ok (.invokevirtual 68, 3) := by decide +kernel
theorem dX2_roster_5 : decode cX2_roster 5 = .ok (.iload_n 2, 1) := by decide +kernel
theorem dX2_roster_6 : decode cX2_roster 6 = .ok (.iconst 0, 1) := by decide +kernel
theorem dX2_roster_7 : decode cX2_roster 7 = .ok (.bipush 41, 2) := by decide +kernel
theorem dX2_roster_9 : decode cX2_roster 9 = .ok (.invokestatic 30, 3) := by decide +kernel
theorem dX2_roster_12 : decode cX2_roster 12 = .ok (.aload_n 0, 1) := by decide +kernel
theorem dX2_roster_13 : decode cX2_roster 13 = .ok (.getfield 12, 3) := by decide +kernel
theorem dX2_roster_16 : decode cX2_roster 16 = .ok (.iload_n 1, 1) := by decide +kernel
theorem dX2_roster_17 : decode cX2_roster 17 = .ok (.iload_n 2, 1) := by decide +kernel
theorem dX2_roster_18 : decode cX2_roster 18 = .ok (.iload_n 3, 1) := by decide +kernel
theorem dX2_roster_19 : decode cX2_roster 19 = .ok (.invokevirtual 72, 3) := by decide +kernel
theorem dX2_roster_22 : decode cX2_roster 22 = .ok (.invokestatic 60, 3) := by decide +kernel
theorem dX2_roster_25 : decode cX2_roster 25 = .ok (.aload_n 0, 1) := by decide +kernel
theorem dX2_roster_26 : decode cX2_roster 26 = .ok (.invokevirtual 41, 3) := by decide +kernel
theorem dX2_roster_29 : decode cX2_roster 29 = .ok (.aload_n 0, 1) := by decide +kernel
theorem dX2_roster_30 : decode cX2_roster 30 = .ok (.getfield 12, 3) := by decide +kernel
theorem dX2_roster_33 : decode cX2_roster 33 = .ok (.getfield 76, 3) := by decide +kernel
theorem dX2_roster_36 : decode cX2_roster 36 = .ok (.iload_n 1, 1) := by decide +kernel
theorem dX2_roster_37 : decode cX2_roster 37 = .ok (.dup2, 1) := by decide +kernel
theorem dX2_roster_38 : decode cX2_roster 38 = .ok (.laload, 1) := by decide +kernel
theorem dX2_roster_39 : decode cX2_roster 39 = .ok (.lconst 1, 1) := by decide +kernel
theorem dX2_roster_40 : decode cX2_roster 40 = .ok (.iload_n 2, 1) := by decide +kernel
theorem dX2_roster_41 : decode cX2_roster 41 = .ok (.lshl, 1) := by decide +kernel
theorem dX2_roster_42 : decode cX2_roster 42 = .ok (.lxor, 1) := by decide +kernel
theorem dX2_roster_43 : decode cX2_roster 43 = .ok (.lastore, 1) := by decide +kernel
theorem dX2_roster_44 : decode cX2_roster 44 = .ok (.aload_n 0, 1) := by decide +kernel
theorem dX2_roster_45 : decode cX2_roster 45 = .ok (.getfield 12, 3) := by decide +kernel
theorem dX2_roster_48 : decode cX2_roster 48 = .ok (.getfield 76, 3) := by decide +kernel
theorem dX2_roster_51 : decode cX2_roster 51 = .ok (.iload_n 1, 1) := by decide +kernel
theorem dX2_roster_52 : decode cX2_roster 52 = .ok (.laload, 1) := by decide +kernel
theorem dX2_roster_53 : decode cX2_roster 53 = .ok (.invokestatic 80, 3) := by decide +kernel
theorem dX2_roster_56 : decode cX2_roster 56 = .ok (.ireturn, 1) := by decide +kernel
set_option maxRecDepth 20000 in
theorem ggX2_absent_X2_needPerson : GoodIn wsX2_absent wsX2_needPerson := goodIn_ca (goodIn_r _ [6, 7, 8, 1, 9, 10, 11, 12, 13, 14, 72, 73, 74, 75, 76, 77, 78, 79, 80, 81, 82, 83, 84, 85, 86, 87, 88, 89, 90, 91] (by decide +kernel) (by decide +kernel)) (goodIn_sub (fun _ h => List.mem_cons_of_mem _ (List.mem_append_left _ (List.mem_append_left _ (List.mem_append_right _ h)))) (by decide +kernel))
set_option maxRecDepth 20000 in
theorem gX2_absent_X2_needPerson : GoodIn wsX2_absent (wsV RX2 68 RX2 yX2_needPerson wsX2_needPerson) := goodIn_app (goodIn_of _ (by decide +kernel)) ggX2_absent_X2_needPerson
set_option maxRecDepth 20000 in
theorem ggX2_absent_X2_needInRange : GoodIn wsX2_absent wsX2_needInRange := goodIn_ca (goodIn_r _ [17, 18, 19] (by decide +kernel) (by decide +kernel)) (goodIn_sub (fun _ h => List.mem_cons_of_mem _ (List.mem_append_left _ (List.mem_append_right _ h))) (by decide +kernel))
set_option maxRecDepth 20000 in
theorem gX2_absent_X2_needInRange : GoodIn wsX2_absent (va_wsS RX2 30 yX2_needInRange wsX2_needInRange) := goodIn_app (goodIn_of _ (by decide +kernel)) ggX2_absent_X2_needInRange
set_option maxRecDepth 20000 in
theorem ggX2_absent_X1_canBeAbsent : GoodIn wsX2_absent wsX1_canBeAbsent := goodIn_r _ [23, 24, 25, 26, 27, 77, 78, 79, 80, 81, 82, 83, 84, 85, 86, 87, 88, 89, 90, 91] (by decide +kernel) (by decide +kernel)
set_option maxRecDepth 20000 in
theorem gX2_absent_X1_canBeAbsent : GoodIn wsX2_absent (wsV RX2 85 RX1 yX1_canBeAbsent wsX1_canBeAbsent) := goodIn_app (goodIn_of _ (by decide +kernel)) ggX2_absent_X1_canBeAbsent
set_option maxRecDepth 20000 in
theorem ggX2_absent_X2_needAllowed : GoodIn wsX2_absent wsX2_needAllowed := goodIn_ca (goodIn_r _ [30, 31, 32] (by decide +kernel) (by decide +kernel)) (goodIn_sub (fun _ h => List.mem_cons_of_mem _ (List.mem_append_right _ h)) (by decide +kernel))
set_option maxRecDepth 20000 in
theorem gX2_absent_X2_needAllowed : GoodIn wsX2_absent (va_wsS RX2 60 yX2_needAllowed wsX2_needAllowed) := goodIn_app (goodIn_of _ (by decide +kernel)) ggX2_absent_X2_needAllowed
set_option maxRecDepth 20000 in
theorem ggX2_absent_X2_save : GoodIn wsX2_absent wsX2_save := goodIn_r _ [36, 37, 38, 1, 39, 40, 41, 5, 42, 43, 44, 45, 12, 46, 47, 48, 49, 50, 51, 52, 14, 24, 25, 53, 54, 55, 27, 56, 57, 58, 59, 60, 61, 72, 73, 74, 75, 76, 77, 78, 79, 80, 81, 82, 83, 84, 85, 86, 87, 88, 89, 90, 91] (by decide +kernel) (by decide +kernel)
set_option maxRecDepth 20000 in
theorem gX2_absent_X2_save : GoodIn wsX2_absent (wsV RX2 41 RX2 yX2_save wsX2_save) := goodIn_app (goodIn_of _ (by decide +kernel)) ggX2_absent_X2_save
set_option maxRecDepth 20000 in
theorem ggX2_absent_X1_enterAbsence : GoodIn wsX2_absent wsX1_enterAbsence := goodIn_r _ [65, 27, 56, 57, 58, 59, 60, 25, 66, 67, 68, 12, 69, 61, 70, 5, 71, 77, 78, 79, 80, 81, 82, 83, 84, 85, 86, 87, 88, 89, 90, 91] (by decide +kernel) (by decide +kernel)
set_option maxRecDepth 20000 in
theorem gX2_absent_X1_enterAbsence : GoodIn wsX2_absent (wsV RX2 89 RX1 yX1_enterAbsence wsX1_enterAbsence) := goodIn_app (goodIn_of _ (by decide +kernel)) ggX2_absent_X1_enterAbsence
theorem dX2_absent_0 : decode cX2_absent 0 = .ok (.aload_n 0, 1) := by decide +kernel
theorem dX2_absent_1 : decode cX2_absent 1 = .ok (.iload_n 1, 1) := by decide +kernel
theorem dX2_absent_2 : decode cX2_absent 2 = .ok (.invokevirtual 68, 3) := by decide +kernel
theorem dX2_absent_5 : decode cX2_absent 5 = .ok (.iload_n 2, 1) := by decide +kernel
theorem dX2_absent_6 : decode cX2_absent 6 = .ok (.iconst 0, 1) := by decide +kernel
theorem dX2_absent_7 : decode cX2_absent 7 = .ok (.bipush 41, 2) := by decide +kernel
theorem dX2_absent_9 : decode cX2_absent 9 = .ok (.invokestatic 30, 3) := by decide +kernel
theorem dX2_absent_12 : decode cX2_absent 12 = .ok (.aload_n 0, 1) := by decide +kernel
theorem dX2_absent_13 : decode cX2_absent 13 = .ok (.getfield 12, 3) := by decide +kernel
theorem dX2_absent_16 : decode cX2_absent 16 = .ok (.iload_n 1, 1) := by decide +kernel
theorem dX2_absent_17 : decode cX2_absent 17 = .ok (.iload_n 2, 1) := by decide +kernel
theorem dX2_absent_18 : decode cX2_absent 18 = .ok (.invokevirtual 85, 3) := by decide +kernel
theorem dX2_absent_21 : decode cX2_absent 21 = .ok (.invokestatic 60, 3) := by decide +kernel
theorem dX2_absent_24 : decode cX2_absent 24 = .ok (.aload_n 0, 1) := by decide +kernel
theorem dX2_absent_25 : decode cX2_absent 25 = .ok (.invokevirtual 41, 3) := by decide +kernel
theorem dX2_absent_28 : decode cX2_absent 28 = .ok (.aload_n 0, 1) := by decide +kernel
theorem dX2_absent_29 : decode cX2_absent 29 = .ok (.getfield 12, 3) := by decide +kernel
theorem dX2_absent_32 : decode cX2_absent 32 = .ok (.iload_n 1, 1) := by decide +kernel
theorem dX2_absent_33 : decode cX2_absent 33 = .ok (.iload_n 2, 1) := by decide +kernel
theorem dX2_absent_34 : decode cX2_absent 34 = .ok (.invokevirtual 89, 3) := by decide +kernel
theorem dX2_absent_37 : decode cX2_absent 37 = .ok (.ireturn, 1) := by decide +kernel
set_option maxRecDepth 20000 in
theorem ggX2_bid_X2_needPerson : GoodIn wsX2_bid wsX2_needPerson := goodIn_ca (goodIn_r _ [8, 9, 10, 1, 11, 12, 13, 14, 15, 16, 78, 79, 80, 81, 82, 83, 84, 85, 86, 87, 88, 89, 90, 91, 92, 93, 94, 95, 96, 97] (by decide +kernel) (by decide +kernel)) (goodIn_sub (fun _ h => List.mem_cons_of_mem _ (List.mem_append_left _ (List.mem_append_left _ (List.mem_append_right _ h)))) (by decide +kernel))
set_option maxRecDepth 20000 in
theorem gX2_bid_X2_needPerson : GoodIn wsX2_bid (wsV RX2 68 RX2 yX2_needPerson wsX2_needPerson) := goodIn_app (goodIn_of _ (by decide +kernel)) ggX2_bid_X2_needPerson
set_option maxRecDepth 20000 in
theorem ggX2_bid_X2_needAbsence : GoodIn wsX2_bid wsX2_needAbsence := goodIn_ca (goodIn_r _ [20, 9, 10, 1, 21, 22, 23, 14, 24, 25, 78, 79, 80, 81, 82, 83, 84, 85, 86, 87, 88, 89, 90, 91, 92, 93, 94, 95, 96, 97] (by decide +kernel) (by decide +kernel)) (goodIn_sub (fun _ h => List.mem_cons_of_mem _ (List.mem_append_left _ (List.mem_append_left _ (List.mem_append_right _ h)))) (by decide +kernel))
set_option maxRecDepth 20000 in
theorem gX2_bid_X2_needAbsence : GoodIn wsX2_bid (wsV RX2 93 RX2 yX2_needAbsence wsX2_needAbsence) := goodIn_app (goodIn_of _ (by decide +kernel)) ggX2_bid_X2_needAbsence
set_option maxRecDepth 20000 in
theorem ggX2_bid_X2_needInRange : GoodIn wsX2_bid wsX2_needInRange := goodIn_ca (goodIn_r _ [28, 29, 30] (by decide +kernel) (by decide +kernel)) (goodIn_sub (fun _ h => List.mem_cons_of_mem _ (List.mem_append_left _ (List.mem_append_right _ h))) (by decide +kernel))
set_option maxRecDepth 20000 in
theorem gX2_bid_X2_needInRange : GoodIn wsX2_bid (va_wsS RX2 30 yX2_needInRange wsX2_needInRange) := goodIn_app (goodIn_of _ (by decide +kernel)) ggX2_bid_X2_needInRange
set_option maxRecDepth 20000 in
theorem ggX2_bid_X1_canBid : GoodIn wsX2_bid wsX1_canBid := goodIn_r _ [34, 35, 36, 83, 84, 85, 86, 87, 88, 89, 90, 91, 92, 93, 94, 95, 96, 97] (by decide +kernel) (by decide +kernel)
set_option maxRecDepth 20000 in
theorem gX2_bid_X1_canBid : GoodIn wsX2_bid (wsV RX2 96 RX1 yX1_canBid wsX1_canBid) := goodIn_app (goodIn_of _ (by decide +kernel)) ggX2_bid_X1_canBid
set_option maxRecDepth 20000 in
theorem ggX2_bid_X2_needAllowed : GoodIn wsX2_bid wsX2_needAllowed := goodIn_ca (goodIn_r _ [39, 40, 41] (by decide +kernel) (by decide +kernel)) (goodIn_sub (fun _ h => List.mem_cons_of_mem _ (List.mem_append_right _ h)) (by decide +kernel))
set_option maxRecDepth 20000 in
theorem gX2_bid_X2_needAllowed : GoodIn wsX2_bid (va_wsS RX2 60 yX2_needAllowed wsX2_needAllowed) := goodIn_app (goodIn_of _ (by decide +kernel)) ggX2_bid_X2_needAllowed
set_option maxRecDepth 20000 in
theorem ggX2_bid_X2_save : GoodIn wsX2_bid wsX2_save := goodIn_r _ [45, 46, 47, 1, 48, 49, 50, 7, 51, 52, 53, 54, 14, 55, 56, 57, 58, 59, 60, 61, 16, 62, 63, 64, 65, 66, 25, 36, 67, 35, 68, 69, 70, 78, 79, 80, 81, 82, 83, 84, 85, 86, 87, 88, 89, 90, 91, 92, 93, 94, 95, 96, 97] (by decide +kernel) (by decide +kernel)
set_option maxRecDepth 20000 in
theorem gX2_bid_X2_save : GoodIn wsX2_bid (wsV RX2 41 RX2 yX2_save wsX2_save) := goodIn_app (goodIn_of _ (by decide +kernel)) ggX2_bid_X2_save
set_option maxRecDepth 20000 in
theorem ggX2_bid_X2_bidIndex : GoodIn wsX2_bid wsX2_bidIndex := goodIn_r _ [73] (by decide +kernel) (by decide +kernel)
set_option maxRecDepth 20000 in
theorem gX2_bid_X2_bidIndex : GoodIn wsX2_bid (va_wsS RX2 102 yX2_bidIndex wsX2_bidIndex) := goodIn_app (goodIn_of _ (by decide +kernel)) ggX2_bid_X2_bidIndex
set_option maxRecDepth 20000 in
theorem ggX2_bid_X1_bidsFor : GoodIn wsX2_bid wsX1_bidsFor := goodIn_r _ [77, 16, 70, 72, 7, 73, 83, 84, 85, 86, 87, 88, 89, 90, 91, 92, 93, 94, 95, 96, 97] (by decide +kernel) (by decide +kernel)
set_option maxRecDepth 20000 in
theorem gX2_bid_X1_bidsFor : GoodIn wsX2_bid (wsV RX2 105 RX1 yX1_bidsFor wsX1_bidsFor) := goodIn_app (goodIn_of _ (by decide +kernel)) ggX2_bid_X1_bidsFor
theorem dX2_bid_0 : decode cX2_bid 0 = .ok (.aload_n 0, 1) := by decide +kernel
theorem dX2_bid_1 : decode cX2_bid 1 = .ok (.iload_n 1, 1) := by decide +kernel
theorem dX2_bid_2 : decode cX2_bid 2 = .ok (.invokevirtual 68, 3) := by decide +kernel
theorem dX2_bid_5 : decode cX2_bid 5 = .ok (.aload_n 0, 1) := by decide +kernel
theorem dX2_bid_6 : decode cX2_bid 6 = .ok (.iload_n 2, 1) := by decide +kernel
theorem dX2_bid_7 : decode cX2_bid 7 = .ok (.invokevirtual 93, 3) := by decide +kernel
theorem dX2_bid_10 : decode cX2_bid 10 = .ok (.iload_n 3, 1) := by decide +kernel
theorem dX2_bid_11 : decode cX2_bid 11 = .ok (.iconst 0, 1) := by decide +kernel
theorem dX2_bid_12 : decode cX2_bid 12 = .ok (.aload_n 0, 1) := by decide +kernel
theorem dX2_bid_13 : decode cX2_bid 13 = .ok (.getfield 12, 3) := by decide +kernel
theorem dX2_bid_16 : decode cX2_bid 16 = .ok (.getfield 44, 3) := by decide +kernel
theorem dX2_bid_19 : decode cX2_bid 19 = .ok (.iconst 2, 1) := by decide +kernel
theorem dX2_bid_20 : decode cX2_bid 20 = .ok (.iaload, 1) := by decide +kernel
theorem dX2_bid_21 : decode cX2_bid 21 = .ok (.invokestatic 30, 3) := by decide +kernel
theorem dX2_bid_24 : decode cX2_bid 24 = .ok (.aload_n 0, 1) := by decide +kernel
theorem dX2_bid_25 : decode cX2_bid 25 = .ok (.getfield 12, 3) := by decide +kernel
theorem dX2_bid_28 : decode cX2_bid 28 = .ok (.iload_n 1, 1) := by decide +kernel
theorem dX2_bid_29 : decode cX2_bid 29 = .ok (.iload_n 2, 1) := by decide +kernel
theorem dX2_bid_30 : decode cX2_bid 30 = .ok (.invokevirtual 96, 3) := by decide +kernel
theorem dX2_bid_33 : decode cX2_bid 33 = .ok (.invokestatic 60, 3) := by decide +kernel
theorem dX2_bid_36 : decode cX2_bid 36 = .ok (.aload_n 0, 1) := by decide +kernel
theorem dX2_bid_37 : decode cX2_bid 37 = .ok (.invokevirtual 41, 3) := by decide +kernel
theorem dX2_bid_40 : decode cX2_bid 40 = .ok (.aload_n 0, 1) := by decide +kernel
theorem dX2_bid_41 : decode cX2_bid 41 = .ok (.getfield 12, 3) := by decide +kernel
theorem dX2_bid_44 : decode cX2_bid 44 = .ok (.getfield 99, 3) := by decide +kernel
theorem dX2_bid_47 : decode cX2_bid 47 = .ok (.iload_n 1, 1) := by decide +kernel
theorem dX2_bid_48 : decode cX2_bid 48 = .ok (.iload_n 2, 1) := by decide +kernel
theorem dX2_bid_49 : decode cX2_bid 49 = .ok (.invokestatic 102, 3) := by decide +kernel
theorem dX2_bid_52 : decode cX2_bid 52 = .ok (.iload_n 3, 1) := by decide +kernel
theorem dX2_bid_53 : decode cX2_bid 53 = .ok (.iastore, 1) := by decide +kernel
theorem dX2_bid_54 : decode cX2_bid 54 = .ok (.aload_n 0, 1) := by decide +kernel
theorem dX2_bid_55 : decode cX2_bid 55 = .ok (.getfield 12, 3) := by decide +kernel
theorem dX2_bid_58 : decode cX2_bid 58 = .ok (.iload_n 2, 1) := by decide +kernel
theorem dX2_bid_59 : decode cX2_bid 59 = .ok (.invokevirtual 105, 3) := by decide +kernel
theorem dX2_bid_62 : decode cX2_bid 62 = .ok (.ireturn, 1) := by decide +kernel
set_option maxRecDepth 20000 in
theorem ggX2_takeBack_X2_needPerson : GoodIn wsX2_takeBack wsX2_needPerson := goodIn_ca (goodIn_r _ [7, 8, 9, 1, 10, 11, 12, 13, 14, 15, 64, 65, 66, 67, 68, 69, 70, 71, 72, 73, 74, 75, 76, 77, 78, 79, 80, 81, 82, 83] (by decide +kernel) (by decide +kernel)) (goodIn_sub (fun _ h => List.mem_cons_of_mem _ (List.mem_append_left _ (List.mem_append_right _ h))) (by decide +kernel))
set_option maxRecDepth 20000 in
theorem gX2_takeBack_X2_needPerson : GoodIn wsX2_takeBack (wsV RX2 68 RX2 yX2_needPerson wsX2_needPerson) := goodIn_app (goodIn_of _ (by decide +kernel)) ggX2_takeBack_X2_needPerson
set_option maxRecDepth 20000 in
theorem ggX2_takeBack_X2_needAbsence : GoodIn wsX2_takeBack wsX2_needAbsence := goodIn_ca (goodIn_r _ [19, 8, 9, 1, 20, 21, 22, 13, 23, 24, 64, 65, 66, 67, 68, 69, 70, 71, 72, 73, 74, 75, 76, 77, 78, 79, 80, 81, 82, 83] (by decide +kernel) (by decide +kernel)) (goodIn_sub (fun _ h => List.mem_cons_of_mem _ (List.mem_append_left _ (List.mem_append_right _ h))) (by decide +kernel))
set_option maxRecDepth 20000 in
theorem gX2_takeBack_X2_needAbsence : GoodIn wsX2_takeBack (wsV RX2 93 RX2 yX2_needAbsence wsX2_needAbsence) := goodIn_app (goodIn_of _ (by decide +kernel)) ggX2_takeBack_X2_needAbsence
set_option maxRecDepth 20000 in
theorem ggX2_takeBack_X2_bidIndex : GoodIn wsX2_takeBack wsX2_bidIndex := goodIn_r _ [27] (by decide +kernel) (by decide +kernel)
set_option maxRecDepth 20000 in
theorem gX2_takeBack_X2_bidIndex : GoodIn wsX2_takeBack (va_wsS RX2 102 yX2_bidIndex wsX2_bidIndex) := goodIn_app (goodIn_of _ (by decide +kernel)) ggX2_takeBack_X2_bidIndex
set_option maxRecDepth 20000 in
theorem ggX2_takeBack_X2_needAllowed : GoodIn wsX2_takeBack wsX2_needAllowed := goodIn_ca (goodIn_r _ [30, 31, 32] (by decide +kernel) (by decide +kernel)) (goodIn_sub (fun _ h => List.mem_cons_of_mem _ (List.mem_append_right _ h)) (by decide +kernel))
set_option maxRecDepth 20000 in
theorem gX2_takeBack_X2_needAllowed : GoodIn wsX2_takeBack (va_wsS RX2 60 yX2_needAllowed wsX2_needAllowed) := goodIn_app (goodIn_of _ (by decide +kernel)) ggX2_takeBack_X2_needAllowed
set_option maxRecDepth 20000 in
theorem ggX2_takeBack_X2_save : GoodIn wsX2_takeBack wsX2_save := goodIn_r _ [36, 37, 38, 1, 39, 40, 41, 6, 42, 43, 44, 45, 13, 46, 47, 48, 49, 50, 51, 52, 15, 53, 54, 55, 56, 57, 24, 58, 59, 60, 61, 62, 63, 64, 65, 66, 67, 68, 69, 70, 71, 72, 73, 74, 75, 76, 77, 78, 79, 80, 81, 82, 83] (by decide +kernel) (by decide +kernel)
set_option maxRecDepth 20000 in
theorem gX2_takeBack_X2_save : GoodIn wsX2_takeBack (wsV RX2 41 RX2 yX2_save wsX2_save) := goodIn_app (goodIn_of _ (by decide +kernel)) ggX2_takeBack_X2_save
theorem dX2_takeBack_0 : decode cX2_takeBack 0 = .ok (.aload_n 0, 1) := by decide +kernel
theorem dX2_takeBack_1 : decode cX2_takeBack 1 = .ok (.iload_n 1, 1) := by decide +kernel
theorem dX2_takeBack_2 : decode cX2_takeBack 2 = .ok (.invokevirtual 68, 3) := by decide +kernel
theorem dX2_takeBack_5 : decode cX2_takeBack 5 = .ok (.aload_n 0, 1) := by decide +kernel
theorem dX2_takeBack_6 : decode cX2_takeBack 6 = .ok (.iload_n 2, 1) := by decide +kernel
theorem dX2_takeBack_7 : decode cX2_takeBack 7 = .ok (.invokevirtual 93, 3) := by decide +kernel
theorem dX2_takeBack_10 : decode cX2_takeBack 10 = .ok (.iload_n 1, 1) := by decide +kernel
theorem dX2_takeBack_11 : decode cX2_takeBack 11 = .ok (.iload_n 2, 1) := by decide +kernel
theorem dX2_takeBack_12 : decode cX2_takeBack 12 = .ok (.invokestatic 102, 3) := by decide +kernel
theorem dX2_takeBack_15 : decode cX2_takeBack 15 = .ok (.istore_n 3, 1) := by decide +kernel
theorem dX2_takeBack_16 : decode cX2_takeBack 16 = .ok (.aload_n 0, 1) := by decide +kernel
theorem dX2_takeBack_17 : decode cX2_takeBack 17 = .ok (.getfield 12, 3) := by decide +kernel
theorem dX2_takeBack_20 : decode cX2_takeBack 20 = .ok (.getfield 99, 3) := by decide +kernel
theorem dX2_takeBack_23 : decode cX2_takeBack 23 = .ok (.iload_n 3, 1) := by decide +kernel
theorem dX2_takeBack_24 : decode cX2_takeBack 24 = .ok (.iaload, 1) := by decide +kernel
theorem dX2_takeBack_25 : decode cX2_takeBack 25 = .ok (.iconst (-1), 1) := by decide +kernel
theorem dX2_takeBack_26 : decode cX2_takeBack 26 = .ok (.if_icmp .eq 7, 3) := by decide +kernel
theorem dX2_takeBack_29 : decode cX2_takeBack 29 = .ok (.iconst 1, 1) := by decide +kernel
theorem dX2_takeBack_30 : decode cX2_takeBack 30 = .ok (.goto 4, 3) := by decide +kernel
theorem dX2_takeBack_33 : decode cX2_takeBack 33 = .ok (.iconst 0, 1) := by decide +kernel
theorem dX2_takeBack_34 : decode cX2_takeBack 34 = .ok (.invokestatic 60, 3) := by decide +kernel
theorem dX2_takeBack_37 : decode cX2_takeBack 37 = .ok (.aload_n 0, 1) := by decide +kernel
theorem dX2_takeBack_38 : decode cX2_takeBack 38 = .ok (.invokevirtual 41, 3) := by decide +kernel
theorem dX2_takeBack_41 : decode cX2_takeBack 41 = .ok (.aload_n 0, 1) := by decide +kernel
theorem dX2_takeBack_42 : decode cX2_takeBack 42 = .ok (.getfield 12, 3) := by decide +kernel
theorem dX2_takeBack_45 : decode cX2_takeBack 45 = .ok (.getfield 99, 3) := by decide +kernel
theorem dX2_takeBack_48 : decode cX2_takeBack 48 = .ok (.iload_n 3, 1) := by decide +kernel
theorem dX2_takeBack_49 : decode cX2_takeBack 49 = .ok (.iaload, 1) := by decide +kernel
theorem dX2_takeBack_50 : decode cX2_takeBack 50 = .ok (.istore 4, 2) := by decide +kernel
theorem dX2_takeBack_52 : decode cX2_takeBack 52 = .ok (.aload_n 0, 1) := by decide +kernel
theorem dX2_takeBack_53 : decode cX2_takeBack 53 = .ok (.getfield 12, 3) := by decide +kernel
theorem dX2_takeBack_56 : decode cX2_takeBack 56 = .ok (.getfield 99, 3) := by decide +kernel
theorem dX2_takeBack_59 : decode cX2_takeBack 59 = .ok (.iload_n 3, 1) := by decide +kernel
theorem dX2_takeBack_60 : decode cX2_takeBack 60 = .ok (.iconst (-1), 1) := by decide +kernel
theorem dX2_takeBack_61 : decode cX2_takeBack 61 = .ok (.iastore, 1) := by decide +kernel
theorem dX2_takeBack_62 : decode cX2_takeBack 62 = .ok (.iload 4, 2) := by decide +kernel
theorem dX2_takeBack_64 : decode cX2_takeBack 64 = .ok (.ireturn, 1) := by decide +kernel
set_option maxRecDepth 20000 in
theorem ggX2_cover_X2_needAbsence : GoodIn wsX2_cover wsX2_needAbsence := goodIn_ca (goodIn_r _ [7, 8, 9, 1, 10, 11, 12, 13, 14, 15, 92, 93, 94, 95, 96, 97, 98, 99, 100, 101, 102, 103, 104, 105, 106, 107, 108, 109, 110, 111] (by decide +kernel) (by decide +kernel)) (goodIn_sub (fun _ h => List.mem_cons_of_mem _ (List.mem_append_left _ (List.mem_append_right _ h))) (by decide +kernel))
set_option maxRecDepth 20000 in
theorem gX2_cover_X2_needAbsence : GoodIn wsX2_cover (wsV RX2 93 RX2 yX2_needAbsence wsX2_needAbsence) := goodIn_app (goodIn_of _ (by decide +kernel)) ggX2_cover_X2_needAbsence
set_option maxRecDepth 20000 in
theorem ggX2_cover_X1_nextCoverer : GoodIn wsX2_cover wsX1_nextCoverer := goodIn_r _ [19, 20, 21, 22, 23, 24, 13, 25, 26, 27, 28, 29, 30, 31, 32, 33, 34, 35, 36, 37, 38, 39, 40, 41, 42, 43, 44, 45, 46, 47, 48, 49, 50, 51, 52, 6, 53, 54, 55, 56, 97, 98, 99, 100, 101, 102, 103, 104, 105, 106, 107, 108, 109, 110, 111] (by decide +kernel) (by decide +kernel)
set_option maxRecDepth 20000 in
theorem gX2_cover_X1_nextCoverer : GoodIn wsX2_cover (wsV RX2 109 RX1 yX1_nextCoverer wsX1_nextCoverer) := goodIn_app (goodIn_of _ (by decide +kernel)) ggX2_cover_X1_nextCoverer
set_option maxRecDepth 20000 in
theorem ggX2_cover_X2_needAllowed : GoodIn wsX2_cover wsX2_needAllowed := goodIn_ca (goodIn_r _ [59, 60, 61] (by decide +kernel) (by decide +kernel)) (goodIn_sub (fun _ h => List.mem_cons_of_mem _ (List.mem_append_right _ h)) (by decide +kernel))
set_option maxRecDepth 20000 in
theorem gX2_cover_X2_needAllowed : GoodIn wsX2_cover (va_wsS RX2 60 yX2_needAllowed wsX2_needAllowed) := goodIn_app (goodIn_of _ (by decide +kernel)) ggX2_cover_X2_needAllowed
set_option maxRecDepth 20000 in
theorem ggX2_cover_X2_save : GoodIn wsX2_cover wsX2_save := goodIn_r _ [65, 66, 67, 1, 68, 69, 70, 6, 71, 72, 73, 74, 13, 75, 40, 76, 77, 78, 79, 80, 21, 33, 28, 35, 51, 50, 15, 26, 27, 20, 81, 82, 49, 92, 93, 94, 95, 96, 97, 98, 99, 100, 101, 102, 103, 104, 105, 106, 107, 108, 109, 110, 111] (by decide +kernel) (by decide +kernel)
set_option maxRecDepth 20000 in
theorem gX2_cover_X2_save : GoodIn wsX2_cover (wsV RX2 41 RX2 yX2_save wsX2_save) := goodIn_app (goodIn_of _ (by decide +kernel)) ggX2_cover_X2_save
set_option maxRecDepth 20000 in
theorem ggX2_cover_X1_coverOpen : GoodIn wsX2_cover wsX1_coverOpen := goodIn_r _ [86, 49, 20, 82, 40, 50, 81, 35, 27, 51, 26, 87, 17, 18, 13, 19, 21, 22, 23, 24, 25, 28, 29, 30, 31, 32, 33, 34, 36, 37, 38, 39, 41, 42, 43, 44, 45, 46, 47, 48, 52, 6, 53, 54, 55, 56, 88, 89, 90, 91, 97, 98, 99, 100, 101, 102, 103, 104, 105, 106, 107, 108, 109, 110, 111] (by decide +kernel) (by decide +kernel)
set_option maxRecDepth 20000 in
theorem gX2_cover_X1_coverOpen : GoodIn wsX2_cover (wsV RX2 112 RX1 yX1_coverOpen wsX1_coverOpen) := goodIn_app (goodIn_of _ (by decide +kernel)) ggX2_cover_X1_coverOpen
theorem dX2_cover_0 : decode cX2_cover 0 = .ok (.aload_n 0, 1) := by decide +kernel
theorem dX2_cover_1 : decode cX2_cover 1 = .ok (.iload_n 1, 1) := by decide +kernel
theorem dX2_cover_2 : decode cX2_cover 2 = .ok (.invokevirtual 93, 3) := by decide +kernel
theorem dX2_cover_5 : decode cX2_cover 5 = .ok (.aload_n 0, 1) := by decide +kernel
theorem dX2_cover_6 : decode cX2_cover 6 = .ok (.getfield 12, 3) := by decide +kernel
theorem dX2_cover_9 : decode cX2_cover 9 = .ok (.iload_n 1, 1) := by decide +kernel
theorem dX2_cover_10 : decode cX2_cover 10 = .ok (.invokevirtual 109, 3) := by decide +kernel
theorem dX2_cover_13 : decode cX2_cover 13 = .ok (.iconst (-1), 1) := by decide +kernel
theorem dX2_cover_14 : decode cX2_cover 14 = .ok (.if_icmp .eq 7, 3) := by decide +kernel
theorem dX2_cover_17 : decode cX2_cover 17 = .ok (.iconst 1, 1) := by decide +kernel
theorem dX2_cover_18 : decode cX2_cover 18 = .ok (.goto 4, 3) := by decide +kernel
theorem dX2_cover_21 : decode cX2_cover 21 = .ok (.iconst 0, 1) := by decide +kernel
theorem dX2_cover_22 : decode cX2_cover 22 = .ok (.invokestatic 60, 3) := by decide +kernel
theorem dX2_cover_25 : decode cX2_cover 25 = .ok (.aload_n 0, 1) := by decide +kernel
theorem dX2_cover_26 : decode cX2_cover 26 = .ok (.invokevirtual 41, 3) := by decide +kernel
theorem dX2_cover_29 : decode cX2_cover 29 = .ok (.aload_n 0, 1) := by decide +kernel
theorem dX2_cover_30 : decode cX2_cover 30 = .ok (.getfield 12, 3) := by decide +kernel
theorem dX2_cover_33 : decode cX2_cover 33 = .ok (.iload_n 1, 1) := by decide +kernel
theorem dX2_cover_34 : decode cX2_cover 34 = .ok (.invokevirtual 112, 3) := by decide +kernel
theorem dX2_cover_37 : decode cX2_cover 37 = .ok (.pop, 1) := by decide +kernel
theorem dX2_cover_38 : decode cX2_cover 38 = .ok (.aload_n 0, 1) := by decide +kernel
theorem dX2_cover_39 : decode cX2_cover 39 = .ok (.getfield 12, 3) := by decide +kernel
theorem dX2_cover_42 : decode cX2_cover 42 = .ok (.getfield 116, 3) := by decide +kernel
theorem dX2_cover_45 : decode cX2_cover 45 = .ok (.iload_n 1, 1) := by decide +kernel
theorem dX2_cover_46 : decode cX2_cover 46 = .ok (.iaload, 1) := by decide +kernel
theorem dX2_cover_47 : decode cX2_cover 47 = .ok (.ireturn, 1) := by decide +kernel
set_option maxRecDepth 20000 in
theorem ggX2_coverAll_X2_save : GoodIn wsX2_coverAll wsX2_save := goodIn_r _ [6, 7, 8, 1, 9, 10, 11, 5, 12, 13, 14, 15, 16, 17, 18, 19, 20, 21, 22, 23, 24, 25, 26, 27, 28, 29, 30, 31, 32, 33, 34, 35, 36, 79, 80, 81, 82, 83, 84, 85, 86, 87, 88, 89, 90, 91, 92, 93, 94, 95, 96, 97, 98] (by decide +kernel) (by decide +kernel)
set_option maxRecDepth 20000 in
theorem gX2_coverAll_X2_save : GoodIn wsX2_coverAll (wsV RX2 41 RX2 yX2_save wsX2_save) := goodIn_app (goodIn_of _ (by decide +kernel)) ggX2_coverAll_X2_save
set_option maxRecDepth 20000 in
theorem ggX2_coverAll_X1_coverAllOpen : GoodIn wsX2_coverAll wsX1_coverAllOpen := goodIn_r _ [40, 30, 41, 42, 43, 16, 44, 36, 33, 35, 18, 29, 34, 27, 32, 28, 31, 45, 46, 47, 48, 24, 49, 50, 51, 52, 26, 53, 54, 55, 56, 25, 57, 58, 59, 60, 61, 62, 63, 64, 65, 66, 67, 68, 69, 70, 5, 71, 72, 73, 74, 75, 76, 77, 78, 84, 85, 86, 87, 88, 89, 90, 91, 92, 93, 94, 95, 96, 97, 98] (by decide +kernel) (by decide +kernel)
set_option maxRecDepth 20000 in
theorem gX2_coverAll_X1_coverAllOpen : GoodIn wsX2_coverAll (wsV RX2 119 RX1 yX1_coverAllOpen wsX1_coverAllOpen) := goodIn_app (goodIn_of _ (by decide +kernel)) ggX2_coverAll_X1_coverAllOpen
theorem dX2_coverAll_0 : decode cX2_coverAll 0 = .ok (.aload_n 0, 1) := by decide +kernel
theorem dX2_coverAll_1 : decode cX2_coverAll 1 = .ok (.invokevirtual 41, 3) := by decide +kernel
theorem dX2_coverAll_4 : decode cX2_coverAll 4 = .ok (.aload_n 0, 1) := by decide +kernel
theorem dX2_coverAll_5 : decode cX2_coverAll 5 = .ok (.getfield 12, 3) := by decide +kernel
theorem dX2_coverAll_8 : decode cX2_coverAll 8 = .ok (.invokevirtual 119, 3) := by decide +kernel
theorem dX2_coverAll_11 : decode cX2_coverAll 11 = .ok (.ireturn, 1) := by decide +kernel
set_option maxRecDepth 20000 in
theorem ggX2_handOver_X2_needAbsence : GoodIn wsX2_handOver wsX2_needAbsence := goodIn_ca (goodIn_r _ [7, 8, 9, 1, 10, 11, 12, 13, 14, 15, 86, 87, 88, 89, 90, 91, 92, 93, 94, 95, 96, 97, 98, 99, 100, 101, 102, 103, 104, 105] (by decide +kernel) (by decide +kernel)) (goodIn_sub (fun _ h => List.mem_cons_of_mem _ (List.mem_append_left _ (List.mem_append_right _ h))) (by decide +kernel))
set_option maxRecDepth 20000 in
theorem gX2_handOver_X2_needAbsence : GoodIn wsX2_handOver (wsV RX2 93 RX2 yX2_needAbsence wsX2_needAbsence) := goodIn_app (goodIn_of _ (by decide +kernel)) ggX2_handOver_X2_needAbsence
set_option maxRecDepth 20000 in
theorem ggX2_handOver_X2_needPerson : GoodIn wsX2_handOver wsX2_needPerson := goodIn_ca (goodIn_r _ [19, 8, 9, 1, 20, 21, 22, 13, 23, 24, 86, 87, 88, 89, 90, 91, 92, 93, 94, 95, 96, 97, 98, 99, 100, 101, 102, 103, 104, 105] (by decide +kernel) (by decide +kernel)) (goodIn_sub (fun _ h => List.mem_cons_of_mem _ (List.mem_append_left _ (List.mem_append_right _ h))) (by decide +kernel))
set_option maxRecDepth 20000 in
theorem gX2_handOver_X2_needPerson : GoodIn wsX2_handOver (wsV RX2 68 RX2 yX2_needPerson wsX2_needPerson) := goodIn_app (goodIn_of _ (by decide +kernel)) ggX2_handOver_X2_needPerson
set_option maxRecDepth 20000 in
theorem ggX2_handOver_X1_isCovered : GoodIn wsX2_handOver wsX1_isCovered := goodIn_r _ [28, 29, 91, 92, 93, 94, 95, 96, 97, 98, 99, 100, 101, 102, 103, 104, 105] (by decide +kernel) (by decide +kernel)
set_option maxRecDepth 20000 in
theorem gX2_handOver_X1_isCovered : GoodIn wsX2_handOver (wsV RX2 123 RX1 yX1_isCovered wsX1_isCovered) := goodIn_app (goodIn_of _ (by decide +kernel)) ggX2_handOver_X1_isCovered
set_option maxRecDepth 20000 in
theorem ggX2_handOver_X1_hindrance : GoodIn wsX2_handOver wsX1_hindrance := goodIn_r _ [33, 34, 35, 36, 37, 38, 39, 13, 40, 41, 42, 43, 44, 45, 46, 47, 48, 49, 50, 51, 52, 91, 92, 93, 94, 95, 96, 97, 98, 99, 100, 101, 102, 103, 104, 105] (by decide +kernel) (by decide +kernel)
set_option maxRecDepth 20000 in
theorem gX2_handOver_X1_hindrance : GoodIn wsX2_handOver (wsV RX2 126 RX1 yX1_hindrance wsX1_hindrance) := goodIn_app (goodIn_of _ (by decide +kernel)) ggX2_handOver_X1_hindrance
set_option maxRecDepth 20000 in
theorem ggX2_handOver_X2_needAllowed : GoodIn wsX2_handOver wsX2_needAllowed := goodIn_ca (goodIn_r _ [55, 56, 57] (by decide +kernel) (by decide +kernel)) (goodIn_sub (fun _ h => List.mem_cons_of_mem _ (List.mem_append_right _ h)) (by decide +kernel))
set_option maxRecDepth 20000 in
theorem gX2_handOver_X2_needAllowed : GoodIn wsX2_handOver (va_wsS RX2 60 yX2_needAllowed wsX2_needAllowed) := goodIn_app (goodIn_of _ (by decide +kernel)) ggX2_handOver_X2_needAllowed
set_option maxRecDepth 20000 in
theorem ggX2_handOver_X2_save : GoodIn wsX2_handOver wsX2_save := goodIn_r _ [61, 62, 63, 1, 64, 65, 66, 6, 67, 68, 69, 70, 13, 71, 48, 72, 73, 74, 75, 76, 24, 41, 36, 43, 77, 78, 15, 34, 35, 29, 79, 80, 81, 86, 87, 88, 89, 90, 91, 92, 93, 94, 95, 96, 97, 98, 99, 100, 101, 102, 103, 104, 105] (by decide +kernel) (by decide +kernel)
set_option maxRecDepth 20000 in
theorem gX2_handOver_X2_save : GoodIn wsX2_handOver (wsV RX2 41 RX2 yX2_save wsX2_save) := goodIn_app (goodIn_of _ (by decide +kernel)) ggX2_handOver_X2_save
set_option maxRecDepth 20000 in
theorem ggX2_handOver_X1_moveCover : GoodIn wsX2_handOver wsX1_moveCover := goodIn_r _ [85, 35, 79, 43, 42, 77, 80, 76, 91, 92, 93, 94, 95, 96, 97, 98, 99, 100, 101, 102, 103, 104, 105] (by decide +kernel) (by decide +kernel)
set_option maxRecDepth 20000 in
theorem gX2_handOver_X1_moveCover : GoodIn wsX2_handOver (wsV RX2 129 RX1 yX1_moveCover wsX1_moveCover) := goodIn_app (goodIn_of _ (by decide +kernel)) ggX2_handOver_X1_moveCover
theorem dX2_handOver_0 : decode cX2_handOver 0 = .ok (.aload_n 0, 1) := by decide +kernel
theorem dX2_handOver_1 : decode cX2_handOver 1 = .ok (.iload_n 1, 1) := by decide +kernel
theorem dX2_handOver_2 : decode cX2_handOver 2 = .ok (.invokevirtual 93, 3) := by decide +kernel
theorem dX2_handOver_5 : decode cX2_handOver 5 = .ok (.aload_n 0, 1) := by decide +kernel
theorem dX2_handOver_6 : decode cX2_handOver 6 = .ok (.iload_n 2, 1) := by decide +kernel
theorem dX2_handOver_7 : decode cX2_handOver 7 = .ok (.invokevirtual 68, 3) := by decide +kernel
theorem dX2_handOver_10 : decode cX2_handOver 10 = .ok (.aload_n 0, 1) := by decide +kernel
theorem dX2_handOver_11 : decode cX2_handOver 11 = .ok (.getfield 12, 3) := by decide +kernel
theorem dX2_handOver_14 : decode cX2_handOver 14 = .ok (.iload_n 1, 1) := by decide +kernel
theorem dX2_handOver_15 : decode cX2_handOver 15 = .ok (.invokevirtual 123, 3) := by decide +kernel
theorem dX2_handOver_18 : decode cX2_handOver 18 = .ok (.ifCond .eq 19, 3) := by decide +kernel
theorem dX2_handOver_21 : decode cX2_handOver 21 = .ok (.aload_n 0, 1) := by decide +kernel
theorem dX2_handOver_22 : decode cX2_handOver 22 = .ok (.getfield 12, 3) := by decide +kernel
theorem dX2_handOver_25 : decode cX2_handOver 25 = .ok (.iload_n 2, 1) := by decide +kernel
theorem dX2_handOver_26 : decode cX2_handOver 26 = .ok (.iload_n 1, 1) := by decide +kernel
theorem dX2_handOver_27 : decode cX2_handOver 27 = .ok (.invokevirtual 126, 3) := by decide +kernel
theorem dX2_handOver_30 : decode cX2_handOver 30 = .ok (.ifCond .ne 7, 3) := by decide +kernel
theorem dX2_handOver_33 : decode cX2_handOver 33 = .ok (.iconst 1, 1) := by decide +kernel
theorem dX2_handOver_34 : decode cX2_handOver 34 = .ok (.goto 4, 3) := by decide +kernel
theorem dX2_handOver_37 : decode cX2_handOver 37 = .ok (.iconst 0, 1) := by decide +kernel
theorem dX2_handOver_38 : decode cX2_handOver 38 = .ok (.invokestatic 60, 3) := by decide +kernel
theorem dX2_handOver_41 : decode cX2_handOver 41 = .ok (.aload_n 0, 1) := by decide +kernel
theorem dX2_handOver_42 : decode cX2_handOver 42 = .ok (.invokevirtual 41, 3) := by decide +kernel
theorem dX2_handOver_45 : decode cX2_handOver 45 = .ok (.aload_n 0, 1) := by decide +kernel
theorem dX2_handOver_46 : decode cX2_handOver 46 = .ok (.getfield 12, 3) := by decide +kernel
theorem dX2_handOver_49 : decode cX2_handOver 49 = .ok (.getfield 116, 3) := by decide +kernel
theorem dX2_handOver_52 : decode cX2_handOver 52 = .ok (.iload_n 1, 1) := by decide +kernel
theorem dX2_handOver_53 : decode cX2_handOver 53 = .ok (.iaload, 1) := by decide +kernel
theorem dX2_handOver_54 : decode cX2_handOver 54 = .ok (.istore_n 3, 1) := by decide +kernel
theorem dX2_handOver_55 : decode cX2_handOver 55 = .ok (.aload_n 0, 1) := by decide +kernel
theorem dX2_handOver_56 : decode cX2_handOver 56 = .ok (.getfield 12, 3) := by decide +kernel
theorem dX2_handOver_59 : decode cX2_handOver 59 = .ok (.iload_n 1, 1) := by decide +kernel
theorem dX2_handOver_60 : decode cX2_handOver 60 = .ok (.iload_n 2, 1) := by decide +kernel
theorem dX2_handOver_61 : decode cX2_handOver 61 = .ok (.invokevirtual 129, 3) := by decide +kernel
theorem dX2_handOver_64 : decode cX2_handOver 64 = .ok (.iload_n 3, 1) := by decide +kernel
theorem dX2_handOver_65 : decode cX2_handOver 65 = .ok (.ireturn, 1) := by decide +kernel
set_option maxRecDepth 20000 in
theorem ggX2_giveUp_X2_needAbsence : GoodIn wsX2_giveUp wsX2_needAbsence := goodIn_ca (goodIn_r _ [7, 8, 9, 1, 10, 11, 12, 13, 14, 15, 63, 64, 65, 66, 67, 68, 69, 70, 71, 72, 73, 74, 75, 76, 77, 78, 79, 80, 81, 82] (by decide +kernel) (by decide +kernel)) (goodIn_sub (fun _ h => List.mem_cons_of_mem _ (List.mem_append_left _ (List.mem_append_right _ h))) (by decide +kernel))
set_option maxRecDepth 20000 in
theorem gX2_giveUp_X2_needAbsence : GoodIn wsX2_giveUp (wsV RX2 93 RX2 yX2_needAbsence wsX2_needAbsence) := goodIn_app (goodIn_of _ (by decide +kernel)) ggX2_giveUp_X2_needAbsence
set_option maxRecDepth 20000 in
theorem ggX2_giveUp_X2_needAllowed : GoodIn wsX2_giveUp wsX2_needAllowed := goodIn_ca (goodIn_r _ [18, 19, 20] (by decide +kernel) (by decide +kernel)) (goodIn_sub (fun _ h => List.mem_cons_of_mem _ (List.mem_append_right _ h)) (by decide +kernel))
set_option maxRecDepth 20000 in
theorem gX2_giveUp_X2_needAllowed : GoodIn wsX2_giveUp (va_wsS RX2 60 yX2_needAllowed wsX2_needAllowed) := goodIn_app (goodIn_of _ (by decide +kernel)) ggX2_giveUp_X2_needAllowed
set_option maxRecDepth 20000 in
theorem ggX2_giveUp_X2_save : GoodIn wsX2_giveUp wsX2_save := goodIn_r _ [24, 25, 26, 1, 27, 28, 29, 6, 30, 31, 32, 33, 13, 34, 35, 36, 37, 38, 39, 40, 41, 42, 43, 44, 45, 46, 15, 47, 48, 49, 50, 51, 52, 63, 64, 65, 66, 67, 68, 69, 70, 71, 72, 73, 74, 75, 76, 77, 78, 79, 80, 81, 82] (by decide +kernel) (by decide +kernel)
set_option maxRecDepth 20000 in
theorem gX2_giveUp_X2_save : GoodIn wsX2_giveUp (wsV RX2 41 RX2 yX2_save wsX2_save) := goodIn_app (goodIn_of _ (by decide +kernel)) ggX2_giveUp_X2_save
set_option maxRecDepth 20000 in
theorem ggX2_giveUp_X1_bidsFor : GoodIn wsX2_giveUp wsX1_bidsFor := goodIn_r _ [56, 41, 52, 57, 6, 58, 68, 69, 70, 71, 72, 73, 74, 75, 76, 77, 78, 79, 80, 81, 82] (by decide +kernel) (by decide +kernel)
set_option maxRecDepth 20000 in
theorem gX2_giveUp_X1_bidsFor : GoodIn wsX2_giveUp (wsV RX2 105 RX1 yX1_bidsFor wsX1_bidsFor) := goodIn_app (goodIn_of _ (by decide +kernel)) ggX2_giveUp_X1_bidsFor
set_option maxRecDepth 20000 in
theorem ggX2_giveUp_X1_dropBids : GoodIn wsX2_giveUp wsX1_dropBids := goodIn_r _ [62, 52, 57, 6, 58, 68, 69, 70, 71, 72, 73, 74, 75, 76, 77, 78, 79, 80, 81, 82] (by decide +kernel) (by decide +kernel)
set_option maxRecDepth 20000 in
theorem gX2_giveUp_X1_dropBids : GoodIn wsX2_giveUp (wsV RX2 136 RX1 yX1_dropBids wsX1_dropBids) := goodIn_app (goodIn_of _ (by decide +kernel)) ggX2_giveUp_X1_dropBids
theorem dX2_giveUp_0 : decode cX2_giveUp 0 = .ok (.aload_n 0, 1) := by decide +kernel
theorem dX2_giveUp_1 : decode cX2_giveUp 1 = .ok (.iload_n 1, 1) := by decide +kernel
theorem dX2_giveUp_2 : decode cX2_giveUp 2 = .ok (.invokevirtual 93, 3) := by decide +kernel
theorem dX2_giveUp_5 : decode cX2_giveUp 5 = .ok (.aload_n 0, 1) := by decide +kernel
theorem dX2_giveUp_6 : decode cX2_giveUp 6 = .ok (.getfield 12, 3) := by decide +kernel
theorem dX2_giveUp_9 : decode cX2_giveUp 9 = .ok (.getfield 133, 3) := by decide +kernel
theorem dX2_giveUp_12 : decode cX2_giveUp 12 = .ok (.iload_n 1, 1) := by decide +kernel
theorem dX2_giveUp_13 : decode cX2_giveUp 13 = .ok (.iaload, 1) := by decide +kernel
theorem dX2_giveUp_14 : decode cX2_giveUp 14 = .ok (.ifCond .ne 7, 3) := by decide +kernel
theorem dX2_giveUp_17 : decode cX2_giveUp 17 = .ok (.iconst 1, 1) := by decide +kernel
theorem dX2_giveUp_18 : decode cX2_giveUp 18 = .ok (.goto 4, 3) := by decide +kernel
theorem dX2_giveUp_21 : decode cX2_giveUp 21 = .ok (.iconst 0, 1) := by decide +kernel
theorem dX2_giveUp_22 : decode cX2_giveUp 22 = .ok (.invokestatic 60, 3) := by decide +kernel
theorem dX2_giveUp_25 : decode cX2_giveUp 25 = .ok (.aload_n 0, 1) := by decide +kernel
theorem dX2_giveUp_26 : decode cX2_giveUp 26 = .ok (.invokevirtual 41, 3) := by decide +kernel
theorem dX2_giveUp_29 : decode cX2_giveUp 29 = .ok (.aload_n 0, 1) := by decide +kernel
theorem dX2_giveUp_30 : decode cX2_giveUp 30 = .ok (.getfield 12, 3) := by decide +kernel
theorem dX2_giveUp_33 : decode cX2_giveUp 33 = .ok (.iload_n 1, 1) := by decide +kernel
theorem dX2_giveUp_34 : decode cX2_giveUp 34 = .ok (.invokevirtual 105, 3) := by decide +kernel
theorem dX2_giveUp_37 : decode cX2_giveUp 37 = .ok (.istore_n 2, 1) := by decide +kernel
theorem dX2_giveUp_38 : decode cX2_giveUp 38 = .ok (.aload_n 0, 1) := by decide +kernel
theorem dX2_giveUp_39 : decode cX2_giveUp 39 = .ok (.getfield 12, 3) := by decide +kernel
theorem dX2_giveUp_42 : decode cX2_giveUp 42 = .ok (.getfield 133, 3) := by decide +kernel
theorem dX2_giveUp_45 : decode cX2_giveUp 45 = .ok (.iload_n 1, 1) := by decide +kernel
theorem dX2_giveUp_46 : decode cX2_giveUp 46 = .ok (.iconst 3, 1) := by decide +kernel
theorem dX2_giveUp_47 : decode cX2_giveUp 47 = .ok (.iastore, 1) := by decide +kernel
theorem dX2_giveUp_48 : decode cX2_giveUp 48 = .ok (.aload_n 0, 1) := by decide +kernel
theorem dX2_giveUp_49 : decode cX2_giveUp 49 = .ok (.getfield 12, 3) := by decide +kernel
theorem dX2_giveUp_52 : decode cX2_giveUp 52 = .ok (.iload_n 1, 1) := by decide +kernel
theorem dX2_giveUp_53 : decode cX2_giveUp 53 = .ok (.invokevirtual 136, 3) := by decide +kernel
theorem dX2_giveUp_56 : decode cX2_giveUp 56 = .ok (.iload_n 2, 1) := by decide +kernel
theorem dX2_giveUp_57 : decode cX2_giveUp 57 = .ok (.ireturn, 1) := by decide +kernel
set_option maxRecDepth 20000 in
theorem ggX2_person_X2_needPerson : GoodIn wsX2_person wsX2_needPerson := goodIn_ca (goodIn_r _ [6, 7, 8, 1, 9, 10, 11, 12, 13, 14, 49, 50, 51, 52, 53, 54, 55, 56, 57, 58, 59, 60, 61, 62, 63, 64, 65, 66, 67, 68] (by decide +kernel) (by decide +kernel)) (goodIn_sub (fun _ h => List.mem_cons_of_mem _ (List.mem_append_left _ (List.mem_append_right _ h))) (by decide +kernel))
set_option maxRecDepth 20000 in
theorem gX2_person_X2_needPerson : GoodIn wsX2_person (wsV RX2 68 RX2 yX2_needPerson wsX2_needPerson) := goodIn_app (goodIn_of _ (by decide +kernel)) ggX2_person_X2_needPerson
set_option maxRecDepth 20000 in
theorem ggX2_person_X2_needInRange : GoodIn wsX2_person wsX2_needInRange := goodIn_ca (goodIn_r _ [17, 18, 19] (by decide +kernel) (by decide +kernel)) (goodIn_sub (fun _ h => List.mem_cons_of_mem _ (List.mem_append_right _ h)) (by decide +kernel))
set_option maxRecDepth 20000 in
theorem gX2_person_X2_needInRange : GoodIn wsX2_person (va_wsS RX2 30 yX2_needInRange wsX2_needInRange) := goodIn_app (goodIn_of _ (by decide +kernel)) ggX2_person_X2_needInRange
set_option maxRecDepth 20000 in
theorem ggX2_person_X1_aboutPerson : GoodIn wsX2_person wsX1_aboutPerson := goodIn_r _ [23, 24, 25, 26, 27, 28, 29, 30, 31, 32, 33, 34, 35, 36, 37, 38, 12, 39, 40, 41, 42, 43, 44, 45, 46, 47, 5, 48, 54, 55, 56, 57, 58, 59, 60, 61, 62, 63, 64, 65, 66, 67, 68] (by decide +kernel) (by decide +kernel)
set_option maxRecDepth 20000 in
theorem gX2_person_X1_aboutPerson : GoodIn wsX2_person (wsV RX2 139 RX1 yX1_aboutPerson wsX1_aboutPerson) := goodIn_app (goodIn_of _ (by decide +kernel)) ggX2_person_X1_aboutPerson
theorem dX2_person_0 : decode cX2_person 0 = .ok (.aload_n 0, 1) := by decide +kernel
theorem dX2_person_1 : decode cX2_person 1 = .ok (.iload_n 1, 1) := by decide +kernel
theorem dX2_person_2 : decode cX2_person 2 = .ok (.invokevirtual 68, 3) := by decide +kernel
theorem dX2_person_5 : decode cX2_person 5 = .ok (.iload_n 2, 1) := by decide +kernel
theorem dX2_person_6 : decode cX2_person 6 = .ok (.iconst 0, 1) := by decide +kernel
theorem dX2_person_7 : decode cX2_person 7 = .ok (.bipush 6, 2) := by decide +kernel
theorem dX2_person_9 : decode cX2_person 9 = .ok (.invokestatic 30, 3) := by decide +kernel
theorem dX2_person_12 : decode cX2_person 12 = .ok (.aload_n 0, 1) := by decide +kernel
theorem dX2_person_13 : decode cX2_person 13 = .ok (.getfield 12, 3) := by decide +kernel
theorem dX2_person_16 : decode cX2_person 16 = .ok (.iload_n 1, 1) := by decide +kernel
theorem dX2_person_17 : decode cX2_person 17 = .ok (.iload_n 2, 1) := by decide +kernel
theorem dX2_person_18 : decode cX2_person 18 = .ok (.invokevirtual 139, 3) := by decide +kernel
theorem dX2_person_21 : decode cX2_person 21 = .ok (.ireturn, 1) := by decide +kernel
set_option maxRecDepth 20000 in
theorem ggX2_work_X2_needPerson : GoodIn wsX2_work wsX2_needPerson := goodIn_ca (goodIn_r _ [6, 7, 8, 1, 9, 10, 11, 12, 13, 14, 23, 24, 25, 26, 27, 28, 29, 30, 31, 32, 33, 34, 35, 36, 37, 38, 39, 40, 41, 42] (by decide +kernel) (by decide +kernel)) (goodIn_sub (fun _ h => List.mem_cons_of_mem _ (List.mem_append_right _ h)) (by decide +kernel))
set_option maxRecDepth 20000 in
theorem gX2_work_X2_needPerson : GoodIn wsX2_work (wsV RX2 68 RX2 yX2_needPerson wsX2_needPerson) := goodIn_app (goodIn_of _ (by decide +kernel)) ggX2_work_X2_needPerson
set_option maxRecDepth 20000 in
theorem ggX2_work_X1_worked : GoodIn wsX2_work wsX1_worked := goodIn_r _ [18, 19, 20, 21, 22, 28, 29, 30, 31, 32, 33, 34, 35, 36, 37, 38, 39, 40, 41, 42] (by decide +kernel) (by decide +kernel)
set_option maxRecDepth 20000 in
theorem gX2_work_X1_worked : GoodIn wsX2_work (wsV RX2 142 RX1 yX1_worked wsX1_worked) := goodIn_app (goodIn_of _ (by decide +kernel)) ggX2_work_X1_worked
theorem dX2_work_0 : decode cX2_work 0 = .ok (.aload_n 0, 1) := by decide +kernel
theorem dX2_work_1 : decode cX2_work 1 = .ok (.iload_n 1, 1) := by decide +kernel
theorem dX2_work_2 : decode cX2_work 2 = .ok (.invokevirtual 68, 3) := by decide +kernel
theorem dX2_work_5 : decode cX2_work 5 = .ok (.aload_n 0, 1) := by decide +kernel
theorem dX2_work_6 : decode cX2_work 6 = .ok (.getfield 12, 3) := by decide +kernel
theorem dX2_work_9 : decode cX2_work 9 = .ok (.iload_n 1, 1) := by decide +kernel
theorem dX2_work_10 : decode cX2_work 10 = .ok (.invokevirtual 142, 3) := by decide +kernel
theorem dX2_work_13 : decode cX2_work 13 = .ok (.lreturn, 1) := by decide +kernel
set_option maxRecDepth 20000 in
theorem ggX2_absence_X2_needAbsence : GoodIn wsX2_absence wsX2_needAbsence := goodIn_ca (goodIn_r _ [6, 7, 8, 1, 9, 10, 11, 12, 13, 14, 62, 63, 64, 65, 66, 67, 68, 69, 70, 71, 72, 73, 74, 75, 76, 77, 78, 79, 80, 81] (by decide +kernel) (by decide +kernel)) (goodIn_sub (fun _ h => List.mem_cons_of_mem _ (List.mem_append_left _ (List.mem_append_right _ h))) (by decide +kernel))
set_option maxRecDepth 20000 in
theorem gX2_absence_X2_needAbsence : GoodIn wsX2_absence (wsV RX2 93 RX2 yX2_needAbsence wsX2_needAbsence) := goodIn_app (goodIn_of _ (by decide +kernel)) ggX2_absence_X2_needAbsence
set_option maxRecDepth 20000 in
theorem ggX2_absence_X2_needInRange : GoodIn wsX2_absence wsX2_needInRange := goodIn_ca (goodIn_r _ [17, 18, 19] (by decide +kernel) (by decide +kernel)) (goodIn_sub (fun _ h => List.mem_cons_of_mem _ (List.mem_append_right _ h)) (by decide +kernel))
set_option maxRecDepth 20000 in
theorem gX2_absence_X2_needInRange : GoodIn wsX2_absence (va_wsS RX2 30 yX2_needInRange wsX2_needInRange) := goodIn_app (goodIn_of _ (by decide +kernel)) ggX2_absence_X2_needInRange
set_option maxRecDepth 20000 in
theorem ggX2_absence_X1_aboutAbsence : GoodIn wsX2_absence wsX1_aboutAbsence := goodIn_r _ [23, 24, 25, 26, 27, 28, 29, 30, 31, 12, 32, 33, 34, 35, 5, 36, 37, 38, 39, 40, 41, 42, 43, 44, 45, 46, 47, 48, 49, 50, 51, 52, 53, 54, 55, 56, 57, 58, 59, 60, 61, 67, 68, 69, 70, 71, 72, 73, 74, 75, 76, 77, 78, 79, 80, 81] (by decide +kernel) (by decide +kernel)
set_option maxRecDepth 20000 in
theorem gX2_absence_X1_aboutAbsence : GoodIn wsX2_absence (wsV RX2 146 RX1 yX1_aboutAbsence wsX1_aboutAbsence) := goodIn_app (goodIn_of _ (by decide +kernel)) ggX2_absence_X1_aboutAbsence
theorem dX2_absence_0 : decode cX2_absence 0 = .ok (.aload_n 0, 1) := by decide +kernel
theorem dX2_absence_1 : decode cX2_absence 1 = .ok (.iload_n 1, 1) := by decide +kernel
theorem dX2_absence_2 : decode cX2_absence 2 = .ok (.invokevirtual 93, 3) := by decide +kernel
theorem dX2_absence_5 : decode cX2_absence 5 = .ok (.iload_n 2, 1) := by decide +kernel
theorem dX2_absence_6 : decode cX2_absence 6 = .ok (.iconst 0, 1) := by decide +kernel
theorem dX2_absence_7 : decode cX2_absence 7 = .ok (.bipush 6, 2) := by decide +kernel
theorem dX2_absence_9 : decode cX2_absence 9 = .ok (.invokestatic 30, 3) := by decide +kernel
theorem dX2_absence_12 : decode cX2_absence 12 = .ok (.aload_n 0, 1) := by decide +kernel
theorem dX2_absence_13 : decode cX2_absence 13 = .ok (.getfield 12, 3) := by decide +kernel
theorem dX2_absence_16 : decode cX2_absence 16 = .ok (.iload_n 1, 1) := by decide +kernel
theorem dX2_absence_17 : decode cX2_absence 17 = .ok (.iload_n 2, 1) := by decide +kernel
theorem dX2_absence_18 : decode cX2_absence 18 = .ok (.invokevirtual 146, 3) := by decide +kernel
theorem dX2_absence_21 : decode cX2_absence 21 = .ok (.ireturn, 1) := by decide +kernel
