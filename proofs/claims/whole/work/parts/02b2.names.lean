theorem wsL_law_in0_wsX20 : ∀ w ∈ wsX20, w ∈ lw_tbl := by decide +kernel
theorem wsL_law_in0_wsX30 : ∀ w ∈ wsX30, w ∈ lw_tbl := by decide +kernel
theorem wsL_law_in0_wsX10 : ∀ w ∈ wsX10, w ∈ lw_tbl := by decide +kernel
theorem wsL_law_in0_wsX00 : ∀ w ∈ wsX00, w ∈ lw_tbl := by decide +kernel
theorem wsL_law_in0_rs : ∀ w, w ∈ (wsL_law0_r1 ++ (wsL_law0_r2 ++ (wsL_law0_r3 ++ (wsL_law0_r4 ++ (wsL_law0_r5 ++ (wsL_law0_r6 ++ (wsL_law0_r7 ++ (wsL_law0_r8 ++ (wsL_law0_r9 ++ (wsL_law0_r10 ++ (wsL_law0_r11 ++ (wsL_law0_r12 ++ (wsL_law0_r13 ++ (wsL_law0_r14 ++ (wsL_law0_r15 ++ (wsL_law0_r16 ++ (wsL_law0_r17 ++ (wsL_law0_r18 ++ (wsL_law0_r19 ++ (wsL_law0_r20 ++ (wsL_law0_r21 ++ (wsL_law0_r22 ++ (wsL_law0_r23 ++ (wsL_law0_r24 ++ (wsL_law0_r25 ++ (wsL_law0_r26 ++ (wsL_law0_r27 ++ (wsL_law0_r28 ++ (wsL_law0_r29 ++ (wsL_law0_r30 ++ (wsL_law0_r31 ++ (wsL_law0_r32 ++ (wsL_law0_r33 ++ (wsL_law0_r34 ++ (wsL_law0_r35 ++ wsL_law0_r36))))))))))))))))))))))))))))))))))) → w ∈ lw_tbl := fun w h => (List.mem_append.mp h).elim (wsL_law_in0_1 w) (fun h => (List.mem_append.mp h).elim (wsL_law_in0_2 w) (fun h => (List.mem_append.mp h).elim (wsL_law_in0_3 w) (fun h => (List.mem_append.mp h).elim (wsL_law_in0_4 w) (fun h => (List.mem_append.mp h).elim (wsL_law_in0_5 w) (fun h => (List.mem_append.mp h).elim (wsL_law_in0_6 w) (fun h => (List.mem_append.mp h).elim (wsL_law_in0_7 w) (fun h => (List.mem_append.mp h).elim (wsL_law_in0_8 w) (fun h => (List.mem_append.mp h).elim (wsL_law_in0_9 w) (fun h => (List.mem_append.mp h).elim (wsL_law_in0_10 w) (fun h => (List.mem_append.mp h).elim (wsL_law_in0_11 w) (fun h => (List.mem_append.mp h).elim (wsL_law_in0_12 w) (fun h => (List.mem_append.mp h).elim (wsL_law_in0_13 w) (fun h => (List.mem_append.mp h).elim (wsL_law_in0_14 w) (fun h => (List.mem_append.mp h).elim (wsL_law_in0_15 w) (fun h => (List.mem_append.mp h).elim (wsL_law_in0_16 w) (fun h => (List.mem_append.mp h).elim (wsL_law_in0_17 w) (fun h => (List.mem_append.mp h).elim (wsL_law_in0_18 w) (fun h => (List.mem_append.mp h).elim (wsL_law_in0_19 w) (fun h => (List.mem_append.mp h).elim (wsL_law_in0_20 w) (fun h => (List.mem_append.mp h).elim (wsL_law_in0_21 w) (fun h => (List.mem_append.mp h).elim (wsL_law_in0_22 w) (fun h => (List.mem_append.mp h).elim (wsL_law_in0_23 w) (fun h => (List.mem_append.mp h).elim (wsL_law_in0_24 w) (fun h => (List.mem_append.mp h).elim (wsL_law_in0_25 w) (fun h => (List.mem_append.mp h).elim (wsL_law_in0_26 w) (fun h => (List.mem_append.mp h).elim (wsL_law_in0_27 w) (fun h => (List.mem_append.mp h).elim (wsL_law_in0_28 w) (fun h => (List.mem_append.mp h).elim (wsL_law_in0_29 w) (fun h => (List.mem_append.mp h).elim (wsL_law_in0_30 w) (fun h => (List.mem_append.mp h).elim (wsL_law_in0_31 w) (fun h => (List.mem_append.mp h).elim (wsL_law_in0_32 w) (fun h => (List.mem_append.mp h).elim (wsL_law_in0_33 w) (fun h => (List.mem_append.mp h).elim (wsL_law_in0_34 w) (fun h => (List.mem_append.mp h).elim (wsL_law_in0_35 w) (fun h => wsL_law_in0_36 w h)))))))))))))))))))))))))))))))))))
set_option maxRecDepth 20000 in
theorem wsL_law_in0 : ∀ w ∈ wsL_law0, w ∈ lw_tbl := fun w h => (List.mem_append.mp h).elim (fun h => (List.mem_append.mp h).elim (fun h => (List.mem_append.mp h).elim (fun h => (List.mem_append.mp h).elim (fun h => (List.mem_append.mp h).elim (fun h => wsL_law_in0_rs w h) (wsL_law_in0_wsX20 w)) (wsL_law_in0_wsX30 w)) (wsL_law_in0_wsX10 w)) (wsL_law_in0_wsX00 w)) (fun h => absurd h List.not_mem_nil)
theorem wsL_law_x0 : ∀ w ∈ (vx_atS RX2 53 "java/lang/IllegalArgumentException" ["java/lang/RuntimeException", "java/lang/Exception"]).filter goodWord, w ∈ lw_tbl := by decide +kernel
theorem wsL_law_x1 : ∀ w ∈ (vx_atS RX2 232 "java/lang/IllegalStateException" ["java/lang/RuntimeException", "java/lang/Exception"]).filter goodWord, w ∈ lw_tbl := by decide +kernel
theorem wsL_law_x2 : ∀ w ∈ (vx_atS RX2 220 "java/lang/IndexOutOfBoundsException" ["java/lang/RuntimeException", "java/lang/Exception"]).filter goodWord, w ∈ lw_tbl := by decide +kernel
theorem wsL_law_in : ∀ w ∈ wsL_law, w ∈ lw_tbl := fun w h => (List.mem_append.mp h).elim (fun h => (List.mem_append.mp h).elim (fun h => (List.mem_append.mp h).elim (fun h => wsL_law_in0 w h) (fun h => wsL_law_x0 w h)) (fun h => wsL_law_x1 w h)) (fun h => wsL_law_x2 w h)
theorem inlX0 : ∀ w ∈ wsX00, w ∈ wsL_law := fun _ h => List.mem_append_left _ (List.mem_append_left _ (List.mem_append_left _ (List.mem_append_left _ (List.mem_append_right _ h))))
theorem inX0 : ∀ w ∈ wsX00, w ∈ lw_tbl := fun w h => wsL_law_in w (inlX0 w h)
theorem inlX1 : ∀ w ∈ wsX10, w ∈ wsL_law := fun _ h => List.mem_append_left _ (List.mem_append_left _ (List.mem_append_left _ (List.mem_append_left _ (List.mem_append_left _ (List.mem_append_right _ h)))))
theorem inX1 : ∀ w ∈ wsX10, w ∈ lw_tbl := fun w h => wsL_law_in w (inlX1 w h)
theorem inlX2 : ∀ w ∈ wsX20, w ∈ wsL_law := fun _ h => List.mem_append_left _ (List.mem_append_left _ (List.mem_append_left _ (List.mem_append_left _ (List.mem_append_left _ (List.mem_append_left _ (List.mem_append_left _ (List.mem_append_right _ h)))))))
theorem inX2 : ∀ w ∈ wsX20, w ∈ lw_tbl := fun w h => wsL_law_in w (inlX2 w h)
theorem inlX3 : ∀ w ∈ wsX30, w ∈ wsL_law := fun _ h => List.mem_append_left _ (List.mem_append_left _ (List.mem_append_left _ (List.mem_append_left _ (List.mem_append_left _ (List.mem_append_left _ (List.mem_append_right _ h))))))
theorem inX3 : ∀ w ∈ wsX30, w ∈ lw_tbl := fun w h => wsL_law_in w (inlX3 w h)
theorem inJ13 : ∀ w ∈ wsJ130, w ∈ lw_tbl := by decide +kernel
theorem inJ9 : ∀ w ∈ wsJ90, w ∈ lw_tbl := by decide +kernel
theorem inJ0 : ∀ w ∈ wsJ00, w ∈ lw_tbl := by decide +kernel
theorem inJ10 : ∀ w ∈ wsJ100, w ∈ lw_tbl := by decide +kernel
theorem dX0_init_0 : decode cX0_init 0 = .ok (.aload_n 0, 1) := by decide +kernel
theorem dX0_init_1 : decode cX0_init 1 = .ok (.invokespecial 3, 3) := by decide +kernel
theorem dX0_init_4 : decode cX0_init 4 = .ok (.aload_n 0, 1) := by decide +kernel
theorem dX0_init_5 : decode cX0_init 5 = .ok (.bipush 100, 2) := by decide +kernel
theorem dX0_init_7 : decode cX0_init 7 = .ok (.newarray .int, 2) := by decide +kernel
theorem dX0_init_9 : decode cX0_init 9 = .ok (.putfield 9, 3) := by decide +kernel
theorem dX0_init_12 : decode cX0_init 12 = .ok (.return_, 1) := by decide +kernel
theorem dX0_start_0 : decode cX0_start 0 = .ok (.aload_n 0, 1) := by decide +kernel
theorem dX0_start_1 : decode cX0_start 1 = .ok (.iconst 0, 1) := by decide +kernel
theorem dX0_start_2 : decode cX0_start 2 = .ok (.putfield 15, 3) := by decide +kernel
theorem dX0_start_5 : decode cX0_start 5 = .ok (.aload_n 0, 1) := by decide +kernel
theorem dX0_start_6 : decode cX0_start 6 = .ok (.iconst (-1), 1) := by decide +kernel
theorem dX0_start_7 : decode cX0_start 7 = .ok (.putfield 19, 3) := by decide +kernel
theorem dX0_start_10 : decode cX0_start 10 = .ok (.return_, 1) := by decide +kernel
theorem dX0_hasMore_0 : decode cX0_hasMore 0 = .ok (.aload_n 0, 1) := by decide +kernel
theorem dX0_hasMore_1 : decode cX0_hasMore 1 = .ok (.getfield 15, 3) := by decide +kernel
theorem dX0_hasMore_4 : decode cX0_hasMore 4 = .ok (.aload_n 0, 1) := by decide +kernel
theorem dX0_hasMore_5 : decode cX0_hasMore 5 = .ok (.getfield 22, 3) := by decide +kernel
theorem dX0_hasMore_8 : decode cX0_hasMore 8 = .ok (.if_icmp .ge 7, 3) := by decide +kernel
theorem dX0_hasMore_11 : decode cX0_hasMore 11 = .ok (.iconst 1, 1) := by decide +kernel
theorem dX0_hasMore_12 : decode cX0_hasMore 12 = .ok (.goto 4, 3) := by decide +kernel
theorem dX0_hasMore_15 : decode cX0_hasMore 15 = .ok (.iconst 0, 1) := by decide +kernel
theorem dX0_hasMore_16 : decode cX0_hasMore 16 = .ok (.ireturn, 1) := by decide +kernel
set_option maxRecDepth 20000 in
theorem ggX0_errorPosition_X0_start : GoodIn wsX0_errorPosition wsX0_start := goodIn_r _ [7, 8, 2, 45, 46, 47, 48, 49, 50, 51, 52] (by decide +kernel) (by decide +kernel)
set_option maxRecDepth 20000 in
theorem gX0_errorPosition_X0_start : GoodIn wsX0_errorPosition (wsV RX0 25 RX0 yX0_start wsX0_start) := goodIn_app (goodIn_of _ (by decide +kernel)) ggX0_errorPosition_X0_start
set_option maxRecDepth 20000 in
theorem ggX0_errorPosition_X0_hasMore : GoodIn wsX0_errorPosition wsX0_hasMore := goodIn_r _ [12, 8, 1, 45, 46, 47, 48, 49, 50, 51, 52] (by decide +kernel) (by decide +kernel)
set_option maxRecDepth 20000 in
theorem gX0_errorPosition_X0_hasMore : GoodIn wsX0_errorPosition (wsV RX0 28 RX0 yX0_hasMore wsX0_hasMore) := goodIn_app (goodIn_of _ (by decide +kernel)) ggX0_errorPosition_X0_hasMore
set_option maxRecDepth 20000 in
theorem ggX0_errorPosition_X0_read : GoodIn wsX0_errorPosition wsX0_read := goodIn_r _ [16, 8, 17, 18, 19, 20, 21, 22, 23, 6, 24, 1, 25, 26, 27, 28, 29, 30, 31, 32, 33, 2, 34, 35, 36, 37, 38, 39, 40, 41, 42, 43, 44, 45, 46, 47, 48, 49, 50, 51, 52] (by decide +kernel) (by decide +kernel)
set_option maxRecDepth 20000 in
theorem gX0_errorPosition_X0_read : GoodIn wsX0_errorPosition (wsV RX0 32 RX0 yX0_read wsX0_read) := goodIn_app (goodIn_of _ (by decide +kernel)) ggX0_errorPosition_X0_read
theorem dX0_errorPosition_0 : decode cX0_errorPosition 0 = .ok (.aload_n 0, 1) := by decide +kernel
theorem dX0_errorPosition_1 : decode cX0_errorPosition 1 = .ok (.invokevirtual 25, 3) := by decide +kernel
theorem dX0_errorPosition_4 : decode cX0_errorPosition 4 = .ok (.iconst 0, 1) := by decide +kernel
theorem dX0_errorPosition_5 : decode cX0_errorPosition 5 = .ok (.istore_n 1, 1) := by decide +kernel
theorem dX0_errorPosition_6 : decode cX0_errorPosition 6 = .ok (.iload_n 1, 1) := by decide +kernel
theorem dX0_errorPosition_7 : decode cX0_errorPosition 7 = .ok (.aload_n 0, 1) := by decide +kernel
theorem dX0_errorPosition_8 : decode cX0_errorPosition 8 = .ok (.getfield 22, 3) := by decide +kernel
theorem dX0_errorPosition_11 : decode cX0_errorPosition 11 = .ok (.if_icmp .ge 28, 3) := by decide +kernel
theorem dX0_errorPosition_14 : decode cX0_errorPosition 14 = .ok (.aload_n 0, 1) := by decide +kernel
theorem dX0_errorPosition_15 : decode cX0_errorPosition 15 = .ok (.invokevirtual 28, 3) := by decide +kernel
theorem dX0_errorPosition_18 : decode cX0_errorPosition 18 = .ok (.ifCond .eq 21, 3) := by decide +kernel
theorem dX0_errorPosition_21 : decode cX0_errorPosition 21 = .ok (.aload_n 0, 1) := by decide +kernel
theorem dX0_errorPosition_22 : decode cX0_errorPosition 22 = .ok (.getfield 19, 3) := by decide +kernel
theorem dX0_errorPosition_25 : decode cX0_errorPosition 25 = .ok (.iconst (-1), 1) := by decide +kernel
theorem dX0_errorPosition_26 : decode cX0_errorPosition 26 = .ok (.if_icmp .ne 13, 3) := by decide +kernel
theorem dX0_errorPosition_29 : decode cX0_errorPosition 29 = .ok (.aload_n 0, 1) := by decide +kernel
theorem dX0_errorPosition_30 : decode cX0_errorPosition 30 = .ok (.invokevirtual 32, 3) := by decide +kernel
theorem dX0_errorPosition_33 : decode cX0_errorPosition 33 = .ok (.iinc 1 1, 3) := by decide +kernel
theorem dX0_errorPosition_36 : decode cX0_errorPosition 36 = .ok (.goto (-30), 3) := by decide +kernel
theorem dX0_errorPosition_39 : decode cX0_errorPosition 39 = .ok (.aload_n 0, 1) := by decide +kernel
theorem dX0_errorPosition_40 : decode cX0_errorPosition 40 = .ok (.getfield 19, 3) := by decide +kernel
theorem dX0_errorPosition_43 : decode cX0_errorPosition 43 = .ok (.ireturn, 1) := by decide +kernel
set_option maxRecDepth 20000 in
theorem ggX0_read_X0_signAt : GoodIn wsX0_read wsX0_signAt := goodIn_r _ [10, 11, 12, 33, 34, 35, 36, 37, 38, 39, 40] (by decide +kernel) (by decide +kernel)
set_option maxRecDepth 20000 in
theorem gX0_read_X0_signAt : GoodIn wsX0_read (wsV RX0 35 RX0 yX0_signAt wsX0_signAt) := goodIn_app (goodIn_of _ (by decide +kernel)) ggX0_read_X0_signAt
set_option maxRecDepth 20000 in
theorem ggX0_read_X0_readPerson : GoodIn wsX0_read wsX0_readPerson := goodIn_r _ [16, 1, 6, 7, 8, 9, 10, 11, 12, 17, 18, 19, 20, 21, 33, 34, 35, 36, 37, 38, 39, 40] (by decide +kernel) (by decide +kernel)
set_option maxRecDepth 20000 in
theorem gX0_read_X0_readPerson : GoodIn wsX0_read (wsV RX0 42 RX0 yX0_readPerson wsX0_readPerson) := goodIn_app (goodIn_of _ (by decide +kernel)) ggX0_read_X0_readPerson
set_option maxRecDepth 20000 in
theorem ggX0_read_X0_expect : GoodIn wsX0_read wsX0_expect := goodIn_r _ [25, 1, 6, 7, 8, 9, 10, 11, 12, 17, 18, 19, 20, 21, 33, 34, 35, 36, 37, 38, 39, 40] (by decide +kernel) (by decide +kernel)
set_option maxRecDepth 20000 in
theorem gX0_read_X0_expect : GoodIn wsX0_read (wsV RX0 49 RX0 yX0_expect wsX0_expect) := goodIn_app (goodIn_of _ (by decide +kernel)) ggX0_read_X0_expect
set_option maxRecDepth 20000 in
theorem ggX0_read_X0_readNumber : GoodIn wsX0_read wsX0_readNumber := goodIn_r _ [29, 1, 6, 7, 8, 9, 10, 11, 12, 30, 31, 32, 17, 18, 19, 20, 21, 33, 34, 35, 36, 37, 38, 39, 40] (by decide +kernel) (by decide +kernel)
set_option maxRecDepth 20000 in
theorem gX0_read_X0_readNumber : GoodIn wsX0_read (wsV RX0 53 RX0 yX0_readNumber wsX0_readNumber) := goodIn_app (goodIn_of _ (by decide +kernel)) ggX0_read_X0_readNumber
set_option maxRecDepth 20000 in
theorem ggX0_read_X0_fail : GoodIn wsX0_read wsX0_fail := goodIn_r _ [20, 21, 33, 34, 35, 36, 37, 38, 39, 40] (by decide +kernel) (by decide +kernel)
set_option maxRecDepth 20000 in
theorem gX0_read_X0_fail : GoodIn wsX0_read (wsV RX0 62 RX0 yX0_fail wsX0_fail) := goodIn_app (goodIn_of _ (by decide +kernel)) ggX0_read_X0_fail
theorem dX0_read_0 : decode cX0_read 0 = .ok (.aload_n 0, 1) := by decide +kernel
theorem dX0_read_1 : decode cX0_read 1 = .ok (.aload_n 0, 1) := by decide +kernel
theorem dX0_read_2 : decode cX0_read 2 = .ok (.aload_n 0, 1) := by decide +kernel
theorem dX0_read_3 : decode cX0_read 3 = .ok (.getfield 15, 3) := by decide +kernel
theorem dX0_read_6 : decode cX0_read 6 = .ok (.invokevirtual 35, 3) := by decide +kernel
theorem dX0_read_9 : decode cX0_read 9 = .ok (.putfield 39, 3) := by decide +kernel
theorem dX0_read_12 : decode cX0_read 12 = .ok (.aload_n 0, 1) := by decide +kernel
theorem dX0_read_13 : decode cX0_read 13 = .ok (.getfield 39, 3) := by decide +kernel
theorem dX0_read_16 : decode cX0_read 16 = .ok (.lookupswitch 170 #[(97, 44), (98, 81), (99, 134), (122, 157)], 44) := by decide +kernel
theorem dX0_read_60 : decode cX0_read 60 = .ok (.aload_n 0, 1) := by decide +kernel
theorem dX0_read_61 : decode cX0_read 61 = .ok (.dup, 1) := by decide +kernel
theorem dX0_read_62 : decode cX0_read 62 = .ok (.getfield 15, 3) := by decide +kernel
theorem dX0_read_65 : decode cX0_read 65 = .ok (.iconst 1, 1) := by decide +kernel
theorem dX0_read_66 : decode cX0_read 66 = .ok (.iadd, 1) := by decide +kernel
theorem dX0_read_67 : decode cX0_read 67 = .ok (.putfield 15, 3) := by decide +kernel
theorem dX0_read_70 : decode cX0_read 70 = .ok (.aload_n 0, 1) := by decide +kernel
theorem dX0_read_71 : decode cX0_read 71 = .ok (.aload_n 0, 1) := by decide +kernel
theorem dX0_read_72 : decode cX0_read 72 = .ok (.invokevirtual 42, 3) := by decide +kernel
theorem dX0_read_75 : decode cX0_read 75 = .ok (.putfield 46, 3) := by decide +kernel
theorem dX0_read_78 : decode cX0_read 78 = .ok (.aload_n 0, 1) := by decide +kernel
theorem dX0_read_79 : decode cX0_read 79 = .ok (.bipush 44, 2) := by decide +kernel
theorem dX0_read_81 : decode cX0_read 81 = .ok (.invokevirtual 49, 3) := by decide +kernel
theorem dX0_read_84 : decode cX0_read 84 = .ok (.aload_n 0, 1) := by decide +kernel
theorem dX0_read_85 : decode cX0_read 85 = .ok (.aload_n 0, 1) := by decide +kernel
theorem dX0_read_86 : decode cX0_read 86 = .ok (.bipush 41, 2) := by decide +kernel
theorem dX0_read_88 : decode cX0_read 88 = .ok (.invokevirtual 53, 3) := by decide +kernel
theorem dX0_read_91 : decode cX0_read 91 = .ok (.putfield 56, 3) := by decide +kernel
theorem dX0_read_94 : decode cX0_read 94 = .ok (.goto 100, 3) := by decide +kernel
theorem dX0_read_97 : decode cX0_read 97 = .ok (.aload_n 0, 1) := by decide +kernel
theorem dX0_read_98 : decode cX0_read 98 = .ok (.dup, 1) := by decide +kernel
theorem dX0_read_99 : decode cX0_read 99 = .ok (.getfield 15, 3) := by decide +kernel
theorem dX0_read_102 : decode cX0_read 102 = .ok (.iconst 1, 1) := by decide +kernel
theorem dX0_read_103 : decode cX0_read 103 = .ok (.iadd, 1) := by decide +kernel
theorem dX0_read_104 : decode cX0_read 104 = .ok (.putfield 15, 3) := by decide +kernel
theorem dX0_read_107 : decode cX0_read 107 = .ok (.aload_n 0, 1) := by decide +kernel
theorem dX0_read_108 : decode cX0_read 108 = .ok (.aload_n 0, 1) := by decide +kernel
theorem dX0_read_109 : decode cX0_read 109 = .ok (.invokevirtual 42, 3) := by decide +kernel
theorem dX0_read_112 : decode cX0_read 112 = .ok (.putfield 46, 3) := by decide +kernel
theorem dX0_read_115 : decode cX0_read 115 = .ok (.aload_n 0, 1) := by decide +kernel
theorem dX0_read_116 : decode cX0_read 116 = .ok (.bipush 44, 2) := by decide +kernel
theorem dX0_read_118 : decode cX0_read 118 = .ok (.invokevirtual 49, 3) := by decide +kernel
theorem dX0_read_121 : decode cX0_read 121 = .ok (.aload_n 0, 1) := by decide +kernel
theorem dX0_read_122 : decode cX0_read 122 = .ok (.aload_n 0, 1) := by decide +kernel
theorem dX0_read_123 : decode cX0_read 123 = .ok (.bipush 29, 2) := by decide +kernel
theorem dX0_read_125 : decode cX0_read 125 = .ok (.invokevirtual 53, 3) := by decide +kernel
theorem dX0_read_128 : decode cX0_read 128 = .ok (.putfield 56, 3) := by decide +kernel
theorem dX0_read_131 : decode cX0_read 131 = .ok (.aload_n 0, 1) := by decide +kernel
theorem dX0_read_132 : decode cX0_read 132 = .ok (.bipush 44, 2) := by decide +kernel
theorem dX0_read_134 : decode cX0_read 134 = .ok (.invokevirtual 49, 3) := by decide +kernel
theorem dX0_read_137 : decode cX0_read 137 = .ok (.aload_n 0, 1) := by decide +kernel
theorem dX0_read_138 : decode cX0_read 138 = .ok (.aload_n 0, 1) := by decide +kernel
theorem dX0_read_139 : decode cX0_read 139 = .ok (.bipush 50, 2) := by decide +kernel
theorem dX0_read_141 : decode cX0_read 141 = .ok (.invokevirtual 53, 3) := by decide +kernel
theorem dX0_read_144 : decode cX0_read 144 = .ok (.putfield 59, 3) := by decide +kernel
theorem dX0_read_147 : decode cX0_read 147 = .ok (.goto 47, 3) := by decide +kernel
theorem dX0_read_150 : decode cX0_read 150 = .ok (.aload_n 0, 1) := by decide +kernel
theorem dX0_read_151 : decode cX0_read 151 = .ok (.dup, 1) := by decide +kernel
theorem dX0_read_152 : decode cX0_read 152 = .ok (.getfield 15, 3) := by decide +kernel
theorem dX0_read_155 : decode cX0_read 155 = .ok (.iconst 1, 1) := by decide +kernel
theorem dX0_read_156 : decode cX0_read 156 = .ok (.iadd, 1) := by decide +kernel
theorem dX0_read_157 : decode cX0_read 157 = .ok (.putfield 15, 3) := by decide +kernel
theorem dX0_read_160 : decode cX0_read 160 = .ok (.aload_n 0, 1) := by decide +kernel
theorem dX0_read_161 : decode cX0_read 161 = .ok (.aload_n 0, 1) := by decide +kernel
theorem dX0_read_162 : decode cX0_read 162 = .ok (.bipush 29, 2) := by decide +kernel
theorem dX0_read_164 : decode cX0_read 164 = .ok (.invokevirtual 53, 3) := by decide +kernel
theorem dX0_read_167 : decode cX0_read 167 = .ok (.putfield 56, 3) := by decide +kernel
