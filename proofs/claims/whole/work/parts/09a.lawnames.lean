set_option maxRecDepth 20000 in
theorem ggL_set_X2_set : GoodIn wsL_set wsX2_set := goodIn_ca (goodIn_r _ [6, 7, 8, 9, 10, 11, 12, 5, 13, 14, 15, 16, 17, 18, 19, 20, 21, 22, 23, 24, 25, 26, 27, 28, 29, 30, 31, 32, 33, 34, 35, 36, 37, 38, 39, 40, 41, 42, 43, 44, 45, 46, 47, 48, 49, 50, 51, 52, 53, 54, 55, 56, 57, 58, 59, 60, 61, 62, 63, 64, 65, 66, 67, 68, 69] (by decide +kernel) (by decide +kernel)) (goodIn_sub (fun _ h => List.mem_cons_of_mem _ (List.mem_append_right _ h)) (by decide +kernel))
set_option maxRecDepth 20000 in
theorem gL_set_X2_set : GoodIn wsL_set (wsV RL 7 RX2 yX2_set wsX2_set) := goodIn_app (goodIn_of _ (by decide +kernel)) ggL_set_X2_set
theorem dL_set_0 : decode cL_set 0 = .ok (.aload_n 3, 1) := by decide +kernel
theorem dL_set_1 : decode cL_set 1 = .ok (.iconst 0, 1) := by decide +kernel
theorem dL_set_2 : decode cL_set 2 = .ok (.aload_n 0, 1) := by decide +kernel
theorem dL_set_3 : decode cL_set 3 = .ok (.iload_n 1, 1) := by decide +kernel
theorem dL_set_4 : decode cL_set 4 = .ok (.iload_n 2, 1) := by decide +kernel
theorem dL_set_5 : decode cL_set 5 = .ok (.invokevirtual 7, 3) := by decide +kernel
theorem dL_set_8 : decode cL_set 8 = .ok (.i2l, 1) := by decide +kernel
theorem dL_set_9 : decode cL_set 9 = .ok (.lastore, 1) := by decide +kernel
theorem dL_set_10 : decode cL_set 10 = .ok (.goto 7, 3) := by decide +kernel
theorem dL_set_13 : decode cL_set 13 = .ok (.astore 4, 2) := by decide +kernel
theorem dL_set_15 : decode cL_set 15 = .ok (.iconst 1, 1) := by decide +kernel
theorem dL_set_16 : decode cL_set 16 = .ok (.ireturn, 1) := by decide +kernel
theorem dL_set_17 : decode cL_set 17 = .ok (.iconst 0, 1) := by decide +kernel
theorem dL_set_18 : decode cL_set 18 = .ok (.ireturn, 1) := by decide +kernel
set_option maxRecDepth 20000 in
theorem ggL_addPerson_X2_addPerson : GoodIn wsL_addPerson wsX2_addPerson := goodIn_ca (goodIn_ca (goodIn_r _ [7, 8, 9, 10, 11, 12, 13, 14, 6, 15, 16, 17, 18, 19, 20, 21, 22, 23, 24, 25, 26, 27, 28, 29, 30, 31, 32, 33, 34, 35, 36, 37, 38, 39, 40, 41, 42, 43, 44, 45, 46, 47, 48, 49, 50, 51, 52, 53, 54, 55, 56, 57, 58, 59, 60, 61, 62, 63, 64, 65, 66, 67, 68, 69, 70, 71, 72, 73, 74, 75] (by decide +kernel) (by decide +kernel)) (goodIn_sub (fun _ h => List.mem_cons_of_mem _ (List.mem_append_left _ (List.mem_append_right _ h))) (by decide +kernel))) (goodIn_sub (fun _ h => List.mem_cons_of_mem _ (List.mem_append_right _ h)) (by decide +kernel))
set_option maxRecDepth 20000 in
theorem gL_addPerson_X2_addPerson : GoodIn wsL_addPerson (wsV RL 15 RX2 yX2_addPerson wsX2_addPerson) := goodIn_app (goodIn_of _ (by decide +kernel)) ggL_addPerson_X2_addPerson
theorem dL_addPerson_0 : decode cL_addPerson 0 = .ok (.aload_n 3, 1) := by decide +kernel
theorem dL_addPerson_1 : decode cL_addPerson 1 = .ok (.iconst 0, 1) := by decide +kernel
theorem dL_addPerson_2 : decode cL_addPerson 2 = .ok (.aload_n 0, 1) := by decide +kernel
theorem dL_addPerson_3 : decode cL_addPerson 3 = .ok (.lload_n 1, 1) := by decide +kernel
theorem dL_addPerson_4 : decode cL_addPerson 4 = .ok (.invokevirtual 15, 3) := by decide +kernel
theorem dL_addPerson_7 : decode cL_addPerson 7 = .ok (.i2l, 1) := by decide +kernel
theorem dL_addPerson_8 : decode cL_addPerson 8 = .ok (.lastore, 1) := by decide +kernel
theorem dL_addPerson_9 : decode cL_addPerson 9 = .ok (.goto 11, 3) := by decide +kernel
theorem dL_addPerson_12 : decode cL_addPerson 12 = .ok (.astore 4, 2) := by decide +kernel
theorem dL_addPerson_14 : decode cL_addPerson 14 = .ok (.iconst 1, 1) := by decide +kernel
theorem dL_addPerson_15 : decode cL_addPerson 15 = .ok (.ireturn, 1) := by decide +kernel
theorem dL_addPerson_16 : decode cL_addPerson 16 = .ok (.astore 4, 2) := by decide +kernel
theorem dL_addPerson_18 : decode cL_addPerson 18 = .ok (.iconst 2, 1) := by decide +kernel
theorem dL_addPerson_19 : decode cL_addPerson 19 = .ok (.ireturn, 1) := by decide +kernel
theorem dL_addPerson_20 : decode cL_addPerson 20 = .ok (.iconst 0, 1) := by decide +kernel
theorem dL_addPerson_21 : decode cL_addPerson 21 = .ok (.ireturn, 1) := by decide +kernel
set_option maxRecDepth 20000 in
theorem ggL_roster_X2_roster : GoodIn wsL_roster wsX2_roster := goodIn_ca (goodIn_ca (goodIn_ca (goodIn_r _ [8, 9, 10, 11, 12, 13, 7, 14, 15, 16, 17, 18, 19, 20, 21, 22, 23, 24, 25, 26, 27, 28, 29, 30, 31, 32, 33, 34, 35, 36, 37, 38, 39, 40, 41, 42, 43, 44, 45, 46, 47, 48, 49, 50, 51, 52, 53, 54, 55, 56, 57, 58, 59, 60, 61, 62, 63, 64, 65, 66, 67, 68, 69, 70, 71, 72, 73, 74, 75, 76, 77, 78, 79, 80, 81, 82, 83, 84, 85, 86, 87, 88, 89, 90, 91, 92, 93, 94, 95] (by decide +kernel) (by decide +kernel)) (goodIn_sub (fun _ h => List.mem_cons_of_mem _ (List.mem_append_left _ (List.mem_append_left _ (List.mem_append_right _ h)))) (by decide +kernel))) (goodIn_sub (fun _ h => List.mem_cons_of_mem _ (List.mem_append_left _ (List.mem_append_right _ h))) (by decide +kernel))) (goodIn_sub (fun _ h => List.mem_cons_of_mem _ (List.mem_append_right _ h)) (by decide +kernel))
set_option maxRecDepth 20000 in
theorem gL_roster_X2_roster : GoodIn wsL_roster (wsV RL 21 RX2 yX2_roster wsX2_roster) := goodIn_app (goodIn_of _ (by decide +kernel)) ggL_roster_X2_roster
theorem dL_roster_0 : decode cL_roster 0 = .ok (.aload 4, 2) := by decide +kernel
theorem dL_roster_2 : decode cL_roster 2 = .ok (.iconst 0, 1) := by decide +kernel
theorem dL_roster_3 : decode cL_roster 3 = .ok (.aload_n 0, 1) := by decide +kernel
theorem dL_roster_4 : decode cL_roster 4 = .ok (.iload_n 1, 1) := by decide +kernel
theorem dL_roster_5 : decode cL_roster 5 = .ok (.iload_n 2, 1) := by decide +kernel
theorem dL_roster_6 : decode cL_roster 6 = .ok (.iload_n 3, 1) := by decide +kernel
theorem dL_roster_7 : decode cL_roster 7 = .ok (.invokevirtual 21, 3) := by decide +kernel
theorem dL_roster_10 : decode cL_roster 10 = .ok (.i2l, 1) := by decide +kernel
theorem dL_roster_11 : decode cL_roster 11 = .ok (.lastore, 1) := by decide +kernel
theorem dL_roster_12 : decode cL_roster 12 = .ok (.goto 15, 3) := by decide +kernel
theorem dL_roster_15 : decode cL_roster 15 = .ok (.astore 5, 2) := by decide +kernel
theorem dL_roster_17 : decode cL_roster 17 = .ok (.iconst 1, 1) := by decide +kernel
theorem dL_roster_18 : decode cL_roster 18 = .ok (.ireturn, 1) := by decide +kernel
theorem dL_roster_19 : decode cL_roster 19 = .ok (.astore 5, 2) := by decide +kernel
theorem dL_roster_21 : decode cL_roster 21 = .ok (.iconst 2, 1) := by decide +kernel
theorem dL_roster_22 : decode cL_roster 22 = .ok (.ireturn, 1) := by decide +kernel
theorem dL_roster_23 : decode cL_roster 23 = .ok (.astore 5, 2) := by decide +kernel
theorem dL_roster_25 : decode cL_roster 25 = .ok (.iconst 3, 1) := by decide +kernel
theorem dL_roster_26 : decode cL_roster 26 = .ok (.ireturn, 1) := by decide +kernel
theorem dL_roster_27 : decode cL_roster 27 = .ok (.iconst 0, 1) := by decide +kernel
theorem dL_roster_28 : decode cL_roster 28 = .ok (.ireturn, 1) := by decide +kernel
set_option maxRecDepth 20000 in
theorem ggL_absent_X2_absent : GoodIn wsL_absent wsX2_absent := goodIn_ca (goodIn_ca (goodIn_ca (goodIn_r _ [8, 9, 10, 11, 12, 7, 13, 14, 15, 16, 17, 18, 19, 20, 21, 22, 23, 24, 25, 26, 27, 28, 29, 30, 31, 32, 33, 34, 35, 36, 37, 38, 39, 40, 41, 42, 43, 44, 45, 46, 47, 48, 49, 50, 51, 52, 53, 54, 55, 56, 57, 58, 59, 60, 61, 62, 63, 64, 65, 66, 67, 68, 69, 70, 71, 72, 73, 74, 75, 76, 77, 78, 79, 80, 81, 82, 83, 84, 85, 86, 87, 88, 89, 90, 91, 92, 93, 94, 95, 96, 97, 98] (by decide +kernel) (by decide +kernel)) (goodIn_sub (fun _ h => List.mem_cons_of_mem _ (List.mem_append_left _ (List.mem_append_left _ (List.mem_append_right _ h)))) (by decide +kernel))) (goodIn_sub (fun _ h => List.mem_cons_of_mem _ (List.mem_append_left _ (List.mem_append_right _ h))) (by decide +kernel))) (goodIn_sub (fun _ h => List.mem_cons_of_mem _ (List.mem_append_right _ h)) (by decide +kernel))
set_option maxRecDepth 20000 in
theorem gL_absent_X2_absent : GoodIn wsL_absent (wsV RL 27 RX2 yX2_absent wsX2_absent) := goodIn_app (goodIn_of _ (by decide +kernel)) ggL_absent_X2_absent
theorem dL_absent_0 : decode cL_absent 0 = .ok (.aload_n 3, 1) := by decide +kernel
theorem dL_absent_1 : decode cL_absent 1 = .ok (.iconst 0, 1) := by decide +kernel
theorem dL_absent_2 : decode cL_absent 2 = .ok (.aload_n 0, 1) := by decide +kernel
theorem dL_absent_3 : decode cL_absent 3 = .ok (.iload_n 1, 1) := by decide +kernel
theorem dL_absent_4 : decode cL_absent 4 = .ok (.iload_n 2, 1) := by decide +kernel
theorem dL_absent_5 : decode cL_absent 5 = .ok (.invokevirtual 27, 3) := by decide +kernel
theorem dL_absent_8 : decode cL_absent 8 = .ok (.i2l, 1) := by decide +kernel
theorem dL_absent_9 : decode cL_absent 9 = .ok (.lastore, 1) := by decide +kernel
theorem dL_absent_10 : decode cL_absent 10 = .ok (.goto 15, 3) := by decide +kernel
theorem dL_absent_13 : decode cL_absent 13 = .ok (.astore 4, 2) := by decide +kernel
theorem dL_absent_15 : decode cL_absent 15 = .ok (.iconst 1, 1) := by decide +kernel
theorem dL_absent_16 : decode cL_absent 16 = .ok (.ireturn, 1) := by decide +kernel
theorem dL_absent_17 : decode cL_absent 17 = .ok (.astore 4, 2) := by decide +kernel
theorem dL_absent_19 : decode cL_absent 19 = .ok (.iconst 2, 1) := by decide +kernel
theorem dL_absent_20 : decode cL_absent 20 = .ok (.ireturn, 1) := by decide +kernel
theorem dL_absent_21 : decode cL_absent 21 = .ok (.astore 4, 2) := by decide +kernel
theorem dL_absent_23 : decode cL_absent 23 = .ok (.iconst 3, 1) := by decide +kernel
theorem dL_absent_24 : decode cL_absent 24 = .ok (.ireturn, 1) := by decide +kernel
theorem dL_absent_25 : decode cL_absent 25 = .ok (.iconst 0, 1) := by decide +kernel
theorem dL_absent_26 : decode cL_absent 26 = .ok (.ireturn, 1) := by decide +kernel
set_option maxRecDepth 20000 in
theorem ggL_bid_X2_bid : GoodIn wsL_bid wsX2_bid := goodIn_ca (goodIn_ca (goodIn_ca (goodIn_r _ [8, 9, 10, 11, 12, 13, 14, 7, 15, 16, 17, 18, 19, 20, 21, 22, 23, 24, 25, 26, 27, 28, 29, 30, 31, 32, 33, 34, 35, 36, 37, 38, 39, 40, 41, 42, 43, 44, 45, 46, 47, 48, 49, 50, 51, 52, 53, 54, 55, 56, 57, 58, 59, 60, 61, 62, 63, 64, 65, 66, 67, 68, 69, 70, 71, 72, 73, 74, 75, 76, 77, 78, 79, 80, 81, 82, 83, 84, 85, 86, 87, 88, 89, 90, 91, 92, 93, 94, 95, 96, 97, 98, 99, 100, 101, 102, 103, 104] (by decide +kernel) (by decide +kernel)) (goodIn_sub (fun _ h => List.mem_cons_of_mem _ (List.mem_append_left _ (List.mem_append_left _ (List.mem_append_right _ h)))) (by decide +kernel))) (goodIn_sub (fun _ h => List.mem_cons_of_mem _ (List.mem_append_left _ (List.mem_append_right _ h))) (by decide +kernel))) (goodIn_sub (fun _ h => List.mem_cons_of_mem _ (List.mem_append_right _ h)) (by decide +kernel))
set_option maxRecDepth 20000 in
theorem gL_bid_X2_bid : GoodIn wsL_bid (wsV RL 30 RX2 yX2_bid wsX2_bid) := goodIn_app (goodIn_of _ (by decide +kernel)) ggL_bid_X2_bid
theorem dL_bid_0 : decode cL_bid 0 = .ok (.aload 4, 2) := by decide +kernel
theorem dL_bid_2 : decode cL_bid 2 = .ok (.iconst 0, 1) := by decide +kernel
theorem dL_bid_3 : decode cL_bid 3 = .ok (.aload_n 0, 1) := by decide +kernel
theorem dL_bid_4 : decode cL_bid 4 = .ok (.iload_n 1, 1) := by decide +kernel
theorem dL_bid_5 : decode cL_bid 5 = .ok (.iload_n 2, 1) := by decide +kernel
theorem dL_bid_6 : decode cL_bid 6 = .ok (.iload_n 3, 1) := by decide +kernel
theorem dL_bid_7 : decode cL_bid 7 = .ok (.invokevirtual 30, 3) := by decide +kernel
theorem dL_bid_10 : decode cL_bid 10 = .ok (.i2l, 1) := by decide +kernel
theorem dL_bid_11 : decode cL_bid 11 = .ok (.lastore, 1) := by decide +kernel
theorem dL_bid_12 : decode cL_bid 12 = .ok (.goto 15, 3) := by decide +kernel
theorem dL_bid_15 : decode cL_bid 15 = .ok (.astore 5, 2) := by decide +kernel
theorem dL_bid_17 : decode cL_bid 17 = .ok (.iconst 1, 1) := by decide +kernel
theorem dL_bid_18 : decode cL_bid 18 = .ok (.ireturn, 1) := by decide +kernel
theorem dL_bid_19 : decode cL_bid 19 = .ok (.astore 5, 2) := by decide +kernel
theorem dL_bid_21 : decode cL_bid 21 = .ok (.iconst 2, 1) := by decide +kernel
theorem dL_bid_22 : decode cL_bid 22 = .ok (.ireturn, 1) := by decide +kernel
theorem dL_bid_23 : decode cL_bid 23 = .ok (.astore 5, 2) := by decide +kernel
theorem dL_bid_25 : decode cL_bid 25 = .ok (.iconst 3, 1) := by decide +kernel
theorem dL_bid_26 : decode cL_bid 26 = .ok (.ireturn, 1) := by decide +kernel
theorem dL_bid_27 : decode cL_bid 27 = .ok (.iconst 0, 1) := by decide +kernel
theorem dL_bid_28 : decode cL_bid 28 = .ok (.ireturn, 1) := by decide +kernel
set_option maxRecDepth 20000 in
theorem ggL_takeBack_X2_takeBack : GoodIn wsL_takeBack wsX2_takeBack := goodIn_ca (goodIn_ca (goodIn_r _ [7, 8, 9, 10, 11, 12, 6, 13, 14, 15, 16, 17, 18, 19, 20, 21, 22, 23, 24, 25, 26, 27, 28, 29, 30, 31, 32, 33, 34, 35, 36, 37, 38, 39, 40, 41, 42, 43, 44, 45, 46, 47, 48, 49, 50, 51, 52, 53, 54, 55, 56, 57, 58, 59, 60, 61, 62, 63, 64, 65, 66, 67, 68, 69, 70, 71, 72, 73, 74, 75, 76, 77, 78, 79, 80, 81, 82, 83, 84, 85, 86, 87, 88, 89] (by decide +kernel) (by decide +kernel)) (goodIn_sub (fun _ h => List.mem_cons_of_mem _ (List.mem_append_left _ (List.mem_append_right _ h))) (by decide +kernel))) (goodIn_sub (fun _ h => List.mem_cons_of_mem _ (List.mem_append_right _ h)) (by decide +kernel))
set_option maxRecDepth 20000 in
theorem gL_takeBack_X2_takeBack : GoodIn wsL_takeBack (wsV RL 34 RX2 yX2_takeBack wsX2_takeBack) := goodIn_app (goodIn_of _ (by decide +kernel)) ggL_takeBack_X2_takeBack
theorem dL_takeBack_0 : decode cL_takeBack 0 = .ok (.aload_n 3, 1) := by decide +kernel
theorem dL_takeBack_1 : decode cL_takeBack 1 = .ok (.iconst 0, 1) := by decide +kernel
theorem dL_takeBack_2 : decode cL_takeBack 2 = .ok (.aload_n 0, 1) := by decide +kernel
theorem dL_takeBack_3 : decode cL_takeBack 3 = .ok (.iload_n 1, 1) := by decide +kernel
theorem dL_takeBack_4 : decode cL_takeBack 4 = .ok (.iload_n 2, 1) := by decide +kernel
theorem dL_takeBack_5 : decode cL_takeBack 5 = .ok (.invokevirtual 34, 3) := by decide +kernel
theorem dL_takeBack_8 : decode cL_takeBack 8 = .ok (.i2l, 1) := by decide +kernel
theorem dL_takeBack_9 : decode cL_takeBack 9 = .ok (.lastore, 1) := by decide +kernel
theorem dL_takeBack_10 : decode cL_takeBack 10 = .ok (.goto 11, 3) := by decide +kernel
theorem dL_takeBack_13 : decode cL_takeBack 13 = .ok (.astore 4, 2) := by decide +kernel
theorem dL_takeBack_15 : decode cL_takeBack 15 = .ok (.iconst 1, 1) := by decide +kernel
theorem dL_takeBack_16 : decode cL_takeBack 16 = .ok (.ireturn, 1) := by decide +kernel
theorem dL_takeBack_17 : decode cL_takeBack 17 = .ok (.astore 4, 2) := by decide +kernel
theorem dL_takeBack_19 : decode cL_takeBack 19 = .ok (.iconst 2, 1) := by decide +kernel
theorem dL_takeBack_20 : decode cL_takeBack 20 = .ok (.ireturn, 1) := by decide +kernel
theorem dL_takeBack_21 : decode cL_takeBack 21 = .ok (.iconst 0, 1) := by decide +kernel
theorem dL_takeBack_22 : decode cL_takeBack 22 = .ok (.ireturn, 1) := by decide +kernel
set_option maxRecDepth 20000 in
theorem ggL_cover_X2_cover : GoodIn wsL_cover wsX2_cover := goodIn_ca (goodIn_ca (goodIn_r _ [7, 8, 9, 10, 11, 12, 6, 13, 14, 15, 16, 17, 18, 19, 20, 21, 22, 23, 24, 25, 26, 27, 28, 29, 30, 31, 32, 33, 34, 35, 36, 37, 38, 39, 40, 41, 42, 43, 44, 45, 46, 47, 48, 49, 50, 51, 52, 53, 54, 55, 56, 57, 58, 59, 60, 61, 62, 63, 64, 65, 66, 67, 68, 69, 70, 71, 72, 73, 74, 75, 76, 77, 78, 79, 80, 81, 82, 83, 84, 85, 86, 87, 88, 89, 90, 91, 92, 93, 94, 95, 96, 97, 98, 99, 100, 101, 102, 103, 104, 105, 106, 107, 108, 109, 110, 111, 112, 113, 114, 115, 116, 117] (by decide +kernel) (by decide +kernel)) (goodIn_sub (fun _ h => List.mem_cons_of_mem _ (List.mem_append_left _ (List.mem_append_right _ h))) (by decide +kernel))) (goodIn_sub (fun _ h => List.mem_cons_of_mem _ (List.mem_append_right _ h)) (by decide +kernel))
set_option maxRecDepth 20000 in
theorem gL_cover_X2_cover : GoodIn wsL_cover (wsV RL 37 RX2 yX2_cover wsX2_cover) := goodIn_app (goodIn_of _ (by decide +kernel)) ggL_cover_X2_cover
theorem dL_cover_0 : decode cL_cover 0 = .ok (.aload_n 2, 1) := by decide +kernel
theorem dL_cover_1 : decode cL_cover 1 = .ok (.iconst 0, 1) := by decide +kernel
theorem dL_cover_2 : decode cL_cover 2 = .ok (.aload_n 0, 1) := by decide +kernel
theorem dL_cover_3 : decode cL_cover 3 = .ok (.iload_n 1, 1) := by decide +kernel
theorem dL_cover_4 : decode cL_cover 4 = .ok (.invokevirtual 37, 3) := by decide +kernel
theorem dL_cover_7 : decode cL_cover 7 = .ok (.i2l, 1) := by decide +kernel
theorem dL_cover_8 : decode cL_cover 8 = .ok (.lastore, 1) := by decide +kernel
theorem dL_cover_9 : decode cL_cover 9 = .ok (.goto 9, 3) := by decide +kernel
theorem dL_cover_12 : decode cL_cover 12 = .ok (.astore_n 3, 1) := by decide +kernel
theorem dL_cover_13 : decode cL_cover 13 = .ok (.iconst 1, 1) := by decide +kernel
theorem dL_cover_14 : decode cL_cover 14 = .ok (.ireturn, 1) := by decide +kernel
theorem dL_cover_15 : decode cL_cover 15 = .ok (.astore_n 3, 1) := by decide +kernel
theorem dL_cover_16 : decode cL_cover 16 = .ok (.iconst 2, 1) := by decide +kernel
theorem dL_cover_17 : decode cL_cover 17 = .ok (.ireturn, 1) := by decide +kernel
theorem dL_cover_18 : decode cL_cover 18 = .ok (.iconst 0, 1) := by decide +kernel
theorem dL_cover_19 : decode cL_cover 19 = .ok (.ireturn, 1) := by decide +kernel
set_option maxRecDepth 20000 in
theorem ggL_handOver_X2_handOver : GoodIn wsL_handOver wsX2_handOver := goodIn_ca (goodIn_ca (goodIn_r _ [7, 8, 9, 10, 11, 12, 6, 13, 14, 15, 16, 17, 18, 19, 20, 21, 22, 23, 24, 25, 26, 27, 28, 29, 30, 31, 32, 33, 34, 35, 36, 37, 38, 39, 40, 41, 42, 43, 44, 45, 46, 47, 48, 49, 50, 51, 52, 53, 54, 55, 56, 57, 58, 59, 60, 61, 62, 63, 64, 65, 66, 67, 68, 69, 70, 71, 72, 73, 74, 75, 76, 77, 78, 79, 80, 81, 82, 83, 84, 85, 86, 87, 88, 89, 90, 91, 92, 93, 94, 95, 96, 97, 98, 99, 100, 101, 102, 103, 104, 105, 106, 107, 108, 109, 110, 111] (by decide +kernel) (by decide +kernel)) (goodIn_sub (fun _ h => List.mem_cons_of_mem _ (List.mem_append_left _ (List.mem_append_right _ h))) (by decide +kernel))) (goodIn_sub (fun _ h => List.mem_cons_of_mem _ (List.mem_append_right _ h)) (by decide +kernel))
set_option maxRecDepth 20000 in
theorem gL_handOver_X2_handOver : GoodIn wsL_handOver (wsV RL 41 RX2 yX2_handOver wsX2_handOver) := goodIn_app (goodIn_of _ (by decide +kernel)) ggL_handOver_X2_handOver
theorem dL_handOver_0 : decode cL_handOver 0 = .ok (.aload_n 3, 1) := by decide +kernel
theorem dL_handOver_1 : decode cL_handOver 1 = .ok (.iconst 0, 1) := by decide +kernel
theorem dL_handOver_2 : decode cL_handOver 2 = .ok (.aload_n 0, 1) := by decide +kernel
theorem dL_handOver_3 : decode cL_handOver 3 = .ok (.iload_n 1, 1) := by decide +kernel
theorem dL_handOver_4 : decode cL_handOver 4 = .ok (.iload_n 2, 1) := by decide +kernel
theorem dL_handOver_5 : decode cL_handOver 5 = .ok (.invokevirtual 41, 3) := by decide +kernel
theorem dL_handOver_8 : decode cL_handOver 8 = .ok (.i2l, 1) := by decide +kernel
theorem dL_handOver_9 : decode cL_handOver 9 = .ok (.lastore, 1) := by decide +kernel
theorem dL_handOver_10 : decode cL_handOver 10 = .ok (.goto 11, 3) := by decide +kernel
theorem dL_handOver_13 : decode cL_handOver 13 = .ok (.astore 4, 2) := by decide +kernel
theorem dL_handOver_15 : decode cL_handOver 15 = .ok (.iconst 1, 1) := by decide +kernel
theorem dL_handOver_16 : decode cL_handOver 16 = .ok (.ireturn, 1) := by decide +kernel
theorem dL_handOver_17 : decode cL_handOver 17 = .ok (.astore 4, 2) := by decide +kernel
theorem dL_handOver_19 : decode cL_handOver 19 = .ok (.iconst 2, 1) := by decide +kernel
theorem dL_handOver_20 : decode cL_handOver 20 = .ok (.ireturn, 1) := by decide +kernel
theorem dL_handOver_21 : decode cL_handOver 21 = .ok (.iconst 0, 1) := by decide +kernel
theorem dL_handOver_22 : decode cL_handOver 22 = .ok (.ireturn, 1) := by decide +kernel
set_option maxRecDepth 20000 in
theorem ggL_giveUp_X2_giveUp : GoodIn wsL_giveUp wsX2_giveUp := goodIn_ca (goodIn_ca (goodIn_r _ [7, 8, 9, 10, 11, 12, 6, 13, 14, 15, 16, 17, 18, 19, 20, 21, 22, 23, 24, 25, 26, 27, 28, 29, 30, 31, 32, 33, 34, 35, 36, 37, 38, 39, 40, 41, 42, 43, 44, 45, 46, 47, 48, 49, 50, 51, 52, 53, 54, 55, 56, 57, 58, 59, 60, 61, 62, 63, 64, 65, 66, 67, 68, 69, 70, 71, 72, 73, 74, 75, 76, 77, 78, 79, 80, 81, 82, 83, 84, 85, 86, 87, 88] (by decide +kernel) (by decide +kernel)) (goodIn_sub (fun _ h => List.mem_cons_of_mem _ (List.mem_append_left _ (List.mem_append_right _ h))) (by decide +kernel))) (goodIn_sub (fun _ h => List.mem_cons_of_mem _ (List.mem_append_right _ h)) (by decide +kernel))
set_option maxRecDepth 20000 in
theorem gL_giveUp_X2_giveUp : GoodIn wsL_giveUp (wsV RL 44 RX2 yX2_giveUp wsX2_giveUp) := goodIn_app (goodIn_of _ (by decide +kernel)) ggL_giveUp_X2_giveUp
theorem dL_giveUp_0 : decode cL_giveUp 0 = .ok (.aload_n 2, 1) := by decide +kernel
theorem dL_giveUp_1 : decode cL_giveUp 1 = .ok (.iconst 0, 1) := by decide +kernel
theorem dL_giveUp_2 : decode cL_giveUp 2 = .ok (.aload_n 0, 1) := by decide +kernel
theorem dL_giveUp_3 : decode cL_giveUp 3 = .ok (.iload_n 1, 1) := by decide +kernel
theorem dL_giveUp_4 : decode cL_giveUp 4 = .ok (.invokevirtual 44, 3) := by decide +kernel
theorem dL_giveUp_7 : decode cL_giveUp 7 = .ok (.i2l, 1) := by decide +kernel
theorem dL_giveUp_8 : decode cL_giveUp 8 = .ok (.lastore, 1) := by decide +kernel
theorem dL_giveUp_9 : decode cL_giveUp 9 = .ok (.goto 9, 3) := by decide +kernel
theorem dL_giveUp_12 : decode cL_giveUp 12 = .ok (.astore_n 3, 1) := by decide +kernel
theorem dL_giveUp_13 : decode cL_giveUp 13 = .ok (.iconst 1, 1) := by decide +kernel
theorem dL_giveUp_14 : decode cL_giveUp 14 = .ok (.ireturn, 1) := by decide +kernel
theorem dL_giveUp_15 : decode cL_giveUp 15 = .ok (.astore_n 3, 1) := by decide +kernel
theorem dL_giveUp_16 : decode cL_giveUp 16 = .ok (.iconst 2, 1) := by decide +kernel
theorem dL_giveUp_17 : decode cL_giveUp 17 = .ok (.ireturn, 1) := by decide +kernel
theorem dL_giveUp_18 : decode cL_giveUp 18 = .ok (.iconst 0, 1) := by decide +kernel
theorem dL_giveUp_19 : decode cL_giveUp 19 = .ok (.ireturn, 1) := by decide +kernel
set_option maxRecDepth 20000 in
theorem ggL_person_X2_person : GoodIn wsL_person wsX2_person := goodIn_ca (goodIn_ca (goodIn_r _ [7, 8, 9, 10, 11, 6, 12, 13, 14, 15, 16, 17, 18, 19, 20, 21, 22, 23, 24, 25, 26, 27, 28, 29, 30, 31, 32, 33, 34, 35, 36, 37, 38, 39, 40, 41, 42, 43, 44, 45, 46, 47, 48, 49, 50, 51, 52, 53, 54, 55, 56, 57, 58, 59, 60, 61, 62, 63, 64, 65, 66, 67, 68, 69, 70, 71, 72, 73, 74] (by decide +kernel) (by decide +kernel)) (goodIn_sub (fun _ h => List.mem_cons_of_mem _ (List.mem_append_left _ (List.mem_append_right _ h))) (by decide +kernel))) (goodIn_sub (fun _ h => List.mem_cons_of_mem _ (List.mem_append_right _ h)) (by decide +kernel))
set_option maxRecDepth 20000 in
theorem gL_person_X2_person : GoodIn wsL_person (wsV RL 47 RX2 yX2_person wsX2_person) := goodIn_app (goodIn_of _ (by decide +kernel)) ggL_person_X2_person
theorem dL_person_0 : decode cL_person 0 = .ok (.aload_n 3, 1) := by decide +kernel
theorem dL_person_1 : decode cL_person 1 = .ok (.iconst 0, 1) := by decide +kernel
theorem dL_person_2 : decode cL_person 2 = .ok (.aload_n 0, 1) := by decide +kernel
theorem dL_person_3 : decode cL_person 3 = .ok (.iload_n 1, 1) := by decide +kernel
theorem dL_person_4 : decode cL_person 4 = .ok (.iload_n 2, 1) := by decide +kernel
theorem dL_person_5 : decode cL_person 5 = .ok (.invokevirtual 47, 3) := by decide +kernel
theorem dL_person_8 : decode cL_person 8 = .ok (.i2l, 1) := by decide +kernel
theorem dL_person_9 : decode cL_person 9 = .ok (.lastore, 1) := by decide +kernel
theorem dL_person_10 : decode cL_person 10 = .ok (.goto 11, 3) := by decide +kernel
theorem dL_person_13 : decode cL_person 13 = .ok (.astore 4, 2) := by decide +kernel
theorem dL_person_15 : decode cL_person 15 = .ok (.iconst 1, 1) := by decide +kernel
theorem dL_person_16 : decode cL_person 16 = .ok (.ireturn, 1) := by decide +kernel
theorem dL_person_17 : decode cL_person 17 = .ok (.astore 4, 2) := by decide +kernel
theorem dL_person_19 : decode cL_person 19 = .ok (.iconst 2, 1) := by decide +kernel
theorem dL_person_20 : decode cL_person 20 = .ok (.ireturn, 1) := by decide +kernel
theorem dL_person_21 : decode cL_person 21 = .ok (.iconst 0, 1) := by decide +kernel
theorem dL_person_22 : decode cL_person 22 = .ok (.ireturn, 1) := by decide +kernel
set_option maxRecDepth 20000 in
theorem ggL_work_X2_work : GoodIn wsL_work wsX2_work := goodIn_ca (goodIn_r _ [6, 7, 8, 9, 10, 5, 11, 12, 13, 14, 15, 16, 17, 18, 19, 20, 21, 22, 23, 24, 25, 26, 27, 28, 29, 30, 31, 32, 33, 34, 35, 36, 37, 38, 39, 40, 41, 42, 43, 44, 45, 46, 47] (by decide +kernel) (by decide +kernel)) (goodIn_sub (fun _ h => List.mem_cons_of_mem _ (List.mem_append_right _ h)) (by decide +kernel))
set_option maxRecDepth 20000 in
theorem gL_work_X2_work : GoodIn wsL_work (wsV RL 50 RX2 yX2_work wsX2_work) := goodIn_app (goodIn_of _ (by decide +kernel)) ggL_work_X2_work
theorem dL_work_0 : decode cL_work 0 = .ok (.aload_n 2, 1) := by decide +kernel
theorem dL_work_1 : decode cL_work 1 = .ok (.iconst 0, 1) := by decide +kernel
theorem dL_work_2 : decode cL_work 2 = .ok (.aload_n 0, 1) := by decide +kernel
theorem dL_work_3 : decode cL_work 3 = .ok (.iload_n 1, 1) := by decide +kernel
theorem dL_work_4 : decode cL_work 4 = .ok (.invokevirtual 50, 3) := by decide +kernel
theorem dL_work_7 : decode cL_work 7 = .ok (.lastore, 1) := by decide +kernel
theorem dL_work_8 : decode cL_work 8 = .ok (.goto 6, 3) := by decide +kernel
theorem dL_work_11 : decode cL_work 11 = .ok (.astore_n 3, 1) := by decide +kernel
theorem dL_work_12 : decode cL_work 12 = .ok (.iconst 1, 1) := by decide +kernel
theorem dL_work_13 : decode cL_work 13 = .ok (.ireturn, 1) := by decide +kernel
theorem dL_work_14 : decode cL_work 14 = .ok (.iconst 0, 1) := by decide +kernel
theorem dL_work_15 : decode cL_work 15 = .ok (.ireturn, 1) := by decide +kernel
set_option maxRecDepth 20000 in
theorem ggL_absence_X2_absence : GoodIn wsL_absence wsX2_absence := goodIn_ca (goodIn_ca (goodIn_r _ [7, 8, 9, 10, 11, 6, 12, 13, 14, 15, 16, 17, 18, 19, 20, 21, 22, 23, 24, 25, 26, 27, 28, 29, 30, 31, 32, 33, 34, 35, 36, 37, 38, 39, 40, 41, 42, 43, 44, 45, 46, 47, 48, 49, 50, 51, 52, 53, 54, 55, 56, 57, 58, 59, 60, 61, 62, 63, 64, 65, 66, 67, 68, 69, 70, 71, 72, 73, 74, 75, 76, 77, 78, 79, 80, 81, 82, 83, 84, 85, 86, 87] (by decide +kernel) (by decide +kernel)) (goodIn_sub (fun _ h => List.mem_cons_of_mem _ (List.mem_append_left _ (List.mem_append_right _ h))) (by decide +kernel))) (goodIn_sub (fun _ h => List.mem_cons_of_mem _ (List.mem_append_right _ h)) (by decide +kernel))
set_option maxRecDepth 20000 in
theorem gL_absence_X2_absence : GoodIn wsL_absence (wsV RL 54 RX2 yX2_absence wsX2_absence) := goodIn_app (goodIn_of _ (by decide +kernel)) ggL_absence_X2_absence
theorem dL_absence_0 : decode cL_absence 0 = .ok (.aload_n 3, 1) := by decide +kernel
theorem dL_absence_1 : decode cL_absence 1 = .ok (.iconst 0, 1) := by decide +kernel
theorem dL_absence_2 : decode cL_absence 2 = .ok (.aload_n 0, 1) := by decide +kernel
theorem dL_absence_3 : decode cL_absence 3 = .ok (.iload_n 1, 1) := by decide +kernel
theorem dL_absence_4 : decode cL_absence 4 = .ok (.iload_n 2, 1) := by decide +kernel
theorem dL_absence_5 : decode cL_absence 5 = .ok (.invokevirtual 54, 3) := by decide +kernel
theorem dL_absence_8 : decode cL_absence 8 = .ok (.i2l, 1) := by decide +kernel
theorem dL_absence_9 : decode cL_absence 9 = .ok (.lastore, 1) := by decide +kernel
theorem dL_absence_10 : decode cL_absence 10 = .ok (.goto 11, 3) := by decide +kernel
theorem dL_absence_13 : decode cL_absence 13 = .ok (.astore 4, 2) := by decide +kernel
theorem dL_absence_15 : decode cL_absence 15 = .ok (.iconst 1, 1) := by decide +kernel
theorem dL_absence_16 : decode cL_absence 16 = .ok (.ireturn, 1) := by decide +kernel
theorem dL_absence_17 : decode cL_absence 17 = .ok (.astore 4, 2) := by decide +kernel
theorem dL_absence_19 : decode cL_absence 19 = .ok (.iconst 2, 1) := by decide +kernel
theorem dL_absence_20 : decode cL_absence 20 = .ok (.ireturn, 1) := by decide +kernel
theorem dL_absence_21 : decode cL_absence 21 = .ok (.iconst 0, 1) := by decide +kernel
theorem dL_absence_22 : decode cL_absence 22 = .ok (.ireturn, 1) := by decide +kernel
set_option maxRecDepth 20000 in
theorem ggL_bidOf_X2_bidOf : GoodIn wsL_bidOf wsX2_bidOf := goodIn_ca (goodIn_r _ [6, 7, 8, 9, 10, 11, 5, 12, 13, 14, 15, 16, 17, 18, 19, 20, 21, 22, 23, 24, 25, 26, 27, 28, 29, 30, 31, 32, 33, 34, 35, 36, 37, 38, 39, 40, 41, 42, 43, 44, 45, 46, 47, 48, 49, 50, 51, 52] (by decide +kernel) (by decide +kernel)) (goodIn_sub (fun _ h => List.mem_cons_of_mem _ (List.mem_append_right _ h)) (by decide +kernel))
set_option maxRecDepth 20000 in
theorem gL_bidOf_X2_bidOf : GoodIn wsL_bidOf (wsV RL 57 RX2 yX2_bidOf wsX2_bidOf) := goodIn_app (goodIn_of _ (by decide +kernel)) ggL_bidOf_X2_bidOf
theorem dL_bidOf_0 : decode cL_bidOf 0 = .ok (.aload_n 3, 1) := by decide +kernel
theorem dL_bidOf_1 : decode cL_bidOf 1 = .ok (.iconst 0, 1) := by decide +kernel
theorem dL_bidOf_2 : decode cL_bidOf 2 = .ok (.aload_n 0, 1) := by decide +kernel
theorem dL_bidOf_3 : decode cL_bidOf 3 = .ok (.iload_n 1, 1) := by decide +kernel
theorem dL_bidOf_4 : decode cL_bidOf 4 = .ok (.iload_n 2, 1) := by decide +kernel
theorem dL_bidOf_5 : decode cL_bidOf 5 = .ok (.invokevirtual 57, 3) := by decide +kernel
theorem dL_bidOf_8 : decode cL_bidOf 8 = .ok (.i2l, 1) := by decide +kernel
theorem dL_bidOf_9 : decode cL_bidOf 9 = .ok (.lastore, 1) := by decide +kernel
theorem dL_bidOf_10 : decode cL_bidOf 10 = .ok (.goto 7, 3) := by decide +kernel
theorem dL_bidOf_13 : decode cL_bidOf 13 = .ok (.astore 4, 2) := by decide +kernel
theorem dL_bidOf_15 : decode cL_bidOf 15 = .ok (.iconst 1, 1) := by decide +kernel
theorem dL_bidOf_16 : decode cL_bidOf 16 = .ok (.ireturn, 1) := by decide +kernel
theorem dL_bidOf_17 : decode cL_bidOf 17 = .ok (.iconst 0, 1) := by decide +kernel
theorem dL_bidOf_18 : decode cL_bidOf 18 = .ok (.ireturn, 1) := by decide +kernel
set_option maxRecDepth 20000 in
theorem ggL_why_X2_why : GoodIn wsL_why wsX2_why := goodIn_ca (goodIn_r _ [6, 7, 8, 9, 10, 5, 11, 12, 13, 14, 15, 16, 17, 18, 19, 20, 21, 22, 23, 24, 25, 26, 27, 28, 29, 30, 31, 32, 33, 34, 35, 36, 37, 38, 39, 40, 41, 42, 43, 44, 45, 46, 47, 48, 49, 50, 51, 52, 53, 54, 55, 56, 57, 58, 59, 60, 61, 62, 63, 64, 65, 66, 67, 68, 69, 70, 71] (by decide +kernel) (by decide +kernel)) (goodIn_sub (fun _ h => List.mem_cons_of_mem _ (List.mem_append_right _ h)) (by decide +kernel))
set_option maxRecDepth 20000 in
theorem gL_why_X2_why : GoodIn wsL_why (wsV RL 60 RX2 yX2_why wsX2_why) := goodIn_app (goodIn_of _ (by decide +kernel)) ggL_why_X2_why
theorem dL_why_0 : decode cL_why 0 = .ok (.aload_n 3, 1) := by decide +kernel
theorem dL_why_1 : decode cL_why 1 = .ok (.iconst 0, 1) := by decide +kernel
theorem dL_why_2 : decode cL_why 2 = .ok (.aload_n 0, 1) := by decide +kernel
theorem dL_why_3 : decode cL_why 3 = .ok (.iload_n 1, 1) := by decide +kernel
theorem dL_why_4 : decode cL_why 4 = .ok (.iload_n 2, 1) := by decide +kernel
theorem dL_why_5 : decode cL_why 5 = .ok (.invokevirtual 60, 3) := by decide +kernel
theorem dL_why_8 : decode cL_why 8 = .ok (.i2l, 1) := by decide +kernel
theorem dL_why_9 : decode cL_why 9 = .ok (.lastore, 1) := by decide +kernel
theorem dL_why_10 : decode cL_why 10 = .ok (.goto 7, 3) := by decide +kernel
theorem dL_why_13 : decode cL_why 13 = .ok (.astore 4, 2) := by decide +kernel
theorem dL_why_15 : decode cL_why 15 = .ok (.iconst 1, 1) := by decide +kernel
theorem dL_why_16 : decode cL_why 16 = .ok (.ireturn, 1) := by decide +kernel
theorem dL_why_17 : decode cL_why 17 = .ok (.iconst 0, 1) := by decide +kernel
theorem dL_why_18 : decode cL_why 18 = .ok (.ireturn, 1) := by decide +kernel
set_option maxRecDepth 20000 in
theorem ggL_value_X2_value : GoodIn wsL_value wsX2_value := goodIn_ca (goodIn_r _ [6, 7, 8, 9, 5, 10, 11, 12, 13, 14, 15, 16, 17, 18, 19, 20, 21, 22, 23, 24, 25, 26, 27, 28, 29, 30, 31, 32, 33, 34, 35, 36, 37, 38, 39, 40, 41, 42, 43, 44, 45, 46, 47, 48, 49, 50, 51, 52, 53, 54, 55, 56, 57, 58, 59, 60, 61, 62, 63, 64, 65, 66, 67, 68, 69, 70, 71, 72, 73, 74, 75, 76, 77] (by decide +kernel) (by decide +kernel)) (goodIn_sub (fun _ h => List.mem_cons_of_mem _ (List.mem_append_right _ h)) (by decide +kernel))
set_option maxRecDepth 20000 in
theorem gL_value_X2_value : GoodIn wsL_value (wsV RL 63 RX2 yX2_value wsX2_value) := goodIn_app (goodIn_of _ (by decide +kernel)) ggL_value_X2_value
theorem dL_value_0 : decode cL_value 0 = .ok (.aload_n 2, 1) := by decide +kernel
theorem dL_value_1 : decode cL_value 1 = .ok (.iconst 0, 1) := by decide +kernel
theorem dL_value_2 : decode cL_value 2 = .ok (.aload_n 0, 1) := by decide +kernel
theorem dL_value_3 : decode cL_value 3 = .ok (.iload_n 1, 1) := by decide +kernel
theorem dL_value_4 : decode cL_value 4 = .ok (.invokevirtual 63, 3) := by decide +kernel
theorem dL_value_7 : decode cL_value 7 = .ok (.i2l, 1) := by decide +kernel
theorem dL_value_8 : decode cL_value 8 = .ok (.lastore, 1) := by decide +kernel
theorem dL_value_9 : decode cL_value 9 = .ok (.goto 6, 3) := by decide +kernel
theorem dL_value_12 : decode cL_value 12 = .ok (.astore_n 3, 1) := by decide +kernel
theorem dL_value_13 : decode cL_value 13 = .ok (.iconst 1, 1) := by decide +kernel
theorem dL_value_14 : decode cL_value 14 = .ok (.ireturn, 1) := by decide +kernel
theorem dL_value_15 : decode cL_value 15 = .ok (.iconst 0, 1) := by decide +kernel
theorem dL_value_16 : decode cL_value 16 = .ok (.ireturn, 1) := by decide +kernel
set_option maxRecDepth 20000 in
theorem ggL_setting_X2_setting : GoodIn wsL_setting wsX2_setting := goodIn_ca (goodIn_r _ [6, 7, 8, 9, 10, 5, 11, 12, 13, 14, 15, 16, 17, 18, 19, 20, 21, 22, 23, 24, 25, 26, 27, 28, 29, 30, 31, 32, 33] (by decide +kernel) (by decide +kernel)) (goodIn_sub (fun _ h => List.mem_cons_of_mem _ (List.mem_append_right _ h)) (by decide +kernel))
set_option maxRecDepth 20000 in
theorem gL_setting_X2_setting : GoodIn wsL_setting (wsV RL 66 RX2 yX2_setting wsX2_setting) := goodIn_app (goodIn_of _ (by decide +kernel)) ggL_setting_X2_setting
theorem dL_setting_0 : decode cL_setting 0 = .ok (.aload_n 2, 1) := by decide +kernel
theorem dL_setting_1 : decode cL_setting 1 = .ok (.iconst 0, 1) := by decide +kernel
theorem dL_setting_2 : decode cL_setting 2 = .ok (.aload_n 0, 1) := by decide +kernel
theorem dL_setting_3 : decode cL_setting 3 = .ok (.iload_n 1, 1) := by decide +kernel
theorem dL_setting_4 : decode cL_setting 4 = .ok (.invokevirtual 66, 3) := by decide +kernel
theorem dL_setting_7 : decode cL_setting 7 = .ok (.i2l, 1) := by decide +kernel
theorem dL_setting_8 : decode cL_setting 8 = .ok (.lastore, 1) := by decide +kernel
theorem dL_setting_9 : decode cL_setting 9 = .ok (.goto 6, 3) := by decide +kernel
theorem dL_setting_12 : decode cL_setting 12 = .ok (.astore_n 3, 1) := by decide +kernel
theorem dL_setting_13 : decode cL_setting 13 = .ok (.iconst 1, 1) := by decide +kernel
theorem dL_setting_14 : decode cL_setting 14 = .ok (.ireturn, 1) := by decide +kernel
theorem dL_setting_15 : decode cL_setting 15 = .ok (.iconst 0, 1) := by decide +kernel
theorem dL_setting_16 : decode cL_setting 16 = .ok (.ireturn, 1) := by decide +kernel
set_option maxRecDepth 20000 in
theorem ggL_coverer_X2_coverer : GoodIn wsL_coverer wsX2_coverer := goodIn_ca (goodIn_r _ [6, 7, 8, 9, 10, 5, 11, 12, 13, 14, 15, 16, 17, 18, 19, 20, 21, 22, 23, 24, 25, 26, 27, 28, 29, 30, 31, 32, 33, 34, 35, 36, 37, 38, 39, 40, 41, 42, 43, 44, 45, 46, 47, 48, 49, 50, 51, 52, 53, 54, 55, 56, 57, 58, 59, 60, 61, 62, 63, 64, 65, 66, 67, 68, 69, 70, 71, 72, 73, 74, 75, 76, 77, 78, 79, 80] (by decide +kernel) (by decide +kernel)) (goodIn_sub (fun _ h => List.mem_cons_of_mem _ (List.mem_append_right _ h)) (by decide +kernel))
set_option maxRecDepth 20000 in
theorem gL_coverer_X2_coverer : GoodIn wsL_coverer (wsV RL 69 RX2 yX2_coverer wsX2_coverer) := goodIn_app (goodIn_of _ (by decide +kernel)) ggL_coverer_X2_coverer
theorem dL_coverer_0 : decode cL_coverer 0 = .ok (.aload_n 2, 1) := by decide +kernel
theorem dL_coverer_1 : decode cL_coverer 1 = .ok (.iconst 0, 1) := by decide +kernel
theorem dL_coverer_2 : decode cL_coverer 2 = .ok (.aload_n 0, 1) := by decide +kernel
theorem dL_coverer_3 : decode cL_coverer 3 = .ok (.iload_n 1, 1) := by decide +kernel
theorem dL_coverer_4 : decode cL_coverer 4 = .ok (.invokevirtual 69, 3) := by decide +kernel
theorem dL_coverer_7 : decode cL_coverer 7 = .ok (.i2l, 1) := by decide +kernel
theorem dL_coverer_8 : decode cL_coverer 8 = .ok (.lastore, 1) := by decide +kernel
theorem dL_coverer_9 : decode cL_coverer 9 = .ok (.goto 6, 3) := by decide +kernel
theorem dL_coverer_12 : decode cL_coverer 12 = .ok (.astore_n 3, 1) := by decide +kernel
theorem dL_coverer_13 : decode cL_coverer 13 = .ok (.iconst 1, 1) := by decide +kernel
theorem dL_coverer_14 : decode cL_coverer 14 = .ok (.ireturn, 1) := by decide +kernel
theorem dL_coverer_15 : decode cL_coverer 15 = .ok (.iconst 0, 1) := by decide +kernel
theorem dL_coverer_16 : decode cL_coverer 16 = .ok (.ireturn, 1) := by decide +kernel
set_option maxRecDepth 20000 in
theorem ggL_coveredWith_X2_coveredWith : GoodIn wsL_coveredWith wsX2_coveredWith := goodIn_ca (goodIn_r _ [6, 7, 8, 9, 10, 11, 12, 13, 5, 14, 15, 16, 17, 18, 19, 20, 21, 22, 23, 24, 25, 26, 27, 28, 29, 30, 31, 32, 33, 34, 35, 36, 37, 38, 39, 40, 41, 42, 43, 44, 45, 46, 47, 48, 49, 50, 51, 52, 53, 54, 55, 56, 57, 58, 59, 60, 61, 62, 63, 64, 65, 66, 67, 68, 69, 70, 71, 72, 73, 74, 75, 76, 77, 78, 79, 80, 81, 82, 83, 84, 85, 86, 87, 88, 89, 90, 91, 92, 93, 94, 95, 96, 97, 98, 99, 100, 101, 102] (by decide +kernel) (by decide +kernel)) (goodIn_sub (fun _ h => List.mem_cons_of_mem _ (List.mem_append_right _ h)) (by decide +kernel))
set_option maxRecDepth 20000 in
theorem gL_coveredWith_X2_coveredWith : GoodIn wsL_coveredWith (wsV RL 72 RX2 yX2_coveredWith wsX2_coveredWith) := goodIn_app (goodIn_of _ (by decide +kernel)) ggL_coveredWith_X2_coveredWith
theorem dL_coveredWith_0 : decode cL_coveredWith 0 = .ok (.aload_n 2, 1) := by decide +kernel
theorem dL_coveredWith_1 : decode cL_coveredWith 1 = .ok (.iconst 0, 1) := by decide +kernel
theorem dL_coveredWith_2 : decode cL_coveredWith 2 = .ok (.aload_n 0, 1) := by decide +kernel
theorem dL_coveredWith_3 : decode cL_coveredWith 3 = .ok (.iload_n 1, 1) := by decide +kernel
theorem dL_coveredWith_4 : decode cL_coveredWith 4 = .ok (.invokevirtual 72, 3) := by decide +kernel
theorem dL_coveredWith_7 : decode cL_coveredWith 7 = .ok (.i2l, 1) := by decide +kernel
theorem dL_coveredWith_8 : decode cL_coveredWith 8 = .ok (.lastore, 1) := by decide +kernel
theorem dL_coveredWith_9 : decode cL_coveredWith 9 = .ok (.goto 6, 3) := by decide +kernel
theorem dL_coveredWith_12 : decode cL_coveredWith 12 = .ok (.astore_n 3, 1) := by decide +kernel
theorem dL_coveredWith_13 : decode cL_coveredWith 13 = .ok (.iconst 1, 1) := by decide +kernel
theorem dL_coveredWith_14 : decode cL_coveredWith 14 = .ok (.ireturn, 1) := by decide +kernel
theorem dL_coveredWith_15 : decode cL_coveredWith 15 = .ok (.iconst 0, 1) := by decide +kernel
theorem dL_coveredWith_16 : decode cL_coveredWith 16 = .ok (.ireturn, 1) := by decide +kernel
set_option maxRecDepth 20000 in
theorem ggL_freeShifts_X2_freeShifts : GoodIn wsL_freeShifts wsX2_freeShifts := goodIn_ca (goodIn_r _ [6, 7, 8, 9, 10, 5, 11, 12, 13, 14, 15, 16, 17, 18, 19, 20, 21, 22, 23, 24, 25, 26, 27, 28, 29, 30, 31, 32, 33, 34, 35, 36, 37, 38, 39, 40, 41, 42, 43, 44, 45, 46, 47, 48, 49, 50, 51, 52, 53, 54, 55, 56, 57, 58, 59, 60, 61, 62, 63, 64, 65, 66, 67, 68] (by decide +kernel) (by decide +kernel)) (goodIn_sub (fun _ h => List.mem_cons_of_mem _ (List.mem_append_right _ h)) (by decide +kernel))
set_option maxRecDepth 20000 in
theorem gL_freeShifts_X2_freeShifts : GoodIn wsL_freeShifts (wsV RL 75 RX2 yX2_freeShifts wsX2_freeShifts) := goodIn_app (goodIn_of _ (by decide +kernel)) ggL_freeShifts_X2_freeShifts
theorem dL_freeShifts_0 : decode cL_freeShifts 0 = .ok (.aload_n 2, 1) := by decide +kernel
theorem dL_freeShifts_1 : decode cL_freeShifts 1 = .ok (.iconst 0, 1) := by decide +kernel
theorem dL_freeShifts_2 : decode cL_freeShifts 2 = .ok (.aload_n 0, 1) := by decide +kernel
theorem dL_freeShifts_3 : decode cL_freeShifts 3 = .ok (.iload_n 1, 1) := by decide +kernel
theorem dL_freeShifts_4 : decode cL_freeShifts 4 = .ok (.invokevirtual 75, 3) := by decide +kernel
theorem dL_freeShifts_7 : decode cL_freeShifts 7 = .ok (.i2l, 1) := by decide +kernel
theorem dL_freeShifts_8 : decode cL_freeShifts 8 = .ok (.lastore, 1) := by decide +kernel
theorem dL_freeShifts_9 : decode cL_freeShifts 9 = .ok (.goto 6, 3) := by decide +kernel
theorem dL_freeShifts_12 : decode cL_freeShifts 12 = .ok (.astore_n 3, 1) := by decide +kernel
theorem dL_freeShifts_13 : decode cL_freeShifts 13 = .ok (.iconst 1, 1) := by decide +kernel
theorem dL_freeShifts_14 : decode cL_freeShifts 14 = .ok (.ireturn, 1) := by decide +kernel
theorem dL_freeShifts_15 : decode cL_freeShifts 15 = .ok (.iconst 0, 1) := by decide +kernel
theorem dL_freeShifts_16 : decode cL_freeShifts 16 = .ok (.ireturn, 1) := by decide +kernel
set_option maxRecDepth 20000 in
theorem ggL_append_X2_append : GoodIn wsL_append wsX2_append := goodIn_ca (goodIn_ca (goodIn_r _ [7, 8, 9, 10, 11, 12, 6, 13, 14, 15, 16, 17, 18, 19, 20, 21, 22, 23, 24, 25, 26, 27, 28, 29, 30, 31, 32, 33] (by decide +kernel) (by decide +kernel)) (goodIn_sub (fun _ h => List.mem_cons_of_mem _ (List.mem_append_left _ (List.mem_append_right _ h))) (by decide +kernel))) (goodIn_sub (fun _ h => List.mem_cons_of_mem _ (List.mem_append_right _ h)) (by decide +kernel))
