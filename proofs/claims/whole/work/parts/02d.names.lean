set_option maxRecDepth 20000 in
theorem ggX2_bidOf_X2_needPerson : GoodIn wsX2_bidOf wsX2_needPerson := goodIn_ca (goodIn_r _ [7, 8, 9, 1, 10, 11, 12, 13, 14, 15, 28, 29, 30, 31, 32, 33, 34, 35, 36, 37, 38, 39, 40, 41, 42, 43, 44, 45, 46, 47] (by decide +kernel) (by decide +kernel)) (goodIn_sub (fun _ h => List.mem_cons_of_mem _ (List.mem_append_right _ h)) (by decide +kernel))
set_option maxRecDepth 20000 in
theorem gX2_bidOf_X2_needPerson : GoodIn wsX2_bidOf (wsV RX2 68 RX2 yX2_needPerson wsX2_needPerson) := goodIn_app (goodIn_of _ (by decide +kernel)) ggX2_bidOf_X2_needPerson
set_option maxRecDepth 20000 in
theorem ggX2_bidOf_X2_needAbsence : GoodIn wsX2_bidOf wsX2_needAbsence := goodIn_ca (goodIn_r _ [19, 8, 9, 1, 20, 21, 22, 13, 23, 24, 28, 29, 30, 31, 32, 33, 34, 35, 36, 37, 38, 39, 40, 41, 42, 43, 44, 45, 46, 47] (by decide +kernel) (by decide +kernel)) (goodIn_sub (fun _ h => List.mem_cons_of_mem _ (List.mem_append_right _ h)) (by decide +kernel))
set_option maxRecDepth 20000 in
theorem gX2_bidOf_X2_needAbsence : GoodIn wsX2_bidOf (wsV RX2 93 RX2 yX2_needAbsence wsX2_needAbsence) := goodIn_app (goodIn_of _ (by decide +kernel)) ggX2_bidOf_X2_needAbsence
set_option maxRecDepth 20000 in
theorem ggX2_bidOf_X2_bidIndex : GoodIn wsX2_bidOf wsX2_bidIndex := goodIn_r _ [27] (by decide +kernel) (by decide +kernel)
set_option maxRecDepth 20000 in
theorem gX2_bidOf_X2_bidIndex : GoodIn wsX2_bidOf (va_wsS RX2 102 yX2_bidIndex wsX2_bidIndex) := goodIn_app (goodIn_of _ (by decide +kernel)) ggX2_bidOf_X2_bidIndex
theorem dX2_bidOf_0 : decode cX2_bidOf 0 = .ok (.aload_n 0, 1) := by decide +kernel
theorem dX2_bidOf_1 : decode cX2_bidOf 1 = .ok (.iload_n 1, 1) := by decide +kernel
theorem dX2_bidOf_2 : decode cX2_bidOf 2 = .ok (.invokevirtual 68, 3) := by decide +kernel
theorem dX2_bidOf_5 : decode cX2_bidOf 5 = .ok (.aload_n 0, 1) := by decide +kernel
theorem dX2_bidOf_6 : decode cX2_bidOf 6 = .ok (.iload_n 2, 1) := by decide +kernel
theorem dX2_bidOf_7 : decode cX2_bidOf 7 = .ok (.invokevirtual 93, 3) := by decide +kernel
theorem dX2_bidOf_10 : decode cX2_bidOf 10 = .ok (.aload_n 0, 1) := by decide +kernel
theorem dX2_bidOf_11 : decode cX2_bidOf 11 = .ok (.getfield 12, 3) := by decide +kernel
theorem dX2_bidOf_14 : decode cX2_bidOf 14 = .ok (.getfield 99, 3) := by decide +kernel
theorem dX2_bidOf_17 : decode cX2_bidOf 17 = .ok (.iload_n 1, 1) := by decide +kernel
theorem dX2_bidOf_18 : decode cX2_bidOf 18 = .ok (.iload_n 2, 1) := by decide +kernel
theorem dX2_bidOf_19 : decode cX2_bidOf 19 = .ok (.invokestatic 102, 3) := by decide +kernel
theorem dX2_bidOf_22 : decode cX2_bidOf 22 = .ok (.iaload, 1) := by decide +kernel
theorem dX2_bidOf_23 : decode cX2_bidOf 23 = .ok (.ireturn, 1) := by decide +kernel
set_option maxRecDepth 20000 in
theorem ggX2_why_X2_needPerson : GoodIn wsX2_why wsX2_needPerson := goodIn_ca (goodIn_r _ [6, 7, 8, 1, 9, 10, 11, 12, 13, 14, 47, 48, 49, 50, 51, 52, 53, 54, 55, 56, 57, 58, 59, 60, 61, 62, 63, 64, 65, 66] (by decide +kernel) (by decide +kernel)) (goodIn_sub (fun _ h => List.mem_cons_of_mem _ (List.mem_append_right _ h)) (by decide +kernel))
set_option maxRecDepth 20000 in
theorem gX2_why_X2_needPerson : GoodIn wsX2_why (wsV RX2 68 RX2 yX2_needPerson wsX2_needPerson) := goodIn_app (goodIn_of _ (by decide +kernel)) ggX2_why_X2_needPerson
set_option maxRecDepth 20000 in
theorem ggX2_why_X2_needAbsence : GoodIn wsX2_why wsX2_needAbsence := goodIn_ca (goodIn_r _ [18, 7, 8, 1, 19, 20, 21, 12, 22, 23, 47, 48, 49, 50, 51, 52, 53, 54, 55, 56, 57, 58, 59, 60, 61, 62, 63, 64, 65, 66] (by decide +kernel) (by decide +kernel)) (goodIn_sub (fun _ h => List.mem_cons_of_mem _ (List.mem_append_right _ h)) (by decide +kernel))
set_option maxRecDepth 20000 in
theorem gX2_why_X2_needAbsence : GoodIn wsX2_why (wsV RX2 93 RX2 yX2_needAbsence wsX2_needAbsence) := goodIn_app (goodIn_of _ (by decide +kernel)) ggX2_why_X2_needAbsence
set_option maxRecDepth 20000 in
theorem ggX2_why_X1_hindrance : GoodIn wsX2_why wsX1_hindrance := goodIn_r _ [27, 28, 29, 30, 31, 32, 33, 12, 34, 35, 36, 37, 38, 39, 40, 41, 42, 43, 44, 45, 46, 52, 53, 54, 55, 56, 57, 58, 59, 60, 61, 62, 63, 64, 65, 66] (by decide +kernel) (by decide +kernel)
set_option maxRecDepth 20000 in
theorem gX2_why_X1_hindrance : GoodIn wsX2_why (wsV RX2 126 RX1 yX1_hindrance wsX1_hindrance) := goodIn_app (goodIn_of _ (by decide +kernel)) ggX2_why_X1_hindrance
theorem dX2_why_0 : decode cX2_why 0 = .ok (.aload_n 0, 1) := by decide +kernel
theorem dX2_why_1 : decode cX2_why 1 = .ok (.iload_n 1, 1) := by decide +kernel
theorem dX2_why_2 : decode cX2_why 2 = .ok (.invokevirtual 68, 3) := by decide +kernel
theorem dX2_why_5 : decode cX2_why 5 = .ok (.aload_n 0, 1) := by decide +kernel
theorem dX2_why_6 : decode cX2_why 6 = .ok (.iload_n 2, 1) := by decide +kernel
theorem dX2_why_7 : decode cX2_why 7 = .ok (.invokevirtual 93, 3) := by decide +kernel
theorem dX2_why_10 : decode cX2_why 10 = .ok (.aload_n 0, 1) := by decide +kernel
theorem dX2_why_11 : decode cX2_why 11 = .ok (.getfield 12, 3) := by decide +kernel
theorem dX2_why_14 : decode cX2_why 14 = .ok (.iload_n 1, 1) := by decide +kernel
theorem dX2_why_15 : decode cX2_why 15 = .ok (.iload_n 2, 1) := by decide +kernel
theorem dX2_why_16 : decode cX2_why 16 = .ok (.invokevirtual 126, 3) := by decide +kernel
theorem dX2_why_19 : decode cX2_why 19 = .ok (.ireturn, 1) := by decide +kernel
set_option maxRecDepth 20000 in
theorem ggX2_value_X2_needInRange : GoodIn wsX2_value wsX2_needInRange := goodIn_ca (goodIn_r _ [5, 6, 7] (by decide +kernel) (by decide +kernel)) (goodIn_sub (fun _ h => List.mem_cons_of_mem _ (List.mem_append_right _ h)) (by decide +kernel))
set_option maxRecDepth 20000 in
theorem gX2_value_X2_needInRange : GoodIn wsX2_value (va_wsS RX2 30 yX2_needInRange wsX2_needInRange) := goodIn_app (goodIn_of _ (by decide +kernel)) ggX2_value_X2_needInRange
set_option maxRecDepth 20000 in
theorem ggX2_value_X1_aboutAll : GoodIn wsX2_value wsX1_aboutAll := goodIn_r _ [12, 13, 14, 15, 16, 17, 18, 11, 19, 20, 21, 22, 23, 24, 25, 26, 27, 28, 29, 30, 31, 32, 33, 34, 35, 36, 37, 38, 39, 40, 41, 42, 43, 44, 45, 46, 4, 47, 48, 49, 50, 51, 52, 58, 59, 60, 61, 62, 63, 64, 65, 66, 67, 68, 69, 70, 71, 72] (by decide +kernel) (by decide +kernel)
set_option maxRecDepth 20000 in
theorem gX2_value_X1_aboutAll : GoodIn wsX2_value (wsV RX2 149 RX1 yX1_aboutAll wsX1_aboutAll) := goodIn_app (goodIn_of _ (by decide +kernel)) ggX2_value_X1_aboutAll
theorem dX2_value_0 : decode cX2_value 0 = .ok (.iload_n 1, 1) := by decide +kernel
theorem dX2_value_1 : decode cX2_value 1 = .ok (.iconst 0, 1) := by decide +kernel
theorem dX2_value_2 : decode cX2_value 2 = .ok (.bipush 10, 2) := by decide +kernel
theorem dX2_value_4 : decode cX2_value 4 = .ok (.invokestatic 30, 3) := by decide +kernel
theorem dX2_value_7 : decode cX2_value 7 = .ok (.aload_n 0, 1) := by decide +kernel
theorem dX2_value_8 : decode cX2_value 8 = .ok (.getfield 12, 3) := by decide +kernel
theorem dX2_value_11 : decode cX2_value 11 = .ok (.iload_n 1, 1) := by decide +kernel
theorem dX2_value_12 : decode cX2_value 12 = .ok (.invokevirtual 149, 3) := by decide +kernel
theorem dX2_value_15 : decode cX2_value 15 = .ok (.ireturn, 1) := by decide +kernel
set_option maxRecDepth 20000 in
theorem ggX2_setting_X2_needInRange : GoodIn wsX2_setting wsX2_needInRange := goodIn_ca (goodIn_r _ [6, 7, 8] (by decide +kernel) (by decide +kernel)) (goodIn_sub (fun _ h => List.mem_cons_of_mem _ (List.mem_append_right _ h)) (by decide +kernel))
set_option maxRecDepth 20000 in
theorem gX2_setting_X2_needInRange : GoodIn wsX2_setting (va_wsS RX2 30 yX2_needInRange wsX2_needInRange) := goodIn_app (goodIn_of _ (by decide +kernel)) ggX2_setting_X2_needInRange
theorem dX2_setting_0 : decode cX2_setting 0 = .ok (.iload_n 1, 1) := by decide +kernel
theorem dX2_setting_1 : decode cX2_setting 1 = .ok (.iconst 0, 1) := by decide +kernel
theorem dX2_setting_2 : decode cX2_setting 2 = .ok (.iconst 2, 1) := by decide +kernel
theorem dX2_setting_3 : decode cX2_setting 3 = .ok (.invokestatic 30, 3) := by decide +kernel
theorem dX2_setting_6 : decode cX2_setting 6 = .ok (.aload_n 0, 1) := by decide +kernel
theorem dX2_setting_7 : decode cX2_setting 7 = .ok (.getfield 12, 3) := by decide +kernel
theorem dX2_setting_10 : decode cX2_setting 10 = .ok (.getfield 44, 3) := by decide +kernel
theorem dX2_setting_13 : decode cX2_setting 13 = .ok (.iload_n 1, 1) := by decide +kernel
theorem dX2_setting_14 : decode cX2_setting 14 = .ok (.iaload, 1) := by decide +kernel
theorem dX2_setting_15 : decode cX2_setting 15 = .ok (.ireturn, 1) := by decide +kernel
set_option maxRecDepth 20000 in
theorem ggX2_coverer_X2_needAbsence : GoodIn wsX2_coverer wsX2_needAbsence := goodIn_ca (goodIn_r _ [6, 7, 8, 1, 9, 10, 11, 12, 13, 14, 56, 57, 58, 59, 60, 61, 62, 63, 64, 65, 66, 67, 68, 69, 70, 71, 72, 73, 74, 75] (by decide +kernel) (by decide +kernel)) (goodIn_sub (fun _ h => List.mem_cons_of_mem _ (List.mem_append_right _ h)) (by decide +kernel))
set_option maxRecDepth 20000 in
theorem gX2_coverer_X2_needAbsence : GoodIn wsX2_coverer (wsV RX2 93 RX2 yX2_needAbsence wsX2_needAbsence) := goodIn_app (goodIn_of _ (by decide +kernel)) ggX2_coverer_X2_needAbsence
set_option maxRecDepth 20000 in
theorem ggX2_coverer_X1_nextCoverer : GoodIn wsX2_coverer wsX1_nextCoverer := goodIn_r _ [18, 19, 20, 21, 22, 23, 12, 24, 25, 26, 27, 28, 29, 30, 31, 32, 33, 34, 35, 36, 37, 38, 39, 40, 41, 42, 43, 44, 45, 46, 47, 48, 49, 50, 51, 5, 52, 53, 54, 55, 61, 62, 63, 64, 65, 66, 67, 68, 69, 70, 71, 72, 73, 74, 75] (by decide +kernel) (by decide +kernel)
set_option maxRecDepth 20000 in
theorem gX2_coverer_X1_nextCoverer : GoodIn wsX2_coverer (wsV RX2 109 RX1 yX1_nextCoverer wsX1_nextCoverer) := goodIn_app (goodIn_of _ (by decide +kernel)) ggX2_coverer_X1_nextCoverer
theorem dX2_coverer_0 : decode cX2_coverer 0 = .ok (.aload_n 0, 1) := by decide +kernel
theorem dX2_coverer_1 : decode cX2_coverer 1 = .ok (.iload_n 1, 1) := by decide +kernel
theorem dX2_coverer_2 : decode cX2_coverer 2 = .ok (.invokevirtual 93, 3) := by decide +kernel
theorem dX2_coverer_5 : decode cX2_coverer 5 = .ok (.aload_n 0, 1) := by decide +kernel
theorem dX2_coverer_6 : decode cX2_coverer 6 = .ok (.getfield 12, 3) := by decide +kernel
theorem dX2_coverer_9 : decode cX2_coverer 9 = .ok (.iload_n 1, 1) := by decide +kernel
theorem dX2_coverer_10 : decode cX2_coverer 10 = .ok (.invokevirtual 109, 3) := by decide +kernel
theorem dX2_coverer_13 : decode cX2_coverer 13 = .ok (.ireturn, 1) := by decide +kernel
set_option maxRecDepth 20000 in
theorem ggX2_coveredWith_X2_needInRange : GoodIn wsX2_coveredWith wsX2_needInRange := goodIn_ca (goodIn_r _ [9, 10, 11] (by decide +kernel) (by decide +kernel)) (goodIn_sub (fun _ h => List.mem_cons_of_mem _ (List.mem_append_right _ h)) (by decide +kernel))
set_option maxRecDepth 20000 in
theorem gX2_coveredWith_X2_needInRange : GoodIn wsX2_coveredWith (va_wsS RX2 30 yX2_needInRange wsX2_needInRange) := goodIn_app (goodIn_of _ (by decide +kernel)) ggX2_coveredWith_X2_needInRange
set_option maxRecDepth 20000 in
theorem ggX2_coveredWith_X1_copyFrom : GoodIn wsX2_coveredWith wsX1_copyFrom := goodIn_r _ [16, 17, 18, 19, 20, 21, 22, 23, 24, 25, 26, 27, 28, 29, 30, 31, 32, 33, 34, 35, 83, 84, 85, 86, 87, 88, 89, 90, 91, 92, 93, 94, 95, 96, 97] (by decide +kernel) (by decide +kernel)
set_option maxRecDepth 20000 in
theorem gX2_coveredWith_X1_copyFrom : GoodIn wsX2_coveredWith (wsV RX2 152 RX1 yX1_copyFrom wsX1_copyFrom) := goodIn_app (goodIn_of _ (by decide +kernel)) ggX2_coveredWith_X1_copyFrom
set_option maxRecDepth 20000 in
theorem ggX2_coveredWith_X1_coverAllOpen : GoodIn wsX2_coveredWith wsX1_coverAllOpen := goodIn_r _ [39, 29, 40, 41, 42, 15, 43, 35, 32, 34, 17, 28, 33, 26, 31, 27, 30, 44, 45, 46, 47, 23, 48, 49, 50, 51, 25, 52, 53, 54, 55, 24, 56, 57, 58, 59, 60, 61, 62, 63, 64, 65, 66, 67, 68, 69, 8, 70, 71, 72, 73, 74, 75, 76, 77, 83, 84, 85, 86, 87, 88, 89, 90, 91, 92, 93, 94, 95, 96, 97] (by decide +kernel) (by decide +kernel)
set_option maxRecDepth 20000 in
theorem gX2_coveredWith_X1_coverAllOpen : GoodIn wsX2_coveredWith (wsV RX2 119 RX1 yX1_coverAllOpen wsX1_coverAllOpen) := goodIn_app (goodIn_of _ (by decide +kernel)) ggX2_coveredWith_X1_coverAllOpen
theorem dX2_coveredWith_0 : decode cX2_coveredWith 0 = .ok (.iload_n 1, 1) := by decide +kernel
theorem dX2_coveredWith_1 : decode cX2_coveredWith 1 = .ok (.getstatic 34, 3) := by decide +kernel
theorem dX2_coveredWith_4 : decode cX2_coveredWith 4 = .ok (.iconst 0, 1) := by decide +kernel
theorem dX2_coveredWith_5 : decode cX2_coveredWith 5 = .ok (.iaload, 1) := by decide +kernel
theorem dX2_coveredWith_6 : decode cX2_coveredWith 6 = .ok (.getstatic 38, 3) := by decide +kernel
theorem dX2_coveredWith_9 : decode cX2_coveredWith 9 = .ok (.iconst 0, 1) := by decide +kernel
theorem dX2_coveredWith_10 : decode cX2_coveredWith 10 = .ok (.iaload, 1) := by decide +kernel
theorem dX2_coveredWith_11 : decode cX2_coveredWith 11 = .ok (.invokestatic 30, 3) := by decide +kernel
theorem dX2_coveredWith_14 : decode cX2_coveredWith 14 = .ok (.aload_n 0, 1) := by decide +kernel
theorem dX2_coveredWith_15 : decode cX2_coveredWith 15 = .ok (.getfield 16, 3) := by decide +kernel
theorem dX2_coveredWith_18 : decode cX2_coveredWith 18 = .ok (.aload_n 0, 1) := by decide +kernel
theorem dX2_coveredWith_19 : decode cX2_coveredWith 19 = .ok (.getfield 12, 3) := by decide +kernel
theorem dX2_coveredWith_22 : decode cX2_coveredWith 22 = .ok (.invokevirtual 152, 3) := by decide +kernel
theorem dX2_coveredWith_25 : decode cX2_coveredWith 25 = .ok (.aload_n 0, 1) := by decide +kernel
theorem dX2_coveredWith_26 : decode cX2_coveredWith 26 = .ok (.getfield 16, 3) := by decide +kernel
theorem dX2_coveredWith_29 : decode cX2_coveredWith 29 = .ok (.getfield 44, 3) := by decide +kernel
theorem dX2_coveredWith_32 : decode cX2_coveredWith 32 = .ok (.iconst 0, 1) := by decide +kernel
theorem dX2_coveredWith_33 : decode cX2_coveredWith 33 = .ok (.iload_n 1, 1) := by decide +kernel
theorem dX2_coveredWith_34 : decode cX2_coveredWith 34 = .ok (.iastore, 1) := by decide +kernel
theorem dX2_coveredWith_35 : decode cX2_coveredWith 35 = .ok (.aload_n 0, 1) := by decide +kernel
theorem dX2_coveredWith_36 : decode cX2_coveredWith 36 = .ok (.getfield 16, 3) := by decide +kernel
theorem dX2_coveredWith_39 : decode cX2_coveredWith 39 = .ok (.invokevirtual 119, 3) := by decide +kernel
theorem dX2_coveredWith_42 : decode cX2_coveredWith 42 = .ok (.ireturn, 1) := by decide +kernel
set_option maxRecDepth 20000 in
theorem ggX2_mostCovered_X1_countOf : GoodIn wsX2_mostCovered wsX1_countOf := goodIn_r _ [7, 8, 9, 69, 70, 71, 72, 73, 74, 75, 76, 77, 78, 79, 80, 81, 82, 83] (by decide +kernel) (by decide +kernel)
set_option maxRecDepth 20000 in
theorem gX2_mostCovered_X1_countOf : GoodIn wsX2_mostCovered (wsV RX2 156 RX1 yX1_countOf wsX1_countOf) := goodIn_app (goodIn_of _ (by decide +kernel)) ggX2_mostCovered_X1_countOf
set_option maxRecDepth 20000 in
theorem ggX2_mostCovered_X1_copyFrom : GoodIn wsX2_mostCovered wsX1_copyFrom := goodIn_r _ [13, 14, 15, 16, 17, 18, 19, 20, 21, 22, 23, 24, 25, 8, 26, 27, 9, 28, 29, 30, 69, 70, 71, 72, 73, 74, 75, 76, 77, 78, 79, 80, 81, 82, 83] (by decide +kernel) (by decide +kernel)
set_option maxRecDepth 20000 in
theorem gX2_mostCovered_X1_copyFrom : GoodIn wsX2_mostCovered (wsV RX2 152 RX1 yX1_copyFrom wsX1_copyFrom) := goodIn_app (goodIn_of _ (by decide +kernel)) ggX2_mostCovered_X1_copyFrom
set_option maxRecDepth 20000 in
theorem ggX2_mostCovered_X2_mostFrom : GoodIn wsX2_mostCovered wsX2_mostFrom := goodIn_r _ [34, 35, 36, 37, 38, 39, 40, 41, 42, 43, 44, 45, 6, 46, 8, 9, 47, 48, 49, 50, 26, 27, 22, 51, 52, 53, 54, 21, 55, 23, 56, 57, 58, 59, 14, 60, 61, 62, 63, 31, 32, 33, 69, 70, 71, 72, 73, 74, 75, 76, 77, 78, 79, 80, 81, 82, 83] (by decide +kernel) (by decide +kernel)
set_option maxRecDepth 20000 in
theorem gX2_mostCovered_X2_mostFrom : GoodIn wsX2_mostCovered (va_wsS RX2 159 yX2_mostFrom wsX2_mostFrom) := goodIn_app (goodIn_of _ (by decide +kernel)) ggX2_mostCovered_X2_mostFrom
theorem dX2_mostCovered_0 : decode cX2_mostCovered 0 = .ok (.aload_n 0, 1) := by decide +kernel
theorem dX2_mostCovered_1 : decode cX2_mostCovered 1 = .ok (.getfield 12, 3) := by decide +kernel
theorem dX2_mostCovered_4 : decode cX2_mostCovered 4 = .ok (.iconst 0, 1) := by decide +kernel
theorem dX2_mostCovered_5 : decode cX2_mostCovered 5 = .ok (.invokevirtual 156, 3) := by decide +kernel
theorem dX2_mostCovered_8 : decode cX2_mostCovered 8 = .ok (.istore_n 1, 1) := by decide +kernel
theorem dX2_mostCovered_9 : decode cX2_mostCovered 9 = .ok (.iload_n 1, 1) := by decide +kernel
theorem dX2_mostCovered_10 : decode cX2_mostCovered 10 = .ok (.iconst 5, 1) := by decide +kernel
theorem dX2_mostCovered_11 : decode cX2_mostCovered 11 = .ok (.if_icmp .le 5, 3) := by decide +kernel
theorem dX2_mostCovered_14 : decode cX2_mostCovered 14 = .ok (.iconst (-1), 1) := by decide +kernel
theorem dX2_mostCovered_15 : decode cX2_mostCovered 15 = .ok (.ireturn, 1) := by decide +kernel
theorem dX2_mostCovered_16 : decode cX2_mostCovered 16 = .ok (.aload_n 0, 1) := by decide +kernel
theorem dX2_mostCovered_17 : decode cX2_mostCovered 17 = .ok (.getfield 16, 3) := by decide +kernel
theorem dX2_mostCovered_20 : decode cX2_mostCovered 20 = .ok (.aload_n 0, 1) := by decide +kernel
theorem dX2_mostCovered_21 : decode cX2_mostCovered 21 = .ok (.getfield 12, 3) := by decide +kernel
theorem dX2_mostCovered_24 : decode cX2_mostCovered 24 = .ok (.invokevirtual 152, 3) := by decide +kernel
theorem dX2_mostCovered_27 : decode cX2_mostCovered 27 = .ok (.aload_n 0, 1) := by decide +kernel
theorem dX2_mostCovered_28 : decode cX2_mostCovered 28 = .ok (.getfield 16, 3) := by decide +kernel
theorem dX2_mostCovered_31 : decode cX2_mostCovered 31 = .ok (.iconst 0, 1) := by decide +kernel
theorem dX2_mostCovered_32 : decode cX2_mostCovered 32 = .ok (.iload_n 1, 1) := by decide +kernel
theorem dX2_mostCovered_33 : decode cX2_mostCovered 33 = .ok (.invokestatic 159, 3) := by decide +kernel
theorem dX2_mostCovered_36 : decode cX2_mostCovered 36 = .ok (.ireturn, 1) := by decide +kernel
set_option maxRecDepth 20000 in
theorem ggX2_freeShifts_X2_needPerson : GoodIn wsX2_freeShifts wsX2_needPerson := goodIn_ca (goodIn_r _ [6, 7, 8, 1, 9, 10, 11, 12, 13, 14, 44, 45, 46, 47, 48, 49, 50, 51, 52, 53, 54, 55, 56, 57, 58, 59, 60, 61, 62, 63] (by decide +kernel) (by decide +kernel)) (goodIn_sub (fun _ h => List.mem_cons_of_mem _ (List.mem_append_right _ h)) (by decide +kernel))
set_option maxRecDepth 20000 in
theorem gX2_freeShifts_X2_needPerson : GoodIn wsX2_freeShifts (wsV RX2 68 RX2 yX2_needPerson wsX2_needPerson) := goodIn_app (goodIn_of _ (by decide +kernel)) ggX2_freeShifts_X2_needPerson
set_option maxRecDepth 20000 in
theorem ggX2_freeShifts_X1_free : GoodIn wsX2_freeShifts wsX1_free := goodIn_r _ [18, 19, 20, 21, 22, 23, 24, 12, 25, 26, 27, 28, 29, 30, 31, 32, 33, 34, 35, 36, 49, 50, 51, 52, 53, 54, 55, 56, 57, 58, 59, 60, 61, 62, 63] (by decide +kernel) (by decide +kernel)
set_option maxRecDepth 20000 in
theorem gX2_freeShifts_X1_free : GoodIn wsX2_freeShifts (wsV RX2 163 RX1 yX1_free wsX1_free) := goodIn_app (goodIn_of _ (by decide +kernel)) ggX2_freeShifts_X1_free
set_option maxRecDepth 20000 in
theorem ggX2_freeShifts_J13_bitCount_95d88 : GoodIn wsX2_freeShifts wsJ13_bitCount_95d88 := goodIn_r _ [40, 41, 42, 43] (by decide +kernel) (by decide +kernel)
set_option maxRecDepth 20000 in
theorem gX2_freeShifts_J13_bitCount_95d88 : GoodIn wsX2_freeShifts (va_wsS RX2 80 yJ13_bitCount_95d88 wsJ13_bitCount_95d88) := goodIn_app (goodIn_of _ (by decide +kernel)) ggX2_freeShifts_J13_bitCount_95d88
theorem dX2_freeShifts_0 : decode cX2_freeShifts 0 = .ok (.aload_n 0, 1) := by decide +kernel
theorem dX2_freeShifts_1 : decode cX2_freeShifts 1 = .ok (.iload_n 1, 1) := by decide +kernel
theorem dX2_freeShifts_2 : decode cX2_freeShifts 2 = .ok (.invokevirtual 68, 3) := by decide +kernel
theorem dX2_freeShifts_5 : decode cX2_freeShifts 5 = .ok (.aload_n 0, 1) := by decide +kernel
theorem dX2_freeShifts_6 : decode cX2_freeShifts 6 = .ok (.getfield 12, 3) := by decide +kernel
theorem dX2_freeShifts_9 : decode cX2_freeShifts 9 = .ok (.iload_n 1, 1) := by decide +kernel
theorem dX2_freeShifts_10 : decode cX2_freeShifts 10 = .ok (.invokevirtual 163, 3) := by decide +kernel
theorem dX2_freeShifts_13 : decode cX2_freeShifts 13 = .ok (.invokestatic 80, 3) := by decide +kernel
theorem dX2_freeShifts_16 : decode cX2_freeShifts 16 = .ok (.ireturn, 1) := by decide +kernel
theorem dX2_spread_0 : decode cX2_spread 0 = .ok (.aload_n 0, 1) := by decide +kernel
theorem dX2_spread_1 : decode cX2_spread 1 = .ok (.getfield 12, 3) := by decide +kernel
theorem dX2_spread_4 : decode cX2_spread 4 = .ok (.getfield 56, 3) := by decide +kernel
theorem dX2_spread_7 : decode cX2_spread 7 = .ok (.ifCond .ne 5, 3) := by decide +kernel
theorem dX2_spread_10 : decode cX2_spread 10 = .ok (.dconst 0, 1) := by decide +kernel
theorem dX2_spread_11 : decode cX2_spread 11 = .ok (.dreturn, 1) := by decide +kernel
theorem dX2_spread_12 : decode cX2_spread 12 = .ok (.iconst 0, 1) := by decide +kernel
theorem dX2_spread_13 : decode cX2_spread 13 = .ok (.istore_n 1, 1) := by decide +kernel
theorem dX2_spread_14 : decode cX2_spread 14 = .ok (.iconst 0, 1) := by decide +kernel
theorem dX2_spread_15 : decode cX2_spread 15 = .ok (.istore_n 2, 1) := by decide +kernel
theorem dX2_spread_16 : decode cX2_spread 16 = .ok (.iload_n 2, 1) := by decide +kernel
theorem dX2_spread_17 : decode cX2_spread 17 = .ok (.aload_n 0, 1) := by decide +kernel
theorem dX2_spread_18 : decode cX2_spread 18 = .ok (.getfield 12, 3) := by decide +kernel
theorem dX2_spread_21 : decode cX2_spread 21 = .ok (.getfield 56, 3) := by decide +kernel
theorem dX2_spread_24 : decode cX2_spread 24 = .ok (.if_icmp .ge 24, 3) := by decide +kernel
theorem dX2_spread_27 : decode cX2_spread 27 = .ok (.iload_n 1, 1) := by decide +kernel
theorem dX2_spread_28 : decode cX2_spread 28 = .ok (.aload_n 0, 1) := by decide +kernel
theorem dX2_spread_29 : decode cX2_spread 29 = .ok (.getfield 12, 3) := by decide +kernel
theorem dX2_spread_32 : decode cX2_spread 32 = .ok (.getfield 166, 3) := by decide +kernel
theorem dX2_spread_35 : decode cX2_spread 35 = .ok (.iload_n 2, 1) := by decide +kernel
theorem dX2_spread_36 : decode cX2_spread 36 = .ok (.iaload, 1) := by decide +kernel
theorem dX2_spread_37 : decode cX2_spread 37 = .ok (.invokestatic 169, 3) := by decide +kernel
theorem dX2_spread_40 : decode cX2_spread 40 = .ok (.iadd, 1) := by decide +kernel
theorem dX2_spread_41 : decode cX2_spread 41 = .ok (.istore_n 1, 1) := by decide +kernel
theorem dX2_spread_42 : decode cX2_spread 42 = .ok (.iinc 2 1, 3) := by decide +kernel
theorem dX2_spread_45 : decode cX2_spread 45 = .ok (.goto (-29), 3) := by decide +kernel
theorem dX2_spread_48 : decode cX2_spread 48 = .ok (.iload_n 1, 1) := by decide +kernel
theorem dX2_spread_49 : decode cX2_spread 49 = .ok (.i2d, 1) := by decide +kernel
theorem dX2_spread_50 : decode cX2_spread 50 = .ok (.aload_n 0, 1) := by decide +kernel
theorem dX2_spread_51 : decode cX2_spread 51 = .ok (.getfield 12, 3) := by decide +kernel
theorem dX2_spread_54 : decode cX2_spread 54 = .ok (.getfield 56, 3) := by decide +kernel
theorem dX2_spread_57 : decode cX2_spread 57 = .ok (.i2d, 1) := by decide +kernel
theorem dX2_spread_58 : decode cX2_spread 58 = .ok (.ddiv, 1) := by decide +kernel
theorem dX2_spread_59 : decode cX2_spread 59 = .ok (.dreturn, 1) := by decide +kernel
set_option maxRecDepth 20000 in
theorem ggX2_append_X2_needInRange : GoodIn wsX2_append wsX2_needInRange := goodIn_ca (goodIn_r _ [7, 8, 9] (by decide +kernel) (by decide +kernel)) (goodIn_sub (fun _ h => List.mem_cons_of_mem _ (List.mem_append_left _ (List.mem_append_right _ h))) (by decide +kernel))
set_option maxRecDepth 20000 in
theorem gX2_append_X2_needInRange : GoodIn wsX2_append (va_wsS RX2 30 yX2_needInRange wsX2_needInRange) := goodIn_app (goodIn_of _ (by decide +kernel)) ggX2_append_X2_needInRange
set_option maxRecDepth 20000 in
theorem ggX2_append_X2_needAllowed : GoodIn wsX2_append wsX2_needAllowed := goodIn_ca (goodIn_r _ [12, 13, 14] (by decide +kernel) (by decide +kernel)) (goodIn_sub (fun _ h => List.mem_cons_of_mem _ (List.mem_append_right _ h)) (by decide +kernel))
set_option maxRecDepth 20000 in
theorem gX2_append_X2_needAllowed : GoodIn wsX2_append (va_wsS RX2 60 yX2_needAllowed wsX2_needAllowed) := goodIn_app (goodIn_of _ (by decide +kernel)) ggX2_append_X2_needAllowed
theorem dX2_append_0 : decode cX2_append 0 = .ok (.iload_n 1, 1) := by decide +kernel
theorem dX2_append_1 : decode cX2_append 1 = .ok (.iconst 0, 1) := by decide +kernel
theorem dX2_append_2 : decode cX2_append 2 = .ok (.bipush 127, 2) := by decide +kernel
theorem dX2_append_4 : decode cX2_append 4 = .ok (.invokestatic 30, 3) := by decide +kernel
theorem dX2_append_7 : decode cX2_append 7 = .ok (.aload_n 0, 1) := by decide +kernel
theorem dX2_append_8 : decode cX2_append 8 = .ok (.getfield 26, 3) := by decide +kernel
theorem dX2_append_11 : decode cX2_append 11 = .ok (.getfield 174, 3) := by decide +kernel
theorem dX2_append_14 : decode cX2_append 14 = .ok (.bipush 100, 2) := by decide +kernel
theorem dX2_append_16 : decode cX2_append 16 = .ok (.if_icmp .ge 7, 3) := by decide +kernel
theorem dX2_append_19 : decode cX2_append 19 = .ok (.iconst 1, 1) := by decide +kernel
theorem dX2_append_20 : decode cX2_append 20 = .ok (.goto 4, 3) := by decide +kernel
theorem dX2_append_23 : decode cX2_append 23 = .ok (.iconst 0, 1) := by decide +kernel
theorem dX2_append_24 : decode cX2_append 24 = .ok (.invokestatic 60, 3) := by decide +kernel
theorem dX2_append_27 : decode cX2_append 27 = .ok (.aload_n 0, 1) := by decide +kernel
theorem dX2_append_28 : decode cX2_append 28 = .ok (.getfield 26, 3) := by decide +kernel
theorem dX2_append_31 : decode cX2_append 31 = .ok (.getfield 177, 3) := by decide +kernel
theorem dX2_append_34 : decode cX2_append 34 = .ok (.aload_n 0, 1) := by decide +kernel
theorem dX2_append_35 : decode cX2_append 35 = .ok (.getfield 26, 3) := by decide +kernel
theorem dX2_append_38 : decode cX2_append 38 = .ok (.getfield 174, 3) := by decide +kernel
theorem dX2_append_41 : decode cX2_append 41 = .ok (.iload_n 1, 1) := by decide +kernel
theorem dX2_append_42 : decode cX2_append 42 = .ok (.iastore, 1) := by decide +kernel
theorem dX2_append_43 : decode cX2_append 43 = .ok (.aload_n 0, 1) := by decide +kernel
theorem dX2_append_44 : decode cX2_append 44 = .ok (.getfield 26, 3) := by decide +kernel
theorem dX2_append_47 : decode cX2_append 47 = .ok (.dup, 1) := by decide +kernel
theorem dX2_append_48 : decode cX2_append 48 = .ok (.getfield 174, 3) := by decide +kernel
theorem dX2_append_51 : decode cX2_append 51 = .ok (.iconst 1, 1) := by decide +kernel
theorem dX2_append_52 : decode cX2_append 52 = .ok (.iadd, 1) := by decide +kernel
theorem dX2_append_53 : decode cX2_append 53 = .ok (.putfield 174, 3) := by decide +kernel
theorem dX2_append_56 : decode cX2_append 56 = .ok (.aload_n 0, 1) := by decide +kernel
theorem dX2_append_57 : decode cX2_append 57 = .ok (.getfield 26, 3) := by decide +kernel
theorem dX2_append_60 : decode cX2_append 60 = .ok (.getfield 174, 3) := by decide +kernel
theorem dX2_append_63 : decode cX2_append 63 = .ok (.ireturn, 1) := by decide +kernel
theorem dX2_clearText_0 : decode cX2_clearText 0 = .ok (.aload_n 0, 1) := by decide +kernel
theorem dX2_clearText_1 : decode cX2_clearText 1 = .ok (.getfield 26, 3) := by decide +kernel
theorem dX2_clearText_4 : decode cX2_clearText 4 = .ok (.getfield 174, 3) := by decide +kernel
theorem dX2_clearText_7 : decode cX2_clearText 7 = .ok (.istore_n 1, 1) := by decide +kernel
theorem dX2_clearText_8 : decode cX2_clearText 8 = .ok (.aload_n 0, 1) := by decide +kernel
theorem dX2_clearText_9 : decode cX2_clearText 9 = .ok (.getfield 26, 3) := by decide +kernel
theorem dX2_clearText_12 : decode cX2_clearText 12 = .ok (.iconst 0, 1) := by decide +kernel
theorem dX2_clearText_13 : decode cX2_clearText 13 = .ok (.putfield 174, 3) := by decide +kernel
theorem dX2_clearText_16 : decode cX2_clearText 16 = .ok (.iload_n 1, 1) := by decide +kernel
theorem dX2_clearText_17 : decode cX2_clearText 17 = .ok (.ireturn, 1) := by decide +kernel
set_option maxRecDepth 20000 in
theorem ggX2_carryOut_X0_errorPosition : GoodIn wsX2_carryOut wsX0_errorPosition := goodIn_r _ [7, 8, 9, 10, 11, 12, 6, 13, 14, 15, 16, 17, 18, 19, 20, 21, 22, 23, 24, 25, 26, 27, 28, 29, 30, 31, 32, 33, 34, 35, 36, 37, 38, 39, 40, 41, 42, 43, 44, 45, 46, 47, 48, 49, 50, 177, 178, 179, 180, 181, 182, 183, 184] (by decide +kernel) (by decide +kernel)
set_option maxRecDepth 20000 in
theorem gX2_carryOut_X0_errorPosition : GoodIn wsX2_carryOut (wsV RX2 180 RX0 yX0_errorPosition wsX0_errorPosition) := goodIn_app (goodIn_of _ (by decide +kernel)) ggX2_carryOut_X0_errorPosition
set_option maxRecDepth 20000 in
theorem ggX2_carryOut_X2_save : GoodIn wsX2_carryOut wsX2_save := goodIn_r _ [55, 56, 57, 58, 59, 60, 61, 54, 62, 63, 64, 65, 66, 67, 68, 69, 70, 71, 72, 73, 74, 75, 76, 77, 78, 79, 80, 81, 82, 83, 84, 85, 86, 172, 173, 174, 175, 176, 185, 186, 187, 188, 189, 190, 191, 192, 193, 194, 195, 196, 197, 198, 199] (by decide +kernel) (by decide +kernel)
set_option maxRecDepth 20000 in
theorem gX2_carryOut_X2_save : GoodIn wsX2_carryOut (wsV RX2 41 RX2 yX2_save wsX2_save) := goodIn_app (goodIn_of _ (by decide +kernel)) ggX2_carryOut_X2_save
set_option maxRecDepth 20000 in
theorem ggX2_carryOut_X0_start : GoodIn wsX2_carryOut wsX0_start := goodIn_r _ [13, 14, 9, 177, 178, 179, 180, 181, 182, 183, 184] (by decide +kernel) (by decide +kernel)
set_option maxRecDepth 20000 in
theorem gX2_carryOut_X0_start : GoodIn wsX2_carryOut (wsV RX2 183 RX0 yX0_start wsX0_start) := goodIn_app (goodIn_of _ (by decide +kernel)) ggX2_carryOut_X0_start
set_option maxRecDepth 20000 in
theorem ggX2_carryOut_X0_hasMore : GoodIn wsX2_carryOut wsX0_hasMore := goodIn_r _ [18, 14, 8, 177, 178, 179, 180, 181, 182, 183, 184] (by decide +kernel) (by decide +kernel)
set_option maxRecDepth 20000 in
theorem gX2_carryOut_X0_hasMore : GoodIn wsX2_carryOut (wsV RX2 186 RX0 yX0_hasMore wsX0_hasMore) := goodIn_app (goodIn_of _ (by decide +kernel)) ggX2_carryOut_X0_hasMore
set_option maxRecDepth 20000 in
theorem ggX2_carryOut_X0_read : GoodIn wsX2_carryOut wsX0_read := goodIn_r _ [22, 14, 23, 24, 25, 26, 27, 28, 29, 6, 30, 8, 31, 32, 33, 34, 35, 36, 37, 38, 39, 9, 40, 41, 42, 43, 44, 45, 46, 47, 48, 49, 50, 177, 178, 179, 180, 181, 182, 183, 184] (by decide +kernel) (by decide +kernel)
set_option maxRecDepth 20000 in
theorem gX2_carryOut_X0_read : GoodIn wsX2_carryOut (wsV RX2 190 RX0 yX0_read wsX0_read) := goodIn_app (goodIn_of _ (by decide +kernel)) ggX2_carryOut_X0_read
set_option maxRecDepth 20000 in
theorem ggX2_carryOut_X2_obey : GoodIn wsX2_carryOut wsX2_obey := goodIn_r _ [93, 1, 94, 95, 96, 97, 58, 98, 99, 100, 54, 101, 102, 103, 104, 66, 105, 74, 106, 107, 108, 109, 75, 76, 110, 80, 111, 112, 113, 114, 81, 82, 83, 84, 85, 115, 116, 117, 118, 86, 119, 120, 121, 122, 123, 124, 125, 126, 127, 128, 129, 130, 131, 132, 133, 134, 135, 136, 137, 138, 139, 68, 79, 77, 78, 140, 141, 142, 143, 144, 145, 146, 147, 148, 149, 150, 151, 152, 153, 154, 155, 156, 157, 158, 159, 160, 161, 162, 163, 164, 165, 166, 167, 168, 169, 170, 171, 172, 173, 174, 175, 176, 177, 178, 179, 180, 181, 182, 183, 184, 185, 186, 187, 188, 189, 190, 191, 192, 193, 194, 195, 196, 197, 198, 199] (by decide +kernel) (by decide +kernel)
set_option maxRecDepth 20000 in
theorem gX2_carryOut_X2_obey : GoodIn wsX2_carryOut (wsV RX2 193 RX2 yX2_obey wsX2_obey) := goodIn_app (goodIn_of _ (by decide +kernel)) ggX2_carryOut_X2_obey
theorem dX2_carryOut_0 : decode cX2_carryOut 0 = .ok (.aload_n 0, 1) := by decide +kernel
theorem dX2_carryOut_1 : decode cX2_carryOut 1 = .ok (.getfield 26, 3) := by decide +kernel
theorem dX2_carryOut_4 : decode cX2_carryOut 4 = .ok (.invokevirtual 180, 3) := by decide +kernel
theorem dX2_carryOut_7 : decode cX2_carryOut 7 = .ok (.istore_n 1, 1) := by decide +kernel
theorem dX2_carryOut_8 : decode cX2_carryOut 8 = .ok (.iload_n 1, 1) := by decide +kernel
theorem dX2_carryOut_9 : decode cX2_carryOut 9 = .ok (.iconst (-1), 1) := by decide +kernel
theorem dX2_carryOut_10 : decode cX2_carryOut 10 = .ok (.if_icmp .eq 8, 3) := by decide +kernel
theorem dX2_carryOut_13 : decode cX2_carryOut 13 = .ok (.bipush (-10), 2) := by decide +kernel
theorem dX2_carryOut_15 : decode cX2_carryOut 15 = .ok (.iload_n 1, 1) := by decide +kernel
theorem dX2_carryOut_16 : decode cX2_carryOut 16 = .ok (.isub, 1) := by decide +kernel
theorem dX2_carryOut_17 : decode cX2_carryOut 17 = .ok (.ireturn, 1) := by decide +kernel
theorem dX2_carryOut_18 : decode cX2_carryOut 18 = .ok (.aload_n 0, 1) := by decide +kernel
theorem dX2_carryOut_19 : decode cX2_carryOut 19 = .ok (.invokevirtual 41, 3) := by decide +kernel
theorem dX2_carryOut_22 : decode cX2_carryOut 22 = .ok (.iconst 0, 1) := by decide +kernel
theorem dX2_carryOut_23 : decode cX2_carryOut 23 = .ok (.istore_n 2, 1) := by decide +kernel
theorem dX2_carryOut_24 : decode cX2_carryOut 24 = .ok (.aload_n 0, 1) := by decide +kernel
theorem dX2_carryOut_25 : decode cX2_carryOut 25 = .ok (.getfield 26, 3) := by decide +kernel
theorem dX2_carryOut_28 : decode cX2_carryOut 28 = .ok (.invokevirtual 183, 3) := by decide +kernel
theorem dX2_carryOut_31 : decode cX2_carryOut 31 = .ok (.iconst 0, 1) := by decide +kernel
theorem dX2_carryOut_32 : decode cX2_carryOut 32 = .ok (.istore_n 3, 1) := by decide +kernel
theorem dX2_carryOut_33 : decode cX2_carryOut 33 = .ok (.iload_n 3, 1) := by decide +kernel
theorem dX2_carryOut_34 : decode cX2_carryOut 34 = .ok (.aload_n 0, 1) := by decide +kernel
theorem dX2_carryOut_35 : decode cX2_carryOut 35 = .ok (.getfield 26, 3) := by decide +kernel
theorem dX2_carryOut_38 : decode cX2_carryOut 38 = .ok (.getfield 174, 3) := by decide +kernel
theorem dX2_carryOut_41 : decode cX2_carryOut 41 = .ok (.if_icmp .ge 38, 3) := by decide +kernel
theorem dX2_carryOut_44 : decode cX2_carryOut 44 = .ok (.aload_n 0, 1) := by decide +kernel
theorem dX2_carryOut_45 : decode cX2_carryOut 45 = .ok (.getfield 26, 3) := by decide +kernel
theorem dX2_carryOut_48 : decode cX2_carryOut 48 = .ok (.invokevirtual 186, 3) := by decide +kernel
theorem dX2_carryOut_51 : decode cX2_carryOut 51 = .ok (.ifCond .eq 28, 3) := by decide +kernel
theorem dX2_carryOut_54 : decode cX2_carryOut 54 = .ok (.aload_n 0, 1) := by decide +kernel
theorem dX2_carryOut_55 : decode cX2_carryOut 55 = .ok (.getfield 26, 3) := by decide +kernel
theorem dX2_carryOut_58 : decode cX2_carryOut 58 = .ok (.invokevirtual 190, 3) := by decide +kernel
theorem dX2_carryOut_61 : decode cX2_carryOut 61 = .ok (.aload_n 0, 1) := by decide +kernel
theorem dX2_carryOut_62 : decode cX2_carryOut 62 = .ok (.invokevirtual 193, 3) := by decide +kernel
theorem dX2_carryOut_65 : decode cX2_carryOut 65 = .ok (.ifCond .ne 5, 3) := by decide +kernel
theorem dX2_carryOut_68 : decode cX2_carryOut 68 = .ok (.iload_n 2, 1) := by decide +kernel
theorem dX2_carryOut_69 : decode cX2_carryOut 69 = .ok (.ireturn, 1) := by decide +kernel
theorem dX2_carryOut_70 : decode cX2_carryOut 70 = .ok (.iinc 2 1, 3) := by decide +kernel
theorem dX2_carryOut_73 : decode cX2_carryOut 73 = .ok (.iinc 3 1, 3) := by decide +kernel
theorem dX2_carryOut_76 : decode cX2_carryOut 76 = .ok (.goto (-43), 3) := by decide +kernel
theorem dX2_carryOut_79 : decode cX2_carryOut 79 = .ok (.iload_n 2, 1) := by decide +kernel
theorem dX2_carryOut_80 : decode cX2_carryOut 80 = .ok (.ireturn, 1) := by decide +kernel
set_option maxRecDepth 20000 in
theorem ggX2_undo_X2_needAllowed : GoodIn wsX2_undo wsX2_needAllowed := goodIn_ca (goodIn_r _ [7, 8, 9] (by decide +kernel) (by decide +kernel)) (goodIn_sub (fun _ h => List.mem_cons_of_mem _ (List.mem_append_right _ h)) (by decide +kernel))
set_option maxRecDepth 20000 in
theorem gX2_undo_X2_needAllowed : GoodIn wsX2_undo (va_wsS RX2 60 yX2_needAllowed wsX2_needAllowed) := goodIn_app (goodIn_of _ (by decide +kernel)) ggX2_undo_X2_needAllowed
set_option maxRecDepth 20000 in
theorem ggX2_undo_X1_copyFrom : GoodIn wsX2_undo wsX1_copyFrom := goodIn_r _ [14, 15, 16, 17, 18, 19, 20, 21, 22, 23, 24, 25, 26, 27, 28, 29, 30, 31, 32, 33, 39, 40, 41, 42, 43, 44, 45, 46, 47, 48, 49, 50, 51, 52, 53] (by decide +kernel) (by decide +kernel)
set_option maxRecDepth 20000 in
theorem gX2_undo_X1_copyFrom : GoodIn wsX2_undo (wsV RX2 152 RX1 yX1_copyFrom wsX1_copyFrom) := goodIn_app (goodIn_of _ (by decide +kernel)) ggX2_undo_X1_copyFrom
theorem dX2_undo_0 : decode cX2_undo 0 = .ok (.aload_n 0, 1) := by decide +kernel
theorem dX2_undo_1 : decode cX2_undo 1 = .ok (.getfield 196, 3) := by decide +kernel
theorem dX2_undo_4 : decode cX2_undo 4 = .ok (.ifCond .le 7, 3) := by decide +kernel
theorem dX2_undo_7 : decode cX2_undo 7 = .ok (.iconst 1, 1) := by decide +kernel
theorem dX2_undo_8 : decode cX2_undo 8 = .ok (.goto 4, 3) := by decide +kernel
theorem dX2_undo_11 : decode cX2_undo 11 = .ok (.iconst 0, 1) := by decide +kernel
theorem dX2_undo_12 : decode cX2_undo 12 = .ok (.invokestatic 60, 3) := by decide +kernel
theorem dX2_undo_15 : decode cX2_undo 15 = .ok (.aload_n 0, 1) := by decide +kernel
theorem dX2_undo_16 : decode cX2_undo 16 = .ok (.dup, 1) := by decide +kernel
theorem dX2_undo_17 : decode cX2_undo 17 = .ok (.getfield 196, 3) := by decide +kernel
theorem dX2_undo_20 : decode cX2_undo 20 = .ok (.iconst 1, 1) := by decide +kernel
theorem dX2_undo_21 : decode cX2_undo 21 = .ok (.isub, 1) := by decide +kernel
theorem dX2_undo_22 : decode cX2_undo 22 = .ok (.putfield 196, 3) := by decide +kernel
theorem dX2_undo_25 : decode cX2_undo 25 = .ok (.aload_n 0, 1) := by decide +kernel
theorem dX2_undo_26 : decode cX2_undo 26 = .ok (.getfield 12, 3) := by decide +kernel
theorem dX2_undo_29 : decode cX2_undo 29 = .ok (.aload_n 0, 1) := by decide +kernel
theorem dX2_undo_30 : decode cX2_undo 30 = .ok (.getfield 19, 3) := by decide +kernel
theorem dX2_undo_33 : decode cX2_undo 33 = .ok (.aload_n 0, 1) := by decide +kernel
theorem dX2_undo_34 : decode cX2_undo 34 = .ok (.getfield 196, 3) := by decide +kernel
theorem dX2_undo_37 : decode cX2_undo 37 = .ok (.aaload, 1) := by decide +kernel
theorem dX2_undo_38 : decode cX2_undo 38 = .ok (.invokevirtual 152, 3) := by decide +kernel
theorem dX2_undo_41 : decode cX2_undo 41 = .ok (.aload_n 0, 1) := by decide +kernel
theorem dX2_undo_42 : decode cX2_undo 42 = .ok (.getfield 196, 3) := by decide +kernel
theorem dX2_undo_45 : decode cX2_undo 45 = .ok (.ireturn, 1) := by decide +kernel
set_option maxRecDepth 20000 in
theorem ggX2_digest_X1_aboutAll : GoodIn wsX2_digest wsX1_aboutAll := goodIn_r _ [14, 15, 16, 17, 18, 19, 20, 13, 21, 22, 23, 24, 25, 26, 27, 28, 29, 30, 31, 32, 33, 34, 35, 36, 37, 38, 39, 40, 41, 42, 43, 44, 45, 46, 47, 48, 49, 50, 51, 52, 53, 54, 55, 128, 129, 130, 131, 132, 133, 134, 135, 136, 137, 138, 139, 140, 141, 142] (by decide +kernel) (by decide +kernel)
set_option maxRecDepth 20000 in
theorem gX2_digest_X1_aboutAll : GoodIn wsX2_digest (wsV RX2 149 RX1 yX1_aboutAll wsX1_aboutAll) := goodIn_app (goodIn_of _ (by decide +kernel)) ggX2_digest_X1_aboutAll
set_option maxRecDepth 20000 in
theorem ggX2_digest_X2_digestPerson : GoodIn wsX2_digest wsX2_digestPerson := goodIn_r _ [59, 4, 5, 60, 61, 62, 13, 63, 64, 65, 66, 27, 67, 68, 69, 70, 71, 72, 73, 74, 75, 76, 77, 78, 79, 80, 81, 82, 83, 16, 47, 48, 49, 50, 84, 115, 116, 117, 118, 119, 128, 129, 130, 131, 132, 133, 134, 135, 136, 137, 138, 139, 140, 141, 142] (by decide +kernel) (by decide +kernel)
set_option maxRecDepth 20000 in
theorem gX2_digest_X2_digestPerson : GoodIn wsX2_digest (wsV RX2 203 RX2 yX2_digestPerson wsX2_digestPerson) := goodIn_app (goodIn_of _ (by decide +kernel)) ggX2_digest_X2_digestPerson
set_option maxRecDepth 20000 in
theorem ggX2_digest_X2_digestAbsence : GoodIn wsX2_digest wsX2_digestAbsence := goodIn_r _ [88, 4, 5, 7, 89, 90, 91, 92, 13, 93, 94, 95, 22, 96, 55, 43, 44, 45, 46, 15, 47, 48, 49, 50, 97, 98, 99, 100, 101, 102, 103, 104, 65, 75, 76, 77, 78, 64, 79, 66, 105, 106, 107, 108, 109, 110, 111, 112, 113, 114, 115, 116, 117, 118, 119, 128, 129, 130, 131, 132, 133, 134, 135, 136, 137, 138, 139, 140, 141, 142] (by decide +kernel) (by decide +kernel)
set_option maxRecDepth 20000 in
theorem gX2_digest_X2_digestAbsence : GoodIn wsX2_digest (wsV RX2 210 RX2 yX2_digestAbsence wsX2_digestAbsence) := goodIn_app (goodIn_of _ (by decide +kernel)) ggX2_digest_X2_digestAbsence
theorem dX2_digest_0 : decode cX2_digest 0 = .ok (.ldc2_w 199, 3) := by decide +kernel
theorem dX2_digest_3 : decode cX2_digest 3 = .ok (.aload_n 0, 1) := by decide +kernel
theorem dX2_digest_4 : decode cX2_digest 4 = .ok (.getfield 26, 3) := by decide +kernel
theorem dX2_digest_7 : decode cX2_digest 7 = .ok (.getfield 174, 3) := by decide +kernel
theorem dX2_digest_10 : decode cX2_digest 10 = .ok (.i2l, 1) := by decide +kernel
theorem dX2_digest_11 : decode cX2_digest 11 = .ok (.ladd, 1) := by decide +kernel
theorem dX2_digest_12 : decode cX2_digest 12 = .ok (.lstore_n 1, 1) := by decide +kernel
theorem dX2_digest_13 : decode cX2_digest 13 = .ok (.iconst 0, 1) := by decide +kernel
theorem dX2_digest_14 : decode cX2_digest 14 = .ok (.istore_n 3, 1) := by decide +kernel
theorem dX2_digest_15 : decode cX2_digest 15 = .ok (.iload_n 3, 1) := by decide +kernel
theorem dX2_digest_16 : decode cX2_digest 16 = .ok (.bipush 11, 2) := by decide +kernel
theorem dX2_digest_18 : decode cX2_digest 18 = .ok (.if_icmp .ge 25, 3) := by decide +kernel
theorem dX2_digest_21 : decode cX2_digest 21 = .ok (.ldc2_w 201, 3) := by decide +kernel
theorem dX2_digest_24 : decode cX2_digest 24 = .ok (.lload_n 1, 1) := by decide +kernel
theorem dX2_digest_25 : decode cX2_digest 25 = .ok (.lmul, 1) := by decide +kernel
theorem dX2_digest_26 : decode cX2_digest 26 = .ok (.aload_n 0, 1) := by decide +kernel
theorem dX2_digest_27 : decode cX2_digest 27 = .ok (.getfield 12, 3) := by decide +kernel
theorem dX2_digest_30 : decode cX2_digest 30 = .ok (.iload_n 3, 1) := by decide +kernel
theorem dX2_digest_31 : decode cX2_digest 31 = .ok (.invokevirtual 149, 3) := by decide +kernel
theorem dX2_digest_34 : decode cX2_digest 34 = .ok (.i2l, 1) := by decide +kernel
theorem dX2_digest_35 : decode cX2_digest 35 = .ok (.ladd, 1) := by decide +kernel
theorem dX2_digest_36 : decode cX2_digest 36 = .ok (.lstore_n 1, 1) := by decide +kernel
theorem dX2_digest_37 : decode cX2_digest 37 = .ok (.iinc 3 1, 3) := by decide +kernel
theorem dX2_digest_40 : decode cX2_digest 40 = .ok (.goto (-25), 3) := by decide +kernel
theorem dX2_digest_43 : decode cX2_digest 43 = .ok (.iconst 0, 1) := by decide +kernel
theorem dX2_digest_44 : decode cX2_digest 44 = .ok (.istore_n 3, 1) := by decide +kernel
theorem dX2_digest_45 : decode cX2_digest 45 = .ok (.iload_n 3, 1) := by decide +kernel
theorem dX2_digest_46 : decode cX2_digest 46 = .ok (.iconst 3, 1) := by decide +kernel
theorem dX2_digest_47 : decode cX2_digest 47 = .ok (.if_icmp .ge 26, 3) := by decide +kernel
theorem dX2_digest_50 : decode cX2_digest 50 = .ok (.ldc2_w 201, 3) := by decide +kernel
theorem dX2_digest_53 : decode cX2_digest 53 = .ok (.lload_n 1, 1) := by decide +kernel
theorem dX2_digest_54 : decode cX2_digest 54 = .ok (.lmul, 1) := by decide +kernel
theorem dX2_digest_55 : decode cX2_digest 55 = .ok (.aload_n 0, 1) := by decide +kernel
theorem dX2_digest_56 : decode cX2_digest 56 = .ok (.getfield 12, 3) := by decide +kernel
theorem dX2_digest_59 : decode cX2_digest 59 = .ok (.getfield 44, 3) := by decide +kernel
theorem dX2_digest_62 : decode cX2_digest 62 = .ok (.iload_n 3, 1) := by decide +kernel
theorem dX2_digest_63 : decode cX2_digest 63 = .ok (.iaload, 1) := by decide +kernel
theorem dX2_digest_64 : decode cX2_digest 64 = .ok (.i2l, 1) := by decide +kernel
theorem dX2_digest_65 : decode cX2_digest 65 = .ok (.ladd, 1) := by decide +kernel
theorem dX2_digest_66 : decode cX2_digest 66 = .ok (.lstore_n 1, 1) := by decide +kernel
theorem dX2_digest_67 : decode cX2_digest 67 = .ok (.iinc 3 1, 3) := by decide +kernel
theorem dX2_digest_70 : decode cX2_digest 70 = .ok (.goto (-25), 3) := by decide +kernel
theorem dX2_digest_73 : decode cX2_digest 73 = .ok (.iconst 0, 1) := by decide +kernel
theorem dX2_digest_74 : decode cX2_digest 74 = .ok (.istore_n 3, 1) := by decide +kernel
theorem dX2_digest_75 : decode cX2_digest 75 = .ok (.iload_n 3, 1) := by decide +kernel
theorem dX2_digest_76 : decode cX2_digest 76 = .ok (.aload_n 0, 1) := by decide +kernel
theorem dX2_digest_77 : decode cX2_digest 77 = .ok (.getfield 12, 3) := by decide +kernel
theorem dX2_digest_80 : decode cX2_digest 80 = .ok (.getfield 56, 3) := by decide +kernel
theorem dX2_digest_83 : decode cX2_digest 83 = .ok (.if_icmp .ge 16, 3) := by decide +kernel
theorem dX2_digest_86 : decode cX2_digest 86 = .ok (.aload_n 0, 1) := by decide +kernel
theorem dX2_digest_87 : decode cX2_digest 87 = .ok (.lload_n 1, 1) := by decide +kernel
theorem dX2_digest_88 : decode cX2_digest 88 = .ok (.iload_n 3, 1) := by decide +kernel
theorem dX2_digest_89 : decode cX2_digest 89 = .ok (.invokevirtual 203, 3) := by decide +kernel
theorem dX2_digest_92 : decode cX2_digest 92 = .ok (.lstore_n 1, 1) := by decide +kernel
theorem dX2_digest_93 : decode cX2_digest 93 = .ok (.iinc 3 1, 3) := by decide +kernel
theorem dX2_digest_96 : decode cX2_digest 96 = .ok (.goto (-21), 3) := by decide +kernel
theorem dX2_digest_99 : decode cX2_digest 99 = .ok (.iconst 0, 1) := by decide +kernel
theorem dX2_digest_100 : decode cX2_digest 100 = .ok (.istore_n 3, 1) := by decide +kernel
theorem dX2_digest_101 : decode cX2_digest 101 = .ok (.iload_n 3, 1) := by decide +kernel
theorem dX2_digest_102 : decode cX2_digest 102 = .ok (.aload_n 0, 1) := by decide +kernel
theorem dX2_digest_103 : decode cX2_digest 103 = .ok (.getfield 12, 3) := by decide +kernel
theorem dX2_digest_106 : decode cX2_digest 106 = .ok (.getfield 207, 3) := by decide +kernel
theorem dX2_digest_109 : decode cX2_digest 109 = .ok (.if_icmp .ge 16, 3) := by decide +kernel
theorem dX2_digest_112 : decode cX2_digest 112 = .ok (.aload_n 0, 1) := by decide +kernel
theorem dX2_digest_113 : decode cX2_digest 113 = .ok (.lload_n 1, 1) := by decide +kernel
theorem dX2_digest_114 : decode cX2_digest 114 = .ok (.iload_n 3, 1) := by decide +kernel
theorem dX2_digest_115 : decode cX2_digest 115 = .ok (.invokevirtual 210, 3) := by decide +kernel
theorem dX2_digest_118 : decode cX2_digest 118 = .ok (.lstore_n 1, 1) := by decide +kernel
theorem dX2_digest_119 : decode cX2_digest 119 = .ok (.iinc 3 1, 3) := by decide +kernel
theorem dX2_digest_122 : decode cX2_digest 122 = .ok (.goto (-21), 3) := by decide +kernel
theorem dX2_digest_125 : decode cX2_digest 125 = .ok (.ldc2_w 201, 3) := by decide +kernel
theorem dX2_digest_128 : decode cX2_digest 128 = .ok (.lload_n 1, 1) := by decide +kernel
theorem dX2_digest_129 : decode cX2_digest 129 = .ok (.lmul, 1) := by decide +kernel
theorem dX2_digest_130 : decode cX2_digest 130 = .ok (.aload_n 0, 1) := by decide +kernel
theorem dX2_digest_131 : decode cX2_digest 131 = .ok (.getfield 196, 3) := by decide +kernel
theorem dX2_digest_134 : decode cX2_digest 134 = .ok (.i2l, 1) := by decide +kernel
theorem dX2_digest_135 : decode cX2_digest 135 = .ok (.ladd, 1) := by decide +kernel
theorem dX2_digest_136 : decode cX2_digest 136 = .ok (.lreturn, 1) := by decide +kernel
set_option maxRecDepth 20000 in
theorem ggX2_digestPerson_X1_aboutPerson : GoodIn wsX2_digestPerson wsX1_aboutPerson := goodIn_r _ [7, 8, 9, 10, 11, 12, 13, 14, 15, 16, 17, 18, 19, 20, 21, 22, 6, 23, 24, 25, 26, 27, 28, 29, 30, 31, 32, 33, 40, 41, 42, 43, 44, 45, 46, 47, 48, 49, 50, 51, 52, 53, 54] (by decide +kernel) (by decide +kernel)
set_option maxRecDepth 20000 in
theorem gX2_digestPerson_X1_aboutPerson : GoodIn wsX2_digestPerson (wsV RX2 139 RX1 yX1_aboutPerson wsX1_aboutPerson) := goodIn_app (goodIn_of _ (by decide +kernel)) ggX2_digestPerson_X1_aboutPerson
set_option maxRecDepth 20000 in
theorem ggX2_digestPerson_X1_worked : GoodIn wsX2_digestPerson wsX1_worked := goodIn_r _ [23, 8, 9, 24, 10, 40, 41, 42, 43, 44, 45, 46, 47, 48, 49, 50, 51, 52, 53, 54] (by decide +kernel) (by decide +kernel)
set_option maxRecDepth 20000 in
theorem gX2_digestPerson_X1_worked : GoodIn wsX2_digestPerson (wsV RX2 142 RX1 yX1_worked wsX1_worked) := goodIn_app (goodIn_of _ (by decide +kernel)) ggX2_digestPerson_X1_worked
theorem dX2_digestPerson_0 : decode cX2_digestPerson 0 = .ok (.lload_n 1, 1) := by decide +kernel
theorem dX2_digestPerson_1 : decode cX2_digestPerson 1 = .ok (.lstore 4, 2) := by decide +kernel
theorem dX2_digestPerson_3 : decode cX2_digestPerson 3 = .ok (.iconst 0, 1) := by decide +kernel
theorem dX2_digestPerson_4 : decode cX2_digestPerson 4 = .ok (.istore 6, 2) := by decide +kernel
theorem dX2_digestPerson_6 : decode cX2_digestPerson 6 = .ok (.iload 6, 2) := by decide +kernel
theorem dX2_digestPerson_8 : decode cX2_digestPerson 8 = .ok (.bipush 7, 2) := by decide +kernel
theorem dX2_digestPerson_10 : decode cX2_digestPerson 10 = .ok (.if_icmp .ge 29, 3) := by decide +kernel
theorem dX2_digestPerson_13 : decode cX2_digestPerson 13 = .ok (.ldc2_w 201, 3) := by decide +kernel
theorem dX2_digestPerson_16 : decode cX2_digestPerson 16 = .ok (.lload 4, 2) := by decide +kernel
theorem dX2_digestPerson_18 : decode cX2_digestPerson 18 = .ok (.lmul, 1) := by decide +kernel
theorem dX2_digestPerson_19 : decode cX2_digestPerson 19 = .ok (.aload_n 0, 1) := by decide +kernel
theorem dX2_digestPerson_20 : decode cX2_digestPerson 20 = .ok (.getfield 12, 3) := by decide +kernel
theorem dX2_digestPerson_23 : decode cX2_digestPerson 23 = .ok (.iload_n 3, 1) := by decide +kernel
theorem dX2_digestPerson_24 : decode cX2_digestPerson 24 = .ok (.iload 6, 2) := by decide +kernel
theorem dX2_digestPerson_26 : decode cX2_digestPerson 26 = .ok (.invokevirtual 139, 3) := by decide +kernel
theorem dX2_digestPerson_29 : decode cX2_digestPerson 29 = .ok (.i2l, 1) := by decide +kernel
theorem dX2_digestPerson_30 : decode cX2_digestPerson 30 = .ok (.ladd, 1) := by decide +kernel
theorem dX2_digestPerson_31 : decode cX2_digestPerson 31 = .ok (.lstore 4, 2) := by decide +kernel
theorem dX2_digestPerson_33 : decode cX2_digestPerson 33 = .ok (.iinc 6 1, 3) := by decide +kernel
theorem dX2_digestPerson_36 : decode cX2_digestPerson 36 = .ok (.goto (-30), 3) := by decide +kernel
theorem dX2_digestPerson_39 : decode cX2_digestPerson 39 = .ok (.ldc2_w 201, 3) := by decide +kernel
theorem dX2_digestPerson_42 : decode cX2_digestPerson 42 = .ok (.lload 4, 2) := by decide +kernel
theorem dX2_digestPerson_44 : decode cX2_digestPerson 44 = .ok (.lmul, 1) := by decide +kernel
theorem dX2_digestPerson_45 : decode cX2_digestPerson 45 = .ok (.aload_n 0, 1) := by decide +kernel
theorem dX2_digestPerson_46 : decode cX2_digestPerson 46 = .ok (.getfield 12, 3) := by decide +kernel
theorem dX2_digestPerson_49 : decode cX2_digestPerson 49 = .ok (.iload_n 3, 1) := by decide +kernel
theorem dX2_digestPerson_50 : decode cX2_digestPerson 50 = .ok (.invokevirtual 142, 3) := by decide +kernel
theorem dX2_digestPerson_53 : decode cX2_digestPerson 53 = .ok (.ladd, 1) := by decide +kernel
theorem dX2_digestPerson_54 : decode cX2_digestPerson 54 = .ok (.lreturn, 1) := by decide +kernel
set_option maxRecDepth 20000 in
theorem ggX2_digestAbsence_X1_aboutAbsence : GoodIn wsX2_digestAbsence wsX1_aboutAbsence := goodIn_r _ [9, 10, 11, 12, 13, 14, 15, 16, 17, 8, 18, 19, 20, 21, 22, 23, 24, 25, 26, 27, 28, 29, 30, 31, 32, 33, 34, 35, 36, 37, 38, 39, 40, 41, 42, 43, 44, 45, 46, 47, 48, 55, 56, 57, 58, 59, 60, 61, 62, 63, 64, 65, 66, 67, 68, 69] (by decide +kernel) (by decide +kernel)
set_option maxRecDepth 20000 in
theorem gX2_digestAbsence_X1_aboutAbsence : GoodIn wsX2_digestAbsence (wsV RX2 146 RX1 yX1_aboutAbsence wsX1_aboutAbsence) := goodIn_app (goodIn_of _ (by decide +kernel)) ggX2_digestAbsence_X1_aboutAbsence
set_option maxRecDepth 20000 in
theorem ggX2_digestAbsence_X2_bidIndex : GoodIn wsX2_digestAbsence wsX2_bidIndex := goodIn_r _ [23] (by decide +kernel) (by decide +kernel)
set_option maxRecDepth 20000 in
theorem gX2_digestAbsence_X2_bidIndex : GoodIn wsX2_digestAbsence (va_wsS RX2 102 yX2_bidIndex wsX2_bidIndex) := goodIn_app (goodIn_of _ (by decide +kernel)) ggX2_digestAbsence_X2_bidIndex
theorem dX2_digestAbsence_0 : decode cX2_digestAbsence 0 = .ok (.lload_n 1, 1) := by decide +kernel
theorem dX2_digestAbsence_1 : decode cX2_digestAbsence 1 = .ok (.lstore 4, 2) := by decide +kernel
theorem dX2_digestAbsence_3 : decode cX2_digestAbsence 3 = .ok (.iconst 0, 1) := by decide +kernel
theorem dX2_digestAbsence_4 : decode cX2_digestAbsence 4 = .ok (.istore 6, 2) := by decide +kernel
theorem dX2_digestAbsence_6 : decode cX2_digestAbsence 6 = .ok (.iload 6, 2) := by decide +kernel
theorem dX2_digestAbsence_8 : decode cX2_digestAbsence 8 = .ok (.bipush 7, 2) := by decide +kernel
theorem dX2_digestAbsence_10 : decode cX2_digestAbsence 10 = .ok (.if_icmp .ge 29, 3) := by decide +kernel
theorem dX2_digestAbsence_13 : decode cX2_digestAbsence 13 = .ok (.ldc2_w 201, 3) := by decide +kernel
theorem dX2_digestAbsence_16 : decode cX2_digestAbsence 16 = .ok (.lload 4, 2) := by decide +kernel
theorem dX2_digestAbsence_18 : decode cX2_digestAbsence 18 = .ok (.lmul, 1) := by decide +kernel
theorem dX2_digestAbsence_19 : decode cX2_digestAbsence 19 = .ok (.aload_n 0, 1) := by decide +kernel
theorem dX2_digestAbsence_20 : decode cX2_digestAbsence 20 = .ok (.getfield 12, 3) := by decide +kernel
theorem dX2_digestAbsence_23 : decode cX2_digestAbsence 23 = .ok (.iload_n 3, 1) := by decide +kernel
theorem dX2_digestAbsence_24 : decode cX2_digestAbsence 24 = .ok (.iload 6, 2) := by decide +kernel
theorem dX2_digestAbsence_26 : decode cX2_digestAbsence 26 = .ok (.invokevirtual 146, 3) := by decide +kernel
theorem dX2_digestAbsence_29 : decode cX2_digestAbsence 29 = .ok (.i2l, 1) := by decide +kernel
theorem dX2_digestAbsence_30 : decode cX2_digestAbsence 30 = .ok (.ladd, 1) := by decide +kernel
theorem dX2_digestAbsence_31 : decode cX2_digestAbsence 31 = .ok (.lstore 4, 2) := by decide +kernel
theorem dX2_digestAbsence_33 : decode cX2_digestAbsence 33 = .ok (.iinc 6 1, 3) := by decide +kernel
theorem dX2_digestAbsence_36 : decode cX2_digestAbsence 36 = .ok (.goto (-30), 3) := by decide +kernel
theorem dX2_digestAbsence_39 : decode cX2_digestAbsence 39 = .ok (.iconst 0, 1) := by decide +kernel
theorem dX2_digestAbsence_40 : decode cX2_digestAbsence 40 = .ok (.istore 6, 2) := by decide +kernel
theorem dX2_digestAbsence_42 : decode cX2_digestAbsence 42 = .ok (.iload 6, 2) := by decide +kernel
theorem dX2_digestAbsence_44 : decode cX2_digestAbsence 44 = .ok (.aload_n 0, 1) := by decide +kernel
theorem dX2_digestAbsence_45 : decode cX2_digestAbsence 45 = .ok (.getfield 12, 3) := by decide +kernel
theorem dX2_digestAbsence_48 : decode cX2_digestAbsence 48 = .ok (.getfield 56, 3) := by decide +kernel
theorem dX2_digestAbsence_51 : decode cX2_digestAbsence 51 = .ok (.if_icmp .ge 33, 3) := by decide +kernel
theorem dX2_digestAbsence_54 : decode cX2_digestAbsence 54 = .ok (.ldc2_w 201, 3) := by decide +kernel
theorem dX2_digestAbsence_57 : decode cX2_digestAbsence 57 = .ok (.lload 4, 2) := by decide +kernel
theorem dX2_digestAbsence_59 : decode cX2_digestAbsence 59 = .ok (.lmul, 1) := by decide +kernel
theorem dX2_digestAbsence_60 : decode cX2_digestAbsence 60 = .ok (.aload_n 0, 1) := by decide +kernel
theorem dX2_digestAbsence_61 : decode cX2_digestAbsence 61 = .ok (.getfield 12, 3) := by decide +kernel
theorem dX2_digestAbsence_64 : decode cX2_digestAbsence 64 = .ok (.getfield 99, 3) := by decide +kernel
theorem dX2_digestAbsence_67 : decode cX2_digestAbsence 67 = .ok (.iload 6, 2) := by decide +kernel
theorem dX2_digestAbsence_69 : decode cX2_digestAbsence 69 = .ok (.iload_n 3, 1) := by decide +kernel
theorem dX2_digestAbsence_70 : decode cX2_digestAbsence 70 = .ok (.invokestatic 102, 3) := by decide +kernel
theorem dX2_digestAbsence_73 : decode cX2_digestAbsence 73 = .ok (.iaload, 1) := by decide +kernel
theorem dX2_digestAbsence_74 : decode cX2_digestAbsence 74 = .ok (.i2l, 1) := by decide +kernel
theorem dX2_digestAbsence_75 : decode cX2_digestAbsence 75 = .ok (.ladd, 1) := by decide +kernel
theorem dX2_digestAbsence_76 : decode cX2_digestAbsence 76 = .ok (.lstore 4, 2) := by decide +kernel
theorem dX2_digestAbsence_78 : decode cX2_digestAbsence 78 = .ok (.iinc 6 1, 3) := by decide +kernel
theorem dX2_digestAbsence_81 : decode cX2_digestAbsence 81 = .ok (.goto (-39), 3) := by decide +kernel
theorem dX2_digestAbsence_84 : decode cX2_digestAbsence 84 = .ok (.lload 4, 2) := by decide +kernel
theorem dX2_digestAbsence_86 : decode cX2_digestAbsence 86 = .ok (.lreturn, 1) := by decide +kernel
set_option maxRecDepth 20000 in
theorem ggX2_needPerson_X1_hasPerson : GoodIn wsX2_needPerson wsX1_hasPerson := goodIn_r _ [8, 9, 15, 16, 17, 18, 19, 20, 21, 22, 23, 24, 25, 26, 27, 28, 29] (by decide +kernel) (by decide +kernel)
set_option maxRecDepth 20000 in
theorem gX2_needPerson_X1_hasPerson : GoodIn wsX2_needPerson (wsV RX2 213 RX1 yX1_hasPerson wsX1_hasPerson) := goodIn_app (goodIn_of _ (by decide +kernel)) ggX2_needPerson_X1_hasPerson
theorem dX2_needPerson_0 : decode cX2_needPerson 0 = .ok (.aload_n 0, 1) := by decide +kernel
theorem dX2_needPerson_1 : decode cX2_needPerson 1 = .ok (.getfield 12, 3) := by decide +kernel
theorem dX2_needPerson_4 : decode cX2_needPerson 4 = .ok (.iload_n 1, 1) := by decide +kernel
theorem dX2_needPerson_5 : decode cX2_needPerson 5 = .ok (.invokevirtual 213, 3) := by decide +kernel
theorem dX2_needPerson_8 : decode cX2_needPerson 8 = .ok (.ifCond .ne 13, 3) := by decide +kernel
theorem dX2_needPerson_11 : decode cX2_needPerson 11 = .ok (.new 216, 3) := by decide +kernel
theorem dX2_needPerson_14 : decode cX2_needPerson 14 = .ok (.dup, 1) := by decide +kernel
theorem dX2_needPerson_15 : decode cX2_needPerson 15 = .ok (.ldc 218, 2) := by decide +kernel
theorem dX2_needPerson_17 : decode cX2_needPerson 17 = .ok (.invokespecial 220, 3) := by decide +kernel
theorem dX2_needPerson_20 : decode cX2_needPerson 20 = .ok (.athrow, 1) := by decide +kernel
theorem dX2_needPerson_21 : decode cX2_needPerson 21 = .ok (.return_, 1) := by decide +kernel
set_option maxRecDepth 20000 in
theorem ggX2_needAbsence_X1_hasAbsence : GoodIn wsX2_needAbsence wsX1_hasAbsence := goodIn_r _ [8, 9, 15, 16, 17, 18, 19, 20, 21, 22, 23, 24, 25, 26, 27, 28, 29] (by decide +kernel) (by decide +kernel)
set_option maxRecDepth 20000 in
theorem gX2_needAbsence_X1_hasAbsence : GoodIn wsX2_needAbsence (wsV RX2 221 RX1 yX1_hasAbsence wsX1_hasAbsence) := goodIn_app (goodIn_of _ (by decide +kernel)) ggX2_needAbsence_X1_hasAbsence
theorem dX2_needAbsence_0 : decode cX2_needAbsence 0 = .ok (.aload_n 0, 1) := by decide +kernel
theorem dX2_needAbsence_1 : decode cX2_needAbsence 1 = .ok (.getfield 12, 3) := by decide +kernel
theorem dX2_needAbsence_4 : decode cX2_needAbsence 4 = .ok (.iload_n 1, 1) := by decide +kernel
theorem dX2_needAbsence_5 : decode cX2_needAbsence 5 = .ok (.invokevirtual 221, 3) := by decide +kernel
theorem dX2_needAbsence_8 : decode cX2_needAbsence 8 = .ok (.ifCond .ne 13, 3) := by decide +kernel
theorem dX2_needAbsence_11 : decode cX2_needAbsence 11 = .ok (.new 216, 3) := by decide +kernel
theorem dX2_needAbsence_14 : decode cX2_needAbsence 14 = .ok (.dup, 1) := by decide +kernel
theorem dX2_needAbsence_15 : decode cX2_needAbsence 15 = .ok (.ldc 224, 2) := by decide +kernel
theorem dX2_needAbsence_17 : decode cX2_needAbsence 17 = .ok (.invokespecial 220, 3) := by decide +kernel
theorem dX2_needAbsence_20 : decode cX2_needAbsence 20 = .ok (.athrow, 1) := by decide +kernel
theorem dX2_needAbsence_21 : decode cX2_needAbsence 21 = .ok (.return_, 1) := by decide +kernel
theorem dX2_needInRange_0 : decode cX2_needInRange 0 = .ok (.iload_n 0, 1) := by decide +kernel
theorem dX2_needInRange_1 : decode cX2_needInRange 1 = .ok (.iload_n 1, 1) := by decide +kernel
theorem dX2_needInRange_2 : decode cX2_needInRange 2 = .ok (.if_icmp .lt 8, 3) := by decide +kernel
theorem dX2_needInRange_5 : decode cX2_needInRange 5 = .ok (.iload_n 0, 1) := by decide +kernel
theorem dX2_needInRange_6 : decode cX2_needInRange 6 = .ok (.iload_n 2, 1) := by decide +kernel
theorem dX2_needInRange_7 : decode cX2_needInRange 7 = .ok (.if_icmp .le 13, 3) := by decide +kernel
theorem dX2_needInRange_10 : decode cX2_needInRange 10 = .ok (.new 49, 3) := by decide +kernel
theorem dX2_needInRange_13 : decode cX2_needInRange 13 = .ok (.dup, 1) := by decide +kernel
theorem dX2_needInRange_14 : decode cX2_needInRange 14 = .ok (.ldc 226, 2) := by decide +kernel
theorem dX2_needInRange_16 : decode cX2_needInRange 16 = .ok (.invokespecial 53, 3) := by decide +kernel
theorem dX2_needInRange_19 : decode cX2_needInRange 19 = .ok (.athrow, 1) := by decide +kernel
theorem dX2_needInRange_20 : decode cX2_needInRange 20 = .ok (.return_, 1) := by decide +kernel
theorem dX2_needAllowed_0 : decode cX2_needAllowed 0 = .ok (.iload_n 0, 1) := by decide +kernel
theorem dX2_needAllowed_1 : decode cX2_needAllowed 1 = .ok (.ifCond .ne 13, 3) := by decide +kernel
theorem dX2_needAllowed_4 : decode cX2_needAllowed 4 = .ok (.new 228, 3) := by decide +kernel
theorem dX2_needAllowed_7 : decode cX2_needAllowed 7 = .ok (.dup, 1) := by decide +kernel
theorem dX2_needAllowed_8 : decode cX2_needAllowed 8 = .ok (.ldc 230, 2) := by decide +kernel
theorem dX2_needAllowed_10 : decode cX2_needAllowed 10 = .ok (.invokespecial 232, 3) := by decide +kernel
theorem dX2_needAllowed_13 : decode cX2_needAllowed 13 = .ok (.athrow, 1) := by decide +kernel
theorem dX2_needAllowed_14 : decode cX2_needAllowed 14 = .ok (.return_, 1) := by decide +kernel
set_option maxRecDepth 20000 in
theorem ggX2_save_X2_dropOldest : GoodIn wsX2_save wsX2_dropOldest := goodIn_r _ [8, 2, 1, 33, 34, 35, 36, 37] (by decide +kernel) (by decide +kernel)
set_option maxRecDepth 20000 in
theorem gX2_save_X2_dropOldest : GoodIn wsX2_save (wsV RX2 233 RX2 yX2_dropOldest wsX2_dropOldest) := goodIn_app (goodIn_of _ (by decide +kernel)) ggX2_save_X2_dropOldest
set_option maxRecDepth 20000 in
theorem ggX2_save_X1_copyFrom : GoodIn wsX2_save wsX1_copyFrom := goodIn_r _ [13, 14, 15, 16, 17, 18, 19, 20, 21, 22, 23, 24, 25, 26, 27, 28, 29, 30, 31, 32, 38, 39, 40, 41, 42, 43, 44, 45, 46, 47, 48, 49, 50, 51, 52] (by decide +kernel) (by decide +kernel)
set_option maxRecDepth 20000 in
theorem gX2_save_X1_copyFrom : GoodIn wsX2_save (wsV RX2 152 RX1 yX1_copyFrom wsX1_copyFrom) := goodIn_app (goodIn_of _ (by decide +kernel)) ggX2_save_X1_copyFrom
theorem dX2_save_0 : decode cX2_save 0 = .ok (.aload_n 0, 1) := by decide +kernel
theorem dX2_save_1 : decode cX2_save 1 = .ok (.getfield 196, 3) := by decide +kernel
theorem dX2_save_4 : decode cX2_save 4 = .ok (.iconst 4, 1) := by decide +kernel
theorem dX2_save_5 : decode cX2_save 5 = .ok (.if_icmp .ne 7, 3) := by decide +kernel
theorem dX2_save_8 : decode cX2_save 8 = .ok (.aload_n 0, 1) := by decide +kernel
theorem dX2_save_9 : decode cX2_save 9 = .ok (.invokevirtual 233, 3) := by decide +kernel
theorem dX2_save_12 : decode cX2_save 12 = .ok (.aload_n 0, 1) := by decide +kernel
theorem dX2_save_13 : decode cX2_save 13 = .ok (.getfield 19, 3) := by decide +kernel
theorem dX2_save_16 : decode cX2_save 16 = .ok (.aload_n 0, 1) := by decide +kernel
theorem dX2_save_17 : decode cX2_save 17 = .ok (.getfield 196, 3) := by decide +kernel
theorem dX2_save_20 : decode cX2_save 20 = .ok (.aaload, 1) := by decide +kernel
theorem dX2_save_21 : decode cX2_save 21 = .ok (.aload_n 0, 1) := by decide +kernel
theorem dX2_save_22 : decode cX2_save 22 = .ok (.getfield 12, 3) := by decide +kernel
theorem dX2_save_25 : decode cX2_save 25 = .ok (.invokevirtual 152, 3) := by decide +kernel
theorem dX2_save_28 : decode cX2_save 28 = .ok (.aload_n 0, 1) := by decide +kernel
theorem dX2_save_29 : decode cX2_save 29 = .ok (.dup, 1) := by decide +kernel
theorem dX2_save_30 : decode cX2_save 30 = .ok (.getfield 196, 3) := by decide +kernel
theorem dX2_save_33 : decode cX2_save 33 = .ok (.iconst 1, 1) := by decide +kernel
theorem dX2_save_34 : decode cX2_save 34 = .ok (.iadd, 1) := by decide +kernel
theorem dX2_save_35 : decode cX2_save 35 = .ok (.putfield 196, 3) := by decide +kernel
theorem dX2_save_38 : decode cX2_save 38 = .ok (.return_, 1) := by decide +kernel
theorem dX2_dropOldest_0 : decode cX2_dropOldest 0 = .ok (.aload_n 0, 1) := by decide +kernel
theorem dX2_dropOldest_1 : decode cX2_dropOldest 1 = .ok (.getfield 19, 3) := by decide +kernel
theorem dX2_dropOldest_4 : decode cX2_dropOldest 4 = .ok (.iconst 0, 1) := by decide +kernel
theorem dX2_dropOldest_5 : decode cX2_dropOldest 5 = .ok (.aaload, 1) := by decide +kernel
theorem dX2_dropOldest_6 : decode cX2_dropOldest 6 = .ok (.astore_n 1, 1) := by decide +kernel
theorem dX2_dropOldest_7 : decode cX2_dropOldest 7 = .ok (.iconst 1, 1) := by decide +kernel
theorem dX2_dropOldest_8 : decode cX2_dropOldest 8 = .ok (.istore_n 2, 1) := by decide +kernel
theorem dX2_dropOldest_9 : decode cX2_dropOldest 9 = .ok (.iload_n 2, 1) := by decide +kernel
theorem dX2_dropOldest_10 : decode cX2_dropOldest 10 = .ok (.iconst 4, 1) := by decide +kernel
theorem dX2_dropOldest_11 : decode cX2_dropOldest 11 = .ok (.if_icmp .ge 23, 3) := by decide +kernel
theorem dX2_dropOldest_14 : decode cX2_dropOldest 14 = .ok (.aload_n 0, 1) := by decide +kernel
theorem dX2_dropOldest_15 : decode cX2_dropOldest 15 = .ok (.getfield 19, 3) := by decide +kernel
theorem dX2_dropOldest_18 : decode cX2_dropOldest 18 = .ok (.iload_n 2, 1) := by decide +kernel
theorem dX2_dropOldest_19 : decode cX2_dropOldest 19 = .ok (.iconst 1, 1) := by decide +kernel
theorem dX2_dropOldest_20 : decode cX2_dropOldest 20 = .ok (.isub, 1) := by decide +kernel
theorem dX2_dropOldest_21 : decode cX2_dropOldest 21 = .ok (.aload_n 0, 1) := by decide +kernel
theorem dX2_dropOldest_22 : decode cX2_dropOldest 22 = .ok (.getfield 19, 3) := by decide +kernel
theorem dX2_dropOldest_25 : decode cX2_dropOldest 25 = .ok (.iload_n 2, 1) := by decide +kernel
theorem dX2_dropOldest_26 : decode cX2_dropOldest 26 = .ok (.aaload, 1) := by decide +kernel
theorem dX2_dropOldest_27 : decode cX2_dropOldest 27 = .ok (.aastore, 1) := by decide +kernel
theorem dX2_dropOldest_28 : decode cX2_dropOldest 28 = .ok (.iinc 2 1, 3) := by decide +kernel
theorem dX2_dropOldest_31 : decode cX2_dropOldest 31 = .ok (.goto (-22), 3) := by decide +kernel
theorem dX2_dropOldest_34 : decode cX2_dropOldest 34 = .ok (.aload_n 0, 1) := by decide +kernel
theorem dX2_dropOldest_35 : decode cX2_dropOldest 35 = .ok (.getfield 19, 3) := by decide +kernel
theorem dX2_dropOldest_38 : decode cX2_dropOldest 38 = .ok (.iconst 3, 1) := by decide +kernel
theorem dX2_dropOldest_39 : decode cX2_dropOldest 39 = .ok (.aload_n 1, 1) := by decide +kernel
theorem dX2_dropOldest_40 : decode cX2_dropOldest 40 = .ok (.aastore, 1) := by decide +kernel
theorem dX2_dropOldest_41 : decode cX2_dropOldest 41 = .ok (.aload_n 0, 1) := by decide +kernel
theorem dX2_dropOldest_42 : decode cX2_dropOldest 42 = .ok (.dup, 1) := by decide +kernel
theorem dX2_dropOldest_43 : decode cX2_dropOldest 43 = .ok (.getfield 196, 3) := by decide +kernel
theorem dX2_dropOldest_46 : decode cX2_dropOldest 46 = .ok (.iconst 1, 1) := by decide +kernel
theorem dX2_dropOldest_47 : decode cX2_dropOldest 47 = .ok (.isub, 1) := by decide +kernel
theorem dX2_dropOldest_48 : decode cX2_dropOldest 48 = .ok (.putfield 196, 3) := by decide +kernel
theorem dX2_dropOldest_51 : decode cX2_dropOldest 51 = .ok (.return_, 1) := by decide +kernel
set_option maxRecDepth 20000 in
theorem ggX2_obey_X2_obeyAbsent : GoodIn wsX2_obey wsX2_obeyAbsent := goodIn_r _ [11, 6, 12, 13, 14, 15, 16, 17, 18, 19, 20, 21, 22, 23, 24, 25, 26, 27, 28, 29, 30, 31, 32, 33, 34, 35, 36, 37, 38, 39, 40, 10, 41, 97, 98, 99, 100, 101, 110, 111, 112, 113, 114, 115, 116, 117, 118, 119, 120, 121, 122, 123, 124] (by decide +kernel) (by decide +kernel)
set_option maxRecDepth 20000 in
theorem gX2_obey_X2_obeyAbsent : GoodIn wsX2_obey (wsV RX2 245 RX2 yX2_obeyAbsent wsX2_obeyAbsent) := goodIn_app (goodIn_of _ (by decide +kernel)) ggX2_obey_X2_obeyAbsent
set_option maxRecDepth 20000 in
theorem ggX2_obey_X2_obeyBid : GoodIn wsX2_obey wsX2_obeyBid := goodIn_r _ [45, 6, 46, 47, 12, 13, 14, 15, 16, 17, 48, 49, 50, 51, 25, 52, 53, 54, 55, 32, 30, 56, 40, 10, 41, 97, 98, 99, 100, 101, 110, 111, 112, 113, 114, 115, 116, 117, 118, 119, 120, 121, 122, 123, 124] (by decide +kernel) (by decide +kernel)
set_option maxRecDepth 20000 in
theorem gX2_obey_X2_obeyBid : GoodIn wsX2_obey (wsV RX2 251 RX2 yX2_obeyBid wsX2_obeyBid) := goodIn_app (goodIn_of _ (by decide +kernel)) ggX2_obey_X2_obeyBid
set_option maxRecDepth 20000 in
theorem ggX2_obey_X1_hasAbsence : GoodIn wsX2_obey wsX1_hasAbsence := goodIn_r _ [51, 25, 110, 111, 112, 113, 114, 115, 116, 117, 118, 119, 120, 121, 122, 123, 124] (by decide +kernel) (by decide +kernel)
set_option maxRecDepth 20000 in
theorem gX2_obey_X1_hasAbsence : GoodIn wsX2_obey (wsV RX2 221 RX1 yX1_hasAbsence wsX1_hasAbsence) := goodIn_app (goodIn_of _ (by decide +kernel)) ggX2_obey_X1_hasAbsence
set_option maxRecDepth 20000 in
theorem ggX2_obey_X1_coverOpen : GoodIn wsX2_obey wsX1_coverOpen := goodIn_r _ [60, 39, 32, 34, 61, 62, 33, 63, 31, 64, 30, 65, 66, 67, 15, 68, 17, 69, 70, 71, 72, 23, 73, 74, 75, 76, 22, 24, 77, 78, 79, 80, 81, 82, 83, 84, 85, 86, 87, 88, 40, 10, 41, 89, 90, 91, 35, 36, 37, 38, 110, 111, 112, 113, 114, 115, 116, 117, 118, 119, 120, 121, 122, 123, 124] (by decide +kernel) (by decide +kernel)
set_option maxRecDepth 20000 in
theorem gX2_obey_X1_coverOpen : GoodIn wsX2_obey (wsV RX2 112 RX1 yX1_coverOpen wsX1_coverOpen) := goodIn_app (goodIn_of _ (by decide +kernel)) ggX2_obey_X1_coverOpen
set_option maxRecDepth 20000 in
theorem ggX2_obey_X1_coverAllOpen : GoodIn wsX2_obey wsX1_coverAllOpen := goodIn_r _ [95, 25, 96, 58, 59, 15, 60, 39, 32, 34, 61, 62, 33, 63, 31, 64, 30, 65, 66, 67, 68, 17, 69, 70, 71, 72, 23, 73, 74, 75, 76, 22, 24, 77, 78, 79, 80, 81, 82, 83, 84, 85, 86, 87, 88, 40, 10, 41, 89, 90, 91, 35, 36, 37, 38, 110, 111, 112, 113, 114, 115, 116, 117, 118, 119, 120, 121, 122, 123, 124] (by decide +kernel) (by decide +kernel)
set_option maxRecDepth 20000 in
theorem gX2_obey_X1_coverAllOpen : GoodIn wsX2_obey (wsV RX2 119 RX1 yX1_coverAllOpen wsX1_coverAllOpen) := goodIn_app (goodIn_of _ (by decide +kernel)) ggX2_obey_X1_coverAllOpen
theorem dX2_obey_0 : decode cX2_obey 0 = .ok (.aload_n 0, 1) := by decide +kernel
theorem dX2_obey_1 : decode cX2_obey 1 = .ok (.getfield 26, 3) := by decide +kernel
theorem dX2_obey_4 : decode cX2_obey 4 = .ok (.getfield 236, 3) := by decide +kernel
theorem dX2_obey_7 : decode cX2_obey 7 = .ok (.tableswitch 110 97 99 #[25, 44, 70], 25) := by decide +kernel
theorem dX2_obey_32 : decode cX2_obey 32 = .ok (.aload_n 0, 1) := by decide +kernel
theorem dX2_obey_33 : decode cX2_obey 33 = .ok (.aload_n 0, 1) := by decide +kernel
theorem dX2_obey_34 : decode cX2_obey 34 = .ok (.getfield 26, 3) := by decide +kernel
theorem dX2_obey_37 : decode cX2_obey 37 = .ok (.getfield 239, 3) := by decide +kernel
theorem dX2_obey_40 : decode cX2_obey 40 = .ok (.aload_n 0, 1) := by decide +kernel
theorem dX2_obey_41 : decode cX2_obey 41 = .ok (.getfield 26, 3) := by decide +kernel
theorem dX2_obey_44 : decode cX2_obey 44 = .ok (.getfield 242, 3) := by decide +kernel
theorem dX2_obey_47 : decode cX2_obey 47 = .ok (.invokevirtual 245, 3) := by decide +kernel
theorem dX2_obey_50 : decode cX2_obey 50 = .ok (.ireturn, 1) := by decide +kernel
theorem dX2_obey_51 : decode cX2_obey 51 = .ok (.aload_n 0, 1) := by decide +kernel
theorem dX2_obey_52 : decode cX2_obey 52 = .ok (.aload_n 0, 1) := by decide +kernel
theorem dX2_obey_53 : decode cX2_obey 53 = .ok (.getfield 26, 3) := by decide +kernel
theorem dX2_obey_56 : decode cX2_obey 56 = .ok (.getfield 239, 3) := by decide +kernel
theorem dX2_obey_59 : decode cX2_obey 59 = .ok (.aload_n 0, 1) := by decide +kernel
theorem dX2_obey_60 : decode cX2_obey 60 = .ok (.getfield 26, 3) := by decide +kernel
theorem dX2_obey_63 : decode cX2_obey 63 = .ok (.getfield 242, 3) := by decide +kernel
theorem dX2_obey_66 : decode cX2_obey 66 = .ok (.aload_n 0, 1) := by decide +kernel
theorem dX2_obey_67 : decode cX2_obey 67 = .ok (.getfield 26, 3) := by decide +kernel
theorem dX2_obey_70 : decode cX2_obey 70 = .ok (.getfield 248, 3) := by decide +kernel
theorem dX2_obey_73 : decode cX2_obey 73 = .ok (.invokevirtual 251, 3) := by decide +kernel
theorem dX2_obey_76 : decode cX2_obey 76 = .ok (.ireturn, 1) := by decide +kernel
theorem dX2_obey_77 : decode cX2_obey 77 = .ok (.aload_n 0, 1) := by decide +kernel
theorem dX2_obey_78 : decode cX2_obey 78 = .ok (.getfield 12, 3) := by decide +kernel
theorem dX2_obey_81 : decode cX2_obey 81 = .ok (.aload_n 0, 1) := by decide +kernel
theorem dX2_obey_82 : decode cX2_obey 82 = .ok (.getfield 26, 3) := by decide +kernel
theorem dX2_obey_85 : decode cX2_obey 85 = .ok (.getfield 242, 3) := by decide +kernel
theorem dX2_obey_88 : decode cX2_obey 88 = .ok (.invokevirtual 221, 3) := by decide +kernel
theorem dX2_obey_91 : decode cX2_obey 91 = .ok (.ifCond .eq 24, 3) := by decide +kernel
theorem dX2_obey_94 : decode cX2_obey 94 = .ok (.aload_n 0, 1) := by decide +kernel
theorem dX2_obey_95 : decode cX2_obey 95 = .ok (.getfield 12, 3) := by decide +kernel
theorem dX2_obey_98 : decode cX2_obey 98 = .ok (.aload_n 0, 1) := by decide +kernel
theorem dX2_obey_99 : decode cX2_obey 99 = .ok (.getfield 26, 3) := by decide +kernel
theorem dX2_obey_102 : decode cX2_obey 102 = .ok (.getfield 242, 3) := by decide +kernel
theorem dX2_obey_105 : decode cX2_obey 105 = .ok (.invokevirtual 112, 3) := by decide +kernel
theorem dX2_obey_108 : decode cX2_obey 108 = .ok (.ifCond .eq 7, 3) := by decide +kernel
theorem dX2_obey_111 : decode cX2_obey 111 = .ok (.iconst 1, 1) := by decide +kernel
theorem dX2_obey_112 : decode cX2_obey 112 = .ok (.goto 4, 3) := by decide +kernel
theorem dX2_obey_115 : decode cX2_obey 115 = .ok (.iconst 0, 1) := by decide +kernel
theorem dX2_obey_116 : decode cX2_obey 116 = .ok (.ireturn, 1) := by decide +kernel
theorem dX2_obey_117 : decode cX2_obey 117 = .ok (.aload_n 0, 1) := by decide +kernel
theorem dX2_obey_118 : decode cX2_obey 118 = .ok (.getfield 12, 3) := by decide +kernel
theorem dX2_obey_121 : decode cX2_obey 121 = .ok (.invokevirtual 119, 3) := by decide +kernel
theorem dX2_obey_124 : decode cX2_obey 124 = .ok (.pop, 1) := by decide +kernel
theorem dX2_obey_125 : decode cX2_obey 125 = .ok (.iconst 1, 1) := by decide +kernel
theorem dX2_obey_126 : decode cX2_obey 126 = .ok (.ireturn, 1) := by decide +kernel
set_option maxRecDepth 20000 in
theorem ggX2_obeyAbsent_X1_hasPerson : GoodIn wsX2_obeyAbsent wsX1_hasPerson := goodIn_r _ [6, 7, 38, 39, 40, 41, 42, 43, 44, 45, 46, 47, 48, 49, 50, 51, 52] (by decide +kernel) (by decide +kernel)
set_option maxRecDepth 20000 in
theorem gX2_obeyAbsent_X1_hasPerson : GoodIn wsX2_obeyAbsent (wsV RX2 213 RX1 yX1_hasPerson wsX1_hasPerson) := goodIn_app (goodIn_of _ (by decide +kernel)) ggX2_obeyAbsent_X1_hasPerson
set_option maxRecDepth 20000 in
theorem ggX2_obeyAbsent_X1_canBeAbsent : GoodIn wsX2_obeyAbsent wsX1_canBeAbsent := goodIn_r _ [11, 12, 13, 14, 15, 38, 39, 40, 41, 42, 43, 44, 45, 46, 47, 48, 49, 50, 51, 52] (by decide +kernel) (by decide +kernel)
set_option maxRecDepth 20000 in
theorem gX2_obeyAbsent_X1_canBeAbsent : GoodIn wsX2_obeyAbsent (wsV RX2 85 RX1 yX1_canBeAbsent wsX1_canBeAbsent) := goodIn_app (goodIn_of _ (by decide +kernel)) ggX2_obeyAbsent_X1_canBeAbsent
set_option maxRecDepth 20000 in
theorem ggX2_obeyAbsent_X1_enterAbsence : GoodIn wsX2_obeyAbsent wsX1_enterAbsence := goodIn_r _ [19, 15, 20, 21, 22, 23, 24, 13, 25, 26, 27, 5, 28, 29, 30, 31, 32, 38, 39, 40, 41, 42, 43, 44, 45, 46, 47, 48, 49, 50, 51, 52] (by decide +kernel) (by decide +kernel)
set_option maxRecDepth 20000 in
theorem gX2_obeyAbsent_X1_enterAbsence : GoodIn wsX2_obeyAbsent (wsV RX2 89 RX1 yX1_enterAbsence wsX1_enterAbsence) := goodIn_app (goodIn_of _ (by decide +kernel)) ggX2_obeyAbsent_X1_enterAbsence
theorem dX2_obeyAbsent_0 : decode cX2_obeyAbsent 0 = .ok (.aload_n 0, 1) := by decide +kernel
theorem dX2_obeyAbsent_1 : decode cX2_obeyAbsent 1 = .ok (.getfield 12, 3) := by decide +kernel
theorem dX2_obeyAbsent_4 : decode cX2_obeyAbsent 4 = .ok (.iload_n 1, 1) := by decide +kernel
theorem dX2_obeyAbsent_5 : decode cX2_obeyAbsent 5 = .ok (.invokevirtual 213, 3) := by decide +kernel
theorem dX2_obeyAbsent_8 : decode cX2_obeyAbsent 8 = .ok (.ifCond .eq 15, 3) := by decide +kernel
theorem dX2_obeyAbsent_11 : decode cX2_obeyAbsent 11 = .ok (.aload_n 0, 1) := by decide +kernel
theorem dX2_obeyAbsent_12 : decode cX2_obeyAbsent 12 = .ok (.getfield 12, 3) := by decide +kernel
theorem dX2_obeyAbsent_15 : decode cX2_obeyAbsent 15 = .ok (.iload_n 1, 1) := by decide +kernel
theorem dX2_obeyAbsent_16 : decode cX2_obeyAbsent 16 = .ok (.iload_n 2, 1) := by decide +kernel
theorem dX2_obeyAbsent_17 : decode cX2_obeyAbsent 17 = .ok (.invokevirtual 85, 3) := by decide +kernel
theorem dX2_obeyAbsent_20 : decode cX2_obeyAbsent 20 = .ok (.ifCond .ne 5, 3) := by decide +kernel
theorem dX2_obeyAbsent_23 : decode cX2_obeyAbsent 23 = .ok (.iconst 0, 1) := by decide +kernel
theorem dX2_obeyAbsent_24 : decode cX2_obeyAbsent 24 = .ok (.ireturn, 1) := by decide +kernel
theorem dX2_obeyAbsent_25 : decode cX2_obeyAbsent 25 = .ok (.aload_n 0, 1) := by decide +kernel
theorem dX2_obeyAbsent_26 : decode cX2_obeyAbsent 26 = .ok (.getfield 12, 3) := by decide +kernel
theorem dX2_obeyAbsent_29 : decode cX2_obeyAbsent 29 = .ok (.iload_n 1, 1) := by decide +kernel
theorem dX2_obeyAbsent_30 : decode cX2_obeyAbsent 30 = .ok (.iload_n 2, 1) := by decide +kernel
theorem dX2_obeyAbsent_31 : decode cX2_obeyAbsent 31 = .ok (.invokevirtual 89, 3) := by decide +kernel
theorem dX2_obeyAbsent_34 : decode cX2_obeyAbsent 34 = .ok (.pop, 1) := by decide +kernel
theorem dX2_obeyAbsent_35 : decode cX2_obeyAbsent 35 = .ok (.iconst 1, 1) := by decide +kernel
theorem dX2_obeyAbsent_36 : decode cX2_obeyAbsent 36 = .ok (.ireturn, 1) := by decide +kernel
set_option maxRecDepth 20000 in
theorem ggX2_obeyBid_X1_hasPerson : GoodIn wsX2_obeyBid wsX1_hasPerson := goodIn_r _ [8, 9, 30, 31, 32, 33, 34, 35, 36, 37, 38, 39, 40, 41, 42, 43, 44] (by decide +kernel) (by decide +kernel)
set_option maxRecDepth 20000 in
theorem gX2_obeyBid_X1_hasPerson : GoodIn wsX2_obeyBid (wsV RX2 213 RX1 yX1_hasPerson wsX1_hasPerson) := goodIn_app (goodIn_of _ (by decide +kernel)) ggX2_obeyBid_X1_hasPerson
set_option maxRecDepth 20000 in
theorem ggX2_obeyBid_X1_hasAbsence : GoodIn wsX2_obeyBid wsX1_hasAbsence := goodIn_r _ [13, 14, 30, 31, 32, 33, 34, 35, 36, 37, 38, 39, 40, 41, 42, 43, 44] (by decide +kernel) (by decide +kernel)
set_option maxRecDepth 20000 in
theorem gX2_obeyBid_X1_hasAbsence : GoodIn wsX2_obeyBid (wsV RX2 221 RX1 yX1_hasAbsence wsX1_hasAbsence) := goodIn_app (goodIn_of _ (by decide +kernel)) ggX2_obeyBid_X1_hasAbsence
set_option maxRecDepth 20000 in
theorem ggX2_obeyBid_X1_canBid : GoodIn wsX2_obeyBid wsX1_canBid := goodIn_r _ [18, 19, 20, 30, 31, 32, 33, 34, 35, 36, 37, 38, 39, 40, 41, 42, 43, 44] (by decide +kernel) (by decide +kernel)
set_option maxRecDepth 20000 in
theorem gX2_obeyBid_X1_canBid : GoodIn wsX2_obeyBid (wsV RX2 96 RX1 yX1_canBid wsX1_canBid) := goodIn_app (goodIn_of _ (by decide +kernel)) ggX2_obeyBid_X1_canBid
set_option maxRecDepth 20000 in
theorem ggX2_obeyBid_X2_bidIndex : GoodIn wsX2_obeyBid wsX2_bidIndex := goodIn_r _ [24] (by decide +kernel) (by decide +kernel)
set_option maxRecDepth 20000 in
theorem gX2_obeyBid_X2_bidIndex : GoodIn wsX2_obeyBid (va_wsS RX2 102 yX2_bidIndex wsX2_bidIndex) := goodIn_app (goodIn_of _ (by decide +kernel)) ggX2_obeyBid_X2_bidIndex
theorem dX2_obeyBid_0 : decode cX2_obeyBid 0 = .ok (.aload_n 0, 1) := by decide +kernel
theorem dX2_obeyBid_1 : decode cX2_obeyBid 1 = .ok (.getfield 12, 3) := by decide +kernel
theorem dX2_obeyBid_4 : decode cX2_obeyBid 4 = .ok (.iload_n 1, 1) := by decide +kernel
theorem dX2_obeyBid_5 : decode cX2_obeyBid 5 = .ok (.invokevirtual 213, 3) := by decide +kernel
theorem dX2_obeyBid_8 : decode cX2_obeyBid 8 = .ok (.ifCond .eq 14, 3) := by decide +kernel
theorem dX2_obeyBid_11 : decode cX2_obeyBid 11 = .ok (.aload_n 0, 1) := by decide +kernel
theorem dX2_obeyBid_12 : decode cX2_obeyBid 12 = .ok (.getfield 12, 3) := by decide +kernel
theorem dX2_obeyBid_15 : decode cX2_obeyBid 15 = .ok (.iload_n 2, 1) := by decide +kernel
theorem dX2_obeyBid_16 : decode cX2_obeyBid 16 = .ok (.invokevirtual 221, 3) := by decide +kernel
theorem dX2_obeyBid_19 : decode cX2_obeyBid 19 = .ok (.ifCond .ne 5, 3) := by decide +kernel
theorem dX2_obeyBid_22 : decode cX2_obeyBid 22 = .ok (.iconst 0, 1) := by decide +kernel
theorem dX2_obeyBid_23 : decode cX2_obeyBid 23 = .ok (.ireturn, 1) := by decide +kernel
theorem dX2_obeyBid_24 : decode cX2_obeyBid 24 = .ok (.iload_n 3, 1) := by decide +kernel
theorem dX2_obeyBid_25 : decode cX2_obeyBid 25 = .ok (.aload_n 0, 1) := by decide +kernel
theorem dX2_obeyBid_26 : decode cX2_obeyBid 26 = .ok (.getfield 12, 3) := by decide +kernel
theorem dX2_obeyBid_29 : decode cX2_obeyBid 29 = .ok (.getfield 44, 3) := by decide +kernel
theorem dX2_obeyBid_32 : decode cX2_obeyBid 32 = .ok (.iconst 2, 1) := by decide +kernel
theorem dX2_obeyBid_33 : decode cX2_obeyBid 33 = .ok (.iaload, 1) := by decide +kernel
theorem dX2_obeyBid_34 : decode cX2_obeyBid 34 = .ok (.if_icmp .gt 15, 3) := by decide +kernel
theorem dX2_obeyBid_37 : decode cX2_obeyBid 37 = .ok (.aload_n 0, 1) := by decide +kernel
theorem dX2_obeyBid_38 : decode cX2_obeyBid 38 = .ok (.getfield 12, 3) := by decide +kernel
theorem dX2_obeyBid_41 : decode cX2_obeyBid 41 = .ok (.iload_n 1, 1) := by decide +kernel
theorem dX2_obeyBid_42 : decode cX2_obeyBid 42 = .ok (.iload_n 2, 1) := by decide +kernel
theorem dX2_obeyBid_43 : decode cX2_obeyBid 43 = .ok (.invokevirtual 96, 3) := by decide +kernel
theorem dX2_obeyBid_46 : decode cX2_obeyBid 46 = .ok (.ifCond .ne 5, 3) := by decide +kernel
theorem dX2_obeyBid_49 : decode cX2_obeyBid 49 = .ok (.iconst 0, 1) := by decide +kernel
theorem dX2_obeyBid_50 : decode cX2_obeyBid 50 = .ok (.ireturn, 1) := by decide +kernel
theorem dX2_obeyBid_51 : decode cX2_obeyBid 51 = .ok (.aload_n 0, 1) := by decide +kernel
theorem dX2_obeyBid_52 : decode cX2_obeyBid 52 = .ok (.getfield 12, 3) := by decide +kernel
theorem dX2_obeyBid_55 : decode cX2_obeyBid 55 = .ok (.getfield 99, 3) := by decide +kernel
theorem dX2_obeyBid_58 : decode cX2_obeyBid 58 = .ok (.iload_n 1, 1) := by decide +kernel
theorem dX2_obeyBid_59 : decode cX2_obeyBid 59 = .ok (.iload_n 2, 1) := by decide +kernel
theorem dX2_obeyBid_60 : decode cX2_obeyBid 60 = .ok (.invokestatic 102, 3) := by decide +kernel
theorem dX2_obeyBid_63 : decode cX2_obeyBid 63 = .ok (.iload_n 3, 1) := by decide +kernel
theorem dX2_obeyBid_64 : decode cX2_obeyBid 64 = .ok (.iastore, 1) := by decide +kernel
theorem dX2_obeyBid_65 : decode cX2_obeyBid 65 = .ok (.iconst 1, 1) := by decide +kernel
theorem dX2_obeyBid_66 : decode cX2_obeyBid 66 = .ok (.ireturn, 1) := by decide +kernel
theorem dX2_bidIndex_0 : decode cX2_bidIndex 0 = .ok (.iload_n 1, 1) := by decide +kernel
theorem dX2_bidIndex_1 : decode cX2_bidIndex 1 = .ok (.bipush 8, 2) := by decide +kernel
theorem dX2_bidIndex_3 : decode cX2_bidIndex 3 = .ok (.imul, 1) := by decide +kernel
theorem dX2_bidIndex_4 : decode cX2_bidIndex 4 = .ok (.iload_n 0, 1) := by decide +kernel
theorem dX2_bidIndex_5 : decode cX2_bidIndex 5 = .ok (.iadd, 1) := by decide +kernel
theorem dX2_bidIndex_6 : decode cX2_bidIndex 6 = .ok (.ireturn, 1) := by decide +kernel
set_option maxRecDepth 20000 in
theorem ggX2_mostFrom_X1_nextOpen : GoodIn wsX2_mostFrom wsX1_nextOpen := goodIn_r _ [13, 14, 15, 42, 43, 44, 45, 46, 47, 48, 49, 50, 51, 52, 53, 54, 55, 56] (by decide +kernel) (by decide +kernel)
set_option maxRecDepth 20000 in
theorem gX2_mostFrom_X1_nextOpen : GoodIn wsX2_mostFrom (wsV RX2 255 RX1 yX1_nextOpen wsX1_nextOpen) := goodIn_app (goodIn_of _ (by decide +kernel)) ggX2_mostFrom_X1_nextOpen
set_option maxRecDepth 20000 in
theorem ggX2_mostFrom_X1_hindrance : GoodIn wsX2_mostFrom wsX1_hindrance := goodIn_r _ [19, 20, 21, 22, 23, 24, 25, 12, 26, 27, 28, 29, 30, 31, 32, 33, 34, 35, 36, 37, 38, 42, 43, 44, 45, 46, 47, 48, 49, 50, 51, 52, 53, 54, 55, 56] (by decide +kernel) (by decide +kernel)
set_option maxRecDepth 20000 in
theorem gX2_mostFrom_X1_hindrance : GoodIn wsX2_mostFrom (wsV RX2 126 RX1 yX1_hindrance wsX1_hindrance) := goodIn_app (goodIn_of _ (by decide +kernel)) ggX2_mostFrom_X1_hindrance
set_option maxRecDepth 20000 in
theorem ggX2_mostFrom_X2_mostFrom : GoodIn wsX2_mostFrom wsX2_mostFrom := goodIn_r _ [0, 1, 2, 3, 4, 5, 6, 7, 8, 9, 10, 11, 12, 13, 14, 15, 16, 17, 18, 19, 20, 21, 22, 23, 24, 25, 26, 27, 28, 29, 30, 31, 32, 33, 34, 35, 36, 37, 38, 39, 40, 41, 42, 43, 44, 45, 46, 47, 48, 49, 50, 51, 52, 53, 54, 55, 56] (by decide +kernel) (by decide +kernel)
set_option maxRecDepth 20000 in
theorem gX2_mostFrom_X2_mostFrom : GoodIn wsX2_mostFrom (va_wsS RX2 159 yX2_mostFrom wsX2_mostFrom) := goodIn_app (goodIn_of _ (by decide +kernel)) ggX2_mostFrom_X2_mostFrom
theorem dX2_mostFrom_0 : decode cX2_mostFrom 0 = .ok (.aload_n 0, 1) := by decide +kernel
theorem dX2_mostFrom_1 : decode cX2_mostFrom 1 = .ok (.iload_n 1, 1) := by decide +kernel
theorem dX2_mostFrom_2 : decode cX2_mostFrom 2 = .ok (.invokevirtual 255, 3) := by decide +kernel
theorem dX2_mostFrom_5 : decode cX2_mostFrom 5 = .ok (.istore_n 3, 1) := by decide +kernel
theorem dX2_mostFrom_6 : decode cX2_mostFrom 6 = .ok (.iload_n 3, 1) := by decide +kernel
theorem dX2_mostFrom_7 : decode cX2_mostFrom 7 = .ok (.iconst (-1), 1) := by decide +kernel
theorem dX2_mostFrom_8 : decode cX2_mostFrom 8 = .ok (.if_icmp .eq 7, 3) := by decide +kernel
theorem dX2_mostFrom_11 : decode cX2_mostFrom 11 = .ok (.iload_n 2, 1) := by decide +kernel
theorem dX2_mostFrom_12 : decode cX2_mostFrom 12 = .ok (.ifCond .gt 5, 3) := by decide +kernel
theorem dX2_mostFrom_15 : decode cX2_mostFrom 15 = .ok (.iconst 0, 1) := by decide +kernel
theorem dX2_mostFrom_16 : decode cX2_mostFrom 16 = .ok (.ireturn, 1) := by decide +kernel
theorem dX2_mostFrom_17 : decode cX2_mostFrom 17 = .ok (.iconst 0, 1) := by decide +kernel
theorem dX2_mostFrom_18 : decode cX2_mostFrom 18 = .ok (.istore 4, 2) := by decide +kernel
theorem dX2_mostFrom_20 : decode cX2_mostFrom 20 = .ok (.lconst 1, 1) := by decide +kernel
theorem dX2_mostFrom_21 : decode cX2_mostFrom 21 = .ok (.aload_n 0, 1) := by decide +kernel
theorem dX2_mostFrom_22 : decode cX2_mostFrom 22 = .ok (.getfield 258, 3) := by decide +kernel
theorem dX2_mostFrom_25 : decode cX2_mostFrom 25 = .ok (.iload_n 3, 1) := by decide +kernel
theorem dX2_mostFrom_26 : decode cX2_mostFrom 26 = .ok (.iaload, 1) := by decide +kernel
theorem dX2_mostFrom_27 : decode cX2_mostFrom 27 = .ok (.lshl, 1) := by decide +kernel
theorem dX2_mostFrom_28 : decode cX2_mostFrom 28 = .ok (.lstore 5, 2) := by decide +kernel
theorem dX2_mostFrom_30 : decode cX2_mostFrom 30 = .ok (.iconst 0, 1) := by decide +kernel
theorem dX2_mostFrom_31 : decode cX2_mostFrom 31 = .ok (.istore 7, 2) := by decide +kernel
theorem dX2_mostFrom_33 : decode cX2_mostFrom 33 = .ok (.iload 7, 2) := by decide +kernel
theorem dX2_mostFrom_35 : decode cX2_mostFrom 35 = .ok (.aload_n 0, 1) := by decide +kernel
theorem dX2_mostFrom_36 : decode cX2_mostFrom 36 = .ok (.getfield 56, 3) := by decide +kernel
theorem dX2_mostFrom_39 : decode cX2_mostFrom 39 = .ok (.if_icmp .ge 72, 3) := by decide +kernel
theorem dX2_mostFrom_42 : decode cX2_mostFrom 42 = .ok (.iload 4, 2) := by decide +kernel
theorem dX2_mostFrom_44 : decode cX2_mostFrom 44 = .ok (.iload_n 2, 1) := by decide +kernel
theorem dX2_mostFrom_45 : decode cX2_mostFrom 45 = .ok (.if_icmp .ge 66, 3) := by decide +kernel
theorem dX2_mostFrom_48 : decode cX2_mostFrom 48 = .ok (.aload_n 0, 1) := by decide +kernel
theorem dX2_mostFrom_49 : decode cX2_mostFrom 49 = .ok (.iload 7, 2) := by decide +kernel
theorem dX2_mostFrom_51 : decode cX2_mostFrom 51 = .ok (.iload_n 3, 1) := by decide +kernel
theorem dX2_mostFrom_52 : decode cX2_mostFrom 52 = .ok (.invokevirtual 126, 3) := by decide +kernel
theorem dX2_mostFrom_55 : decode cX2_mostFrom 55 = .ok (.ifCond .ne 50, 3) := by decide +kernel
theorem dX2_mostFrom_58 : decode cX2_mostFrom 58 = .ok (.aload_n 0, 1) := by decide +kernel
theorem dX2_mostFrom_59 : decode cX2_mostFrom 59 = .ok (.getfield 261, 3) := by decide +kernel
theorem dX2_mostFrom_62 : decode cX2_mostFrom 62 = .ok (.iload 7, 2) := by decide +kernel
theorem dX2_mostFrom_64 : decode cX2_mostFrom 64 = .ok (.dup2, 1) := by decide +kernel
theorem dX2_mostFrom_65 : decode cX2_mostFrom 65 = .ok (.laload, 1) := by decide +kernel
theorem dX2_mostFrom_66 : decode cX2_mostFrom 66 = .ok (.lload 5, 2) := by decide +kernel
theorem dX2_mostFrom_68 : decode cX2_mostFrom 68 = .ok (.lor, 1) := by decide +kernel
theorem dX2_mostFrom_69 : decode cX2_mostFrom 69 = .ok (.lastore, 1) := by decide +kernel
theorem dX2_mostFrom_70 : decode cX2_mostFrom 70 = .ok (.iload 4, 2) := by decide +kernel
theorem dX2_mostFrom_72 : decode cX2_mostFrom 72 = .ok (.iconst 1, 1) := by decide +kernel
theorem dX2_mostFrom_73 : decode cX2_mostFrom 73 = .ok (.aload_n 0, 1) := by decide +kernel
theorem dX2_mostFrom_74 : decode cX2_mostFrom 74 = .ok (.iload_n 3, 1) := by decide +kernel
theorem dX2_mostFrom_75 : decode cX2_mostFrom 75 = .ok (.iconst 1, 1) := by decide +kernel
theorem dX2_mostFrom_76 : decode cX2_mostFrom 76 = .ok (.iadd, 1) := by decide +kernel
theorem dX2_mostFrom_77 : decode cX2_mostFrom 77 = .ok (.iload_n 2, 1) := by decide +kernel
theorem dX2_mostFrom_78 : decode cX2_mostFrom 78 = .ok (.iconst 1, 1) := by decide +kernel
theorem dX2_mostFrom_79 : decode cX2_mostFrom 79 = .ok (.isub, 1) := by decide +kernel
theorem dX2_mostFrom_80 : decode cX2_mostFrom 80 = .ok (.invokestatic 159, 3) := by decide +kernel
theorem dX2_mostFrom_83 : decode cX2_mostFrom 83 = .ok (.iadd, 1) := by decide +kernel
theorem dX2_mostFrom_84 : decode cX2_mostFrom 84 = .ok (.invokestatic 264, 3) := by decide +kernel
theorem dX2_mostFrom_87 : decode cX2_mostFrom 87 = .ok (.istore 4, 2) := by decide +kernel
theorem dX2_mostFrom_89 : decode cX2_mostFrom 89 = .ok (.aload_n 0, 1) := by decide +kernel
theorem dX2_mostFrom_90 : decode cX2_mostFrom 90 = .ok (.getfield 261, 3) := by decide +kernel
theorem dX2_mostFrom_93 : decode cX2_mostFrom 93 = .ok (.iload 7, 2) := by decide +kernel
theorem dX2_mostFrom_95 : decode cX2_mostFrom 95 = .ok (.dup2, 1) := by decide +kernel
theorem dX2_mostFrom_96 : decode cX2_mostFrom 96 = .ok (.laload, 1) := by decide +kernel
theorem dX2_mostFrom_97 : decode cX2_mostFrom 97 = .ok (.lload 5, 2) := by decide +kernel
theorem dX2_mostFrom_99 : decode cX2_mostFrom 99 = .ok (.ldc2_w 267, 3) := by decide +kernel
theorem dX2_mostFrom_102 : decode cX2_mostFrom 102 = .ok (.lxor, 1) := by decide +kernel
theorem dX2_mostFrom_103 : decode cX2_mostFrom 103 = .ok (.land, 1) := by decide +kernel
theorem dX2_mostFrom_104 : decode cX2_mostFrom 104 = .ok (.lastore, 1) := by decide +kernel
theorem dX2_mostFrom_105 : decode cX2_mostFrom 105 = .ok (.iinc 7 1, 3) := by decide +kernel
theorem dX2_mostFrom_108 : decode cX2_mostFrom 108 = .ok (.goto (-75), 3) := by decide +kernel
theorem dX2_mostFrom_111 : decode cX2_mostFrom 111 = .ok (.iload 4, 2) := by decide +kernel
theorem dX2_mostFrom_113 : decode cX2_mostFrom 113 = .ok (.iload_n 2, 1) := by decide +kernel
theorem dX2_mostFrom_114 : decode cX2_mostFrom 114 = .ok (.iconst 1, 1) := by decide +kernel
theorem dX2_mostFrom_115 : decode cX2_mostFrom 115 = .ok (.isub, 1) := by decide +kernel
theorem dX2_mostFrom_116 : decode cX2_mostFrom 116 = .ok (.if_icmp .ge 20, 3) := by decide +kernel
theorem dX2_mostFrom_119 : decode cX2_mostFrom 119 = .ok (.iload 4, 2) := by decide +kernel
theorem dX2_mostFrom_121 : decode cX2_mostFrom 121 = .ok (.aload_n 0, 1) := by decide +kernel
theorem dX2_mostFrom_122 : decode cX2_mostFrom 122 = .ok (.iload_n 3, 1) := by decide +kernel
theorem dX2_mostFrom_123 : decode cX2_mostFrom 123 = .ok (.iconst 1, 1) := by decide +kernel
theorem dX2_mostFrom_124 : decode cX2_mostFrom 124 = .ok (.iadd, 1) := by decide +kernel
theorem dX2_mostFrom_125 : decode cX2_mostFrom 125 = .ok (.iload_n 2, 1) := by decide +kernel
theorem dX2_mostFrom_126 : decode cX2_mostFrom 126 = .ok (.iconst 1, 1) := by decide +kernel
theorem dX2_mostFrom_127 : decode cX2_mostFrom 127 = .ok (.isub, 1) := by decide +kernel
theorem dX2_mostFrom_128 : decode cX2_mostFrom 128 = .ok (.invokestatic 159, 3) := by decide +kernel
theorem dX2_mostFrom_131 : decode cX2_mostFrom 131 = .ok (.invokestatic 264, 3) := by decide +kernel
theorem dX2_mostFrom_134 : decode cX2_mostFrom 134 = .ok (.istore 4, 2) := by decide +kernel
theorem dX2_mostFrom_136 : decode cX2_mostFrom 136 = .ok (.iload 4, 2) := by decide +kernel
theorem dX2_mostFrom_138 : decode cX2_mostFrom 138 = .ok (.ireturn, 1) := by decide +kernel
theorem dX3_init_0 : decode cX3_init 0 = .ok (.aload_n 0, 1) := by decide +kernel
theorem dX3_init_1 : decode cX3_init 1 = .ok (.invokespecial 1, 3) := by decide +kernel
theorem dX3_init_4 : decode cX3_init 4 = .ok (.aload_n 0, 1) := by decide +kernel
theorem dX3_init_5 : decode cX3_init 5 = .ok (.sipush 420, 3) := by decide +kernel
theorem dX3_init_8 : decode cX3_init 8 = .ok (.newarray .long, 2) := by decide +kernel
theorem dX3_init_10 : decode cX3_init 10 = .ok (.putfield 7, 3) := by decide +kernel
theorem dX3_init_13 : decode cX3_init 13 = .ok (.aload_n 0, 1) := by decide +kernel
theorem dX3_init_14 : decode cX3_init 14 = .ok (.sipush 2100, 3) := by decide +kernel
theorem dX3_init_17 : decode cX3_init 17 = .ok (.newarray .long, 2) := by decide +kernel
theorem dX3_init_19 : decode cX3_init 19 = .ok (.putfield 13, 3) := by decide +kernel
theorem dX3_init_22 : decode cX3_init 22 = .ok (.aload_n 0, 1) := by decide +kernel
theorem dX3_init_23 : decode cX3_init 23 = .ok (.bipush 100, 2) := by decide +kernel
theorem dX3_init_25 : decode cX3_init 25 = .ok (.newarray .int, 2) := by decide +kernel
theorem dX3_init_27 : decode cX3_init 27 = .ok (.putfield 16, 3) := by decide +kernel
theorem dX3_init_30 : decode cX3_init 30 = .ok (.aload_n 0, 1) := by decide +kernel
theorem dX3_init_31 : decode cX3_init 31 = .ok (.bipush 30, 2) := by decide +kernel
theorem dX3_init_33 : decode cX3_init 33 = .ok (.newarray .int, 2) := by decide +kernel
theorem dX3_init_35 : decode cX3_init 35 = .ok (.putfield 20, 3) := by decide +kernel
theorem dX3_init_38 : decode cX3_init 38 = .ok (.aload_n 0, 1) := by decide +kernel
theorem dX3_init_39 : decode cX3_init 39 = .ok (.bipush 30, 2) := by decide +kernel
theorem dX3_init_41 : decode cX3_init 41 = .ok (.newarray .int, 2) := by decide +kernel
theorem dX3_init_43 : decode cX3_init 43 = .ok (.putfield 23, 3) := by decide +kernel
theorem dX3_init_46 : decode cX3_init 46 = .ok (.aload_n 0, 1) := by decide +kernel
theorem dX3_init_47 : decode cX3_init 47 = .ok (.getfield 7, 3) := by decide +kernel
theorem dX3_init_50 : decode cX3_init 50 = .ok (.iconst 0, 1) := by decide +kernel
theorem dX3_init_51 : decode cX3_init 51 = .ok (.lconst 1, 1) := by decide +kernel
theorem dX3_init_52 : decode cX3_init 52 = .ok (.lastore, 1) := by decide +kernel
theorem dX3_init_53 : decode cX3_init 53 = .ok (.aload_n 0, 1) := by decide +kernel
theorem dX3_init_54 : decode cX3_init 54 = .ok (.getfield 7, 3) := by decide +kernel
theorem dX3_init_57 : decode cX3_init 57 = .ok (.iconst 1, 1) := by decide +kernel
theorem dX3_init_58 : decode cX3_init 58 = .ok (.ldc2_w 26, 3) := by decide +kernel
theorem dX3_init_61 : decode cX3_init 61 = .ok (.lastore, 1) := by decide +kernel
theorem dX3_init_62 : decode cX3_init 62 = .ok (.aload_n 0, 1) := by decide +kernel
theorem dX3_init_63 : decode cX3_init 63 = .ok (.getfield 7, 3) := by decide +kernel
theorem dX3_init_66 : decode cX3_init 66 = .ok (.iconst 2, 1) := by decide +kernel
theorem dX3_init_67 : decode cX3_init 67 = .ok (.ldc2_w 28, 3) := by decide +kernel
theorem dX3_init_70 : decode cX3_init 70 = .ok (.lastore, 1) := by decide +kernel
theorem dX3_init_71 : decode cX3_init 71 = .ok (.return_, 1) := by decide +kernel
theorem dX3_isIn_0 : decode cX3_isIn 0 = .ok (.lload_n 0, 1) := by decide +kernel
theorem dX3_isIn_1 : decode cX3_isIn 1 = .ok (.lload_n 2, 1) := by decide +kernel
theorem dX3_isIn_2 : decode cX3_isIn 2 = .ok (.lcmp, 1) := by decide +kernel
theorem dX3_isIn_3 : decode cX3_isIn 3 = .ok (.ifCond .lt 14, 3) := by decide +kernel
theorem dX3_isIn_6 : decode cX3_isIn 6 = .ok (.lload_n 0, 1) := by decide +kernel
theorem dX3_isIn_7 : decode cX3_isIn 7 = .ok (.lload 4, 2) := by decide +kernel
theorem dX3_isIn_9 : decode cX3_isIn 9 = .ok (.lcmp, 1) := by decide +kernel
theorem dX3_isIn_10 : decode cX3_isIn 10 = .ok (.ifCond .gt 7, 3) := by decide +kernel
theorem dX3_isIn_13 : decode cX3_isIn 13 = .ok (.iconst 1, 1) := by decide +kernel
theorem dX3_isIn_14 : decode cX3_isIn 14 = .ok (.goto 4, 3) := by decide +kernel
theorem dX3_isIn_17 : decode cX3_isIn 17 = .ok (.iconst 0, 1) := by decide +kernel
theorem dX3_isIn_18 : decode cX3_isIn 18 = .ok (.ireturn, 1) := by decide +kernel
theorem dX3_thrown_0 : decode cX3_thrown 0 = .ok (.aload_n 0, 1) := by decide +kernel
theorem dX3_thrown_1 : decode cX3_thrown 1 = .ok (.getfield 30, 3) := by decide +kernel
theorem dX3_thrown_4 : decode cX3_thrown 4 = .ok (.ireturn, 1) := by decide +kernel
theorem dX3_ofA_0 : decode cX3_ofA 0 = .ok (.aload_n 0, 1) := by decide +kernel
theorem dX3_ofA_1 : decode cX3_ofA 1 = .ok (.getfield 7, 3) := by decide +kernel
theorem dX3_ofA_4 : decode cX3_ofA 4 = .ok (.bipush 30, 2) := by decide +kernel
theorem dX3_ofA_6 : decode cX3_ofA 6 = .ok (.bipush 13, 2) := by decide +kernel
theorem dX3_ofA_8 : decode cX3_ofA 8 = .ok (.iload_n 1, 1) := by decide +kernel
theorem dX3_ofA_9 : decode cX3_ofA 9 = .ok (.imul, 1) := by decide +kernel
theorem dX3_ofA_10 : decode cX3_ofA 10 = .ok (.iadd, 1) := by decide +kernel
theorem dX3_ofA_11 : decode cX3_ofA 11 = .ok (.iload_n 2, 1) := by decide +kernel
theorem dX3_ofA_12 : decode cX3_ofA 12 = .ok (.iadd, 1) := by decide +kernel
theorem dX3_ofA_13 : decode cX3_ofA 13 = .ok (.laload, 1) := by decide +kernel
theorem dX3_ofA_14 : decode cX3_ofA 14 = .ok (.l2i, 1) := by decide +kernel
theorem dX3_ofA_15 : decode cX3_ofA 15 = .ok (.ireturn, 1) := by decide +kernel
theorem dX3_becomes_0 : decode cX3_becomes 0 = .ok (.aload_n 0, 1) := by decide +kernel
theorem dX3_becomes_1 : decode cX3_becomes 1 = .ok (.getfield 7, 3) := by decide +kernel
theorem dX3_becomes_4 : decode cX3_becomes 4 = .ok (.bipush 30, 2) := by decide +kernel
theorem dX3_becomes_6 : decode cX3_becomes 6 = .ok (.bipush 13, 2) := by decide +kernel
theorem dX3_becomes_8 : decode cX3_becomes 8 = .ok (.iload_n 1, 1) := by decide +kernel
theorem dX3_becomes_9 : decode cX3_becomes 9 = .ok (.imul, 1) := by decide +kernel
theorem dX3_becomes_10 : decode cX3_becomes 10 = .ok (.iadd, 1) := by decide +kernel
theorem dX3_becomes_11 : decode cX3_becomes 11 = .ok (.iload_n 2, 1) := by decide +kernel
theorem dX3_becomes_12 : decode cX3_becomes 12 = .ok (.iadd, 1) := by decide +kernel
theorem dX3_becomes_13 : decode cX3_becomes 13 = .ok (.iload_n 3, 1) := by decide +kernel
theorem dX3_becomes_14 : decode cX3_becomes 14 = .ok (.i2l, 1) := by decide +kernel
theorem dX3_becomes_15 : decode cX3_becomes 15 = .ok (.lastore, 1) := by decide +kernel
theorem dX3_becomes_16 : decode cX3_becomes 16 = .ok (.return_, 1) := by decide +kernel
theorem dX3_ofP_0 : decode cX3_ofP 0 = .ok (.aload_n 0, 1) := by decide +kernel
theorem dX3_ofP_1 : decode cX3_ofP 1 = .ok (.getfield 7, 3) := by decide +kernel
theorem dX3_ofP_4 : decode cX3_ofP 4 = .ok (.bipush 6, 2) := by decide +kernel
theorem dX3_ofP_6 : decode cX3_ofP 6 = .ok (.iconst 3, 1) := by decide +kernel
theorem dX3_ofP_7 : decode cX3_ofP 7 = .ok (.iload_n 1, 1) := by decide +kernel
theorem dX3_ofP_8 : decode cX3_ofP 8 = .ok (.imul, 1) := by decide +kernel
theorem dX3_ofP_9 : decode cX3_ofP 9 = .ok (.iadd, 1) := by decide +kernel
theorem dX3_ofP_10 : decode cX3_ofP 10 = .ok (.iload_n 2, 1) := by decide +kernel
theorem dX3_ofP_11 : decode cX3_ofP 11 = .ok (.iadd, 1) := by decide +kernel
theorem dX3_ofP_12 : decode cX3_ofP 12 = .ok (.laload, 1) := by decide +kernel
theorem dX3_ofP_13 : decode cX3_ofP 13 = .ok (.lreturn, 1) := by decide +kernel
set_option maxRecDepth 20000 in
theorem ggX3_isPerson_X3_isIn : GoodIn wsX3_isPerson wsX3_isIn := goodIn_r _ [5] (by decide +kernel) (by decide +kernel)
set_option maxRecDepth 20000 in
theorem gX3_isPerson_X3_isIn : GoodIn wsX3_isPerson (va_wsS RX3 34 yX3_isIn wsX3_isIn) := goodIn_app (goodIn_of _ (by decide +kernel)) ggX3_isPerson_X3_isIn
theorem dX3_isPerson_0 : decode cX3_isPerson 0 = .ok (.iload_n 1, 1) := by decide +kernel
theorem dX3_isPerson_1 : decode cX3_isPerson 1 = .ok (.i2l, 1) := by decide +kernel
theorem dX3_isPerson_2 : decode cX3_isPerson 2 = .ok (.lconst 0, 1) := by decide +kernel
theorem dX3_isPerson_3 : decode cX3_isPerson 3 = .ok (.aload_n 0, 1) := by decide +kernel
theorem dX3_isPerson_4 : decode cX3_isPerson 4 = .ok (.getfield 7, 3) := by decide +kernel
theorem dX3_isPerson_7 : decode cX3_isPerson 7 = .ok (.iconst 3, 1) := by decide +kernel
theorem dX3_isPerson_8 : decode cX3_isPerson 8 = .ok (.laload, 1) := by decide +kernel
theorem dX3_isPerson_9 : decode cX3_isPerson 9 = .ok (.lconst 1, 1) := by decide +kernel
theorem dX3_isPerson_10 : decode cX3_isPerson 10 = .ok (.lsub, 1) := by decide +kernel
theorem dX3_isPerson_11 : decode cX3_isPerson 11 = .ok (.invokestatic 34, 3) := by decide +kernel
theorem dX3_isPerson_14 : decode cX3_isPerson 14 = .ok (.ireturn, 1) := by decide +kernel
set_option maxRecDepth 20000 in
theorem ggX3_areThere_X3_isPerson : GoodIn wsX3_areThere wsX3_isPerson := goodIn_r _ [5, 6, 7, 8, 4, 9, 14, 15, 16, 17, 18, 19, 20, 21, 22, 23, 24, 25, 26, 27, 28] (by decide +kernel) (by decide +kernel)
set_option maxRecDepth 20000 in
theorem gX3_areThere_X3_isPerson : GoodIn wsX3_areThere (wsV RX3 38 RX3 yX3_isPerson wsX3_isPerson) := goodIn_app (goodIn_of _ (by decide +kernel)) ggX3_areThere_X3_isPerson
set_option maxRecDepth 20000 in
theorem ggX3_areThere_X3_isAbsence : GoodIn wsX3_areThere wsX3_isAbsence := goodIn_r _ [13, 6, 7, 8, 4, 9, 14, 15, 16, 17, 18, 19, 20, 21, 22, 23, 24, 25, 26, 27, 28] (by decide +kernel) (by decide +kernel)
set_option maxRecDepth 20000 in
theorem gX3_areThere_X3_isAbsence : GoodIn wsX3_areThere (wsV RX3 42 RX3 yX3_isAbsence wsX3_isAbsence) := goodIn_app (goodIn_of _ (by decide +kernel)) ggX3_areThere_X3_isAbsence
theorem dX3_areThere_0 : decode cX3_areThere 0 = .ok (.aload_n 0, 1) := by decide +kernel
theorem dX3_areThere_1 : decode cX3_areThere 1 = .ok (.iload_n 1, 1) := by decide +kernel
theorem dX3_areThere_2 : decode cX3_areThere 2 = .ok (.invokevirtual 38, 3) := by decide +kernel
theorem dX3_areThere_5 : decode cX3_areThere 5 = .ok (.ifCond .eq 15, 3) := by decide +kernel
theorem dX3_areThere_8 : decode cX3_areThere 8 = .ok (.aload_n 0, 1) := by decide +kernel
theorem dX3_areThere_9 : decode cX3_areThere 9 = .ok (.iload_n 2, 1) := by decide +kernel
theorem dX3_areThere_10 : decode cX3_areThere 10 = .ok (.invokevirtual 42, 3) := by decide +kernel
theorem dX3_areThere_13 : decode cX3_areThere 13 = .ok (.ifCond .eq 7, 3) := by decide +kernel
theorem dX3_areThere_16 : decode cX3_areThere 16 = .ok (.iconst 1, 1) := by decide +kernel
theorem dX3_areThere_17 : decode cX3_areThere 17 = .ok (.goto 4, 3) := by decide +kernel
theorem dX3_areThere_20 : decode cX3_areThere 20 = .ok (.iconst 0, 1) := by decide +kernel
theorem dX3_areThere_21 : decode cX3_areThere 21 = .ok (.ireturn, 1) := by decide +kernel
set_option maxRecDepth 20000 in
theorem ggX3_isAbsence_X3_isIn : GoodIn wsX3_isAbsence wsX3_isIn := goodIn_r _ [5] (by decide +kernel) (by decide +kernel)
set_option maxRecDepth 20000 in
theorem gX3_isAbsence_X3_isIn : GoodIn wsX3_isAbsence (va_wsS RX3 34 yX3_isIn wsX3_isIn) := goodIn_app (goodIn_of _ (by decide +kernel)) ggX3_isAbsence_X3_isIn
theorem dX3_isAbsence_0 : decode cX3_isAbsence 0 = .ok (.iload_n 1, 1) := by decide +kernel
theorem dX3_isAbsence_1 : decode cX3_isAbsence 1 = .ok (.i2l, 1) := by decide +kernel
theorem dX3_isAbsence_2 : decode cX3_isAbsence 2 = .ok (.lconst 0, 1) := by decide +kernel
theorem dX3_isAbsence_3 : decode cX3_isAbsence 3 = .ok (.aload_n 0, 1) := by decide +kernel
theorem dX3_isAbsence_4 : decode cX3_isAbsence 4 = .ok (.getfield 7, 3) := by decide +kernel
theorem dX3_isAbsence_7 : decode cX3_isAbsence 7 = .ok (.iconst 4, 1) := by decide +kernel
theorem dX3_isAbsence_8 : decode cX3_isAbsence 8 = .ok (.laload, 1) := by decide +kernel
theorem dX3_isAbsence_9 : decode cX3_isAbsence 9 = .ok (.lconst 1, 1) := by decide +kernel
theorem dX3_isAbsence_10 : decode cX3_isAbsence 10 = .ok (.lsub, 1) := by decide +kernel
theorem dX3_isAbsence_11 : decode cX3_isAbsence 11 = .ok (.invokestatic 34, 3) := by decide +kernel
theorem dX3_isAbsence_14 : decode cX3_isAbsence 14 = .ok (.ireturn, 1) := by decide +kernel
theorem dX3_keeps_0 : decode cX3_keeps 0 = .ok (.iconst 0, 1) := by decide +kernel
theorem dX3_keeps_1 : decode cX3_keeps 1 = .ok (.istore_n 2, 1) := by decide +kernel
theorem dX3_keeps_2 : decode cX3_keeps 2 = .ok (.iload_n 2, 1) := by decide +kernel
theorem dX3_keeps_3 : decode cX3_keeps 3 = .ok (.sipush 420, 3) := by decide +kernel
theorem dX3_keeps_6 : decode cX3_keeps 6 = .ok (.if_icmp .ge 27, 3) := by decide +kernel
theorem dX3_keeps_9 : decode cX3_keeps 9 = .ok (.aload_n 0, 1) := by decide +kernel
theorem dX3_keeps_10 : decode cX3_keeps 10 = .ok (.getfield 13, 3) := by decide +kernel
theorem dX3_keeps_13 : decode cX3_keeps 13 = .ok (.iload_n 1, 1) := by decide +kernel
theorem dX3_keeps_14 : decode cX3_keeps 14 = .ok (.sipush 420, 3) := by decide +kernel
theorem dX3_keeps_17 : decode cX3_keeps 17 = .ok (.imul, 1) := by decide +kernel
theorem dX3_keeps_18 : decode cX3_keeps 18 = .ok (.iload_n 2, 1) := by decide +kernel
theorem dX3_keeps_19 : decode cX3_keeps 19 = .ok (.iadd, 1) := by decide +kernel
theorem dX3_keeps_20 : decode cX3_keeps 20 = .ok (.aload_n 0, 1) := by decide +kernel
theorem dX3_keeps_21 : decode cX3_keeps 21 = .ok (.getfield 7, 3) := by decide +kernel
theorem dX3_keeps_24 : decode cX3_keeps 24 = .ok (.iload_n 2, 1) := by decide +kernel
theorem dX3_keeps_25 : decode cX3_keeps 25 = .ok (.laload, 1) := by decide +kernel
theorem dX3_keeps_26 : decode cX3_keeps 26 = .ok (.lastore, 1) := by decide +kernel
theorem dX3_keeps_27 : decode cX3_keeps 27 = .ok (.iinc 2 1, 3) := by decide +kernel
theorem dX3_keeps_30 : decode cX3_keeps 30 = .ok (.goto (-28), 3) := by decide +kernel
theorem dX3_keeps_33 : decode cX3_keeps 33 = .ok (.return_, 1) := by decide +kernel
theorem dX3_brings_0 : decode cX3_brings 0 = .ok (.iconst 0, 1) := by decide +kernel
theorem dX3_brings_1 : decode cX3_brings 1 = .ok (.istore_n 2, 1) := by decide +kernel
theorem dX3_brings_2 : decode cX3_brings 2 = .ok (.iload_n 2, 1) := by decide +kernel
theorem dX3_brings_3 : decode cX3_brings 3 = .ok (.sipush 420, 3) := by decide +kernel
theorem dX3_brings_6 : decode cX3_brings 6 = .ok (.if_icmp .ge 27, 3) := by decide +kernel
theorem dX3_brings_9 : decode cX3_brings 9 = .ok (.aload_n 0, 1) := by decide +kernel
theorem dX3_brings_10 : decode cX3_brings 10 = .ok (.getfield 7, 3) := by decide +kernel
theorem dX3_brings_13 : decode cX3_brings 13 = .ok (.iload_n 2, 1) := by decide +kernel
theorem dX3_brings_14 : decode cX3_brings 14 = .ok (.aload_n 0, 1) := by decide +kernel
theorem dX3_brings_15 : decode cX3_brings 15 = .ok (.getfield 13, 3) := by decide +kernel
theorem dX3_brings_18 : decode cX3_brings 18 = .ok (.iload_n 1, 1) := by decide +kernel
theorem dX3_brings_19 : decode cX3_brings 19 = .ok (.sipush 420, 3) := by decide +kernel
theorem dX3_brings_22 : decode cX3_brings 22 = .ok (.imul, 1) := by decide +kernel
theorem dX3_brings_23 : decode cX3_brings 23 = .ok (.iload_n 2, 1) := by decide +kernel
theorem dX3_brings_24 : decode cX3_brings 24 = .ok (.iadd, 1) := by decide +kernel
theorem dX3_brings_25 : decode cX3_brings 25 = .ok (.laload, 1) := by decide +kernel
theorem dX3_brings_26 : decode cX3_brings 26 = .ok (.lastore, 1) := by decide +kernel
theorem dX3_brings_27 : decode cX3_brings 27 = .ok (.iinc 2 1, 3) := by decide +kernel
theorem dX3_brings_30 : decode cX3_brings 30 = .ok (.goto (-28), 3) := by decide +kernel
theorem dX3_brings_33 : decode cX3_brings 33 = .ok (.return_, 1) := by decide +kernel
set_option maxRecDepth 20000 in
theorem ggX3_records_X3_keeps : GoodIn wsX3_records wsX3_keeps := goodIn_r _ [7, 2, 8, 9, 10, 11, 12, 13, 14, 15, 16, 17, 18, 19, 20, 21, 22, 23] (by decide +kernel) (by decide +kernel)
set_option maxRecDepth 20000 in
theorem gX3_records_X3_keeps : GoodIn wsX3_records (wsV RX3 48 RX3 yX3_keeps wsX3_keeps) := goodIn_app (goodIn_of _ (by decide +kernel)) ggX3_records_X3_keeps
theorem dX3_records_0 : decode cX3_records 0 = .ok (.aload_n 0, 1) := by decide +kernel
theorem dX3_records_1 : decode cX3_records 1 = .ok (.getfield 45, 3) := by decide +kernel
theorem dX3_records_4 : decode cX3_records 4 = .ok (.iconst 4, 1) := by decide +kernel
theorem dX3_records_5 : decode cX3_records 5 = .ok (.if_icmp .ne 44, 3) := by decide +kernel
theorem dX3_records_8 : decode cX3_records 8 = .ok (.iconst 0, 1) := by decide +kernel
theorem dX3_records_9 : decode cX3_records 9 = .ok (.istore_n 1, 1) := by decide +kernel
theorem dX3_records_10 : decode cX3_records 10 = .ok (.iload_n 1, 1) := by decide +kernel
theorem dX3_records_11 : decode cX3_records 11 = .ok (.sipush 1260, 3) := by decide +kernel
theorem dX3_records_14 : decode cX3_records 14 = .ok (.if_icmp .ge 25, 3) := by decide +kernel
theorem dX3_records_17 : decode cX3_records 17 = .ok (.aload_n 0, 1) := by decide +kernel
theorem dX3_records_18 : decode cX3_records 18 = .ok (.getfield 13, 3) := by decide +kernel
theorem dX3_records_21 : decode cX3_records 21 = .ok (.iload_n 1, 1) := by decide +kernel
theorem dX3_records_22 : decode cX3_records 22 = .ok (.aload_n 0, 1) := by decide +kernel
theorem dX3_records_23 : decode cX3_records 23 = .ok (.getfield 13, 3) := by decide +kernel
theorem dX3_records_26 : decode cX3_records 26 = .ok (.iload_n 1, 1) := by decide +kernel
theorem dX3_records_27 : decode cX3_records 27 = .ok (.sipush 420, 3) := by decide +kernel
theorem dX3_records_30 : decode cX3_records 30 = .ok (.iadd, 1) := by decide +kernel
theorem dX3_records_31 : decode cX3_records 31 = .ok (.laload, 1) := by decide +kernel
theorem dX3_records_32 : decode cX3_records 32 = .ok (.lastore, 1) := by decide +kernel
theorem dX3_records_33 : decode cX3_records 33 = .ok (.iinc 1 1, 3) := by decide +kernel
theorem dX3_records_36 : decode cX3_records 36 = .ok (.goto (-26), 3) := by decide +kernel
theorem dX3_records_39 : decode cX3_records 39 = .ok (.aload_n 0, 1) := by decide +kernel
theorem dX3_records_40 : decode cX3_records 40 = .ok (.dup, 1) := by decide +kernel
theorem dX3_records_41 : decode cX3_records 41 = .ok (.getfield 45, 3) := by decide +kernel
theorem dX3_records_44 : decode cX3_records 44 = .ok (.iconst 1, 1) := by decide +kernel
theorem dX3_records_45 : decode cX3_records 45 = .ok (.isub, 1) := by decide +kernel
theorem dX3_records_46 : decode cX3_records 46 = .ok (.putfield 45, 3) := by decide +kernel
theorem dX3_records_49 : decode cX3_records 49 = .ok (.aload_n 0, 1) := by decide +kernel
theorem dX3_records_50 : decode cX3_records 50 = .ok (.aload_n 0, 1) := by decide +kernel
theorem dX3_records_51 : decode cX3_records 51 = .ok (.getfield 45, 3) := by decide +kernel
theorem dX3_records_54 : decode cX3_records 54 = .ok (.invokevirtual 48, 3) := by decide +kernel
theorem dX3_records_57 : decode cX3_records 57 = .ok (.aload_n 0, 1) := by decide +kernel
theorem dX3_records_58 : decode cX3_records 58 = .ok (.dup, 1) := by decide +kernel
theorem dX3_records_59 : decode cX3_records 59 = .ok (.getfield 45, 3) := by decide +kernel
theorem dX3_records_62 : decode cX3_records 62 = .ok (.iconst 1, 1) := by decide +kernel
theorem dX3_records_63 : decode cX3_records 63 = .ok (.iadd, 1) := by decide +kernel
theorem dX3_records_64 : decode cX3_records 64 = .ok (.putfield 45, 3) := by decide +kernel
theorem dX3_records_67 : decode cX3_records 67 = .ok (.return_, 1) := by decide +kernel
set_option maxRecDepth 20000 in
theorem ggX3_undo_X3_brings : GoodIn wsX3_undo wsX3_brings := goodIn_r _ [7, 8, 9, 10, 11, 12, 13, 14, 15, 16, 17, 18, 19, 20, 21, 22, 23, 24] (by decide +kernel) (by decide +kernel)
set_option maxRecDepth 20000 in
theorem gX3_undo_X3_brings : GoodIn wsX3_undo (wsV RX3 52 RX3 yX3_brings wsX3_brings) := goodIn_app (goodIn_of _ (by decide +kernel)) ggX3_undo_X3_brings
theorem dX3_undo_0 : decode cX3_undo 0 = .ok (.aload_n 0, 1) := by decide +kernel
theorem dX3_undo_1 : decode cX3_undo 1 = .ok (.aload_n 0, 1) := by decide +kernel
theorem dX3_undo_2 : decode cX3_undo 2 = .ok (.getfield 45, 3) := by decide +kernel
theorem dX3_undo_5 : decode cX3_undo 5 = .ok (.ifCond .le 7, 3) := by decide +kernel
theorem dX3_undo_8 : decode cX3_undo 8 = .ok (.iconst 0, 1) := by decide +kernel
theorem dX3_undo_9 : decode cX3_undo 9 = .ok (.goto 4, 3) := by decide +kernel
theorem dX3_undo_12 : decode cX3_undo 12 = .ok (.iconst 1, 1) := by decide +kernel
theorem dX3_undo_13 : decode cX3_undo 13 = .ok (.putfield 30, 3) := by decide +kernel
theorem dX3_undo_16 : decode cX3_undo 16 = .ok (.aload_n 0, 1) := by decide +kernel
theorem dX3_undo_17 : decode cX3_undo 17 = .ok (.getfield 30, 3) := by decide +kernel
theorem dX3_undo_20 : decode cX3_undo 20 = .ok (.ifCond .eq 5, 3) := by decide +kernel
theorem dX3_undo_23 : decode cX3_undo 23 = .ok (.iconst 0, 1) := by decide +kernel
theorem dX3_undo_24 : decode cX3_undo 24 = .ok (.ireturn, 1) := by decide +kernel
theorem dX3_undo_25 : decode cX3_undo 25 = .ok (.aload_n 0, 1) := by decide +kernel
theorem dX3_undo_26 : decode cX3_undo 26 = .ok (.dup, 1) := by decide +kernel
theorem dX3_undo_27 : decode cX3_undo 27 = .ok (.getfield 45, 3) := by decide +kernel
theorem dX3_undo_30 : decode cX3_undo 30 = .ok (.iconst 1, 1) := by decide +kernel
theorem dX3_undo_31 : decode cX3_undo 31 = .ok (.isub, 1) := by decide +kernel
theorem dX3_undo_32 : decode cX3_undo 32 = .ok (.putfield 45, 3) := by decide +kernel
theorem dX3_undo_35 : decode cX3_undo 35 = .ok (.aload_n 0, 1) := by decide +kernel
theorem dX3_undo_36 : decode cX3_undo 36 = .ok (.aload_n 0, 1) := by decide +kernel
theorem dX3_undo_37 : decode cX3_undo 37 = .ok (.getfield 45, 3) := by decide +kernel
theorem dX3_undo_40 : decode cX3_undo 40 = .ok (.invokevirtual 52, 3) := by decide +kernel
theorem dX3_undo_43 : decode cX3_undo 43 = .ok (.aload_n 0, 1) := by decide +kernel
theorem dX3_undo_44 : decode cX3_undo 44 = .ok (.getfield 45, 3) := by decide +kernel
theorem dX3_undo_47 : decode cX3_undo 47 = .ok (.ireturn, 1) := by decide +kernel
set_option maxRecDepth 20000 in
theorem ggX3_isRostered_X3_ofP : GoodIn wsX3_isRostered wsX3_ofP := goodIn_r _ [5, 6, 7, 8, 9, 10, 11, 12, 13, 14, 15, 16, 17, 18, 19, 20, 21] (by decide +kernel) (by decide +kernel)
set_option maxRecDepth 20000 in
theorem gX3_isRostered_X3_ofP : GoodIn wsX3_isRostered (wsV RX3 55 RX3 yX3_ofP wsX3_ofP) := goodIn_app (goodIn_of _ (by decide +kernel)) ggX3_isRostered_X3_ofP
theorem dX3_isRostered_0 : decode cX3_isRostered 0 = .ok (.aload_n 0, 1) := by decide +kernel
theorem dX3_isRostered_1 : decode cX3_isRostered 1 = .ok (.iload_n 1, 1) := by decide +kernel
theorem dX3_isRostered_2 : decode cX3_isRostered 2 = .ok (.iconst 0, 1) := by decide +kernel
theorem dX3_isRostered_3 : decode cX3_isRostered 3 = .ok (.invokevirtual 55, 3) := by decide +kernel
theorem dX3_isRostered_6 : decode cX3_isRostered 6 = .ok (.iload_n 2, 1) := by decide +kernel
theorem dX3_isRostered_7 : decode cX3_isRostered 7 = .ok (.lshr, 1) := by decide +kernel
theorem dX3_isRostered_8 : decode cX3_isRostered 8 = .ok (.lconst 1, 1) := by decide +kernel
theorem dX3_isRostered_9 : decode cX3_isRostered 9 = .ok (.land, 1) := by decide +kernel
theorem dX3_isRostered_10 : decode cX3_isRostered 10 = .ok (.lconst 1, 1) := by decide +kernel
theorem dX3_isRostered_11 : decode cX3_isRostered 11 = .ok (.lcmp, 1) := by decide +kernel
theorem dX3_isRostered_12 : decode cX3_isRostered 12 = .ok (.ifCond .ne 7, 3) := by decide +kernel
theorem dX3_isRostered_15 : decode cX3_isRostered 15 = .ok (.iconst 1, 1) := by decide +kernel
theorem dX3_isRostered_16 : decode cX3_isRostered 16 = .ok (.goto 4, 3) := by decide +kernel
theorem dX3_isRostered_19 : decode cX3_isRostered 19 = .ok (.iconst 0, 1) := by decide +kernel
theorem dX3_isRostered_20 : decode cX3_isRostered 20 = .ok (.ireturn, 1) := by decide +kernel
set_option maxRecDepth 20000 in
theorem ggX3_isAbsent_X3_ofA : GoodIn wsX3_isAbsent wsX3_ofA := goodIn_r _ [6, 1, 7, 8, 9, 10, 11, 12, 13, 14, 15, 16, 17, 18, 19, 20, 21] (by decide +kernel) (by decide +kernel)
set_option maxRecDepth 20000 in
theorem gX3_isAbsent_X3_ofA : GoodIn wsX3_isAbsent (wsV RX3 59 RX3 yX3_ofA wsX3_ofA) := goodIn_app (goodIn_of _ (by decide +kernel)) ggX3_isAbsent_X3_ofA
theorem dX3_isAbsent_0 : decode cX3_isAbsent 0 = .ok (.iconst 0, 1) := by decide +kernel
theorem dX3_isAbsent_1 : decode cX3_isAbsent 1 = .ok (.istore_n 3, 1) := by decide +kernel
theorem dX3_isAbsent_2 : decode cX3_isAbsent 2 = .ok (.iconst 0, 1) := by decide +kernel
theorem dX3_isAbsent_3 : decode cX3_isAbsent 3 = .ok (.istore 4, 2) := by decide +kernel
theorem dX3_isAbsent_5 : decode cX3_isAbsent 5 = .ok (.iload 4, 2) := by decide +kernel
theorem dX3_isAbsent_7 : decode cX3_isAbsent 7 = .ok (.i2l, 1) := by decide +kernel
theorem dX3_isAbsent_8 : decode cX3_isAbsent 8 = .ok (.aload_n 0, 1) := by decide +kernel
theorem dX3_isAbsent_9 : decode cX3_isAbsent 9 = .ok (.getfield 7, 3) := by decide +kernel
theorem dX3_isAbsent_12 : decode cX3_isAbsent 12 = .ok (.iconst 4, 1) := by decide +kernel
theorem dX3_isAbsent_13 : decode cX3_isAbsent 13 = .ok (.laload, 1) := by decide +kernel
theorem dX3_isAbsent_14 : decode cX3_isAbsent 14 = .ok (.lcmp, 1) := by decide +kernel
theorem dX3_isAbsent_15 : decode cX3_isAbsent 15 = .ok (.ifCond .ge 41, 3) := by decide +kernel
theorem dX3_isAbsent_18 : decode cX3_isAbsent 18 = .ok (.iload_n 3, 1) := by decide +kernel
theorem dX3_isAbsent_19 : decode cX3_isAbsent 19 = .ok (.ifCond .ne 25, 3) := by decide +kernel
theorem dX3_isAbsent_22 : decode cX3_isAbsent 22 = .ok (.aload_n 0, 1) := by decide +kernel
theorem dX3_isAbsent_23 : decode cX3_isAbsent 23 = .ok (.iload 4, 2) := by decide +kernel
theorem dX3_isAbsent_25 : decode cX3_isAbsent 25 = .ok (.iconst 0, 1) := by decide +kernel
theorem dX3_isAbsent_26 : decode cX3_isAbsent 26 = .ok (.invokevirtual 59, 3) := by decide +kernel
theorem dX3_isAbsent_29 : decode cX3_isAbsent 29 = .ok (.iload_n 1, 1) := by decide +kernel
theorem dX3_isAbsent_30 : decode cX3_isAbsent 30 = .ok (.if_icmp .ne 18, 3) := by decide +kernel
theorem dX3_isAbsent_33 : decode cX3_isAbsent 33 = .ok (.aload_n 0, 1) := by decide +kernel
theorem dX3_isAbsent_34 : decode cX3_isAbsent 34 = .ok (.iload 4, 2) := by decide +kernel
theorem dX3_isAbsent_36 : decode cX3_isAbsent 36 = .ok (.iconst 1, 1) := by decide +kernel
theorem dX3_isAbsent_37 : decode cX3_isAbsent 37 = .ok (.invokevirtual 59, 3) := by decide +kernel
theorem dX3_isAbsent_40 : decode cX3_isAbsent 40 = .ok (.iload_n 2, 1) := by decide +kernel
theorem dX3_isAbsent_41 : decode cX3_isAbsent 41 = .ok (.if_icmp .ne 7, 3) := by decide +kernel
theorem dX3_isAbsent_44 : decode cX3_isAbsent 44 = .ok (.iconst 1, 1) := by decide +kernel
theorem dX3_isAbsent_45 : decode cX3_isAbsent 45 = .ok (.goto 4, 3) := by decide +kernel
theorem dX3_isAbsent_48 : decode cX3_isAbsent 48 = .ok (.iconst 0, 1) := by decide +kernel
theorem dX3_isAbsent_49 : decode cX3_isAbsent 49 = .ok (.istore_n 3, 1) := by decide +kernel
theorem dX3_isAbsent_50 : decode cX3_isAbsent 50 = .ok (.iinc 4 1, 3) := by decide +kernel
theorem dX3_isAbsent_53 : decode cX3_isAbsent 53 = .ok (.goto (-48), 3) := by decide +kernel
theorem dX3_isAbsent_56 : decode cX3_isAbsent 56 = .ok (.iload_n 3, 1) := by decide +kernel
theorem dX3_isAbsent_57 : decode cX3_isAbsent 57 = .ok (.ireturn, 1) := by decide +kernel
set_option maxRecDepth 20000 in
theorem ggX3_isCovered_X3_ofA : GoodIn wsX3_isCovered wsX3_ofA := goodIn_r _ [5, 6, 7, 8, 9, 10, 11, 12, 13, 14, 15, 16, 17, 18, 19, 20, 21] (by decide +kernel) (by decide +kernel)
set_option maxRecDepth 20000 in
theorem gX3_isCovered_X3_ofA : GoodIn wsX3_isCovered (wsV RX3 59 RX3 yX3_ofA wsX3_ofA) := goodIn_app (goodIn_of _ (by decide +kernel)) ggX3_isCovered_X3_ofA
theorem dX3_isCovered_0 : decode cX3_isCovered 0 = .ok (.aload_n 0, 1) := by decide +kernel
theorem dX3_isCovered_1 : decode cX3_isCovered 1 = .ok (.iload_n 1, 1) := by decide +kernel
theorem dX3_isCovered_2 : decode cX3_isCovered 2 = .ok (.iconst 2, 1) := by decide +kernel
theorem dX3_isCovered_3 : decode cX3_isCovered 3 = .ok (.invokevirtual 59, 3) := by decide +kernel
theorem dX3_isCovered_6 : decode cX3_isCovered 6 = .ok (.iconst 1, 1) := by decide +kernel
theorem dX3_isCovered_7 : decode cX3_isCovered 7 = .ok (.if_icmp .eq 13, 3) := by decide +kernel
theorem dX3_isCovered_10 : decode cX3_isCovered 10 = .ok (.aload_n 0, 1) := by decide +kernel
theorem dX3_isCovered_11 : decode cX3_isCovered 11 = .ok (.iload_n 1, 1) := by decide +kernel
theorem dX3_isCovered_12 : decode cX3_isCovered 12 = .ok (.iconst 2, 1) := by decide +kernel
theorem dX3_isCovered_13 : decode cX3_isCovered 13 = .ok (.invokevirtual 59, 3) := by decide +kernel
theorem dX3_isCovered_16 : decode cX3_isCovered 16 = .ok (.iconst 2, 1) := by decide +kernel
theorem dX3_isCovered_17 : decode cX3_isCovered 17 = .ok (.if_icmp .ne 7, 3) := by decide +kernel
theorem dX3_isCovered_20 : decode cX3_isCovered 20 = .ok (.iconst 1, 1) := by decide +kernel
theorem dX3_isCovered_21 : decode cX3_isCovered 21 = .ok (.goto 4, 3) := by decide +kernel
theorem dX3_isCovered_24 : decode cX3_isCovered 24 = .ok (.iconst 0, 1) := by decide +kernel
theorem dX3_isCovered_25 : decode cX3_isCovered 25 = .ok (.ireturn, 1) := by decide +kernel
set_option maxRecDepth 20000 in
theorem ggX3_coversIn_X3_isCovered : GoodIn wsX3_coversIn wsX3_isCovered := goodIn_r _ [6, 7, 8, 9, 5, 10, 1, 11, 12, 13, 14, 15, 16, 17, 18, 19, 20, 21, 22, 23, 24, 25] (by decide +kernel) (by decide +kernel)
set_option maxRecDepth 20000 in
theorem gX3_coversIn_X3_isCovered : GoodIn wsX3_coversIn (wsV RX3 63 RX3 yX3_isCovered wsX3_isCovered) := goodIn_app (goodIn_of _ (by decide +kernel)) ggX3_coversIn_X3_isCovered
set_option maxRecDepth 20000 in
theorem ggX3_coversIn_X3_ofA : GoodIn wsX3_coversIn wsX3_ofA := goodIn_r _ [10, 1, 11, 12, 13, 14, 15, 16, 17, 18, 19, 20, 21, 22, 23, 24, 25] (by decide +kernel) (by decide +kernel)
set_option maxRecDepth 20000 in
theorem gX3_coversIn_X3_ofA : GoodIn wsX3_coversIn (wsV RX3 59 RX3 yX3_ofA wsX3_ofA) := goodIn_app (goodIn_of _ (by decide +kernel)) ggX3_coversIn_X3_ofA
theorem dX3_coversIn_0 : decode cX3_coversIn 0 = .ok (.iconst 0, 1) := by decide +kernel
theorem dX3_coversIn_1 : decode cX3_coversIn 1 = .ok (.istore_n 3, 1) := by decide +kernel
theorem dX3_coversIn_2 : decode cX3_coversIn 2 = .ok (.iconst 0, 1) := by decide +kernel
theorem dX3_coversIn_3 : decode cX3_coversIn 3 = .ok (.istore 4, 2) := by decide +kernel
theorem dX3_coversIn_5 : decode cX3_coversIn 5 = .ok (.iload 4, 2) := by decide +kernel
theorem dX3_coversIn_7 : decode cX3_coversIn 7 = .ok (.i2l, 1) := by decide +kernel
theorem dX3_coversIn_8 : decode cX3_coversIn 8 = .ok (.aload_n 0, 1) := by decide +kernel
theorem dX3_coversIn_9 : decode cX3_coversIn 9 = .ok (.getfield 7, 3) := by decide +kernel
theorem dX3_coversIn_12 : decode cX3_coversIn 12 = .ok (.iconst 4, 1) := by decide +kernel
theorem dX3_coversIn_13 : decode cX3_coversIn 13 = .ok (.laload, 1) := by decide +kernel
theorem dX3_coversIn_14 : decode cX3_coversIn 14 = .ok (.lcmp, 1) := by decide +kernel
theorem dX3_coversIn_15 : decode cX3_coversIn 15 = .ok (.ifCond .ge 50, 3) := by decide +kernel
theorem dX3_coversIn_18 : decode cX3_coversIn 18 = .ok (.iload_n 3, 1) := by decide +kernel
theorem dX3_coversIn_19 : decode cX3_coversIn 19 = .ok (.ifCond .ne 34, 3) := by decide +kernel
theorem dX3_coversIn_22 : decode cX3_coversIn 22 = .ok (.aload_n 0, 1) := by decide +kernel
theorem dX3_coversIn_23 : decode cX3_coversIn 23 = .ok (.iload 4, 2) := by decide +kernel
theorem dX3_coversIn_25 : decode cX3_coversIn 25 = .ok (.invokevirtual 63, 3) := by decide +kernel
theorem dX3_coversIn_28 : decode cX3_coversIn 28 = .ok (.ifCond .eq 29, 3) := by decide +kernel
theorem dX3_coversIn_31 : decode cX3_coversIn 31 = .ok (.aload_n 0, 1) := by decide +kernel
theorem dX3_coversIn_32 : decode cX3_coversIn 32 = .ok (.iload 4, 2) := by decide +kernel
theorem dX3_coversIn_34 : decode cX3_coversIn 34 = .ok (.iconst 3, 1) := by decide +kernel
theorem dX3_coversIn_35 : decode cX3_coversIn 35 = .ok (.invokevirtual 59, 3) := by decide +kernel
theorem dX3_coversIn_38 : decode cX3_coversIn 38 = .ok (.iload_n 1, 1) := by decide +kernel
theorem dX3_coversIn_39 : decode cX3_coversIn 39 = .ok (.if_icmp .ne 18, 3) := by decide +kernel
theorem dX3_coversIn_42 : decode cX3_coversIn 42 = .ok (.aload_n 0, 1) := by decide +kernel
theorem dX3_coversIn_43 : decode cX3_coversIn 43 = .ok (.iload 4, 2) := by decide +kernel
theorem dX3_coversIn_45 : decode cX3_coversIn 45 = .ok (.iconst 1, 1) := by decide +kernel
theorem dX3_coversIn_46 : decode cX3_coversIn 46 = .ok (.invokevirtual 59, 3) := by decide +kernel
theorem dX3_coversIn_49 : decode cX3_coversIn 49 = .ok (.iload_n 2, 1) := by decide +kernel
theorem dX3_coversIn_50 : decode cX3_coversIn 50 = .ok (.if_icmp .ne 7, 3) := by decide +kernel
theorem dX3_coversIn_53 : decode cX3_coversIn 53 = .ok (.iconst 1, 1) := by decide +kernel
theorem dX3_coversIn_54 : decode cX3_coversIn 54 = .ok (.goto 4, 3) := by decide +kernel
theorem dX3_coversIn_57 : decode cX3_coversIn 57 = .ok (.iconst 0, 1) := by decide +kernel
theorem dX3_coversIn_58 : decode cX3_coversIn 58 = .ok (.istore_n 3, 1) := by decide +kernel
theorem dX3_coversIn_59 : decode cX3_coversIn 59 = .ok (.iinc 4 1, 3) := by decide +kernel
theorem dX3_coversIn_62 : decode cX3_coversIn 62 = .ok (.goto (-57), 3) := by decide +kernel
theorem dX3_coversIn_65 : decode cX3_coversIn 65 = .ok (.iload_n 3, 1) := by decide +kernel
theorem dX3_coversIn_66 : decode cX3_coversIn 66 = .ok (.ireturn, 1) := by decide +kernel
set_option maxRecDepth 20000 in
theorem ggX3_worksIn_X3_isIn : GoodIn wsX3_worksIn wsX3_isIn := goodIn_r _ [5] (by decide +kernel) (by decide +kernel)
set_option maxRecDepth 20000 in
theorem gX3_worksIn_X3_isIn : GoodIn wsX3_worksIn (va_wsS RX3 34 yX3_isIn wsX3_isIn) := goodIn_app (goodIn_of _ (by decide +kernel)) ggX3_worksIn_X3_isIn
set_option maxRecDepth 20000 in
theorem ggX3_worksIn_X3_isRostered : GoodIn wsX3_worksIn wsX3_isRostered := goodIn_r _ [9, 10, 11, 12, 4, 13, 14, 31, 32, 33, 34, 35, 36, 37, 38, 39, 40, 41, 42, 43, 44, 45] (by decide +kernel) (by decide +kernel)
set_option maxRecDepth 20000 in
theorem gX3_worksIn_X3_isRostered : GoodIn wsX3_worksIn (wsV RX3 68 RX3 yX3_isRostered wsX3_isRostered) := goodIn_app (goodIn_of _ (by decide +kernel)) ggX3_worksIn_X3_isRostered
set_option maxRecDepth 20000 in
theorem ggX3_worksIn_X3_isAbsent : GoodIn wsX3_worksIn wsX3_isAbsent := goodIn_r _ [18, 14, 19, 20, 21, 4, 22, 31, 32, 33, 34, 35, 36, 37, 38, 39, 40, 41, 42, 43, 44, 45] (by decide +kernel) (by decide +kernel)
set_option maxRecDepth 20000 in
theorem gX3_worksIn_X3_isAbsent : GoodIn wsX3_worksIn (wsV RX3 72 RX3 yX3_isAbsent wsX3_isAbsent) := goodIn_app (goodIn_of _ (by decide +kernel)) ggX3_worksIn_X3_isAbsent
set_option maxRecDepth 20000 in
theorem ggX3_worksIn_X3_coversIn : GoodIn wsX3_worksIn wsX3_coversIn := goodIn_r _ [26, 14, 27, 28, 29, 4, 30, 19, 20, 21, 22, 31, 32, 33, 34, 35, 36, 37, 38, 39, 40, 41, 42, 43, 44, 45] (by decide +kernel) (by decide +kernel)
set_option maxRecDepth 20000 in
theorem gX3_worksIn_X3_coversIn : GoodIn wsX3_worksIn (wsV RX3 75 RX3 yX3_coversIn wsX3_coversIn) := goodIn_app (goodIn_of _ (by decide +kernel)) ggX3_worksIn_X3_coversIn
theorem dX3_worksIn_0 : decode cX3_worksIn 0 = .ok (.iload_n 2, 1) := by decide +kernel
theorem dX3_worksIn_1 : decode cX3_worksIn 1 = .ok (.i2l, 1) := by decide +kernel
theorem dX3_worksIn_2 : decode cX3_worksIn 2 = .ok (.lconst 0, 1) := by decide +kernel
theorem dX3_worksIn_3 : decode cX3_worksIn 3 = .ok (.ldc2_w 66, 3) := by decide +kernel
theorem dX3_worksIn_6 : decode cX3_worksIn 6 = .ok (.invokestatic 34, 3) := by decide +kernel
theorem dX3_worksIn_9 : decode cX3_worksIn 9 = .ok (.ifCond .eq 34, 3) := by decide +kernel
theorem dX3_worksIn_12 : decode cX3_worksIn 12 = .ok (.aload_n 0, 1) := by decide +kernel
theorem dX3_worksIn_13 : decode cX3_worksIn 13 = .ok (.iload_n 1, 1) := by decide +kernel
theorem dX3_worksIn_14 : decode cX3_worksIn 14 = .ok (.iload_n 2, 1) := by decide +kernel
theorem dX3_worksIn_15 : decode cX3_worksIn 15 = .ok (.invokevirtual 68, 3) := by decide +kernel
theorem dX3_worksIn_18 : decode cX3_worksIn 18 = .ok (.ifCond .eq 12, 3) := by decide +kernel
theorem dX3_worksIn_21 : decode cX3_worksIn 21 = .ok (.aload_n 0, 1) := by decide +kernel
theorem dX3_worksIn_22 : decode cX3_worksIn 22 = .ok (.iload_n 1, 1) := by decide +kernel
theorem dX3_worksIn_23 : decode cX3_worksIn 23 = .ok (.iload_n 2, 1) := by decide +kernel
theorem dX3_worksIn_24 : decode cX3_worksIn 24 = .ok (.invokevirtual 72, 3) := by decide +kernel
theorem dX3_worksIn_27 : decode cX3_worksIn 27 = .ok (.ifCond .eq 12, 3) := by decide +kernel
theorem dX3_worksIn_30 : decode cX3_worksIn 30 = .ok (.aload_n 0, 1) := by decide +kernel
theorem dX3_worksIn_31 : decode cX3_worksIn 31 = .ok (.iload_n 1, 1) := by decide +kernel
theorem dX3_worksIn_32 : decode cX3_worksIn 32 = .ok (.iload_n 2, 1) := by decide +kernel
theorem dX3_worksIn_33 : decode cX3_worksIn 33 = .ok (.invokevirtual 75, 3) := by decide +kernel
theorem dX3_worksIn_36 : decode cX3_worksIn 36 = .ok (.ifCond .eq 7, 3) := by decide +kernel
theorem dX3_worksIn_39 : decode cX3_worksIn 39 = .ok (.iconst 1, 1) := by decide +kernel
theorem dX3_worksIn_40 : decode cX3_worksIn 40 = .ok (.goto 4, 3) := by decide +kernel
theorem dX3_worksIn_43 : decode cX3_worksIn 43 = .ok (.iconst 0, 1) := by decide +kernel
theorem dX3_worksIn_44 : decode cX3_worksIn 44 = .ok (.ireturn, 1) := by decide +kernel
set_option maxRecDepth 20000 in
theorem ggX3_whyNot_X3_isAbsent : GoodIn wsX3_whyNot wsX3_isAbsent := goodIn_r _ [6, 1, 7, 8, 9, 5, 10, 35, 36, 37, 38, 39, 40, 41, 42, 43, 44, 45, 46, 47, 48, 49] (by decide +kernel) (by decide +kernel)
set_option maxRecDepth 20000 in
theorem gX3_whyNot_X3_isAbsent : GoodIn wsX3_whyNot (wsV RX3 72 RX3 yX3_isAbsent wsX3_isAbsent) := goodIn_app (goodIn_of _ (by decide +kernel)) ggX3_whyNot_X3_isAbsent
set_option maxRecDepth 20000 in
theorem ggX3_whyNot_X3_worksIn : GoodIn wsX3_whyNot wsX3_worksIn := goodIn_r _ [14, 15, 16, 17, 5, 18, 19, 20, 21, 22, 23, 24, 25, 26, 1, 2, 3, 4, 6, 7, 8, 9, 10, 27, 28, 29, 30, 31, 32, 33, 34, 35, 36, 37, 38, 39, 40, 41, 42, 43, 44, 45, 46, 47, 48, 49] (by decide +kernel) (by decide +kernel)
set_option maxRecDepth 20000 in
theorem gX3_whyNot_X3_worksIn : GoodIn wsX3_whyNot (wsV RX3 78 RX3 yX3_worksIn wsX3_worksIn) := goodIn_app (goodIn_of _ (by decide +kernel)) ggX3_whyNot_X3_worksIn
theorem dX3_whyNot_0 : decode cX3_whyNot 0 = .ok (.aload_n 0, 1) := by decide +kernel
theorem dX3_whyNot_1 : decode cX3_whyNot 1 = .ok (.iload_n 1, 1) := by decide +kernel
theorem dX3_whyNot_2 : decode cX3_whyNot 2 = .ok (.iload_n 2, 1) := by decide +kernel
theorem dX3_whyNot_3 : decode cX3_whyNot 3 = .ok (.invokevirtual 72, 3) := by decide +kernel
theorem dX3_whyNot_6 : decode cX3_whyNot 6 = .ok (.ifCond .eq 5, 3) := by decide +kernel
theorem dX3_whyNot_9 : decode cX3_whyNot 9 = .ok (.iconst 2, 1) := by decide +kernel
theorem dX3_whyNot_10 : decode cX3_whyNot 10 = .ok (.ireturn, 1) := by decide +kernel
theorem dX3_whyNot_11 : decode cX3_whyNot 11 = .ok (.aload_n 0, 1) := by decide +kernel
theorem dX3_whyNot_12 : decode cX3_whyNot 12 = .ok (.iload_n 1, 1) := by decide +kernel
theorem dX3_whyNot_13 : decode cX3_whyNot 13 = .ok (.iload_n 2, 1) := by decide +kernel
theorem dX3_whyNot_14 : decode cX3_whyNot 14 = .ok (.invokevirtual 78, 3) := by decide +kernel
theorem dX3_whyNot_17 : decode cX3_whyNot 17 = .ok (.ifCond .eq 5, 3) := by decide +kernel
theorem dX3_whyNot_20 : decode cX3_whyNot 20 = .ok (.iconst 3, 1) := by decide +kernel
theorem dX3_whyNot_21 : decode cX3_whyNot 21 = .ok (.ireturn, 1) := by decide +kernel
theorem dX3_whyNot_22 : decode cX3_whyNot 22 = .ok (.iconst 1, 1) := by decide +kernel
theorem dX3_whyNot_23 : decode cX3_whyNot 23 = .ok (.istore_n 3, 1) := by decide +kernel
theorem dX3_whyNot_24 : decode cX3_whyNot 24 = .ok (.iload_n 3, 1) := by decide +kernel
theorem dX3_whyNot_25 : decode cX3_whyNot 25 = .ok (.i2l, 1) := by decide +kernel
theorem dX3_whyNot_26 : decode cX3_whyNot 26 = .ok (.aload_n 0, 1) := by decide +kernel
theorem dX3_whyNot_27 : decode cX3_whyNot 27 = .ok (.getfield 7, 3) := by decide +kernel
theorem dX3_whyNot_30 : decode cX3_whyNot 30 = .ok (.iconst 0, 1) := by decide +kernel
theorem dX3_whyNot_31 : decode cX3_whyNot 31 = .ok (.laload, 1) := by decide +kernel
theorem dX3_whyNot_32 : decode cX3_whyNot 32 = .ok (.lcmp, 1) := by decide +kernel
theorem dX3_whyNot_33 : decode cX3_whyNot 33 = .ok (.ifCond .gt 22, 3) := by decide +kernel
theorem dX3_whyNot_36 : decode cX3_whyNot 36 = .ok (.aload_n 0, 1) := by decide +kernel
theorem dX3_whyNot_37 : decode cX3_whyNot 37 = .ok (.iload_n 1, 1) := by decide +kernel
theorem dX3_whyNot_38 : decode cX3_whyNot 38 = .ok (.iload_n 2, 1) := by decide +kernel
theorem dX3_whyNot_39 : decode cX3_whyNot 39 = .ok (.iload_n 3, 1) := by decide +kernel
theorem dX3_whyNot_40 : decode cX3_whyNot 40 = .ok (.isub, 1) := by decide +kernel
theorem dX3_whyNot_41 : decode cX3_whyNot 41 = .ok (.invokevirtual 78, 3) := by decide +kernel
theorem dX3_whyNot_44 : decode cX3_whyNot 44 = .ok (.ifCond .eq 5, 3) := by decide +kernel
theorem dX3_whyNot_47 : decode cX3_whyNot 47 = .ok (.iconst 4, 1) := by decide +kernel
theorem dX3_whyNot_48 : decode cX3_whyNot 48 = .ok (.ireturn, 1) := by decide +kernel
theorem dX3_whyNot_49 : decode cX3_whyNot 49 = .ok (.iinc 3 1, 3) := by decide +kernel
theorem dX3_whyNot_52 : decode cX3_whyNot 52 = .ok (.goto (-28), 3) := by decide +kernel
theorem dX3_whyNot_55 : decode cX3_whyNot 55 = .ok (.iconst 1, 1) := by decide +kernel
theorem dX3_whyNot_56 : decode cX3_whyNot 56 = .ok (.istore_n 3, 1) := by decide +kernel
theorem dX3_whyNot_57 : decode cX3_whyNot 57 = .ok (.iload_n 3, 1) := by decide +kernel
theorem dX3_whyNot_58 : decode cX3_whyNot 58 = .ok (.i2l, 1) := by decide +kernel
theorem dX3_whyNot_59 : decode cX3_whyNot 59 = .ok (.aload_n 0, 1) := by decide +kernel
theorem dX3_whyNot_60 : decode cX3_whyNot 60 = .ok (.getfield 7, 3) := by decide +kernel
theorem dX3_whyNot_63 : decode cX3_whyNot 63 = .ok (.iconst 0, 1) := by decide +kernel
theorem dX3_whyNot_64 : decode cX3_whyNot 64 = .ok (.laload, 1) := by decide +kernel
theorem dX3_whyNot_65 : decode cX3_whyNot 65 = .ok (.lcmp, 1) := by decide +kernel
theorem dX3_whyNot_66 : decode cX3_whyNot 66 = .ok (.ifCond .gt 22, 3) := by decide +kernel
theorem dX3_whyNot_69 : decode cX3_whyNot 69 = .ok (.aload_n 0, 1) := by decide +kernel
theorem dX3_whyNot_70 : decode cX3_whyNot 70 = .ok (.iload_n 1, 1) := by decide +kernel
theorem dX3_whyNot_71 : decode cX3_whyNot 71 = .ok (.iload_n 2, 1) := by decide +kernel
theorem dX3_whyNot_72 : decode cX3_whyNot 72 = .ok (.iload_n 3, 1) := by decide +kernel
theorem dX3_whyNot_73 : decode cX3_whyNot 73 = .ok (.iadd, 1) := by decide +kernel
theorem dX3_whyNot_74 : decode cX3_whyNot 74 = .ok (.invokevirtual 78, 3) := by decide +kernel
theorem dX3_whyNot_77 : decode cX3_whyNot 77 = .ok (.ifCond .eq 5, 3) := by decide +kernel
theorem dX3_whyNot_80 : decode cX3_whyNot 80 = .ok (.iconst 5, 1) := by decide +kernel
theorem dX3_whyNot_81 : decode cX3_whyNot 81 = .ok (.ireturn, 1) := by decide +kernel
theorem dX3_whyNot_82 : decode cX3_whyNot 82 = .ok (.iinc 3 1, 3) := by decide +kernel
theorem dX3_whyNot_85 : decode cX3_whyNot 85 = .ok (.goto (-28), 3) := by decide +kernel
theorem dX3_whyNot_88 : decode cX3_whyNot 88 = .ok (.iconst 0, 1) := by decide +kernel
theorem dX3_whyNot_89 : decode cX3_whyNot 89 = .ok (.ireturn, 1) := by decide +kernel
set_option maxRecDepth 20000 in
theorem ggX3_whyNotFor_X3_ofA : GoodIn wsX3_whyNotFor wsX3_ofA := goodIn_r _ [5, 6, 39, 40, 41, 42, 43, 44, 45, 46, 47, 48, 49, 50, 51, 52, 53] (by decide +kernel) (by decide +kernel)
set_option maxRecDepth 20000 in
theorem gX3_whyNotFor_X3_ofA : GoodIn wsX3_whyNotFor (wsV RX3 59 RX3 yX3_ofA wsX3_ofA) := goodIn_app (goodIn_of _ (by decide +kernel)) ggX3_whyNotFor_X3_ofA
set_option maxRecDepth 20000 in
theorem ggX3_whyNotFor_X3_whyNot : GoodIn wsX3_whyNotFor wsX3_whyNot := goodIn_r _ [10, 6, 11, 12, 13, 4, 14, 1, 2, 3, 5, 15, 16, 17, 18, 19, 20, 21, 22, 23, 24, 25, 26, 27, 28, 29, 30, 31, 32, 33, 34, 35, 36, 37, 38, 39, 40, 41, 42, 43, 44, 45, 46, 47, 48, 49, 50, 51, 52, 53] (by decide +kernel) (by decide +kernel)
set_option maxRecDepth 20000 in
theorem gX3_whyNotFor_X3_whyNot : GoodIn wsX3_whyNotFor (wsV RX3 81 RX3 yX3_whyNot wsX3_whyNot) := goodIn_app (goodIn_of _ (by decide +kernel)) ggX3_whyNotFor_X3_whyNot
theorem dX3_whyNotFor_0 : decode cX3_whyNotFor 0 = .ok (.aload_n 0, 1) := by decide +kernel
theorem dX3_whyNotFor_1 : decode cX3_whyNotFor 1 = .ok (.iload_n 2, 1) := by decide +kernel
theorem dX3_whyNotFor_2 : decode cX3_whyNotFor 2 = .ok (.iconst 0, 1) := by decide +kernel
theorem dX3_whyNotFor_3 : decode cX3_whyNotFor 3 = .ok (.invokevirtual 59, 3) := by decide +kernel
theorem dX3_whyNotFor_6 : decode cX3_whyNotFor 6 = .ok (.iload_n 1, 1) := by decide +kernel
theorem dX3_whyNotFor_7 : decode cX3_whyNotFor 7 = .ok (.if_icmp .ne 7, 3) := by decide +kernel
theorem dX3_whyNotFor_10 : decode cX3_whyNotFor 10 = .ok (.iconst 1, 1) := by decide +kernel
theorem dX3_whyNotFor_11 : decode cX3_whyNotFor 11 = .ok (.goto 14, 3) := by decide +kernel
theorem dX3_whyNotFor_14 : decode cX3_whyNotFor 14 = .ok (.aload_n 0, 1) := by decide +kernel
theorem dX3_whyNotFor_15 : decode cX3_whyNotFor 15 = .ok (.iload_n 1, 1) := by decide +kernel
theorem dX3_whyNotFor_16 : decode cX3_whyNotFor 16 = .ok (.aload_n 0, 1) := by decide +kernel
theorem dX3_whyNotFor_17 : decode cX3_whyNotFor 17 = .ok (.iload_n 2, 1) := by decide +kernel
theorem dX3_whyNotFor_18 : decode cX3_whyNotFor 18 = .ok (.iconst 1, 1) := by decide +kernel
theorem dX3_whyNotFor_19 : decode cX3_whyNotFor 19 = .ok (.invokevirtual 59, 3) := by decide +kernel
theorem dX3_whyNotFor_22 : decode cX3_whyNotFor 22 = .ok (.invokevirtual 81, 3) := by decide +kernel
theorem dX3_whyNotFor_25 : decode cX3_whyNotFor 25 = .ok (.ireturn, 1) := by decide +kernel
set_option maxRecDepth 20000 in
theorem ggX3_why_X3_isPerson : GoodIn wsX3_why wsX3_isPerson := goodIn_r _ [6, 7, 8, 9, 5, 10, 52, 53, 54, 55, 56, 57, 58, 59, 60, 61, 62, 63, 64, 65, 66] (by decide +kernel) (by decide +kernel)
set_option maxRecDepth 20000 in
theorem gX3_why_X3_isPerson : GoodIn wsX3_why (wsV RX3 38 RX3 yX3_isPerson wsX3_isPerson) := goodIn_app (goodIn_of _ (by decide +kernel)) ggX3_why_X3_isPerson
set_option maxRecDepth 20000 in
theorem ggX3_why_X3_isAbsence : GoodIn wsX3_why wsX3_isAbsence := goodIn_r _ [14, 7, 8, 9, 5, 10, 52, 53, 54, 55, 56, 57, 58, 59, 60, 61, 62, 63, 64, 65, 66] (by decide +kernel) (by decide +kernel)
set_option maxRecDepth 20000 in
theorem gX3_why_X3_isAbsence : GoodIn wsX3_why (wsV RX3 42 RX3 yX3_isAbsence wsX3_isAbsence) := goodIn_app (goodIn_of _ (by decide +kernel)) ggX3_why_X3_isAbsence
set_option maxRecDepth 20000 in
theorem ggX3_why_X3_whyNotFor : GoodIn wsX3_why wsX3_whyNotFor := goodIn_r _ [18, 19, 20, 21, 5, 22, 7, 23, 24, 25, 26, 27, 28, 29, 30, 31, 32, 33, 34, 35, 8, 9, 10, 36, 37, 38, 39, 40, 41, 42, 43, 44, 45, 46, 47, 48, 49, 50, 51, 52, 53, 54, 55, 56, 57, 58, 59, 60, 61, 62, 63, 64, 65, 66] (by decide +kernel) (by decide +kernel)
set_option maxRecDepth 20000 in
theorem gX3_why_X3_whyNotFor : GoodIn wsX3_why (wsV RX3 84 RX3 yX3_whyNotFor wsX3_whyNotFor) := goodIn_app (goodIn_of _ (by decide +kernel)) ggX3_why_X3_whyNotFor
theorem dX3_why_0 : decode cX3_why 0 = .ok (.aload_n 0, 1) := by decide +kernel
theorem dX3_why_1 : decode cX3_why 1 = .ok (.aload_n 0, 1) := by decide +kernel
theorem dX3_why_2 : decode cX3_why 2 = .ok (.iload_n 1, 1) := by decide +kernel
theorem dX3_why_3 : decode cX3_why 3 = .ok (.invokevirtual 38, 3) := by decide +kernel
theorem dX3_why_6 : decode cX3_why 6 = .ok (.ifCond .eq 15, 3) := by decide +kernel
theorem dX3_why_9 : decode cX3_why 9 = .ok (.aload_n 0, 1) := by decide +kernel
theorem dX3_why_10 : decode cX3_why 10 = .ok (.iload_n 2, 1) := by decide +kernel
theorem dX3_why_11 : decode cX3_why 11 = .ok (.invokevirtual 42, 3) := by decide +kernel
theorem dX3_why_14 : decode cX3_why 14 = .ok (.ifCond .eq 7, 3) := by decide +kernel
theorem dX3_why_17 : decode cX3_why 17 = .ok (.iconst 0, 1) := by decide +kernel
theorem dX3_why_18 : decode cX3_why 18 = .ok (.goto 4, 3) := by decide +kernel
theorem dX3_why_21 : decode cX3_why 21 = .ok (.iconst 1, 1) := by decide +kernel
theorem dX3_why_22 : decode cX3_why 22 = .ok (.putfield 30, 3) := by decide +kernel
theorem dX3_why_25 : decode cX3_why 25 = .ok (.aload_n 0, 1) := by decide +kernel
theorem dX3_why_26 : decode cX3_why 26 = .ok (.getfield 30, 3) := by decide +kernel
theorem dX3_why_29 : decode cX3_why 29 = .ok (.ifCond .ne 12, 3) := by decide +kernel
theorem dX3_why_32 : decode cX3_why 32 = .ok (.aload_n 0, 1) := by decide +kernel
theorem dX3_why_33 : decode cX3_why 33 = .ok (.iload_n 1, 1) := by decide +kernel
theorem dX3_why_34 : decode cX3_why 34 = .ok (.iload_n 2, 1) := by decide +kernel
theorem dX3_why_35 : decode cX3_why 35 = .ok (.invokevirtual 84, 3) := by decide +kernel
theorem dX3_why_38 : decode cX3_why 38 = .ok (.goto 4, 3) := by decide +kernel
theorem dX3_why_41 : decode cX3_why 41 = .ok (.iconst 0, 1) := by decide +kernel
theorem dX3_why_42 : decode cX3_why 42 = .ok (.ireturn, 1) := by decide +kernel
set_option maxRecDepth 20000 in
theorem ggX3_set_X3_isIn : GoodIn wsX3_set wsX3_isIn := goodIn_r _ [9] (by decide +kernel) (by decide +kernel)
set_option maxRecDepth 20000 in
theorem gX3_set_X3_isIn : GoodIn wsX3_set (va_wsS RX3 34 yX3_isIn wsX3_isIn) := goodIn_app (goodIn_of _ (by decide +kernel)) ggX3_set_X3_isIn
set_option maxRecDepth 20000 in
theorem ggX3_set_X3_records : GoodIn wsX3_set wsX3_records := goodIn_r _ [13, 14, 15, 16, 17, 18, 8, 19, 5, 20, 21, 22, 23, 24, 25, 26, 27, 28, 29, 30, 31, 32, 33, 34] (by decide +kernel) (by decide +kernel)
set_option maxRecDepth 20000 in
theorem gX3_set_X3_records : GoodIn wsX3_set (wsV RX3 93 RX3 yX3_records wsX3_records) := goodIn_app (goodIn_of _ (by decide +kernel)) ggX3_set_X3_records
theorem dX3_set_0 : decode cX3_set 0 = .ok (.aload_n 0, 1) := by decide +kernel
theorem dX3_set_1 : decode cX3_set 1 = .ok (.iload_n 1, 1) := by decide +kernel
theorem dX3_set_2 : decode cX3_set 2 = .ok (.i2l, 1) := by decide +kernel
theorem dX3_set_3 : decode cX3_set 3 = .ok (.lconst 0, 1) := by decide +kernel
theorem dX3_set_4 : decode cX3_set 4 = .ok (.ldc2_w 87, 3) := by decide +kernel
theorem dX3_set_7 : decode cX3_set 7 = .ok (.invokestatic 34, 3) := by decide +kernel
theorem dX3_set_10 : decode cX3_set 10 = .ok (.ifCond .eq 38, 3) := by decide +kernel
theorem dX3_set_13 : decode cX3_set 13 = .ok (.iload_n 2, 1) := by decide +kernel
theorem dX3_set_14 : decode cX3_set 14 = .ok (.i2l, 1) := by decide +kernel
theorem dX3_set_15 : decode cX3_set 15 = .ok (.iload_n 1, 1) := by decide +kernel
theorem dX3_set_16 : decode cX3_set 16 = .ok (.iconst 1, 1) := by decide +kernel
theorem dX3_set_17 : decode cX3_set 17 = .ok (.if_icmp .ne 7, 3) := by decide +kernel
theorem dX3_set_20 : decode cX3_set 20 = .ok (.lconst 1, 1) := by decide +kernel
theorem dX3_set_21 : decode cX3_set 21 = .ok (.goto 4, 3) := by decide +kernel
theorem dX3_set_24 : decode cX3_set 24 = .ok (.lconst 0, 1) := by decide +kernel
theorem dX3_set_25 : decode cX3_set 25 = .ok (.iload_n 1, 1) := by decide +kernel
theorem dX3_set_26 : decode cX3_set 26 = .ok (.ifCond .ne 9, 3) := by decide +kernel
theorem dX3_set_29 : decode cX3_set 29 = .ok (.ldc2_w 89, 3) := by decide +kernel
theorem dX3_set_32 : decode cX3_set 32 = .ok (.goto 6, 3) := by decide +kernel
theorem dX3_set_35 : decode cX3_set 35 = .ok (.ldc2_w 91, 3) := by decide +kernel
theorem dX3_set_38 : decode cX3_set 38 = .ok (.invokestatic 34, 3) := by decide +kernel
theorem dX3_set_41 : decode cX3_set 41 = .ok (.ifCond .eq 7, 3) := by decide +kernel
theorem dX3_set_44 : decode cX3_set 44 = .ok (.iconst 0, 1) := by decide +kernel
theorem dX3_set_45 : decode cX3_set 45 = .ok (.goto 4, 3) := by decide +kernel
theorem dX3_set_48 : decode cX3_set 48 = .ok (.iconst 1, 1) := by decide +kernel
theorem dX3_set_49 : decode cX3_set 49 = .ok (.putfield 30, 3) := by decide +kernel
theorem dX3_set_52 : decode cX3_set 52 = .ok (.aload_n 0, 1) := by decide +kernel
theorem dX3_set_53 : decode cX3_set 53 = .ok (.getfield 30, 3) := by decide +kernel
theorem dX3_set_56 : decode cX3_set 56 = .ok (.ifCond .eq 5, 3) := by decide +kernel
theorem dX3_set_59 : decode cX3_set 59 = .ok (.iconst 0, 1) := by decide +kernel
theorem dX3_set_60 : decode cX3_set 60 = .ok (.ireturn, 1) := by decide +kernel
theorem dX3_set_61 : decode cX3_set 61 = .ok (.aload_n 0, 1) := by decide +kernel
theorem dX3_set_62 : decode cX3_set 62 = .ok (.invokevirtual 93, 3) := by decide +kernel
theorem dX3_set_65 : decode cX3_set 65 = .ok (.aload_n 0, 1) := by decide +kernel
theorem dX3_set_66 : decode cX3_set 66 = .ok (.getfield 7, 3) := by decide +kernel
theorem dX3_set_69 : decode cX3_set 69 = .ok (.iload_n 1, 1) := by decide +kernel
theorem dX3_set_70 : decode cX3_set 70 = .ok (.laload, 1) := by decide +kernel
theorem dX3_set_71 : decode cX3_set 71 = .ok (.l2i, 1) := by decide +kernel
theorem dX3_set_72 : decode cX3_set 72 = .ok (.istore_n 3, 1) := by decide +kernel
theorem dX3_set_73 : decode cX3_set 73 = .ok (.aload_n 0, 1) := by decide +kernel
theorem dX3_set_74 : decode cX3_set 74 = .ok (.getfield 7, 3) := by decide +kernel
theorem dX3_set_77 : decode cX3_set 77 = .ok (.iload_n 1, 1) := by decide +kernel
theorem dX3_set_78 : decode cX3_set 78 = .ok (.iload_n 2, 1) := by decide +kernel
theorem dX3_set_79 : decode cX3_set 79 = .ok (.i2l, 1) := by decide +kernel
theorem dX3_set_80 : decode cX3_set 80 = .ok (.lastore, 1) := by decide +kernel
theorem dX3_set_81 : decode cX3_set 81 = .ok (.iload_n 3, 1) := by decide +kernel
theorem dX3_set_82 : decode cX3_set 82 = .ok (.ireturn, 1) := by decide +kernel
set_option maxRecDepth 20000 in
theorem ggX3_addPerson_X3_isIn : GoodIn wsX3_addPerson wsX3_isIn := goodIn_r _ [8] (by decide +kernel) (by decide +kernel)
set_option maxRecDepth 20000 in
theorem gX3_addPerson_X3_isIn : GoodIn wsX3_addPerson (va_wsS RX3 34 yX3_isIn wsX3_isIn) := goodIn_app (goodIn_of _ (by decide +kernel)) ggX3_addPerson_X3_isIn
set_option maxRecDepth 20000 in
theorem ggX3_addPerson_X3_records : GoodIn wsX3_addPerson wsX3_records := goodIn_r _ [12, 13, 14, 15, 16, 17, 7, 18, 2, 19, 20, 21, 22, 23, 24, 25, 26, 27, 28, 29, 30, 31, 32, 33] (by decide +kernel) (by decide +kernel)
set_option maxRecDepth 20000 in
theorem gX3_addPerson_X3_records : GoodIn wsX3_addPerson (wsV RX3 93 RX3 yX3_records wsX3_records) := goodIn_app (goodIn_of _ (by decide +kernel)) ggX3_addPerson_X3_records
theorem dX3_addPerson_0 : decode cX3_addPerson 0 = .ok (.aload_n 0, 1) := by decide +kernel
theorem dX3_addPerson_1 : decode cX3_addPerson 1 = .ok (.lload_n 1, 1) := by decide +kernel
theorem dX3_addPerson_2 : decode cX3_addPerson 2 = .ok (.lconst 0, 1) := by decide +kernel
theorem dX3_addPerson_3 : decode cX3_addPerson 3 = .ok (.ldc2_w 96, 3) := by decide +kernel
theorem dX3_addPerson_6 : decode cX3_addPerson 6 = .ok (.invokestatic 34, 3) := by decide +kernel
theorem dX3_addPerson_9 : decode cX3_addPerson 9 = .ok (.ifCond .ne 7, 3) := by decide +kernel
theorem dX3_addPerson_12 : decode cX3_addPerson 12 = .ok (.iconst 1, 1) := by decide +kernel
theorem dX3_addPerson_13 : decode cX3_addPerson 13 = .ok (.goto 21, 3) := by decide +kernel
theorem dX3_addPerson_16 : decode cX3_addPerson 16 = .ok (.aload_n 0, 1) := by decide +kernel
theorem dX3_addPerson_17 : decode cX3_addPerson 17 = .ok (.getfield 7, 3) := by decide +kernel
theorem dX3_addPerson_20 : decode cX3_addPerson 20 = .ok (.iconst 3, 1) := by decide +kernel
theorem dX3_addPerson_21 : decode cX3_addPerson 21 = .ok (.laload, 1) := by decide +kernel
theorem dX3_addPerson_22 : decode cX3_addPerson 22 = .ok (.ldc2_w 98, 3) := by decide +kernel
theorem dX3_addPerson_25 : decode cX3_addPerson 25 = .ok (.lcmp, 1) := by decide +kernel
theorem dX3_addPerson_26 : decode cX3_addPerson 26 = .ok (.ifCond .ge 7, 3) := by decide +kernel
theorem dX3_addPerson_29 : decode cX3_addPerson 29 = .ok (.iconst 0, 1) := by decide +kernel
theorem dX3_addPerson_30 : decode cX3_addPerson 30 = .ok (.goto 4, 3) := by decide +kernel
theorem dX3_addPerson_33 : decode cX3_addPerson 33 = .ok (.iconst 2, 1) := by decide +kernel
theorem dX3_addPerson_34 : decode cX3_addPerson 34 = .ok (.putfield 30, 3) := by decide +kernel
theorem dX3_addPerson_37 : decode cX3_addPerson 37 = .ok (.aload_n 0, 1) := by decide +kernel
theorem dX3_addPerson_38 : decode cX3_addPerson 38 = .ok (.getfield 30, 3) := by decide +kernel
theorem dX3_addPerson_41 : decode cX3_addPerson 41 = .ok (.ifCond .eq 5, 3) := by decide +kernel
theorem dX3_addPerson_44 : decode cX3_addPerson 44 = .ok (.iconst 0, 1) := by decide +kernel
theorem dX3_addPerson_45 : decode cX3_addPerson 45 = .ok (.ireturn, 1) := by decide +kernel
theorem dX3_addPerson_46 : decode cX3_addPerson 46 = .ok (.aload_n 0, 1) := by decide +kernel
theorem dX3_addPerson_47 : decode cX3_addPerson 47 = .ok (.invokevirtual 93, 3) := by decide +kernel
theorem dX3_addPerson_50 : decode cX3_addPerson 50 = .ok (.aload_n 0, 1) := by decide +kernel
theorem dX3_addPerson_51 : decode cX3_addPerson 51 = .ok (.getfield 7, 3) := by decide +kernel
theorem dX3_addPerson_54 : decode cX3_addPerson 54 = .ok (.iconst 3, 1) := by decide +kernel
theorem dX3_addPerson_55 : decode cX3_addPerson 55 = .ok (.laload, 1) := by decide +kernel
theorem dX3_addPerson_56 : decode cX3_addPerson 56 = .ok (.l2i, 1) := by decide +kernel
theorem dX3_addPerson_57 : decode cX3_addPerson 57 = .ok (.istore_n 3, 1) := by decide +kernel
theorem dX3_addPerson_58 : decode cX3_addPerson 58 = .ok (.aload_n 0, 1) := by decide +kernel
theorem dX3_addPerson_59 : decode cX3_addPerson 59 = .ok (.getfield 7, 3) := by decide +kernel
theorem dX3_addPerson_62 : decode cX3_addPerson 62 = .ok (.bipush 6, 2) := by decide +kernel
theorem dX3_addPerson_64 : decode cX3_addPerson 64 = .ok (.iconst 3, 1) := by decide +kernel
theorem dX3_addPerson_65 : decode cX3_addPerson 65 = .ok (.iload_n 3, 1) := by decide +kernel
theorem dX3_addPerson_66 : decode cX3_addPerson 66 = .ok (.imul, 1) := by decide +kernel
theorem dX3_addPerson_67 : decode cX3_addPerson 67 = .ok (.iadd, 1) := by decide +kernel
theorem dX3_addPerson_68 : decode cX3_addPerson 68 = .ok (.iconst 0, 1) := by decide +kernel
theorem dX3_addPerson_69 : decode cX3_addPerson 69 = .ok (.iadd, 1) := by decide +kernel
theorem dX3_addPerson_70 : decode cX3_addPerson 70 = .ok (.lload_n 1, 1) := by decide +kernel
theorem dX3_addPerson_71 : decode cX3_addPerson 71 = .ok (.lastore, 1) := by decide +kernel
theorem dX3_addPerson_72 : decode cX3_addPerson 72 = .ok (.aload_n 0, 1) := by decide +kernel
theorem dX3_addPerson_73 : decode cX3_addPerson 73 = .ok (.getfield 7, 3) := by decide +kernel
theorem dX3_addPerson_76 : decode cX3_addPerson 76 = .ok (.bipush 6, 2) := by decide +kernel
theorem dX3_addPerson_78 : decode cX3_addPerson 78 = .ok (.iconst 3, 1) := by decide +kernel
theorem dX3_addPerson_79 : decode cX3_addPerson 79 = .ok (.iload_n 3, 1) := by decide +kernel
theorem dX3_addPerson_80 : decode cX3_addPerson 80 = .ok (.imul, 1) := by decide +kernel
theorem dX3_addPerson_81 : decode cX3_addPerson 81 = .ok (.iadd, 1) := by decide +kernel
theorem dX3_addPerson_82 : decode cX3_addPerson 82 = .ok (.iconst 1, 1) := by decide +kernel
theorem dX3_addPerson_83 : decode cX3_addPerson 83 = .ok (.iadd, 1) := by decide +kernel
theorem dX3_addPerson_84 : decode cX3_addPerson 84 = .ok (.lconst 0, 1) := by decide +kernel
theorem dX3_addPerson_85 : decode cX3_addPerson 85 = .ok (.lastore, 1) := by decide +kernel
theorem dX3_addPerson_86 : decode cX3_addPerson 86 = .ok (.aload_n 0, 1) := by decide +kernel
theorem dX3_addPerson_87 : decode cX3_addPerson 87 = .ok (.getfield 7, 3) := by decide +kernel
theorem dX3_addPerson_90 : decode cX3_addPerson 90 = .ok (.bipush 6, 2) := by decide +kernel
theorem dX3_addPerson_92 : decode cX3_addPerson 92 = .ok (.iconst 3, 1) := by decide +kernel
theorem dX3_addPerson_93 : decode cX3_addPerson 93 = .ok (.iload_n 3, 1) := by decide +kernel
theorem dX3_addPerson_94 : decode cX3_addPerson 94 = .ok (.imul, 1) := by decide +kernel
theorem dX3_addPerson_95 : decode cX3_addPerson 95 = .ok (.iadd, 1) := by decide +kernel
theorem dX3_addPerson_96 : decode cX3_addPerson 96 = .ok (.iconst 2, 1) := by decide +kernel
theorem dX3_addPerson_97 : decode cX3_addPerson 97 = .ok (.iadd, 1) := by decide +kernel
theorem dX3_addPerson_98 : decode cX3_addPerson 98 = .ok (.lconst 0, 1) := by decide +kernel
theorem dX3_addPerson_99 : decode cX3_addPerson 99 = .ok (.lastore, 1) := by decide +kernel
theorem dX3_addPerson_100 : decode cX3_addPerson 100 = .ok (.aload_n 0, 1) := by decide +kernel
theorem dX3_addPerson_101 : decode cX3_addPerson 101 = .ok (.getfield 7, 3) := by decide +kernel
theorem dX3_addPerson_104 : decode cX3_addPerson 104 = .ok (.iconst 3, 1) := by decide +kernel
theorem dX3_addPerson_105 : decode cX3_addPerson 105 = .ok (.dup2, 1) := by decide +kernel
theorem dX3_addPerson_106 : decode cX3_addPerson 106 = .ok (.laload, 1) := by decide +kernel
theorem dX3_addPerson_107 : decode cX3_addPerson 107 = .ok (.lconst 1, 1) := by decide +kernel
theorem dX3_addPerson_108 : decode cX3_addPerson 108 = .ok (.ladd, 1) := by decide +kernel
theorem dX3_addPerson_109 : decode cX3_addPerson 109 = .ok (.lastore, 1) := by decide +kernel
theorem dX3_addPerson_110 : decode cX3_addPerson 110 = .ok (.iload_n 3, 1) := by decide +kernel
theorem dX3_addPerson_111 : decode cX3_addPerson 111 = .ok (.ireturn, 1) := by decide +kernel
set_option maxRecDepth 20000 in
theorem ggX3_rostered_X3_isRostered : GoodIn wsX3_rostered wsX3_isRostered := goodIn_r _ [5, 6, 7, 8, 4, 9, 10, 11, 12, 13, 14, 15, 16, 17, 18, 19, 20, 21, 22, 23, 24, 25] (by decide +kernel) (by decide +kernel)
set_option maxRecDepth 20000 in
theorem gX3_rostered_X3_isRostered : GoodIn wsX3_rostered (wsV RX3 68 RX3 yX3_isRostered wsX3_isRostered) := goodIn_app (goodIn_of _ (by decide +kernel)) ggX3_rostered_X3_isRostered
theorem dX3_rostered_0 : decode cX3_rostered 0 = .ok (.iconst 0, 1) := by decide +kernel
theorem dX3_rostered_1 : decode cX3_rostered 1 = .ok (.istore_n 2, 1) := by decide +kernel
theorem dX3_rostered_2 : decode cX3_rostered 2 = .ok (.iconst 0, 1) := by decide +kernel
theorem dX3_rostered_3 : decode cX3_rostered 3 = .ok (.istore_n 3, 1) := by decide +kernel
theorem dX3_rostered_4 : decode cX3_rostered 4 = .ok (.iload_n 3, 1) := by decide +kernel
theorem dX3_rostered_5 : decode cX3_rostered 5 = .ok (.bipush 42, 2) := by decide +kernel
theorem dX3_rostered_7 : decode cX3_rostered 7 = .ok (.if_icmp .ge 26, 3) := by decide +kernel
theorem dX3_rostered_10 : decode cX3_rostered 10 = .ok (.iload_n 2, 1) := by decide +kernel
theorem dX3_rostered_11 : decode cX3_rostered 11 = .ok (.aload_n 0, 1) := by decide +kernel
theorem dX3_rostered_12 : decode cX3_rostered 12 = .ok (.iload_n 1, 1) := by decide +kernel
theorem dX3_rostered_13 : decode cX3_rostered 13 = .ok (.iload_n 3, 1) := by decide +kernel
theorem dX3_rostered_14 : decode cX3_rostered 14 = .ok (.invokevirtual 68, 3) := by decide +kernel
theorem dX3_rostered_17 : decode cX3_rostered 17 = .ok (.ifCond .eq 7, 3) := by decide +kernel
theorem dX3_rostered_20 : decode cX3_rostered 20 = .ok (.iconst 1, 1) := by decide +kernel
theorem dX3_rostered_21 : decode cX3_rostered 21 = .ok (.goto 4, 3) := by decide +kernel
theorem dX3_rostered_24 : decode cX3_rostered 24 = .ok (.iconst 0, 1) := by decide +kernel
theorem dX3_rostered_25 : decode cX3_rostered 25 = .ok (.iadd, 1) := by decide +kernel
theorem dX3_rostered_26 : decode cX3_rostered 26 = .ok (.istore_n 2, 1) := by decide +kernel
theorem dX3_rostered_27 : decode cX3_rostered 27 = .ok (.iinc 3 1, 3) := by decide +kernel
theorem dX3_rostered_30 : decode cX3_rostered 30 = .ok (.goto (-26), 3) := by decide +kernel
theorem dX3_rostered_33 : decode cX3_rostered 33 = .ok (.iload_n 2, 1) := by decide +kernel
theorem dX3_rostered_34 : decode cX3_rostered 34 = .ok (.ireturn, 1) := by decide +kernel
set_option maxRecDepth 20000 in
theorem ggX3_roster_X3_shiftError : GoodIn wsX3_roster wsX3_shiftError := goodIn_r _ [7, 8, 9, 10, 11, 6, 12, 2, 13, 14, 15, 16, 17, 18, 19, 20, 21, 22, 23, 24, 25, 26, 27, 28, 29, 30, 31, 32, 33, 34, 35, 36, 59, 60, 61, 62, 63, 64, 65, 66, 67, 68, 69, 70, 71, 72, 73] (by decide +kernel) (by decide +kernel)
set_option maxRecDepth 20000 in
theorem gX3_roster_X3_shiftError : GoodIn wsX3_roster (wsV RX3 100 RX3 yX3_shiftError wsX3_shiftError) := goodIn_app (goodIn_of _ (by decide +kernel)) ggX3_roster_X3_shiftError
set_option maxRecDepth 20000 in
theorem ggX3_roster_X3_isRostered : GoodIn wsX3_roster wsX3_isRostered := goodIn_r _ [24, 25, 26, 27, 6, 28, 2, 59, 60, 61, 62, 63, 64, 65, 66, 67, 68, 69, 70, 71, 72, 73] (by decide +kernel) (by decide +kernel)
set_option maxRecDepth 20000 in
theorem gX3_roster_X3_isRostered : GoodIn wsX3_roster (wsV RX3 68 RX3 yX3_isRostered wsX3_isRostered) := goodIn_app (goodIn_of _ (by decide +kernel)) ggX3_roster_X3_isRostered
set_option maxRecDepth 20000 in
theorem ggX3_roster_X3_isAbsent : GoodIn wsX3_roster wsX3_isAbsent := goodIn_r _ [32, 2, 33, 34, 35, 6, 36, 59, 60, 61, 62, 63, 64, 65, 66, 67, 68, 69, 70, 71, 72, 73] (by decide +kernel) (by decide +kernel)
set_option maxRecDepth 20000 in
theorem gX3_roster_X3_isAbsent : GoodIn wsX3_roster (wsV RX3 72 RX3 yX3_isAbsent wsX3_isAbsent) := goodIn_app (goodIn_of _ (by decide +kernel)) ggX3_roster_X3_isAbsent
set_option maxRecDepth 20000 in
theorem ggX3_roster_X3_coversIn : GoodIn wsX3_roster wsX3_coversIn := goodIn_r _ [40, 2, 41, 42, 43, 6, 44, 33, 34, 35, 36, 59, 60, 61, 62, 63, 64, 65, 66, 67, 68, 69, 70, 71, 72, 73] (by decide +kernel) (by decide +kernel)
set_option maxRecDepth 20000 in
theorem gX3_roster_X3_coversIn : GoodIn wsX3_roster (wsV RX3 75 RX3 yX3_coversIn wsX3_coversIn) := goodIn_app (goodIn_of _ (by decide +kernel)) ggX3_roster_X3_coversIn
set_option maxRecDepth 20000 in
theorem ggX3_roster_X3_records : GoodIn wsX3_roster wsX3_records := goodIn_r _ [48, 49, 50, 51, 52, 53, 6, 54, 2, 59, 60, 61, 62, 63, 64, 65, 66, 67, 68, 69, 70, 71, 72, 73] (by decide +kernel) (by decide +kernel)
set_option maxRecDepth 20000 in
theorem gX3_roster_X3_records : GoodIn wsX3_roster (wsV RX3 93 RX3 yX3_records wsX3_records) := goodIn_app (goodIn_of _ (by decide +kernel)) ggX3_roster_X3_records
set_option maxRecDepth 20000 in
theorem ggX3_roster_X3_rostered : GoodIn wsX3_roster wsX3_rostered := goodIn_r _ [58, 21, 22, 23, 6, 24, 25, 26, 27, 28, 2, 59, 60, 61, 62, 63, 64, 65, 66, 67, 68, 69, 70, 71, 72, 73] (by decide +kernel) (by decide +kernel)
set_option maxRecDepth 20000 in
theorem gX3_roster_X3_rostered : GoodIn wsX3_roster (wsV RX3 104 RX3 yX3_rostered wsX3_rostered) := goodIn_app (goodIn_of _ (by decide +kernel)) ggX3_roster_X3_rostered
theorem dX3_roster_0 : decode cX3_roster 0 = .ok (.aload_n 0, 1) := by decide +kernel
theorem dX3_roster_1 : decode cX3_roster 1 = .ok (.aload_n 0, 1) := by decide +kernel
theorem dX3_roster_2 : decode cX3_roster 2 = .ok (.iload_n 1, 1) := by decide +kernel
theorem dX3_roster_3 : decode cX3_roster 3 = .ok (.iload_n 2, 1) := by decide +kernel
theorem dX3_roster_4 : decode cX3_roster 4 = .ok (.iconst 1, 1) := by decide +kernel
theorem dX3_roster_5 : decode cX3_roster 5 = .ok (.invokevirtual 100, 3) := by decide +kernel
theorem dX3_roster_8 : decode cX3_roster 8 = .ok (.putfield 30, 3) := by decide +kernel
theorem dX3_roster_11 : decode cX3_roster 11 = .ok (.aload_n 0, 1) := by decide +kernel
theorem dX3_roster_12 : decode cX3_roster 12 = .ok (.getfield 30, 3) := by decide +kernel
theorem dX3_roster_15 : decode cX3_roster 15 = .ok (.ifCond .eq 5, 3) := by decide +kernel
theorem dX3_roster_18 : decode cX3_roster 18 = .ok (.iconst 0, 1) := by decide +kernel
theorem dX3_roster_19 : decode cX3_roster 19 = .ok (.ireturn, 1) := by decide +kernel
theorem dX3_roster_20 : decode cX3_roster 20 = .ok (.aload_n 0, 1) := by decide +kernel
theorem dX3_roster_21 : decode cX3_roster 21 = .ok (.iload_n 1, 1) := by decide +kernel
theorem dX3_roster_22 : decode cX3_roster 22 = .ok (.iload_n 2, 1) := by decide +kernel
theorem dX3_roster_23 : decode cX3_roster 23 = .ok (.invokevirtual 68, 3) := by decide +kernel
theorem dX3_roster_26 : decode cX3_roster 26 = .ok (.iload_n 3, 1) := by decide +kernel
theorem dX3_roster_27 : decode cX3_roster 27 = .ok (.if_icmp .eq 21, 3) := by decide +kernel
theorem dX3_roster_30 : decode cX3_roster 30 = .ok (.aload_n 0, 1) := by decide +kernel
theorem dX3_roster_31 : decode cX3_roster 31 = .ok (.iload_n 1, 1) := by decide +kernel
theorem dX3_roster_32 : decode cX3_roster 32 = .ok (.iload_n 2, 1) := by decide +kernel
theorem dX3_roster_33 : decode cX3_roster 33 = .ok (.invokevirtual 72, 3) := by decide +kernel
theorem dX3_roster_36 : decode cX3_roster 36 = .ok (.ifCond .ne 12, 3) := by decide +kernel
theorem dX3_roster_39 : decode cX3_roster 39 = .ok (.aload_n 0, 1) := by decide +kernel
theorem dX3_roster_40 : decode cX3_roster 40 = .ok (.iload_n 1, 1) := by decide +kernel
theorem dX3_roster_41 : decode cX3_roster 41 = .ok (.iload_n 2, 1) := by decide +kernel
theorem dX3_roster_42 : decode cX3_roster 42 = .ok (.invokevirtual 75, 3) := by decide +kernel
theorem dX3_roster_45 : decode cX3_roster 45 = .ok (.ifCond .eq 10, 3) := by decide +kernel
theorem dX3_roster_48 : decode cX3_roster 48 = .ok (.aload_n 0, 1) := by decide +kernel
theorem dX3_roster_49 : decode cX3_roster 49 = .ok (.iconst 3, 1) := by decide +kernel
theorem dX3_roster_50 : decode cX3_roster 50 = .ok (.putfield 30, 3) := by decide +kernel
theorem dX3_roster_53 : decode cX3_roster 53 = .ok (.iconst 0, 1) := by decide +kernel
theorem dX3_roster_54 : decode cX3_roster 54 = .ok (.ireturn, 1) := by decide +kernel
theorem dX3_roster_55 : decode cX3_roster 55 = .ok (.aload_n 0, 1) := by decide +kernel
theorem dX3_roster_56 : decode cX3_roster 56 = .ok (.invokevirtual 93, 3) := by decide +kernel
theorem dX3_roster_59 : decode cX3_roster 59 = .ok (.lconst 1, 1) := by decide +kernel
theorem dX3_roster_60 : decode cX3_roster 60 = .ok (.iload_n 2, 1) := by decide +kernel
theorem dX3_roster_61 : decode cX3_roster 61 = .ok (.lshl, 1) := by decide +kernel
theorem dX3_roster_62 : decode cX3_roster 62 = .ok (.lstore 4, 2) := by decide +kernel
theorem dX3_roster_64 : decode cX3_roster 64 = .ok (.aload_n 0, 1) := by decide +kernel
theorem dX3_roster_65 : decode cX3_roster 65 = .ok (.getfield 7, 3) := by decide +kernel
theorem dX3_roster_68 : decode cX3_roster 68 = .ok (.bipush 6, 2) := by decide +kernel
theorem dX3_roster_70 : decode cX3_roster 70 = .ok (.iconst 3, 1) := by decide +kernel
theorem dX3_roster_71 : decode cX3_roster 71 = .ok (.iload_n 1, 1) := by decide +kernel
theorem dX3_roster_72 : decode cX3_roster 72 = .ok (.imul, 1) := by decide +kernel
theorem dX3_roster_73 : decode cX3_roster 73 = .ok (.iadd, 1) := by decide +kernel
theorem dX3_roster_74 : decode cX3_roster 74 = .ok (.iconst 0, 1) := by decide +kernel
theorem dX3_roster_75 : decode cX3_roster 75 = .ok (.iadd, 1) := by decide +kernel
theorem dX3_roster_76 : decode cX3_roster 76 = .ok (.dup2, 1) := by decide +kernel
theorem dX3_roster_77 : decode cX3_roster 77 = .ok (.laload, 1) := by decide +kernel
theorem dX3_roster_78 : decode cX3_roster 78 = .ok (.iload_n 3, 1) := by decide +kernel
theorem dX3_roster_79 : decode cX3_roster 79 = .ok (.ifCond .eq 8, 3) := by decide +kernel
theorem dX3_roster_82 : decode cX3_roster 82 = .ok (.lload 4, 2) := by decide +kernel
theorem dX3_roster_84 : decode cX3_roster 84 = .ok (.goto 6, 3) := by decide +kernel
theorem dX3_roster_87 : decode cX3_roster 87 = .ok (.lload 4, 2) := by decide +kernel
theorem dX3_roster_89 : decode cX3_roster 89 = .ok (.lneg, 1) := by decide +kernel
theorem dX3_roster_90 : decode cX3_roster 90 = .ok (.ladd, 1) := by decide +kernel
theorem dX3_roster_91 : decode cX3_roster 91 = .ok (.lastore, 1) := by decide +kernel
theorem dX3_roster_92 : decode cX3_roster 92 = .ok (.aload_n 0, 1) := by decide +kernel
theorem dX3_roster_93 : decode cX3_roster 93 = .ok (.iload_n 1, 1) := by decide +kernel
theorem dX3_roster_94 : decode cX3_roster 94 = .ok (.invokevirtual 104, 3) := by decide +kernel
theorem dX3_roster_97 : decode cX3_roster 97 = .ok (.ireturn, 1) := by decide +kernel
set_option maxRecDepth 20000 in
theorem ggX3_shiftError_X3_isPerson : GoodIn wsX3_shiftError wsX3_isPerson := goodIn_r _ [6, 7, 8, 9, 5, 10, 32, 33, 34, 35, 36, 37, 38, 39, 40, 41, 42, 43, 44, 45, 46] (by decide +kernel) (by decide +kernel)
set_option maxRecDepth 20000 in
theorem gX3_shiftError_X3_isPerson : GoodIn wsX3_shiftError (wsV RX3 38 RX3 yX3_isPerson wsX3_isPerson) := goodIn_app (goodIn_of _ (by decide +kernel)) ggX3_shiftError_X3_isPerson
set_option maxRecDepth 20000 in
theorem ggX3_shiftError_X3_isIn : GoodIn wsX3_shiftError wsX3_isIn := goodIn_r _ [10] (by decide +kernel) (by decide +kernel)
set_option maxRecDepth 20000 in
theorem gX3_shiftError_X3_isIn : GoodIn wsX3_shiftError (va_wsS RX3 34 yX3_isIn wsX3_isIn) := goodIn_app (goodIn_of _ (by decide +kernel)) ggX3_shiftError_X3_isIn
set_option maxRecDepth 20000 in
theorem ggX3_shiftError_X3_mayBeAbsent : GoodIn wsX3_shiftError wsX3_mayBeAbsent := goodIn_r _ [14, 7, 15, 16, 17, 18, 5, 19, 20, 21, 22, 23, 24, 25, 26, 27, 28, 29, 30, 31, 32, 33, 34, 35, 36, 37, 38, 39, 40, 41, 42, 43, 44, 45, 46] (by decide +kernel) (by decide +kernel)
set_option maxRecDepth 20000 in
theorem gX3_shiftError_X3_mayBeAbsent : GoodIn wsX3_shiftError (wsV RX3 108 RX3 yX3_mayBeAbsent wsX3_mayBeAbsent) := goodIn_app (goodIn_of _ (by decide +kernel)) ggX3_shiftError_X3_mayBeAbsent
theorem dX3_shiftError_0 : decode cX3_shiftError 0 = .ok (.aload_n 0, 1) := by decide +kernel
theorem dX3_shiftError_1 : decode cX3_shiftError 1 = .ok (.iload_n 1, 1) := by decide +kernel
theorem dX3_shiftError_2 : decode cX3_shiftError 2 = .ok (.invokevirtual 38, 3) := by decide +kernel
theorem dX3_shiftError_5 : decode cX3_shiftError 5 = .ok (.ifCond .ne 5, 3) := by decide +kernel
theorem dX3_shiftError_8 : decode cX3_shiftError 8 = .ok (.iconst 1, 1) := by decide +kernel
theorem dX3_shiftError_9 : decode cX3_shiftError 9 = .ok (.ireturn, 1) := by decide +kernel
theorem dX3_shiftError_10 : decode cX3_shiftError 10 = .ok (.iload_n 2, 1) := by decide +kernel
theorem dX3_shiftError_11 : decode cX3_shiftError 11 = .ok (.i2l, 1) := by decide +kernel
theorem dX3_shiftError_12 : decode cX3_shiftError 12 = .ok (.lconst 0, 1) := by decide +kernel
theorem dX3_shiftError_13 : decode cX3_shiftError 13 = .ok (.ldc2_w 66, 3) := by decide +kernel
theorem dX3_shiftError_16 : decode cX3_shiftError 16 = .ok (.invokestatic 34, 3) := by decide +kernel
theorem dX3_shiftError_19 : decode cX3_shiftError 19 = .ok (.ifCond .ne 5, 3) := by decide +kernel
theorem dX3_shiftError_22 : decode cX3_shiftError 22 = .ok (.iconst 2, 1) := by decide +kernel
theorem dX3_shiftError_23 : decode cX3_shiftError 23 = .ok (.ireturn, 1) := by decide +kernel
theorem dX3_shiftError_24 : decode cX3_shiftError 24 = .ok (.iload_n 3, 1) := by decide +kernel
theorem dX3_shiftError_25 : decode cX3_shiftError 25 = .ok (.ifCond .ne 12, 3) := by decide +kernel
theorem dX3_shiftError_28 : decode cX3_shiftError 28 = .ok (.aload_n 0, 1) := by decide +kernel
theorem dX3_shiftError_29 : decode cX3_shiftError 29 = .ok (.iload_n 1, 1) := by decide +kernel
theorem dX3_shiftError_30 : decode cX3_shiftError 30 = .ok (.iload_n 2, 1) := by decide +kernel
theorem dX3_shiftError_31 : decode cX3_shiftError 31 = .ok (.invokevirtual 108, 3) := by decide +kernel
theorem dX3_shiftError_34 : decode cX3_shiftError 34 = .ok (.ifCond .eq 7, 3) := by decide +kernel
theorem dX3_shiftError_37 : decode cX3_shiftError 37 = .ok (.iconst 0, 1) := by decide +kernel
theorem dX3_shiftError_38 : decode cX3_shiftError 38 = .ok (.goto 4, 3) := by decide +kernel
theorem dX3_shiftError_41 : decode cX3_shiftError 41 = .ok (.iconst 3, 1) := by decide +kernel
theorem dX3_shiftError_42 : decode cX3_shiftError 42 = .ok (.ireturn, 1) := by decide +kernel
set_option maxRecDepth 20000 in
theorem ggX3_mayBeAbsent_X3_isRostered : GoodIn wsX3_mayBeAbsent wsX3_isRostered := goodIn_r _ [7, 8, 9, 10, 6, 11, 1, 20, 21, 22, 23, 24, 25, 26, 27, 28, 29, 30, 31, 32, 33, 34] (by decide +kernel) (by decide +kernel)
set_option maxRecDepth 20000 in
theorem gX3_mayBeAbsent_X3_isRostered : GoodIn wsX3_mayBeAbsent (wsV RX3 68 RX3 yX3_isRostered wsX3_isRostered) := goodIn_app (goodIn_of _ (by decide +kernel)) ggX3_mayBeAbsent_X3_isRostered
set_option maxRecDepth 20000 in
theorem ggX3_mayBeAbsent_X3_isAbsent : GoodIn wsX3_mayBeAbsent wsX3_isAbsent := goodIn_r _ [15, 1, 16, 17, 18, 6, 19, 20, 21, 22, 23, 24, 25, 26, 27, 28, 29, 30, 31, 32, 33, 34] (by decide +kernel) (by decide +kernel)
set_option maxRecDepth 20000 in
theorem gX3_mayBeAbsent_X3_isAbsent : GoodIn wsX3_mayBeAbsent (wsV RX3 72 RX3 yX3_isAbsent wsX3_isAbsent) := goodIn_app (goodIn_of _ (by decide +kernel)) ggX3_mayBeAbsent_X3_isAbsent
theorem dX3_mayBeAbsent_0 : decode cX3_mayBeAbsent 0 = .ok (.aload_n 0, 1) := by decide +kernel
theorem dX3_mayBeAbsent_1 : decode cX3_mayBeAbsent 1 = .ok (.iload_n 1, 1) := by decide +kernel
theorem dX3_mayBeAbsent_2 : decode cX3_mayBeAbsent 2 = .ok (.iload_n 2, 1) := by decide +kernel
theorem dX3_mayBeAbsent_3 : decode cX3_mayBeAbsent 3 = .ok (.invokevirtual 68, 3) := by decide +kernel
theorem dX3_mayBeAbsent_6 : decode cX3_mayBeAbsent 6 = .ok (.ifCond .eq 29, 3) := by decide +kernel
theorem dX3_mayBeAbsent_9 : decode cX3_mayBeAbsent 9 = .ok (.aload_n 0, 1) := by decide +kernel
theorem dX3_mayBeAbsent_10 : decode cX3_mayBeAbsent 10 = .ok (.iload_n 1, 1) := by decide +kernel
theorem dX3_mayBeAbsent_11 : decode cX3_mayBeAbsent 11 = .ok (.iload_n 2, 1) := by decide +kernel
theorem dX3_mayBeAbsent_12 : decode cX3_mayBeAbsent 12 = .ok (.invokevirtual 72, 3) := by decide +kernel
theorem dX3_mayBeAbsent_15 : decode cX3_mayBeAbsent 15 = .ok (.ifCond .ne 20, 3) := by decide +kernel
theorem dX3_mayBeAbsent_18 : decode cX3_mayBeAbsent 18 = .ok (.aload_n 0, 1) := by decide +kernel
theorem dX3_mayBeAbsent_19 : decode cX3_mayBeAbsent 19 = .ok (.getfield 7, 3) := by decide +kernel
theorem dX3_mayBeAbsent_22 : decode cX3_mayBeAbsent 22 = .ok (.iconst 4, 1) := by decide +kernel
theorem dX3_mayBeAbsent_23 : decode cX3_mayBeAbsent 23 = .ok (.laload, 1) := by decide +kernel
theorem dX3_mayBeAbsent_24 : decode cX3_mayBeAbsent 24 = .ok (.ldc2_w 111, 3) := by decide +kernel
theorem dX3_mayBeAbsent_27 : decode cX3_mayBeAbsent 27 = .ok (.lcmp, 1) := by decide +kernel
theorem dX3_mayBeAbsent_28 : decode cX3_mayBeAbsent 28 = .ok (.ifCond .ge 7, 3) := by decide +kernel
theorem dX3_mayBeAbsent_31 : decode cX3_mayBeAbsent 31 = .ok (.iconst 1, 1) := by decide +kernel
theorem dX3_mayBeAbsent_32 : decode cX3_mayBeAbsent 32 = .ok (.goto 4, 3) := by decide +kernel
theorem dX3_mayBeAbsent_35 : decode cX3_mayBeAbsent 35 = .ok (.iconst 0, 1) := by decide +kernel
theorem dX3_mayBeAbsent_36 : decode cX3_mayBeAbsent 36 = .ok (.ireturn, 1) := by decide +kernel
set_option maxRecDepth 20000 in
theorem ggX3_adds_X3_becomes : GoodIn wsX3_adds wsX3_becomes := goodIn_r _ [6, 1, 11, 12, 13, 14, 15, 16, 17, 18, 19, 20, 21, 22, 23, 24, 25] (by decide +kernel) (by decide +kernel)
set_option maxRecDepth 20000 in
theorem gX3_adds_X3_becomes : GoodIn wsX3_adds (wsV RX3 113 RX3 yX3_becomes wsX3_becomes) := goodIn_app (goodIn_of _ (by decide +kernel)) ggX3_adds_X3_becomes
set_option maxRecDepth 20000 in
theorem ggX3_adds_X3_clearsBids : GoodIn wsX3_adds wsX3_clearsBids := goodIn_r _ [10, 2, 3, 4, 5, 6, 1, 11, 12, 13, 14, 15, 16, 17, 18, 19, 20, 21, 22, 23, 24, 25] (by decide +kernel) (by decide +kernel)
set_option maxRecDepth 20000 in
theorem gX3_adds_X3_clearsBids : GoodIn wsX3_adds (wsV RX3 117 RX3 yX3_clearsBids wsX3_clearsBids) := goodIn_app (goodIn_of _ (by decide +kernel)) ggX3_adds_X3_clearsBids
theorem dX3_adds_0 : decode cX3_adds 0 = .ok (.aload_n 0, 1) := by decide +kernel
theorem dX3_adds_1 : decode cX3_adds 1 = .ok (.getfield 7, 3) := by decide +kernel
theorem dX3_adds_4 : decode cX3_adds 4 = .ok (.iconst 4, 1) := by decide +kernel
theorem dX3_adds_5 : decode cX3_adds 5 = .ok (.laload, 1) := by decide +kernel
theorem dX3_adds_6 : decode cX3_adds 6 = .ok (.l2i, 1) := by decide +kernel
theorem dX3_adds_7 : decode cX3_adds 7 = .ok (.istore_n 3, 1) := by decide +kernel
theorem dX3_adds_8 : decode cX3_adds 8 = .ok (.aload_n 0, 1) := by decide +kernel
theorem dX3_adds_9 : decode cX3_adds 9 = .ok (.getfield 7, 3) := by decide +kernel
theorem dX3_adds_12 : decode cX3_adds 12 = .ok (.iconst 4, 1) := by decide +kernel
theorem dX3_adds_13 : decode cX3_adds 13 = .ok (.dup2, 1) := by decide +kernel
theorem dX3_adds_14 : decode cX3_adds 14 = .ok (.laload, 1) := by decide +kernel
theorem dX3_adds_15 : decode cX3_adds 15 = .ok (.lconst 1, 1) := by decide +kernel
theorem dX3_adds_16 : decode cX3_adds 16 = .ok (.ladd, 1) := by decide +kernel
theorem dX3_adds_17 : decode cX3_adds 17 = .ok (.lastore, 1) := by decide +kernel
theorem dX3_adds_18 : decode cX3_adds 18 = .ok (.aload_n 0, 1) := by decide +kernel
theorem dX3_adds_19 : decode cX3_adds 19 = .ok (.iload_n 3, 1) := by decide +kernel
theorem dX3_adds_20 : decode cX3_adds 20 = .ok (.iconst 0, 1) := by decide +kernel
theorem dX3_adds_21 : decode cX3_adds 21 = .ok (.iload_n 1, 1) := by decide +kernel
theorem dX3_adds_22 : decode cX3_adds 22 = .ok (.invokevirtual 113, 3) := by decide +kernel
theorem dX3_adds_25 : decode cX3_adds 25 = .ok (.aload_n 0, 1) := by decide +kernel
theorem dX3_adds_26 : decode cX3_adds 26 = .ok (.iload_n 3, 1) := by decide +kernel
theorem dX3_adds_27 : decode cX3_adds 27 = .ok (.iconst 1, 1) := by decide +kernel
theorem dX3_adds_28 : decode cX3_adds 28 = .ok (.iload_n 2, 1) := by decide +kernel
theorem dX3_adds_29 : decode cX3_adds 29 = .ok (.invokevirtual 113, 3) := by decide +kernel
theorem dX3_adds_32 : decode cX3_adds 32 = .ok (.aload_n 0, 1) := by decide +kernel
theorem dX3_adds_33 : decode cX3_adds 33 = .ok (.iload_n 3, 1) := by decide +kernel
theorem dX3_adds_34 : decode cX3_adds 34 = .ok (.iconst 2, 1) := by decide +kernel
theorem dX3_adds_35 : decode cX3_adds 35 = .ok (.iconst 0, 1) := by decide +kernel
theorem dX3_adds_36 : decode cX3_adds 36 = .ok (.invokevirtual 113, 3) := by decide +kernel
theorem dX3_adds_39 : decode cX3_adds 39 = .ok (.aload_n 0, 1) := by decide +kernel
theorem dX3_adds_40 : decode cX3_adds 40 = .ok (.iload_n 3, 1) := by decide +kernel
theorem dX3_adds_41 : decode cX3_adds 41 = .ok (.iconst 3, 1) := by decide +kernel
theorem dX3_adds_42 : decode cX3_adds 42 = .ok (.iconst (-1), 1) := by decide +kernel
theorem dX3_adds_43 : decode cX3_adds 43 = .ok (.invokevirtual 113, 3) := by decide +kernel
theorem dX3_adds_46 : decode cX3_adds 46 = .ok (.aload_n 0, 1) := by decide +kernel
theorem dX3_adds_47 : decode cX3_adds 47 = .ok (.iload_n 3, 1) := by decide +kernel
theorem dX3_adds_48 : decode cX3_adds 48 = .ok (.iconst 4, 1) := by decide +kernel
theorem dX3_adds_49 : decode cX3_adds 49 = .ok (.iconst 0, 1) := by decide +kernel
theorem dX3_adds_50 : decode cX3_adds 50 = .ok (.invokevirtual 113, 3) := by decide +kernel
theorem dX3_adds_53 : decode cX3_adds 53 = .ok (.aload_n 0, 1) := by decide +kernel
theorem dX3_adds_54 : decode cX3_adds 54 = .ok (.iload_n 3, 1) := by decide +kernel
theorem dX3_adds_55 : decode cX3_adds 55 = .ok (.invokevirtual 117, 3) := by decide +kernel
theorem dX3_adds_58 : decode cX3_adds 58 = .ok (.iload_n 3, 1) := by decide +kernel
theorem dX3_adds_59 : decode cX3_adds 59 = .ok (.ireturn, 1) := by decide +kernel
set_option maxRecDepth 20000 in
theorem ggX3_absent_X3_shiftError : GoodIn wsX3_absent wsX3_shiftError := goodIn_r _ [6, 7, 8, 9, 10, 5, 11, 12, 13, 14, 15, 16, 17, 18, 19, 20, 21, 22, 23, 24, 25, 26, 27, 28, 29, 30, 31, 32, 33, 34, 35, 36, 59, 60, 61, 62, 63, 64, 65, 66, 67, 68, 69, 70, 71, 72, 73] (by decide +kernel) (by decide +kernel)
set_option maxRecDepth 20000 in
theorem gX3_absent_X3_shiftError : GoodIn wsX3_absent (wsV RX3 100 RX3 yX3_shiftError wsX3_shiftError) := goodIn_app (goodIn_of _ (by decide +kernel)) ggX3_absent_X3_shiftError
set_option maxRecDepth 20000 in
theorem ggX3_absent_X3_records : GoodIn wsX3_absent wsX3_records := goodIn_r _ [40, 41, 42, 43, 44, 45, 5, 46, 12, 59, 60, 61, 62, 63, 64, 65, 66, 67, 68, 69, 70, 71, 72, 73] (by decide +kernel) (by decide +kernel)
set_option maxRecDepth 20000 in
theorem gX3_absent_X3_records : GoodIn wsX3_absent (wsV RX3 93 RX3 yX3_records wsX3_records) := goodIn_app (goodIn_of _ (by decide +kernel)) ggX3_absent_X3_records
set_option maxRecDepth 20000 in
theorem ggX3_absent_X3_adds : GoodIn wsX3_absent wsX3_adds := goodIn_r _ [50, 12, 51, 52, 53, 5, 54, 55, 56, 57, 58, 59, 60, 61, 62, 63, 64, 65, 66, 67, 68, 69, 70, 71, 72, 73] (by decide +kernel) (by decide +kernel)
set_option maxRecDepth 20000 in
theorem gX3_absent_X3_adds : GoodIn wsX3_absent (wsV RX3 120 RX3 yX3_adds wsX3_adds) := goodIn_app (goodIn_of _ (by decide +kernel)) ggX3_absent_X3_adds
theorem dX3_absent_0 : decode cX3_absent 0 = .ok (.aload_n 0, 1) := by decide +kernel
theorem dX3_absent_1 : decode cX3_absent 1 = .ok (.aload_n 0, 1) := by decide +kernel
theorem dX3_absent_2 : decode cX3_absent 2 = .ok (.iload_n 1, 1) := by decide +kernel
theorem dX3_absent_3 : decode cX3_absent 3 = .ok (.iload_n 2, 1) := by decide +kernel
theorem dX3_absent_4 : decode cX3_absent 4 = .ok (.iconst 0, 1) := by decide +kernel
theorem dX3_absent_5 : decode cX3_absent 5 = .ok (.invokevirtual 100, 3) := by decide +kernel
theorem dX3_absent_8 : decode cX3_absent 8 = .ok (.putfield 30, 3) := by decide +kernel
theorem dX3_absent_11 : decode cX3_absent 11 = .ok (.aload_n 0, 1) := by decide +kernel
theorem dX3_absent_12 : decode cX3_absent 12 = .ok (.getfield 30, 3) := by decide +kernel
theorem dX3_absent_15 : decode cX3_absent 15 = .ok (.ifCond .eq 5, 3) := by decide +kernel
theorem dX3_absent_18 : decode cX3_absent 18 = .ok (.iconst 0, 1) := by decide +kernel
theorem dX3_absent_19 : decode cX3_absent 19 = .ok (.ireturn, 1) := by decide +kernel
theorem dX3_absent_20 : decode cX3_absent 20 = .ok (.aload_n 0, 1) := by decide +kernel
theorem dX3_absent_21 : decode cX3_absent 21 = .ok (.invokevirtual 93, 3) := by decide +kernel
theorem dX3_absent_24 : decode cX3_absent 24 = .ok (.aload_n 0, 1) := by decide +kernel
theorem dX3_absent_25 : decode cX3_absent 25 = .ok (.iload_n 1, 1) := by decide +kernel
theorem dX3_absent_26 : decode cX3_absent 26 = .ok (.iload_n 2, 1) := by decide +kernel
theorem dX3_absent_27 : decode cX3_absent 27 = .ok (.invokevirtual 120, 3) := by decide +kernel
theorem dX3_absent_30 : decode cX3_absent 30 = .ok (.ireturn, 1) := by decide +kernel
set_option maxRecDepth 20000 in
theorem ggX3_clearsBids_X3_becomes : GoodIn wsX3_clearsBids wsX3_becomes := goodIn_r _ [5, 6, 7, 8, 9, 10, 11, 12, 13, 14, 15, 16, 17, 18, 19, 20, 21] (by decide +kernel) (by decide +kernel)
set_option maxRecDepth 20000 in
theorem gX3_clearsBids_X3_becomes : GoodIn wsX3_clearsBids (wsV RX3 113 RX3 yX3_becomes wsX3_becomes) := goodIn_app (goodIn_of _ (by decide +kernel)) ggX3_clearsBids_X3_becomes
theorem dX3_clearsBids_0 : decode cX3_clearsBids 0 = .ok (.iconst 0, 1) := by decide +kernel
theorem dX3_clearsBids_1 : decode cX3_clearsBids 1 = .ok (.istore_n 2, 1) := by decide +kernel
theorem dX3_clearsBids_2 : decode cX3_clearsBids 2 = .ok (.iload_n 2, 1) := by decide +kernel
theorem dX3_clearsBids_3 : decode cX3_clearsBids 3 = .ok (.bipush 8, 2) := by decide +kernel
theorem dX3_clearsBids_5 : decode cX3_clearsBids 5 = .ok (.if_icmp .ge 18, 3) := by decide +kernel
theorem dX3_clearsBids_8 : decode cX3_clearsBids 8 = .ok (.aload_n 0, 1) := by decide +kernel
theorem dX3_clearsBids_9 : decode cX3_clearsBids 9 = .ok (.iload_n 1, 1) := by decide +kernel
theorem dX3_clearsBids_10 : decode cX3_clearsBids 10 = .ok (.iconst 5, 1) := by decide +kernel
theorem dX3_clearsBids_11 : decode cX3_clearsBids 11 = .ok (.iload_n 2, 1) := by decide +kernel
theorem dX3_clearsBids_12 : decode cX3_clearsBids 12 = .ok (.iadd, 1) := by decide +kernel
theorem dX3_clearsBids_13 : decode cX3_clearsBids 13 = .ok (.iconst (-1), 1) := by decide +kernel
theorem dX3_clearsBids_14 : decode cX3_clearsBids 14 = .ok (.invokevirtual 113, 3) := by decide +kernel
theorem dX3_clearsBids_17 : decode cX3_clearsBids 17 = .ok (.iinc 2 1, 3) := by decide +kernel
theorem dX3_clearsBids_20 : decode cX3_clearsBids 20 = .ok (.goto (-18), 3) := by decide +kernel
theorem dX3_clearsBids_23 : decode cX3_clearsBids 23 = .ok (.return_, 1) := by decide +kernel
set_option maxRecDepth 20000 in
theorem ggX3_bids_X3_ofA : GoodIn wsX3_bids wsX3_ofA := goodIn_r _ [5, 6, 7, 8, 9, 10, 11, 12, 13, 14, 15, 16, 17, 18, 19, 20, 21] (by decide +kernel) (by decide +kernel)
set_option maxRecDepth 20000 in
theorem gX3_bids_X3_ofA : GoodIn wsX3_bids (wsV RX3 59 RX3 yX3_ofA wsX3_ofA) := goodIn_app (goodIn_of _ (by decide +kernel)) ggX3_bids_X3_ofA
theorem dX3_bids_0 : decode cX3_bids 0 = .ok (.iconst 0, 1) := by decide +kernel
theorem dX3_bids_1 : decode cX3_bids 1 = .ok (.istore_n 2, 1) := by decide +kernel
theorem dX3_bids_2 : decode cX3_bids 2 = .ok (.iconst 0, 1) := by decide +kernel
theorem dX3_bids_3 : decode cX3_bids 3 = .ok (.istore_n 3, 1) := by decide +kernel
theorem dX3_bids_4 : decode cX3_bids 4 = .ok (.iload_n 3, 1) := by decide +kernel
theorem dX3_bids_5 : decode cX3_bids 5 = .ok (.bipush 8, 2) := by decide +kernel
theorem dX3_bids_7 : decode cX3_bids 7 = .ok (.if_icmp .ge 29, 3) := by decide +kernel
theorem dX3_bids_10 : decode cX3_bids 10 = .ok (.iload_n 2, 1) := by decide +kernel
theorem dX3_bids_11 : decode cX3_bids 11 = .ok (.aload_n 0, 1) := by decide +kernel
theorem dX3_bids_12 : decode cX3_bids 12 = .ok (.iload_n 1, 1) := by decide +kernel
theorem dX3_bids_13 : decode cX3_bids 13 = .ok (.iconst 5, 1) := by decide +kernel
theorem dX3_bids_14 : decode cX3_bids 14 = .ok (.iload_n 3, 1) := by decide +kernel
theorem dX3_bids_15 : decode cX3_bids 15 = .ok (.iadd, 1) := by decide +kernel
theorem dX3_bids_16 : decode cX3_bids 16 = .ok (.invokevirtual 59, 3) := by decide +kernel
theorem dX3_bids_19 : decode cX3_bids 19 = .ok (.iconst (-1), 1) := by decide +kernel
theorem dX3_bids_20 : decode cX3_bids 20 = .ok (.if_icmp .eq 7, 3) := by decide +kernel
theorem dX3_bids_23 : decode cX3_bids 23 = .ok (.iconst 1, 1) := by decide +kernel
theorem dX3_bids_24 : decode cX3_bids 24 = .ok (.goto 4, 3) := by decide +kernel
theorem dX3_bids_27 : decode cX3_bids 27 = .ok (.iconst 0, 1) := by decide +kernel
theorem dX3_bids_28 : decode cX3_bids 28 = .ok (.iadd, 1) := by decide +kernel
theorem dX3_bids_29 : decode cX3_bids 29 = .ok (.istore_n 2, 1) := by decide +kernel
theorem dX3_bids_30 : decode cX3_bids 30 = .ok (.iinc 3 1, 3) := by decide +kernel
theorem dX3_bids_33 : decode cX3_bids 33 = .ok (.goto (-29), 3) := by decide +kernel
theorem dX3_bids_36 : decode cX3_bids 36 = .ok (.iload_n 2, 1) := by decide +kernel
theorem dX3_bids_37 : decode cX3_bids 37 = .ok (.ireturn, 1) := by decide +kernel
set_option maxRecDepth 20000 in
theorem ggX3_mayBid_X3_ofA : GoodIn wsX3_mayBid wsX3_ofA := goodIn_r _ [5, 6, 7, 8, 9, 10, 11, 12, 13, 14, 15, 16, 17, 18, 19, 20, 21] (by decide +kernel) (by decide +kernel)
set_option maxRecDepth 20000 in
theorem gX3_mayBid_X3_ofA : GoodIn wsX3_mayBid (wsV RX3 59 RX3 yX3_ofA wsX3_ofA) := goodIn_app (goodIn_of _ (by decide +kernel)) ggX3_mayBid_X3_ofA
theorem dX3_mayBid_0 : decode cX3_mayBid 0 = .ok (.aload_n 0, 1) := by decide +kernel
theorem dX3_mayBid_1 : decode cX3_mayBid 1 = .ok (.iload_n 2, 1) := by decide +kernel
theorem dX3_mayBid_2 : decode cX3_mayBid 2 = .ok (.iconst 2, 1) := by decide +kernel
theorem dX3_mayBid_3 : decode cX3_mayBid 3 = .ok (.invokevirtual 59, 3) := by decide +kernel
theorem dX3_mayBid_6 : decode cX3_mayBid 6 = .ok (.ifCond .ne 17, 3) := by decide +kernel
theorem dX3_mayBid_9 : decode cX3_mayBid 9 = .ok (.aload_n 0, 1) := by decide +kernel
theorem dX3_mayBid_10 : decode cX3_mayBid 10 = .ok (.iload_n 2, 1) := by decide +kernel
theorem dX3_mayBid_11 : decode cX3_mayBid 11 = .ok (.iconst 0, 1) := by decide +kernel
theorem dX3_mayBid_12 : decode cX3_mayBid 12 = .ok (.invokevirtual 59, 3) := by decide +kernel
theorem dX3_mayBid_15 : decode cX3_mayBid 15 = .ok (.iload_n 1, 1) := by decide +kernel
theorem dX3_mayBid_16 : decode cX3_mayBid 16 = .ok (.if_icmp .eq 7, 3) := by decide +kernel
theorem dX3_mayBid_19 : decode cX3_mayBid 19 = .ok (.iconst 1, 1) := by decide +kernel
theorem dX3_mayBid_20 : decode cX3_mayBid 20 = .ok (.goto 4, 3) := by decide +kernel
theorem dX3_mayBid_23 : decode cX3_mayBid 23 = .ok (.iconst 0, 1) := by decide +kernel
theorem dX3_mayBid_24 : decode cX3_mayBid 24 = .ok (.ireturn, 1) := by decide +kernel
set_option maxRecDepth 20000 in
theorem ggX3_bid_X3_areThere : GoodIn wsX3_bid wsX3_areThere := goodIn_r _ [7, 8, 9, 10, 6, 11, 1, 12, 13, 14, 15, 16, 17, 18, 45, 46, 47, 48, 49, 50, 51, 52, 53, 54, 55, 56, 57, 58, 59] (by decide +kernel) (by decide +kernel)
set_option maxRecDepth 20000 in
theorem gX3_bid_X3_areThere : GoodIn wsX3_bid (wsV RX3 123 RX3 yX3_areThere wsX3_areThere) := goodIn_app (goodIn_of _ (by decide +kernel)) ggX3_bid_X3_areThere
set_option maxRecDepth 20000 in
theorem ggX3_bid_X3_isIn : GoodIn wsX3_bid wsX3_isIn := goodIn_r _ [14] (by decide +kernel) (by decide +kernel)
set_option maxRecDepth 20000 in
theorem gX3_bid_X3_isIn : GoodIn wsX3_bid (va_wsS RX3 34 yX3_isIn wsX3_isIn) := goodIn_app (goodIn_of _ (by decide +kernel)) ggX3_bid_X3_isIn
set_option maxRecDepth 20000 in
theorem ggX3_bid_X3_mayBid : GoodIn wsX3_bid wsX3_mayBid := goodIn_r _ [22, 23, 24, 25, 6, 26, 1, 45, 46, 47, 48, 49, 50, 51, 52, 53, 54, 55, 56, 57, 58, 59] (by decide +kernel) (by decide +kernel)
set_option maxRecDepth 20000 in
theorem gX3_bid_X3_mayBid : GoodIn wsX3_bid (wsV RX3 126 RX3 yX3_mayBid wsX3_mayBid) := goodIn_app (goodIn_of _ (by decide +kernel)) ggX3_bid_X3_mayBid
set_option maxRecDepth 20000 in
theorem ggX3_bid_X3_records : GoodIn wsX3_bid wsX3_records := goodIn_r _ [30, 31, 32, 33, 34, 35, 6, 36, 1, 45, 46, 47, 48, 49, 50, 51, 52, 53, 54, 55, 56, 57, 58, 59] (by decide +kernel) (by decide +kernel)
set_option maxRecDepth 20000 in
theorem gX3_bid_X3_records : GoodIn wsX3_bid (wsV RX3 93 RX3 yX3_records wsX3_records) := goodIn_app (goodIn_of _ (by decide +kernel)) ggX3_bid_X3_records
set_option maxRecDepth 20000 in
theorem ggX3_bid_X3_becomes : GoodIn wsX3_bid wsX3_becomes := goodIn_r _ [40, 1, 45, 46, 47, 48, 49, 50, 51, 52, 53, 54, 55, 56, 57, 58, 59] (by decide +kernel) (by decide +kernel)
set_option maxRecDepth 20000 in
theorem gX3_bid_X3_becomes : GoodIn wsX3_bid (wsV RX3 113 RX3 yX3_becomes wsX3_becomes) := goodIn_app (goodIn_of _ (by decide +kernel)) ggX3_bid_X3_becomes
set_option maxRecDepth 20000 in
theorem ggX3_bid_X3_bids : GoodIn wsX3_bid wsX3_bids := goodIn_r _ [44, 23, 24, 25, 6, 26, 1, 45, 46, 47, 48, 49, 50, 51, 52, 53, 54, 55, 56, 57, 58, 59] (by decide +kernel) (by decide +kernel)
set_option maxRecDepth 20000 in
theorem gX3_bid_X3_bids : GoodIn wsX3_bid (wsV RX3 129 RX3 yX3_bids wsX3_bids) := goodIn_app (goodIn_of _ (by decide +kernel)) ggX3_bid_X3_bids
theorem dX3_bid_0 : decode cX3_bid 0 = .ok (.aload_n 0, 1) := by decide +kernel
theorem dX3_bid_1 : decode cX3_bid 1 = .ok (.aload_n 0, 1) := by decide +kernel
theorem dX3_bid_2 : decode cX3_bid 2 = .ok (.iload_n 1, 1) := by decide +kernel
theorem dX3_bid_3 : decode cX3_bid 3 = .ok (.iload_n 2, 1) := by decide +kernel
theorem dX3_bid_4 : decode cX3_bid 4 = .ok (.invokevirtual 123, 3) := by decide +kernel
theorem dX3_bid_7 : decode cX3_bid 7 = .ok (.ifCond .ne 7, 3) := by decide +kernel
theorem dX3_bid_10 : decode cX3_bid 10 = .ok (.iconst 1, 1) := by decide +kernel
theorem dX3_bid_11 : decode cX3_bid 11 = .ok (.goto 36, 3) := by decide +kernel
theorem dX3_bid_14 : decode cX3_bid 14 = .ok (.iload_n 3, 1) := by decide +kernel
theorem dX3_bid_15 : decode cX3_bid 15 = .ok (.i2l, 1) := by decide +kernel
theorem dX3_bid_16 : decode cX3_bid 16 = .ok (.lconst 0, 1) := by decide +kernel
theorem dX3_bid_17 : decode cX3_bid 17 = .ok (.aload_n 0, 1) := by decide +kernel
theorem dX3_bid_18 : decode cX3_bid 18 = .ok (.getfield 7, 3) := by decide +kernel
theorem dX3_bid_21 : decode cX3_bid 21 = .ok (.iconst 2, 1) := by decide +kernel
theorem dX3_bid_22 : decode cX3_bid 22 = .ok (.laload, 1) := by decide +kernel
theorem dX3_bid_23 : decode cX3_bid 23 = .ok (.invokestatic 34, 3) := by decide +kernel
theorem dX3_bid_26 : decode cX3_bid 26 = .ok (.ifCond .ne 7, 3) := by decide +kernel
theorem dX3_bid_29 : decode cX3_bid 29 = .ok (.iconst 2, 1) := by decide +kernel
theorem dX3_bid_30 : decode cX3_bid 30 = .ok (.goto 17, 3) := by decide +kernel
theorem dX3_bid_33 : decode cX3_bid 33 = .ok (.aload_n 0, 1) := by decide +kernel
theorem dX3_bid_34 : decode cX3_bid 34 = .ok (.iload_n 1, 1) := by decide +kernel
theorem dX3_bid_35 : decode cX3_bid 35 = .ok (.iload_n 2, 1) := by decide +kernel
theorem dX3_bid_36 : decode cX3_bid 36 = .ok (.invokevirtual 126, 3) := by decide +kernel
theorem dX3_bid_39 : decode cX3_bid 39 = .ok (.ifCond .eq 7, 3) := by decide +kernel
theorem dX3_bid_42 : decode cX3_bid 42 = .ok (.iconst 0, 1) := by decide +kernel
theorem dX3_bid_43 : decode cX3_bid 43 = .ok (.goto 4, 3) := by decide +kernel
theorem dX3_bid_46 : decode cX3_bid 46 = .ok (.iconst 3, 1) := by decide +kernel
theorem dX3_bid_47 : decode cX3_bid 47 = .ok (.putfield 30, 3) := by decide +kernel
theorem dX3_bid_50 : decode cX3_bid 50 = .ok (.aload_n 0, 1) := by decide +kernel
theorem dX3_bid_51 : decode cX3_bid 51 = .ok (.getfield 30, 3) := by decide +kernel
theorem dX3_bid_54 : decode cX3_bid 54 = .ok (.ifCond .eq 5, 3) := by decide +kernel
theorem dX3_bid_57 : decode cX3_bid 57 = .ok (.iconst 0, 1) := by decide +kernel
theorem dX3_bid_58 : decode cX3_bid 58 = .ok (.ireturn, 1) := by decide +kernel
theorem dX3_bid_59 : decode cX3_bid 59 = .ok (.aload_n 0, 1) := by decide +kernel
theorem dX3_bid_60 : decode cX3_bid 60 = .ok (.invokevirtual 93, 3) := by decide +kernel
theorem dX3_bid_63 : decode cX3_bid 63 = .ok (.aload_n 0, 1) := by decide +kernel
theorem dX3_bid_64 : decode cX3_bid 64 = .ok (.iload_n 2, 1) := by decide +kernel
theorem dX3_bid_65 : decode cX3_bid 65 = .ok (.iconst 5, 1) := by decide +kernel
theorem dX3_bid_66 : decode cX3_bid 66 = .ok (.iload_n 1, 1) := by decide +kernel
theorem dX3_bid_67 : decode cX3_bid 67 = .ok (.iadd, 1) := by decide +kernel
theorem dX3_bid_68 : decode cX3_bid 68 = .ok (.iload_n 3, 1) := by decide +kernel
theorem dX3_bid_69 : decode cX3_bid 69 = .ok (.invokevirtual 113, 3) := by decide +kernel
theorem dX3_bid_72 : decode cX3_bid 72 = .ok (.aload_n 0, 1) := by decide +kernel
theorem dX3_bid_73 : decode cX3_bid 73 = .ok (.iload_n 2, 1) := by decide +kernel
theorem dX3_bid_74 : decode cX3_bid 74 = .ok (.invokevirtual 129, 3) := by decide +kernel
theorem dX3_bid_77 : decode cX3_bid 77 = .ok (.ireturn, 1) := by decide +kernel
set_option maxRecDepth 20000 in
theorem ggX3_takeBack_X3_areThere : GoodIn wsX3_takeBack wsX3_areThere := goodIn_r _ [6, 7, 8, 9, 5, 10, 11, 12, 13, 14, 15, 16, 17, 18, 37, 38, 39, 40, 41, 42, 43, 44, 45, 46, 47, 48, 49, 50, 51] (by decide +kernel) (by decide +kernel)
set_option maxRecDepth 20000 in
theorem gX3_takeBack_X3_areThere : GoodIn wsX3_takeBack (wsV RX3 123 RX3 yX3_areThere wsX3_areThere) := goodIn_app (goodIn_of _ (by decide +kernel)) ggX3_takeBack_X3_areThere
set_option maxRecDepth 20000 in
theorem ggX3_takeBack_X3_ofA : GoodIn wsX3_takeBack wsX3_ofA := goodIn_r _ [22, 11, 37, 38, 39, 40, 41, 42, 43, 44, 45, 46, 47, 48, 49, 50, 51] (by decide +kernel) (by decide +kernel)
set_option maxRecDepth 20000 in
theorem gX3_takeBack_X3_ofA : GoodIn wsX3_takeBack (wsV RX3 59 RX3 yX3_ofA wsX3_ofA) := goodIn_app (goodIn_of _ (by decide +kernel)) ggX3_takeBack_X3_ofA
set_option maxRecDepth 20000 in
theorem ggX3_takeBack_X3_records : GoodIn wsX3_takeBack wsX3_records := goodIn_r _ [26, 27, 28, 29, 30, 31, 5, 32, 11, 37, 38, 39, 40, 41, 42, 43, 44, 45, 46, 47, 48, 49, 50, 51] (by decide +kernel) (by decide +kernel)
set_option maxRecDepth 20000 in
theorem gX3_takeBack_X3_records : GoodIn wsX3_takeBack (wsV RX3 93 RX3 yX3_records wsX3_records) := goodIn_app (goodIn_of _ (by decide +kernel)) ggX3_takeBack_X3_records
set_option maxRecDepth 20000 in
theorem ggX3_takeBack_X3_becomes : GoodIn wsX3_takeBack wsX3_becomes := goodIn_r _ [36, 11, 37, 38, 39, 40, 41, 42, 43, 44, 45, 46, 47, 48, 49, 50, 51] (by decide +kernel) (by decide +kernel)
set_option maxRecDepth 20000 in
theorem gX3_takeBack_X3_becomes : GoodIn wsX3_takeBack (wsV RX3 113 RX3 yX3_becomes wsX3_becomes) := goodIn_app (goodIn_of _ (by decide +kernel)) ggX3_takeBack_X3_becomes
theorem dX3_takeBack_0 : decode cX3_takeBack 0 = .ok (.aload_n 0, 1) := by decide +kernel
theorem dX3_takeBack_1 : decode cX3_takeBack 1 = .ok (.aload_n 0, 1) := by decide +kernel
theorem dX3_takeBack_2 : decode cX3_takeBack 2 = .ok (.iload_n 1, 1) := by decide +kernel
theorem dX3_takeBack_3 : decode cX3_takeBack 3 = .ok (.iload_n 2, 1) := by decide +kernel
theorem dX3_takeBack_4 : decode cX3_takeBack 4 = .ok (.invokevirtual 123, 3) := by decide +kernel
theorem dX3_takeBack_7 : decode cX3_takeBack 7 = .ok (.ifCond .ne 7, 3) := by decide +kernel
theorem dX3_takeBack_10 : decode cX3_takeBack 10 = .ok (.iconst 1, 1) := by decide +kernel
theorem dX3_takeBack_11 : decode cX3_takeBack 11 = .ok (.goto 20, 3) := by decide +kernel
theorem dX3_takeBack_14 : decode cX3_takeBack 14 = .ok (.aload_n 0, 1) := by decide +kernel
theorem dX3_takeBack_15 : decode cX3_takeBack 15 = .ok (.iload_n 2, 1) := by decide +kernel
theorem dX3_takeBack_16 : decode cX3_takeBack 16 = .ok (.iconst 5, 1) := by decide +kernel
theorem dX3_takeBack_17 : decode cX3_takeBack 17 = .ok (.iload_n 1, 1) := by decide +kernel
theorem dX3_takeBack_18 : decode cX3_takeBack 18 = .ok (.iadd, 1) := by decide +kernel
theorem dX3_takeBack_19 : decode cX3_takeBack 19 = .ok (.invokevirtual 59, 3) := by decide +kernel
theorem dX3_takeBack_22 : decode cX3_takeBack 22 = .ok (.iconst (-1), 1) := by decide +kernel
theorem dX3_takeBack_23 : decode cX3_takeBack 23 = .ok (.if_icmp .eq 7, 3) := by decide +kernel
theorem dX3_takeBack_26 : decode cX3_takeBack 26 = .ok (.iconst 0, 1) := by decide +kernel
theorem dX3_takeBack_27 : decode cX3_takeBack 27 = .ok (.goto 4, 3) := by decide +kernel
theorem dX3_takeBack_30 : decode cX3_takeBack 30 = .ok (.iconst 2, 1) := by decide +kernel
theorem dX3_takeBack_31 : decode cX3_takeBack 31 = .ok (.putfield 30, 3) := by decide +kernel
theorem dX3_takeBack_34 : decode cX3_takeBack 34 = .ok (.aload_n 0, 1) := by decide +kernel
theorem dX3_takeBack_35 : decode cX3_takeBack 35 = .ok (.getfield 30, 3) := by decide +kernel
theorem dX3_takeBack_38 : decode cX3_takeBack 38 = .ok (.ifCond .eq 5, 3) := by decide +kernel
theorem dX3_takeBack_41 : decode cX3_takeBack 41 = .ok (.iconst 0, 1) := by decide +kernel
theorem dX3_takeBack_42 : decode cX3_takeBack 42 = .ok (.ireturn, 1) := by decide +kernel
theorem dX3_takeBack_43 : decode cX3_takeBack 43 = .ok (.aload_n 0, 1) := by decide +kernel
theorem dX3_takeBack_44 : decode cX3_takeBack 44 = .ok (.iload_n 2, 1) := by decide +kernel
theorem dX3_takeBack_45 : decode cX3_takeBack 45 = .ok (.iconst 5, 1) := by decide +kernel
theorem dX3_takeBack_46 : decode cX3_takeBack 46 = .ok (.iload_n 1, 1) := by decide +kernel
theorem dX3_takeBack_47 : decode cX3_takeBack 47 = .ok (.iadd, 1) := by decide +kernel
theorem dX3_takeBack_48 : decode cX3_takeBack 48 = .ok (.invokevirtual 59, 3) := by decide +kernel
theorem dX3_takeBack_51 : decode cX3_takeBack 51 = .ok (.istore_n 3, 1) := by decide +kernel
theorem dX3_takeBack_52 : decode cX3_takeBack 52 = .ok (.aload_n 0, 1) := by decide +kernel
theorem dX3_takeBack_53 : decode cX3_takeBack 53 = .ok (.invokevirtual 93, 3) := by decide +kernel
theorem dX3_takeBack_56 : decode cX3_takeBack 56 = .ok (.aload_n 0, 1) := by decide +kernel
theorem dX3_takeBack_57 : decode cX3_takeBack 57 = .ok (.iload_n 2, 1) := by decide +kernel
theorem dX3_takeBack_58 : decode cX3_takeBack 58 = .ok (.iconst 5, 1) := by decide +kernel
theorem dX3_takeBack_59 : decode cX3_takeBack 59 = .ok (.iload_n 1, 1) := by decide +kernel
theorem dX3_takeBack_60 : decode cX3_takeBack 60 = .ok (.iadd, 1) := by decide +kernel
theorem dX3_takeBack_61 : decode cX3_takeBack 61 = .ok (.iconst (-1), 1) := by decide +kernel
theorem dX3_takeBack_62 : decode cX3_takeBack 62 = .ok (.invokevirtual 113, 3) := by decide +kernel
theorem dX3_takeBack_65 : decode cX3_takeBack 65 = .ok (.iload_n 3, 1) := by decide +kernel
theorem dX3_takeBack_66 : decode cX3_takeBack 66 = .ok (.ireturn, 1) := by decide +kernel
set_option maxRecDepth 20000 in
theorem ggX3_isAhead_X3_ofP : GoodIn wsX3_isAhead wsX3_ofP := goodIn_r _ [5, 6, 7, 8, 9, 10, 11, 12, 13, 14, 15, 16, 17, 18, 19, 20, 21] (by decide +kernel) (by decide +kernel)
set_option maxRecDepth 20000 in
theorem gX3_isAhead_X3_ofP : GoodIn wsX3_isAhead (wsV RX3 55 RX3 yX3_ofP wsX3_ofP) := goodIn_app (goodIn_of _ (by decide +kernel)) ggX3_isAhead_X3_ofP
theorem dX3_isAhead_0 : decode cX3_isAhead 0 = .ok (.lload_n 2, 1) := by decide +kernel
theorem dX3_isAhead_1 : decode cX3_isAhead 1 = .ok (.lload 5, 2) := by decide +kernel
