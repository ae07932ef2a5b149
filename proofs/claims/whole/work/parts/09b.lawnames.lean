set_option maxRecDepth 20000 in
theorem gL_append_X2_append : GoodIn wsL_append (wsV RL 78 RX2 yX2_append wsX2_append) := goodIn_app (goodIn_of _ (by decide +kernel)) ggL_append_X2_append
theorem dL_append_0 : decode cL_append 0 = .ok (.aload_n 2, 1) := by decide +kernel
theorem dL_append_1 : decode cL_append 1 = .ok (.iconst 0, 1) := by decide +kernel
theorem dL_append_2 : decode cL_append 2 = .ok (.aload_n 0, 1) := by decide +kernel
theorem dL_append_3 : decode cL_append 3 = .ok (.iload_n 1, 1) := by decide +kernel
theorem dL_append_4 : decode cL_append 4 = .ok (.invokevirtual 78, 3) := by decide +kernel
theorem dL_append_7 : decode cL_append 7 = .ok (.i2l, 1) := by decide +kernel
theorem dL_append_8 : decode cL_append 8 = .ok (.lastore, 1) := by decide +kernel
theorem dL_append_9 : decode cL_append 9 = .ok (.goto 9, 3) := by decide +kernel
theorem dL_append_12 : decode cL_append 12 = .ok (.astore_n 3, 1) := by decide +kernel
theorem dL_append_13 : decode cL_append 13 = .ok (.iconst 1, 1) := by decide +kernel
theorem dL_append_14 : decode cL_append 14 = .ok (.ireturn, 1) := by decide +kernel
theorem dL_append_15 : decode cL_append 15 = .ok (.astore_n 3, 1) := by decide +kernel
theorem dL_append_16 : decode cL_append 16 = .ok (.iconst 2, 1) := by decide +kernel
theorem dL_append_17 : decode cL_append 17 = .ok (.ireturn, 1) := by decide +kernel
theorem dL_append_18 : decode cL_append 18 = .ok (.iconst 0, 1) := by decide +kernel
theorem dL_append_19 : decode cL_append 19 = .ok (.ireturn, 1) := by decide +kernel
set_option maxRecDepth 20000 in
theorem ggL_undo_X2_undo : GoodIn wsL_undo wsX2_undo := goodIn_ca (goodIn_r _ [6, 7, 8, 9, 10, 11, 5, 12, 13, 14, 15, 16, 17, 18, 19, 20, 21, 22, 23, 24, 25, 26, 27, 28, 29, 30, 31, 32, 33, 34, 35, 36, 37, 38, 39, 40, 41, 42, 43, 44, 45, 46, 47, 48, 49, 50, 51, 52, 53, 54, 55, 56, 57, 58] (by decide +kernel) (by decide +kernel)) (goodIn_sub (fun _ h => List.mem_cons_of_mem _ (List.mem_append_right _ h)) (by decide +kernel))
set_option maxRecDepth 20000 in
theorem gL_undo_X2_undo : GoodIn wsL_undo (wsV RL 81 RX2 yX2_undo wsX2_undo) := goodIn_app (goodIn_of _ (by decide +kernel)) ggL_undo_X2_undo
theorem dL_undo_0 : decode cL_undo 0 = .ok (.aload_n 1, 1) := by decide +kernel
theorem dL_undo_1 : decode cL_undo 1 = .ok (.iconst 0, 1) := by decide +kernel
theorem dL_undo_2 : decode cL_undo 2 = .ok (.aload_n 0, 1) := by decide +kernel
theorem dL_undo_3 : decode cL_undo 3 = .ok (.invokevirtual 81, 3) := by decide +kernel
theorem dL_undo_6 : decode cL_undo 6 = .ok (.i2l, 1) := by decide +kernel
theorem dL_undo_7 : decode cL_undo 7 = .ok (.lastore, 1) := by decide +kernel
theorem dL_undo_8 : decode cL_undo 8 = .ok (.goto 6, 3) := by decide +kernel
theorem dL_undo_11 : decode cL_undo 11 = .ok (.astore_n 2, 1) := by decide +kernel
theorem dL_undo_12 : decode cL_undo 12 = .ok (.iconst 1, 1) := by decide +kernel
theorem dL_undo_13 : decode cL_undo 13 = .ok (.ireturn, 1) := by decide +kernel
theorem dL_undo_14 : decode cL_undo 14 = .ok (.iconst 0, 1) := by decide +kernel
theorem dL_undo_15 : decode cL_undo 15 = .ok (.ireturn, 1) := by decide +kernel
set_option maxRecDepth 20000 in
theorem ggL_law_X2_init : GoodIn wsL_law wsX2_init := goodIn_r _ [10, 11, 12, 13, 14, 15, 16, 17, 18, 19, 20, 21, 22, 23, 24, 25, 26, 27, 28, 29, 6, 30, 31, 32, 33, 34, 35, 36, 37, 38, 39, 40, 41, 42, 43, 44, 45, 46, 47, 48, 883, 884, 885, 886, 887, 888, 889, 890, 891, 892, 893, 894, 895, 896, 897, 863, 864, 865, 866, 867, 898, 899, 900, 901, 902, 903, 904, 905] (by decide +kernel) (by decide +kernel)
set_option maxRecDepth 20000 in
theorem gL_law_X2_init : GoodIn wsL_law (wsX2_init) := ggL_law_X2_init
set_option maxRecDepth 20000 in
theorem ggL_law_X3_init : GoodIn wsL_law wsX3_init := goodIn_r _ [51, 52, 12, 13, 6, 53, 54, 28, 55, 56, 57, 58, 59, 868, 869, 870, 871, 872, 873, 874, 875, 876, 877, 878, 879, 880, 881, 882] (by decide +kernel) (by decide +kernel)
set_option maxRecDepth 20000 in
theorem gL_law_X3_init : GoodIn wsL_law (wsX3_init) := ggL_law_X3_init
set_option maxRecDepth 20000 in
theorem ggL_law_L_set : GoodIn wsL_law wsL_set := goodIn_ca (goodIn_r _ [63, 64, 65, 66, 67, 2, 68, 69, 70, 17, 71, 72, 73, 74, 75, 76, 77, 78, 79, 80, 81, 19, 82, 83, 84, 85, 86, 87, 88, 16, 89, 29, 41, 42, 43, 44, 90, 91, 30, 31, 32, 33, 34, 92, 35, 36, 37, 38, 39, 40, 863, 864, 865, 866, 867, 883, 884, 885, 886, 887, 888, 889, 890, 891, 892, 893, 894, 895, 896, 897] (by decide +kernel) (by decide +kernel)) (goodIn_sub (fun _ h => List.mem_append_left _ (List.mem_append_left _ (List.mem_append_right _ h))) (by decide +kernel))
set_option maxRecDepth 20000 in
theorem gL_law_L_set : GoodIn wsL_law (va_wsS RL 89 yL_set wsL_set) := goodIn_app (goodIn_of _ (by decide +kernel)) ggL_law_L_set
set_option maxRecDepth 20000 in
theorem ggL_law_X3_set : GoodIn wsL_law wsX3_set := goodIn_r _ [96, 97, 98, 99, 100, 53, 101, 102, 5, 103, 104, 105, 106, 107, 108, 54, 109, 110, 111, 112, 868, 869, 870, 871, 872, 873, 874, 875, 876, 877, 878, 879, 880, 881, 882] (by decide +kernel) (by decide +kernel)
set_option maxRecDepth 20000 in
theorem gL_law_X3_set : GoodIn wsL_law (wsV RL 94 RX3 yX3_set wsX3_set) := goodIn_app (goodIn_of _ (by decide +kernel)) ggL_law_X3_set
set_option maxRecDepth 20000 in
theorem ggL_law_X3_thrown : GoodIn wsL_law wsX3_thrown := goodIn_r _ [116, 100, 868, 869, 870, 871, 872, 873, 874, 875, 876, 877, 878, 879, 880, 881, 882] (by decide +kernel) (by decide +kernel)
set_option maxRecDepth 20000 in
theorem gL_law_X3_thrown : GoodIn wsL_law (wsV RL 95 RX3 yX3_thrown wsX3_thrown) := goodIn_app (goodIn_of _ (by decide +kernel)) ggL_law_X3_thrown
set_option maxRecDepth 20000 in
theorem ggL_law_L_addPerson : GoodIn wsL_law wsL_addPerson := goodIn_ca (goodIn_ca (goodIn_r _ [119, 64, 120, 121, 122, 123, 2, 124, 75, 76, 125, 17, 126, 127, 128, 129, 130, 131, 77, 78, 79, 80, 81, 19, 82, 83, 84, 85, 86, 87, 88, 16, 89, 29, 41, 42, 43, 44, 90, 91, 30, 31, 32, 33, 34, 92, 35, 36, 37, 38, 39, 40, 132, 133, 134, 135, 863, 864, 865, 866, 867, 883, 884, 885, 886, 887, 888, 889, 890, 891, 892, 893, 894, 895, 896, 897] (by decide +kernel) (by decide +kernel)) (goodIn_sub (fun _ h => List.mem_append_left _ (List.mem_append_left _ (List.mem_append_right _ h))) (by decide +kernel))) (goodIn_sub (fun _ h => List.mem_append_left _ (List.mem_append_right _ h)) (by decide +kernel))
set_option maxRecDepth 20000 in
theorem gL_law_L_addPerson : GoodIn wsL_law (va_wsS RL 100 yL_addPerson wsL_addPerson) := goodIn_app (goodIn_of _ (by decide +kernel)) ggL_law_L_addPerson
set_option maxRecDepth 20000 in
theorem ggL_law_X3_addPerson : GoodIn wsL_law wsX3_addPerson := goodIn_r _ [139, 140, 53, 141, 100, 101, 102, 5, 103, 104, 105, 106, 107, 108, 54, 109, 110, 111, 112, 868, 869, 870, 871, 872, 873, 874, 875, 876, 877, 878, 879, 880, 881, 882] (by decide +kernel) (by decide +kernel)
set_option maxRecDepth 20000 in
theorem gL_law_X3_addPerson : GoodIn wsL_law (wsV RL 103 RX3 yX3_addPerson wsX3_addPerson) := goodIn_app (goodIn_of _ (by decide +kernel)) ggL_law_X3_addPerson
set_option maxRecDepth 20000 in
theorem ggL_law_L_roster : GoodIn wsL_law wsL_roster := goodIn_ca (goodIn_ca (goodIn_ca (goodIn_r _ [144, 145, 64, 120, 146, 147, 148, 2, 149, 17, 150, 151, 152, 153, 154, 155, 156, 157, 158, 159, 16, 160, 91, 72, 73, 74, 75, 76, 161, 162, 163, 164, 30, 31, 32, 127, 128, 129, 130, 131, 77, 78, 79, 80, 81, 19, 82, 83, 84, 85, 86, 87, 88, 89, 29, 41, 42, 43, 44, 90, 33, 34, 92, 35, 36, 37, 38, 39, 40, 165, 166, 167, 168, 169, 170, 171, 863, 864, 865, 866, 867, 883, 884, 885, 886, 887, 888, 889, 890, 891, 892, 893, 894, 895, 896, 897] (by decide +kernel) (by decide +kernel)) (goodIn_sub (fun _ h => List.mem_append_right _ h) (by decide +kernel))) (goodIn_sub (fun _ h => List.mem_append_left _ (List.mem_append_left _ (List.mem_append_right _ h))) (by decide +kernel))) (goodIn_sub (fun _ h => List.mem_append_left _ (List.mem_append_right _ h)) (by decide +kernel))
set_option maxRecDepth 20000 in
theorem gL_law_L_roster : GoodIn wsL_law (va_wsS RL 104 yL_roster wsL_roster) := goodIn_app (goodIn_of _ (by decide +kernel)) ggL_law_L_roster
set_option maxRecDepth 20000 in
theorem ggL_law_X3_roster : GoodIn wsL_law wsX3_roster := goodIn_r _ [175, 100, 53, 176, 177, 178, 5, 179, 180, 181, 182, 183, 184, 101, 102, 103, 185, 186, 187, 188, 189, 190, 191, 192, 193, 194, 195, 196, 197, 198, 199, 200, 201, 202, 203, 204, 205, 206, 207, 208, 209, 210, 211, 212, 213, 104, 105, 106, 107, 108, 54, 109, 110, 111, 112, 214, 215, 216, 217, 868, 869, 870, 871, 872, 873, 874, 875, 876, 877, 878, 879, 880, 881, 882] (by decide +kernel) (by decide +kernel)
set_option maxRecDepth 20000 in
theorem gL_law_X3_roster : GoodIn wsL_law (wsV RL 107 RX3 yX3_roster wsX3_roster) := goodIn_app (goodIn_of _ (by decide +kernel)) ggL_law_X3_roster
set_option maxRecDepth 20000 in
theorem ggL_law_L_absent : GoodIn wsL_law wsL_absent := goodIn_ca (goodIn_ca (goodIn_ca (goodIn_r _ [220, 145, 64, 120, 221, 222, 223, 2, 224, 17, 151, 152, 153, 154, 155, 156, 157, 158, 159, 16, 160, 91, 72, 73, 74, 75, 76, 225, 226, 227, 228, 30, 31, 229, 92, 127, 128, 129, 130, 131, 77, 78, 79, 80, 81, 19, 82, 83, 84, 85, 86, 87, 88, 89, 29, 41, 42, 43, 44, 90, 32, 33, 34, 35, 36, 37, 38, 39, 40, 230, 231, 232, 233, 234, 235, 236, 237, 238, 239, 863, 864, 865, 866, 867, 883, 884, 885, 886, 887, 888, 889, 890, 891, 892, 893, 894, 895, 896, 897] (by decide +kernel) (by decide +kernel)) (goodIn_sub (fun _ h => List.mem_append_right _ h) (by decide +kernel))) (goodIn_sub (fun _ h => List.mem_append_left _ (List.mem_append_left _ (List.mem_append_right _ h))) (by decide +kernel))) (goodIn_sub (fun _ h => List.mem_append_left _ (List.mem_append_right _ h)) (by decide +kernel))
set_option maxRecDepth 20000 in
theorem gL_law_L_absent : GoodIn wsL_law (va_wsS RL 108 yL_absent wsL_absent) := goodIn_app (goodIn_of _ (by decide +kernel)) ggL_law_L_absent
set_option maxRecDepth 20000 in
theorem ggL_law_X3_absent : GoodIn wsL_law wsX3_absent := goodIn_r _ [243, 100, 176, 177, 178, 5, 179, 180, 181, 182, 183, 184, 53, 101, 102, 103, 185, 186, 187, 188, 189, 190, 191, 192, 193, 194, 195, 196, 197, 198, 199, 200, 201, 202, 203, 204, 205, 104, 105, 106, 107, 108, 54, 109, 110, 111, 112, 244, 245, 246, 247, 248, 249, 250, 251, 252, 253, 254, 255, 868, 869, 870, 871, 872, 873, 874, 875, 876, 877, 878, 879, 880, 881, 882] (by decide +kernel) (by decide +kernel)
set_option maxRecDepth 20000 in
theorem gL_law_X3_absent : GoodIn wsL_law (wsV RL 110 RX3 yX3_absent wsX3_absent) := goodIn_app (goodIn_of _ (by decide +kernel)) ggL_law_X3_absent
set_option maxRecDepth 20000 in
theorem ggL_law_L_bid : GoodIn wsL_law wsL_bid := goodIn_ca (goodIn_ca (goodIn_ca (goodIn_r _ [258, 145, 64, 120, 259, 260, 261, 2, 262, 17, 71, 263, 151, 152, 153, 154, 155, 156, 157, 158, 159, 16, 160, 91, 264, 265, 266, 267, 268, 269, 270, 271, 92, 72, 73, 74, 75, 76, 272, 273, 274, 275, 37, 35, 127, 128, 129, 130, 131, 77, 78, 79, 80, 81, 19, 82, 83, 84, 85, 86, 87, 88, 89, 29, 41, 42, 43, 44, 90, 30, 31, 32, 33, 34, 36, 38, 39, 40, 276, 238, 239, 277, 278, 279, 280, 863, 864, 865, 866, 867, 883, 884, 885, 886, 887, 888, 889, 890, 891, 892, 893, 894, 895, 896, 897] (by decide +kernel) (by decide +kernel)) (goodIn_sub (fun _ h => List.mem_append_right _ h) (by decide +kernel))) (goodIn_sub (fun _ h => List.mem_append_left _ (List.mem_append_left _ (List.mem_append_right _ h))) (by decide +kernel))) (goodIn_sub (fun _ h => List.mem_append_left _ (List.mem_append_right _ h)) (by decide +kernel))
set_option maxRecDepth 20000 in
theorem gL_law_L_bid : GoodIn wsL_law (va_wsS RL 111 yL_bid wsL_bid) := goodIn_app (goodIn_of _ (by decide +kernel)) ggL_law_L_bid
set_option maxRecDepth 20000 in
theorem ggL_law_X3_bid : GoodIn wsL_law wsX3_bid := goodIn_r _ [284, 53, 100, 285, 286, 287, 5, 288, 181, 182, 183, 184, 101, 102, 103, 289, 290, 291, 292, 293, 294, 295, 296, 202, 203, 204, 205, 104, 105, 106, 107, 108, 54, 109, 110, 111, 112, 248, 249, 250, 251, 297, 298, 299, 300, 868, 869, 870, 871, 872, 873, 874, 875, 876, 877, 878, 879, 880, 881, 882] (by decide +kernel) (by decide +kernel)
set_option maxRecDepth 20000 in
theorem gL_law_X3_bid : GoodIn wsL_law (wsV RL 114 RX3 yX3_bid wsX3_bid) := goodIn_app (goodIn_of _ (by decide +kernel)) ggL_law_X3_bid
set_option maxRecDepth 20000 in
theorem ggL_law_L_takeBack : GoodIn wsL_law wsL_takeBack := goodIn_ca (goodIn_ca (goodIn_r _ [303, 145, 120, 304, 305, 306, 2, 307, 17, 263, 151, 152, 153, 154, 155, 156, 157, 158, 159, 16, 160, 91, 264, 265, 266, 267, 268, 269, 270, 271, 92, 276, 238, 239, 127, 128, 129, 130, 131, 77, 78, 79, 80, 81, 19, 82, 83, 84, 85, 86, 87, 88, 89, 29, 41, 42, 43, 44, 90, 30, 31, 32, 33, 34, 35, 36, 37, 38, 39, 40, 863, 864, 865, 866, 867, 883, 884, 885, 886, 887, 888, 889, 890, 891, 892, 893, 894, 895, 896, 897] (by decide +kernel) (by decide +kernel)) (goodIn_sub (fun _ h => List.mem_append_right _ h) (by decide +kernel))) (goodIn_sub (fun _ h => List.mem_append_left _ (List.mem_append_right _ h)) (by decide +kernel))
set_option maxRecDepth 20000 in
theorem gL_law_L_takeBack : GoodIn wsL_law (va_wsS RL 115 yL_takeBack wsL_takeBack) := goodIn_app (goodIn_of _ (by decide +kernel)) ggL_law_L_takeBack
set_option maxRecDepth 20000 in
theorem ggL_law_X3_takeBack : GoodIn wsL_law wsX3_takeBack := goodIn_r _ [311, 100, 285, 286, 287, 5, 288, 181, 182, 183, 184, 53, 101, 102, 103, 289, 290, 291, 292, 202, 203, 204, 205, 104, 105, 106, 107, 108, 54, 109, 110, 111, 112, 248, 249, 250, 251, 868, 869, 870, 871, 872, 873, 874, 875, 876, 877, 878, 879, 880, 881, 882] (by decide +kernel) (by decide +kernel)
set_option maxRecDepth 20000 in
theorem gL_law_X3_takeBack : GoodIn wsL_law (wsV RL 117 RX3 yX3_takeBack wsX3_takeBack) := goodIn_app (goodIn_of _ (by decide +kernel)) ggL_law_X3_takeBack
set_option maxRecDepth 20000 in
theorem ggL_law_L_cover : GoodIn wsL_law wsL_cover := goodIn_ca (goodIn_ca (goodIn_r _ [314, 145, 120, 315, 316, 317, 2, 318, 17, 319, 264, 265, 266, 267, 155, 156, 268, 269, 270, 16, 271, 92, 320, 321, 322, 323, 37, 91, 324, 325, 326, 327, 35, 36, 31, 328, 329, 330, 331, 30, 229, 32, 332, 333, 334, 335, 29, 336, 337, 338, 339, 340, 341, 342, 343, 40, 34, 33, 238, 239, 344, 345, 346, 127, 128, 129, 130, 131, 77, 78, 79, 80, 81, 19, 82, 83, 84, 85, 86, 87, 88, 89, 41, 42, 43, 44, 90, 38, 39, 347, 348, 349, 350, 351, 234, 235, 236, 237, 863, 864, 865, 866, 867, 883, 884, 885, 886, 887, 888, 889, 890, 891, 892, 893, 894, 895, 896, 897] (by decide +kernel) (by decide +kernel)) (goodIn_sub (fun _ h => List.mem_append_right _ h) (by decide +kernel))) (goodIn_sub (fun _ h => List.mem_append_left _ (List.mem_append_right _ h)) (by decide +kernel))
set_option maxRecDepth 20000 in
theorem gL_law_L_cover : GoodIn wsL_law (va_wsS RL 118 yL_cover wsL_cover) := goodIn_app (goodIn_of _ (by decide +kernel)) ggL_law_L_cover
set_option maxRecDepth 20000 in
theorem ggL_law_X3_cover : GoodIn wsL_law wsX3_cover := goodIn_r _ [355, 100, 289, 290, 291, 5, 292, 53, 101, 102, 103, 356, 357, 358, 359, 202, 203, 204, 205, 360, 361, 362, 363, 364, 365, 366, 367, 368, 369, 370, 371, 198, 199, 200, 201, 372, 373, 374, 375, 180, 190, 191, 192, 193, 194, 195, 196, 197, 206, 207, 208, 209, 210, 211, 212, 213, 376, 377, 378, 379, 380, 381, 382, 383, 104, 105, 106, 107, 108, 54, 109, 110, 111, 112, 384, 385, 386, 387, 248, 249, 250, 251, 252, 253, 254, 255, 868, 869, 870, 871, 872, 873, 874, 875, 876, 877, 878, 879, 880, 881, 882] (by decide +kernel) (by decide +kernel)
set_option maxRecDepth 20000 in
theorem gL_law_X3_cover : GoodIn wsL_law (wsV RL 121 RX3 yX3_cover wsX3_cover) := goodIn_app (goodIn_of _ (by decide +kernel)) ggL_law_X3_cover
set_option maxRecDepth 20000 in
theorem ggL_law_X2_coverAll : GoodIn wsL_law wsX2_coverAll := goodIn_r _ [391, 17, 77, 78, 79, 2, 80, 81, 19, 82, 83, 84, 85, 86, 87, 88, 16, 89, 29, 41, 42, 43, 44, 90, 91, 30, 31, 32, 33, 34, 92, 35, 36, 37, 38, 39, 40, 392, 393, 394, 395, 396, 348, 349, 350, 351, 321, 322, 323, 324, 325, 326, 327, 328, 329, 330, 331, 229, 332, 333, 334, 335, 336, 337, 338, 339, 340, 341, 342, 343, 238, 239, 344, 345, 346, 234, 235, 236, 237, 863, 864, 865, 866, 867, 883, 884, 885, 886, 887, 888, 889, 890, 891, 892, 893, 894, 895, 896, 897] (by decide +kernel) (by decide +kernel)
set_option maxRecDepth 20000 in
theorem gL_law_X2_coverAll : GoodIn wsL_law (wsV RL 122 RX2 yX2_coverAll wsX2_coverAll) := goodIn_app (goodIn_of _ (by decide +kernel)) ggL_law_X2_coverAll
set_option maxRecDepth 20000 in
theorem ggL_law_X3_coverAll : GoodIn wsL_law wsX3_coverAll := goodIn_r _ [400, 100, 104, 105, 106, 5, 107, 108, 54, 109, 110, 111, 112, 53, 401, 402, 403, 404, 202, 203, 204, 205, 384, 385, 386, 387, 356, 357, 358, 359, 360, 361, 362, 363, 364, 365, 366, 367, 368, 369, 370, 371, 198, 199, 200, 201, 372, 373, 374, 375, 180, 101, 102, 103, 190, 191, 192, 193, 194, 195, 196, 197, 206, 207, 208, 209, 210, 211, 212, 213, 376, 377, 378, 379, 380, 381, 382, 383, 248, 249, 250, 251, 252, 253, 254, 255, 868, 869, 870, 871, 872, 873, 874, 875, 876, 877, 878, 879, 880, 881, 882] (by decide +kernel) (by decide +kernel)
set_option maxRecDepth 20000 in
theorem gL_law_X3_coverAll : GoodIn wsL_law (wsV RL 125 RX3 yX3_coverAll wsX3_coverAll) := goodIn_app (goodIn_of _ (by decide +kernel)) ggL_law_X3_coverAll
set_option maxRecDepth 20000 in
theorem ggL_law_L_handOver : GoodIn wsL_law wsL_handOver := goodIn_ca (goodIn_ca (goodIn_r _ [407, 145, 120, 408, 409, 410, 2, 411, 17, 319, 264, 265, 266, 267, 155, 156, 268, 269, 270, 16, 271, 92, 151, 152, 153, 154, 157, 158, 159, 160, 91, 412, 413, 414, 415, 37, 416, 325, 326, 327, 35, 36, 31, 328, 329, 330, 331, 30, 229, 32, 332, 333, 334, 335, 29, 336, 337, 338, 339, 127, 128, 129, 130, 131, 77, 78, 79, 80, 81, 19, 82, 83, 84, 85, 86, 87, 88, 89, 41, 42, 43, 44, 90, 33, 34, 38, 39, 40, 417, 418, 419, 420, 863, 864, 865, 866, 867, 883, 884, 885, 886, 887, 888, 889, 890, 891, 892, 893, 894, 895, 896, 897] (by decide +kernel) (by decide +kernel)) (goodIn_sub (fun _ h => List.mem_append_right _ h) (by decide +kernel))) (goodIn_sub (fun _ h => List.mem_append_left _ (List.mem_append_right _ h)) (by decide +kernel))
set_option maxRecDepth 20000 in
theorem gL_law_L_handOver : GoodIn wsL_law (va_wsS RL 126 yL_handOver wsL_handOver) := goodIn_app (goodIn_of _ (by decide +kernel)) ggL_law_L_handOver
set_option maxRecDepth 20000 in
theorem ggL_law_X3_handOver : GoodIn wsL_law wsX3_handOver := goodIn_r _ [424, 100, 53, 285, 286, 287, 5, 288, 181, 182, 183, 184, 101, 102, 103, 289, 290, 291, 292, 210, 211, 212, 213, 202, 203, 204, 205, 364, 365, 366, 367, 368, 369, 370, 371, 198, 199, 200, 201, 372, 373, 374, 375, 180, 190, 191, 192, 193, 194, 195, 196, 197, 206, 207, 208, 209, 104, 105, 106, 107, 108, 54, 109, 110, 111, 112, 248, 249, 250, 251, 868, 869, 870, 871, 872, 873, 874, 875, 876, 877, 878, 879, 880, 881, 882] (by decide +kernel) (by decide +kernel)
set_option maxRecDepth 20000 in
theorem gL_law_X3_handOver : GoodIn wsL_law (wsV RL 128 RX3 yX3_handOver wsX3_handOver) := goodIn_app (goodIn_of _ (by decide +kernel)) ggL_law_X3_handOver
set_option maxRecDepth 20000 in
theorem ggL_law_L_giveUp : GoodIn wsL_law wsL_giveUp := goodIn_ca (goodIn_ca (goodIn_r _ [427, 145, 120, 428, 429, 430, 2, 431, 17, 432, 264, 265, 266, 267, 155, 156, 268, 269, 270, 16, 271, 92, 127, 128, 129, 130, 131, 77, 78, 79, 80, 81, 19, 82, 83, 84, 85, 86, 87, 88, 89, 29, 41, 42, 43, 44, 90, 91, 30, 31, 32, 33, 34, 35, 36, 37, 38, 39, 40, 277, 278, 279, 280, 238, 239, 433, 235, 236, 237, 863, 864, 865, 866, 867, 883, 884, 885, 886, 887, 888, 889, 890, 891, 892, 893, 894, 895, 896, 897] (by decide +kernel) (by decide +kernel)) (goodIn_sub (fun _ h => List.mem_append_right _ h) (by decide +kernel))) (goodIn_sub (fun _ h => List.mem_append_left _ (List.mem_append_right _ h)) (by decide +kernel))
set_option maxRecDepth 20000 in
theorem gL_law_L_giveUp : GoodIn wsL_law (va_wsS RL 129 yL_giveUp wsL_giveUp) := goodIn_app (goodIn_of _ (by decide +kernel)) ggL_law_L_giveUp
set_option maxRecDepth 20000 in
theorem ggL_law_X3_giveUp : GoodIn wsL_law wsX3_giveUp := goodIn_r _ [437, 100, 289, 290, 291, 5, 292, 53, 101, 102, 103, 202, 203, 204, 205, 104, 105, 106, 107, 108, 54, 109, 110, 111, 112, 297, 298, 299, 300, 248, 249, 250, 251, 252, 253, 254, 255, 868, 869, 870, 871, 872, 873, 874, 875, 876, 877, 878, 879, 880, 881, 882] (by decide +kernel) (by decide +kernel)
set_option maxRecDepth 20000 in
theorem gL_law_X3_giveUp : GoodIn wsL_law (wsV RL 131 RX3 yX3_giveUp wsX3_giveUp) := goodIn_app (goodIn_of _ (by decide +kernel)) ggL_law_X3_giveUp
set_option maxRecDepth 20000 in
theorem ggL_law_L_person : GoodIn wsL_law wsL_person := goodIn_ca (goodIn_ca (goodIn_r _ [440, 145, 64, 441, 442, 443, 2, 444, 17, 151, 152, 153, 154, 155, 156, 157, 158, 159, 16, 160, 91, 72, 73, 74, 75, 76, 445, 446, 447, 448, 30, 31, 32, 33, 34, 449, 166, 167, 168, 169, 170, 171, 328, 329, 330, 331, 229, 450, 451, 452, 453, 92, 40, 238, 239, 863, 864, 865, 866, 867, 883, 884, 885, 886, 887, 888, 889, 890, 891, 892, 893, 894, 895, 896, 897] (by decide +kernel) (by decide +kernel)) (goodIn_sub (fun _ h => List.mem_append_right _ h) (by decide +kernel))) (goodIn_sub (fun _ h => List.mem_append_left _ (List.mem_append_left _ (List.mem_append_right _ h))) (by decide +kernel))
set_option maxRecDepth 20000 in
theorem gL_law_L_person : GoodIn wsL_law (va_wsS RL 132 yL_person wsL_person) := goodIn_app (goodIn_of _ (by decide +kernel)) ggL_law_L_person
set_option maxRecDepth 20000 in
theorem ggL_law_X3_person : GoodIn wsL_law wsX3_person := goodIn_r _ [457, 458, 100, 181, 182, 183, 5, 184, 53, 101, 102, 103, 459, 460, 461, 462, 214, 215, 216, 217, 190, 191, 192, 193, 194, 195, 196, 197, 463, 464, 465, 466, 202, 203, 204, 205, 467, 468, 469, 470, 372, 373, 374, 375, 180, 198, 199, 200, 201, 206, 207, 208, 209, 210, 211, 212, 213, 868, 869, 870, 871, 872, 873, 874, 875, 876, 877, 878, 879, 880, 881, 882] (by decide +kernel) (by decide +kernel)
set_option maxRecDepth 20000 in
theorem gL_law_X3_person : GoodIn wsL_law (wsV RL 134 RX3 yX3_person wsX3_person) := goodIn_app (goodIn_of _ (by decide +kernel)) ggL_law_X3_person
set_option maxRecDepth 20000 in
theorem ggL_law_L_work : GoodIn wsL_law wsL_work := goodIn_ca (goodIn_r _ [473, 145, 474, 475, 476, 2, 477, 17, 151, 152, 153, 154, 155, 156, 157, 158, 159, 16, 160, 91, 478, 329, 330, 331, 30, 31, 229, 32, 863, 864, 865, 866, 867, 883, 884, 885, 886, 887, 888, 889, 890, 891, 892, 893, 894, 895, 896, 897] (by decide +kernel) (by decide +kernel)) (goodIn_sub (fun _ h => List.mem_append_right _ h) (by decide +kernel))
set_option maxRecDepth 20000 in
theorem gL_law_L_work : GoodIn wsL_law (va_wsS RL 135 yL_work wsL_work) := goodIn_app (goodIn_of _ (by decide +kernel)) ggL_law_L_work
set_option maxRecDepth 20000 in
theorem ggL_law_X3_work : GoodIn wsL_law wsX3_work := goodIn_r _ [482, 100, 181, 182, 183, 5, 184, 53, 101, 102, 103, 483, 484, 485, 486, 372, 373, 374, 375, 180, 190, 191, 192, 193, 194, 195, 196, 197, 198, 199, 200, 201, 202, 203, 204, 205, 206, 207, 208, 209, 210, 211, 212, 213, 868, 869, 870, 871, 872, 873, 874, 875, 876, 877, 878, 879, 880, 881, 882] (by decide +kernel) (by decide +kernel)
set_option maxRecDepth 20000 in
theorem gL_law_X3_work : GoodIn wsL_law (wsV RL 137 RX3 yX3_work wsX3_work) := goodIn_app (goodIn_of _ (by decide +kernel)) ggL_law_X3_work
set_option maxRecDepth 20000 in
theorem ggL_law_L_absence : GoodIn wsL_law wsL_absence := goodIn_ca (goodIn_ca (goodIn_r _ [489, 145, 64, 490, 491, 492, 2, 493, 17, 264, 265, 266, 267, 155, 156, 268, 269, 270, 16, 271, 92, 72, 73, 74, 75, 76, 494, 495, 496, 497, 35, 36, 37, 38, 39, 498, 278, 279, 280, 91, 40, 238, 239, 499, 500, 501, 502, 324, 325, 326, 327, 31, 328, 329, 330, 331, 30, 229, 32, 332, 333, 334, 335, 29, 336, 337, 338, 339, 863, 864, 865, 866, 867, 883, 884, 885, 886, 887, 888, 889, 890, 891, 892, 893, 894, 895, 896, 897] (by decide +kernel) (by decide +kernel)) (goodIn_sub (fun _ h => List.mem_append_right _ h) (by decide +kernel))) (goodIn_sub (fun _ h => List.mem_append_left _ (List.mem_append_left _ (List.mem_append_right _ h))) (by decide +kernel))
set_option maxRecDepth 20000 in
theorem gL_law_L_absence : GoodIn wsL_law (va_wsS RL 138 yL_absence wsL_absence) := goodIn_app (goodIn_of _ (by decide +kernel)) ggL_law_L_absence
set_option maxRecDepth 20000 in
theorem ggL_law_X3_absence : GoodIn wsL_law wsX3_absence := goodIn_r _ [506, 458, 100, 289, 290, 291, 5, 292, 53, 101, 102, 103, 507, 508, 509, 510, 202, 203, 204, 205, 297, 298, 299, 300, 511, 512, 513, 514, 364, 365, 366, 367, 368, 369, 370, 371, 198, 199, 200, 201, 372, 373, 374, 375, 180, 190, 191, 192, 193, 194, 195, 196, 197, 206, 207, 208, 209, 210, 211, 212, 213, 868, 869, 870, 871, 872, 873, 874, 875, 876, 877, 878, 879, 880, 881, 882] (by decide +kernel) (by decide +kernel)
set_option maxRecDepth 20000 in
theorem gL_law_X3_absence : GoodIn wsL_law (wsV RL 140 RX3 yX3_absence wsX3_absence) := goodIn_app (goodIn_of _ (by decide +kernel)) ggL_law_X3_absence
set_option maxRecDepth 20000 in
theorem ggL_law_L_bidOf : GoodIn wsL_law wsL_bidOf := goodIn_ca (goodIn_r _ [517, 145, 518, 519, 520, 2, 521, 17, 263, 151, 152, 153, 154, 155, 156, 157, 158, 159, 16, 160, 91, 264, 265, 266, 267, 268, 269, 270, 271, 92, 276, 238, 239, 863, 864, 865, 866, 867, 883, 884, 885, 886, 887, 888, 889, 890, 891, 892, 893, 894, 895, 896, 897] (by decide +kernel) (by decide +kernel)) (goodIn_sub (fun _ h => List.mem_append_right _ h) (by decide +kernel))
set_option maxRecDepth 20000 in
theorem gL_law_L_bidOf : GoodIn wsL_law (va_wsS RL 141 yL_bidOf wsL_bidOf) := goodIn_app (goodIn_of _ (by decide +kernel)) ggL_law_L_bidOf
set_option maxRecDepth 20000 in
theorem ggL_law_X3_bidOf : GoodIn wsL_law wsX3_bidOf := goodIn_r _ [525, 100, 285, 286, 287, 5, 288, 181, 182, 183, 184, 53, 101, 102, 103, 289, 290, 291, 292, 202, 203, 204, 205, 868, 869, 870, 871, 872, 873, 874, 875, 876, 877, 878, 879, 880, 881, 882] (by decide +kernel) (by decide +kernel)
set_option maxRecDepth 20000 in
theorem gL_law_X3_bidOf : GoodIn wsL_law (wsV RL 143 RX3 yX3_bidOf wsX3_bidOf) := goodIn_app (goodIn_of _ (by decide +kernel)) ggL_law_X3_bidOf
set_option maxRecDepth 20000 in
theorem ggL_law_L_why : GoodIn wsL_law wsL_why := goodIn_ca (goodIn_r _ [528, 145, 529, 530, 531, 2, 532, 17, 151, 152, 153, 154, 155, 156, 157, 158, 159, 16, 160, 91, 264, 265, 266, 267, 268, 269, 270, 271, 92, 416, 325, 326, 327, 35, 36, 31, 328, 329, 330, 331, 30, 229, 32, 332, 333, 334, 335, 29, 336, 337, 338, 339, 863, 864, 865, 866, 867, 883, 884, 885, 886, 887, 888, 889, 890, 891, 892, 893, 894, 895, 896, 897] (by decide +kernel) (by decide +kernel)) (goodIn_sub (fun _ h => List.mem_append_right _ h) (by decide +kernel))
set_option maxRecDepth 20000 in
theorem gL_law_L_why : GoodIn wsL_law (va_wsS RL 144 yL_why wsL_why) := goodIn_app (goodIn_of _ (by decide +kernel)) ggL_law_L_why
set_option maxRecDepth 20000 in
theorem ggL_law_X3_why : GoodIn wsL_law wsX3_why := goodIn_r _ [536, 100, 181, 182, 183, 5, 184, 53, 101, 102, 103, 289, 290, 291, 292, 364, 365, 366, 367, 202, 203, 204, 205, 368, 369, 370, 371, 198, 199, 200, 201, 372, 373, 374, 375, 180, 190, 191, 192, 193, 194, 195, 196, 197, 206, 207, 208, 209, 210, 211, 212, 213, 868, 869, 870, 871, 872, 873, 874, 875, 876, 877, 878, 879, 880, 881, 882] (by decide +kernel) (by decide +kernel)
set_option maxRecDepth 20000 in
theorem gL_law_X3_why : GoodIn wsL_law (wsV RL 146 RX3 yX3_why wsX3_why) := goodIn_app (goodIn_of _ (by decide +kernel)) ggL_law_X3_why
set_option maxRecDepth 20000 in
theorem ggL_law_L_value : GoodIn wsL_law wsL_value := goodIn_ca (goodIn_r _ [539, 64, 540, 541, 542, 2, 543, 17, 72, 73, 74, 75, 76, 544, 545, 546, 16, 547, 91, 92, 90, 548, 549, 550, 551, 37, 552, 553, 554, 555, 33, 556, 557, 558, 559, 560, 561, 562, 563, 564, 565, 566, 567, 568, 569, 570, 498, 278, 279, 280, 40, 238, 239, 571, 572, 573, 574, 39, 863, 864, 865, 866, 867, 883, 884, 885, 886, 887, 888, 889, 890, 891, 892, 893, 894, 895, 896, 897] (by decide +kernel) (by decide +kernel)) (goodIn_sub (fun _ h => List.mem_append_left _ (List.mem_append_left _ (List.mem_append_right _ h))) (by decide +kernel))
set_option maxRecDepth 20000 in
theorem gL_law_L_value : GoodIn wsL_law (va_wsS RL 147 yL_value wsL_value) := goodIn_app (goodIn_of _ (by decide +kernel)) ggL_law_L_value
set_option maxRecDepth 20000 in
theorem ggL_law_X3_value : GoodIn wsL_law wsX3_value := goodIn_r _ [578, 58, 100, 101, 102, 5, 103, 579, 580, 581, 582, 53, 583, 584, 585, 586, 202, 203, 204, 205, 587, 588, 589, 590, 591, 194, 195, 196, 197, 592, 593, 594, 595, 297, 298, 299, 300, 868, 869, 870, 871, 872, 873, 874, 875, 876, 877, 878, 879, 880, 881, 882] (by decide +kernel) (by decide +kernel)
set_option maxRecDepth 20000 in
theorem gL_law_X3_value : GoodIn wsL_law (wsV RL 149 RX3 yX3_value wsX3_value) := goodIn_app (goodIn_of _ (by decide +kernel)) ggL_law_X3_value
set_option maxRecDepth 20000 in
theorem ggL_law_L_setting : GoodIn wsL_law wsL_setting := goodIn_ca (goodIn_r _ [598, 64, 599, 600, 601, 2, 602, 17, 71, 72, 73, 74, 75, 76, 863, 864, 865, 866, 867, 883, 884, 885, 886, 887, 888, 889, 890, 891, 892, 893, 894, 895, 896, 897] (by decide +kernel) (by decide +kernel)) (goodIn_sub (fun _ h => List.mem_append_left _ (List.mem_append_left _ (List.mem_append_right _ h))) (by decide +kernel))
set_option maxRecDepth 20000 in
theorem gL_law_L_setting : GoodIn wsL_law (va_wsS RL 150 yL_setting wsL_setting) := goodIn_app (goodIn_of _ (by decide +kernel)) ggL_law_L_setting
set_option maxRecDepth 20000 in
theorem ggL_law_X3_setting : GoodIn wsL_law wsX3_setting := goodIn_r _ [606, 97, 100, 53, 101, 102, 5, 103, 868, 869, 870, 871, 872, 873, 874, 875, 876, 877, 878, 879, 880, 881, 882] (by decide +kernel) (by decide +kernel)
set_option maxRecDepth 20000 in
theorem gL_law_X3_setting : GoodIn wsL_law (wsV RL 152 RX3 yX3_setting wsX3_setting) := goodIn_app (goodIn_of _ (by decide +kernel)) ggL_law_X3_setting
set_option maxRecDepth 20000 in
theorem ggL_law_L_coverer : GoodIn wsL_law wsL_coverer := goodIn_ca (goodIn_r _ [609, 145, 610, 611, 612, 2, 613, 17, 264, 265, 266, 267, 155, 156, 268, 269, 270, 16, 271, 92, 320, 321, 322, 323, 37, 91, 324, 325, 326, 327, 35, 36, 31, 328, 329, 330, 331, 30, 229, 32, 332, 333, 334, 335, 29, 336, 337, 338, 339, 340, 341, 342, 343, 40, 34, 33, 238, 239, 344, 345, 346, 863, 864, 865, 866, 867, 883, 884, 885, 886, 887, 888, 889, 890, 891, 892, 893, 894, 895, 896, 897] (by decide +kernel) (by decide +kernel)) (goodIn_sub (fun _ h => List.mem_append_right _ h) (by decide +kernel))
set_option maxRecDepth 20000 in
theorem gL_law_L_coverer : GoodIn wsL_law (va_wsS RL 153 yL_coverer wsL_coverer) := goodIn_app (goodIn_of _ (by decide +kernel)) ggL_law_L_coverer
set_option maxRecDepth 20000 in
theorem ggL_law_X3_coverer : GoodIn wsL_law wsX3_coverer := goodIn_r _ [617, 100, 289, 290, 291, 5, 292, 53, 101, 102, 103, 356, 357, 358, 359, 202, 203, 204, 205, 360, 361, 362, 363, 364, 365, 366, 367, 368, 369, 370, 371, 198, 199, 200, 201, 372, 373, 374, 375, 180, 190, 191, 192, 193, 194, 195, 196, 197, 206, 207, 208, 209, 210, 211, 212, 213, 376, 377, 378, 379, 380, 381, 382, 383, 868, 869, 870, 871, 872, 873, 874, 875, 876, 877, 878, 879, 880, 881, 882] (by decide +kernel) (by decide +kernel)
set_option maxRecDepth 20000 in
theorem gL_law_X3_coverer : GoodIn wsL_law (wsV RL 155 RX3 yX3_coverer wsX3_coverer) := goodIn_app (goodIn_of _ (by decide +kernel)) ggL_law_X3_coverer
set_option maxRecDepth 20000 in
theorem ggL_law_L_coveredWith : GoodIn wsL_law wsL_coveredWith := goodIn_ca (goodIn_r _ [620, 64, 621, 622, 623, 2, 624, 69, 70, 18, 17, 71, 72, 73, 74, 75, 76, 86, 87, 88, 16, 89, 29, 41, 42, 43, 44, 90, 91, 30, 31, 32, 33, 34, 92, 35, 36, 37, 38, 39, 40, 392, 393, 394, 395, 396, 348, 349, 350, 351, 321, 322, 323, 324, 325, 326, 327, 328, 329, 330, 331, 229, 332, 333, 334, 335, 336, 337, 338, 339, 340, 341, 342, 343, 238, 239, 344, 345, 346, 234, 235, 236, 237, 863, 864, 865, 866, 867, 883, 884, 885, 886, 887, 888, 889, 890, 891, 892, 893, 894, 895, 896, 897] (by decide +kernel) (by decide +kernel)) (goodIn_sub (fun _ h => List.mem_append_left _ (List.mem_append_left _ (List.mem_append_right _ h))) (by decide +kernel))
set_option maxRecDepth 20000 in
theorem gL_law_L_coveredWith : GoodIn wsL_law (va_wsS RL 156 yL_coveredWith wsL_coveredWith) := goodIn_app (goodIn_of _ (by decide +kernel)) ggL_law_L_coveredWith
set_option maxRecDepth 20000 in
theorem ggL_law_X3_coveredWith : GoodIn wsL_law wsX3_coveredWith := goodIn_r _ [628, 98, 100, 53, 101, 102, 5, 103, 109, 110, 111, 112, 54, 401, 402, 403, 404, 202, 203, 204, 205, 384, 385, 386, 387, 356, 357, 358, 359, 360, 361, 362, 363, 364, 365, 366, 367, 368, 369, 370, 371, 198, 199, 200, 201, 372, 373, 374, 375, 180, 190, 191, 192, 193, 194, 195, 196, 197, 206, 207, 208, 209, 210, 211, 212, 213, 376, 377, 378, 379, 380, 381, 382, 383, 248, 249, 250, 251, 252, 253, 254, 255, 629, 630, 631, 632, 868, 869, 870, 871, 872, 873, 874, 875, 876, 877, 878, 879, 880, 881, 882] (by decide +kernel) (by decide +kernel)
set_option maxRecDepth 20000 in
theorem gL_law_X3_coveredWith : GoodIn wsL_law (wsV RL 158 RX3 yX3_coveredWith wsX3_coveredWith) := goodIn_app (goodIn_of _ (by decide +kernel)) ggL_law_X3_coveredWith
set_option maxRecDepth 20000 in
theorem ggL_law_X2_mostCovered : GoodIn wsL_law wsX2_mostCovered := goodIn_r _ [636, 17, 18, 637, 549, 550, 16, 551, 92, 37, 86, 87, 88, 89, 29, 41, 42, 43, 44, 90, 91, 30, 31, 32, 33, 34, 35, 36, 38, 39, 40, 638, 639, 2, 640, 641, 126, 642, 643, 557, 558, 559, 644, 645, 646, 647, 648, 416, 325, 326, 327, 328, 329, 330, 331, 229, 332, 333, 334, 335, 336, 337, 338, 339, 863, 864, 865, 866, 867, 883, 884, 885, 886, 887, 888, 889, 890, 891, 892, 893, 894, 895, 896, 897] (by decide +kernel) (by decide +kernel)
set_option maxRecDepth 20000 in
theorem gL_law_X2_mostCovered : GoodIn wsL_law (wsV RL 159 RX2 yX2_mostCovered wsX2_mostCovered) := goodIn_app (goodIn_of _ (by decide +kernel)) ggL_law_X2_mostCovered
set_option maxRecDepth 20000 in
theorem ggL_law_X3_mostCovered : GoodIn wsL_law wsX3_mostCovered := goodIn_r _ [652, 100, 53, 56, 57, 202, 203, 204, 5, 205, 511, 512, 513, 514, 364, 365, 366, 367, 368, 369, 370, 371, 198, 199, 200, 201, 372, 373, 374, 375, 180, 101, 102, 103, 190, 191, 192, 193, 194, 195, 196, 197, 206, 207, 208, 209, 210, 211, 212, 213, 653, 654, 655, 656, 657, 658, 659, 868, 869, 870, 871, 872, 873, 874, 875, 876, 877, 878, 879, 880, 881, 882] (by decide +kernel) (by decide +kernel)
set_option maxRecDepth 20000 in
theorem gL_law_X3_mostCovered : GoodIn wsL_law (wsV RL 162 RX3 yX3_mostCovered wsX3_mostCovered) := goodIn_app (goodIn_of _ (by decide +kernel)) ggL_law_X3_mostCovered
set_option maxRecDepth 20000 in
theorem ggL_law_L_freeShifts : GoodIn wsL_law wsL_freeShifts := goodIn_ca (goodIn_r _ [662, 145, 663, 664, 665, 2, 666, 17, 151, 152, 153, 154, 155, 156, 157, 158, 159, 16, 160, 91, 667, 668, 669, 670, 671, 31, 229, 328, 329, 330, 331, 30, 32, 332, 333, 334, 335, 29, 336, 337, 338, 339, 165, 166, 167, 168, 169, 170, 171, 863, 864, 865, 866, 867, 883, 884, 885, 886, 887, 888, 889, 890, 891, 892, 893, 894, 895, 896, 897] (by decide +kernel) (by decide +kernel)) (goodIn_sub (fun _ h => List.mem_append_right _ h) (by decide +kernel))
set_option maxRecDepth 20000 in
theorem gL_law_L_freeShifts : GoodIn wsL_law (va_wsS RL 163 yL_freeShifts wsL_freeShifts) := goodIn_app (goodIn_of _ (by decide +kernel)) ggL_law_L_freeShifts
set_option maxRecDepth 20000 in
theorem ggL_law_X3_freeShifts : GoodIn wsL_law wsX3_freeShifts := goodIn_r _ [675, 100, 181, 182, 183, 5, 184, 53, 101, 102, 103, 368, 369, 370, 371, 198, 199, 200, 201, 202, 203, 204, 205, 372, 373, 374, 375, 180, 190, 191, 192, 193, 194, 195, 196, 197, 206, 207, 208, 209, 210, 211, 212, 213, 868, 869, 870, 871, 872, 873, 874, 875, 876, 877, 878, 879, 880, 881, 882] (by decide +kernel) (by decide +kernel)
set_option maxRecDepth 20000 in
theorem gL_law_X3_freeShifts : GoodIn wsL_law (wsV RL 165 RX3 yX3_freeShifts wsX3_freeShifts) := goodIn_app (goodIn_of _ (by decide +kernel)) ggL_law_X3_freeShifts
set_option maxRecDepth 20000 in
theorem ggL_law_X2_spread : GoodIn wsL_law wsX2_spread := goodIn_r _ [679, 17, 126, 680, 681, 682, 558, 683, 863, 864, 865, 866, 867, 883, 884, 885, 886, 887, 888, 889, 890, 891, 892, 893, 894, 895, 896, 897] (by decide +kernel) (by decide +kernel)
set_option maxRecDepth 20000 in
theorem gL_law_X2_spread : GoodIn wsL_law (wsV RL 166 RX2 yX2_spread wsX2_spread) := goodIn_app (goodIn_of _ (by decide +kernel)) ggL_law_X2_spread
set_option maxRecDepth 20000 in
theorem ggL_law_X3_spread : GoodIn wsL_law wsX3_spread := goodIn_r _ [687, 100, 53, 194, 195, 196, 5, 197, 868, 869, 870, 871, 872, 873, 874, 875, 876, 877, 878, 879, 880, 881, 882] (by decide +kernel) (by decide +kernel)
set_option maxRecDepth 20000 in
theorem gL_law_X3_spread : GoodIn wsL_law (wsV RL 170 RX3 yX3_spread wsX3_spread) := goodIn_app (goodIn_of _ (by decide +kernel)) ggL_law_X3_spread
set_option maxRecDepth 20000 in
theorem ggL_law_L_append : GoodIn wsL_law wsL_append := goodIn_ca (goodIn_ca (goodIn_r _ [690, 64, 120, 691, 692, 693, 2, 694, 23, 695, 696, 72, 73, 74, 75, 76, 127, 128, 129, 130, 131, 863, 864, 865, 866, 867, 898, 899, 900, 901, 902, 903, 904, 905] (by decide +kernel) (by decide +kernel)) (goodIn_sub (fun _ h => List.mem_append_left _ (List.mem_append_left _ (List.mem_append_right _ h))) (by decide +kernel))) (goodIn_sub (fun _ h => List.mem_append_left _ (List.mem_append_right _ h)) (by decide +kernel))
set_option maxRecDepth 20000 in
theorem gL_law_L_append : GoodIn wsL_law (va_wsS RL 171 yL_append wsL_append) := goodIn_app (goodIn_of _ (by decide +kernel)) ggL_law_L_append
set_option maxRecDepth 20000 in
theorem ggL_law_X3_append : GoodIn wsL_law wsX3_append := goodIn_r _ [700, 701, 702, 100, 55, 101, 102, 5, 103, 868, 869, 870, 871, 872, 873, 874, 875, 876, 877, 878, 879, 880, 881, 882] (by decide +kernel) (by decide +kernel)
set_option maxRecDepth 20000 in
theorem gL_law_X3_append : GoodIn wsL_law (wsV RL 173 RX3 yX3_append wsX3_append) := goodIn_app (goodIn_of _ (by decide +kernel)) ggL_law_X3_append
set_option maxRecDepth 20000 in
theorem ggL_law_X2_clearText : GoodIn wsL_law wsX2_clearText := goodIn_r _ [706, 23, 695, 863, 864, 865, 866, 867, 898, 899, 900, 901, 902, 903, 904, 905] (by decide +kernel) (by decide +kernel)
set_option maxRecDepth 20000 in
theorem gL_law_X2_clearText : GoodIn wsL_law (wsV RL 174 RX2 yX2_clearText wsX2_clearText) := goodIn_app (goodIn_of _ (by decide +kernel)) ggL_law_X2_clearText
set_option maxRecDepth 20000 in
theorem ggL_law_X3_clearText : GoodIn wsL_law wsX3_clearText := goodIn_r _ [710, 100, 702, 868, 869, 870, 871, 872, 873, 874, 875, 876, 877, 878, 879, 880, 881, 882] (by decide +kernel) (by decide +kernel)
set_option maxRecDepth 20000 in
theorem gL_law_X3_clearText : GoodIn wsL_law (wsV RL 177 RX3 yX3_clearText wsX3_clearText) := goodIn_app (goodIn_of _ (by decide +kernel)) ggL_law_X3_clearText
set_option maxRecDepth 20000 in
theorem ggL_law_X2_carryOut : GoodIn wsL_law wsX2_carryOut := goodIn_r _ [714, 23, 695, 715, 716, 717, 22, 718, 719, 720, 721, 722, 723, 724, 725, 726, 727, 728, 729, 730, 731, 732, 733, 734, 735, 736, 737, 738, 739, 740, 741, 48, 742, 743, 744, 745, 746, 747, 748, 749, 750, 751, 752, 753, 754, 755, 756, 757, 758, 759, 760, 77, 78, 79, 2, 80, 81, 19, 17, 82, 83, 84, 85, 86, 87, 88, 16, 89, 29, 41, 42, 43, 44, 90, 91, 30, 31, 32, 33, 34, 92, 35, 36, 37, 38, 39, 40, 761, 762, 763, 764, 765, 766, 767, 768, 769, 770, 771, 772, 773, 774, 775, 157, 158, 159, 160, 225, 226, 227, 228, 229, 230, 231, 232, 233, 234, 235, 236, 237, 238, 239, 776, 777, 778, 779, 71, 263, 268, 269, 270, 271, 272, 273, 274, 275, 276, 347, 348, 349, 350, 351, 321, 322, 323, 324, 325, 326, 327, 328, 329, 330, 331, 332, 333, 334, 335, 336, 337, 338, 339, 340, 341, 342, 343, 344, 345, 346, 392, 393, 394, 395, 396, 863, 864, 865, 866, 867, 898, 899, 900, 901, 902, 903, 904, 905, 883, 884, 885, 886, 887, 888, 889, 890, 891, 892, 893, 894, 895, 896, 897] (by decide +kernel) (by decide +kernel)
set_option maxRecDepth 20000 in
theorem gL_law_X2_carryOut : GoodIn wsL_law (wsV RL 178 RX2 yX2_carryOut wsX2_carryOut) := goodIn_app (goodIn_of _ (by decide +kernel)) ggL_law_X2_carryOut
set_option maxRecDepth 20000 in
theorem ggL_law_X3_carryOut : GoodIn wsL_law wsX3_carryOut := goodIn_r _ [783, 100, 784, 702, 785, 786, 787, 5, 788, 789, 790, 791, 792, 793, 794, 795, 796, 797, 798, 799, 55, 800, 801, 802, 803, 101, 102, 103, 804, 805, 806, 807, 808, 809, 810, 811, 812, 813, 814, 815, 816, 817, 818, 104, 105, 106, 107, 108, 54, 109, 110, 111, 112, 53, 819, 820, 821, 822, 181, 182, 183, 184, 185, 186, 187, 188, 189, 190, 191, 192, 193, 194, 195, 196, 197, 198, 199, 200, 201, 202, 203, 204, 205, 244, 245, 246, 247, 248, 249, 250, 251, 252, 253, 254, 255, 289, 290, 291, 292, 293, 294, 295, 296, 384, 385, 386, 387, 356, 357, 358, 359, 360, 361, 362, 363, 364, 365, 366, 367, 368, 369, 370, 371, 372, 373, 374, 375, 180, 206, 207, 208, 209, 210, 211, 212, 213, 376, 377, 378, 379, 380, 381, 382, 383, 401, 402, 403, 404, 868, 869, 870, 871, 872, 873, 874, 875, 876, 877, 878, 879, 880, 881, 882] (by decide +kernel) (by decide +kernel)
