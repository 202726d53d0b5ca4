set_option maxRecDepth 20000 in
theorem ggL_law_X4_speak : GoodIn wsL_law wsX4_speak := goodIn_r _ [144, 145, 146, 5, 147, 148, 149, 150, 151, 152, 153, 154, 155, 156, 157, 158, 159, 160, 161, 162, 163, 164, 70, 165, 166, 167, 168, 169, 170, 171, 172, 173, 174, 175, 176, 177, 178, 179, 180, 181, 182, 183, 184, 185, 186, 187, 188, 189, 190, 191, 192, 193, 194, 195, 196, 197, 929, 930, 931, 932, 933, 934, 935, 936, 937, 938, 939, 940] (by decide +kernel) (by decide +kernel)
set_option maxRecDepth 20000 in
theorem gL_law_X4_speak : GoodIn wsL_law (wsV RL 82 RX4 yX4_speak wsX4_speak) := goodIn_app (goodIn_of _ (by decide +kernel)) ggL_law_X4_speak
set_option maxRecDepth 20000 in
theorem ggL_law_L_shave : GoodIn wsL_law wsL_shave := goodIn_ca (goodIn_r _ [279, 79, 280, 281, 282, 2, 283, 16, 284, 285, 286, 287, 89, 90, 97, 98, 99, 100, 21, 20, 101, 102, 103, 104, 105, 106, 107, 15, 108, 35, 109, 110, 111, 112, 36, 37, 38, 39, 40, 41, 42, 43, 44, 45, 46, 47, 48, 49, 50, 51, 52, 53, 288, 289, 290, 291, 292, 293, 294, 295, 264, 138, 139, 140, 296, 297, 298, 299, 922, 923, 924, 925, 926, 927, 928, 941, 942, 943, 944, 945, 946, 947, 948, 949, 950, 951, 952, 953, 954, 955, 956, 957, 958, 959] (by decide +kernel) (by decide +kernel)) (goodIn_sub (fun _ h => List.mem_append_left _ (List.mem_append_left _ (List.mem_append_right _ h))) (by decide +kernel))
set_option maxRecDepth 20000 in
theorem gL_law_L_shave : GoodIn wsL_law (va_wsS RL 94 yL_shave wsL_shave) := goodIn_app (goodIn_of _ (by decide +kernel)) ggL_law_L_shave
set_option maxRecDepth 20000 in
theorem ggL_law_L_renew : GoodIn wsL_law wsL_renew := goodIn_ca (goodIn_ca (goodIn_r _ [349, 79, 80, 350, 351, 352, 2, 353, 95, 96, 16, 284, 285, 286, 287, 89, 90, 97, 98, 99, 100, 21, 20, 101, 102, 103, 104, 105, 106, 107, 15, 108, 35, 109, 110, 111, 112, 36, 37, 38, 39, 40, 41, 42, 43, 44, 45, 46, 47, 48, 49, 50, 51, 52, 53, 354, 355, 356, 357, 296, 297, 298, 299, 922, 923, 924, 925, 926, 927, 928, 941, 942, 943, 944, 945, 946, 947, 948, 949, 950, 951, 952, 953, 954, 955, 956, 957, 958, 959] (by decide +kernel) (by decide +kernel)) (goodIn_sub (fun _ h => List.mem_append_left _ (List.mem_append_right _ h)) (by decide +kernel))) (goodIn_sub (fun _ h => List.mem_append_left _ (List.mem_append_left _ (List.mem_append_right _ h))) (by decide +kernel))
set_option maxRecDepth 20000 in
theorem gL_law_L_renew : GoodIn wsL_law (va_wsS RL 105 yL_renew wsL_renew) := goodIn_app (goodIn_of _ (by decide +kernel)) ggL_law_L_renew
set_option maxRecDepth 20000 in
theorem ggL_law_X3_clearBuffer : GoodIn wsL_law wsX3_clearBuffer := goodIn_r _ [401, 25, 402, 403, 404, 24, 405, 59, 922, 923, 924, 925, 926, 927, 928, 960, 961] (by decide +kernel) (by decide +kernel)
set_option maxRecDepth 20000 in
theorem gL_law_X3_clearBuffer : GoodIn wsL_law (wsV RL 114 RX3 yX3_clearBuffer wsX3_clearBuffer) := goodIn_app (goodIn_of _ (by decide +kernel)) ggL_law_X3_clearBuffer
set_option maxRecDepth 20000 in
theorem ggL_law_L_keep : GoodIn wsL_law wsL_keep := goodIn_ca (goodIn_r _ [562, 80, 563, 564, 565, 2, 566, 17, 16, 19, 567, 568, 569, 570, 95, 96, 105, 106, 107, 15, 108, 35, 109, 110, 111, 112, 36, 37, 38, 39, 40, 41, 42, 43, 44, 45, 46, 47, 48, 49, 50, 51, 52, 53, 571, 572, 573, 574, 575, 576, 577, 578, 121, 122, 123, 124, 922, 923, 924, 925, 926, 927, 928, 941, 942, 943, 944, 945, 946, 947, 948, 949, 950, 951, 952, 953, 954, 955, 956, 957, 958, 959] (by decide +kernel) (by decide +kernel)) (goodIn_sub (fun _ h => List.mem_append_left _ (List.mem_append_right _ h)) (by decide +kernel))
set_option maxRecDepth 20000 in
theorem gL_law_L_keep : GoodIn wsL_law (va_wsS RL 126 yL_keep wsL_keep) := goodIn_app (goodIn_of _ (by decide +kernel)) ggL_law_L_keep
set_option maxRecDepth 20000 in
theorem ggL_law_L_trackOf : GoodIn wsL_law wsL_trackOf := goodIn_ca (goodIn_ca (goodIn_r _ [614, 79, 80, 615, 616, 617, 2, 618, 16, 85, 86, 87, 88, 89, 90, 619, 620, 621, 622, 95, 96, 623, 624, 625, 15, 626, 35, 36, 37, 38, 39, 40, 41, 121, 122, 123, 124, 922, 923, 924, 925, 926, 927, 928, 941, 942, 943, 944, 945, 946, 947, 948, 949, 950, 951, 952, 953, 954, 955, 956, 957, 958, 959] (by decide +kernel) (by decide +kernel)) (goodIn_sub (fun _ h => List.mem_append_left _ (List.mem_append_left _ (List.mem_append_right _ h))) (by decide +kernel))) (goodIn_sub (fun _ h => List.mem_append_left _ (List.mem_append_right _ h)) (by decide +kernel))
set_option maxRecDepth 20000 in
theorem gL_law_L_trackOf : GoodIn wsL_law (va_wsS RL 135 yL_trackOf wsL_trackOf) := goodIn_app (goodIn_of _ (by decide +kernel)) ggL_law_L_trackOf
set_option maxRecDepth 20000 in
theorem ggL_law_X3_setting : GoodIn wsL_law wsX3_setting := goodIn_r _ [697, 16, 369, 922, 923, 924, 925, 926, 927, 928, 941, 942, 943, 944, 945, 946, 947, 948, 949, 950, 951, 952, 953, 954, 955, 956, 957, 958, 959] (by decide +kernel) (by decide +kernel)
set_option maxRecDepth 20000 in
theorem gL_law_X3_setting : GoodIn wsL_law (wsV RL 144 RX3 yX3_setting wsX3_setting) := goodIn_app (goodIn_of _ (by decide +kernel)) ggL_law_X3_setting
set_option maxRecDepth 20000 in
theorem ggL_law_L_chain : GoodIn wsL_law wsL_chain := goodIn_ca (goodIn_ca (goodIn_r _ [733, 79, 80, 734, 735, 736, 2, 737, 95, 96, 16, 738, 739, 29, 740, 85, 86, 87, 88, 89, 90, 619, 620, 621, 622, 741, 122, 123, 15, 124, 35, 742, 743, 744, 28, 745, 64, 65, 746, 747, 748, 135, 136, 137, 138, 139, 140, 749, 750, 751, 752, 753, 224, 225, 226, 218, 219, 231, 232, 233, 125, 126, 754, 755, 756, 757, 758, 759, 760, 761, 762, 763, 922, 923, 924, 925, 926, 927, 928, 941, 942, 943, 944, 945, 946, 947, 948, 949, 950, 951, 952, 953, 954, 955, 956, 957, 958, 959, 962, 963] (by decide +kernel) (by decide +kernel)) (goodIn_sub (fun _ h => List.mem_append_left _ (List.mem_append_right _ h)) (by decide +kernel))) (goodIn_sub (fun _ h => List.mem_append_left _ (List.mem_append_left _ (List.mem_append_right _ h))) (by decide +kernel))
set_option maxRecDepth 20000 in
theorem gL_law_L_chain : GoodIn wsL_law (va_wsS RL 154 yL_chain wsL_chain) := goodIn_app (goodIn_of _ (by decide +kernel)) ggL_law_L_chain
set_option maxRecDepth 20000 in
theorem ggL_law_X3_meanDepth : GoodIn wsL_law wsX3_meanDepth := goodIn_r _ [833, 16, 571, 572, 573, 15, 574, 575, 576, 577, 578, 121, 122, 123, 124, 35, 834, 835, 836, 837, 922, 923, 924, 925, 926, 927, 928, 941, 942, 943, 944, 945, 946, 947, 948, 949, 950, 951, 952, 953, 954, 955, 956, 957, 958, 959] (by decide +kernel) (by decide +kernel)
set_option maxRecDepth 20000 in
theorem gL_law_X3_meanDepth : GoodIn wsL_law (wsV RL 164 RX3 yX3_meanDepth wsX3_meanDepth) := goodIn_app (goodIn_of _ (by decide +kernel)) ggL_law_X3_meanDepth
