set_option maxRecDepth 20000 in
theorem ggL_law_X3_init : GoodIn wsL_law wsX3_init := goodIn_r _ [9, 10, 11, 12, 13, 14, 15, 16, 17, 18, 19, 20, 21, 22, 23, 24, 25, 26, 27, 28, 29, 30, 31, 32, 33, 34, 35, 36, 37, 38, 39, 40, 41, 42, 43, 44, 45, 46, 47, 48, 49, 50, 51, 52, 53, 54, 55, 56, 57, 58, 59, 60, 61, 62, 63, 64, 65, 941, 942, 943, 944, 945, 946, 947, 948, 949, 950, 951, 952, 953, 954, 955, 956, 957, 958, 959, 922, 923, 924, 925, 926, 927, 928, 960, 961, 962, 963] (by decide +kernel) (by decide +kernel)
set_option maxRecDepth 20000 in
theorem gL_law_X3_init : GoodIn wsL_law (wsX3_init) := ggL_law_X3_init
set_option maxRecDepth 20000 in
theorem ggL_law_X4_copy : GoodIn wsL_law wsX4_copy := goodIn_r _ [237, 145, 146, 5, 147, 148, 149, 150, 151, 152, 153, 154, 155, 156, 157, 158, 159, 160, 161, 162, 163, 164, 70, 238, 239, 240, 241, 242, 243, 244, 245, 173, 174, 175, 176, 177, 178, 179, 180, 181, 182, 183, 246, 247, 248, 187, 188, 189, 190, 249, 250, 251, 252, 184, 185, 186, 195, 196, 197, 191, 192, 193, 194, 929, 930, 931, 932, 933, 934, 935, 936, 937, 938, 939, 940] (by decide +kernel) (by decide +kernel)
set_option maxRecDepth 20000 in
theorem gL_law_X4_copy : GoodIn wsL_law (wsV RL 89 RX4 yX4_copy wsX4_copy) := goodIn_app (goodIn_of _ (by decide +kernel)) ggL_law_X4_copy
set_option maxRecDepth 20000 in
theorem ggL_law_X4_wind : GoodIn wsL_law wsX4_wind := goodIn_r _ [330, 155, 156, 157, 158, 5, 159, 160, 161, 162, 163, 164, 70, 331, 332, 333, 334, 929, 930, 931, 932, 933, 934, 935, 936, 937, 938, 939, 940] (by decide +kernel) (by decide +kernel)
set_option maxRecDepth 20000 in
theorem gL_law_X4_wind : GoodIn wsL_law (wsV RL 100 RX4 yX4_wind wsX4_wind) := goodIn_app (goodIn_of _ (by decide +kernel)) ggL_law_X4_wind
set_option maxRecDepth 20000 in
theorem ggL_law_X4_set : GoodIn wsL_law wsX4_set := goodIn_r _ [373, 70, 148, 149, 5, 150, 151, 152, 153, 154, 155, 156, 157, 158, 159, 160, 161, 162, 163, 164, 929, 930, 931, 932, 933, 934, 935, 936, 937, 938, 939, 940] (by decide +kernel) (by decide +kernel)
set_option maxRecDepth 20000 in
theorem gL_law_X4_set : GoodIn wsL_law (wsV RL 110 RX4 yX4_set wsX4_set) := goodIn_app (goodIn_of _ (by decide +kernel)) ggL_law_X4_set
set_option maxRecDepth 20000 in
theorem ggL_law_X4_firstError : GoodIn wsL_law wsX4_firstError := goodIn_r _ [492, 155, 397, 493, 494, 495, 5, 496, 497, 498, 499, 500, 501, 72, 502, 503, 504, 505, 506, 507, 508, 509, 510, 511, 512, 148, 149, 150, 929, 930, 931, 932, 933, 934, 935, 936, 937, 938, 939, 940] (by decide +kernel) (by decide +kernel)
set_option maxRecDepth 20000 in
theorem gL_law_X4_firstError : GoodIn wsL_law (wsV RL 121 RX4 yX4_firstError wsX4_firstError) := goodIn_app (goodIn_of _ (by decide +kernel)) ggL_law_X4_firstError
set_option maxRecDepth 20000 in
theorem ggL_law_X4_goBack : GoodIn wsL_law wsX4_goBack := goodIn_r _ [600, 71, 583, 584, 5, 585, 151, 152, 153, 154, 155, 156, 157, 158, 159, 160, 161, 162, 163, 164, 70, 586, 587, 588, 589, 173, 174, 175, 176, 177, 178, 179, 929, 930, 931, 932, 933, 934, 935, 936, 937, 938, 939, 940] (by decide +kernel) (by decide +kernel)
set_option maxRecDepth 20000 in
theorem gL_law_X4_goBack : GoodIn wsL_law (wsV RL 131 RX4 yX4_goBack wsX4_goBack) := goodIn_app (goodIn_of _ (by decide +kernel)) ggL_law_X4_goBack
set_option maxRecDepth 20000 in
theorem ggL_law_X4_cylinderOf : GoodIn wsL_law wsX4_cylinderOf := goodIn_r _ [653, 304, 305, 5, 306, 148, 149, 150, 151, 152, 153, 154, 155, 654, 655, 656, 657, 70, 658, 659, 660, 661, 173, 174, 175, 176, 177, 178, 179, 311, 312, 313, 314, 195, 196, 197, 662, 663, 664, 665, 929, 930, 931, 932, 933, 934, 935, 936, 937, 938, 939, 940] (by decide +kernel) (by decide +kernel)
set_option maxRecDepth 20000 in
theorem gL_law_X4_cylinderOf : GoodIn wsL_law (wsV RL 140 RX4 yX4_cylinderOf wsX4_cylinderOf) := goodIn_app (goodIn_of _ (by decide +kernel)) ggL_law_X4_cylinderOf
set_option maxRecDepth 20000 in
theorem ggL_law_X4_whyNot : GoodIn wsL_law wsX4_whyNot := goodIn_r _ [713, 145, 146, 5, 147, 148, 149, 150, 151, 152, 153, 154, 155, 169, 170, 171, 172, 70, 173, 174, 175, 176, 177, 178, 179, 180, 181, 182, 183, 929, 930, 931, 932, 933, 934, 935, 936, 937, 938, 939, 940] (by decide +kernel) (by decide +kernel)
set_option maxRecDepth 20000 in
theorem gL_law_X4_whyNot : GoodIn wsL_law (wsV RL 150 RX4 yX4_whyNot wsX4_whyNot) := goodIn_app (goodIn_of _ (by decide +kernel)) ggL_law_X4_whyNot
set_option maxRecDepth 20000 in
theorem ggL_law_X4_clearest : GoodIn wsL_law wsX4_clearest := goodIn_r _ [798, 155, 799, 800, 801, 5, 802, 70, 177, 178, 179, 173, 174, 175, 176, 929, 930, 931, 932, 933, 934, 935, 936, 937, 938, 939, 940] (by decide +kernel) (by decide +kernel)
set_option maxRecDepth 20000 in
theorem gL_law_X4_clearest : GoodIn wsL_law (wsV RL 160 RX4 yX4_clearest wsX4_clearest) := goodIn_app (goodIn_of _ (by decide +kernel)) ggL_law_X4_clearest
set_option maxRecDepth 20000 in
theorem ggL_law_X4_clearShare : GoodIn wsL_law wsX4_clearShare := goodIn_r _ [857, 155, 586, 587, 588, 5, 589, 173, 174, 175, 176, 70, 177, 178, 179, 842, 843, 844, 845, 929, 930, 931, 932, 933, 934, 935, 936, 937, 938, 939, 940] (by decide +kernel) (by decide +kernel)
set_option maxRecDepth 20000 in
theorem gL_law_X4_clearShare : GoodIn wsL_law (wsV RL 173 RX4 yX4_clearShare wsX4_clearShare) := goodIn_app (goodIn_of _ (by decide +kernel)) ggL_law_X4_clearShare
