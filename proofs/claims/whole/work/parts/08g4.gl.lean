set_option maxRecDepth 20000 in
theorem ggL_law_X4_thrown : GoodIn wsL_law wsX4_thrown := goodIn_r _ [201, 155, 929, 930, 931, 932, 933, 934, 935, 936, 937, 938, 939, 940] (by decide +kernel) (by decide +kernel)
set_option maxRecDepth 20000 in
theorem gL_law_X4_thrown : GoodIn wsL_law (wsV RL 83 RX4 yX4_thrown wsX4_thrown) := goodIn_app (goodIn_of _ (by decide +kernel)) ggL_law_X4_thrown
set_option maxRecDepth 20000 in
theorem ggL_law_X4_shave : GoodIn wsL_law wsX4_shave := goodIn_r _ [303, 304, 305, 5, 306, 148, 149, 150, 151, 152, 153, 154, 155, 156, 157, 158, 159, 160, 161, 162, 163, 164, 70, 307, 308, 309, 310, 311, 312, 313, 314, 177, 178, 179, 195, 196, 197, 315, 316, 317, 318, 929, 930, 931, 932, 933, 934, 935, 936, 937, 938, 939, 940] (by decide +kernel) (by decide +kernel)
set_option maxRecDepth 20000 in
theorem gL_law_X4_shave : GoodIn wsL_law (wsV RL 96 RX4 yX4_shave wsX4_shave) := goodIn_app (goodIn_of _ (by decide +kernel)) ggL_law_X4_shave
set_option maxRecDepth 20000 in
theorem ggL_law_X4_renew : GoodIn wsL_law wsX4_renew := goodIn_r _ [361, 70, 304, 305, 5, 306, 148, 149, 150, 151, 152, 153, 154, 155, 156, 157, 158, 159, 160, 161, 162, 163, 164, 315, 316, 317, 318, 177, 178, 179, 929, 930, 931, 932, 933, 934, 935, 936, 937, 938, 939, 940] (by decide +kernel) (by decide +kernel)
set_option maxRecDepth 20000 in
theorem gL_law_X4_renew : GoodIn wsL_law (wsV RL 107 RX4 yX4_renew wsX4_renew) := goodIn_app (goodIn_of _ (by decide +kernel)) ggL_law_X4_renew
set_option maxRecDepth 20000 in
theorem ggL_law_X4_clearBuffer : GoodIn wsL_law wsX4_clearBuffer := goodIn_r _ [409, 155, 397, 929, 930, 931, 932, 933, 934, 935, 936, 937, 938, 939, 940] (by decide +kernel) (by decide +kernel)
set_option maxRecDepth 20000 in
theorem gL_law_X4_clearBuffer : GoodIn wsL_law (wsV RL 117 RX4 yX4_clearBuffer wsX4_clearBuffer) := goodIn_app (goodIn_of _ (by decide +kernel)) ggL_law_X4_clearBuffer
set_option maxRecDepth 20000 in
theorem ggL_law_X4_keep : GoodIn wsL_law wsX4_keep := goodIn_r _ [582, 71, 583, 584, 5, 585, 151, 152, 153, 154, 155, 161, 162, 163, 164, 70, 586, 587, 588, 589, 173, 174, 175, 176, 177, 178, 179, 929, 930, 931, 932, 933, 934, 935, 936, 937, 938, 939, 940] (by decide +kernel) (by decide +kernel)
set_option maxRecDepth 20000 in
theorem gL_law_X4_keep : GoodIn wsL_law (wsV RL 128 RX4 yX4_keep wsX4_keep) := goodIn_app (goodIn_of _ (by decide +kernel)) ggL_law_X4_keep
set_option maxRecDepth 20000 in
theorem ggL_law_X4_trackOf : GoodIn wsL_law wsX4_trackOf := goodIn_r _ [630, 145, 146, 5, 147, 148, 149, 150, 151, 152, 153, 154, 155, 631, 632, 633, 634, 70, 173, 174, 175, 176, 177, 178, 179, 929, 930, 931, 932, 933, 934, 935, 936, 937, 938, 939, 940] (by decide +kernel) (by decide +kernel)
set_option maxRecDepth 20000 in
theorem gL_law_X4_trackOf : GoodIn wsL_law (wsV RL 137 RX4 yX4_trackOf wsX4_trackOf) := goodIn_app (goodIn_of _ (by decide +kernel)) ggL_law_X4_trackOf
set_option maxRecDepth 20000 in
theorem ggL_law_X4_setting : GoodIn wsL_law wsX4_setting := goodIn_r _ [701, 155, 70, 929, 930, 931, 932, 933, 934, 935, 936, 937, 938, 939, 940] (by decide +kernel) (by decide +kernel)
set_option maxRecDepth 20000 in
theorem gL_law_X4_setting : GoodIn wsL_law (wsV RL 147 RX4 yX4_setting wsX4_setting) := goodIn_app (goodIn_of _ (by decide +kernel)) ggL_law_X4_setting
set_option maxRecDepth 20000 in
theorem ggL_law_X4_chain : GoodIn wsL_law wsX4_chain := goodIn_r _ [767, 145, 146, 5, 147, 148, 149, 150, 151, 152, 153, 154, 155, 768, 769, 770, 771, 173, 174, 175, 176, 70, 177, 178, 179, 772, 773, 774, 775, 73, 74, 246, 247, 248, 195, 196, 197, 776, 777, 778, 184, 185, 186, 779, 780, 781, 782, 929, 930, 931, 932, 933, 934, 935, 936, 937, 938, 939, 940] (by decide +kernel) (by decide +kernel)
set_option maxRecDepth 20000 in
theorem gL_law_X4_chain : GoodIn wsL_law (wsV RL 156 RX4 yX4_chain wsX4_chain) := goodIn_app (goodIn_of _ (by decide +kernel)) ggL_law_X4_chain
set_option maxRecDepth 20000 in
theorem ggL_law_X4_meanDepth : GoodIn wsL_law wsX4_meanDepth := goodIn_r _ [841, 155, 586, 587, 588, 5, 589, 173, 174, 175, 176, 70, 177, 178, 179, 842, 843, 844, 845, 929, 930, 931, 932, 933, 934, 935, 936, 937, 938, 939, 940] (by decide +kernel) (by decide +kernel)
set_option maxRecDepth 20000 in
theorem gL_law_X4_meanDepth : GoodIn wsL_law (wsV RL 168 RX4 yX4_meanDepth wsX4_meanDepth) := goodIn_app (goodIn_of _ (by decide +kernel)) ggL_law_X4_meanDepth
