set_option maxRecDepth 20000 in
theorem ggL_law_L_speak : GoodIn wsL_law wsL_speak := goodIn_ca (goodIn_ca (goodIn_r _ [78, 79, 80, 81, 82, 83, 2, 84, 16, 85, 86, 87, 88, 89, 90, 91, 92, 93, 94, 95, 96, 97, 98, 99, 100, 21, 20, 101, 102, 103, 104, 105, 106, 107, 15, 108, 35, 109, 110, 111, 112, 36, 37, 38, 39, 40, 41, 42, 43, 44, 45, 46, 47, 48, 49, 50, 51, 52, 53, 113, 114, 115, 116, 117, 118, 119, 120, 121, 122, 123, 124, 125, 126, 127, 128, 129, 130, 131, 132, 133, 134, 135, 136, 137, 138, 139, 140, 922, 923, 924, 925, 926, 927, 928, 941, 942, 943, 944, 945, 946, 947, 948, 949, 950, 951, 952, 953, 954, 955, 956, 957, 958, 959] (by decide +kernel) (by decide +kernel)) (goodIn_sub (fun _ h => List.mem_append_left _ (List.mem_append_left _ (List.mem_append_right _ h))) (by decide +kernel))) (goodIn_sub (fun _ h => List.mem_append_left _ (List.mem_append_right _ h)) (by decide +kernel))
set_option maxRecDepth 20000 in
theorem gL_law_L_speak : GoodIn wsL_law (va_wsS RL 77 yL_speak wsL_speak) := goodIn_app (goodIn_of _ (by decide +kernel)) ggL_law_L_speak
set_option maxRecDepth 20000 in
theorem ggL_law_X4_play : GoodIn wsL_law wsX4_play := goodIn_r _ [268, 145, 146, 5, 147, 148, 149, 150, 151, 152, 153, 154, 155, 156, 157, 158, 159, 160, 161, 162, 163, 164, 70, 269, 270, 271, 272, 273, 274, 275, 276, 173, 174, 175, 176, 177, 178, 179, 195, 196, 197, 929, 930, 931, 932, 933, 934, 935, 936, 937, 938, 939, 940] (by decide +kernel) (by decide +kernel)
set_option maxRecDepth 20000 in
theorem gL_law_X4_play : GoodIn wsL_law (wsV RL 93 RX4 yX4_play wsX4_play) := goodIn_app (goodIn_of _ (by decide +kernel)) ggL_law_X4_play
set_option maxRecDepth 20000 in
theorem ggL_law_X4_sharpen : GoodIn wsL_law wsX4_sharpen := goodIn_r _ [346, 155, 156, 157, 158, 5, 159, 160, 161, 162, 163, 164, 70, 331, 332, 333, 334, 929, 930, 931, 932, 933, 934, 935, 936, 937, 938, 939, 940] (by decide +kernel) (by decide +kernel)
set_option maxRecDepth 20000 in
theorem gL_law_X4_sharpen : GoodIn wsL_law (wsV RL 104 RX4 yX4_sharpen wsX4_sharpen) := goodIn_app (goodIn_of _ (by decide +kernel)) ggL_law_X4_sharpen
set_option maxRecDepth 20000 in
theorem ggL_law_X4_append : GoodIn wsL_law wsX4_append := goodIn_r _ [396, 397, 72, 148, 149, 5, 150, 151, 152, 153, 154, 155, 929, 930, 931, 932, 933, 934, 935, 936, 937, 938, 939, 940] (by decide +kernel) (by decide +kernel)
set_option maxRecDepth 20000 in
theorem gL_law_X4_append : GoodIn wsL_law (wsV RL 113 RX4 yX4_append wsX4_append) := goodIn_app (goodIn_of _ (by decide +kernel)) ggL_law_X4_append
set_option maxRecDepth 20000 in
theorem ggL_law_X4_run : GoodIn wsL_law wsX4_run := goodIn_r _ [555, 497, 397, 493, 494, 495, 5, 496, 498, 499, 500, 501, 72, 502, 503, 504, 505, 506, 507, 508, 509, 510, 511, 512, 148, 149, 150, 151, 152, 153, 154, 155, 156, 157, 158, 159, 160, 161, 162, 163, 164, 70, 556, 557, 558, 559, 165, 166, 167, 168, 169, 170, 171, 172, 173, 174, 175, 176, 177, 178, 179, 180, 181, 182, 183, 184, 185, 186, 187, 188, 189, 190, 191, 192, 193, 194, 195, 196, 197, 238, 239, 240, 241, 242, 243, 244, 245, 246, 247, 248, 249, 250, 251, 252, 269, 270, 271, 272, 273, 274, 275, 276, 307, 308, 309, 310, 311, 312, 313, 314, 315, 316, 317, 318, 331, 332, 333, 334, 929, 930, 931, 932, 933, 934, 935, 936, 937, 938, 939, 940] (by decide +kernel) (by decide +kernel)
set_option maxRecDepth 20000 in
theorem gL_law_X4_run : GoodIn wsL_law (wsV RL 125 RX4 yX4_run wsX4_run) := goodIn_app (goodIn_of _ (by decide +kernel)) ggL_law_X4_run
set_option maxRecDepth 20000 in
theorem ggL_law_X4_undo : GoodIn wsL_law wsX4_undo := goodIn_r _ [611, 160, 151, 152, 153, 5, 154, 155, 161, 162, 163, 164, 70, 929, 930, 931, 932, 933, 934, 935, 936, 937, 938, 939, 940] (by decide +kernel) (by decide +kernel)
set_option maxRecDepth 20000 in
theorem gL_law_X4_undo : GoodIn wsL_law (wsV RL 134 RX4 yX4_undo wsX4_undo) := goodIn_app (goodIn_of _ (by decide +kernel)) ggL_law_X4_undo
set_option maxRecDepth 20000 in
theorem ggL_law_X4_count : GoodIn wsL_law wsX4_count := goodIn_r _ [685, 148, 149, 5, 150, 151, 152, 153, 154, 155, 686, 687, 688, 689, 70, 160, 187, 188, 189, 190, 586, 587, 588, 589, 173, 174, 175, 176, 177, 178, 179, 690, 691, 692, 693, 929, 930, 931, 932, 933, 934, 935, 936, 937, 938, 939, 940] (by decide +kernel) (by decide +kernel)
set_option maxRecDepth 20000 in
theorem gL_law_X4_count : GoodIn wsL_law (wsV RL 143 RX4 yX4_count wsX4_count) := goodIn_app (goodIn_of _ (by decide +kernel)) ggL_law_X4_count
set_option maxRecDepth 20000 in
theorem ggL_law_X4_ifCopied : GoodIn wsL_law wsX4_ifCopied := goodIn_r _ [726, 145, 146, 5, 147, 148, 149, 150, 151, 152, 153, 154, 155, 727, 728, 729, 730, 242, 243, 244, 245, 70, 173, 174, 175, 176, 177, 178, 179, 180, 181, 182, 183, 246, 247, 248, 249, 250, 251, 252, 184, 185, 186, 187, 188, 189, 190, 195, 196, 197, 929, 930, 931, 932, 933, 934, 935, 936, 937, 938, 939, 940] (by decide +kernel) (by decide +kernel)
set_option maxRecDepth 20000 in
theorem gL_law_X4_ifCopied : GoodIn wsL_law (wsV RL 153 RX4 yX4_ifCopied wsX4_ifCopied) := goodIn_app (goodIn_of _ (by decide +kernel)) ggL_law_X4_ifCopied
set_option maxRecDepth 20000 in
theorem ggL_law_X4_daughters : GoodIn wsL_law wsX4_daughters := goodIn_r _ [821, 145, 146, 5, 147, 148, 149, 150, 151, 152, 153, 154, 155, 822, 823, 824, 825, 826, 827, 828, 829, 70, 173, 174, 175, 176, 177, 178, 179, 929, 930, 931, 932, 933, 934, 935, 936, 937, 938, 939, 940] (by decide +kernel) (by decide +kernel)
set_option maxRecDepth 20000 in
theorem gL_law_X4_daughters : GoodIn wsL_law (wsV RL 163 RX4 yX4_daughters wsX4_daughters) := goodIn_app (goodIn_of _ (by decide +kernel)) ggL_law_X4_daughters
set_option maxRecDepth 20000 in
theorem ggL_law_X4_digest : GoodIn wsL_law wsX4_digest := goodIn_r _ [889, 890, 891, 70, 71, 397, 72, 686, 687, 688, 5, 689, 160, 187, 188, 189, 190, 586, 587, 588, 589, 173, 174, 175, 176, 177, 178, 179, 690, 691, 692, 693, 892, 893, 894, 895, 631, 632, 633, 634, 169, 170, 171, 172, 180, 181, 182, 183, 822, 823, 824, 825, 826, 827, 828, 829, 768, 769, 770, 771, 772, 773, 774, 775, 73, 74, 246, 247, 248, 195, 196, 197, 776, 777, 778, 184, 185, 186, 779, 780, 781, 782, 654, 655, 656, 657, 658, 659, 660, 661, 311, 312, 313, 314, 662, 663, 664, 665, 727, 728, 729, 730, 242, 243, 244, 245, 249, 250, 251, 252, 799, 800, 801, 802, 896, 839, 840, 841, 155, 842, 843, 844, 845, 897, 898, 899, 900, 901, 902, 903, 904, 905, 906, 907, 908, 909, 855, 856, 857, 910, 911, 912, 913, 914, 915, 916, 917, 918, 919, 920, 921, 929, 930, 931, 932, 933, 934, 935, 936, 937, 938, 939, 940] (by decide +kernel) (by decide +kernel)
set_option maxRecDepth 20000 in
theorem gL_law_X4_digest : GoodIn wsL_law (wsV RL 178 RX4 yX4_digest wsX4_digest) := goodIn_app (goodIn_of _ (by decide +kernel)) ggL_law_X4_digest
