set_option maxRecDepth 20000 in
theorem ggL_law_L_copy : GoodIn wsL_law wsL_copy := goodIn_ca (goodIn_ca (goodIn_r _ [204, 79, 80, 205, 206, 207, 2, 208, 16, 85, 86, 87, 88, 89, 90, 209, 210, 211, 212, 95, 96, 97, 98, 99, 100, 21, 20, 101, 102, 103, 104, 105, 106, 107, 15, 108, 35, 109, 110, 111, 112, 36, 37, 38, 39, 40, 41, 42, 43, 44, 45, 46, 47, 48, 49, 50, 51, 52, 53, 213, 214, 215, 216, 217, 218, 139, 219, 220, 221, 222, 223, 121, 122, 123, 124, 224, 225, 137, 138, 140, 226, 127, 128, 129, 130, 227, 228, 229, 230, 231, 232, 233, 125, 126, 131, 132, 133, 134, 135, 136, 922, 923, 924, 925, 926, 927, 928, 941, 942, 943, 944, 945, 946, 947, 948, 949, 950, 951, 952, 953, 954, 955, 956, 957, 958, 959] (by decide +kernel) (by decide +kernel)) (goodIn_sub (fun _ h => List.mem_append_left _ (List.mem_append_left _ (List.mem_append_right _ h))) (by decide +kernel))) (goodIn_sub (fun _ h => List.mem_append_left _ (List.mem_append_right _ h)) (by decide +kernel))
set_option maxRecDepth 20000 in
theorem gL_law_L_copy : GoodIn wsL_law (va_wsS RL 86 yL_copy wsL_copy) := goodIn_app (goodIn_of _ (by decide +kernel)) ggL_law_L_copy
set_option maxRecDepth 20000 in
theorem ggL_law_X3_wind : GoodIn wsL_law wsX3_wind := goodIn_r _ [322, 16, 97, 98, 99, 2, 100, 21, 20, 101, 102, 103, 104, 105, 106, 107, 15, 108, 35, 109, 110, 111, 112, 36, 37, 38, 39, 40, 41, 42, 43, 44, 45, 46, 47, 48, 49, 50, 51, 52, 53, 323, 324, 325, 326, 922, 923, 924, 925, 926, 927, 928, 941, 942, 943, 944, 945, 946, 947, 948, 949, 950, 951, 952, 953, 954, 955, 956, 957, 958, 959] (by decide +kernel) (by decide +kernel)
set_option maxRecDepth 20000 in
theorem gL_law_X3_wind : GoodIn wsL_law (wsV RL 97 RX3 yX3_wind wsX3_wind) := goodIn_app (goodIn_of _ (by decide +kernel)) ggL_law_X3_wind
set_option maxRecDepth 20000 in
theorem ggL_law_L_set : GoodIn wsL_law wsL_set := goodIn_ca (goodIn_r _ [364, 80, 365, 366, 367, 2, 368, 95, 96, 16, 369, 97, 98, 99, 100, 21, 20, 101, 102, 103, 104, 105, 106, 107, 15, 108, 35, 109, 110, 111, 112, 36, 37, 38, 39, 40, 41, 42, 43, 44, 45, 46, 47, 48, 49, 50, 51, 52, 53, 922, 923, 924, 925, 926, 927, 928, 941, 942, 943, 944, 945, 946, 947, 948, 949, 950, 951, 952, 953, 954, 955, 956, 957, 958, 959] (by decide +kernel) (by decide +kernel)) (goodIn_sub (fun _ h => List.mem_append_left _ (List.mem_append_right _ h)) (by decide +kernel))
set_option maxRecDepth 20000 in
theorem gL_law_L_set : GoodIn wsL_law (va_wsS RL 108 yL_set wsL_set) := goodIn_app (goodIn_of _ (by decide +kernel)) ggL_law_L_set
set_option maxRecDepth 20000 in
theorem ggL_law_X3_firstError : GoodIn wsL_law wsX3_firstError := goodIn_r _ [413, 25, 414, 415, 416, 24, 417, 59, 418, 419, 420, 421, 422, 423, 424, 425, 58, 426, 427, 428, 429, 430, 431, 432, 433, 434, 435, 436, 437, 438, 439, 440, 441, 442, 443, 444, 445, 446, 447, 448, 449, 450, 451, 452, 453, 454, 455, 456, 457, 458, 459, 460, 461, 462, 463, 464, 465, 466, 467, 468, 469, 470, 471, 472, 473, 474, 475, 476, 477, 478, 479, 480, 481, 482, 483, 484, 485, 486, 487, 488, 922, 923, 924, 925, 926, 927, 928, 960, 961] (by decide +kernel) (by decide +kernel)
set_option maxRecDepth 20000 in
theorem gL_law_X3_firstError : GoodIn wsL_law (wsV RL 118 RX3 yX3_firstError wsX3_firstError) := goodIn_app (goodIn_of _ (by decide +kernel)) ggL_law_X3_firstError
set_option maxRecDepth 20000 in
theorem ggL_law_L_goBack : GoodIn wsL_law wsL_goBack := goodIn_ca (goodIn_ca (goodIn_r _ [592, 80, 377, 593, 594, 595, 2, 596, 382, 383, 19, 16, 17, 567, 568, 569, 570, 95, 96, 97, 98, 99, 100, 21, 20, 101, 102, 103, 104, 105, 106, 107, 15, 108, 35, 109, 110, 111, 112, 36, 37, 38, 39, 40, 41, 42, 43, 44, 45, 46, 47, 48, 49, 50, 51, 52, 53, 571, 572, 573, 574, 575, 576, 577, 578, 121, 122, 123, 124, 922, 923, 924, 925, 926, 927, 928, 941, 942, 943, 944, 945, 946, 947, 948, 949, 950, 951, 952, 953, 954, 955, 956, 957, 958, 959] (by decide +kernel) (by decide +kernel)) (goodIn_sub (fun _ h => List.mem_append_right _ h) (by decide +kernel))) (goodIn_sub (fun _ h => List.mem_append_left _ (List.mem_append_right _ h)) (by decide +kernel))
set_option maxRecDepth 20000 in
theorem gL_law_L_goBack : GoodIn wsL_law (va_wsS RL 129 yL_goBack wsL_goBack) := goodIn_app (goodIn_of _ (by decide +kernel)) ggL_law_L_goBack
set_option maxRecDepth 20000 in
theorem ggL_law_L_cylinderOf : GoodIn wsL_law wsL_cylinderOf := goodIn_ca (goodIn_ca (goodIn_r _ [637, 79, 80, 638, 639, 640, 2, 641, 16, 284, 285, 286, 287, 89, 90, 619, 620, 621, 622, 95, 96, 642, 643, 644, 15, 645, 42, 43, 575, 576, 577, 578, 121, 122, 123, 124, 35, 292, 293, 294, 295, 264, 138, 139, 140, 646, 647, 648, 649, 36, 922, 923, 924, 925, 926, 927, 928, 941, 942, 943, 944, 945, 946, 947, 948, 949, 950, 951, 952, 953, 954, 955, 956, 957, 958, 959] (by decide +kernel) (by decide +kernel)) (goodIn_sub (fun _ h => List.mem_append_left _ (List.mem_append_left _ (List.mem_append_right _ h))) (by decide +kernel))) (goodIn_sub (fun _ h => List.mem_append_left _ (List.mem_append_right _ h)) (by decide +kernel))
set_option maxRecDepth 20000 in
theorem gL_law_L_cylinderOf : GoodIn wsL_law (va_wsS RL 138 yL_cylinderOf wsL_cylinderOf) := goodIn_app (goodIn_of _ (by decide +kernel)) ggL_law_L_cylinderOf
set_option maxRecDepth 20000 in
theorem ggL_law_L_whyNot : GoodIn wsL_law wsL_whyNot := goodIn_ca (goodIn_ca (goodIn_r _ [704, 79, 80, 705, 706, 707, 2, 708, 16, 85, 86, 87, 88, 89, 90, 91, 92, 93, 94, 95, 96, 709, 118, 119, 15, 120, 42, 45, 121, 122, 123, 124, 35, 922, 923, 924, 925, 926, 927, 928, 941, 942, 943, 944, 945, 946, 947, 948, 949, 950, 951, 952, 953, 954, 955, 956, 957, 958, 959] (by decide +kernel) (by decide +kernel)) (goodIn_sub (fun _ h => List.mem_append_left _ (List.mem_append_left _ (List.mem_append_right _ h))) (by decide +kernel))) (goodIn_sub (fun _ h => List.mem_append_left _ (List.mem_append_right _ h)) (by decide +kernel))
set_option maxRecDepth 20000 in
theorem gL_law_L_whyNot : GoodIn wsL_law (va_wsS RL 148 yL_whyNot wsL_whyNot) := goodIn_app (goodIn_of _ (by decide +kernel)) ggL_law_L_whyNot
set_option maxRecDepth 20000 in
theorem ggL_law_X3_clearest : GoodIn wsL_law wsX3_clearest := goodIn_r _ [786, 16, 787, 788, 789, 15, 790, 121, 122, 123, 124, 35, 791, 792, 793, 794, 36, 37, 922, 923, 924, 925, 926, 927, 928, 941, 942, 943, 944, 945, 946, 947, 948, 949, 950, 951, 952, 953, 954, 955, 956, 957, 958, 959] (by decide +kernel) (by decide +kernel)
set_option maxRecDepth 20000 in
theorem gL_law_X3_clearest : GoodIn wsL_law (wsV RL 157 RX3 yX3_clearest wsX3_clearest) := goodIn_app (goodIn_of _ (by decide +kernel)) ggL_law_X3_clearest
set_option maxRecDepth 20000 in
theorem ggL_law_X3_clearShare : GoodIn wsL_law wsX3_clearShare := goodIn_r _ [849, 16, 571, 572, 573, 15, 574, 575, 576, 577, 578, 121, 122, 123, 124, 35, 850, 851, 852, 853, 36, 922, 923, 924, 925, 926, 927, 928, 941, 942, 943, 944, 945, 946, 947, 948, 949, 950, 951, 952, 953, 954, 955, 956, 957, 958, 959] (by decide +kernel) (by decide +kernel)
set_option maxRecDepth 20000 in
theorem gL_law_X3_clearShare : GoodIn wsL_law (wsV RL 169 RX3 yX3_clearShare wsX3_clearShare) := goodIn_app (goodIn_of _ (by decide +kernel)) ggL_law_X3_clearShare
