theorem dX0_init_0 : decode cX0_init 0 = .ok (.aload_n 0, 1) := by decide +kernel
theorem dX0_init_1 : decode cX0_init 1 = .ok (.invokespecial 3, 3) := by decide +kernel
theorem dX0_init_4 : decode cX0_init 4 = .ok (.aload_n 0, 1) := by decide +kernel
theorem dX0_init_5 : decode cX0_init 5 = .ok (.bipush 60, 2) := by decide +kernel
theorem dX0_init_7 : decode cX0_init 7 = .ok (.newarray .char, 2) := by decide +kernel
theorem dX0_init_9 : decode cX0_init 9 = .ok (.putfield 11, 3) := by decide +kernel
theorem dX0_init_12 : decode cX0_init 12 = .ok (.aload_n 0, 1) := by decide +kernel
theorem dX0_init_13 : decode cX0_init 13 = .ok (.iconst 0, 1) := by decide +kernel
theorem dX0_init_14 : decode cX0_init 14 = .ok (.putfield 15, 3) := by decide +kernel
theorem dX0_init_17 : decode cX0_init 17 = .ok (.return_, 1) := by decide +kernel
theorem dX0_length_0 : decode cX0_length 0 = .ok (.aload_n 0, 1) := by decide +kernel
theorem dX0_length_1 : decode cX0_length 1 = .ok (.getfield 15, 3) := by decide +kernel
theorem dX0_length_4 : decode cX0_length 4 = .ok (.ireturn, 1) := by decide +kernel
theorem dX0_isFull_0 : decode cX0_isFull 0 = .ok (.aload_n 0, 1) := by decide +kernel
theorem dX0_isFull_1 : decode cX0_isFull 1 = .ok (.getfield 15, 3) := by decide +kernel
theorem dX0_isFull_4 : decode cX0_isFull 4 = .ok (.bipush 60, 2) := by decide +kernel
theorem dX0_isFull_6 : decode cX0_isFull 6 = .ok (.if_icmp .lt 7, 3) := by decide +kernel
theorem dX0_isFull_9 : decode cX0_isFull 9 = .ok (.iconst 1, 1) := by decide +kernel
theorem dX0_isFull_10 : decode cX0_isFull 10 = .ok (.goto 4, 3) := by decide +kernel
theorem dX0_isFull_13 : decode cX0_isFull 13 = .ok (.iconst 0, 1) := by decide +kernel
theorem dX0_isFull_14 : decode cX0_isFull 14 = .ok (.ireturn, 1) := by decide +kernel
set_option maxRecDepth 20000 in
theorem ggX0_take_X0_isFull : GoodIn wsX0_take wsX0_isFull := goodIn_r _ [7, 2, 8, 9] (by decide +kernel) (by decide +kernel)
set_option maxRecDepth 20000 in
theorem gX0_take_X0_isFull : GoodIn wsX0_take (wsV RX0 19 RX0 yX0_isFull wsX0_isFull) := goodIn_app (goodIn_of _ (by decide +kernel)) ggX0_take_X0_isFull
theorem dX0_take_0 : decode cX0_take 0 = .ok (.aload_n 0, 1) := by decide +kernel
theorem dX0_take_1 : decode cX0_take 1 = .ok (.invokevirtual 19, 3) := by decide +kernel
theorem dX0_take_4 : decode cX0_take 4 = .ok (.ifCond .ne 23, 3) := by decide +kernel
theorem dX0_take_7 : decode cX0_take 7 = .ok (.aload_n 0, 1) := by decide +kernel
theorem dX0_take_8 : decode cX0_take 8 = .ok (.getfield 11, 3) := by decide +kernel
theorem dX0_take_11 : decode cX0_take 11 = .ok (.aload_n 0, 1) := by decide +kernel
theorem dX0_take_12 : decode cX0_take 12 = .ok (.getfield 15, 3) := by decide +kernel
theorem dX0_take_15 : decode cX0_take 15 = .ok (.iload_n 1, 1) := by decide +kernel
theorem dX0_take_16 : decode cX0_take 16 = .ok (.castore, 1) := by decide +kernel
theorem dX0_take_17 : decode cX0_take 17 = .ok (.aload_n 0, 1) := by decide +kernel
theorem dX0_take_18 : decode cX0_take 18 = .ok (.dup, 1) := by decide +kernel
theorem dX0_take_19 : decode cX0_take 19 = .ok (.getfield 15, 3) := by decide +kernel
theorem dX0_take_22 : decode cX0_take 22 = .ok (.iconst 1, 1) := by decide +kernel
theorem dX0_take_23 : decode cX0_take 23 = .ok (.iadd, 1) := by decide +kernel
theorem dX0_take_24 : decode cX0_take 24 = .ok (.putfield 15, 3) := by decide +kernel
theorem dX0_take_27 : decode cX0_take 27 = .ok (.aload_n 0, 1) := by decide +kernel
theorem dX0_take_28 : decode cX0_take 28 = .ok (.getfield 15, 3) := by decide +kernel
theorem dX0_take_31 : decode cX0_take 31 = .ok (.ireturn, 1) := by decide +kernel
theorem dX0_drop_0 : decode cX0_drop 0 = .ok (.aload_n 0, 1) := by decide +kernel
theorem dX0_drop_1 : decode cX0_drop 1 = .ok (.getfield 15, 3) := by decide +kernel
theorem dX0_drop_4 : decode cX0_drop 4 = .ok (.istore_n 1, 1) := by decide +kernel
theorem dX0_drop_5 : decode cX0_drop 5 = .ok (.aload_n 0, 1) := by decide +kernel
theorem dX0_drop_6 : decode cX0_drop 6 = .ok (.iconst 0, 1) := by decide +kernel
theorem dX0_drop_7 : decode cX0_drop 7 = .ok (.putfield 15, 3) := by decide +kernel
theorem dX0_drop_10 : decode cX0_drop 10 = .ok (.iload_n 1, 1) := by decide +kernel
theorem dX0_drop_11 : decode cX0_drop 11 = .ok (.ireturn, 1) := by decide +kernel
theorem dX0_codeAt_0 : decode cX0_codeAt 0 = .ok (.iload_n 1, 1) := by decide +kernel
theorem dX0_codeAt_1 : decode cX0_codeAt 1 = .ok (.ifCond .lt 20, 3) := by decide +kernel
theorem dX0_codeAt_4 : decode cX0_codeAt 4 = .ok (.iload_n 1, 1) := by decide +kernel
theorem dX0_codeAt_5 : decode cX0_codeAt 5 = .ok (.aload_n 0, 1) := by decide +kernel
theorem dX0_codeAt_6 : decode cX0_codeAt 6 = .ok (.getfield 15, 3) := by decide +kernel
theorem dX0_codeAt_9 : decode cX0_codeAt 9 = .ok (.if_icmp .ge 12, 3) := by decide +kernel
theorem dX0_codeAt_12 : decode cX0_codeAt 12 = .ok (.aload_n 0, 1) := by decide +kernel
theorem dX0_codeAt_13 : decode cX0_codeAt 13 = .ok (.getfield 11, 3) := by decide +kernel
theorem dX0_codeAt_16 : decode cX0_codeAt 16 = .ok (.iload_n 1, 1) := by decide +kernel
theorem dX0_codeAt_17 : decode cX0_codeAt 17 = .ok (.caload, 1) := by decide +kernel
theorem dX0_codeAt_18 : decode cX0_codeAt 18 = .ok (.goto 4, 3) := by decide +kernel
theorem dX0_codeAt_21 : decode cX0_codeAt 21 = .ok (.iconst 0, 1) := by decide +kernel
theorem dX0_codeAt_22 : decode cX0_codeAt 22 = .ok (.ireturn, 1) := by decide +kernel
set_option maxRecDepth 20000 in
theorem ggX0_digitAt_X0_codeAt : GoodIn wsX0_digitAt wsX0_codeAt := goodIn_r _ [5, 6, 7, 8, 9] (by decide +kernel) (by decide +kernel)
set_option maxRecDepth 20000 in
theorem gX0_digitAt_X0_codeAt : GoodIn wsX0_digitAt (wsV RX0 23 RX0 yX0_codeAt wsX0_codeAt) := goodIn_app (goodIn_of _ (by decide +kernel)) ggX0_digitAt_X0_codeAt
theorem dX0_digitAt_0 : decode cX0_digitAt 0 = .ok (.aload_n 0, 1) := by decide +kernel
theorem dX0_digitAt_1 : decode cX0_digitAt 1 = .ok (.iload_n 1, 1) := by decide +kernel
theorem dX0_digitAt_2 : decode cX0_digitAt 2 = .ok (.invokevirtual 23, 3) := by decide +kernel
theorem dX0_digitAt_5 : decode cX0_digitAt 5 = .ok (.bipush 48, 2) := by decide +kernel
theorem dX0_digitAt_7 : decode cX0_digitAt 7 = .ok (.isub, 1) := by decide +kernel
theorem dX0_digitAt_8 : decode cX0_digitAt 8 = .ok (.ireturn, 1) := by decide +kernel
set_option maxRecDepth 20000 in
theorem ggX0_cylinderAt_X0_codeAt : GoodIn wsX0_cylinderAt wsX0_codeAt := goodIn_r _ [5, 6, 7, 8, 9] (by decide +kernel) (by decide +kernel)
set_option maxRecDepth 20000 in
theorem gX0_cylinderAt_X0_codeAt : GoodIn wsX0_cylinderAt (wsV RX0 23 RX0 yX0_codeAt wsX0_codeAt) := goodIn_app (goodIn_of _ (by decide +kernel)) ggX0_cylinderAt_X0_codeAt
theorem dX0_cylinderAt_0 : decode cX0_cylinderAt 0 = .ok (.aload_n 0, 1) := by decide +kernel
theorem dX0_cylinderAt_1 : decode cX0_cylinderAt 1 = .ok (.iload_n 1, 1) := by decide +kernel
theorem dX0_cylinderAt_2 : decode cX0_cylinderAt 2 = .ok (.invokevirtual 23, 3) := by decide +kernel
theorem dX0_cylinderAt_5 : decode cX0_cylinderAt 5 = .ok (.bipush 97, 2) := by decide +kernel
theorem dX0_cylinderAt_7 : decode cX0_cylinderAt 7 = .ok (.isub, 1) := by decide +kernel
theorem dX0_cylinderAt_8 : decode cX0_cylinderAt 8 = .ok (.ireturn, 1) := by decide +kernel
set_option maxRecDepth 20000 in
theorem ggX0_trackAt_X0_cylinderAt : GoodIn wsX0_trackAt wsX0_cylinderAt := goodIn_r _ [5, 6, 7, 8, 4, 9, 10, 11, 16, 17] (by decide +kernel) (by decide +kernel)
set_option maxRecDepth 20000 in
theorem gX0_trackAt_X0_cylinderAt : GoodIn wsX0_trackAt (wsV RX0 27 RX0 yX0_cylinderAt wsX0_cylinderAt) := goodIn_app (goodIn_of _ (by decide +kernel)) ggX0_trackAt_X0_cylinderAt
set_option maxRecDepth 20000 in
theorem ggX0_trackAt_X0_digitAt : GoodIn wsX0_trackAt wsX0_digitAt := goodIn_r _ [15, 6, 7, 8, 4, 9, 10, 11, 16, 17] (by decide +kernel) (by decide +kernel)
set_option maxRecDepth 20000 in
theorem gX0_trackAt_X0_digitAt : GoodIn wsX0_trackAt (wsV RX0 30 RX0 yX0_digitAt wsX0_digitAt) := goodIn_app (goodIn_of _ (by decide +kernel)) ggX0_trackAt_X0_digitAt
theorem dX0_trackAt_0 : decode cX0_trackAt 0 = .ok (.aload_n 0, 1) := by decide +kernel
theorem dX0_trackAt_1 : decode cX0_trackAt 1 = .ok (.iload_n 1, 1) := by decide +kernel
theorem dX0_trackAt_2 : decode cX0_trackAt 2 = .ok (.invokevirtual 27, 3) := by decide +kernel
theorem dX0_trackAt_5 : decode cX0_trackAt 5 = .ok (.iconst 4, 1) := by decide +kernel
theorem dX0_trackAt_6 : decode cX0_trackAt 6 = .ok (.imul, 1) := by decide +kernel
theorem dX0_trackAt_7 : decode cX0_trackAt 7 = .ok (.aload_n 0, 1) := by decide +kernel
theorem dX0_trackAt_8 : decode cX0_trackAt 8 = .ok (.iload_n 1, 1) := by decide +kernel
theorem dX0_trackAt_9 : decode cX0_trackAt 9 = .ok (.iconst 1, 1) := by decide +kernel
theorem dX0_trackAt_10 : decode cX0_trackAt 10 = .ok (.iadd, 1) := by decide +kernel
theorem dX0_trackAt_11 : decode cX0_trackAt 11 = .ok (.invokevirtual 30, 3) := by decide +kernel
theorem dX0_trackAt_14 : decode cX0_trackAt 14 = .ok (.iadd, 1) := by decide +kernel
theorem dX0_trackAt_15 : decode cX0_trackAt 15 = .ok (.ireturn, 1) := by decide +kernel
set_option maxRecDepth 20000 in
theorem ggX0_firstWrong_X0_rightCharacters : GoodIn wsX0_firstWrong wsX0_rightCharacters := goodIn_r _ [6, 7, 8, 9, 5, 10, 1, 11, 12, 13, 14, 15, 16, 17, 18, 19, 20, 21, 22, 23, 24, 25, 26, 27, 28, 29, 30, 31, 32, 33, 34, 35, 36, 37, 38, 39, 40, 41, 42, 43, 44, 45, 46, 47, 48, 49, 50, 51, 52, 53, 54, 55, 56, 57, 58, 59, 60, 61, 62, 63, 64, 65, 66, 75, 76] (by decide +kernel) (by decide +kernel)
set_option maxRecDepth 20000 in
theorem gX0_firstWrong_X0_rightCharacters : GoodIn wsX0_firstWrong (wsV RX0 33 RX0 yX0_rightCharacters wsX0_rightCharacters) := goodIn_app (goodIn_of _ (by decide +kernel)) ggX0_firstWrong_X0_rightCharacters
set_option maxRecDepth 20000 in
theorem ggX0_firstWrong_X0_isWholeOrder : GoodIn wsX0_firstWrong wsX0_isWholeOrder := goodIn_r _ [70, 71, 72, 73, 5, 74, 7, 8, 9, 10, 1, 11, 12, 13, 14, 15, 16, 17, 18, 19, 20, 21, 22, 23, 24, 25, 26, 2, 3, 4, 6, 27, 28, 29, 30, 31, 32, 33, 34, 35, 36, 37, 38, 39, 40, 41, 42, 43, 44, 45, 46, 47, 48, 49, 50, 51, 52, 53, 54, 55, 56, 57, 58, 59, 60, 61, 62, 63, 64, 65, 66, 75, 76] (by decide +kernel) (by decide +kernel)
set_option maxRecDepth 20000 in
theorem gX0_firstWrong_X0_isWholeOrder : GoodIn wsX0_firstWrong (wsV RX0 36 RX0 yX0_isWholeOrder wsX0_isWholeOrder) := goodIn_app (goodIn_of _ (by decide +kernel)) ggX0_firstWrong_X0_isWholeOrder
set_option maxRecDepth 20000 in
theorem ggX0_firstWrong_X0_codeAt : GoodIn wsX0_firstWrong wsX0_codeAt := goodIn_r _ [10, 1, 11, 75, 76] (by decide +kernel) (by decide +kernel)
set_option maxRecDepth 20000 in
theorem gX0_firstWrong_X0_codeAt : GoodIn wsX0_firstWrong (wsV RX0 23 RX0 yX0_codeAt wsX0_codeAt) := goodIn_app (goodIn_of _ (by decide +kernel)) ggX0_firstWrong_X0_codeAt
set_option maxRecDepth 20000 in
theorem ggX0_firstWrong_X0_formLengthAt : GoodIn wsX0_firstWrong wsX0_formLengthAt := goodIn_r _ [74, 7, 8, 9, 5, 10, 1, 11, 12, 13, 14, 15, 16, 17, 18, 19, 20, 21, 22, 23, 24, 25, 26, 75, 76] (by decide +kernel) (by decide +kernel)
set_option maxRecDepth 20000 in
theorem gX0_firstWrong_X0_formLengthAt : GoodIn wsX0_firstWrong (wsV RX0 40 RX0 yX0_formLengthAt wsX0_formLengthAt) := goodIn_app (goodIn_of _ (by decide +kernel)) ggX0_firstWrong_X0_formLengthAt
theorem dX0_firstWrong_0 : decode cX0_firstWrong 0 = .ok (.iconst 0, 1) := by decide +kernel
theorem dX0_firstWrong_1 : decode cX0_firstWrong 1 = .ok (.istore_n 1, 1) := by decide +kernel
theorem dX0_firstWrong_2 : decode cX0_firstWrong 2 = .ok (.iload_n 1, 1) := by decide +kernel
theorem dX0_firstWrong_3 : decode cX0_firstWrong 3 = .ok (.aload_n 0, 1) := by decide +kernel
theorem dX0_firstWrong_4 : decode cX0_firstWrong 4 = .ok (.getfield 15, 3) := by decide +kernel
theorem dX0_firstWrong_7 : decode cX0_firstWrong 7 = .ok (.if_icmp .ge 52, 3) := by decide +kernel
theorem dX0_firstWrong_10 : decode cX0_firstWrong 10 = .ok (.iload_n 1, 1) := by decide +kernel
theorem dX0_firstWrong_11 : decode cX0_firstWrong 11 = .ok (.aload_n 0, 1) := by decide +kernel
theorem dX0_firstWrong_12 : decode cX0_firstWrong 12 = .ok (.iload_n 1, 1) := by decide +kernel
theorem dX0_firstWrong_13 : decode cX0_firstWrong 13 = .ok (.invokevirtual 33, 3) := by decide +kernel
theorem dX0_firstWrong_16 : decode cX0_firstWrong 16 = .ok (.iadd, 1) := by decide +kernel
theorem dX0_firstWrong_17 : decode cX0_firstWrong 17 = .ok (.istore_n 2, 1) := by decide +kernel
theorem dX0_firstWrong_18 : decode cX0_firstWrong 18 = .ok (.aload_n 0, 1) := by decide +kernel
theorem dX0_firstWrong_19 : decode cX0_firstWrong 19 = .ok (.iload_n 1, 1) := by decide +kernel
theorem dX0_firstWrong_20 : decode cX0_firstWrong 20 = .ok (.invokevirtual 36, 3) := by decide +kernel
theorem dX0_firstWrong_23 : decode cX0_firstWrong 23 = .ok (.ifCond .eq 21, 3) := by decide +kernel
theorem dX0_firstWrong_26 : decode cX0_firstWrong 26 = .ok (.iload_n 2, 1) := by decide +kernel
theorem dX0_firstWrong_27 : decode cX0_firstWrong 27 = .ok (.aload_n 0, 1) := by decide +kernel
theorem dX0_firstWrong_28 : decode cX0_firstWrong 28 = .ok (.getfield 15, 3) := by decide +kernel
theorem dX0_firstWrong_31 : decode cX0_firstWrong 31 = .ok (.if_icmp .ge 15, 3) := by decide +kernel
theorem dX0_firstWrong_34 : decode cX0_firstWrong 34 = .ok (.aload_n 0, 1) := by decide +kernel
theorem dX0_firstWrong_35 : decode cX0_firstWrong 35 = .ok (.iload_n 2, 1) := by decide +kernel
theorem dX0_firstWrong_36 : decode cX0_firstWrong 36 = .ok (.invokevirtual 23, 3) := by decide +kernel
theorem dX0_firstWrong_39 : decode cX0_firstWrong 39 = .ok (.bipush 59, 2) := by decide +kernel
theorem dX0_firstWrong_41 : decode cX0_firstWrong 41 = .ok (.if_icmp .eq 5, 3) := by decide +kernel
theorem dX0_firstWrong_44 : decode cX0_firstWrong 44 = .ok (.iload_n 2, 1) := by decide +kernel
theorem dX0_firstWrong_45 : decode cX0_firstWrong 45 = .ok (.ireturn, 1) := by decide +kernel
theorem dX0_firstWrong_46 : decode cX0_firstWrong 46 = .ok (.iload_n 1, 1) := by decide +kernel
theorem dX0_firstWrong_47 : decode cX0_firstWrong 47 = .ok (.aload_n 0, 1) := by decide +kernel
theorem dX0_firstWrong_48 : decode cX0_firstWrong 48 = .ok (.iload_n 1, 1) := by decide +kernel
theorem dX0_firstWrong_49 : decode cX0_firstWrong 49 = .ok (.invokevirtual 40, 3) := by decide +kernel
theorem dX0_firstWrong_52 : decode cX0_firstWrong 52 = .ok (.iconst 1, 1) := by decide +kernel
theorem dX0_firstWrong_53 : decode cX0_firstWrong 53 = .ok (.iadd, 1) := by decide +kernel
theorem dX0_firstWrong_54 : decode cX0_firstWrong 54 = .ok (.iadd, 1) := by decide +kernel
theorem dX0_firstWrong_55 : decode cX0_firstWrong 55 = .ok (.istore_n 1, 1) := by decide +kernel
theorem dX0_firstWrong_56 : decode cX0_firstWrong 56 = .ok (.goto (-54), 3) := by decide +kernel
theorem dX0_firstWrong_59 : decode cX0_firstWrong 59 = .ok (.aload_n 0, 1) := by decide +kernel
theorem dX0_firstWrong_60 : decode cX0_firstWrong 60 = .ok (.getfield 15, 3) := by decide +kernel
theorem dX0_firstWrong_63 : decode cX0_firstWrong 63 = .ok (.ireturn, 1) := by decide +kernel
set_option maxRecDepth 20000 in
theorem ggX0_areWhole_X0_rightCharacters : GoodIn wsX0_areWhole wsX0_rightCharacters := goodIn_r _ [6, 7, 8, 9, 5, 10, 1, 11, 12, 13, 14, 15, 16, 17, 18, 19, 20, 21, 22, 23, 24, 25, 26, 27, 28, 29, 30, 31, 32, 33, 34, 35, 36, 37, 38, 39, 40, 41, 42, 43, 44, 45, 46, 47, 48, 49, 50, 51, 52, 53, 54, 55, 56, 57, 58, 59, 60, 61, 62, 63, 64, 65, 66, 75, 76] (by decide +kernel) (by decide +kernel)
set_option maxRecDepth 20000 in
theorem gX0_areWhole_X0_rightCharacters : GoodIn wsX0_areWhole (wsV RX0 33 RX0 yX0_rightCharacters wsX0_rightCharacters) := goodIn_app (goodIn_of _ (by decide +kernel)) ggX0_areWhole_X0_rightCharacters
set_option maxRecDepth 20000 in
theorem ggX0_areWhole_X0_isWholeOrder : GoodIn wsX0_areWhole wsX0_isWholeOrder := goodIn_r _ [70, 71, 72, 73, 5, 74, 7, 8, 9, 10, 1, 11, 12, 13, 14, 15, 16, 17, 18, 19, 20, 21, 22, 23, 24, 25, 26, 2, 3, 4, 6, 27, 28, 29, 30, 31, 32, 33, 34, 35, 36, 37, 38, 39, 40, 41, 42, 43, 44, 45, 46, 47, 48, 49, 50, 51, 52, 53, 54, 55, 56, 57, 58, 59, 60, 61, 62, 63, 64, 65, 66, 75, 76] (by decide +kernel) (by decide +kernel)
set_option maxRecDepth 20000 in
theorem gX0_areWhole_X0_isWholeOrder : GoodIn wsX0_areWhole (wsV RX0 36 RX0 yX0_isWholeOrder wsX0_isWholeOrder) := goodIn_app (goodIn_of _ (by decide +kernel)) ggX0_areWhole_X0_isWholeOrder
set_option maxRecDepth 20000 in
theorem ggX0_areWhole_X0_codeAt : GoodIn wsX0_areWhole wsX0_codeAt := goodIn_r _ [10, 1, 11, 75, 76] (by decide +kernel) (by decide +kernel)
set_option maxRecDepth 20000 in
theorem gX0_areWhole_X0_codeAt : GoodIn wsX0_areWhole (wsV RX0 23 RX0 yX0_codeAt wsX0_codeAt) := goodIn_app (goodIn_of _ (by decide +kernel)) ggX0_areWhole_X0_codeAt
set_option maxRecDepth 20000 in
theorem ggX0_areWhole_X0_formLengthAt : GoodIn wsX0_areWhole wsX0_formLengthAt := goodIn_r _ [74, 7, 8, 9, 5, 10, 1, 11, 12, 13, 14, 15, 16, 17, 18, 19, 20, 21, 22, 23, 24, 25, 26, 75, 76] (by decide +kernel) (by decide +kernel)
set_option maxRecDepth 20000 in
theorem gX0_areWhole_X0_formLengthAt : GoodIn wsX0_areWhole (wsV RX0 40 RX0 yX0_formLengthAt wsX0_formLengthAt) := goodIn_app (goodIn_of _ (by decide +kernel)) ggX0_areWhole_X0_formLengthAt
theorem dX0_areWhole_0 : decode cX0_areWhole 0 = .ok (.iconst 0, 1) := by decide +kernel
theorem dX0_areWhole_1 : decode cX0_areWhole 1 = .ok (.istore_n 1, 1) := by decide +kernel
theorem dX0_areWhole_2 : decode cX0_areWhole 2 = .ok (.iload_n 1, 1) := by decide +kernel
theorem dX0_areWhole_3 : decode cX0_areWhole 3 = .ok (.aload_n 0, 1) := by decide +kernel
theorem dX0_areWhole_4 : decode cX0_areWhole 4 = .ok (.getfield 15, 3) := by decide +kernel
theorem dX0_areWhole_7 : decode cX0_areWhole 7 = .ok (.if_icmp .ge 62, 3) := by decide +kernel
theorem dX0_areWhole_10 : decode cX0_areWhole 10 = .ok (.iload_n 1, 1) := by decide +kernel
theorem dX0_areWhole_11 : decode cX0_areWhole 11 = .ok (.aload_n 0, 1) := by decide +kernel
theorem dX0_areWhole_12 : decode cX0_areWhole 12 = .ok (.iload_n 1, 1) := by decide +kernel
theorem dX0_areWhole_13 : decode cX0_areWhole 13 = .ok (.invokevirtual 33, 3) := by decide +kernel
theorem dX0_areWhole_16 : decode cX0_areWhole 16 = .ok (.iadd, 1) := by decide +kernel
theorem dX0_areWhole_17 : decode cX0_areWhole 17 = .ok (.istore_n 2, 1) := by decide +kernel
theorem dX0_areWhole_18 : decode cX0_areWhole 18 = .ok (.aload_n 0, 1) := by decide +kernel
theorem dX0_areWhole_19 : decode cX0_areWhole 19 = .ok (.iload_n 1, 1) := by decide +kernel
theorem dX0_areWhole_20 : decode cX0_areWhole 20 = .ok (.invokevirtual 36, 3) := by decide +kernel
theorem dX0_areWhole_23 : decode cX0_areWhole 23 = .ok (.ifCond .eq 21, 3) := by decide +kernel
theorem dX0_areWhole_26 : decode cX0_areWhole 26 = .ok (.iload_n 2, 1) := by decide +kernel
theorem dX0_areWhole_27 : decode cX0_areWhole 27 = .ok (.aload_n 0, 1) := by decide +kernel
theorem dX0_areWhole_28 : decode cX0_areWhole 28 = .ok (.getfield 15, 3) := by decide +kernel
theorem dX0_areWhole_31 : decode cX0_areWhole 31 = .ok (.if_icmp .ge 15, 3) := by decide +kernel
theorem dX0_areWhole_34 : decode cX0_areWhole 34 = .ok (.aload_n 0, 1) := by decide +kernel
theorem dX0_areWhole_35 : decode cX0_areWhole 35 = .ok (.iload_n 2, 1) := by decide +kernel
theorem dX0_areWhole_36 : decode cX0_areWhole 36 = .ok (.invokevirtual 23, 3) := by decide +kernel
theorem dX0_areWhole_39 : decode cX0_areWhole 39 = .ok (.bipush 59, 2) := by decide +kernel
theorem dX0_areWhole_41 : decode cX0_areWhole 41 = .ok (.if_icmp .eq 5, 3) := by decide +kernel
theorem dX0_areWhole_44 : decode cX0_areWhole 44 = .ok (.iconst 0, 1) := by decide +kernel
theorem dX0_areWhole_45 : decode cX0_areWhole 45 = .ok (.ireturn, 1) := by decide +kernel
theorem dX0_areWhole_46 : decode cX0_areWhole 46 = .ok (.iload_n 2, 1) := by decide +kernel
theorem dX0_areWhole_47 : decode cX0_areWhole 47 = .ok (.aload_n 0, 1) := by decide +kernel
theorem dX0_areWhole_48 : decode cX0_areWhole 48 = .ok (.getfield 15, 3) := by decide +kernel
theorem dX0_areWhole_51 : decode cX0_areWhole 51 = .ok (.if_icmp .ne 5, 3) := by decide +kernel
theorem dX0_areWhole_54 : decode cX0_areWhole 54 = .ok (.iconst 1, 1) := by decide +kernel
theorem dX0_areWhole_55 : decode cX0_areWhole 55 = .ok (.ireturn, 1) := by decide +kernel
theorem dX0_areWhole_56 : decode cX0_areWhole 56 = .ok (.iload_n 1, 1) := by decide +kernel
theorem dX0_areWhole_57 : decode cX0_areWhole 57 = .ok (.aload_n 0, 1) := by decide +kernel
theorem dX0_areWhole_58 : decode cX0_areWhole 58 = .ok (.iload_n 1, 1) := by decide +kernel
theorem dX0_areWhole_59 : decode cX0_areWhole 59 = .ok (.invokevirtual 40, 3) := by decide +kernel
theorem dX0_areWhole_62 : decode cX0_areWhole 62 = .ok (.iconst 1, 1) := by decide +kernel
theorem dX0_areWhole_63 : decode cX0_areWhole 63 = .ok (.iadd, 1) := by decide +kernel
theorem dX0_areWhole_64 : decode cX0_areWhole 64 = .ok (.iadd, 1) := by decide +kernel
theorem dX0_areWhole_65 : decode cX0_areWhole 65 = .ok (.istore_n 1, 1) := by decide +kernel
theorem dX0_areWhole_66 : decode cX0_areWhole 66 = .ok (.goto (-64), 3) := by decide +kernel
theorem dX0_areWhole_69 : decode cX0_areWhole 69 = .ok (.iconst 0, 1) := by decide +kernel
theorem dX0_areWhole_70 : decode cX0_areWhole 70 = .ok (.ireturn, 1) := by decide +kernel
set_option maxRecDepth 20000 in
theorem ggX0_formLengthAt_X0_codeAt : GoodIn wsX0_formLengthAt wsX0_codeAt := goodIn_r _ [5, 6, 7, 23, 24] (by decide +kernel) (by decide +kernel)
set_option maxRecDepth 20000 in
theorem gX0_formLengthAt_X0_codeAt : GoodIn wsX0_formLengthAt (wsV RX0 23 RX0 yX0_codeAt wsX0_codeAt) := goodIn_app (goodIn_of _ (by decide +kernel)) ggX0_formLengthAt_X0_codeAt
set_option maxRecDepth 20000 in
theorem ggX0_formLengthAt_X0_formOf : GoodIn wsX0_formLengthAt wsX0_formOf := goodIn_r _ [10] (by decide +kernel) (by decide +kernel)
set_option maxRecDepth 20000 in
theorem gX0_formLengthAt_X0_formOf : GoodIn wsX0_formLengthAt (va_wsS RX0 43 yX0_formOf wsX0_formOf) := goodIn_app (goodIn_of _ (by decide +kernel)) ggX0_formLengthAt_X0_formOf
set_option maxRecDepth 20000 in
theorem ggX0_formLengthAt_J0_length_8abf5 : GoodIn wsX0_formLengthAt wsJ0_length_8abf5 := goodIn_r _ [15, 16, 17, 18, 19, 14, 20, 21, 22] (by decide +kernel) (by decide +kernel)
set_option maxRecDepth 20000 in
theorem gX0_formLengthAt_J0_length_8abf5 : GoodIn wsX0_formLengthAt (wsV RX0 47 RJ0 yJ0_length_8abf5 wsJ0_length_8abf5) := goodIn_app (goodIn_of _ (by decide +kernel)) ggX0_formLengthAt_J0_length_8abf5
theorem dX0_formLengthAt_0 : decode cX0_formLengthAt 0 = .ok (.aload_n 0, 1) := by decide +kernel
theorem dX0_formLengthAt_1 : decode cX0_formLengthAt 1 = .ok (.iload_n 1, 1) := by decide +kernel
theorem dX0_formLengthAt_2 : decode cX0_formLengthAt 2 = .ok (.invokevirtual 23, 3) := by decide +kernel
theorem dX0_formLengthAt_5 : decode cX0_formLengthAt 5 = .ok (.invokestatic 43, 3) := by decide +kernel
theorem dX0_formLengthAt_8 : decode cX0_formLengthAt 8 = .ok (.invokevirtual 47, 3) := by decide +kernel
theorem dX0_formLengthAt_11 : decode cX0_formLengthAt 11 = .ok (.ireturn, 1) := by decide +kernel
set_option maxRecDepth 20000 in
theorem ggX0_isWholeOrder_X0_formLengthAt : GoodIn wsX0_isWholeOrder wsX0_formLengthAt := goodIn_r _ [5, 6, 7, 8, 4, 9, 10, 11, 12, 13, 14, 15, 16, 17, 18, 19, 20, 21, 22, 23, 24, 25, 26, 71, 72] (by decide +kernel) (by decide +kernel)
set_option maxRecDepth 20000 in
theorem gX0_isWholeOrder_X0_formLengthAt : GoodIn wsX0_isWholeOrder (wsV RX0 40 RX0 yX0_formLengthAt wsX0_formLengthAt) := goodIn_app (goodIn_of _ (by decide +kernel)) ggX0_isWholeOrder_X0_formLengthAt
set_option maxRecDepth 20000 in
theorem ggX0_isWholeOrder_X0_rightCharacters : GoodIn wsX0_isWholeOrder wsX0_rightCharacters := goodIn_r _ [30, 6, 7, 8, 4, 9, 10, 11, 12, 13, 14, 15, 16, 17, 18, 19, 20, 21, 22, 23, 24, 25, 26, 31, 32, 33, 34, 35, 36, 37, 38, 39, 40, 41, 42, 43, 44, 45, 46, 47, 48, 49, 50, 51, 52, 53, 54, 55, 56, 57, 58, 59, 60, 61, 62, 63, 64, 65, 66, 67, 68, 69, 70, 71, 72] (by decide +kernel) (by decide +kernel)
set_option maxRecDepth 20000 in
theorem gX0_isWholeOrder_X0_rightCharacters : GoodIn wsX0_isWholeOrder (wsV RX0 33 RX0 yX0_rightCharacters wsX0_rightCharacters) := goodIn_app (goodIn_of _ (by decide +kernel)) ggX0_isWholeOrder_X0_rightCharacters
theorem dX0_isWholeOrder_0 : decode cX0_isWholeOrder 0 = .ok (.aload_n 0, 1) := by decide +kernel
theorem dX0_isWholeOrder_1 : decode cX0_isWholeOrder 1 = .ok (.iload_n 1, 1) := by decide +kernel
theorem dX0_isWholeOrder_2 : decode cX0_isWholeOrder 2 = .ok (.invokevirtual 40, 3) := by decide +kernel
theorem dX0_isWholeOrder_5 : decode cX0_isWholeOrder 5 = .ok (.istore_n 2, 1) := by decide +kernel
theorem dX0_isWholeOrder_6 : decode cX0_isWholeOrder 6 = .ok (.iload_n 2, 1) := by decide +kernel
theorem dX0_isWholeOrder_7 : decode cX0_isWholeOrder 7 = .ok (.ifCond .le 16, 3) := by decide +kernel
theorem dX0_isWholeOrder_10 : decode cX0_isWholeOrder 10 = .ok (.aload_n 0, 1) := by decide +kernel
theorem dX0_isWholeOrder_11 : decode cX0_isWholeOrder 11 = .ok (.iload_n 1, 1) := by decide +kernel
theorem dX0_isWholeOrder_12 : decode cX0_isWholeOrder 12 = .ok (.invokevirtual 33, 3) := by decide +kernel
theorem dX0_isWholeOrder_15 : decode cX0_isWholeOrder 15 = .ok (.iload_n 2, 1) := by decide +kernel
theorem dX0_isWholeOrder_16 : decode cX0_isWholeOrder 16 = .ok (.if_icmp .ne 7, 3) := by decide +kernel
theorem dX0_isWholeOrder_19 : decode cX0_isWholeOrder 19 = .ok (.iconst 1, 1) := by decide +kernel
theorem dX0_isWholeOrder_20 : decode cX0_isWholeOrder 20 = .ok (.goto 4, 3) := by decide +kernel
theorem dX0_isWholeOrder_23 : decode cX0_isWholeOrder 23 = .ok (.iconst 0, 1) := by decide +kernel
theorem dX0_isWholeOrder_24 : decode cX0_isWholeOrder 24 = .ok (.ireturn, 1) := by decide +kernel
set_option maxRecDepth 20000 in
theorem ggX0_rightCharacters_X0_codeAt : GoodIn wsX0_rightCharacters wsX0_codeAt := goodIn_r _ [5, 6, 7, 63, 64] (by decide +kernel) (by decide +kernel)
set_option maxRecDepth 20000 in
theorem gX0_rightCharacters_X0_codeAt : GoodIn wsX0_rightCharacters (wsV RX0 23 RX0 yX0_codeAt wsX0_codeAt) := goodIn_app (goodIn_of _ (by decide +kernel)) ggX0_rightCharacters_X0_codeAt
set_option maxRecDepth 20000 in
theorem ggX0_rightCharacters_X0_formOf : GoodIn wsX0_rightCharacters wsX0_formOf := goodIn_r _ [10] (by decide +kernel) (by decide +kernel)
set_option maxRecDepth 20000 in
theorem gX0_rightCharacters_X0_formOf : GoodIn wsX0_rightCharacters (va_wsS RX0 43 yX0_formOf wsX0_formOf) := goodIn_app (goodIn_of _ (by decide +kernel)) ggX0_rightCharacters_X0_formOf
set_option maxRecDepth 20000 in
theorem ggX0_rightCharacters_J0_length_8abf5 : GoodIn wsX0_rightCharacters wsJ0_length_8abf5 := goodIn_r _ [15, 16, 17, 18, 19, 14, 20, 21, 22] (by decide +kernel) (by decide +kernel)
set_option maxRecDepth 20000 in
theorem gX0_rightCharacters_J0_length_8abf5 : GoodIn wsX0_rightCharacters (wsV RX0 47 RJ0 yJ0_length_8abf5 wsJ0_length_8abf5) := goodIn_app (goodIn_of _ (by decide +kernel)) ggX0_rightCharacters_J0_length_8abf5
set_option maxRecDepth 20000 in
theorem ggX0_rightCharacters_J0_charAt_5068e : GoodIn wsX0_rightCharacters wsJ0_charAt_5068e := goodIn_r _ [26, 16, 27, 28, 29, 14, 30, 21, 22, 31, 32, 33, 34, 35, 36, 37, 38, 39, 40, 41, 42, 43, 44, 45, 46, 47, 48, 49, 50, 51, 52, 53, 54, 55, 56, 57, 58, 59] (by decide +kernel) (by decide +kernel)
set_option maxRecDepth 20000 in
theorem gX0_rightCharacters_J0_charAt_5068e : GoodIn wsX0_rightCharacters (wsV RX0 52 RJ0 yJ0_charAt_5068e wsJ0_charAt_5068e) := goodIn_app (goodIn_of _ (by decide +kernel)) ggX0_rightCharacters_J0_charAt_5068e
set_option maxRecDepth 20000 in
theorem ggX0_rightCharacters_X0_fits : GoodIn wsX0_rightCharacters wsX0_fits := goodIn_r _ [62] (by decide +kernel) (by decide +kernel)
set_option maxRecDepth 20000 in
theorem gX0_rightCharacters_X0_fits : GoodIn wsX0_rightCharacters (va_wsS RX0 56 yX0_fits wsX0_fits) := goodIn_app (goodIn_of _ (by decide +kernel)) ggX0_rightCharacters_X0_fits
theorem dX0_rightCharacters_0 : decode cX0_rightCharacters 0 = .ok (.aload_n 0, 1) := by decide +kernel
theorem dX0_rightCharacters_1 : decode cX0_rightCharacters 1 = .ok (.iload_n 1, 1) := by decide +kernel
theorem dX0_rightCharacters_2 : decode cX0_rightCharacters 2 = .ok (.invokevirtual 23, 3) := by decide +kernel
theorem dX0_rightCharacters_5 : decode cX0_rightCharacters 5 = .ok (.invokestatic 43, 3) := by decide +kernel
theorem dX0_rightCharacters_8 : decode cX0_rightCharacters 8 = .ok (.astore_n 2, 1) := by decide +kernel
theorem dX0_rightCharacters_9 : decode cX0_rightCharacters 9 = .ok (.iconst 0, 1) := by decide +kernel
theorem dX0_rightCharacters_10 : decode cX0_rightCharacters 10 = .ok (.istore_n 3, 1) := by decide +kernel
theorem dX0_rightCharacters_11 : decode cX0_rightCharacters 11 = .ok (.iload_n 3, 1) := by decide +kernel
theorem dX0_rightCharacters_12 : decode cX0_rightCharacters 12 = .ok (.aload_n 2, 1) := by decide +kernel
theorem dX0_rightCharacters_13 : decode cX0_rightCharacters 13 = .ok (.invokevirtual 47, 3) := by decide +kernel
theorem dX0_rightCharacters_16 : decode cX0_rightCharacters 16 = .ok (.if_icmp .ge 27, 3) := by decide +kernel
theorem dX0_rightCharacters_19 : decode cX0_rightCharacters 19 = .ok (.aload_n 0, 1) := by decide +kernel
theorem dX0_rightCharacters_20 : decode cX0_rightCharacters 20 = .ok (.iload_n 1, 1) := by decide +kernel
theorem dX0_rightCharacters_21 : decode cX0_rightCharacters 21 = .ok (.iload_n 3, 1) := by decide +kernel
theorem dX0_rightCharacters_22 : decode cX0_rightCharacters 22 = .ok (.iadd, 1) := by decide +kernel
theorem dX0_rightCharacters_23 : decode cX0_rightCharacters 23 = .ok (.invokevirtual 23, 3) := by decide +kernel
theorem dX0_rightCharacters_26 : decode cX0_rightCharacters 26 = .ok (.aload_n 2, 1) := by decide +kernel
theorem dX0_rightCharacters_27 : decode cX0_rightCharacters 27 = .ok (.iload_n 3, 1) := by decide +kernel
theorem dX0_rightCharacters_28 : decode cX0_rightCharacters 28 = .ok (.invokevirtual 52, 3) := by decide +kernel
theorem dX0_rightCharacters_31 : decode cX0_rightCharacters 31 = .ok (.invokestatic 56, 3) := by decide +kernel
theorem dX0_rightCharacters_34 : decode cX0_rightCharacters 34 = .ok (.ifCond .eq 9, 3) := by decide +kernel
theorem dX0_rightCharacters_37 : decode cX0_rightCharacters 37 = .ok (.iinc 3 1, 3) := by decide +kernel
theorem dX0_rightCharacters_40 : decode cX0_rightCharacters 40 = .ok (.goto (-29), 3) := by decide +kernel
theorem dX0_rightCharacters_43 : decode cX0_rightCharacters 43 = .ok (.iload_n 3, 1) := by decide +kernel
theorem dX0_rightCharacters_44 : decode cX0_rightCharacters 44 = .ok (.ireturn, 1) := by decide +kernel
theorem dX0_formOf_0 : decode cX0_formOf 0 = .ok (.iload_n 0, 1) := by decide +kernel
theorem dX0_formOf_1 : decode cX0_formOf 1 = .ok (.lookupswitch 66 #[(99, 54), (112, 57), (115, 51), (119, 63), (120, 60)], 51) := by decide +kernel
theorem dX0_formOf_52 : decode cX0_formOf 52 = .ok (.ldc 60, 2) := by decide +kernel
theorem dX0_formOf_54 : decode cX0_formOf 54 = .ok (.areturn, 1) := by decide +kernel
theorem dX0_formOf_55 : decode cX0_formOf 55 = .ok (.ldc 62, 2) := by decide +kernel
theorem dX0_formOf_57 : decode cX0_formOf 57 = .ok (.areturn, 1) := by decide +kernel
theorem dX0_formOf_58 : decode cX0_formOf 58 = .ok (.ldc 64, 2) := by decide +kernel
theorem dX0_formOf_60 : decode cX0_formOf 60 = .ok (.areturn, 1) := by decide +kernel
theorem dX0_formOf_61 : decode cX0_formOf 61 = .ok (.ldc 66, 2) := by decide +kernel
theorem dX0_formOf_63 : decode cX0_formOf 63 = .ok (.areturn, 1) := by decide +kernel
theorem dX0_formOf_64 : decode cX0_formOf 64 = .ok (.ldc 68, 2) := by decide +kernel
theorem dX0_formOf_66 : decode cX0_formOf 66 = .ok (.areturn, 1) := by decide +kernel
theorem dX0_formOf_67 : decode cX0_formOf 67 = .ok (.ldc 70, 2) := by decide +kernel
theorem dX0_formOf_69 : decode cX0_formOf 69 = .ok (.areturn, 1) := by decide +kernel
theorem dX0_fits_0 : decode cX0_fits 0 = .ok (.iload_n 1, 1) := by decide +kernel
theorem dX0_fits_1 : decode cX0_fits 1 = .ok (.lookupswitch 115 #[(65, 43), (68, 61), (78, 79), (86, 97)], 43) := by decide +kernel
theorem dX0_fits_44 : decode cX0_fits 44 = .ok (.iload_n 0, 1) := by decide +kernel
theorem dX0_fits_45 : decode cX0_fits 45 = .ok (.bipush 97, 2) := by decide +kernel
theorem dX0_fits_47 : decode cX0_fits 47 = .ok (.if_icmp .lt 13, 3) := by decide +kernel
theorem dX0_fits_50 : decode cX0_fits 50 = .ok (.iload_n 0, 1) := by decide +kernel
theorem dX0_fits_51 : decode cX0_fits 51 = .ok (.bipush 102, 2) := by decide +kernel
theorem dX0_fits_53 : decode cX0_fits 53 = .ok (.if_icmp .gt 7, 3) := by decide +kernel
theorem dX0_fits_56 : decode cX0_fits 56 = .ok (.iconst 1, 1) := by decide +kernel
theorem dX0_fits_57 : decode cX0_fits 57 = .ok (.goto 4, 3) := by decide +kernel
theorem dX0_fits_60 : decode cX0_fits 60 = .ok (.iconst 0, 1) := by decide +kernel
theorem dX0_fits_61 : decode cX0_fits 61 = .ok (.ireturn, 1) := by decide +kernel
theorem dX0_fits_62 : decode cX0_fits 62 = .ok (.iload_n 0, 1) := by decide +kernel
theorem dX0_fits_63 : decode cX0_fits 63 = .ok (.bipush 48, 2) := by decide +kernel
theorem dX0_fits_65 : decode cX0_fits 65 = .ok (.if_icmp .lt 13, 3) := by decide +kernel
theorem dX0_fits_68 : decode cX0_fits 68 = .ok (.iload_n 0, 1) := by decide +kernel
theorem dX0_fits_69 : decode cX0_fits 69 = .ok (.bipush 51, 2) := by decide +kernel
theorem dX0_fits_71 : decode cX0_fits 71 = .ok (.if_icmp .gt 7, 3) := by decide +kernel
theorem dX0_fits_74 : decode cX0_fits 74 = .ok (.iconst 1, 1) := by decide +kernel
theorem dX0_fits_75 : decode cX0_fits 75 = .ok (.goto 4, 3) := by decide +kernel
theorem dX0_fits_78 : decode cX0_fits 78 = .ok (.iconst 0, 1) := by decide +kernel
theorem dX0_fits_79 : decode cX0_fits 79 = .ok (.ireturn, 1) := by decide +kernel
theorem dX0_fits_80 : decode cX0_fits 80 = .ok (.iload_n 0, 1) := by decide +kernel
theorem dX0_fits_81 : decode cX0_fits 81 = .ok (.bipush 49, 2) := by decide +kernel
theorem dX0_fits_83 : decode cX0_fits 83 = .ok (.if_icmp .lt 13, 3) := by decide +kernel
theorem dX0_fits_86 : decode cX0_fits 86 = .ok (.iload_n 0, 1) := by decide +kernel
theorem dX0_fits_87 : decode cX0_fits 87 = .ok (.bipush 57, 2) := by decide +kernel
theorem dX0_fits_89 : decode cX0_fits 89 = .ok (.if_icmp .gt 7, 3) := by decide +kernel
theorem dX0_fits_92 : decode cX0_fits 92 = .ok (.iconst 1, 1) := by decide +kernel
theorem dX0_fits_93 : decode cX0_fits 93 = .ok (.goto 4, 3) := by decide +kernel
theorem dX0_fits_96 : decode cX0_fits 96 = .ok (.iconst 0, 1) := by decide +kernel
theorem dX0_fits_97 : decode cX0_fits 97 = .ok (.ireturn, 1) := by decide +kernel
theorem dX0_fits_98 : decode cX0_fits 98 = .ok (.iload_n 0, 1) := by decide +kernel
theorem dX0_fits_99 : decode cX0_fits 99 = .ok (.bipush 49, 2) := by decide +kernel
theorem dX0_fits_101 : decode cX0_fits 101 = .ok (.if_icmp .lt 13, 3) := by decide +kernel
theorem dX0_fits_104 : decode cX0_fits 104 = .ok (.iload_n 0, 1) := by decide +kernel
theorem dX0_fits_105 : decode cX0_fits 105 = .ok (.bipush 51, 2) := by decide +kernel
theorem dX0_fits_107 : decode cX0_fits 107 = .ok (.if_icmp .gt 7, 3) := by decide +kernel
theorem dX0_fits_110 : decode cX0_fits 110 = .ok (.iconst 1, 1) := by decide +kernel
theorem dX0_fits_111 : decode cX0_fits 111 = .ok (.goto 4, 3) := by decide +kernel
theorem dX0_fits_114 : decode cX0_fits 114 = .ok (.iconst 0, 1) := by decide +kernel
theorem dX0_fits_115 : decode cX0_fits 115 = .ok (.ireturn, 1) := by decide +kernel
theorem dX0_fits_116 : decode cX0_fits 116 = .ok (.iload_n 0, 1) := by decide +kernel
theorem dX0_fits_117 : decode cX0_fits 117 = .ok (.iload_n 1, 1) := by decide +kernel
theorem dX0_fits_118 : decode cX0_fits 118 = .ok (.if_icmp .ne 7, 3) := by decide +kernel
theorem dX0_fits_121 : decode cX0_fits 121 = .ok (.iconst 1, 1) := by decide +kernel
theorem dX0_fits_122 : decode cX0_fits 122 = .ok (.goto 4, 3) := by decide +kernel
theorem dX0_fits_125 : decode cX0_fits 125 = .ok (.iconst 0, 1) := by decide +kernel
theorem dX0_fits_126 : decode cX0_fits 126 = .ok (.ireturn, 1) := by decide +kernel
