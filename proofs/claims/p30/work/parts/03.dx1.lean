theorem dX1_init_0 : decode cX1_init 0 = .ok (.aload_n 0, 1) := by decide +kernel
theorem dX1_init_1 : decode cX1_init 1 = .ok (.invokespecial 3, 3) := by decide +kernel
theorem dX1_init_4 : decode cX1_init 4 = .ok (.aload_n 0, 1) := by decide +kernel
theorem dX1_init_5 : decode cX1_init 5 = .ok (.bipush 10, 2) := by decide +kernel
theorem dX1_init_7 : decode cX1_init 7 = .ok (.bipush 101, 2) := by decide +kernel
theorem dX1_init_9 : decode cX1_init 9 = .ok (.multianewarray 9 2, 4) := by decide +kernel
theorem dX1_init_13 : decode cX1_init 13 = .ok (.putfield 11, 3) := by decide +kernel
theorem dX1_init_16 : decode cX1_init 16 = .ok (.aload_n 0, 1) := by decide +kernel
theorem dX1_init_17 : decode cX1_init 17 = .ok (.bipush 10, 2) := by decide +kernel
theorem dX1_init_19 : decode cX1_init 19 = .ok (.bipush 101, 2) := by decide +kernel
theorem dX1_init_21 : decode cX1_init 21 = .ok (.multianewarray 9 2, 4) := by decide +kernel
theorem dX1_init_25 : decode cX1_init 25 = .ok (.putfield 16, 3) := by decide +kernel
theorem dX1_init_28 : decode cX1_init 28 = .ok (.return_, 1) := by decide +kernel
set_option maxRecDepth 20000 in
theorem ggX1_clearestAfter_X1_forget : GoodIn wsX1_clearestAfter wsX1_forget := goodIn_r _ [6] (by decide +kernel) (by decide +kernel)
set_option maxRecDepth 20000 in
theorem gX1_clearestAfter_X1_forget : GoodIn wsX1_clearestAfter (va_wsS RX1 19 yX1_forget wsX1_forget) := goodIn_app (goodIn_of _ (by decide +kernel)) ggX1_clearestAfter_X1_forget
set_option maxRecDepth 20000 in
theorem ggX1_clearestAfter_X3_sharpnessAfter : GoodIn wsX1_clearestAfter wsX3_sharpnessAfter := goodIn_r _ [9, 10, 11, 12, 13] (by decide +kernel) (by decide +kernel)
set_option maxRecDepth 20000 in
theorem gX1_clearestAfter_X3_sharpnessAfter_n23 : GoodIn wsX1_clearestAfter (wsX3_sharpnessAfter) := ggX1_clearestAfter_X3_sharpnessAfter
set_option maxRecDepth 20000 in
theorem ggX1_clearestAfter_X1_stepOn : GoodIn wsX1_clearestAfter wsX1_stepOn := goodIn_r _ [17, 1, 2, 18, 11, 12, 13, 19, 8, 20, 10, 21, 22, 23, 7, 9, 24, 25, 26, 27, 28, 33, 34] (by decide +kernel) (by decide +kernel)
set_option maxRecDepth 20000 in
theorem gX1_clearestAfter_X1_stepOn : GoodIn wsX1_clearestAfter (wsV RX1 27 RX1 yX1_stepOn wsX1_stepOn) := goodIn_app (goodIn_of _ (by decide +kernel)) ggX1_clearestAfter_X1_stepOn
set_option maxRecDepth 20000 in
theorem ggX1_clearestAfter_X1_clearestOf : GoodIn wsX1_clearestAfter wsX1_clearestOf := goodIn_r _ [32, 1, 18, 11, 12, 13, 33, 34] (by decide +kernel) (by decide +kernel)
set_option maxRecDepth 20000 in
theorem gX1_clearestAfter_X1_clearestOf : GoodIn wsX1_clearestAfter (wsV RX1 31 RX1 yX1_clearestOf wsX1_clearestOf) := goodIn_app (goodIn_of _ (by decide +kernel)) ggX1_clearestAfter_X1_clearestOf
theorem dX1_clearestAfter_0 : decode cX1_clearestAfter 0 = .ok (.iload 4, 2) := by decide +kernel
theorem dX1_clearestAfter_2 : decode cX1_clearestAfter 2 = .ok (.istore 5, 2) := by decide +kernel
theorem dX1_clearestAfter_4 : decode cX1_clearestAfter 4 = .ok (.aload_n 0, 1) := by decide +kernel
theorem dX1_clearestAfter_5 : decode cX1_clearestAfter 5 = .ok (.getfield 11, 3) := by decide +kernel
theorem dX1_clearestAfter_8 : decode cX1_clearestAfter 8 = .ok (.iload 5, 2) := by decide +kernel
theorem dX1_clearestAfter_10 : decode cX1_clearestAfter 10 = .ok (.iload 4, 2) := by decide +kernel
theorem dX1_clearestAfter_12 : decode cX1_clearestAfter 12 = .ok (.invokestatic 19, 3) := by decide +kernel
theorem dX1_clearestAfter_15 : decode cX1_clearestAfter 15 = .ok (.aload_n 0, 1) := by decide +kernel
theorem dX1_clearestAfter_16 : decode cX1_clearestAfter 16 = .ok (.getfield 11, 3) := by decide +kernel
theorem dX1_clearestAfter_19 : decode cX1_clearestAfter 19 = .ok (.iload_n 2, 1) := by decide +kernel
theorem dX1_clearestAfter_20 : decode cX1_clearestAfter 20 = .ok (.aaload, 1) := by decide +kernel
theorem dX1_clearestAfter_21 : decode cX1_clearestAfter 21 = .ok (.iload 4, 2) := by decide +kernel
theorem dX1_clearestAfter_23 : decode cX1_clearestAfter 23 = .ok (.iload_n 3, 1) := by decide +kernel
theorem dX1_clearestAfter_24 : decode cX1_clearestAfter 24 = .ok (.iastore, 1) := by decide +kernel
theorem dX1_clearestAfter_25 : decode cX1_clearestAfter 25 = .ok (.iconst 0, 1) := by decide +kernel
theorem dX1_clearestAfter_26 : decode cX1_clearestAfter 26 = .ok (.istore 6, 2) := by decide +kernel
theorem dX1_clearestAfter_28 : decode cX1_clearestAfter 28 = .ok (.iload 6, 2) := by decide +kernel
theorem dX1_clearestAfter_30 : decode cX1_clearestAfter 30 = .ok (.iload_n 1, 1) := by decide +kernel
theorem dX1_clearestAfter_31 : decode cX1_clearestAfter 31 = .ok (.if_icmp .ge 61, 3) := by decide +kernel
theorem dX1_clearestAfter_34 : decode cX1_clearestAfter 34 = .ok (.iload 5, 2) := by decide +kernel
theorem dX1_clearestAfter_36 : decode cX1_clearestAfter 36 = .ok (.bipush 9, 2) := by decide +kernel
theorem dX1_clearestAfter_38 : decode cX1_clearestAfter 38 = .ok (.invokestatic 23, 3) := by decide +kernel
theorem dX1_clearestAfter_41 : decode cX1_clearestAfter 41 = .ok (.istore 7, 2) := by decide +kernel
theorem dX1_clearestAfter_43 : decode cX1_clearestAfter 43 = .ok (.aload_n 0, 1) := by decide +kernel
theorem dX1_clearestAfter_44 : decode cX1_clearestAfter 44 = .ok (.getfield 16, 3) := by decide +kernel
theorem dX1_clearestAfter_47 : decode cX1_clearestAfter 47 = .ok (.iload 7, 2) := by decide +kernel
theorem dX1_clearestAfter_49 : decode cX1_clearestAfter 49 = .ok (.iload 4, 2) := by decide +kernel
theorem dX1_clearestAfter_51 : decode cX1_clearestAfter 51 = .ok (.invokestatic 19, 3) := by decide +kernel
theorem dX1_clearestAfter_54 : decode cX1_clearestAfter 54 = .ok (.aload_n 0, 1) := by decide +kernel
theorem dX1_clearestAfter_55 : decode cX1_clearestAfter 55 = .ok (.iload 5, 2) := by decide +kernel
theorem dX1_clearestAfter_57 : decode cX1_clearestAfter 57 = .ok (.iload 4, 2) := by decide +kernel
theorem dX1_clearestAfter_59 : decode cX1_clearestAfter 59 = .ok (.invokevirtual 27, 3) := by decide +kernel
theorem dX1_clearestAfter_62 : decode cX1_clearestAfter 62 = .ok (.aload_n 0, 1) := by decide +kernel
theorem dX1_clearestAfter_63 : decode cX1_clearestAfter 63 = .ok (.getfield 11, 3) := by decide +kernel
theorem dX1_clearestAfter_66 : decode cX1_clearestAfter 66 = .ok (.astore 8, 2) := by decide +kernel
theorem dX1_clearestAfter_68 : decode cX1_clearestAfter 68 = .ok (.aload_n 0, 1) := by decide +kernel
theorem dX1_clearestAfter_69 : decode cX1_clearestAfter 69 = .ok (.aload_n 0, 1) := by decide +kernel
theorem dX1_clearestAfter_70 : decode cX1_clearestAfter 70 = .ok (.getfield 16, 3) := by decide +kernel
theorem dX1_clearestAfter_73 : decode cX1_clearestAfter 73 = .ok (.putfield 11, 3) := by decide +kernel
theorem dX1_clearestAfter_76 : decode cX1_clearestAfter 76 = .ok (.aload_n 0, 1) := by decide +kernel
theorem dX1_clearestAfter_77 : decode cX1_clearestAfter 77 = .ok (.aload 8, 2) := by decide +kernel
theorem dX1_clearestAfter_79 : decode cX1_clearestAfter 79 = .ok (.putfield 16, 3) := by decide +kernel
theorem dX1_clearestAfter_82 : decode cX1_clearestAfter 82 = .ok (.iload 7, 2) := by decide +kernel
theorem dX1_clearestAfter_84 : decode cX1_clearestAfter 84 = .ok (.istore 5, 2) := by decide +kernel
theorem dX1_clearestAfter_86 : decode cX1_clearestAfter 86 = .ok (.iinc 6 1, 3) := by decide +kernel
theorem dX1_clearestAfter_89 : decode cX1_clearestAfter 89 = .ok (.goto (-61), 3) := by decide +kernel
theorem dX1_clearestAfter_92 : decode cX1_clearestAfter 92 = .ok (.aload_n 0, 1) := by decide +kernel
theorem dX1_clearestAfter_93 : decode cX1_clearestAfter 93 = .ok (.iload 5, 2) := by decide +kernel
theorem dX1_clearestAfter_95 : decode cX1_clearestAfter 95 = .ok (.iload 4, 2) := by decide +kernel
theorem dX1_clearestAfter_97 : decode cX1_clearestAfter 97 = .ok (.invokevirtual 31, 3) := by decide +kernel
theorem dX1_clearestAfter_100 : decode cX1_clearestAfter 100 = .ok (.ireturn, 1) := by decide +kernel
set_option maxRecDepth 20000 in
theorem ggX1_stepOn_X3_copiedDepth : GoodIn wsX1_stepOn wsX3_copiedDepth := goodIn_r _ [9, 10, 4, 5, 6, 11, 12, 13] (by decide +kernel) (by decide +kernel)
set_option maxRecDepth 20000 in
theorem gX1_stepOn_X3_copiedDepth_n34 : GoodIn wsX1_stepOn (wsX3_copiedDepth) := ggX1_stepOn_X3_copiedDepth
set_option maxRecDepth 20000 in
theorem ggX1_stepOn_X3_sharpnessAfter : GoodIn wsX1_stepOn wsX3_sharpnessAfter := goodIn_r _ [15, 10, 4, 5, 6] (by decide +kernel) (by decide +kernel)
set_option maxRecDepth 20000 in
theorem gX1_stepOn_X3_sharpnessAfter_n23 : GoodIn wsX1_stepOn (wsX3_sharpnessAfter) := ggX1_stepOn_X3_sharpnessAfter
set_option maxRecDepth 20000 in
theorem ggX1_stepOn_X3_copiedClearness : GoodIn wsX1_stepOn wsX3_copiedClearness := goodIn_r _ [17, 10, 4, 5, 6, 18, 19, 8, 20] (by decide +kernel) (by decide +kernel)
set_option maxRecDepth 20000 in
theorem gX1_stepOn_X3_copiedClearness_n37 : GoodIn wsX1_stepOn (wsX3_copiedClearness) := ggX1_stepOn_X3_copiedClearness
theorem dX1_stepOn_0 : decode cX1_stepOn 0 = .ok (.iconst 1, 1) := by decide +kernel
theorem dX1_stepOn_1 : decode cX1_stepOn 1 = .ok (.istore_n 3, 1) := by decide +kernel
theorem dX1_stepOn_2 : decode cX1_stepOn 2 = .ok (.iload_n 3, 1) := by decide +kernel
theorem dX1_stepOn_3 : decode cX1_stepOn 3 = .ok (.bipush 9, 2) := by decide +kernel
theorem dX1_stepOn_5 : decode cX1_stepOn 5 = .ok (.if_icmp .gt 110, 3) := by decide +kernel
theorem dX1_stepOn_8 : decode cX1_stepOn 8 = .ok (.iload_n 1, 1) := by decide +kernel
theorem dX1_stepOn_9 : decode cX1_stepOn 9 = .ok (.istore 4, 2) := by decide +kernel
theorem dX1_stepOn_11 : decode cX1_stepOn 11 = .ok (.iload 4, 2) := by decide +kernel
theorem dX1_stepOn_13 : decode cX1_stepOn 13 = .ok (.iload_n 2, 1) := by decide +kernel
theorem dX1_stepOn_14 : decode cX1_stepOn 14 = .ok (.if_icmp .gt 95, 3) := by decide +kernel
theorem dX1_stepOn_17 : decode cX1_stepOn 17 = .ok (.aload_n 0, 1) := by decide +kernel
theorem dX1_stepOn_18 : decode cX1_stepOn 18 = .ok (.getfield 11, 3) := by decide +kernel
theorem dX1_stepOn_21 : decode cX1_stepOn 21 = .ok (.iload_n 3, 1) := by decide +kernel
theorem dX1_stepOn_22 : decode cX1_stepOn 22 = .ok (.aaload, 1) := by decide +kernel
theorem dX1_stepOn_23 : decode cX1_stepOn 23 = .ok (.iload 4, 2) := by decide +kernel
theorem dX1_stepOn_25 : decode cX1_stepOn 25 = .ok (.iaload, 1) := by decide +kernel
theorem dX1_stepOn_26 : decode cX1_stepOn 26 = .ok (.istore 5, 2) := by decide +kernel
theorem dX1_stepOn_28 : decode cX1_stepOn 28 = .ok (.iconst 1, 1) := by decide +kernel
theorem dX1_stepOn_29 : decode cX1_stepOn 29 = .ok (.istore 6, 2) := by decide +kernel
theorem dX1_stepOn_31 : decode cX1_stepOn 31 = .ok (.iload 6, 2) := by decide +kernel
theorem dX1_stepOn_33 : decode cX1_stepOn 33 = .ok (.iconst 3, 1) := by decide +kernel
theorem dX1_stepOn_34 : decode cX1_stepOn 34 = .ok (.if_icmp .gt 69, 3) := by decide +kernel
theorem dX1_stepOn_37 : decode cX1_stepOn 37 = .ok (.iload 5, 2) := by decide +kernel
theorem dX1_stepOn_39 : decode cX1_stepOn 39 = .ok (.iconst (-1), 1) := by decide +kernel
theorem dX1_stepOn_40 : decode cX1_stepOn 40 = .ok (.if_icmp .eq 63, 3) := by decide +kernel
theorem dX1_stepOn_43 : decode cX1_stepOn 43 = .ok (.iload_n 3, 1) := by decide +kernel
theorem dX1_stepOn_44 : decode cX1_stepOn 44 = .ok (.iload 6, 2) := by decide +kernel
theorem dX1_stepOn_46 : decode cX1_stepOn 46 = .ok (.invokestatic 34, 3) := by decide +kernel
theorem dX1_stepOn_49 : decode cX1_stepOn 49 = .ok (.istore 7, 2) := by decide +kernel
theorem dX1_stepOn_51 : decode cX1_stepOn 51 = .ok (.iload 4, 2) := by decide +kernel
theorem dX1_stepOn_53 : decode cX1_stepOn 53 = .ok (.iload 7, 2) := by decide +kernel
theorem dX1_stepOn_55 : decode cX1_stepOn 55 = .ok (.invokestatic 23, 3) := by decide +kernel
theorem dX1_stepOn_58 : decode cX1_stepOn 58 = .ok (.istore 8, 2) := by decide +kernel
theorem dX1_stepOn_60 : decode cX1_stepOn 60 = .ok (.iload 5, 2) := by decide +kernel
theorem dX1_stepOn_62 : decode cX1_stepOn 62 = .ok (.iload 6, 2) := by decide +kernel
theorem dX1_stepOn_64 : decode cX1_stepOn 64 = .ok (.iload 4, 2) := by decide +kernel
theorem dX1_stepOn_66 : decode cX1_stepOn 66 = .ok (.iconst 0, 1) := by decide +kernel
theorem dX1_stepOn_67 : decode cX1_stepOn 67 = .ok (.invokestatic 37, 3) := by decide +kernel
theorem dX1_stepOn_70 : decode cX1_stepOn 70 = .ok (.istore 9, 2) := by decide +kernel
theorem dX1_stepOn_72 : decode cX1_stepOn 72 = .ok (.aload_n 0, 1) := by decide +kernel
theorem dX1_stepOn_73 : decode cX1_stepOn 73 = .ok (.getfield 16, 3) := by decide +kernel
theorem dX1_stepOn_76 : decode cX1_stepOn 76 = .ok (.iload 7, 2) := by decide +kernel
theorem dX1_stepOn_78 : decode cX1_stepOn 78 = .ok (.aaload, 1) := by decide +kernel
theorem dX1_stepOn_79 : decode cX1_stepOn 79 = .ok (.iload 8, 2) := by decide +kernel
theorem dX1_stepOn_81 : decode cX1_stepOn 81 = .ok (.aload_n 0, 1) := by decide +kernel
theorem dX1_stepOn_82 : decode cX1_stepOn 82 = .ok (.getfield 16, 3) := by decide +kernel
theorem dX1_stepOn_85 : decode cX1_stepOn 85 = .ok (.iload 7, 2) := by decide +kernel
theorem dX1_stepOn_87 : decode cX1_stepOn 87 = .ok (.aaload, 1) := by decide +kernel
theorem dX1_stepOn_88 : decode cX1_stepOn 88 = .ok (.iload 8, 2) := by decide +kernel
theorem dX1_stepOn_90 : decode cX1_stepOn 90 = .ok (.iaload, 1) := by decide +kernel
theorem dX1_stepOn_91 : decode cX1_stepOn 91 = .ok (.iload 9, 2) := by decide +kernel
theorem dX1_stepOn_93 : decode cX1_stepOn 93 = .ok (.invokestatic 41, 3) := by decide +kernel
theorem dX1_stepOn_96 : decode cX1_stepOn 96 = .ok (.iastore, 1) := by decide +kernel
theorem dX1_stepOn_97 : decode cX1_stepOn 97 = .ok (.iinc 6 1, 3) := by decide +kernel
theorem dX1_stepOn_100 : decode cX1_stepOn 100 = .ok (.goto (-69), 3) := by decide +kernel
theorem dX1_stepOn_103 : decode cX1_stepOn 103 = .ok (.iinc 4 1, 3) := by decide +kernel
theorem dX1_stepOn_106 : decode cX1_stepOn 106 = .ok (.goto (-95), 3) := by decide +kernel
theorem dX1_stepOn_109 : decode cX1_stepOn 109 = .ok (.iinc 3 1, 3) := by decide +kernel
theorem dX1_stepOn_112 : decode cX1_stepOn 112 = .ok (.goto (-110), 3) := by decide +kernel
theorem dX1_stepOn_115 : decode cX1_stepOn 115 = .ok (.return_, 1) := by decide +kernel
theorem dX1_clearestOf_0 : decode cX1_clearestOf 0 = .ok (.iconst (-1), 1) := by decide +kernel
theorem dX1_clearestOf_1 : decode cX1_clearestOf 1 = .ok (.istore_n 3, 1) := by decide +kernel
theorem dX1_clearestOf_2 : decode cX1_clearestOf 2 = .ok (.iconst 1, 1) := by decide +kernel
theorem dX1_clearestOf_3 : decode cX1_clearestOf 3 = .ok (.istore 4, 2) := by decide +kernel
theorem dX1_clearestOf_5 : decode cX1_clearestOf 5 = .ok (.iload 4, 2) := by decide +kernel
theorem dX1_clearestOf_7 : decode cX1_clearestOf 7 = .ok (.bipush 9, 2) := by decide +kernel
theorem dX1_clearestOf_9 : decode cX1_clearestOf 9 = .ok (.if_icmp .gt 39, 3) := by decide +kernel
theorem dX1_clearestOf_12 : decode cX1_clearestOf 12 = .ok (.iload_n 1, 1) := by decide +kernel
theorem dX1_clearestOf_13 : decode cX1_clearestOf 13 = .ok (.istore 5, 2) := by decide +kernel
theorem dX1_clearestOf_15 : decode cX1_clearestOf 15 = .ok (.iload 5, 2) := by decide +kernel
theorem dX1_clearestOf_17 : decode cX1_clearestOf 17 = .ok (.iload_n 2, 1) := by decide +kernel
theorem dX1_clearestOf_18 : decode cX1_clearestOf 18 = .ok (.if_icmp .gt 24, 3) := by decide +kernel
theorem dX1_clearestOf_21 : decode cX1_clearestOf 21 = .ok (.iload_n 3, 1) := by decide +kernel
theorem dX1_clearestOf_22 : decode cX1_clearestOf 22 = .ok (.aload_n 0, 1) := by decide +kernel
theorem dX1_clearestOf_23 : decode cX1_clearestOf 23 = .ok (.getfield 11, 3) := by decide +kernel
theorem dX1_clearestOf_26 : decode cX1_clearestOf 26 = .ok (.iload 4, 2) := by decide +kernel
theorem dX1_clearestOf_28 : decode cX1_clearestOf 28 = .ok (.aaload, 1) := by decide +kernel
theorem dX1_clearestOf_29 : decode cX1_clearestOf 29 = .ok (.iload 5, 2) := by decide +kernel
theorem dX1_clearestOf_31 : decode cX1_clearestOf 31 = .ok (.iaload, 1) := by decide +kernel
theorem dX1_clearestOf_32 : decode cX1_clearestOf 32 = .ok (.invokestatic 41, 3) := by decide +kernel
theorem dX1_clearestOf_35 : decode cX1_clearestOf 35 = .ok (.istore_n 3, 1) := by decide +kernel
theorem dX1_clearestOf_36 : decode cX1_clearestOf 36 = .ok (.iinc 5 1, 3) := by decide +kernel
theorem dX1_clearestOf_39 : decode cX1_clearestOf 39 = .ok (.goto (-24), 3) := by decide +kernel
theorem dX1_clearestOf_42 : decode cX1_clearestOf 42 = .ok (.iinc 4 1, 3) := by decide +kernel
theorem dX1_clearestOf_45 : decode cX1_clearestOf 45 = .ok (.goto (-40), 3) := by decide +kernel
theorem dX1_clearestOf_48 : decode cX1_clearestOf 48 = .ok (.iload_n 3, 1) := by decide +kernel
theorem dX1_clearestOf_49 : decode cX1_clearestOf 49 = .ok (.ireturn, 1) := by decide +kernel
theorem dX1_forget_0 : decode cX1_forget 0 = .ok (.iconst 1, 1) := by decide +kernel
theorem dX1_forget_1 : decode cX1_forget 1 = .ok (.istore_n 3, 1) := by decide +kernel
theorem dX1_forget_2 : decode cX1_forget 2 = .ok (.iload_n 3, 1) := by decide +kernel
theorem dX1_forget_3 : decode cX1_forget 3 = .ok (.bipush 9, 2) := by decide +kernel
theorem dX1_forget_5 : decode cX1_forget 5 = .ok (.if_icmp .gt 31, 3) := by decide +kernel
theorem dX1_forget_8 : decode cX1_forget 8 = .ok (.iload_n 1, 1) := by decide +kernel
theorem dX1_forget_9 : decode cX1_forget 9 = .ok (.istore 4, 2) := by decide +kernel
theorem dX1_forget_11 : decode cX1_forget 11 = .ok (.iload 4, 2) := by decide +kernel
theorem dX1_forget_13 : decode cX1_forget 13 = .ok (.iload_n 2, 1) := by decide +kernel
theorem dX1_forget_14 : decode cX1_forget 14 = .ok (.if_icmp .gt 16, 3) := by decide +kernel
theorem dX1_forget_17 : decode cX1_forget 17 = .ok (.aload_n 0, 1) := by decide +kernel
theorem dX1_forget_18 : decode cX1_forget 18 = .ok (.iload_n 3, 1) := by decide +kernel
theorem dX1_forget_19 : decode cX1_forget 19 = .ok (.aaload, 1) := by decide +kernel
theorem dX1_forget_20 : decode cX1_forget 20 = .ok (.iload 4, 2) := by decide +kernel
theorem dX1_forget_22 : decode cX1_forget 22 = .ok (.iconst (-1), 1) := by decide +kernel
theorem dX1_forget_23 : decode cX1_forget 23 = .ok (.iastore, 1) := by decide +kernel
theorem dX1_forget_24 : decode cX1_forget 24 = .ok (.iinc 4 1, 3) := by decide +kernel
theorem dX1_forget_27 : decode cX1_forget 27 = .ok (.goto (-16), 3) := by decide +kernel
theorem dX1_forget_30 : decode cX1_forget 30 = .ok (.iinc 3 1, 3) := by decide +kernel
theorem dX1_forget_33 : decode cX1_forget 33 = .ok (.goto (-31), 3) := by decide +kernel
theorem dX1_forget_36 : decode cX1_forget 36 = .ok (.return_, 1) := by decide +kernel
