theorem dX4_init_0 : decode cX4_init 0 = .ok (.aload_n 0, 1) := by decide +kernel
theorem dX4_init_1 : decode cX4_init 1 = .ok (.invokespecial 1, 3) := by decide +kernel
theorem dX4_init_4 : decode cX4_init 4 = .ok (.aload_n 0, 1) := by decide +kernel
theorem dX4_init_5 : decode cX4_init 5 = .ok (.sipush 1710, 3) := by decide +kernel
theorem dX4_init_8 : decode cX4_init 8 = .ok (.newarray .int, 2) := by decide +kernel
theorem dX4_init_10 : decode cX4_init 10 = .ok (.putfield 7, 3) := by decide +kernel
theorem dX4_init_13 : decode cX4_init 13 = .ok (.aload_n 0, 1) := by decide +kernel
theorem dX4_init_14 : decode cX4_init 14 = .ok (.iconst 2, 1) := by decide +kernel
theorem dX4_init_15 : decode cX4_init 15 = .ok (.newarray .boolean, 2) := by decide +kernel
theorem dX4_init_17 : decode cX4_init 17 = .ok (.putfield 13, 3) := by decide +kernel
theorem dX4_init_20 : decode cX4_init 20 = .ok (.aload_n 0, 1) := by decide +kernel
theorem dX4_init_21 : decode cX4_init 21 = .ok (.bipush 60, 2) := by decide +kernel
theorem dX4_init_23 : decode cX4_init 23 = .ok (.newarray .char, 2) := by decide +kernel
theorem dX4_init_25 : decode cX4_init 25 = .ok (.putfield 17, 3) := by decide +kernel
theorem dX4_init_28 : decode cX4_init 28 = .ok (.aload_n 0, 1) := by decide +kernel
theorem dX4_init_29 : decode cX4_init 29 = .ok (.sipush 1010, 3) := by decide +kernel
theorem dX4_init_32 : decode cX4_init 32 = .ok (.newarray .int, 2) := by decide +kernel
theorem dX4_init_34 : decode cX4_init 34 = .ok (.putfield 21, 3) := by decide +kernel
theorem dX4_init_37 : decode cX4_init 37 = .ok (.aload_n 0, 1) := by decide +kernel
theorem dX4_init_38 : decode cX4_init 38 = .ok (.sipush 1010, 3) := by decide +kernel
theorem dX4_init_41 : decode cX4_init 41 = .ok (.newarray .int, 2) := by decide +kernel
theorem dX4_init_43 : decode cX4_init 43 = .ok (.putfield 24, 3) := by decide +kernel
theorem dX4_init_46 : decode cX4_init 46 = .ok (.aload_n 0, 1) := by decide +kernel
theorem dX4_init_47 : decode cX4_init 47 = .ok (.getfield 7, 3) := by decide +kernel
theorem dX4_init_50 : decode cX4_init 50 = .ok (.iconst 0, 1) := by decide +kernel
theorem dX4_init_51 : decode cX4_init 51 = .ok (.bipush 100, 2) := by decide +kernel
theorem dX4_init_53 : decode cX4_init 53 = .ok (.iastore, 1) := by decide +kernel
theorem dX4_init_54 : decode cX4_init 54 = .ok (.aload_n 0, 1) := by decide +kernel
theorem dX4_init_55 : decode cX4_init 55 = .ok (.getfield 7, 3) := by decide +kernel
theorem dX4_init_58 : decode cX4_init 58 = .ok (.iconst 1, 1) := by decide +kernel
theorem dX4_init_59 : decode cX4_init 59 = .ok (.bipush 100, 2) := by decide +kernel
theorem dX4_init_61 : decode cX4_init 61 = .ok (.iastore, 1) := by decide +kernel
theorem dX4_init_62 : decode cX4_init 62 = .ok (.aload_n 0, 1) := by decide +kernel
theorem dX4_init_63 : decode cX4_init 63 = .ok (.getfield 7, 3) := by decide +kernel
theorem dX4_init_66 : decode cX4_init 66 = .ok (.iconst 2, 1) := by decide +kernel
theorem dX4_init_67 : decode cX4_init 67 = .ok (.iconst 3, 1) := by decide +kernel
theorem dX4_init_68 : decode cX4_init 68 = .ok (.iastore, 1) := by decide +kernel
theorem dX4_init_69 : decode cX4_init 69 = .ok (.aload_n 0, 1) := by decide +kernel
theorem dX4_init_70 : decode cX4_init 70 = .ok (.getfield 7, 3) := by decide +kernel
theorem dX4_init_73 : decode cX4_init 73 = .ok (.bipush 7, 2) := by decide +kernel
theorem dX4_init_75 : decode cX4_init 75 = .ok (.sipush 360, 3) := by decide +kernel
theorem dX4_init_78 : decode cX4_init 78 = .ok (.iastore, 1) := by decide +kernel
theorem dX4_init_79 : decode cX4_init 79 = .ok (.iconst 0, 1) := by decide +kernel
theorem dX4_init_80 : decode cX4_init 80 = .ok (.istore_n 1, 1) := by decide +kernel
theorem dX4_init_81 : decode cX4_init 81 = .ok (.iload_n 1, 1) := by decide +kernel
theorem dX4_init_82 : decode cX4_init 82 = .ok (.bipush 6, 2) := by decide +kernel
theorem dX4_init_84 : decode cX4_init 84 = .ok (.if_icmp .ge 22, 3) := by decide +kernel
theorem dX4_init_87 : decode cX4_init 87 = .ok (.aload_n 0, 1) := by decide +kernel
theorem dX4_init_88 : decode cX4_init 88 = .ok (.getfield 7, 3) := by decide +kernel
theorem dX4_init_91 : decode cX4_init 91 = .ok (.bipush 10, 2) := by decide +kernel
theorem dX4_init_93 : decode cX4_init 93 = .ok (.iconst 2, 1) := by decide +kernel
theorem dX4_init_94 : decode cX4_init 94 = .ok (.iload_n 1, 1) := by decide +kernel
theorem dX4_init_95 : decode cX4_init 95 = .ok (.imul, 1) := by decide +kernel
theorem dX4_init_96 : decode cX4_init 96 = .ok (.iadd, 1) := by decide +kernel
theorem dX4_init_97 : decode cX4_init 97 = .ok (.bipush 60, 2) := by decide +kernel
theorem dX4_init_99 : decode cX4_init 99 = .ok (.iastore, 1) := by decide +kernel
theorem dX4_init_100 : decode cX4_init 100 = .ok (.iinc 1 1, 3) := by decide +kernel
theorem dX4_init_103 : decode cX4_init 103 = .ok (.goto (-22), 3) := by decide +kernel
theorem dX4_init_106 : decode cX4_init 106 = .ok (.return_, 1) := by decide +kernel
theorem dX4_thrown_0 : decode cX4_thrown 0 = .ok (.aload_n 0, 1) := by decide +kernel
theorem dX4_thrown_1 : decode cX4_thrown 1 = .ok (.getfield 27, 3) := by decide +kernel
theorem dX4_thrown_4 : decode cX4_thrown 4 = .ok (.ireturn, 1) := by decide +kernel
theorem dX4_in_0 : decode cX4_in 0 = .ok (.iload_n 0, 1) := by decide +kernel
theorem dX4_in_1 : decode cX4_in 1 = .ok (.iload_n 1, 1) := by decide +kernel
theorem dX4_in_2 : decode cX4_in 2 = .ok (.if_icmp .lt 12, 3) := by decide +kernel
theorem dX4_in_5 : decode cX4_in 5 = .ok (.iload_n 0, 1) := by decide +kernel
theorem dX4_in_6 : decode cX4_in 6 = .ok (.iload_n 2, 1) := by decide +kernel
theorem dX4_in_7 : decode cX4_in 7 = .ok (.if_icmp .gt 7, 3) := by decide +kernel
theorem dX4_in_10 : decode cX4_in 10 = .ok (.iconst 1, 1) := by decide +kernel
theorem dX4_in_11 : decode cX4_in 11 = .ok (.goto 4, 3) := by decide +kernel
theorem dX4_in_14 : decode cX4_in 14 = .ok (.iconst 0, 1) := by decide +kernel
theorem dX4_in_15 : decode cX4_in 15 = .ok (.ireturn, 1) := by decide +kernel
theorem dX4_goes_0 : decode cX4_goes 0 = .ok (.aload_n 0, 1) := by decide +kernel
theorem dX4_goes_1 : decode cX4_goes 1 = .ok (.iload_n 1, 1) := by decide +kernel
theorem dX4_goes_2 : decode cX4_goes 2 = .ok (.ifCond .ne 7, 3) := by decide +kernel
theorem dX4_goes_5 : decode cX4_goes 5 = .ok (.iconst 1, 1) := by decide +kernel
theorem dX4_goes_6 : decode cX4_goes 6 = .ok (.goto 12, 3) := by decide +kernel
theorem dX4_goes_9 : decode cX4_goes 9 = .ok (.iload_n 2, 1) := by decide +kernel
theorem dX4_goes_10 : decode cX4_goes 10 = .ok (.ifCond .ne 7, 3) := by decide +kernel
theorem dX4_goes_13 : decode cX4_goes 13 = .ok (.iconst 2, 1) := by decide +kernel
theorem dX4_goes_14 : decode cX4_goes 14 = .ok (.goto 4, 3) := by decide +kernel
theorem dX4_goes_17 : decode cX4_goes 17 = .ok (.iconst 0, 1) := by decide +kernel
theorem dX4_goes_18 : decode cX4_goes 18 = .ok (.putfield 27, 3) := by decide +kernel
theorem dX4_goes_21 : decode cX4_goes 21 = .ok (.aload_n 0, 1) := by decide +kernel
theorem dX4_goes_22 : decode cX4_goes 22 = .ok (.getfield 27, 3) := by decide +kernel
theorem dX4_goes_25 : decode cX4_goes 25 = .ok (.ifCond .ne 7, 3) := by decide +kernel
theorem dX4_goes_28 : decode cX4_goes 28 = .ok (.iconst 1, 1) := by decide +kernel
theorem dX4_goes_29 : decode cX4_goes 29 = .ok (.goto 4, 3) := by decide +kernel
theorem dX4_goes_32 : decode cX4_goes 32 = .ok (.iconst 0, 1) := by decide +kernel
theorem dX4_goes_33 : decode cX4_goes 33 = .ok (.ireturn, 1) := by decide +kernel
theorem dX4_atLeast_0 : decode cX4_atLeast 0 = .ok (.iload_n 0, 1) := by decide +kernel
theorem dX4_atLeast_1 : decode cX4_atLeast 1 = .ok (.iload_n 1, 1) := by decide +kernel
theorem dX4_atLeast_2 : decode cX4_atLeast 2 = .ok (.if_icmp .ge 7, 3) := by decide +kernel
theorem dX4_atLeast_5 : decode cX4_atLeast 5 = .ok (.iload_n 1, 1) := by decide +kernel
theorem dX4_atLeast_6 : decode cX4_atLeast 6 = .ok (.goto 4, 3) := by decide +kernel
theorem dX4_atLeast_9 : decode cX4_atLeast 9 = .ok (.iload_n 0, 1) := by decide +kernel
theorem dX4_atLeast_10 : decode cX4_atLeast 10 = .ok (.ireturn, 1) := by decide +kernel
theorem dX4_copies_0 : decode cX4_copies 0 = .ok (.iconst 0, 1) := by decide +kernel
theorem dX4_copies_1 : decode cX4_copies 1 = .ok (.istore_n 3, 1) := by decide +kernel
theorem dX4_copies_2 : decode cX4_copies 2 = .ok (.iload_n 3, 1) := by decide +kernel
theorem dX4_copies_3 : decode cX4_copies 3 = .ok (.sipush 190, 3) := by decide +kernel
theorem dX4_copies_6 : decode cX4_copies 6 = .ok (.if_icmp .ge 33, 3) := by decide +kernel
theorem dX4_copies_9 : decode cX4_copies 9 = .ok (.aload_n 0, 1) := by decide +kernel
theorem dX4_copies_10 : decode cX4_copies 10 = .ok (.getfield 7, 3) := by decide +kernel
theorem dX4_copies_13 : decode cX4_copies 13 = .ok (.sipush 190, 3) := by decide +kernel
theorem dX4_copies_16 : decode cX4_copies 16 = .ok (.iload_n 2, 1) := by decide +kernel
theorem dX4_copies_17 : decode cX4_copies 17 = .ok (.imul, 1) := by decide +kernel
theorem dX4_copies_18 : decode cX4_copies 18 = .ok (.iload_n 3, 1) := by decide +kernel
theorem dX4_copies_19 : decode cX4_copies 19 = .ok (.iadd, 1) := by decide +kernel
theorem dX4_copies_20 : decode cX4_copies 20 = .ok (.aload_n 0, 1) := by decide +kernel
theorem dX4_copies_21 : decode cX4_copies 21 = .ok (.getfield 7, 3) := by decide +kernel
theorem dX4_copies_24 : decode cX4_copies 24 = .ok (.sipush 190, 3) := by decide +kernel
theorem dX4_copies_27 : decode cX4_copies 27 = .ok (.iload_n 1, 1) := by decide +kernel
theorem dX4_copies_28 : decode cX4_copies 28 = .ok (.imul, 1) := by decide +kernel
theorem dX4_copies_29 : decode cX4_copies 29 = .ok (.iload_n 3, 1) := by decide +kernel
theorem dX4_copies_30 : decode cX4_copies 30 = .ok (.iadd, 1) := by decide +kernel
theorem dX4_copies_31 : decode cX4_copies 31 = .ok (.iaload, 1) := by decide +kernel
theorem dX4_copies_32 : decode cX4_copies 32 = .ok (.iastore, 1) := by decide +kernel
theorem dX4_copies_33 : decode cX4_copies 33 = .ok (.iinc 3 1, 3) := by decide +kernel
theorem dX4_copies_36 : decode cX4_copies 36 = .ok (.goto (-34), 3) := by decide +kernel
theorem dX4_copies_39 : decode cX4_copies 39 = .ok (.return_, 1) := by decide +kernel
set_option maxRecDepth 20000 in
theorem ggX4_saves_X4_copies : GoodIn wsX4_saves wsX4_copies := goodIn_r _ [6, 7, 8, 9, 10, 11, 12, 13, 14, 15, 16, 17, 18, 19] (by decide +kernel) (by decide +kernel)
set_option maxRecDepth 20000 in
theorem gX4_saves_X4_copies : GoodIn wsX4_saves (wsV RX4 34 RX4 yX4_copies wsX4_copies) := goodIn_app (goodIn_of _ (by decide +kernel)) ggX4_saves_X4_copies
theorem dX4_saves_0 : decode cX4_saves 0 = .ok (.aload_n 0, 1) := by decide +kernel
theorem dX4_saves_1 : decode cX4_saves 1 = .ok (.getfield 31, 3) := by decide +kernel
theorem dX4_saves_4 : decode cX4_saves 4 = .ok (.bipush 6, 2) := by decide +kernel
theorem dX4_saves_6 : decode cX4_saves 6 = .ok (.if_icmp .ne 35, 3) := by decide +kernel
theorem dX4_saves_9 : decode cX4_saves 9 = .ok (.iconst 1, 1) := by decide +kernel
theorem dX4_saves_10 : decode cX4_saves 10 = .ok (.istore_n 1, 1) := by decide +kernel
theorem dX4_saves_11 : decode cX4_saves 11 = .ok (.iload_n 1, 1) := by decide +kernel
theorem dX4_saves_12 : decode cX4_saves 12 = .ok (.bipush 6, 2) := by decide +kernel
theorem dX4_saves_14 : decode cX4_saves 14 = .ok (.if_icmp .ge 17, 3) := by decide +kernel
theorem dX4_saves_17 : decode cX4_saves 17 = .ok (.aload_n 0, 1) := by decide +kernel
theorem dX4_saves_18 : decode cX4_saves 18 = .ok (.iload_n 1, 1) := by decide +kernel
theorem dX4_saves_19 : decode cX4_saves 19 = .ok (.iconst 1, 1) := by decide +kernel
theorem dX4_saves_20 : decode cX4_saves 20 = .ok (.iadd, 1) := by decide +kernel
theorem dX4_saves_21 : decode cX4_saves 21 = .ok (.iload_n 1, 1) := by decide +kernel
theorem dX4_saves_22 : decode cX4_saves 22 = .ok (.invokevirtual 34, 3) := by decide +kernel
theorem dX4_saves_25 : decode cX4_saves 25 = .ok (.iinc 1 1, 3) := by decide +kernel
theorem dX4_saves_28 : decode cX4_saves 28 = .ok (.goto (-17), 3) := by decide +kernel
theorem dX4_saves_31 : decode cX4_saves 31 = .ok (.aload_n 0, 1) := by decide +kernel
theorem dX4_saves_32 : decode cX4_saves 32 = .ok (.dup, 1) := by decide +kernel
theorem dX4_saves_33 : decode cX4_saves 33 = .ok (.getfield 31, 3) := by decide +kernel
theorem dX4_saves_36 : decode cX4_saves 36 = .ok (.iconst 1, 1) := by decide +kernel
theorem dX4_saves_37 : decode cX4_saves 37 = .ok (.isub, 1) := by decide +kernel
theorem dX4_saves_38 : decode cX4_saves 38 = .ok (.putfield 31, 3) := by decide +kernel
theorem dX4_saves_41 : decode cX4_saves 41 = .ok (.aload_n 0, 1) := by decide +kernel
theorem dX4_saves_42 : decode cX4_saves 42 = .ok (.dup, 1) := by decide +kernel
theorem dX4_saves_43 : decode cX4_saves 43 = .ok (.getfield 31, 3) := by decide +kernel
theorem dX4_saves_46 : decode cX4_saves 46 = .ok (.iconst 1, 1) := by decide +kernel
theorem dX4_saves_47 : decode cX4_saves 47 = .ok (.iadd, 1) := by decide +kernel
theorem dX4_saves_48 : decode cX4_saves 48 = .ok (.putfield 31, 3) := by decide +kernel
theorem dX4_saves_51 : decode cX4_saves 51 = .ok (.aload_n 0, 1) := by decide +kernel
theorem dX4_saves_52 : decode cX4_saves 52 = .ok (.iconst 0, 1) := by decide +kernel
theorem dX4_saves_53 : decode cX4_saves 53 = .ok (.aload_n 0, 1) := by decide +kernel
theorem dX4_saves_54 : decode cX4_saves 54 = .ok (.getfield 31, 3) := by decide +kernel
theorem dX4_saves_57 : decode cX4_saves 57 = .ok (.invokevirtual 34, 3) := by decide +kernel
theorem dX4_saves_60 : decode cX4_saves 60 = .ok (.return_, 1) := by decide +kernel
set_option maxRecDepth 20000 in
theorem ggX4_isTrack_X4_in : GoodIn wsX4_isTrack wsX4_in := goodIn_r _ [4] (by decide +kernel) (by decide +kernel)
set_option maxRecDepth 20000 in
theorem gX4_isTrack_X4_in : GoodIn wsX4_isTrack (va_wsS RX4 38 yX4_in wsX4_in) := goodIn_app (goodIn_of _ (by decide +kernel)) ggX4_isTrack_X4_in
theorem dX4_isTrack_0 : decode cX4_isTrack 0 = .ok (.iload_n 0, 1) := by decide +kernel
theorem dX4_isTrack_1 : decode cX4_isTrack 1 = .ok (.iconst 0, 1) := by decide +kernel
theorem dX4_isTrack_2 : decode cX4_isTrack 2 = .ok (.bipush 23, 2) := by decide +kernel
theorem dX4_isTrack_4 : decode cX4_isTrack 4 = .ok (.invokestatic 38, 3) := by decide +kernel
theorem dX4_isTrack_7 : decode cX4_isTrack 7 = .ok (.ireturn, 1) := by decide +kernel
set_option maxRecDepth 20000 in
theorem ggX4_isCylinder_X4_in : GoodIn wsX4_isCylinder wsX4_in := goodIn_r _ [4] (by decide +kernel) (by decide +kernel)
set_option maxRecDepth 20000 in
theorem gX4_isCylinder_X4_in : GoodIn wsX4_isCylinder (va_wsS RX4 38 yX4_in wsX4_in) := goodIn_app (goodIn_of _ (by decide +kernel)) ggX4_isCylinder_X4_in
theorem dX4_isCylinder_0 : decode cX4_isCylinder 0 = .ok (.iload_n 0, 1) := by decide +kernel
theorem dX4_isCylinder_1 : decode cX4_isCylinder 1 = .ok (.iconst 0, 1) := by decide +kernel
theorem dX4_isCylinder_2 : decode cX4_isCylinder 2 = .ok (.iconst 5, 1) := by decide +kernel
theorem dX4_isCylinder_3 : decode cX4_isCylinder 3 = .ok (.invokestatic 38, 3) := by decide +kernel
theorem dX4_isCylinder_6 : decode cX4_isCylinder 6 = .ok (.ireturn, 1) := by decide +kernel
theorem dX4_at_0 : decode cX4_at 0 = .ok (.bipush 22, 2) := by decide +kernel
theorem dX4_at_2 : decode cX4_at 2 = .ok (.bipush 7, 2) := by decide +kernel
theorem dX4_at_4 : decode cX4_at 4 = .ok (.iload_n 0, 1) := by decide +kernel
theorem dX4_at_5 : decode cX4_at 5 = .ok (.imul, 1) := by decide +kernel
theorem dX4_at_6 : decode cX4_at 6 = .ok (.iadd, 1) := by decide +kernel
theorem dX4_at_7 : decode cX4_at 7 = .ok (.ireturn, 1) := by decide +kernel
set_option maxRecDepth 20000 in
theorem ggX4_isCut_X4_at : GoodIn wsX4_isCut wsX4_at := goodIn_r _ [5] (by decide +kernel) (by decide +kernel)
set_option maxRecDepth 20000 in
theorem gX4_isCut_X4_at : GoodIn wsX4_isCut (va_wsS RX4 42 yX4_at wsX4_at) := goodIn_app (goodIn_of _ (by decide +kernel)) ggX4_isCut_X4_at
theorem dX4_isCut_0 : decode cX4_isCut 0 = .ok (.aload_n 0, 1) := by decide +kernel
theorem dX4_isCut_1 : decode cX4_isCut 1 = .ok (.getfield 7, 3) := by decide +kernel
theorem dX4_isCut_4 : decode cX4_isCut 4 = .ok (.iload_n 1, 1) := by decide +kernel
theorem dX4_isCut_5 : decode cX4_isCut 5 = .ok (.invokestatic 42, 3) := by decide +kernel
theorem dX4_isCut_8 : decode cX4_isCut 8 = .ok (.iaload, 1) := by decide +kernel
theorem dX4_isCut_9 : decode cX4_isCut 9 = .ok (.ifCond .le 7, 3) := by decide +kernel
theorem dX4_isCut_12 : decode cX4_isCut 12 = .ok (.iconst 1, 1) := by decide +kernel
theorem dX4_isCut_13 : decode cX4_isCut 13 = .ok (.goto 4, 3) := by decide +kernel
theorem dX4_isCut_16 : decode cX4_isCut 16 = .ok (.iconst 0, 1) := by decide +kernel
theorem dX4_isCut_17 : decode cX4_isCut 17 = .ok (.ireturn, 1) := by decide +kernel
theorem dX4_layers_0 : decode cX4_layers 0 = .ok (.aload_n 0, 1) := by decide +kernel
theorem dX4_layers_1 : decode cX4_layers 1 = .ok (.getfield 7, 3) := by decide +kernel
theorem dX4_layers_4 : decode cX4_layers 4 = .ok (.bipush 10, 2) := by decide +kernel
theorem dX4_layers_6 : decode cX4_layers 6 = .ok (.iconst 2, 1) := by decide +kernel
theorem dX4_layers_7 : decode cX4_layers 7 = .ok (.iload_n 1, 1) := by decide +kernel
theorem dX4_layers_8 : decode cX4_layers 8 = .ok (.iconst 4, 1) := by decide +kernel
theorem dX4_layers_9 : decode cX4_layers 9 = .ok (.idiv, 1) := by decide +kernel
theorem dX4_layers_10 : decode cX4_layers 10 = .ok (.imul, 1) := by decide +kernel
theorem dX4_layers_11 : decode cX4_layers 11 = .ok (.iadd, 1) := by decide +kernel
theorem dX4_layers_12 : decode cX4_layers 12 = .ok (.iaload, 1) := by decide +kernel
theorem dX4_layers_13 : decode cX4_layers 13 = .ok (.ireturn, 1) := by decide +kernel
set_option maxRecDepth 20000 in
theorem ggX4_cuts_X4_isCut : GoodIn wsX4_cuts wsX4_isCut := goodIn_r _ [5, 6, 7, 8, 4, 9, 10, 11, 12, 13, 14, 15, 16, 17, 18, 19, 20, 21] (by decide +kernel) (by decide +kernel)
set_option maxRecDepth 20000 in
theorem gX4_cuts_X4_isCut : GoodIn wsX4_cuts (wsV RX4 46 RX4 yX4_isCut wsX4_isCut) := goodIn_app (goodIn_of _ (by decide +kernel)) ggX4_cuts_X4_isCut
theorem dX4_cuts_0 : decode cX4_cuts 0 = .ok (.iconst 0, 1) := by decide +kernel
theorem dX4_cuts_1 : decode cX4_cuts 1 = .ok (.istore_n 1, 1) := by decide +kernel
theorem dX4_cuts_2 : decode cX4_cuts 2 = .ok (.iconst 0, 1) := by decide +kernel
theorem dX4_cuts_3 : decode cX4_cuts 3 = .ok (.istore_n 2, 1) := by decide +kernel
theorem dX4_cuts_4 : decode cX4_cuts 4 = .ok (.iload_n 2, 1) := by decide +kernel
theorem dX4_cuts_5 : decode cX4_cuts 5 = .ok (.bipush 24, 2) := by decide +kernel
theorem dX4_cuts_7 : decode cX4_cuts 7 = .ok (.if_icmp .ge 25, 3) := by decide +kernel
theorem dX4_cuts_10 : decode cX4_cuts 10 = .ok (.iload_n 1, 1) := by decide +kernel
theorem dX4_cuts_11 : decode cX4_cuts 11 = .ok (.aload_n 0, 1) := by decide +kernel
theorem dX4_cuts_12 : decode cX4_cuts 12 = .ok (.iload_n 2, 1) := by decide +kernel
theorem dX4_cuts_13 : decode cX4_cuts 13 = .ok (.invokevirtual 46, 3) := by decide +kernel
theorem dX4_cuts_16 : decode cX4_cuts 16 = .ok (.ifCond .eq 7, 3) := by decide +kernel
theorem dX4_cuts_19 : decode cX4_cuts 19 = .ok (.iconst 1, 1) := by decide +kernel
theorem dX4_cuts_20 : decode cX4_cuts 20 = .ok (.goto 4, 3) := by decide +kernel
theorem dX4_cuts_23 : decode cX4_cuts 23 = .ok (.iconst 0, 1) := by decide +kernel
theorem dX4_cuts_24 : decode cX4_cuts 24 = .ok (.iadd, 1) := by decide +kernel
theorem dX4_cuts_25 : decode cX4_cuts 25 = .ok (.istore_n 1, 1) := by decide +kernel
theorem dX4_cuts_26 : decode cX4_cuts 26 = .ok (.iinc 2 1, 3) := by decide +kernel
theorem dX4_cuts_29 : decode cX4_cuts 29 = .ok (.goto (-25), 3) := by decide +kernel
theorem dX4_cuts_32 : decode cX4_cuts 32 = .ok (.iload_n 1, 1) := by decide +kernel
theorem dX4_cuts_33 : decode cX4_cuts 33 = .ok (.ireturn, 1) := by decide +kernel
theorem dX4_machineFlutter_0 : decode cX4_machineFlutter 0 = .ok (.aload_n 0, 1) := by decide +kernel
theorem dX4_machineFlutter_1 : decode cX4_machineFlutter 1 = .ok (.getfield 7, 3) := by decide +kernel
theorem dX4_machineFlutter_4 : decode cX4_machineFlutter 4 = .ok (.iconst 1, 1) := by decide +kernel
theorem dX4_machineFlutter_5 : decode cX4_machineFlutter 5 = .ok (.iaload, 1) := by decide +kernel
theorem dX4_machineFlutter_6 : decode cX4_machineFlutter 6 = .ok (.bipush 50, 2) := by decide +kernel
theorem dX4_machineFlutter_8 : decode cX4_machineFlutter 8 = .ok (.if_icmp .lt 7, 3) := by decide +kernel
theorem dX4_machineFlutter_11 : decode cX4_machineFlutter 11 = .ok (.iconst 0, 1) := by decide +kernel
theorem dX4_machineFlutter_12 : decode cX4_machineFlutter 12 = .ok (.goto 14, 3) := by decide +kernel
theorem dX4_machineFlutter_15 : decode cX4_machineFlutter 15 = .ok (.bipush 50, 2) := by decide +kernel
theorem dX4_machineFlutter_17 : decode cX4_machineFlutter 17 = .ok (.aload_n 0, 1) := by decide +kernel
theorem dX4_machineFlutter_18 : decode cX4_machineFlutter 18 = .ok (.getfield 7, 3) := by decide +kernel
theorem dX4_machineFlutter_21 : decode cX4_machineFlutter 21 = .ok (.iconst 1, 1) := by decide +kernel
theorem dX4_machineFlutter_22 : decode cX4_machineFlutter 22 = .ok (.iaload, 1) := by decide +kernel
theorem dX4_machineFlutter_23 : decode cX4_machineFlutter 23 = .ok (.isub, 1) := by decide +kernel
theorem dX4_machineFlutter_24 : decode cX4_machineFlutter 24 = .ok (.iconst 5, 1) := by decide +kernel
theorem dX4_machineFlutter_25 : decode cX4_machineFlutter 25 = .ok (.idiv, 1) := by decide +kernel
theorem dX4_machineFlutter_26 : decode cX4_machineFlutter 26 = .ok (.ireturn, 1) := by decide +kernel
theorem dX4_bluntness_0 : decode cX4_bluntness 0 = .ok (.bipush 100, 2) := by decide +kernel
theorem dX4_bluntness_2 : decode cX4_bluntness 2 = .ok (.iload_n 0, 1) := by decide +kernel
theorem dX4_bluntness_3 : decode cX4_bluntness 3 = .ok (.isub, 1) := by decide +kernel
theorem dX4_bluntness_4 : decode cX4_bluntness 4 = .ok (.iconst 4, 1) := by decide +kernel
theorem dX4_bluntness_5 : decode cX4_bluntness 5 = .ok (.idiv, 1) := by decide +kernel
theorem dX4_bluntness_6 : decode cX4_bluntness 6 = .ok (.ireturn, 1) := by decide +kernel
theorem dX4_depthBy_0 : decode cX4_depthBy 0 = .ok (.iload_n 0, 1) := by decide +kernel
theorem dX4_depthBy_1 : decode cX4_depthBy 1 = .ok (.iload_n 1, 1) := by decide +kernel
theorem dX4_depthBy_2 : decode cX4_depthBy 2 = .ok (.imul, 1) := by decide +kernel
theorem dX4_depthBy_3 : decode cX4_depthBy 3 = .ok (.iconst 2, 1) := by decide +kernel
theorem dX4_depthBy_4 : decode cX4_depthBy 4 = .ok (.idiv, 1) := by decide +kernel
theorem dX4_depthBy_5 : decode cX4_depthBy 5 = .ok (.istore_n 2, 1) := by decide +kernel
theorem dX4_depthBy_6 : decode cX4_depthBy 6 = .ok (.iload_n 2, 1) := by decide +kernel
theorem dX4_depthBy_7 : decode cX4_depthBy 7 = .ok (.iconst 1, 1) := by decide +kernel
theorem dX4_depthBy_8 : decode cX4_depthBy 8 = .ok (.if_icmp .ge 7, 3) := by decide +kernel
theorem dX4_depthBy_11 : decode cX4_depthBy 11 = .ok (.iconst 1, 1) := by decide +kernel
theorem dX4_depthBy_12 : decode cX4_depthBy 12 = .ok (.goto 15, 3) := by decide +kernel
theorem dX4_depthBy_15 : decode cX4_depthBy 15 = .ok (.iload_n 2, 1) := by decide +kernel
theorem dX4_depthBy_16 : decode cX4_depthBy 16 = .ok (.bipush 9, 2) := by decide +kernel
theorem dX4_depthBy_18 : decode cX4_depthBy 18 = .ok (.if_icmp .le 8, 3) := by decide +kernel
theorem dX4_depthBy_21 : decode cX4_depthBy 21 = .ok (.bipush 9, 2) := by decide +kernel
theorem dX4_depthBy_23 : decode cX4_depthBy 23 = .ok (.goto 4, 3) := by decide +kernel
theorem dX4_depthBy_26 : decode cX4_depthBy 26 = .ok (.iload_n 2, 1) := by decide +kernel
theorem dX4_depthBy_27 : decode cX4_depthBy 27 = .ok (.ireturn, 1) := by decide +kernel
set_option maxRecDepth 20000 in
theorem ggX4_smooths_X4_at : GoodIn wsX4_smooths wsX4_at := goodIn_r _ [5] (by decide +kernel) (by decide +kernel)
set_option maxRecDepth 20000 in
theorem gX4_smooths_X4_at : GoodIn wsX4_smooths (va_wsS RX4 42 yX4_at wsX4_at) := goodIn_app (goodIn_of _ (by decide +kernel)) ggX4_smooths_X4_at
theorem dX4_smooths_0 : decode cX4_smooths 0 = .ok (.iconst 4, 1) := by decide +kernel
theorem dX4_smooths_1 : decode cX4_smooths 1 = .ok (.iload_n 1, 1) := by decide +kernel
theorem dX4_smooths_2 : decode cX4_smooths 2 = .ok (.imul, 1) := by decide +kernel
theorem dX4_smooths_3 : decode cX4_smooths 3 = .ok (.istore_n 2, 1) := by decide +kernel
theorem dX4_smooths_4 : decode cX4_smooths 4 = .ok (.iload_n 2, 1) := by decide +kernel
theorem dX4_smooths_5 : decode cX4_smooths 5 = .ok (.iconst 4, 1) := by decide +kernel
theorem dX4_smooths_6 : decode cX4_smooths 6 = .ok (.iload_n 1, 1) := by decide +kernel
theorem dX4_smooths_7 : decode cX4_smooths 7 = .ok (.imul, 1) := by decide +kernel
theorem dX4_smooths_8 : decode cX4_smooths 8 = .ok (.iconst 4, 1) := by decide +kernel
theorem dX4_smooths_9 : decode cX4_smooths 9 = .ok (.iadd, 1) := by decide +kernel
theorem dX4_smooths_10 : decode cX4_smooths 10 = .ok (.if_icmp .ge 19, 3) := by decide +kernel
theorem dX4_smooths_13 : decode cX4_smooths 13 = .ok (.aload_n 0, 1) := by decide +kernel
theorem dX4_smooths_14 : decode cX4_smooths 14 = .ok (.getfield 7, 3) := by decide +kernel
theorem dX4_smooths_17 : decode cX4_smooths 17 = .ok (.iload_n 2, 1) := by decide +kernel
theorem dX4_smooths_18 : decode cX4_smooths 18 = .ok (.invokestatic 42, 3) := by decide +kernel
theorem dX4_smooths_21 : decode cX4_smooths 21 = .ok (.iconst 0, 1) := by decide +kernel
theorem dX4_smooths_22 : decode cX4_smooths 22 = .ok (.iastore, 1) := by decide +kernel
theorem dX4_smooths_23 : decode cX4_smooths 23 = .ok (.iinc 2 1, 3) := by decide +kernel
theorem dX4_smooths_26 : decode cX4_smooths 26 = .ok (.goto (-22), 3) := by decide +kernel
theorem dX4_smooths_29 : decode cX4_smooths 29 = .ok (.return_, 1) := by decide +kernel
set_option maxRecDepth 20000 in
theorem ggX4_deepest_X4_at : GoodIn wsX4_deepest wsX4_at := goodIn_r _ [5] (by decide +kernel) (by decide +kernel)
set_option maxRecDepth 20000 in
theorem gX4_deepest_X4_at : GoodIn wsX4_deepest (va_wsS RX4 42 yX4_at wsX4_at) := goodIn_app (goodIn_of _ (by decide +kernel)) ggX4_deepest_X4_at
set_option maxRecDepth 20000 in
theorem ggX4_deepest_X4_atLeast : GoodIn wsX4_deepest wsX4_atLeast := goodIn_r _ [8] (by decide +kernel) (by decide +kernel)
set_option maxRecDepth 20000 in
theorem gX4_deepest_X4_atLeast : GoodIn wsX4_deepest (va_wsS RX4 50 yX4_atLeast wsX4_atLeast) := goodIn_app (goodIn_of _ (by decide +kernel)) ggX4_deepest_X4_atLeast
theorem dX4_deepest_0 : decode cX4_deepest 0 = .ok (.iconst 0, 1) := by decide +kernel
theorem dX4_deepest_1 : decode cX4_deepest 1 = .ok (.istore_n 2, 1) := by decide +kernel
theorem dX4_deepest_2 : decode cX4_deepest 2 = .ok (.iconst 4, 1) := by decide +kernel
theorem dX4_deepest_3 : decode cX4_deepest 3 = .ok (.iload_n 1, 1) := by decide +kernel
theorem dX4_deepest_4 : decode cX4_deepest 4 = .ok (.imul, 1) := by decide +kernel
theorem dX4_deepest_5 : decode cX4_deepest 5 = .ok (.istore_n 3, 1) := by decide +kernel
theorem dX4_deepest_6 : decode cX4_deepest 6 = .ok (.iload_n 3, 1) := by decide +kernel
theorem dX4_deepest_7 : decode cX4_deepest 7 = .ok (.iconst 4, 1) := by decide +kernel
theorem dX4_deepest_8 : decode cX4_deepest 8 = .ok (.iload_n 1, 1) := by decide +kernel
theorem dX4_deepest_9 : decode cX4_deepest 9 = .ok (.imul, 1) := by decide +kernel
theorem dX4_deepest_10 : decode cX4_deepest 10 = .ok (.iconst 4, 1) := by decide +kernel
theorem dX4_deepest_11 : decode cX4_deepest 11 = .ok (.iadd, 1) := by decide +kernel
theorem dX4_deepest_12 : decode cX4_deepest 12 = .ok (.if_icmp .ge 23, 3) := by decide +kernel
theorem dX4_deepest_15 : decode cX4_deepest 15 = .ok (.aload_n 0, 1) := by decide +kernel
theorem dX4_deepest_16 : decode cX4_deepest 16 = .ok (.getfield 7, 3) := by decide +kernel
theorem dX4_deepest_19 : decode cX4_deepest 19 = .ok (.iload_n 3, 1) := by decide +kernel
theorem dX4_deepest_20 : decode cX4_deepest 20 = .ok (.invokestatic 42, 3) := by decide +kernel
theorem dX4_deepest_23 : decode cX4_deepest 23 = .ok (.iaload, 1) := by decide +kernel
theorem dX4_deepest_24 : decode cX4_deepest 24 = .ok (.iload_n 2, 1) := by decide +kernel
theorem dX4_deepest_25 : decode cX4_deepest 25 = .ok (.invokestatic 50, 3) := by decide +kernel
theorem dX4_deepest_28 : decode cX4_deepest 28 = .ok (.istore_n 2, 1) := by decide +kernel
theorem dX4_deepest_29 : decode cX4_deepest 29 = .ok (.iinc 3 1, 3) := by decide +kernel
theorem dX4_deepest_32 : decode cX4_deepest 32 = .ok (.goto (-26), 3) := by decide +kernel
theorem dX4_deepest_35 : decode cX4_deepest 35 = .ok (.iload_n 2, 1) := by decide +kernel
theorem dX4_deepest_36 : decode cX4_deepest 36 = .ok (.ireturn, 1) := by decide +kernel
set_option maxRecDepth 20000 in
theorem ggX4_cuts__X4_at : GoodIn wsX4_cuts_ wsX4_at := goodIn_r _ [5] (by decide +kernel) (by decide +kernel)
set_option maxRecDepth 20000 in
theorem gX4_cuts__X4_at : GoodIn wsX4_cuts_ (va_wsS RX4 42 yX4_at wsX4_at) := goodIn_app (goodIn_of _ (by decide +kernel)) ggX4_cuts__X4_at
set_option maxRecDepth 20000 in
theorem ggX4_cuts__X4_atLeast : GoodIn wsX4_cuts_ wsX4_atLeast := goodIn_r _ [8] (by decide +kernel) (by decide +kernel)
set_option maxRecDepth 20000 in
theorem gX4_cuts__X4_atLeast : GoodIn wsX4_cuts_ (va_wsS RX4 50 yX4_atLeast wsX4_atLeast) := goodIn_app (goodIn_of _ (by decide +kernel)) ggX4_cuts__X4_atLeast
theorem dX4_cuts__0 : decode cX4_cuts_ 0 = .ok (.iload_n 1, 1) := by decide +kernel
theorem dX4_cuts__1 : decode cX4_cuts_ 1 = .ok (.invokestatic 42, 3) := by decide +kernel
theorem dX4_cuts__4 : decode cX4_cuts_ 4 = .ok (.istore 8, 2) := by decide +kernel
theorem dX4_cuts__6 : decode cX4_cuts_ 6 = .ok (.aload_n 0, 1) := by decide +kernel
theorem dX4_cuts__7 : decode cX4_cuts_ 7 = .ok (.getfield 7, 3) := by decide +kernel
theorem dX4_cuts__10 : decode cX4_cuts_ 10 = .ok (.iload 8, 2) := by decide +kernel
theorem dX4_cuts__12 : decode cX4_cuts_ 12 = .ok (.iload_n 2, 1) := by decide +kernel
theorem dX4_cuts__13 : decode cX4_cuts_ 13 = .ok (.iastore, 1) := by decide +kernel
theorem dX4_cuts__14 : decode cX4_cuts_ 14 = .ok (.aload_n 0, 1) := by decide +kernel
theorem dX4_cuts__15 : decode cX4_cuts_ 15 = .ok (.getfield 7, 3) := by decide +kernel
theorem dX4_cuts__18 : decode cX4_cuts_ 18 = .ok (.iload 8, 2) := by decide +kernel
theorem dX4_cuts__20 : decode cX4_cuts_ 20 = .ok (.iconst 1, 1) := by decide +kernel
theorem dX4_cuts__21 : decode cX4_cuts_ 21 = .ok (.iadd, 1) := by decide +kernel
theorem dX4_cuts__22 : decode cX4_cuts_ 22 = .ok (.iload_n 3, 1) := by decide +kernel
theorem dX4_cuts__23 : decode cX4_cuts_ 23 = .ok (.iastore, 1) := by decide +kernel
theorem dX4_cuts__24 : decode cX4_cuts_ 24 = .ok (.aload_n 0, 1) := by decide +kernel
theorem dX4_cuts__25 : decode cX4_cuts_ 25 = .ok (.getfield 7, 3) := by decide +kernel
theorem dX4_cuts__28 : decode cX4_cuts_ 28 = .ok (.iload 8, 2) := by decide +kernel
theorem dX4_cuts__30 : decode cX4_cuts_ 30 = .ok (.iconst 2, 1) := by decide +kernel
theorem dX4_cuts__31 : decode cX4_cuts_ 31 = .ok (.iadd, 1) := by decide +kernel
theorem dX4_cuts__32 : decode cX4_cuts_ 32 = .ok (.iload 4, 2) := by decide +kernel
theorem dX4_cuts__34 : decode cX4_cuts_ 34 = .ok (.iastore, 1) := by decide +kernel
theorem dX4_cuts__35 : decode cX4_cuts_ 35 = .ok (.aload_n 0, 1) := by decide +kernel
theorem dX4_cuts__36 : decode cX4_cuts_ 36 = .ok (.getfield 7, 3) := by decide +kernel
theorem dX4_cuts__39 : decode cX4_cuts_ 39 = .ok (.iload 8, 2) := by decide +kernel
theorem dX4_cuts__41 : decode cX4_cuts_ 41 = .ok (.iconst 3, 1) := by decide +kernel
theorem dX4_cuts__42 : decode cX4_cuts_ 42 = .ok (.iadd, 1) := by decide +kernel
theorem dX4_cuts__43 : decode cX4_cuts_ 43 = .ok (.iload 5, 2) := by decide +kernel
theorem dX4_cuts__45 : decode cX4_cuts_ 45 = .ok (.iastore, 1) := by decide +kernel
theorem dX4_cuts__46 : decode cX4_cuts_ 46 = .ok (.aload_n 0, 1) := by decide +kernel
theorem dX4_cuts__47 : decode cX4_cuts_ 47 = .ok (.getfield 7, 3) := by decide +kernel
theorem dX4_cuts__50 : decode cX4_cuts_ 50 = .ok (.iload 8, 2) := by decide +kernel
theorem dX4_cuts__52 : decode cX4_cuts_ 52 = .ok (.iconst 4, 1) := by decide +kernel
theorem dX4_cuts__53 : decode cX4_cuts_ 53 = .ok (.iadd, 1) := by decide +kernel
theorem dX4_cuts__54 : decode cX4_cuts_ 54 = .ok (.iload 6, 2) := by decide +kernel
theorem dX4_cuts__56 : decode cX4_cuts_ 56 = .ok (.iastore, 1) := by decide +kernel
theorem dX4_cuts__57 : decode cX4_cuts_ 57 = .ok (.aload_n 0, 1) := by decide +kernel
theorem dX4_cuts__58 : decode cX4_cuts_ 58 = .ok (.getfield 7, 3) := by decide +kernel
theorem dX4_cuts__61 : decode cX4_cuts_ 61 = .ok (.iload 8, 2) := by decide +kernel
theorem dX4_cuts__63 : decode cX4_cuts_ 63 = .ok (.iconst 5, 1) := by decide +kernel
theorem dX4_cuts__64 : decode cX4_cuts_ 64 = .ok (.iadd, 1) := by decide +kernel
theorem dX4_cuts__65 : decode cX4_cuts_ 65 = .ok (.iload_n 3, 1) := by decide +kernel
theorem dX4_cuts__66 : decode cX4_cuts_ 66 = .ok (.iastore, 1) := by decide +kernel
theorem dX4_cuts__67 : decode cX4_cuts_ 67 = .ok (.aload_n 0, 1) := by decide +kernel
theorem dX4_cuts__68 : decode cX4_cuts_ 68 = .ok (.getfield 7, 3) := by decide +kernel
theorem dX4_cuts__71 : decode cX4_cuts_ 71 = .ok (.iload 8, 2) := by decide +kernel
theorem dX4_cuts__73 : decode cX4_cuts_ 73 = .ok (.bipush 6, 2) := by decide +kernel
theorem dX4_cuts__75 : decode cX4_cuts_ 75 = .ok (.iadd, 1) := by decide +kernel
theorem dX4_cuts__76 : decode cX4_cuts_ 76 = .ok (.iconst 0, 1) := by decide +kernel
theorem dX4_cuts__77 : decode cX4_cuts_ 77 = .ok (.iastore, 1) := by decide +kernel
theorem dX4_cuts__78 : decode cX4_cuts_ 78 = .ok (.aload_n 0, 1) := by decide +kernel
theorem dX4_cuts__79 : decode cX4_cuts_ 79 = .ok (.getfield 7, 3) := by decide +kernel
theorem dX4_cuts__82 : decode cX4_cuts_ 82 = .ok (.iconst 0, 1) := by decide +kernel
theorem dX4_cuts__83 : decode cX4_cuts_ 83 = .ok (.aload_n 0, 1) := by decide +kernel
theorem dX4_cuts__84 : decode cX4_cuts_ 84 = .ok (.getfield 7, 3) := by decide +kernel
theorem dX4_cuts__87 : decode cX4_cuts_ 87 = .ok (.iconst 0, 1) := by decide +kernel
theorem dX4_cuts__88 : decode cX4_cuts_ 88 = .ok (.iaload, 1) := by decide +kernel
theorem dX4_cuts__89 : decode cX4_cuts_ 89 = .ok (.iload_n 2, 1) := by decide +kernel
theorem dX4_cuts__90 : decode cX4_cuts_ 90 = .ok (.isub, 1) := by decide +kernel
theorem dX4_cuts__91 : decode cX4_cuts_ 91 = .ok (.iconst 0, 1) := by decide +kernel
theorem dX4_cuts__92 : decode cX4_cuts_ 92 = .ok (.invokestatic 50, 3) := by decide +kernel
theorem dX4_cuts__95 : decode cX4_cuts_ 95 = .ok (.iastore, 1) := by decide +kernel
theorem dX4_cuts__96 : decode cX4_cuts_ 96 = .ok (.aload_n 0, 1) := by decide +kernel
theorem dX4_cuts__97 : decode cX4_cuts_ 97 = .ok (.getfield 7, 3) := by decide +kernel
theorem dX4_cuts__100 : decode cX4_cuts_ 100 = .ok (.iconst 1, 1) := by decide +kernel
theorem dX4_cuts__101 : decode cX4_cuts_ 101 = .ok (.dup2, 1) := by decide +kernel
theorem dX4_cuts__102 : decode cX4_cuts_ 102 = .ok (.iaload, 1) := by decide +kernel
theorem dX4_cuts__103 : decode cX4_cuts_ 103 = .ok (.iload 7, 2) := by decide +kernel
theorem dX4_cuts__105 : decode cX4_cuts_ 105 = .ok (.isub, 1) := by decide +kernel
theorem dX4_cuts__106 : decode cX4_cuts_ 106 = .ok (.iastore, 1) := by decide +kernel
theorem dX4_cuts__107 : decode cX4_cuts_ 107 = .ok (.return_, 1) := by decide +kernel
set_option maxRecDepth 20000 in
theorem ggX4_speakReason_X4_isCut : GoodIn wsX4_speakReason wsX4_isCut := goodIn_r _ [6, 1, 7, 8, 5, 9, 14, 15, 16, 17, 18, 19, 20, 21, 22, 23, 24, 25] (by decide +kernel) (by decide +kernel)
set_option maxRecDepth 20000 in
theorem gX4_speakReason_X4_isCut : GoodIn wsX4_speakReason (wsV RX4 46 RX4 yX4_isCut wsX4_isCut) := goodIn_app (goodIn_of _ (by decide +kernel)) ggX4_speakReason_X4_isCut
set_option maxRecDepth 20000 in
theorem ggX4_speakReason_X4_layers : GoodIn wsX4_speakReason wsX4_layers := goodIn_r _ [13, 1, 14, 15, 16, 17, 18, 19, 20, 21, 22, 23, 24, 25] (by decide +kernel) (by decide +kernel)
set_option maxRecDepth 20000 in
theorem gX4_speakReason_X4_layers : GoodIn wsX4_speakReason (wsV RX4 54 RX4 yX4_layers wsX4_layers) := goodIn_app (goodIn_of _ (by decide +kernel)) ggX4_speakReason_X4_layers
theorem dX4_speakReason_0 : decode cX4_speakReason 0 = .ok (.aload_n 0, 1) := by decide +kernel
theorem dX4_speakReason_1 : decode cX4_speakReason 1 = .ok (.iload_n 1, 1) := by decide +kernel
theorem dX4_speakReason_2 : decode cX4_speakReason 2 = .ok (.invokevirtual 46, 3) := by decide +kernel
theorem dX4_speakReason_5 : decode cX4_speakReason 5 = .ok (.ifCond .eq 7, 3) := by decide +kernel
theorem dX4_speakReason_8 : decode cX4_speakReason 8 = .ok (.iconst 1, 1) := by decide +kernel
theorem dX4_speakReason_9 : decode cX4_speakReason 9 = .ok (.goto 32, 3) := by decide +kernel
theorem dX4_speakReason_12 : decode cX4_speakReason 12 = .ok (.aload_n 0, 1) := by decide +kernel
theorem dX4_speakReason_13 : decode cX4_speakReason 13 = .ok (.iload_n 1, 1) := by decide +kernel
theorem dX4_speakReason_14 : decode cX4_speakReason 14 = .ok (.invokevirtual 54, 3) := by decide +kernel
theorem dX4_speakReason_17 : decode cX4_speakReason 17 = .ok (.iload_n 2, 1) := by decide +kernel
theorem dX4_speakReason_18 : decode cX4_speakReason 18 = .ok (.if_icmp .ge 7, 3) := by decide +kernel
theorem dX4_speakReason_21 : decode cX4_speakReason 21 = .ok (.iconst 2, 1) := by decide +kernel
theorem dX4_speakReason_22 : decode cX4_speakReason 22 = .ok (.goto 19, 3) := by decide +kernel
theorem dX4_speakReason_25 : decode cX4_speakReason 25 = .ok (.aload_n 0, 1) := by decide +kernel
theorem dX4_speakReason_26 : decode cX4_speakReason 26 = .ok (.getfield 7, 3) := by decide +kernel
theorem dX4_speakReason_29 : decode cX4_speakReason 29 = .ok (.iconst 1, 1) := by decide +kernel
theorem dX4_speakReason_30 : decode cX4_speakReason 30 = .ok (.iaload, 1) := by decide +kernel
theorem dX4_speakReason_31 : decode cX4_speakReason 31 = .ok (.bipush 10, 2) := by decide +kernel
theorem dX4_speakReason_33 : decode cX4_speakReason 33 = .ok (.if_icmp .ge 7, 3) := by decide +kernel
theorem dX4_speakReason_36 : decode cX4_speakReason 36 = .ok (.iconst 3, 1) := by decide +kernel
theorem dX4_speakReason_37 : decode cX4_speakReason 37 = .ok (.goto 4, 3) := by decide +kernel
theorem dX4_speakReason_40 : decode cX4_speakReason 40 = .ok (.iconst 0, 1) := by decide +kernel
theorem dX4_speakReason_41 : decode cX4_speakReason 41 = .ok (.ireturn, 1) := by decide +kernel
set_option maxRecDepth 20000 in
theorem ggX4_copyReason_X4_isCut : GoodIn wsX4_copyReason wsX4_isCut := goodIn_r _ [6, 1, 7, 8, 5, 9, 17, 18, 19, 20, 21, 22, 23, 24, 25, 26, 27, 28] (by decide +kernel) (by decide +kernel)
set_option maxRecDepth 20000 in
theorem gX4_copyReason_X4_isCut : GoodIn wsX4_copyReason (wsV RX4 46 RX4 yX4_isCut wsX4_isCut) := goodIn_app (goodIn_of _ (by decide +kernel)) ggX4_copyReason_X4_isCut
set_option maxRecDepth 20000 in
theorem ggX4_copyReason_X4_layers : GoodIn wsX4_copyReason wsX4_layers := goodIn_r _ [13, 1, 17, 18, 19, 20, 21, 22, 23, 24, 25, 26, 27, 28] (by decide +kernel) (by decide +kernel)
set_option maxRecDepth 20000 in
theorem gX4_copyReason_X4_layers : GoodIn wsX4_copyReason (wsV RX4 54 RX4 yX4_layers wsX4_layers) := goodIn_app (goodIn_of _ (by decide +kernel)) ggX4_copyReason_X4_layers
set_option maxRecDepth 20000 in
theorem ggX4_copyReason_X4_at : GoodIn wsX4_copyReason wsX4_at := goodIn_r _ [9] (by decide +kernel) (by decide +kernel)
set_option maxRecDepth 20000 in
theorem gX4_copyReason_X4_at : GoodIn wsX4_copyReason (va_wsS RX4 42 yX4_at wsX4_at) := goodIn_app (goodIn_of _ (by decide +kernel)) ggX4_copyReason_X4_at
set_option maxRecDepth 20000 in
theorem ggX4_copyReason_X4_depthBy : GoodIn wsX4_copyReason wsX4_depthBy := goodIn_r _ [16] (by decide +kernel) (by decide +kernel)
set_option maxRecDepth 20000 in
theorem gX4_copyReason_X4_depthBy : GoodIn wsX4_copyReason (va_wsS RX4 57 yX4_depthBy wsX4_depthBy) := goodIn_app (goodIn_of _ (by decide +kernel)) ggX4_copyReason_X4_depthBy
theorem dX4_copyReason_0 : decode cX4_copyReason 0 = .ok (.aload_n 0, 1) := by decide +kernel
theorem dX4_copyReason_1 : decode cX4_copyReason 1 = .ok (.iload_n 1, 1) := by decide +kernel
theorem dX4_copyReason_2 : decode cX4_copyReason 2 = .ok (.invokevirtual 46, 3) := by decide +kernel
theorem dX4_copyReason_5 : decode cX4_copyReason 5 = .ok (.ifCond .ne 5, 3) := by decide +kernel
theorem dX4_copyReason_8 : decode cX4_copyReason 8 = .ok (.iconst 1, 1) := by decide +kernel
theorem dX4_copyReason_9 : decode cX4_copyReason 9 = .ok (.ireturn, 1) := by decide +kernel
theorem dX4_copyReason_10 : decode cX4_copyReason 10 = .ok (.aload_n 0, 1) := by decide +kernel
theorem dX4_copyReason_11 : decode cX4_copyReason 11 = .ok (.iload_n 2, 1) := by decide +kernel
theorem dX4_copyReason_12 : decode cX4_copyReason 12 = .ok (.invokevirtual 46, 3) := by decide +kernel
theorem dX4_copyReason_15 : decode cX4_copyReason 15 = .ok (.ifCond .eq 5, 3) := by decide +kernel
theorem dX4_copyReason_18 : decode cX4_copyReason 18 = .ok (.iconst 2, 1) := by decide +kernel
theorem dX4_copyReason_19 : decode cX4_copyReason 19 = .ok (.ireturn, 1) := by decide +kernel
theorem dX4_copyReason_20 : decode cX4_copyReason 20 = .ok (.iload_n 1, 1) := by decide +kernel
theorem dX4_copyReason_21 : decode cX4_copyReason 21 = .ok (.iconst 4, 1) := by decide +kernel
theorem dX4_copyReason_22 : decode cX4_copyReason 22 = .ok (.idiv, 1) := by decide +kernel
theorem dX4_copyReason_23 : decode cX4_copyReason 23 = .ok (.iload_n 2, 1) := by decide +kernel
theorem dX4_copyReason_24 : decode cX4_copyReason 24 = .ok (.iconst 4, 1) := by decide +kernel
theorem dX4_copyReason_25 : decode cX4_copyReason 25 = .ok (.idiv, 1) := by decide +kernel
theorem dX4_copyReason_26 : decode cX4_copyReason 26 = .ok (.if_icmp .ne 5, 3) := by decide +kernel
theorem dX4_copyReason_29 : decode cX4_copyReason 29 = .ok (.iconst 3, 1) := by decide +kernel
theorem dX4_copyReason_30 : decode cX4_copyReason 30 = .ok (.ireturn, 1) := by decide +kernel
theorem dX4_copyReason_31 : decode cX4_copyReason 31 = .ok (.aload_n 0, 1) := by decide +kernel
theorem dX4_copyReason_32 : decode cX4_copyReason 32 = .ok (.iload_n 2, 1) := by decide +kernel
theorem dX4_copyReason_33 : decode cX4_copyReason 33 = .ok (.invokevirtual 54, 3) := by decide +kernel
theorem dX4_copyReason_36 : decode cX4_copyReason 36 = .ok (.aload_n 0, 1) := by decide +kernel
theorem dX4_copyReason_37 : decode cX4_copyReason 37 = .ok (.getfield 7, 3) := by decide +kernel
theorem dX4_copyReason_40 : decode cX4_copyReason 40 = .ok (.iload_n 1, 1) := by decide +kernel
theorem dX4_copyReason_41 : decode cX4_copyReason 41 = .ok (.invokestatic 42, 3) := by decide +kernel
theorem dX4_copyReason_44 : decode cX4_copyReason 44 = .ok (.iaload, 1) := by decide +kernel
theorem dX4_copyReason_45 : decode cX4_copyReason 45 = .ok (.iload_n 3, 1) := by decide +kernel
theorem dX4_copyReason_46 : decode cX4_copyReason 46 = .ok (.invokestatic 57, 3) := by decide +kernel
theorem dX4_copyReason_49 : decode cX4_copyReason 49 = .ok (.if_icmp .ge 7, 3) := by decide +kernel
theorem dX4_copyReason_52 : decode cX4_copyReason 52 = .ok (.iconst 4, 1) := by decide +kernel
theorem dX4_copyReason_53 : decode cX4_copyReason 53 = .ok (.goto 19, 3) := by decide +kernel
theorem dX4_copyReason_56 : decode cX4_copyReason 56 = .ok (.aload_n 0, 1) := by decide +kernel
theorem dX4_copyReason_57 : decode cX4_copyReason 57 = .ok (.getfield 7, 3) := by decide +kernel
theorem dX4_copyReason_60 : decode cX4_copyReason 60 = .ok (.iconst 1, 1) := by decide +kernel
theorem dX4_copyReason_61 : decode cX4_copyReason 61 = .ok (.iaload, 1) := by decide +kernel
theorem dX4_copyReason_62 : decode cX4_copyReason 62 = .ok (.bipush 20, 2) := by decide +kernel
theorem dX4_copyReason_64 : decode cX4_copyReason 64 = .ok (.if_icmp .ge 7, 3) := by decide +kernel
theorem dX4_copyReason_67 : decode cX4_copyReason 67 = .ok (.iconst 5, 1) := by decide +kernel
theorem dX4_copyReason_68 : decode cX4_copyReason 68 = .ok (.goto 4, 3) := by decide +kernel
theorem dX4_copyReason_71 : decode cX4_copyReason 71 = .ok (.iconst 0, 1) := by decide +kernel
theorem dX4_copyReason_72 : decode cX4_copyReason 72 = .ok (.ireturn, 1) := by decide +kernel
set_option maxRecDepth 20000 in
theorem ggX4_playReason_X4_isCut : GoodIn wsX4_playReason wsX4_isCut := goodIn_r _ [6, 1, 7, 8, 5, 9, 10, 11, 12, 13, 14, 15, 16, 17, 18, 19, 20, 21] (by decide +kernel) (by decide +kernel)
set_option maxRecDepth 20000 in
theorem gX4_playReason_X4_isCut : GoodIn wsX4_playReason (wsV RX4 46 RX4 yX4_isCut wsX4_isCut) := goodIn_app (goodIn_of _ (by decide +kernel)) ggX4_playReason_X4_isCut
theorem dX4_playReason_0 : decode cX4_playReason 0 = .ok (.aload_n 0, 1) := by decide +kernel
theorem dX4_playReason_1 : decode cX4_playReason 1 = .ok (.iload_n 1, 1) := by decide +kernel
theorem dX4_playReason_2 : decode cX4_playReason 2 = .ok (.invokevirtual 46, 3) := by decide +kernel
theorem dX4_playReason_5 : decode cX4_playReason 5 = .ok (.ifCond .ne 7, 3) := by decide +kernel
theorem dX4_playReason_8 : decode cX4_playReason 8 = .ok (.iconst 1, 1) := by decide +kernel
theorem dX4_playReason_9 : decode cX4_playReason 9 = .ok (.goto 18, 3) := by decide +kernel
theorem dX4_playReason_12 : decode cX4_playReason 12 = .ok (.aload_n 0, 1) := by decide +kernel
theorem dX4_playReason_13 : decode cX4_playReason 13 = .ok (.getfield 7, 3) := by decide +kernel
theorem dX4_playReason_16 : decode cX4_playReason 16 = .ok (.iconst 1, 1) := by decide +kernel
theorem dX4_playReason_17 : decode cX4_playReason 17 = .ok (.iaload, 1) := by decide +kernel
theorem dX4_playReason_18 : decode cX4_playReason 18 = .ok (.iconst 5, 1) := by decide +kernel
theorem dX4_playReason_19 : decode cX4_playReason 19 = .ok (.if_icmp .ge 7, 3) := by decide +kernel
theorem dX4_playReason_22 : decode cX4_playReason 22 = .ok (.iconst 2, 1) := by decide +kernel
theorem dX4_playReason_23 : decode cX4_playReason 23 = .ok (.goto 4, 3) := by decide +kernel
theorem dX4_playReason_26 : decode cX4_playReason 26 = .ok (.iconst 0, 1) := by decide +kernel
theorem dX4_playReason_27 : decode cX4_playReason 27 = .ok (.ireturn, 1) := by decide +kernel
set_option maxRecDepth 20000 in
theorem ggX4_clearOfCopy_X4_at : GoodIn wsX4_clearOfCopy wsX4_at := goodIn_r _ [5] (by decide +kernel) (by decide +kernel)
set_option maxRecDepth 20000 in
theorem gX4_clearOfCopy_X4_at : GoodIn wsX4_clearOfCopy (va_wsS RX4 42 yX4_at wsX4_at) := goodIn_app (goodIn_of _ (by decide +kernel)) ggX4_clearOfCopy_X4_at
set_option maxRecDepth 20000 in
theorem ggX4_clearOfCopy_X4_bluntness : GoodIn wsX4_clearOfCopy wsX4_bluntness := goodIn_r _ [8] (by decide +kernel) (by decide +kernel)
set_option maxRecDepth 20000 in
theorem gX4_clearOfCopy_X4_bluntness : GoodIn wsX4_clearOfCopy (va_wsS RX4 60 yX4_bluntness wsX4_bluntness) := goodIn_app (goodIn_of _ (by decide +kernel)) ggX4_clearOfCopy_X4_bluntness
set_option maxRecDepth 20000 in
theorem ggX4_clearOfCopy_X4_machineFlutter : GoodIn wsX4_clearOfCopy wsX4_machineFlutter := goodIn_r _ [12, 1, 16, 17, 18, 19, 20, 21, 22, 23, 24, 25, 26, 27] (by decide +kernel) (by decide +kernel)
set_option maxRecDepth 20000 in
theorem gX4_clearOfCopy_X4_machineFlutter : GoodIn wsX4_clearOfCopy (wsV RX4 63 RX4 yX4_machineFlutter wsX4_machineFlutter) := goodIn_app (goodIn_of _ (by decide +kernel)) ggX4_clearOfCopy_X4_machineFlutter
set_option maxRecDepth 20000 in
theorem ggX4_clearOfCopy_X4_atLeast : GoodIn wsX4_clearOfCopy wsX4_atLeast := goodIn_r _ [15] (by decide +kernel) (by decide +kernel)
set_option maxRecDepth 20000 in
theorem gX4_clearOfCopy_X4_atLeast : GoodIn wsX4_clearOfCopy (va_wsS RX4 50 yX4_atLeast wsX4_atLeast) := goodIn_app (goodIn_of _ (by decide +kernel)) ggX4_clearOfCopy_X4_atLeast
theorem dX4_clearOfCopy_0 : decode cX4_clearOfCopy 0 = .ok (.aload_n 0, 1) := by decide +kernel
theorem dX4_clearOfCopy_1 : decode cX4_clearOfCopy 1 = .ok (.getfield 7, 3) := by decide +kernel
theorem dX4_clearOfCopy_4 : decode cX4_clearOfCopy 4 = .ok (.iload_n 1, 1) := by decide +kernel
theorem dX4_clearOfCopy_5 : decode cX4_clearOfCopy 5 = .ok (.invokestatic 42, 3) := by decide +kernel
theorem dX4_clearOfCopy_8 : decode cX4_clearOfCopy 8 = .ok (.iconst 1, 1) := by decide +kernel
theorem dX4_clearOfCopy_9 : decode cX4_clearOfCopy 9 = .ok (.iadd, 1) := by decide +kernel
theorem dX4_clearOfCopy_10 : decode cX4_clearOfCopy 10 = .ok (.iaload, 1) := by decide +kernel
theorem dX4_clearOfCopy_11 : decode cX4_clearOfCopy 11 = .ok (.bipush 12, 2) := by decide +kernel
theorem dX4_clearOfCopy_13 : decode cX4_clearOfCopy 13 = .ok (.iload_n 2, 1) := by decide +kernel
theorem dX4_clearOfCopy_14 : decode cX4_clearOfCopy 14 = .ok (.idiv, 1) := by decide +kernel
theorem dX4_clearOfCopy_15 : decode cX4_clearOfCopy 15 = .ok (.isub, 1) := by decide +kernel
theorem dX4_clearOfCopy_16 : decode cX4_clearOfCopy 16 = .ok (.aload_n 0, 1) := by decide +kernel
theorem dX4_clearOfCopy_17 : decode cX4_clearOfCopy 17 = .ok (.getfield 7, 3) := by decide +kernel
theorem dX4_clearOfCopy_20 : decode cX4_clearOfCopy 20 = .ok (.iconst 0, 1) := by decide +kernel
theorem dX4_clearOfCopy_21 : decode cX4_clearOfCopy 21 = .ok (.iaload, 1) := by decide +kernel
theorem dX4_clearOfCopy_22 : decode cX4_clearOfCopy 22 = .ok (.invokestatic 60, 3) := by decide +kernel
theorem dX4_clearOfCopy_25 : decode cX4_clearOfCopy 25 = .ok (.isub, 1) := by decide +kernel
theorem dX4_clearOfCopy_26 : decode cX4_clearOfCopy 26 = .ok (.aload_n 0, 1) := by decide +kernel
theorem dX4_clearOfCopy_27 : decode cX4_clearOfCopy 27 = .ok (.invokevirtual 63, 3) := by decide +kernel
theorem dX4_clearOfCopy_30 : decode cX4_clearOfCopy 30 = .ok (.isub, 1) := by decide +kernel
theorem dX4_clearOfCopy_31 : decode cX4_clearOfCopy 31 = .ok (.iconst 0, 1) := by decide +kernel
theorem dX4_clearOfCopy_32 : decode cX4_clearOfCopy 32 = .ok (.invokestatic 50, 3) := by decide +kernel
theorem dX4_clearOfCopy_35 : decode cX4_clearOfCopy 35 = .ok (.ireturn, 1) := by decide +kernel
set_option maxRecDepth 20000 in
theorem ggX4_speaks_X4_speakReason : GoodIn wsX4_speaks wsX4_speakReason := goodIn_r _ [6, 1, 7, 8, 9, 5, 10, 11, 12, 13, 14, 15, 16, 17, 32, 33, 34, 35, 36, 37, 38, 39, 40, 41, 42, 43] (by decide +kernel) (by decide +kernel)
set_option maxRecDepth 20000 in
theorem gX4_speaks_X4_speakReason : GoodIn wsX4_speaks (wsV RX4 67 RX4 yX4_speakReason wsX4_speakReason) := goodIn_app (goodIn_of _ (by decide +kernel)) ggX4_speaks_X4_speakReason
set_option maxRecDepth 20000 in
theorem ggX4_speaks_X4_bluntness : GoodIn wsX4_speaks wsX4_bluntness := goodIn_r _ [20] (by decide +kernel) (by decide +kernel)
set_option maxRecDepth 20000 in
theorem gX4_speaks_X4_bluntness : GoodIn wsX4_speaks (va_wsS RX4 60 yX4_bluntness wsX4_bluntness) := goodIn_app (goodIn_of _ (by decide +kernel)) ggX4_speaks_X4_bluntness
set_option maxRecDepth 20000 in
theorem ggX4_speaks_X4_machineFlutter : GoodIn wsX4_speaks wsX4_machineFlutter := goodIn_r _ [24, 1, 32, 33, 34, 35, 36, 37, 38, 39, 40, 41, 42, 43] (by decide +kernel) (by decide +kernel)
set_option maxRecDepth 20000 in
theorem gX4_speaks_X4_machineFlutter : GoodIn wsX4_speaks (wsV RX4 63 RX4 yX4_machineFlutter wsX4_machineFlutter) := goodIn_app (goodIn_of _ (by decide +kernel)) ggX4_speaks_X4_machineFlutter
set_option maxRecDepth 20000 in
theorem ggX4_speaks_X4_cuts_ : GoodIn wsX4_speaks wsX4_cuts_ := goodIn_r _ [28, 1, 11, 12, 5, 13, 29, 30, 31, 32, 33, 34, 35, 36, 37, 38, 39, 40, 41, 42, 43] (by decide +kernel) (by decide +kernel)
set_option maxRecDepth 20000 in
theorem gX4_speaks_X4_cuts_ : GoodIn wsX4_speaks (wsV RX4 70 RX4 yX4_cuts_ wsX4_cuts_) := goodIn_app (goodIn_of _ (by decide +kernel)) ggX4_speaks_X4_cuts_
theorem dX4_speaks_0 : decode cX4_speaks 0 = .ok (.aload_n 0, 1) := by decide +kernel
theorem dX4_speaks_1 : decode cX4_speaks 1 = .ok (.iload_n 1, 1) := by decide +kernel
theorem dX4_speaks_2 : decode cX4_speaks 2 = .ok (.iload_n 2, 1) := by decide +kernel
theorem dX4_speaks_3 : decode cX4_speaks 3 = .ok (.invokevirtual 67, 3) := by decide +kernel
theorem dX4_speaks_6 : decode cX4_speaks 6 = .ok (.istore_n 3, 1) := by decide +kernel
theorem dX4_speaks_7 : decode cX4_speaks 7 = .ok (.iload_n 3, 1) := by decide +kernel
theorem dX4_speaks_8 : decode cX4_speaks 8 = .ok (.ifCond .eq 16, 3) := by decide +kernel
theorem dX4_speaks_11 : decode cX4_speaks 11 = .ok (.aload_n 0, 1) := by decide +kernel
theorem dX4_speaks_12 : decode cX4_speaks 12 = .ok (.getfield 7, 3) := by decide +kernel
theorem dX4_speaks_15 : decode cX4_speaks 15 = .ok (.bipush 9, 2) := by decide +kernel
theorem dX4_speaks_17 : decode cX4_speaks 17 = .ok (.dup2, 1) := by decide +kernel
theorem dX4_speaks_18 : decode cX4_speaks 18 = .ok (.iaload, 1) := by decide +kernel
theorem dX4_speaks_19 : decode cX4_speaks 19 = .ok (.iconst 1, 1) := by decide +kernel
theorem dX4_speaks_20 : decode cX4_speaks 20 = .ok (.iadd, 1) := by decide +kernel
theorem dX4_speaks_21 : decode cX4_speaks 21 = .ok (.iastore, 1) := by decide +kernel
theorem dX4_speaks_22 : decode cX4_speaks 22 = .ok (.iload_n 3, 1) := by decide +kernel
theorem dX4_speaks_23 : decode cX4_speaks 23 = .ok (.ireturn, 1) := by decide +kernel
theorem dX4_speaks_24 : decode cX4_speaks 24 = .ok (.aload_n 0, 1) := by decide +kernel
theorem dX4_speaks_25 : decode cX4_speaks 25 = .ok (.getfield 7, 3) := by decide +kernel
theorem dX4_speaks_28 : decode cX4_speaks 28 = .ok (.iconst 3, 1) := by decide +kernel
theorem dX4_speaks_29 : decode cX4_speaks 29 = .ok (.dup2, 1) := by decide +kernel
theorem dX4_speaks_30 : decode cX4_speaks 30 = .ok (.iaload, 1) := by decide +kernel
theorem dX4_speaks_31 : decode cX4_speaks 31 = .ok (.iconst 1, 1) := by decide +kernel
theorem dX4_speaks_32 : decode cX4_speaks 32 = .ok (.iadd, 1) := by decide +kernel
theorem dX4_speaks_33 : decode cX4_speaks 33 = .ok (.iastore, 1) := by decide +kernel
theorem dX4_speaks_34 : decode cX4_speaks 34 = .ok (.aload_n 0, 1) := by decide +kernel
theorem dX4_speaks_35 : decode cX4_speaks 35 = .ok (.iload_n 1, 1) := by decide +kernel
theorem dX4_speaks_36 : decode cX4_speaks 36 = .ok (.iload_n 2, 1) := by decide +kernel
theorem dX4_speaks_37 : decode cX4_speaks 37 = .ok (.bipush 40, 2) := by decide +kernel
theorem dX4_speaks_39 : decode cX4_speaks 39 = .ok (.iconst 5, 1) := by decide +kernel
theorem dX4_speaks_40 : decode cX4_speaks 40 = .ok (.iload_n 2, 1) := by decide +kernel
theorem dX4_speaks_41 : decode cX4_speaks 41 = .ok (.imul, 1) := by decide +kernel
theorem dX4_speaks_42 : decode cX4_speaks 42 = .ok (.iadd, 1) := by decide +kernel
theorem dX4_speaks_43 : decode cX4_speaks 43 = .ok (.aload_n 0, 1) := by decide +kernel
theorem dX4_speaks_44 : decode cX4_speaks 44 = .ok (.getfield 7, 3) := by decide +kernel
theorem dX4_speaks_47 : decode cX4_speaks 47 = .ok (.iconst 0, 1) := by decide +kernel
theorem dX4_speaks_48 : decode cX4_speaks 48 = .ok (.iaload, 1) := by decide +kernel
theorem dX4_speaks_49 : decode cX4_speaks 49 = .ok (.invokestatic 60, 3) := by decide +kernel
theorem dX4_speaks_52 : decode cX4_speaks 52 = .ok (.isub, 1) := by decide +kernel
theorem dX4_speaks_53 : decode cX4_speaks 53 = .ok (.aload_n 0, 1) := by decide +kernel
theorem dX4_speaks_54 : decode cX4_speaks 54 = .ok (.invokevirtual 63, 3) := by decide +kernel
theorem dX4_speaks_57 : decode cX4_speaks 57 = .ok (.iconst 0, 1) := by decide +kernel
theorem dX4_speaks_58 : decode cX4_speaks 58 = .ok (.iconst (-1), 1) := by decide +kernel
theorem dX4_speaks_59 : decode cX4_speaks 59 = .ok (.bipush 10, 2) := by decide +kernel
theorem dX4_speaks_61 : decode cX4_speaks 61 = .ok (.invokevirtual 70, 3) := by decide +kernel
theorem dX4_speaks_64 : decode cX4_speaks 64 = .ok (.iconst 0, 1) := by decide +kernel
theorem dX4_speaks_65 : decode cX4_speaks 65 = .ok (.ireturn, 1) := by decide +kernel
set_option maxRecDepth 20000 in
theorem ggX4_makes_X4_copyReason : GoodIn wsX4_makes wsX4_copyReason := goodIn_r _ [6, 1, 7, 8, 9, 5, 10, 11, 12, 13, 14, 15, 16, 17, 18, 19, 20, 39, 40, 41, 42, 43, 44, 45, 46, 47, 48, 49, 50] (by decide +kernel) (by decide +kernel)
set_option maxRecDepth 20000 in
theorem gX4_makes_X4_copyReason : GoodIn wsX4_makes (wsV RX4 74 RX4 yX4_copyReason wsX4_copyReason) := goodIn_app (goodIn_of _ (by decide +kernel)) ggX4_makes_X4_copyReason
set_option maxRecDepth 20000 in
theorem ggX4_makes_X4_at : GoodIn wsX4_makes wsX4_at := goodIn_r _ [13] (by decide +kernel) (by decide +kernel)
set_option maxRecDepth 20000 in
theorem gX4_makes_X4_at : GoodIn wsX4_makes (va_wsS RX4 42 yX4_at wsX4_at) := goodIn_app (goodIn_of _ (by decide +kernel)) ggX4_makes_X4_at
set_option maxRecDepth 20000 in
theorem ggX4_makes_X4_machineFlutter : GoodIn wsX4_makes wsX4_machineFlutter := goodIn_r _ [24, 1, 39, 40, 41, 42, 43, 44, 45, 46, 47, 48, 49, 50] (by decide +kernel) (by decide +kernel)
set_option maxRecDepth 20000 in
theorem gX4_makes_X4_machineFlutter : GoodIn wsX4_makes (wsV RX4 63 RX4 yX4_machineFlutter wsX4_machineFlutter) := goodIn_app (goodIn_of _ (by decide +kernel)) ggX4_makes_X4_machineFlutter
set_option maxRecDepth 20000 in
theorem ggX4_makes_X4_depthBy : GoodIn wsX4_makes wsX4_depthBy := goodIn_r _ [20] (by decide +kernel) (by decide +kernel)
set_option maxRecDepth 20000 in
theorem gX4_makes_X4_depthBy : GoodIn wsX4_makes (va_wsS RX4 57 yX4_depthBy wsX4_depthBy) := goodIn_app (goodIn_of _ (by decide +kernel)) ggX4_makes_X4_depthBy
set_option maxRecDepth 20000 in
theorem ggX4_makes_X4_clearOfCopy : GoodIn wsX4_makes wsX4_clearOfCopy := goodIn_r _ [28, 1, 11, 12, 5, 13, 29, 30, 31, 21, 22, 23, 24, 32, 33, 34, 39, 40, 41, 42, 43, 44, 45, 46, 47, 48, 49, 50] (by decide +kernel) (by decide +kernel)
set_option maxRecDepth 20000 in
theorem gX4_makes_X4_clearOfCopy : GoodIn wsX4_makes (wsV RX4 78 RX4 yX4_clearOfCopy wsX4_clearOfCopy) := goodIn_app (goodIn_of _ (by decide +kernel)) ggX4_makes_X4_clearOfCopy
set_option maxRecDepth 20000 in
theorem ggX4_makes_X4_cuts_ : GoodIn wsX4_makes wsX4_cuts_ := goodIn_r _ [38, 1, 11, 12, 5, 13, 32, 33, 34, 39, 40, 41, 42, 43, 44, 45, 46, 47, 48, 49, 50] (by decide +kernel) (by decide +kernel)
set_option maxRecDepth 20000 in
theorem gX4_makes_X4_cuts_ : GoodIn wsX4_makes (wsV RX4 70 RX4 yX4_cuts_ wsX4_cuts_) := goodIn_app (goodIn_of _ (by decide +kernel)) ggX4_makes_X4_cuts_
theorem dX4_makes_0 : decode cX4_makes 0 = .ok (.aload_n 0, 1) := by decide +kernel
theorem dX4_makes_1 : decode cX4_makes 1 = .ok (.iload_n 1, 1) := by decide +kernel
theorem dX4_makes_2 : decode cX4_makes 2 = .ok (.iload_n 2, 1) := by decide +kernel
theorem dX4_makes_3 : decode cX4_makes 3 = .ok (.iload_n 3, 1) := by decide +kernel
theorem dX4_makes_4 : decode cX4_makes 4 = .ok (.invokevirtual 74, 3) := by decide +kernel
theorem dX4_makes_7 : decode cX4_makes 7 = .ok (.istore 4, 2) := by decide +kernel
theorem dX4_makes_9 : decode cX4_makes 9 = .ok (.iload 4, 2) := by decide +kernel
theorem dX4_makes_11 : decode cX4_makes 11 = .ok (.ifCond .eq 17, 3) := by decide +kernel
theorem dX4_makes_14 : decode cX4_makes 14 = .ok (.aload_n 0, 1) := by decide +kernel
theorem dX4_makes_15 : decode cX4_makes 15 = .ok (.getfield 7, 3) := by decide +kernel
theorem dX4_makes_18 : decode cX4_makes 18 = .ok (.bipush 9, 2) := by decide +kernel
theorem dX4_makes_20 : decode cX4_makes 20 = .ok (.dup2, 1) := by decide +kernel
theorem dX4_makes_21 : decode cX4_makes 21 = .ok (.iaload, 1) := by decide +kernel
theorem dX4_makes_22 : decode cX4_makes 22 = .ok (.iconst 1, 1) := by decide +kernel
theorem dX4_makes_23 : decode cX4_makes 23 = .ok (.iadd, 1) := by decide +kernel
theorem dX4_makes_24 : decode cX4_makes 24 = .ok (.iastore, 1) := by decide +kernel
theorem dX4_makes_25 : decode cX4_makes 25 = .ok (.iload 4, 2) := by decide +kernel
theorem dX4_makes_27 : decode cX4_makes 27 = .ok (.ireturn, 1) := by decide +kernel
theorem dX4_makes_28 : decode cX4_makes 28 = .ok (.aload_n 0, 1) := by decide +kernel
theorem dX4_makes_29 : decode cX4_makes 29 = .ok (.getfield 7, 3) := by decide +kernel
theorem dX4_makes_32 : decode cX4_makes 32 = .ok (.iconst 4, 1) := by decide +kernel
theorem dX4_makes_33 : decode cX4_makes 33 = .ok (.dup2, 1) := by decide +kernel
theorem dX4_makes_34 : decode cX4_makes 34 = .ok (.iaload, 1) := by decide +kernel
theorem dX4_makes_35 : decode cX4_makes 35 = .ok (.iconst 1, 1) := by decide +kernel
theorem dX4_makes_36 : decode cX4_makes 36 = .ok (.iadd, 1) := by decide +kernel
theorem dX4_makes_37 : decode cX4_makes 37 = .ok (.iastore, 1) := by decide +kernel
theorem dX4_makes_38 : decode cX4_makes 38 = .ok (.iload_n 1, 1) := by decide +kernel
theorem dX4_makes_39 : decode cX4_makes 39 = .ok (.invokestatic 42, 3) := by decide +kernel
theorem dX4_makes_42 : decode cX4_makes 42 = .ok (.istore 5, 2) := by decide +kernel
theorem dX4_makes_44 : decode cX4_makes 44 = .ok (.aload_n 0, 1) := by decide +kernel
theorem dX4_makes_45 : decode cX4_makes 45 = .ok (.getfield 7, 3) := by decide +kernel
theorem dX4_makes_48 : decode cX4_makes 48 = .ok (.iload 5, 2) := by decide +kernel
theorem dX4_makes_50 : decode cX4_makes 50 = .ok (.iconst 2, 1) := by decide +kernel
theorem dX4_makes_51 : decode cX4_makes 51 = .ok (.iadd, 1) := by decide +kernel
theorem dX4_makes_52 : decode cX4_makes 52 = .ok (.iaload, 1) := by decide +kernel
theorem dX4_makes_53 : decode cX4_makes 53 = .ok (.aload_n 0, 1) := by decide +kernel
theorem dX4_makes_54 : decode cX4_makes 54 = .ok (.invokevirtual 63, 3) := by decide +kernel
theorem dX4_makes_57 : decode cX4_makes 57 = .ok (.iadd, 1) := by decide +kernel
theorem dX4_makes_58 : decode cX4_makes 58 = .ok (.istore 6, 2) := by decide +kernel
theorem dX4_makes_60 : decode cX4_makes 60 = .ok (.aload_n 0, 1) := by decide +kernel
theorem dX4_makes_61 : decode cX4_makes 61 = .ok (.iload_n 2, 1) := by decide +kernel
theorem dX4_makes_62 : decode cX4_makes 62 = .ok (.aload_n 0, 1) := by decide +kernel
theorem dX4_makes_63 : decode cX4_makes 63 = .ok (.getfield 7, 3) := by decide +kernel
theorem dX4_makes_66 : decode cX4_makes 66 = .ok (.iload 5, 2) := by decide +kernel
theorem dX4_makes_68 : decode cX4_makes 68 = .ok (.iaload, 1) := by decide +kernel
theorem dX4_makes_69 : decode cX4_makes 69 = .ok (.iload_n 3, 1) := by decide +kernel
theorem dX4_makes_70 : decode cX4_makes 70 = .ok (.invokestatic 57, 3) := by decide +kernel
theorem dX4_makes_73 : decode cX4_makes 73 = .ok (.aload_n 0, 1) := by decide +kernel
theorem dX4_makes_74 : decode cX4_makes 74 = .ok (.iload_n 1, 1) := by decide +kernel
theorem dX4_makes_75 : decode cX4_makes 75 = .ok (.iload_n 3, 1) := by decide +kernel
theorem dX4_makes_76 : decode cX4_makes 76 = .ok (.invokevirtual 78, 3) := by decide +kernel
theorem dX4_makes_79 : decode cX4_makes 79 = .ok (.iload 6, 2) := by decide +kernel
theorem dX4_makes_81 : decode cX4_makes 81 = .ok (.bipush 20, 2) := by decide +kernel
theorem dX4_makes_83 : decode cX4_makes 83 = .ok (.if_icmp .le 8, 3) := by decide +kernel
theorem dX4_makes_86 : decode cX4_makes 86 = .ok (.bipush 20, 2) := by decide +kernel
theorem dX4_makes_88 : decode cX4_makes 88 = .ok (.goto 5, 3) := by decide +kernel
theorem dX4_makes_91 : decode cX4_makes 91 = .ok (.iload 6, 2) := by decide +kernel
theorem dX4_makes_93 : decode cX4_makes 93 = .ok (.aload_n 0, 1) := by decide +kernel
theorem dX4_makes_94 : decode cX4_makes 94 = .ok (.getfield 7, 3) := by decide +kernel
theorem dX4_makes_97 : decode cX4_makes 97 = .ok (.iload 5, 2) := by decide +kernel
theorem dX4_makes_99 : decode cX4_makes 99 = .ok (.iconst 3, 1) := by decide +kernel
theorem dX4_makes_100 : decode cX4_makes 100 = .ok (.iadd, 1) := by decide +kernel
theorem dX4_makes_101 : decode cX4_makes 101 = .ok (.iaload, 1) := by decide +kernel
theorem dX4_makes_102 : decode cX4_makes 102 = .ok (.iconst 1, 1) := by decide +kernel
theorem dX4_makes_103 : decode cX4_makes 103 = .ok (.iadd, 1) := by decide +kernel
theorem dX4_makes_104 : decode cX4_makes 104 = .ok (.iload_n 1, 1) := by decide +kernel
theorem dX4_makes_105 : decode cX4_makes 105 = .ok (.bipush 20, 2) := by decide +kernel
theorem dX4_makes_107 : decode cX4_makes 107 = .ok (.invokevirtual 70, 3) := by decide +kernel
theorem dX4_makes_110 : decode cX4_makes 110 = .ok (.iconst 0, 1) := by decide +kernel
theorem dX4_makes_111 : decode cX4_makes 111 = .ok (.ireturn, 1) := by decide +kernel
set_option maxRecDepth 20000 in
theorem ggX4_plays_X4_playReason : GoodIn wsX4_plays wsX4_playReason := goodIn_r _ [6, 1, 7, 8, 9, 5, 10, 11, 12, 13, 17, 18, 19, 20, 21, 22, 23, 24, 25, 26, 27, 28] (by decide +kernel) (by decide +kernel)
set_option maxRecDepth 20000 in
theorem gX4_plays_X4_playReason : GoodIn wsX4_plays (wsV RX4 81 RX4 yX4_playReason wsX4_playReason) := goodIn_app (goodIn_of _ (by decide +kernel)) ggX4_plays_X4_playReason
set_option maxRecDepth 20000 in
theorem ggX4_plays_X4_at : GoodIn wsX4_plays wsX4_at := goodIn_r _ [13] (by decide +kernel) (by decide +kernel)
set_option maxRecDepth 20000 in
theorem gX4_plays_X4_at : GoodIn wsX4_plays (va_wsS RX4 42 yX4_at wsX4_at) := goodIn_app (goodIn_of _ (by decide +kernel)) ggX4_plays_X4_at
set_option maxRecDepth 20000 in
theorem ggX4_plays_X4_atLeast : GoodIn wsX4_plays wsX4_atLeast := goodIn_r _ [16] (by decide +kernel) (by decide +kernel)
set_option maxRecDepth 20000 in
theorem gX4_plays_X4_atLeast : GoodIn wsX4_plays (va_wsS RX4 50 yX4_atLeast wsX4_atLeast) := goodIn_app (goodIn_of _ (by decide +kernel)) ggX4_plays_X4_atLeast
theorem dX4_plays_0 : decode cX4_plays 0 = .ok (.aload_n 0, 1) := by decide +kernel
theorem dX4_plays_1 : decode cX4_plays 1 = .ok (.iload_n 1, 1) := by decide +kernel
theorem dX4_plays_2 : decode cX4_plays 2 = .ok (.invokevirtual 81, 3) := by decide +kernel
theorem dX4_plays_5 : decode cX4_plays 5 = .ok (.istore_n 2, 1) := by decide +kernel
theorem dX4_plays_6 : decode cX4_plays 6 = .ok (.iload_n 2, 1) := by decide +kernel
theorem dX4_plays_7 : decode cX4_plays 7 = .ok (.ifCond .eq 16, 3) := by decide +kernel
theorem dX4_plays_10 : decode cX4_plays 10 = .ok (.aload_n 0, 1) := by decide +kernel
theorem dX4_plays_11 : decode cX4_plays 11 = .ok (.getfield 7, 3) := by decide +kernel
theorem dX4_plays_14 : decode cX4_plays 14 = .ok (.bipush 9, 2) := by decide +kernel
theorem dX4_plays_16 : decode cX4_plays 16 = .ok (.dup2, 1) := by decide +kernel
theorem dX4_plays_17 : decode cX4_plays 17 = .ok (.iaload, 1) := by decide +kernel
theorem dX4_plays_18 : decode cX4_plays 18 = .ok (.iconst 1, 1) := by decide +kernel
theorem dX4_plays_19 : decode cX4_plays 19 = .ok (.iadd, 1) := by decide +kernel
theorem dX4_plays_20 : decode cX4_plays 20 = .ok (.iastore, 1) := by decide +kernel
theorem dX4_plays_21 : decode cX4_plays 21 = .ok (.iload_n 2, 1) := by decide +kernel
theorem dX4_plays_22 : decode cX4_plays 22 = .ok (.ireturn, 1) := by decide +kernel
theorem dX4_plays_23 : decode cX4_plays 23 = .ok (.iload_n 1, 1) := by decide +kernel
theorem dX4_plays_24 : decode cX4_plays 24 = .ok (.invokestatic 42, 3) := by decide +kernel
theorem dX4_plays_27 : decode cX4_plays 27 = .ok (.istore_n 3, 1) := by decide +kernel
theorem dX4_plays_28 : decode cX4_plays 28 = .ok (.aload_n 0, 1) := by decide +kernel
theorem dX4_plays_29 : decode cX4_plays 29 = .ok (.getfield 7, 3) := by decide +kernel
theorem dX4_plays_32 : decode cX4_plays 32 = .ok (.iconst 5, 1) := by decide +kernel
theorem dX4_plays_33 : decode cX4_plays 33 = .ok (.dup2, 1) := by decide +kernel
theorem dX4_plays_34 : decode cX4_plays 34 = .ok (.iaload, 1) := by decide +kernel
theorem dX4_plays_35 : decode cX4_plays 35 = .ok (.iconst 1, 1) := by decide +kernel
theorem dX4_plays_36 : decode cX4_plays 36 = .ok (.iadd, 1) := by decide +kernel
theorem dX4_plays_37 : decode cX4_plays 37 = .ok (.iastore, 1) := by decide +kernel
theorem dX4_plays_38 : decode cX4_plays 38 = .ok (.aload_n 0, 1) := by decide +kernel
theorem dX4_plays_39 : decode cX4_plays 39 = .ok (.getfield 7, 3) := by decide +kernel
theorem dX4_plays_42 : decode cX4_plays 42 = .ok (.iload_n 3, 1) := by decide +kernel
theorem dX4_plays_43 : decode cX4_plays 43 = .ok (.bipush 6, 2) := by decide +kernel
theorem dX4_plays_45 : decode cX4_plays 45 = .ok (.iadd, 1) := by decide +kernel
theorem dX4_plays_46 : decode cX4_plays 46 = .ok (.dup2, 1) := by decide +kernel
theorem dX4_plays_47 : decode cX4_plays 47 = .ok (.iaload, 1) := by decide +kernel
theorem dX4_plays_48 : decode cX4_plays 48 = .ok (.iconst 1, 1) := by decide +kernel
theorem dX4_plays_49 : decode cX4_plays 49 = .ok (.iadd, 1) := by decide +kernel
theorem dX4_plays_50 : decode cX4_plays 50 = .ok (.iastore, 1) := by decide +kernel
theorem dX4_plays_51 : decode cX4_plays 51 = .ok (.aload_n 0, 1) := by decide +kernel
theorem dX4_plays_52 : decode cX4_plays 52 = .ok (.getfield 7, 3) := by decide +kernel
theorem dX4_plays_55 : decode cX4_plays 55 = .ok (.iload_n 3, 1) := by decide +kernel
theorem dX4_plays_56 : decode cX4_plays 56 = .ok (.iconst 1, 1) := by decide +kernel
theorem dX4_plays_57 : decode cX4_plays 57 = .ok (.iadd, 1) := by decide +kernel
theorem dX4_plays_58 : decode cX4_plays 58 = .ok (.aload_n 0, 1) := by decide +kernel
theorem dX4_plays_59 : decode cX4_plays 59 = .ok (.getfield 7, 3) := by decide +kernel
theorem dX4_plays_62 : decode cX4_plays 62 = .ok (.iload_n 3, 1) := by decide +kernel
theorem dX4_plays_63 : decode cX4_plays 63 = .ok (.iconst 1, 1) := by decide +kernel
theorem dX4_plays_64 : decode cX4_plays 64 = .ok (.iadd, 1) := by decide +kernel
theorem dX4_plays_65 : decode cX4_plays 65 = .ok (.iaload, 1) := by decide +kernel
theorem dX4_plays_66 : decode cX4_plays 66 = .ok (.aload_n 0, 1) := by decide +kernel
theorem dX4_plays_67 : decode cX4_plays 67 = .ok (.getfield 7, 3) := by decide +kernel
theorem dX4_plays_70 : decode cX4_plays 70 = .ok (.iconst 2, 1) := by decide +kernel
theorem dX4_plays_71 : decode cX4_plays 71 = .ok (.iaload, 1) := by decide +kernel
theorem dX4_plays_72 : decode cX4_plays 72 = .ok (.isub, 1) := by decide +kernel
theorem dX4_plays_73 : decode cX4_plays 73 = .ok (.iconst 0, 1) := by decide +kernel
theorem dX4_plays_74 : decode cX4_plays 74 = .ok (.invokestatic 50, 3) := by decide +kernel
theorem dX4_plays_77 : decode cX4_plays 77 = .ok (.iastore, 1) := by decide +kernel
theorem dX4_plays_78 : decode cX4_plays 78 = .ok (.aload_n 0, 1) := by decide +kernel
theorem dX4_plays_79 : decode cX4_plays 79 = .ok (.getfield 7, 3) := by decide +kernel
theorem dX4_plays_82 : decode cX4_plays 82 = .ok (.iconst 1, 1) := by decide +kernel
theorem dX4_plays_83 : decode cX4_plays 83 = .ok (.dup2, 1) := by decide +kernel
theorem dX4_plays_84 : decode cX4_plays 84 = .ok (.iaload, 1) := by decide +kernel
theorem dX4_plays_85 : decode cX4_plays 85 = .ok (.iconst 5, 1) := by decide +kernel
theorem dX4_plays_86 : decode cX4_plays 86 = .ok (.isub, 1) := by decide +kernel
theorem dX4_plays_87 : decode cX4_plays 87 = .ok (.iastore, 1) := by decide +kernel
theorem dX4_plays_88 : decode cX4_plays 88 = .ok (.bipush 10, 2) := by decide +kernel
theorem dX4_plays_90 : decode cX4_plays 90 = .ok (.aload_n 0, 1) := by decide +kernel
theorem dX4_plays_91 : decode cX4_plays 91 = .ok (.getfield 7, 3) := by decide +kernel
theorem dX4_plays_94 : decode cX4_plays 94 = .ok (.iload_n 3, 1) := by decide +kernel
theorem dX4_plays_95 : decode cX4_plays 95 = .ok (.iconst 1, 1) := by decide +kernel
theorem dX4_plays_96 : decode cX4_plays 96 = .ok (.iadd, 1) := by decide +kernel
theorem dX4_plays_97 : decode cX4_plays 97 = .ok (.iaload, 1) := by decide +kernel
theorem dX4_plays_98 : decode cX4_plays 98 = .ok (.iadd, 1) := by decide +kernel
theorem dX4_plays_99 : decode cX4_plays 99 = .ok (.ireturn, 1) := by decide +kernel
set_option maxRecDepth 20000 in
theorem ggX4_shaves_X4_deepest : GoodIn wsX4_shaves wsX4_deepest := goodIn_r _ [6, 1, 7, 8, 5, 9, 10, 11, 12, 17, 18, 19, 20, 21, 22, 23, 24, 25, 26, 27, 28] (by decide +kernel) (by decide +kernel)
set_option maxRecDepth 20000 in
theorem gX4_shaves_X4_deepest : GoodIn wsX4_shaves (wsV RX4 84 RX4 yX4_deepest wsX4_deepest) := goodIn_app (goodIn_of _ (by decide +kernel)) ggX4_shaves_X4_deepest
set_option maxRecDepth 20000 in
theorem ggX4_shaves_X4_smooths : GoodIn wsX4_shaves wsX4_smooths := goodIn_r _ [16, 1, 7, 8, 5, 9, 17, 18, 19, 20, 21, 22, 23, 24, 25, 26, 27, 28] (by decide +kernel) (by decide +kernel)
set_option maxRecDepth 20000 in
theorem gX4_shaves_X4_smooths : GoodIn wsX4_shaves (wsV RX4 87 RX4 yX4_smooths wsX4_smooths) := goodIn_app (goodIn_of _ (by decide +kernel)) ggX4_shaves_X4_smooths
theorem dX4_shaves_0 : decode cX4_shaves 0 = .ok (.aload_n 0, 1) := by decide +kernel
theorem dX4_shaves_1 : decode cX4_shaves 1 = .ok (.iload_n 1, 1) := by decide +kernel
theorem dX4_shaves_2 : decode cX4_shaves 2 = .ok (.invokevirtual 84, 3) := by decide +kernel
theorem dX4_shaves_5 : decode cX4_shaves 5 = .ok (.istore_n 2, 1) := by decide +kernel
theorem dX4_shaves_6 : decode cX4_shaves 6 = .ok (.iload_n 2, 1) := by decide +kernel
theorem dX4_shaves_7 : decode cX4_shaves 7 = .ok (.ifCond .ne 16, 3) := by decide +kernel
theorem dX4_shaves_10 : decode cX4_shaves 10 = .ok (.aload_n 0, 1) := by decide +kernel
theorem dX4_shaves_11 : decode cX4_shaves 11 = .ok (.getfield 7, 3) := by decide +kernel
theorem dX4_shaves_14 : decode cX4_shaves 14 = .ok (.bipush 9, 2) := by decide +kernel
theorem dX4_shaves_16 : decode cX4_shaves 16 = .ok (.dup2, 1) := by decide +kernel
theorem dX4_shaves_17 : decode cX4_shaves 17 = .ok (.iaload, 1) := by decide +kernel
theorem dX4_shaves_18 : decode cX4_shaves 18 = .ok (.iconst 1, 1) := by decide +kernel
theorem dX4_shaves_19 : decode cX4_shaves 19 = .ok (.iadd, 1) := by decide +kernel
theorem dX4_shaves_20 : decode cX4_shaves 20 = .ok (.iastore, 1) := by decide +kernel
theorem dX4_shaves_21 : decode cX4_shaves 21 = .ok (.iconst (-1), 1) := by decide +kernel
theorem dX4_shaves_22 : decode cX4_shaves 22 = .ok (.ireturn, 1) := by decide +kernel
theorem dX4_shaves_23 : decode cX4_shaves 23 = .ok (.aload_n 0, 1) := by decide +kernel
theorem dX4_shaves_24 : decode cX4_shaves 24 = .ok (.getfield 7, 3) := by decide +kernel
theorem dX4_shaves_27 : decode cX4_shaves 27 = .ok (.bipush 10, 2) := by decide +kernel
theorem dX4_shaves_29 : decode cX4_shaves 29 = .ok (.iconst 2, 1) := by decide +kernel
theorem dX4_shaves_30 : decode cX4_shaves 30 = .ok (.iload_n 1, 1) := by decide +kernel
theorem dX4_shaves_31 : decode cX4_shaves 31 = .ok (.imul, 1) := by decide +kernel
theorem dX4_shaves_32 : decode cX4_shaves 32 = .ok (.iadd, 1) := by decide +kernel
theorem dX4_shaves_33 : decode cX4_shaves 33 = .ok (.dup2, 1) := by decide +kernel
theorem dX4_shaves_34 : decode cX4_shaves 34 = .ok (.iaload, 1) := by decide +kernel
theorem dX4_shaves_35 : decode cX4_shaves 35 = .ok (.iload_n 2, 1) := by decide +kernel
theorem dX4_shaves_36 : decode cX4_shaves 36 = .ok (.isub, 1) := by decide +kernel
theorem dX4_shaves_37 : decode cX4_shaves 37 = .ok (.iastore, 1) := by decide +kernel
theorem dX4_shaves_38 : decode cX4_shaves 38 = .ok (.aload_n 0, 1) := by decide +kernel
theorem dX4_shaves_39 : decode cX4_shaves 39 = .ok (.getfield 7, 3) := by decide +kernel
theorem dX4_shaves_42 : decode cX4_shaves 42 = .ok (.bipush 10, 2) := by decide +kernel
theorem dX4_shaves_44 : decode cX4_shaves 44 = .ok (.iconst 2, 1) := by decide +kernel
theorem dX4_shaves_45 : decode cX4_shaves 45 = .ok (.iload_n 1, 1) := by decide +kernel
theorem dX4_shaves_46 : decode cX4_shaves 46 = .ok (.imul, 1) := by decide +kernel
theorem dX4_shaves_47 : decode cX4_shaves 47 = .ok (.iadd, 1) := by decide +kernel
theorem dX4_shaves_48 : decode cX4_shaves 48 = .ok (.iconst 1, 1) := by decide +kernel
theorem dX4_shaves_49 : decode cX4_shaves 49 = .ok (.iadd, 1) := by decide +kernel
theorem dX4_shaves_50 : decode cX4_shaves 50 = .ok (.dup2, 1) := by decide +kernel
theorem dX4_shaves_51 : decode cX4_shaves 51 = .ok (.iaload, 1) := by decide +kernel
theorem dX4_shaves_52 : decode cX4_shaves 52 = .ok (.iconst 1, 1) := by decide +kernel
theorem dX4_shaves_53 : decode cX4_shaves 53 = .ok (.iadd, 1) := by decide +kernel
theorem dX4_shaves_54 : decode cX4_shaves 54 = .ok (.iastore, 1) := by decide +kernel
theorem dX4_shaves_55 : decode cX4_shaves 55 = .ok (.aload_n 0, 1) := by decide +kernel
theorem dX4_shaves_56 : decode cX4_shaves 56 = .ok (.getfield 7, 3) := by decide +kernel
theorem dX4_shaves_59 : decode cX4_shaves 59 = .ok (.bipush 6, 2) := by decide +kernel
theorem dX4_shaves_61 : decode cX4_shaves 61 = .ok (.dup2, 1) := by decide +kernel
theorem dX4_shaves_62 : decode cX4_shaves 62 = .ok (.iaload, 1) := by decide +kernel
theorem dX4_shaves_63 : decode cX4_shaves 63 = .ok (.iload_n 2, 1) := by decide +kernel
theorem dX4_shaves_64 : decode cX4_shaves 64 = .ok (.iadd, 1) := by decide +kernel
theorem dX4_shaves_65 : decode cX4_shaves 65 = .ok (.iastore, 1) := by decide +kernel
theorem dX4_shaves_66 : decode cX4_shaves 66 = .ok (.aload_n 0, 1) := by decide +kernel
theorem dX4_shaves_67 : decode cX4_shaves 67 = .ok (.iload_n 1, 1) := by decide +kernel
theorem dX4_shaves_68 : decode cX4_shaves 68 = .ok (.invokevirtual 87, 3) := by decide +kernel
theorem dX4_shaves_71 : decode cX4_shaves 71 = .ok (.iload_n 2, 1) := by decide +kernel
theorem dX4_shaves_72 : decode cX4_shaves 72 = .ok (.ireturn, 1) := by decide +kernel
set_option maxRecDepth 20000 in
theorem ggX4_speak_X4_isTrack : GoodIn wsX4_speak wsX4_isTrack := goodIn_r _ [4, 5, 6, 3, 7] (by decide +kernel) (by decide +kernel)
set_option maxRecDepth 20000 in
theorem gX4_speak_X4_isTrack : GoodIn wsX4_speak (va_wsS RX4 91 yX4_isTrack wsX4_isTrack) := goodIn_app (goodIn_of _ (by decide +kernel)) ggX4_speak_X4_isTrack
set_option maxRecDepth 20000 in
theorem ggX4_speak_X4_in : GoodIn wsX4_speak wsX4_in := goodIn_r _ [7] (by decide +kernel) (by decide +kernel)
set_option maxRecDepth 20000 in
theorem gX4_speak_X4_in : GoodIn wsX4_speak (va_wsS RX4 38 yX4_in wsX4_in) := goodIn_app (goodIn_of _ (by decide +kernel)) ggX4_speak_X4_in
set_option maxRecDepth 20000 in
theorem ggX4_speak_X4_goes : GoodIn wsX4_speak wsX4_goes := goodIn_r _ [11, 12, 56, 57, 58, 59, 60, 61, 62, 63, 64, 65, 66, 67] (by decide +kernel) (by decide +kernel)
set_option maxRecDepth 20000 in
theorem gX4_speak_X4_goes : GoodIn wsX4_speak (wsV RX4 94 RX4 yX4_goes wsX4_goes) := goodIn_app (goodIn_of _ (by decide +kernel)) ggX4_speak_X4_goes
set_option maxRecDepth 20000 in
theorem ggX4_speak_X4_saves : GoodIn wsX4_speak wsX4_saves := goodIn_r _ [16, 17, 18, 19, 20, 3, 21, 22, 56, 57, 58, 59, 60, 61, 62, 63, 64, 65, 66, 67] (by decide +kernel) (by decide +kernel)
set_option maxRecDepth 20000 in
theorem gX4_speak_X4_saves : GoodIn wsX4_speak (wsV RX4 98 RX4 yX4_saves wsX4_saves) := goodIn_app (goodIn_of _ (by decide +kernel)) ggX4_speak_X4_saves
set_option maxRecDepth 20000 in
theorem ggX4_speak_X4_speaks : GoodIn wsX4_speak wsX4_speaks := goodIn_r _ [26, 22, 27, 28, 29, 3, 30, 31, 32, 33, 34, 35, 36, 37, 38, 39, 40, 41, 42, 43, 44, 45, 46, 47, 48, 49, 50, 51, 52, 53, 54, 55, 56, 57, 58, 59, 60, 61, 62, 63, 64, 65, 66, 67] (by decide +kernel) (by decide +kernel)
set_option maxRecDepth 20000 in
theorem gX4_speak_X4_speaks : GoodIn wsX4_speak (wsV RX4 101 RX4 yX4_speaks wsX4_speaks) := goodIn_app (goodIn_of _ (by decide +kernel)) ggX4_speak_X4_speaks
theorem dX4_speak_0 : decode cX4_speak 0 = .ok (.aload_n 0, 1) := by decide +kernel
theorem dX4_speak_1 : decode cX4_speak 1 = .ok (.iload_n 1, 1) := by decide +kernel
theorem dX4_speak_2 : decode cX4_speak 2 = .ok (.invokestatic 91, 3) := by decide +kernel
theorem dX4_speak_5 : decode cX4_speak 5 = .ok (.iload_n 2, 1) := by decide +kernel
theorem dX4_speak_6 : decode cX4_speak 6 = .ok (.iconst 1, 1) := by decide +kernel
theorem dX4_speak_7 : decode cX4_speak 7 = .ok (.bipush 9, 2) := by decide +kernel
theorem dX4_speak_9 : decode cX4_speak 9 = .ok (.invokestatic 38, 3) := by decide +kernel
theorem dX4_speak_12 : decode cX4_speak 12 = .ok (.invokevirtual 94, 3) := by decide +kernel
theorem dX4_speak_15 : decode cX4_speak 15 = .ok (.ifCond .ne 5, 3) := by decide +kernel
theorem dX4_speak_18 : decode cX4_speak 18 = .ok (.iconst 0, 1) := by decide +kernel
theorem dX4_speak_19 : decode cX4_speak 19 = .ok (.ireturn, 1) := by decide +kernel
theorem dX4_speak_20 : decode cX4_speak 20 = .ok (.aload_n 0, 1) := by decide +kernel
theorem dX4_speak_21 : decode cX4_speak 21 = .ok (.invokevirtual 98, 3) := by decide +kernel
theorem dX4_speak_24 : decode cX4_speak 24 = .ok (.aload_n 0, 1) := by decide +kernel
theorem dX4_speak_25 : decode cX4_speak 25 = .ok (.iload_n 1, 1) := by decide +kernel
theorem dX4_speak_26 : decode cX4_speak 26 = .ok (.iload_n 2, 1) := by decide +kernel
theorem dX4_speak_27 : decode cX4_speak 27 = .ok (.invokevirtual 101, 3) := by decide +kernel
theorem dX4_speak_30 : decode cX4_speak 30 = .ok (.ireturn, 1) := by decide +kernel
set_option maxRecDepth 20000 in
theorem ggX4_copy_X4_isTrack : GoodIn wsX4_copy wsX4_isTrack := goodIn_r _ [4, 5, 6, 3, 7] (by decide +kernel) (by decide +kernel)
set_option maxRecDepth 20000 in
theorem gX4_copy_X4_isTrack : GoodIn wsX4_copy (va_wsS RX4 91 yX4_isTrack wsX4_isTrack) := goodIn_app (goodIn_of _ (by decide +kernel)) ggX4_copy_X4_isTrack
set_option maxRecDepth 20000 in
theorem ggX4_copy_X4_in : GoodIn wsX4_copy wsX4_in := goodIn_r _ [7] (by decide +kernel) (by decide +kernel)
set_option maxRecDepth 20000 in
theorem gX4_copy_X4_in : GoodIn wsX4_copy (va_wsS RX4 38 yX4_in wsX4_in) := goodIn_app (goodIn_of _ (by decide +kernel)) ggX4_copy_X4_in
set_option maxRecDepth 20000 in
theorem ggX4_copy_X4_goes : GoodIn wsX4_copy wsX4_goes := goodIn_r _ [11, 12, 63, 64, 65, 66, 67, 68, 69, 70, 71, 72, 73, 74] (by decide +kernel) (by decide +kernel)
set_option maxRecDepth 20000 in
theorem gX4_copy_X4_goes : GoodIn wsX4_copy (wsV RX4 94 RX4 yX4_goes wsX4_goes) := goodIn_app (goodIn_of _ (by decide +kernel)) ggX4_copy_X4_goes
set_option maxRecDepth 20000 in
theorem ggX4_copy_X4_saves : GoodIn wsX4_copy wsX4_saves := goodIn_r _ [16, 17, 18, 19, 20, 3, 21, 22, 63, 64, 65, 66, 67, 68, 69, 70, 71, 72, 73, 74] (by decide +kernel) (by decide +kernel)
set_option maxRecDepth 20000 in
theorem gX4_copy_X4_saves : GoodIn wsX4_copy (wsV RX4 98 RX4 yX4_saves wsX4_saves) := goodIn_app (goodIn_of _ (by decide +kernel)) ggX4_copy_X4_saves
set_option maxRecDepth 20000 in
theorem ggX4_copy_X4_makes : GoodIn wsX4_copy wsX4_makes := goodIn_r _ [26, 22, 27, 28, 29, 3, 30, 31, 32, 33, 34, 35, 36, 37, 38, 39, 40, 41, 42, 43, 44, 45, 46, 47, 48, 49, 50, 51, 52, 53, 54, 55, 56, 57, 58, 59, 60, 61, 62, 63, 64, 65, 66, 67, 68, 69, 70, 71, 72, 73, 74] (by decide +kernel) (by decide +kernel)
set_option maxRecDepth 20000 in
theorem gX4_copy_X4_makes : GoodIn wsX4_copy (wsV RX4 104 RX4 yX4_makes wsX4_makes) := goodIn_app (goodIn_of _ (by decide +kernel)) ggX4_copy_X4_makes
theorem dX4_copy_0 : decode cX4_copy 0 = .ok (.aload_n 0, 1) := by decide +kernel
theorem dX4_copy_1 : decode cX4_copy 1 = .ok (.iload_n 1, 1) := by decide +kernel
theorem dX4_copy_2 : decode cX4_copy 2 = .ok (.invokestatic 91, 3) := by decide +kernel
theorem dX4_copy_5 : decode cX4_copy 5 = .ok (.ifCond .eq 14, 3) := by decide +kernel
theorem dX4_copy_8 : decode cX4_copy 8 = .ok (.iload_n 2, 1) := by decide +kernel
theorem dX4_copy_9 : decode cX4_copy 9 = .ok (.invokestatic 91, 3) := by decide +kernel
theorem dX4_copy_12 : decode cX4_copy 12 = .ok (.ifCond .eq 7, 3) := by decide +kernel
theorem dX4_copy_15 : decode cX4_copy 15 = .ok (.iconst 1, 1) := by decide +kernel
theorem dX4_copy_16 : decode cX4_copy 16 = .ok (.goto 4, 3) := by decide +kernel
theorem dX4_copy_19 : decode cX4_copy 19 = .ok (.iconst 0, 1) := by decide +kernel
theorem dX4_copy_20 : decode cX4_copy 20 = .ok (.iload_n 3, 1) := by decide +kernel
theorem dX4_copy_21 : decode cX4_copy 21 = .ok (.iconst 1, 1) := by decide +kernel
theorem dX4_copy_22 : decode cX4_copy 22 = .ok (.iconst 3, 1) := by decide +kernel
theorem dX4_copy_23 : decode cX4_copy 23 = .ok (.invokestatic 38, 3) := by decide +kernel
theorem dX4_copy_26 : decode cX4_copy 26 = .ok (.invokevirtual 94, 3) := by decide +kernel
theorem dX4_copy_29 : decode cX4_copy 29 = .ok (.ifCond .ne 5, 3) := by decide +kernel
theorem dX4_copy_32 : decode cX4_copy 32 = .ok (.iconst 0, 1) := by decide +kernel
theorem dX4_copy_33 : decode cX4_copy 33 = .ok (.ireturn, 1) := by decide +kernel
theorem dX4_copy_34 : decode cX4_copy 34 = .ok (.aload_n 0, 1) := by decide +kernel
theorem dX4_copy_35 : decode cX4_copy 35 = .ok (.invokevirtual 98, 3) := by decide +kernel
theorem dX4_copy_38 : decode cX4_copy 38 = .ok (.aload_n 0, 1) := by decide +kernel
theorem dX4_copy_39 : decode cX4_copy 39 = .ok (.iload_n 1, 1) := by decide +kernel
theorem dX4_copy_40 : decode cX4_copy 40 = .ok (.iload_n 2, 1) := by decide +kernel
theorem dX4_copy_41 : decode cX4_copy 41 = .ok (.iload_n 3, 1) := by decide +kernel
theorem dX4_copy_42 : decode cX4_copy 42 = .ok (.invokevirtual 104, 3) := by decide +kernel
theorem dX4_copy_45 : decode cX4_copy 45 = .ok (.ireturn, 1) := by decide +kernel
set_option maxRecDepth 20000 in
theorem ggX4_play_X4_isTrack : GoodIn wsX4_play wsX4_isTrack := goodIn_r _ [4, 5, 6, 3, 7] (by decide +kernel) (by decide +kernel)
set_option maxRecDepth 20000 in
theorem gX4_play_X4_isTrack : GoodIn wsX4_play (va_wsS RX4 91 yX4_isTrack wsX4_isTrack) := goodIn_app (goodIn_of _ (by decide +kernel)) ggX4_play_X4_isTrack
set_option maxRecDepth 20000 in
theorem ggX4_play_X4_goes : GoodIn wsX4_play wsX4_goes := goodIn_r _ [11, 12, 41, 42, 43, 44, 45, 46, 47, 48, 49, 50, 51, 52] (by decide +kernel) (by decide +kernel)
set_option maxRecDepth 20000 in
theorem gX4_play_X4_goes : GoodIn wsX4_play (wsV RX4 94 RX4 yX4_goes wsX4_goes) := goodIn_app (goodIn_of _ (by decide +kernel)) ggX4_play_X4_goes
set_option maxRecDepth 20000 in
theorem ggX4_play_X4_saves : GoodIn wsX4_play wsX4_saves := goodIn_r _ [16, 17, 18, 19, 20, 3, 21, 22, 41, 42, 43, 44, 45, 46, 47, 48, 49, 50, 51, 52] (by decide +kernel) (by decide +kernel)
set_option maxRecDepth 20000 in
theorem gX4_play_X4_saves : GoodIn wsX4_play (wsV RX4 98 RX4 yX4_saves wsX4_saves) := goodIn_app (goodIn_of _ (by decide +kernel)) ggX4_play_X4_saves
set_option maxRecDepth 20000 in
theorem ggX4_play_X4_plays : GoodIn wsX4_play wsX4_plays := goodIn_r _ [26, 22, 27, 28, 29, 3, 30, 31, 32, 33, 34, 35, 36, 37, 38, 39, 40, 41, 42, 43, 44, 45, 46, 47, 48, 49, 50, 51, 52] (by decide +kernel) (by decide +kernel)
set_option maxRecDepth 20000 in
theorem gX4_play_X4_plays : GoodIn wsX4_play (wsV RX4 107 RX4 yX4_plays wsX4_plays) := goodIn_app (goodIn_of _ (by decide +kernel)) ggX4_play_X4_plays
theorem dX4_play_0 : decode cX4_play 0 = .ok (.aload_n 0, 1) := by decide +kernel
theorem dX4_play_1 : decode cX4_play 1 = .ok (.iload_n 1, 1) := by decide +kernel
theorem dX4_play_2 : decode cX4_play 2 = .ok (.invokestatic 91, 3) := by decide +kernel
theorem dX4_play_5 : decode cX4_play 5 = .ok (.iconst 1, 1) := by decide +kernel
theorem dX4_play_6 : decode cX4_play 6 = .ok (.invokevirtual 94, 3) := by decide +kernel
theorem dX4_play_9 : decode cX4_play 9 = .ok (.ifCond .ne 5, 3) := by decide +kernel
theorem dX4_play_12 : decode cX4_play 12 = .ok (.iconst 0, 1) := by decide +kernel
theorem dX4_play_13 : decode cX4_play 13 = .ok (.ireturn, 1) := by decide +kernel
theorem dX4_play_14 : decode cX4_play 14 = .ok (.aload_n 0, 1) := by decide +kernel
theorem dX4_play_15 : decode cX4_play 15 = .ok (.invokevirtual 98, 3) := by decide +kernel
theorem dX4_play_18 : decode cX4_play 18 = .ok (.aload_n 0, 1) := by decide +kernel
theorem dX4_play_19 : decode cX4_play 19 = .ok (.iload_n 1, 1) := by decide +kernel
theorem dX4_play_20 : decode cX4_play 20 = .ok (.invokevirtual 107, 3) := by decide +kernel
theorem dX4_play_23 : decode cX4_play 23 = .ok (.ireturn, 1) := by decide +kernel
set_option maxRecDepth 20000 in
theorem ggX4_shave_X4_isCylinder : GoodIn wsX4_shave wsX4_isCylinder := goodIn_r _ [4, 5, 6, 3, 7] (by decide +kernel) (by decide +kernel)
set_option maxRecDepth 20000 in
theorem gX4_shave_X4_isCylinder : GoodIn wsX4_shave (va_wsS RX4 110 yX4_isCylinder wsX4_isCylinder) := goodIn_app (goodIn_of _ (by decide +kernel)) ggX4_shave_X4_isCylinder
set_option maxRecDepth 20000 in
theorem ggX4_shave_X4_goes : GoodIn wsX4_shave wsX4_goes := goodIn_r _ [11, 12, 41, 42, 43, 44, 45, 46, 47, 48, 49, 50, 51, 52] (by decide +kernel) (by decide +kernel)
set_option maxRecDepth 20000 in
theorem gX4_shave_X4_goes : GoodIn wsX4_shave (wsV RX4 94 RX4 yX4_goes wsX4_goes) := goodIn_app (goodIn_of _ (by decide +kernel)) ggX4_shave_X4_goes
set_option maxRecDepth 20000 in
theorem ggX4_shave_X4_saves : GoodIn wsX4_shave wsX4_saves := goodIn_r _ [16, 17, 18, 19, 20, 3, 21, 22, 41, 42, 43, 44, 45, 46, 47, 48, 49, 50, 51, 52] (by decide +kernel) (by decide +kernel)
set_option maxRecDepth 20000 in
theorem gX4_shave_X4_saves : GoodIn wsX4_shave (wsV RX4 98 RX4 yX4_saves wsX4_saves) := goodIn_app (goodIn_of _ (by decide +kernel)) ggX4_shave_X4_saves
set_option maxRecDepth 20000 in
theorem ggX4_shave_X4_shaves : GoodIn wsX4_shave wsX4_shaves := goodIn_r _ [26, 22, 27, 28, 29, 3, 30, 31, 32, 33, 34, 35, 36, 37, 38, 39, 40, 41, 42, 43, 44, 45, 46, 47, 48, 49, 50, 51, 52] (by decide +kernel) (by decide +kernel)
set_option maxRecDepth 20000 in
theorem gX4_shave_X4_shaves : GoodIn wsX4_shave (wsV RX4 113 RX4 yX4_shaves wsX4_shaves) := goodIn_app (goodIn_of _ (by decide +kernel)) ggX4_shave_X4_shaves
theorem dX4_shave_0 : decode cX4_shave 0 = .ok (.aload_n 0, 1) := by decide +kernel
theorem dX4_shave_1 : decode cX4_shave 1 = .ok (.iload_n 1, 1) := by decide +kernel
theorem dX4_shave_2 : decode cX4_shave 2 = .ok (.invokestatic 110, 3) := by decide +kernel
theorem dX4_shave_5 : decode cX4_shave 5 = .ok (.iconst 1, 1) := by decide +kernel
theorem dX4_shave_6 : decode cX4_shave 6 = .ok (.invokevirtual 94, 3) := by decide +kernel
theorem dX4_shave_9 : decode cX4_shave 9 = .ok (.ifCond .ne 5, 3) := by decide +kernel
theorem dX4_shave_12 : decode cX4_shave 12 = .ok (.iconst 0, 1) := by decide +kernel
theorem dX4_shave_13 : decode cX4_shave 13 = .ok (.ireturn, 1) := by decide +kernel
theorem dX4_shave_14 : decode cX4_shave 14 = .ok (.aload_n 0, 1) := by decide +kernel
theorem dX4_shave_15 : decode cX4_shave 15 = .ok (.invokevirtual 98, 3) := by decide +kernel
theorem dX4_shave_18 : decode cX4_shave 18 = .ok (.aload_n 0, 1) := by decide +kernel
theorem dX4_shave_19 : decode cX4_shave 19 = .ok (.iload_n 1, 1) := by decide +kernel
theorem dX4_shave_20 : decode cX4_shave 20 = .ok (.invokevirtual 113, 3) := by decide +kernel
theorem dX4_shave_23 : decode cX4_shave 23 = .ok (.ireturn, 1) := by decide +kernel
theorem dX4_fillsUp_0 : decode cX4_fillsUp 0 = .ok (.bipush 100, 2) := by decide +kernel
theorem dX4_fillsUp_2 : decode cX4_fillsUp 2 = .ok (.aload_n 0, 1) := by decide +kernel
theorem dX4_fillsUp_3 : decode cX4_fillsUp 3 = .ok (.getfield 7, 3) := by decide +kernel
theorem dX4_fillsUp_6 : decode cX4_fillsUp 6 = .ok (.iload_n 1, 1) := by decide +kernel
theorem dX4_fillsUp_7 : decode cX4_fillsUp 7 = .ok (.iaload, 1) := by decide +kernel
theorem dX4_fillsUp_8 : decode cX4_fillsUp 8 = .ok (.isub, 1) := by decide +kernel
theorem dX4_fillsUp_9 : decode cX4_fillsUp 9 = .ok (.istore_n 2, 1) := by decide +kernel
theorem dX4_fillsUp_10 : decode cX4_fillsUp 10 = .ok (.aload_n 0, 1) := by decide +kernel
theorem dX4_fillsUp_11 : decode cX4_fillsUp 11 = .ok (.getfield 7, 3) := by decide +kernel
theorem dX4_fillsUp_14 : decode cX4_fillsUp 14 = .ok (.iload_n 1, 1) := by decide +kernel
theorem dX4_fillsUp_15 : decode cX4_fillsUp 15 = .ok (.bipush 100, 2) := by decide +kernel
theorem dX4_fillsUp_17 : decode cX4_fillsUp 17 = .ok (.iastore, 1) := by decide +kernel
theorem dX4_fillsUp_18 : decode cX4_fillsUp 18 = .ok (.iload_n 2, 1) := by decide +kernel
theorem dX4_fillsUp_19 : decode cX4_fillsUp 19 = .ok (.ireturn, 1) := by decide +kernel
set_option maxRecDepth 20000 in
theorem ggX4_wind_X4_saves : GoodIn wsX4_wind wsX4_saves := goodIn_r _ [6, 7, 8, 9, 10, 5, 11, 12, 17, 18, 19, 20, 21, 22, 23, 24, 25, 26, 27, 28] (by decide +kernel) (by decide +kernel)
set_option maxRecDepth 20000 in
theorem gX4_wind_X4_saves : GoodIn wsX4_wind (wsV RX4 98 RX4 yX4_saves wsX4_saves) := goodIn_app (goodIn_of _ (by decide +kernel)) ggX4_wind_X4_saves
set_option maxRecDepth 20000 in
theorem ggX4_wind_X4_fillsUp : GoodIn wsX4_wind wsX4_fillsUp := goodIn_r _ [16, 12, 17, 18, 19, 20, 21, 22, 23, 24, 25, 26, 27, 28] (by decide +kernel) (by decide +kernel)
set_option maxRecDepth 20000 in
theorem gX4_wind_X4_fillsUp : GoodIn wsX4_wind (wsV RX4 116 RX4 yX4_fillsUp wsX4_fillsUp) := goodIn_app (goodIn_of _ (by decide +kernel)) ggX4_wind_X4_fillsUp
theorem dX4_wind_0 : decode cX4_wind 0 = .ok (.aload_n 0, 1) := by decide +kernel
theorem dX4_wind_1 : decode cX4_wind 1 = .ok (.iconst 0, 1) := by decide +kernel
theorem dX4_wind_2 : decode cX4_wind 2 = .ok (.putfield 27, 3) := by decide +kernel
theorem dX4_wind_5 : decode cX4_wind 5 = .ok (.aload_n 0, 1) := by decide +kernel
theorem dX4_wind_6 : decode cX4_wind 6 = .ok (.invokevirtual 98, 3) := by decide +kernel
theorem dX4_wind_9 : decode cX4_wind 9 = .ok (.aload_n 0, 1) := by decide +kernel
theorem dX4_wind_10 : decode cX4_wind 10 = .ok (.iconst 1, 1) := by decide +kernel
theorem dX4_wind_11 : decode cX4_wind 11 = .ok (.invokevirtual 116, 3) := by decide +kernel
theorem dX4_wind_14 : decode cX4_wind 14 = .ok (.ireturn, 1) := by decide +kernel
set_option maxRecDepth 20000 in
theorem ggX4_sharpen_X4_saves : GoodIn wsX4_sharpen wsX4_saves := goodIn_r _ [6, 7, 8, 9, 10, 5, 11, 12, 17, 18, 19, 20, 21, 22, 23, 24, 25, 26, 27, 28] (by decide +kernel) (by decide +kernel)
set_option maxRecDepth 20000 in
theorem gX4_sharpen_X4_saves : GoodIn wsX4_sharpen (wsV RX4 98 RX4 yX4_saves wsX4_saves) := goodIn_app (goodIn_of _ (by decide +kernel)) ggX4_sharpen_X4_saves
set_option maxRecDepth 20000 in
theorem ggX4_sharpen_X4_fillsUp : GoodIn wsX4_sharpen wsX4_fillsUp := goodIn_r _ [16, 12, 17, 18, 19, 20, 21, 22, 23, 24, 25, 26, 27, 28] (by decide +kernel) (by decide +kernel)
set_option maxRecDepth 20000 in
theorem gX4_sharpen_X4_fillsUp : GoodIn wsX4_sharpen (wsV RX4 116 RX4 yX4_fillsUp wsX4_fillsUp) := goodIn_app (goodIn_of _ (by decide +kernel)) ggX4_sharpen_X4_fillsUp
theorem dX4_sharpen_0 : decode cX4_sharpen 0 = .ok (.aload_n 0, 1) := by decide +kernel
theorem dX4_sharpen_1 : decode cX4_sharpen 1 = .ok (.iconst 0, 1) := by decide +kernel
theorem dX4_sharpen_2 : decode cX4_sharpen 2 = .ok (.putfield 27, 3) := by decide +kernel
theorem dX4_sharpen_5 : decode cX4_sharpen 5 = .ok (.aload_n 0, 1) := by decide +kernel
theorem dX4_sharpen_6 : decode cX4_sharpen 6 = .ok (.invokevirtual 98, 3) := by decide +kernel
theorem dX4_sharpen_9 : decode cX4_sharpen 9 = .ok (.aload_n 0, 1) := by decide +kernel
theorem dX4_sharpen_10 : decode cX4_sharpen 10 = .ok (.iconst 0, 1) := by decide +kernel
theorem dX4_sharpen_11 : decode cX4_sharpen 11 = .ok (.invokevirtual 116, 3) := by decide +kernel
theorem dX4_sharpen_14 : decode cX4_sharpen 14 = .ok (.ireturn, 1) := by decide +kernel
set_option maxRecDepth 20000 in
theorem ggX4_renew_X4_isCylinder : GoodIn wsX4_renew wsX4_isCylinder := goodIn_r _ [5, 6, 7, 4, 8] (by decide +kernel) (by decide +kernel)
set_option maxRecDepth 20000 in
theorem gX4_renew_X4_isCylinder : GoodIn wsX4_renew (va_wsS RX4 110 yX4_isCylinder wsX4_isCylinder) := goodIn_app (goodIn_of _ (by decide +kernel)) ggX4_renew_X4_isCylinder
set_option maxRecDepth 20000 in
theorem ggX4_renew_X4_in : GoodIn wsX4_renew wsX4_in := goodIn_r _ [8] (by decide +kernel) (by decide +kernel)
set_option maxRecDepth 20000 in
theorem gX4_renew_X4_in : GoodIn wsX4_renew (va_wsS RX4 38 yX4_in wsX4_in) := goodIn_app (goodIn_of _ (by decide +kernel)) ggX4_renew_X4_in
set_option maxRecDepth 20000 in
theorem ggX4_renew_X4_goes : GoodIn wsX4_renew wsX4_goes := goodIn_r _ [12, 13, 30, 31, 32, 33, 34, 35, 36, 37, 38, 39, 40, 41] (by decide +kernel) (by decide +kernel)
set_option maxRecDepth 20000 in
theorem gX4_renew_X4_goes : GoodIn wsX4_renew (wsV RX4 94 RX4 yX4_goes wsX4_goes) := goodIn_app (goodIn_of _ (by decide +kernel)) ggX4_renew_X4_goes
set_option maxRecDepth 20000 in
theorem ggX4_renew_X4_saves : GoodIn wsX4_renew wsX4_saves := goodIn_r _ [17, 18, 19, 20, 21, 4, 22, 1, 30, 31, 32, 33, 34, 35, 36, 37, 38, 39, 40, 41] (by decide +kernel) (by decide +kernel)
set_option maxRecDepth 20000 in
theorem gX4_renew_X4_saves : GoodIn wsX4_renew (wsV RX4 98 RX4 yX4_saves wsX4_saves) := goodIn_app (goodIn_of _ (by decide +kernel)) ggX4_renew_X4_saves
set_option maxRecDepth 20000 in
theorem ggX4_renew_X4_smooths : GoodIn wsX4_renew wsX4_smooths := goodIn_r _ [26, 1, 27, 28, 4, 29, 30, 31, 32, 33, 34, 35, 36, 37, 38, 39, 40, 41] (by decide +kernel) (by decide +kernel)
set_option maxRecDepth 20000 in
theorem gX4_renew_X4_smooths : GoodIn wsX4_renew (wsV RX4 87 RX4 yX4_smooths wsX4_smooths) := goodIn_app (goodIn_of _ (by decide +kernel)) ggX4_renew_X4_smooths
theorem dX4_renew_0 : decode cX4_renew 0 = .ok (.aload_n 0, 1) := by decide +kernel
theorem dX4_renew_1 : decode cX4_renew 1 = .ok (.iload_n 1, 1) := by decide +kernel
theorem dX4_renew_2 : decode cX4_renew 2 = .ok (.invokestatic 110, 3) := by decide +kernel
theorem dX4_renew_5 : decode cX4_renew 5 = .ok (.iload_n 2, 1) := by decide +kernel
theorem dX4_renew_6 : decode cX4_renew 6 = .ok (.iconst 0, 1) := by decide +kernel
theorem dX4_renew_7 : decode cX4_renew 7 = .ok (.bipush 100, 2) := by decide +kernel
theorem dX4_renew_9 : decode cX4_renew 9 = .ok (.invokestatic 38, 3) := by decide +kernel
theorem dX4_renew_12 : decode cX4_renew 12 = .ok (.invokevirtual 94, 3) := by decide +kernel
theorem dX4_renew_15 : decode cX4_renew 15 = .ok (.ifCond .ne 5, 3) := by decide +kernel
theorem dX4_renew_18 : decode cX4_renew 18 = .ok (.iconst 0, 1) := by decide +kernel
theorem dX4_renew_19 : decode cX4_renew 19 = .ok (.ireturn, 1) := by decide +kernel
theorem dX4_renew_20 : decode cX4_renew 20 = .ok (.aload_n 0, 1) := by decide +kernel
theorem dX4_renew_21 : decode cX4_renew 21 = .ok (.invokevirtual 98, 3) := by decide +kernel
theorem dX4_renew_24 : decode cX4_renew 24 = .ok (.aload_n 0, 1) := by decide +kernel
theorem dX4_renew_25 : decode cX4_renew 25 = .ok (.getfield 7, 3) := by decide +kernel
theorem dX4_renew_28 : decode cX4_renew 28 = .ok (.bipush 10, 2) := by decide +kernel
theorem dX4_renew_30 : decode cX4_renew 30 = .ok (.iconst 2, 1) := by decide +kernel
theorem dX4_renew_31 : decode cX4_renew 31 = .ok (.iload_n 1, 1) := by decide +kernel
theorem dX4_renew_32 : decode cX4_renew 32 = .ok (.imul, 1) := by decide +kernel
theorem dX4_renew_33 : decode cX4_renew 33 = .ok (.iadd, 1) := by decide +kernel
theorem dX4_renew_34 : decode cX4_renew 34 = .ok (.iaload, 1) := by decide +kernel
theorem dX4_renew_35 : decode cX4_renew 35 = .ok (.istore_n 3, 1) := by decide +kernel
theorem dX4_renew_36 : decode cX4_renew 36 = .ok (.aload_n 0, 1) := by decide +kernel
theorem dX4_renew_37 : decode cX4_renew 37 = .ok (.getfield 7, 3) := by decide +kernel
theorem dX4_renew_40 : decode cX4_renew 40 = .ok (.bipush 10, 2) := by decide +kernel
theorem dX4_renew_42 : decode cX4_renew 42 = .ok (.iconst 2, 1) := by decide +kernel
theorem dX4_renew_43 : decode cX4_renew 43 = .ok (.iload_n 1, 1) := by decide +kernel
theorem dX4_renew_44 : decode cX4_renew 44 = .ok (.imul, 1) := by decide +kernel
theorem dX4_renew_45 : decode cX4_renew 45 = .ok (.iadd, 1) := by decide +kernel
theorem dX4_renew_46 : decode cX4_renew 46 = .ok (.iload_n 2, 1) := by decide +kernel
theorem dX4_renew_47 : decode cX4_renew 47 = .ok (.iastore, 1) := by decide +kernel
theorem dX4_renew_48 : decode cX4_renew 48 = .ok (.aload_n 0, 1) := by decide +kernel
theorem dX4_renew_49 : decode cX4_renew 49 = .ok (.getfield 7, 3) := by decide +kernel
theorem dX4_renew_52 : decode cX4_renew 52 = .ok (.bipush 10, 2) := by decide +kernel
theorem dX4_renew_54 : decode cX4_renew 54 = .ok (.iconst 2, 1) := by decide +kernel
theorem dX4_renew_55 : decode cX4_renew 55 = .ok (.iload_n 1, 1) := by decide +kernel
theorem dX4_renew_56 : decode cX4_renew 56 = .ok (.imul, 1) := by decide +kernel
theorem dX4_renew_57 : decode cX4_renew 57 = .ok (.iadd, 1) := by decide +kernel
theorem dX4_renew_58 : decode cX4_renew 58 = .ok (.iconst 1, 1) := by decide +kernel
theorem dX4_renew_59 : decode cX4_renew 59 = .ok (.iadd, 1) := by decide +kernel
theorem dX4_renew_60 : decode cX4_renew 60 = .ok (.iconst 0, 1) := by decide +kernel
theorem dX4_renew_61 : decode cX4_renew 61 = .ok (.iastore, 1) := by decide +kernel
theorem dX4_renew_62 : decode cX4_renew 62 = .ok (.aload_n 0, 1) := by decide +kernel
theorem dX4_renew_63 : decode cX4_renew 63 = .ok (.getfield 7, 3) := by decide +kernel
theorem dX4_renew_66 : decode cX4_renew 66 = .ok (.bipush 7, 2) := by decide +kernel
theorem dX4_renew_68 : decode cX4_renew 68 = .ok (.dup2, 1) := by decide +kernel
theorem dX4_renew_69 : decode cX4_renew 69 = .ok (.iaload, 1) := by decide +kernel
theorem dX4_renew_70 : decode cX4_renew 70 = .ok (.iload_n 2, 1) := by decide +kernel
theorem dX4_renew_71 : decode cX4_renew 71 = .ok (.iadd, 1) := by decide +kernel
theorem dX4_renew_72 : decode cX4_renew 72 = .ok (.iastore, 1) := by decide +kernel
theorem dX4_renew_73 : decode cX4_renew 73 = .ok (.aload_n 0, 1) := by decide +kernel
theorem dX4_renew_74 : decode cX4_renew 74 = .ok (.getfield 7, 3) := by decide +kernel
theorem dX4_renew_77 : decode cX4_renew 77 = .ok (.bipush 8, 2) := by decide +kernel
theorem dX4_renew_79 : decode cX4_renew 79 = .ok (.dup2, 1) := by decide +kernel
theorem dX4_renew_80 : decode cX4_renew 80 = .ok (.iaload, 1) := by decide +kernel
theorem dX4_renew_81 : decode cX4_renew 81 = .ok (.iload_n 3, 1) := by decide +kernel
theorem dX4_renew_82 : decode cX4_renew 82 = .ok (.iadd, 1) := by decide +kernel
theorem dX4_renew_83 : decode cX4_renew 83 = .ok (.iastore, 1) := by decide +kernel
theorem dX4_renew_84 : decode cX4_renew 84 = .ok (.aload_n 0, 1) := by decide +kernel
theorem dX4_renew_85 : decode cX4_renew 85 = .ok (.iload_n 1, 1) := by decide +kernel
theorem dX4_renew_86 : decode cX4_renew 86 = .ok (.invokevirtual 87, 3) := by decide +kernel
theorem dX4_renew_89 : decode cX4_renew 89 = .ok (.iload_n 3, 1) := by decide +kernel
theorem dX4_renew_90 : decode cX4_renew 90 = .ok (.ireturn, 1) := by decide +kernel
set_option maxRecDepth 20000 in
theorem ggX4_set_X4_in : GoodIn wsX4_set wsX4_in := goodIn_r _ [5] (by decide +kernel) (by decide +kernel)
set_option maxRecDepth 20000 in
theorem gX4_set_X4_in : GoodIn wsX4_set (va_wsS RX4 38 yX4_in wsX4_in) := goodIn_app (goodIn_of _ (by decide +kernel)) ggX4_set_X4_in
set_option maxRecDepth 20000 in
theorem ggX4_set_X4_goes : GoodIn wsX4_set wsX4_goes := goodIn_r _ [9, 10, 20, 21, 22, 23, 24, 25, 26, 27, 28, 29, 30, 31] (by decide +kernel) (by decide +kernel)
set_option maxRecDepth 20000 in
theorem gX4_set_X4_goes : GoodIn wsX4_set (wsV RX4 94 RX4 yX4_goes wsX4_goes) := goodIn_app (goodIn_of _ (by decide +kernel)) ggX4_set_X4_goes
set_option maxRecDepth 20000 in
theorem ggX4_set_X4_saves : GoodIn wsX4_set wsX4_saves := goodIn_r _ [14, 15, 16, 17, 18, 4, 19, 1, 20, 21, 22, 23, 24, 25, 26, 27, 28, 29, 30, 31] (by decide +kernel) (by decide +kernel)
set_option maxRecDepth 20000 in
theorem gX4_set_X4_saves : GoodIn wsX4_set (wsV RX4 98 RX4 yX4_saves wsX4_saves) := goodIn_app (goodIn_of _ (by decide +kernel)) ggX4_set_X4_saves
theorem dX4_set_0 : decode cX4_set 0 = .ok (.aload_n 0, 1) := by decide +kernel
theorem dX4_set_1 : decode cX4_set 1 = .ok (.iload_n 1, 1) := by decide +kernel
theorem dX4_set_2 : decode cX4_set 2 = .ok (.iconst 0, 1) := by decide +kernel
theorem dX4_set_3 : decode cX4_set 3 = .ok (.bipush 20, 2) := by decide +kernel
theorem dX4_set_5 : decode cX4_set 5 = .ok (.invokestatic 38, 3) := by decide +kernel
theorem dX4_set_8 : decode cX4_set 8 = .ok (.iconst 1, 1) := by decide +kernel
theorem dX4_set_9 : decode cX4_set 9 = .ok (.invokevirtual 94, 3) := by decide +kernel
theorem dX4_set_12 : decode cX4_set 12 = .ok (.ifCond .ne 5, 3) := by decide +kernel
theorem dX4_set_15 : decode cX4_set 15 = .ok (.iconst 0, 1) := by decide +kernel
theorem dX4_set_16 : decode cX4_set 16 = .ok (.ireturn, 1) := by decide +kernel
theorem dX4_set_17 : decode cX4_set 17 = .ok (.aload_n 0, 1) := by decide +kernel
theorem dX4_set_18 : decode cX4_set 18 = .ok (.invokevirtual 98, 3) := by decide +kernel
theorem dX4_set_21 : decode cX4_set 21 = .ok (.aload_n 0, 1) := by decide +kernel
theorem dX4_set_22 : decode cX4_set 22 = .ok (.getfield 7, 3) := by decide +kernel
theorem dX4_set_25 : decode cX4_set 25 = .ok (.iconst 2, 1) := by decide +kernel
theorem dX4_set_26 : decode cX4_set 26 = .ok (.iaload, 1) := by decide +kernel
theorem dX4_set_27 : decode cX4_set 27 = .ok (.istore_n 2, 1) := by decide +kernel
theorem dX4_set_28 : decode cX4_set 28 = .ok (.aload_n 0, 1) := by decide +kernel
theorem dX4_set_29 : decode cX4_set 29 = .ok (.getfield 7, 3) := by decide +kernel
theorem dX4_set_32 : decode cX4_set 32 = .ok (.iconst 2, 1) := by decide +kernel
theorem dX4_set_33 : decode cX4_set 33 = .ok (.iload_n 1, 1) := by decide +kernel
theorem dX4_set_34 : decode cX4_set 34 = .ok (.iastore, 1) := by decide +kernel
theorem dX4_set_35 : decode cX4_set 35 = .ok (.iload_n 2, 1) := by decide +kernel
theorem dX4_set_36 : decode cX4_set 36 = .ok (.ireturn, 1) := by decide +kernel
set_option maxRecDepth 20000 in
theorem ggX4_append_X4_in : GoodIn wsX4_append wsX4_in := goodIn_r _ [6] (by decide +kernel) (by decide +kernel)
set_option maxRecDepth 20000 in
theorem gX4_append_X4_in : GoodIn wsX4_append (va_wsS RX4 38 yX4_in wsX4_in) := goodIn_app (goodIn_of _ (by decide +kernel)) ggX4_append_X4_in
set_option maxRecDepth 20000 in
theorem ggX4_append_X4_goes : GoodIn wsX4_append wsX4_goes := goodIn_r _ [10, 11, 12, 13, 14, 15, 16, 17, 18, 19, 20, 21, 22, 23] (by decide +kernel) (by decide +kernel)
set_option maxRecDepth 20000 in
theorem gX4_append_X4_goes : GoodIn wsX4_append (wsV RX4 94 RX4 yX4_goes wsX4_goes) := goodIn_app (goodIn_of _ (by decide +kernel)) ggX4_append_X4_goes
theorem dX4_append_0 : decode cX4_append 0 = .ok (.aload_n 0, 1) := by decide +kernel
theorem dX4_append_1 : decode cX4_append 1 = .ok (.iload_n 1, 1) := by decide +kernel
theorem dX4_append_2 : decode cX4_append 2 = .ok (.bipush 33, 2) := by decide +kernel
theorem dX4_append_4 : decode cX4_append 4 = .ok (.bipush 126, 2) := by decide +kernel
theorem dX4_append_6 : decode cX4_append 6 = .ok (.invokestatic 38, 3) := by decide +kernel
theorem dX4_append_9 : decode cX4_append 9 = .ok (.aload_n 0, 1) := by decide +kernel
theorem dX4_append_10 : decode cX4_append 10 = .ok (.getfield 119, 3) := by decide +kernel
theorem dX4_append_13 : decode cX4_append 13 = .ok (.bipush 60, 2) := by decide +kernel
theorem dX4_append_15 : decode cX4_append 15 = .ok (.if_icmp .ge 7, 3) := by decide +kernel
theorem dX4_append_18 : decode cX4_append 18 = .ok (.iconst 1, 1) := by decide +kernel
theorem dX4_append_19 : decode cX4_append 19 = .ok (.goto 4, 3) := by decide +kernel
theorem dX4_append_22 : decode cX4_append 22 = .ok (.iconst 0, 1) := by decide +kernel
theorem dX4_append_23 : decode cX4_append 23 = .ok (.invokevirtual 94, 3) := by decide +kernel
theorem dX4_append_26 : decode cX4_append 26 = .ok (.ifCond .ne 5, 3) := by decide +kernel
theorem dX4_append_29 : decode cX4_append 29 = .ok (.iconst 0, 1) := by decide +kernel
theorem dX4_append_30 : decode cX4_append 30 = .ok (.ireturn, 1) := by decide +kernel
theorem dX4_append_31 : decode cX4_append 31 = .ok (.aload_n 0, 1) := by decide +kernel
theorem dX4_append_32 : decode cX4_append 32 = .ok (.getfield 17, 3) := by decide +kernel
theorem dX4_append_35 : decode cX4_append 35 = .ok (.aload_n 0, 1) := by decide +kernel
theorem dX4_append_36 : decode cX4_append 36 = .ok (.getfield 119, 3) := by decide +kernel
theorem dX4_append_39 : decode cX4_append 39 = .ok (.iload_n 1, 1) := by decide +kernel
theorem dX4_append_40 : decode cX4_append 40 = .ok (.i2c, 1) := by decide +kernel
theorem dX4_append_41 : decode cX4_append 41 = .ok (.castore, 1) := by decide +kernel
theorem dX4_append_42 : decode cX4_append 42 = .ok (.aload_n 0, 1) := by decide +kernel
theorem dX4_append_43 : decode cX4_append 43 = .ok (.dup, 1) := by decide +kernel
theorem dX4_append_44 : decode cX4_append 44 = .ok (.getfield 119, 3) := by decide +kernel
theorem dX4_append_47 : decode cX4_append 47 = .ok (.iconst 1, 1) := by decide +kernel
theorem dX4_append_48 : decode cX4_append 48 = .ok (.iadd, 1) := by decide +kernel
theorem dX4_append_49 : decode cX4_append 49 = .ok (.putfield 119, 3) := by decide +kernel
theorem dX4_append_52 : decode cX4_append 52 = .ok (.aload_n 0, 1) := by decide +kernel
theorem dX4_append_53 : decode cX4_append 53 = .ok (.getfield 119, 3) := by decide +kernel
theorem dX4_append_56 : decode cX4_append 56 = .ok (.ireturn, 1) := by decide +kernel
theorem dX4_clearBuffer_0 : decode cX4_clearBuffer 0 = .ok (.aload_n 0, 1) := by decide +kernel
theorem dX4_clearBuffer_1 : decode cX4_clearBuffer 1 = .ok (.iconst 0, 1) := by decide +kernel
theorem dX4_clearBuffer_2 : decode cX4_clearBuffer 2 = .ok (.putfield 27, 3) := by decide +kernel
theorem dX4_clearBuffer_5 : decode cX4_clearBuffer 5 = .ok (.aload_n 0, 1) := by decide +kernel
theorem dX4_clearBuffer_6 : decode cX4_clearBuffer 6 = .ok (.getfield 119, 3) := by decide +kernel
theorem dX4_clearBuffer_9 : decode cX4_clearBuffer 9 = .ok (.istore_n 1, 1) := by decide +kernel
theorem dX4_clearBuffer_10 : decode cX4_clearBuffer 10 = .ok (.aload_n 0, 1) := by decide +kernel
theorem dX4_clearBuffer_11 : decode cX4_clearBuffer 11 = .ok (.iconst 0, 1) := by decide +kernel
theorem dX4_clearBuffer_12 : decode cX4_clearBuffer 12 = .ok (.putfield 119, 3) := by decide +kernel
theorem dX4_clearBuffer_15 : decode cX4_clearBuffer 15 = .ok (.iload_n 1, 1) := by decide +kernel
theorem dX4_clearBuffer_16 : decode cX4_clearBuffer 16 = .ok (.ireturn, 1) := by decide +kernel
set_option maxRecDepth 20000 in
theorem ggX4_takes_X4_in : GoodIn wsX4_takes wsX4_in := goodIn_r _ [7] (by decide +kernel) (by decide +kernel)
set_option maxRecDepth 20000 in
theorem gX4_takes_X4_in : GoodIn wsX4_takes (va_wsS RX4 38 yX4_in wsX4_in) := goodIn_app (goodIn_of _ (by decide +kernel)) ggX4_takes_X4_in
theorem dX4_takes_0 : decode cX4_takes 0 = .ok (.aload_n 0, 1) := by decide +kernel
theorem dX4_takes_1 : decode cX4_takes 1 = .ok (.getfield 122, 3) := by decide +kernel
theorem dX4_takes_4 : decode cX4_takes 4 = .ok (.aload_n 0, 1) := by decide +kernel
theorem dX4_takes_5 : decode cX4_takes 5 = .ok (.getfield 119, 3) := by decide +kernel
theorem dX4_takes_8 : decode cX4_takes 8 = .ok (.if_icmp .eq 20, 3) := by decide +kernel
theorem dX4_takes_11 : decode cX4_takes 11 = .ok (.aload_n 0, 1) := by decide +kernel
theorem dX4_takes_12 : decode cX4_takes 12 = .ok (.getfield 17, 3) := by decide +kernel
theorem dX4_takes_15 : decode cX4_takes 15 = .ok (.aload_n 0, 1) := by decide +kernel
theorem dX4_takes_16 : decode cX4_takes 16 = .ok (.getfield 122, 3) := by decide +kernel
theorem dX4_takes_19 : decode cX4_takes 19 = .ok (.caload, 1) := by decide +kernel
theorem dX4_takes_20 : decode cX4_takes 20 = .ok (.iload_n 1, 1) := by decide +kernel
theorem dX4_takes_21 : decode cX4_takes 21 = .ok (.iload_n 2, 1) := by decide +kernel
theorem dX4_takes_22 : decode cX4_takes 22 = .ok (.invokestatic 38, 3) := by decide +kernel
theorem dX4_takes_25 : decode cX4_takes 25 = .ok (.ifCond .ne 5, 3) := by decide +kernel
theorem dX4_takes_28 : decode cX4_takes 28 = .ok (.iconst (-1), 1) := by decide +kernel
theorem dX4_takes_29 : decode cX4_takes 29 = .ok (.ireturn, 1) := by decide +kernel
theorem dX4_takes_30 : decode cX4_takes 30 = .ok (.aload_n 0, 1) := by decide +kernel
theorem dX4_takes_31 : decode cX4_takes 31 = .ok (.dup, 1) := by decide +kernel
theorem dX4_takes_32 : decode cX4_takes 32 = .ok (.getfield 122, 3) := by decide +kernel
theorem dX4_takes_35 : decode cX4_takes 35 = .ok (.iconst 1, 1) := by decide +kernel
theorem dX4_takes_36 : decode cX4_takes 36 = .ok (.iadd, 1) := by decide +kernel
theorem dX4_takes_37 : decode cX4_takes 37 = .ok (.putfield 122, 3) := by decide +kernel
theorem dX4_takes_40 : decode cX4_takes 40 = .ok (.aload_n 0, 1) := by decide +kernel
theorem dX4_takes_41 : decode cX4_takes 41 = .ok (.getfield 17, 3) := by decide +kernel
theorem dX4_takes_44 : decode cX4_takes 44 = .ok (.aload_n 0, 1) := by decide +kernel
theorem dX4_takes_45 : decode cX4_takes 45 = .ok (.getfield 122, 3) := by decide +kernel
theorem dX4_takes_48 : decode cX4_takes 48 = .ok (.iconst 1, 1) := by decide +kernel
theorem dX4_takes_49 : decode cX4_takes 49 = .ok (.isub, 1) := by decide +kernel
theorem dX4_takes_50 : decode cX4_takes 50 = .ok (.caload, 1) := by decide +kernel
theorem dX4_takes_51 : decode cX4_takes 51 = .ok (.iload_n 1, 1) := by decide +kernel
theorem dX4_takes_52 : decode cX4_takes 52 = .ok (.isub, 1) := by decide +kernel
theorem dX4_takes_53 : decode cX4_takes 53 = .ok (.ireturn, 1) := by decide +kernel
set_option maxRecDepth 20000 in
theorem ggX4_readsTrack_X4_takes : GoodIn wsX4_readsTrack wsX4_takes := goodIn_r _ [5, 6, 7, 8, 9, 10, 4, 11, 12, 13, 14, 15, 16, 17, 18, 19, 20, 21, 22, 23] (by decide +kernel) (by decide +kernel)
set_option maxRecDepth 20000 in
theorem gX4_readsTrack_X4_takes : GoodIn wsX4_readsTrack (wsV RX4 125 RX4 yX4_takes wsX4_takes) := goodIn_app (goodIn_of _ (by decide +kernel)) ggX4_readsTrack_X4_takes
theorem dX4_readsTrack_0 : decode cX4_readsTrack 0 = .ok (.aload_n 0, 1) := by decide +kernel
theorem dX4_readsTrack_1 : decode cX4_readsTrack 1 = .ok (.bipush 97, 2) := by decide +kernel
theorem dX4_readsTrack_3 : decode cX4_readsTrack 3 = .ok (.bipush 102, 2) := by decide +kernel
theorem dX4_readsTrack_5 : decode cX4_readsTrack 5 = .ok (.invokevirtual 125, 3) := by decide +kernel
theorem dX4_readsTrack_8 : decode cX4_readsTrack 8 = .ok (.istore_n 1, 1) := by decide +kernel
theorem dX4_readsTrack_9 : decode cX4_readsTrack 9 = .ok (.iload_n 1, 1) := by decide +kernel
theorem dX4_readsTrack_10 : decode cX4_readsTrack 10 = .ok (.iconst (-1), 1) := by decide +kernel
theorem dX4_readsTrack_11 : decode cX4_readsTrack 11 = .ok (.if_icmp .ne 7, 3) := by decide +kernel
theorem dX4_readsTrack_14 : decode cX4_readsTrack 14 = .ok (.iconst (-1), 1) := by decide +kernel
theorem dX4_readsTrack_15 : decode cX4_readsTrack 15 = .ok (.goto 11, 3) := by decide +kernel
theorem dX4_readsTrack_18 : decode cX4_readsTrack 18 = .ok (.aload_n 0, 1) := by decide +kernel
theorem dX4_readsTrack_19 : decode cX4_readsTrack 19 = .ok (.bipush 48, 2) := by decide +kernel
theorem dX4_readsTrack_21 : decode cX4_readsTrack 21 = .ok (.bipush 51, 2) := by decide +kernel
theorem dX4_readsTrack_23 : decode cX4_readsTrack 23 = .ok (.invokevirtual 125, 3) := by decide +kernel
theorem dX4_readsTrack_26 : decode cX4_readsTrack 26 = .ok (.istore_n 2, 1) := by decide +kernel
theorem dX4_readsTrack_27 : decode cX4_readsTrack 27 = .ok (.iload_n 2, 1) := by decide +kernel
theorem dX4_readsTrack_28 : decode cX4_readsTrack 28 = .ok (.iconst (-1), 1) := by decide +kernel
theorem dX4_readsTrack_29 : decode cX4_readsTrack 29 = .ok (.if_icmp .ne 7, 3) := by decide +kernel
theorem dX4_readsTrack_32 : decode cX4_readsTrack 32 = .ok (.iconst (-1), 1) := by decide +kernel
theorem dX4_readsTrack_33 : decode cX4_readsTrack 33 = .ok (.goto 8, 3) := by decide +kernel
theorem dX4_readsTrack_36 : decode cX4_readsTrack 36 = .ok (.iconst 4, 1) := by decide +kernel
theorem dX4_readsTrack_37 : decode cX4_readsTrack 37 = .ok (.iload_n 1, 1) := by decide +kernel
theorem dX4_readsTrack_38 : decode cX4_readsTrack 38 = .ok (.imul, 1) := by decide +kernel
theorem dX4_readsTrack_39 : decode cX4_readsTrack 39 = .ok (.iload_n 2, 1) := by decide +kernel
theorem dX4_readsTrack_40 : decode cX4_readsTrack 40 = .ok (.iadd, 1) := by decide +kernel
theorem dX4_readsTrack_41 : decode cX4_readsTrack 41 = .ok (.ireturn, 1) := by decide +kernel
set_option maxRecDepth 20000 in
theorem ggX4_order_X4_readsTrack : GoodIn wsX4_order wsX4_readsTrack := goodIn_r _ [11, 12, 13, 14, 10, 15, 1, 2, 3, 16, 17, 18, 19, 20, 21, 22, 23, 24, 25, 26, 27, 28, 29, 30] (by decide +kernel) (by decide +kernel)
set_option maxRecDepth 20000 in
theorem gX4_order_X4_readsTrack : GoodIn wsX4_order (wsV RX4 129 RX4 yX4_readsTrack wsX4_readsTrack) := goodIn_app (goodIn_of _ (by decide +kernel)) ggX4_order_X4_readsTrack
set_option maxRecDepth 20000 in
theorem ggX4_order_X4_takes : GoodIn wsX4_order wsX4_takes := goodIn_r _ [15, 1, 2, 3, 16, 17, 10, 18, 19, 20, 21, 22, 23, 24, 25, 26, 27, 28, 29, 30] (by decide +kernel) (by decide +kernel)
set_option maxRecDepth 20000 in
theorem gX4_order_X4_takes : GoodIn wsX4_order (wsV RX4 125 RX4 yX4_takes wsX4_takes) := goodIn_app (goodIn_of _ (by decide +kernel)) ggX4_order_X4_takes
theorem dX4_order_0 : decode cX4_order 0 = .ok (.aload_n 0, 1) := by decide +kernel
theorem dX4_order_1 : decode cX4_order 1 = .ok (.getfield 122, 3) := by decide +kernel
theorem dX4_order_4 : decode cX4_order 4 = .ok (.aload_n 0, 1) := by decide +kernel
theorem dX4_order_5 : decode cX4_order 5 = .ok (.getfield 119, 3) := by decide +kernel
theorem dX4_order_8 : decode cX4_order 8 = .ok (.if_icmp .ge 15, 3) := by decide +kernel
theorem dX4_order_11 : decode cX4_order 11 = .ok (.aload_n 0, 1) := by decide +kernel
theorem dX4_order_12 : decode cX4_order 12 = .ok (.getfield 17, 3) := by decide +kernel
theorem dX4_order_15 : decode cX4_order 15 = .ok (.aload_n 0, 1) := by decide +kernel
theorem dX4_order_16 : decode cX4_order 16 = .ok (.getfield 122, 3) := by decide +kernel
theorem dX4_order_19 : decode cX4_order 19 = .ok (.caload, 1) := by decide +kernel
theorem dX4_order_20 : decode cX4_order 20 = .ok (.goto 5, 3) := by decide +kernel
theorem dX4_order_23 : decode cX4_order 23 = .ok (.bipush 32, 2) := by decide +kernel
theorem dX4_order_25 : decode cX4_order 25 = .ok (.istore_n 1, 1) := by decide +kernel
theorem dX4_order_26 : decode cX4_order 26 = .ok (.aload_n 0, 1) := by decide +kernel
theorem dX4_order_27 : decode cX4_order 27 = .ok (.dup, 1) := by decide +kernel
theorem dX4_order_28 : decode cX4_order 28 = .ok (.getfield 122, 3) := by decide +kernel
theorem dX4_order_31 : decode cX4_order 31 = .ok (.iconst 1, 1) := by decide +kernel
theorem dX4_order_32 : decode cX4_order 32 = .ok (.iadd, 1) := by decide +kernel
theorem dX4_order_33 : decode cX4_order 33 = .ok (.putfield 122, 3) := by decide +kernel
theorem dX4_order_36 : decode cX4_order 36 = .ok (.iload_n 1, 1) := by decide +kernel
theorem dX4_order_37 : decode cX4_order 37 = .ok (.lookupswitch 253 #[(99, 110), (112, 201), (115, 51), (119, 251), (120, 224)], 51) := by decide +kernel
theorem dX4_order_88 : decode cX4_order 88 = .ok (.aload_n 0, 1) := by decide +kernel
theorem dX4_order_89 : decode cX4_order 89 = .ok (.aload_n 0, 1) := by decide +kernel
theorem dX4_order_90 : decode cX4_order 90 = .ok (.invokevirtual 129, 3) := by decide +kernel
theorem dX4_order_93 : decode cX4_order 93 = .ok (.putfield 132, 3) := by decide +kernel
theorem dX4_order_96 : decode cX4_order 96 = .ok (.aload_n 0, 1) := by decide +kernel
theorem dX4_order_97 : decode cX4_order 97 = .ok (.aload_n 0, 1) := by decide +kernel
theorem dX4_order_98 : decode cX4_order 98 = .ok (.getfield 132, 3) := by decide +kernel
theorem dX4_order_101 : decode cX4_order 101 = .ok (.iconst (-1), 1) := by decide +kernel
theorem dX4_order_102 : decode cX4_order 102 = .ok (.if_icmp .eq 15, 3) := by decide +kernel
theorem dX4_order_105 : decode cX4_order 105 = .ok (.aload_n 0, 1) := by decide +kernel
theorem dX4_order_106 : decode cX4_order 106 = .ok (.bipush 61, 2) := by decide +kernel
theorem dX4_order_108 : decode cX4_order 108 = .ok (.bipush 61, 2) := by decide +kernel
theorem dX4_order_110 : decode cX4_order 110 = .ok (.invokevirtual 125, 3) := by decide +kernel
theorem dX4_order_113 : decode cX4_order 113 = .ok (.iconst (-1), 1) := by decide +kernel
theorem dX4_order_114 : decode cX4_order 114 = .ok (.if_icmp .ne 7, 3) := by decide +kernel
theorem dX4_order_117 : decode cX4_order 117 = .ok (.iconst (-1), 1) := by decide +kernel
theorem dX4_order_118 : decode cX4_order 118 = .ok (.goto 11, 3) := by decide +kernel
theorem dX4_order_121 : decode cX4_order 121 = .ok (.aload_n 0, 1) := by decide +kernel
theorem dX4_order_122 : decode cX4_order 122 = .ok (.bipush 49, 2) := by decide +kernel
theorem dX4_order_124 : decode cX4_order 124 = .ok (.bipush 57, 2) := by decide +kernel
theorem dX4_order_126 : decode cX4_order 126 = .ok (.invokevirtual 125, 3) := by decide +kernel
theorem dX4_order_129 : decode cX4_order 129 = .ok (.putfield 135, 3) := by decide +kernel
theorem dX4_order_132 : decode cX4_order 132 = .ok (.aload_n 0, 1) := by decide +kernel
theorem dX4_order_133 : decode cX4_order 133 = .ok (.getfield 135, 3) := by decide +kernel
theorem dX4_order_136 : decode cX4_order 136 = .ok (.iconst (-1), 1) := by decide +kernel
theorem dX4_order_137 : decode cX4_order 137 = .ok (.if_icmp .ne 8, 3) := by decide +kernel
theorem dX4_order_140 : decode cX4_order 140 = .ok (.bipush 32, 2) := by decide +kernel
theorem dX4_order_142 : decode cX4_order 142 = .ok (.goto 4, 3) := by decide +kernel
theorem dX4_order_145 : decode cX4_order 145 = .ok (.iload_n 1, 1) := by decide +kernel
theorem dX4_order_146 : decode cX4_order 146 = .ok (.ireturn, 1) := by decide +kernel
theorem dX4_order_147 : decode cX4_order 147 = .ok (.aload_n 0, 1) := by decide +kernel
theorem dX4_order_148 : decode cX4_order 148 = .ok (.aload_n 0, 1) := by decide +kernel
theorem dX4_order_149 : decode cX4_order 149 = .ok (.invokevirtual 129, 3) := by decide +kernel
theorem dX4_order_152 : decode cX4_order 152 = .ok (.putfield 132, 3) := by decide +kernel
theorem dX4_order_155 : decode cX4_order 155 = .ok (.aload_n 0, 1) := by decide +kernel
theorem dX4_order_156 : decode cX4_order 156 = .ok (.aload_n 0, 1) := by decide +kernel
theorem dX4_order_157 : decode cX4_order 157 = .ok (.getfield 132, 3) := by decide +kernel
theorem dX4_order_160 : decode cX4_order 160 = .ok (.iconst (-1), 1) := by decide +kernel
theorem dX4_order_161 : decode cX4_order 161 = .ok (.if_icmp .eq 15, 3) := by decide +kernel
theorem dX4_order_164 : decode cX4_order 164 = .ok (.aload_n 0, 1) := by decide +kernel
theorem dX4_order_165 : decode cX4_order 165 = .ok (.bipush 62, 2) := by decide +kernel
theorem dX4_order_167 : decode cX4_order 167 = .ok (.bipush 62, 2) := by decide +kernel
theorem dX4_order_169 : decode cX4_order 169 = .ok (.invokevirtual 125, 3) := by decide +kernel
theorem dX4_order_172 : decode cX4_order 172 = .ok (.iconst (-1), 1) := by decide +kernel
theorem dX4_order_173 : decode cX4_order 173 = .ok (.if_icmp .ne 7, 3) := by decide +kernel
theorem dX4_order_176 : decode cX4_order 176 = .ok (.iconst (-1), 1) := by decide +kernel
theorem dX4_order_177 : decode cX4_order 177 = .ok (.goto 7, 3) := by decide +kernel
theorem dX4_order_180 : decode cX4_order 180 = .ok (.aload_n 0, 1) := by decide +kernel
theorem dX4_order_181 : decode cX4_order 181 = .ok (.invokevirtual 129, 3) := by decide +kernel
theorem dX4_order_184 : decode cX4_order 184 = .ok (.putfield 135, 3) := by decide +kernel
theorem dX4_order_187 : decode cX4_order 187 = .ok (.aload_n 0, 1) := by decide +kernel
theorem dX4_order_188 : decode cX4_order 188 = .ok (.aload_n 0, 1) := by decide +kernel
theorem dX4_order_189 : decode cX4_order 189 = .ok (.getfield 135, 3) := by decide +kernel
theorem dX4_order_192 : decode cX4_order 192 = .ok (.iconst (-1), 1) := by decide +kernel
theorem dX4_order_193 : decode cX4_order 193 = .ok (.if_icmp .eq 15, 3) := by decide +kernel
theorem dX4_order_196 : decode cX4_order 196 = .ok (.aload_n 0, 1) := by decide +kernel
theorem dX4_order_197 : decode cX4_order 197 = .ok (.bipush 42, 2) := by decide +kernel
theorem dX4_order_199 : decode cX4_order 199 = .ok (.bipush 42, 2) := by decide +kernel
theorem dX4_order_201 : decode cX4_order 201 = .ok (.invokevirtual 125, 3) := by decide +kernel
theorem dX4_order_204 : decode cX4_order 204 = .ok (.iconst (-1), 1) := by decide +kernel
theorem dX4_order_205 : decode cX4_order 205 = .ok (.if_icmp .ne 7, 3) := by decide +kernel
theorem dX4_order_208 : decode cX4_order 208 = .ok (.iconst (-1), 1) := by decide +kernel
theorem dX4_order_209 : decode cX4_order 209 = .ok (.goto 11, 3) := by decide +kernel
theorem dX4_order_212 : decode cX4_order 212 = .ok (.aload_n 0, 1) := by decide +kernel
theorem dX4_order_213 : decode cX4_order 213 = .ok (.bipush 49, 2) := by decide +kernel
theorem dX4_order_215 : decode cX4_order 215 = .ok (.bipush 51, 2) := by decide +kernel
theorem dX4_order_217 : decode cX4_order 217 = .ok (.invokevirtual 125, 3) := by decide +kernel
theorem dX4_order_220 : decode cX4_order 220 = .ok (.putfield 138, 3) := by decide +kernel
theorem dX4_order_223 : decode cX4_order 223 = .ok (.aload_n 0, 1) := by decide +kernel
theorem dX4_order_224 : decode cX4_order 224 = .ok (.getfield 138, 3) := by decide +kernel
theorem dX4_order_227 : decode cX4_order 227 = .ok (.iconst (-1), 1) := by decide +kernel
theorem dX4_order_228 : decode cX4_order 228 = .ok (.if_icmp .ne 8, 3) := by decide +kernel
theorem dX4_order_231 : decode cX4_order 231 = .ok (.bipush 32, 2) := by decide +kernel
theorem dX4_order_233 : decode cX4_order 233 = .ok (.goto 4, 3) := by decide +kernel
theorem dX4_order_236 : decode cX4_order 236 = .ok (.iload_n 1, 1) := by decide +kernel
theorem dX4_order_237 : decode cX4_order 237 = .ok (.ireturn, 1) := by decide +kernel
theorem dX4_order_238 : decode cX4_order 238 = .ok (.aload_n 0, 1) := by decide +kernel
theorem dX4_order_239 : decode cX4_order 239 = .ok (.aload_n 0, 1) := by decide +kernel
theorem dX4_order_240 : decode cX4_order 240 = .ok (.invokevirtual 129, 3) := by decide +kernel
theorem dX4_order_243 : decode cX4_order 243 = .ok (.putfield 132, 3) := by decide +kernel
theorem dX4_order_246 : decode cX4_order 246 = .ok (.aload_n 0, 1) := by decide +kernel
theorem dX4_order_247 : decode cX4_order 247 = .ok (.getfield 132, 3) := by decide +kernel
theorem dX4_order_250 : decode cX4_order 250 = .ok (.iconst (-1), 1) := by decide +kernel
theorem dX4_order_251 : decode cX4_order 251 = .ok (.if_icmp .ne 8, 3) := by decide +kernel
theorem dX4_order_254 : decode cX4_order 254 = .ok (.bipush 32, 2) := by decide +kernel
theorem dX4_order_256 : decode cX4_order 256 = .ok (.goto 4, 3) := by decide +kernel
theorem dX4_order_259 : decode cX4_order 259 = .ok (.iload_n 1, 1) := by decide +kernel
theorem dX4_order_260 : decode cX4_order 260 = .ok (.ireturn, 1) := by decide +kernel
theorem dX4_order_261 : decode cX4_order 261 = .ok (.aload_n 0, 1) := by decide +kernel
theorem dX4_order_262 : decode cX4_order 262 = .ok (.aload_n 0, 1) := by decide +kernel
theorem dX4_order_263 : decode cX4_order 263 = .ok (.bipush 97, 2) := by decide +kernel
theorem dX4_order_265 : decode cX4_order 265 = .ok (.bipush 102, 2) := by decide +kernel
theorem dX4_order_267 : decode cX4_order 267 = .ok (.invokevirtual 125, 3) := by decide +kernel
theorem dX4_order_270 : decode cX4_order 270 = .ok (.putfield 132, 3) := by decide +kernel
theorem dX4_order_273 : decode cX4_order 273 = .ok (.aload_n 0, 1) := by decide +kernel
theorem dX4_order_274 : decode cX4_order 274 = .ok (.getfield 132, 3) := by decide +kernel
theorem dX4_order_277 : decode cX4_order 277 = .ok (.iconst (-1), 1) := by decide +kernel
theorem dX4_order_278 : decode cX4_order 278 = .ok (.if_icmp .ne 8, 3) := by decide +kernel
theorem dX4_order_281 : decode cX4_order 281 = .ok (.bipush 32, 2) := by decide +kernel
theorem dX4_order_283 : decode cX4_order 283 = .ok (.goto 4, 3) := by decide +kernel
theorem dX4_order_286 : decode cX4_order 286 = .ok (.iload_n 1, 1) := by decide +kernel
theorem dX4_order_287 : decode cX4_order 287 = .ok (.ireturn, 1) := by decide +kernel
theorem dX4_order_288 : decode cX4_order 288 = .ok (.iload_n 1, 1) := by decide +kernel
theorem dX4_order_289 : decode cX4_order 289 = .ok (.ireturn, 1) := by decide +kernel
theorem dX4_order_290 : decode cX4_order 290 = .ok (.aload_n 0, 1) := by decide +kernel
theorem dX4_order_291 : decode cX4_order 291 = .ok (.dup, 1) := by decide +kernel
theorem dX4_order_292 : decode cX4_order 292 = .ok (.getfield 122, 3) := by decide +kernel
theorem dX4_order_295 : decode cX4_order 295 = .ok (.iconst 1, 1) := by decide +kernel
theorem dX4_order_296 : decode cX4_order 296 = .ok (.isub, 1) := by decide +kernel
theorem dX4_order_297 : decode cX4_order 297 = .ok (.putfield 122, 3) := by decide +kernel
theorem dX4_order_300 : decode cX4_order 300 = .ok (.bipush 32, 2) := by decide +kernel
theorem dX4_order_302 : decode cX4_order 302 = .ok (.ireturn, 1) := by decide +kernel
set_option maxRecDepth 20000 in
theorem ggX4_error_X4_order : GoodIn wsX4_error wsX4_order := goodIn_r _ [7, 1, 2, 8, 9, 10, 11, 12, 13, 14, 6, 15, 16, 17, 18, 19, 20, 21, 22, 23, 24, 25, 26, 27, 28, 29, 30, 31, 32, 33, 34] (by decide +kernel) (by decide +kernel)
set_option maxRecDepth 20000 in
theorem gX4_error_X4_order : GoodIn wsX4_error (wsV RX4 141 RX4 yX4_order wsX4_order) := goodIn_app (goodIn_of _ (by decide +kernel)) ggX4_error_X4_order
set_option maxRecDepth 20000 in
theorem ggX4_error_X4_takes : GoodIn wsX4_error wsX4_takes := goodIn_r _ [19, 1, 2, 8, 20, 21, 6, 22, 23, 24, 25, 26, 27, 28, 29, 30, 31, 32, 33, 34] (by decide +kernel) (by decide +kernel)
set_option maxRecDepth 20000 in
theorem gX4_error_X4_takes : GoodIn wsX4_error (wsV RX4 125 RX4 yX4_takes wsX4_takes) := goodIn_app (goodIn_of _ (by decide +kernel)) ggX4_error_X4_takes
theorem dX4_error_0 : decode cX4_error 0 = .ok (.aload_n 0, 1) := by decide +kernel
theorem dX4_error_1 : decode cX4_error 1 = .ok (.iconst 0, 1) := by decide +kernel
theorem dX4_error_2 : decode cX4_error 2 = .ok (.putfield 122, 3) := by decide +kernel
theorem dX4_error_5 : decode cX4_error 5 = .ok (.aload_n 0, 1) := by decide +kernel
theorem dX4_error_6 : decode cX4_error 6 = .ok (.invokevirtual 141, 3) := by decide +kernel
theorem dX4_error_9 : decode cX4_error 9 = .ok (.bipush 32, 2) := by decide +kernel
theorem dX4_error_11 : decode cX4_error 11 = .ok (.if_icmp .eq 33, 3) := by decide +kernel
theorem dX4_error_14 : decode cX4_error 14 = .ok (.aload_n 0, 1) := by decide +kernel
theorem dX4_error_15 : decode cX4_error 15 = .ok (.getfield 122, 3) := by decide +kernel
theorem dX4_error_18 : decode cX4_error 18 = .ok (.aload_n 0, 1) := by decide +kernel
theorem dX4_error_19 : decode cX4_error 19 = .ok (.getfield 119, 3) := by decide +kernel
theorem dX4_error_22 : decode cX4_error 22 = .ok (.if_icmp .ne 5, 3) := by decide +kernel
theorem dX4_error_25 : decode cX4_error 25 = .ok (.iconst (-1), 1) := by decide +kernel
theorem dX4_error_26 : decode cX4_error 26 = .ok (.ireturn, 1) := by decide +kernel
theorem dX4_error_27 : decode cX4_error 27 = .ok (.aload_n 0, 1) := by decide +kernel
theorem dX4_error_28 : decode cX4_error 28 = .ok (.bipush 59, 2) := by decide +kernel
theorem dX4_error_30 : decode cX4_error 30 = .ok (.bipush 59, 2) := by decide +kernel
theorem dX4_error_32 : decode cX4_error 32 = .ok (.invokevirtual 125, 3) := by decide +kernel
theorem dX4_error_35 : decode cX4_error 35 = .ok (.iconst (-1), 1) := by decide +kernel
theorem dX4_error_36 : decode cX4_error 36 = .ok (.if_icmp .ne (-31), 3) := by decide +kernel
theorem dX4_error_39 : decode cX4_error 39 = .ok (.aload_n 0, 1) := by decide +kernel
theorem dX4_error_40 : decode cX4_error 40 = .ok (.getfield 122, 3) := by decide +kernel
theorem dX4_error_43 : decode cX4_error 43 = .ok (.ireturn, 1) := by decide +kernel
theorem dX4_error_44 : decode cX4_error 44 = .ok (.aload_n 0, 1) := by decide +kernel
theorem dX4_error_45 : decode cX4_error 45 = .ok (.getfield 122, 3) := by decide +kernel
theorem dX4_error_48 : decode cX4_error 48 = .ok (.ireturn, 1) := by decide +kernel
set_option maxRecDepth 20000 in
theorem ggX4_firstError_X4_error : GoodIn wsX4_firstError wsX4_error := goodIn_r _ [7, 8, 2, 9, 10, 11, 6, 12, 13, 14, 15, 16, 17, 18, 19, 20, 21, 22, 23, 24, 25, 26, 27, 28, 29, 30, 31, 32, 33, 34, 35, 36, 37, 38, 39] (by decide +kernel) (by decide +kernel)
set_option maxRecDepth 20000 in
theorem gX4_firstError_X4_error : GoodIn wsX4_firstError (wsV RX4 145 RX4 yX4_error wsX4_error) := goodIn_app (goodIn_of _ (by decide +kernel)) ggX4_firstError_X4_error
theorem dX4_firstError_0 : decode cX4_firstError 0 = .ok (.aload_n 0, 1) := by decide +kernel
theorem dX4_firstError_1 : decode cX4_firstError 1 = .ok (.iconst 0, 1) := by decide +kernel
theorem dX4_firstError_2 : decode cX4_firstError 2 = .ok (.putfield 27, 3) := by decide +kernel
theorem dX4_firstError_5 : decode cX4_firstError 5 = .ok (.aload_n 0, 1) := by decide +kernel
theorem dX4_firstError_6 : decode cX4_firstError 6 = .ok (.invokevirtual 145, 3) := by decide +kernel
theorem dX4_firstError_9 : decode cX4_firstError 9 = .ok (.istore_n 1, 1) := by decide +kernel
theorem dX4_firstError_10 : decode cX4_firstError 10 = .ok (.iload_n 1, 1) := by decide +kernel
theorem dX4_firstError_11 : decode cX4_firstError 11 = .ok (.iconst (-1), 1) := by decide +kernel
theorem dX4_firstError_12 : decode cX4_firstError 12 = .ok (.if_icmp .ne 10, 3) := by decide +kernel
theorem dX4_firstError_15 : decode cX4_firstError 15 = .ok (.aload_n 0, 1) := by decide +kernel
theorem dX4_firstError_16 : decode cX4_firstError 16 = .ok (.getfield 119, 3) := by decide +kernel
theorem dX4_firstError_19 : decode cX4_firstError 19 = .ok (.goto 4, 3) := by decide +kernel
theorem dX4_firstError_22 : decode cX4_firstError 22 = .ok (.iload_n 1, 1) := by decide +kernel
theorem dX4_firstError_23 : decode cX4_firstError 23 = .ok (.ireturn, 1) := by decide +kernel
set_option maxRecDepth 20000 in
theorem ggX4_does_X4_speaks : GoodIn wsX4_does wsX4_speaks := goodIn_r _ [8, 9, 10, 11, 12, 7, 13, 14, 15, 16, 17, 18, 19, 20, 21, 22, 23, 24, 25, 26, 27, 28, 29, 30, 31, 32, 33, 34, 35, 36, 37, 38, 78, 79, 80, 81, 82, 83, 84, 85, 86, 87, 88, 89] (by decide +kernel) (by decide +kernel)
set_option maxRecDepth 20000 in
theorem gX4_does_X4_speaks : GoodIn wsX4_does (wsV RX4 101 RX4 yX4_speaks wsX4_speaks) := goodIn_app (goodIn_of _ (by decide +kernel)) ggX4_does_X4_speaks
set_option maxRecDepth 20000 in
theorem ggX4_does_X4_makes : GoodIn wsX4_does wsX4_makes := goodIn_r _ [42, 9, 43, 44, 45, 7, 46, 14, 15, 16, 17, 18, 19, 20, 21, 22, 23, 24, 47, 48, 49, 28, 29, 30, 31, 50, 51, 52, 53, 25, 26, 27, 36, 37, 38, 32, 33, 34, 35, 78, 79, 80, 81, 82, 83, 84, 85, 86, 87, 88, 89] (by decide +kernel) (by decide +kernel)
set_option maxRecDepth 20000 in
theorem gX4_does_X4_makes : GoodIn wsX4_does (wsV RX4 104 RX4 yX4_makes wsX4_makes) := goodIn_app (goodIn_of _ (by decide +kernel)) ggX4_does_X4_makes
set_option maxRecDepth 20000 in
theorem ggX4_does_X4_plays : GoodIn wsX4_does wsX4_plays := goodIn_r _ [57, 9, 58, 59, 60, 7, 61, 14, 15, 16, 17, 18, 19, 20, 36, 37, 38, 78, 79, 80, 81, 82, 83, 84, 85, 86, 87, 88, 89] (by decide +kernel) (by decide +kernel)
set_option maxRecDepth 20000 in
theorem gX4_does_X4_plays : GoodIn wsX4_does (wsV RX4 107 RX4 yX4_plays wsX4_plays) := goodIn_app (goodIn_of _ (by decide +kernel)) ggX4_does_X4_plays
set_option maxRecDepth 20000 in
theorem ggX4_does_X4_shaves : GoodIn wsX4_does wsX4_shaves := goodIn_r _ [65, 9, 66, 67, 68, 7, 69, 18, 19, 20, 36, 37, 38, 70, 71, 72, 73, 78, 79, 80, 81, 82, 83, 84, 85, 86, 87, 88, 89] (by decide +kernel) (by decide +kernel)
set_option maxRecDepth 20000 in
theorem gX4_does_X4_shaves : GoodIn wsX4_does (wsV RX4 113 RX4 yX4_shaves wsX4_shaves) := goodIn_app (goodIn_of _ (by decide +kernel)) ggX4_does_X4_shaves
set_option maxRecDepth 20000 in
theorem ggX4_does_X4_fillsUp : GoodIn wsX4_does wsX4_fillsUp := goodIn_r _ [77, 9, 78, 79, 80, 81, 82, 83, 84, 85, 86, 87, 88, 89] (by decide +kernel) (by decide +kernel)
set_option maxRecDepth 20000 in
theorem gX4_does_X4_fillsUp : GoodIn wsX4_does (wsV RX4 116 RX4 yX4_fillsUp wsX4_fillsUp) := goodIn_app (goodIn_of _ (by decide +kernel)) ggX4_does_X4_fillsUp
theorem dX4_does_0 : decode cX4_does 0 = .ok (.iload_n 1, 1) := by decide +kernel
theorem dX4_does_1 : decode cX4_does 1 = .ok (.lookupswitch 130 #[(99, 66), (112, 93), (115, 43), (120, 112)], 43) := by decide +kernel
theorem dX4_does_44 : decode cX4_does 44 = .ok (.aload_n 0, 1) := by decide +kernel
theorem dX4_does_45 : decode cX4_does 45 = .ok (.aload_n 0, 1) := by decide +kernel
theorem dX4_does_46 : decode cX4_does 46 = .ok (.getfield 132, 3) := by decide +kernel
theorem dX4_does_49 : decode cX4_does 49 = .ok (.aload_n 0, 1) := by decide +kernel
theorem dX4_does_50 : decode cX4_does 50 = .ok (.getfield 135, 3) := by decide +kernel
theorem dX4_does_53 : decode cX4_does 53 = .ok (.iconst 1, 1) := by decide +kernel
theorem dX4_does_54 : decode cX4_does 54 = .ok (.iadd, 1) := by decide +kernel
theorem dX4_does_55 : decode cX4_does 55 = .ok (.invokevirtual 101, 3) := by decide +kernel
theorem dX4_does_58 : decode cX4_does 58 = .ok (.ifCond .ne 7, 3) := by decide +kernel
theorem dX4_does_61 : decode cX4_does 61 = .ok (.iconst 1, 1) := by decide +kernel
theorem dX4_does_62 : decode cX4_does 62 = .ok (.goto 4, 3) := by decide +kernel
theorem dX4_does_65 : decode cX4_does 65 = .ok (.iconst 0, 1) := by decide +kernel
theorem dX4_does_66 : decode cX4_does 66 = .ok (.ireturn, 1) := by decide +kernel
theorem dX4_does_67 : decode cX4_does 67 = .ok (.aload_n 0, 1) := by decide +kernel
theorem dX4_does_68 : decode cX4_does 68 = .ok (.aload_n 0, 1) := by decide +kernel
theorem dX4_does_69 : decode cX4_does 69 = .ok (.getfield 132, 3) := by decide +kernel
theorem dX4_does_72 : decode cX4_does 72 = .ok (.aload_n 0, 1) := by decide +kernel
theorem dX4_does_73 : decode cX4_does 73 = .ok (.getfield 135, 3) := by decide +kernel
theorem dX4_does_76 : decode cX4_does 76 = .ok (.aload_n 0, 1) := by decide +kernel
theorem dX4_does_77 : decode cX4_does 77 = .ok (.getfield 138, 3) := by decide +kernel
theorem dX4_does_80 : decode cX4_does 80 = .ok (.iconst 1, 1) := by decide +kernel
theorem dX4_does_81 : decode cX4_does 81 = .ok (.iadd, 1) := by decide +kernel
theorem dX4_does_82 : decode cX4_does 82 = .ok (.invokevirtual 104, 3) := by decide +kernel
theorem dX4_does_85 : decode cX4_does 85 = .ok (.ifCond .ne 7, 3) := by decide +kernel
theorem dX4_does_88 : decode cX4_does 88 = .ok (.iconst 1, 1) := by decide +kernel
theorem dX4_does_89 : decode cX4_does 89 = .ok (.goto 4, 3) := by decide +kernel
theorem dX4_does_92 : decode cX4_does 92 = .ok (.iconst 0, 1) := by decide +kernel
theorem dX4_does_93 : decode cX4_does 93 = .ok (.ireturn, 1) := by decide +kernel
theorem dX4_does_94 : decode cX4_does 94 = .ok (.aload_n 0, 1) := by decide +kernel
theorem dX4_does_95 : decode cX4_does 95 = .ok (.aload_n 0, 1) := by decide +kernel
theorem dX4_does_96 : decode cX4_does 96 = .ok (.getfield 132, 3) := by decide +kernel
theorem dX4_does_99 : decode cX4_does 99 = .ok (.invokevirtual 107, 3) := by decide +kernel
theorem dX4_does_102 : decode cX4_does 102 = .ok (.bipush 10, 2) := by decide +kernel
theorem dX4_does_104 : decode cX4_does 104 = .ok (.if_icmp .lt 7, 3) := by decide +kernel
theorem dX4_does_107 : decode cX4_does 107 = .ok (.iconst 1, 1) := by decide +kernel
theorem dX4_does_108 : decode cX4_does 108 = .ok (.goto 4, 3) := by decide +kernel
theorem dX4_does_111 : decode cX4_does 111 = .ok (.iconst 0, 1) := by decide +kernel
theorem dX4_does_112 : decode cX4_does 112 = .ok (.ireturn, 1) := by decide +kernel
theorem dX4_does_113 : decode cX4_does 113 = .ok (.aload_n 0, 1) := by decide +kernel
theorem dX4_does_114 : decode cX4_does 114 = .ok (.aload_n 0, 1) := by decide +kernel
theorem dX4_does_115 : decode cX4_does 115 = .ok (.getfield 132, 3) := by decide +kernel
theorem dX4_does_118 : decode cX4_does 118 = .ok (.invokevirtual 113, 3) := by decide +kernel
theorem dX4_does_121 : decode cX4_does 121 = .ok (.iconst (-1), 1) := by decide +kernel
theorem dX4_does_122 : decode cX4_does 122 = .ok (.if_icmp .eq 7, 3) := by decide +kernel
theorem dX4_does_125 : decode cX4_does 125 = .ok (.iconst 1, 1) := by decide +kernel
theorem dX4_does_126 : decode cX4_does 126 = .ok (.goto 4, 3) := by decide +kernel
theorem dX4_does_129 : decode cX4_does 129 = .ok (.iconst 0, 1) := by decide +kernel
theorem dX4_does_130 : decode cX4_does 130 = .ok (.ireturn, 1) := by decide +kernel
theorem dX4_does_131 : decode cX4_does 131 = .ok (.aload_n 0, 1) := by decide +kernel
theorem dX4_does_132 : decode cX4_does 132 = .ok (.iconst 1, 1) := by decide +kernel
theorem dX4_does_133 : decode cX4_does 133 = .ok (.invokevirtual 116, 3) := by decide +kernel
theorem dX4_does_136 : decode cX4_does 136 = .ok (.ifCond .lt 7, 3) := by decide +kernel
theorem dX4_does_139 : decode cX4_does 139 = .ok (.iconst 1, 1) := by decide +kernel
theorem dX4_does_140 : decode cX4_does 140 = .ok (.goto 4, 3) := by decide +kernel
theorem dX4_does_143 : decode cX4_does 143 = .ok (.iconst 0, 1) := by decide +kernel
theorem dX4_does_144 : decode cX4_does 144 = .ok (.ireturn, 1) := by decide +kernel
set_option maxRecDepth 20000 in
theorem ggX4_run_X4_error : GoodIn wsX4_run wsX4_error := goodIn_r _ [7, 1, 2, 8, 9, 10, 6, 11, 12, 13, 14, 15, 16, 17, 18, 19, 20, 21, 22, 23, 24, 25, 26, 118, 119, 120, 121, 122, 123, 124, 125, 126, 127, 128, 129] (by decide +kernel) (by decide +kernel)
set_option maxRecDepth 20000 in
theorem gX4_run_X4_error : GoodIn wsX4_run (wsV RX4 145 RX4 yX4_error wsX4_error) := goodIn_app (goodIn_of _ (by decide +kernel)) ggX4_run_X4_error
set_option maxRecDepth 20000 in
theorem ggX4_run_X4_goes : GoodIn wsX4_run wsX4_goes := goodIn_r _ [30, 31, 118, 119, 120, 121, 122, 123, 124, 125, 126, 127, 128, 129] (by decide +kernel) (by decide +kernel)
set_option maxRecDepth 20000 in
theorem gX4_run_X4_goes : GoodIn wsX4_run (wsV RX4 94 RX4 yX4_goes wsX4_goes) := goodIn_app (goodIn_of _ (by decide +kernel)) ggX4_run_X4_goes
set_option maxRecDepth 20000 in
theorem ggX4_run_X4_saves : GoodIn wsX4_run wsX4_saves := goodIn_r _ [35, 36, 37, 38, 39, 6, 40, 41, 118, 119, 120, 121, 122, 123, 124, 125, 126, 127, 128, 129] (by decide +kernel) (by decide +kernel)
set_option maxRecDepth 20000 in
theorem gX4_run_X4_saves : GoodIn wsX4_run (wsV RX4 98 RX4 yX4_saves wsX4_saves) := goodIn_app (goodIn_of _ (by decide +kernel)) ggX4_run_X4_saves
set_option maxRecDepth 20000 in
theorem ggX4_run_X4_order : GoodIn wsX4_run wsX4_order := goodIn_r _ [11, 1, 2, 12, 13, 14, 15, 16, 17, 18, 6, 19, 20, 21, 22, 23, 24, 25, 26, 118, 119, 120, 121, 122, 123, 124, 125, 126, 127, 128, 129] (by decide +kernel) (by decide +kernel)
set_option maxRecDepth 20000 in
theorem gX4_run_X4_order : GoodIn wsX4_run (wsV RX4 141 RX4 yX4_order wsX4_order) := goodIn_app (goodIn_of _ (by decide +kernel)) ggX4_run_X4_order
set_option maxRecDepth 20000 in
theorem ggX4_run_X4_does : GoodIn wsX4_run wsX4_does := goodIn_r _ [45, 13, 14, 15, 46, 47, 48, 6, 49, 41, 50, 51, 52, 53, 54, 55, 56, 57, 58, 59, 60, 61, 62, 63, 64, 65, 66, 67, 68, 69, 70, 71, 72, 73, 74, 75, 76, 77, 78, 79, 80, 81, 82, 83, 84, 85, 86, 87, 88, 89, 90, 91, 92, 93, 94, 95, 96, 97, 98, 99, 100, 101, 102, 103, 104, 105, 106, 107, 108, 109, 110, 111, 112, 113, 114, 115, 116, 117, 118, 119, 120, 121, 122, 123, 124, 125, 126, 127, 128, 129] (by decide +kernel) (by decide +kernel)
set_option maxRecDepth 20000 in
theorem gX4_run_X4_does : GoodIn wsX4_run (wsV RX4 148 RX4 yX4_does wsX4_does) := goodIn_app (goodIn_of _ (by decide +kernel)) ggX4_run_X4_does
set_option maxRecDepth 20000 in
theorem ggX4_run_X4_takes : GoodIn wsX4_run wsX4_takes := goodIn_r _ [23, 1, 2, 12, 24, 25, 6, 26, 118, 119, 120, 121, 122, 123, 124, 125, 126, 127, 128, 129] (by decide +kernel) (by decide +kernel)
set_option maxRecDepth 20000 in
theorem gX4_run_X4_takes : GoodIn wsX4_run (wsV RX4 125 RX4 yX4_takes wsX4_takes) := goodIn_app (goodIn_of _ (by decide +kernel)) ggX4_run_X4_takes
theorem dX4_run_0 : decode cX4_run 0 = .ok (.aload_n 0, 1) := by decide +kernel
theorem dX4_run_1 : decode cX4_run 1 = .ok (.aload_n 0, 1) := by decide +kernel
theorem dX4_run_2 : decode cX4_run 2 = .ok (.invokevirtual 145, 3) := by decide +kernel
theorem dX4_run_5 : decode cX4_run 5 = .ok (.iconst (-1), 1) := by decide +kernel
theorem dX4_run_6 : decode cX4_run 6 = .ok (.if_icmp .ne 7, 3) := by decide +kernel
theorem dX4_run_9 : decode cX4_run 9 = .ok (.iconst 1, 1) := by decide +kernel
theorem dX4_run_10 : decode cX4_run 10 = .ok (.goto 4, 3) := by decide +kernel
theorem dX4_run_13 : decode cX4_run 13 = .ok (.iconst 0, 1) := by decide +kernel
theorem dX4_run_14 : decode cX4_run 14 = .ok (.iconst 1, 1) := by decide +kernel
theorem dX4_run_15 : decode cX4_run 15 = .ok (.invokevirtual 94, 3) := by decide +kernel
theorem dX4_run_18 : decode cX4_run 18 = .ok (.ifCond .ne 5, 3) := by decide +kernel
theorem dX4_run_21 : decode cX4_run 21 = .ok (.iconst 0, 1) := by decide +kernel
theorem dX4_run_22 : decode cX4_run 22 = .ok (.ireturn, 1) := by decide +kernel
theorem dX4_run_23 : decode cX4_run 23 = .ok (.aload_n 0, 1) := by decide +kernel
theorem dX4_run_24 : decode cX4_run 24 = .ok (.invokevirtual 98, 3) := by decide +kernel
theorem dX4_run_27 : decode cX4_run 27 = .ok (.aload_n 0, 1) := by decide +kernel
theorem dX4_run_28 : decode cX4_run 28 = .ok (.iconst 0, 1) := by decide +kernel
theorem dX4_run_29 : decode cX4_run 29 = .ok (.putfield 122, 3) := by decide +kernel
theorem dX4_run_32 : decode cX4_run 32 = .ok (.iconst 0, 1) := by decide +kernel
theorem dX4_run_33 : decode cX4_run 33 = .ok (.istore_n 1, 1) := by decide +kernel
theorem dX4_run_34 : decode cX4_run 34 = .ok (.iconst 1, 1) := by decide +kernel
theorem dX4_run_35 : decode cX4_run 35 = .ok (.istore_n 2, 1) := by decide +kernel
theorem dX4_run_36 : decode cX4_run 36 = .ok (.iload_n 2, 1) := by decide +kernel
theorem dX4_run_37 : decode cX4_run 37 = .ok (.ifCond .eq 49, 3) := by decide +kernel
theorem dX4_run_40 : decode cX4_run 40 = .ok (.aload_n 0, 1) := by decide +kernel
theorem dX4_run_41 : decode cX4_run 41 = .ok (.aload_n 0, 1) := by decide +kernel
theorem dX4_run_42 : decode cX4_run 42 = .ok (.invokevirtual 141, 3) := by decide +kernel
theorem dX4_run_45 : decode cX4_run 45 = .ok (.invokevirtual 148, 3) := by decide +kernel
theorem dX4_run_48 : decode cX4_run 48 = .ok (.istore_n 3, 1) := by decide +kernel
theorem dX4_run_49 : decode cX4_run 49 = .ok (.iload_n 1, 1) := by decide +kernel
theorem dX4_run_50 : decode cX4_run 50 = .ok (.iload_n 3, 1) := by decide +kernel
theorem dX4_run_51 : decode cX4_run 51 = .ok (.ifCond .eq 7, 3) := by decide +kernel
theorem dX4_run_54 : decode cX4_run 54 = .ok (.iconst 1, 1) := by decide +kernel
theorem dX4_run_55 : decode cX4_run 55 = .ok (.goto 4, 3) := by decide +kernel
theorem dX4_run_58 : decode cX4_run 58 = .ok (.iconst 0, 1) := by decide +kernel
theorem dX4_run_59 : decode cX4_run 59 = .ok (.iadd, 1) := by decide +kernel
theorem dX4_run_60 : decode cX4_run 60 = .ok (.istore_n 1, 1) := by decide +kernel
theorem dX4_run_61 : decode cX4_run 61 = .ok (.iload_n 3, 1) := by decide +kernel
theorem dX4_run_62 : decode cX4_run 62 = .ok (.ifCond .eq 19, 3) := by decide +kernel
theorem dX4_run_65 : decode cX4_run 65 = .ok (.aload_n 0, 1) := by decide +kernel
theorem dX4_run_66 : decode cX4_run 66 = .ok (.bipush 59, 2) := by decide +kernel
theorem dX4_run_68 : decode cX4_run 68 = .ok (.bipush 59, 2) := by decide +kernel
theorem dX4_run_70 : decode cX4_run 70 = .ok (.invokevirtual 125, 3) := by decide +kernel
theorem dX4_run_73 : decode cX4_run 73 = .ok (.iconst (-1), 1) := by decide +kernel
theorem dX4_run_74 : decode cX4_run 74 = .ok (.if_icmp .eq 7, 3) := by decide +kernel
theorem dX4_run_77 : decode cX4_run 77 = .ok (.iconst 1, 1) := by decide +kernel
theorem dX4_run_78 : decode cX4_run 78 = .ok (.goto 4, 3) := by decide +kernel
theorem dX4_run_81 : decode cX4_run 81 = .ok (.iconst 0, 1) := by decide +kernel
theorem dX4_run_82 : decode cX4_run 82 = .ok (.istore_n 2, 1) := by decide +kernel
theorem dX4_run_83 : decode cX4_run 83 = .ok (.goto (-47), 3) := by decide +kernel
theorem dX4_run_86 : decode cX4_run 86 = .ok (.aload_n 0, 1) := by decide +kernel
theorem dX4_run_87 : decode cX4_run 87 = .ok (.iconst 0, 1) := by decide +kernel
theorem dX4_run_88 : decode cX4_run 88 = .ok (.putfield 119, 3) := by decide +kernel
theorem dX4_run_91 : decode cX4_run 91 = .ok (.iload_n 1, 1) := by decide +kernel
theorem dX4_run_92 : decode cX4_run 92 = .ok (.ireturn, 1) := by decide +kernel
theorem dX4_isSlot_0 : decode cX4_isSlot 0 = .ok (.iload_n 0, 1) := by decide +kernel
theorem dX4_isSlot_1 : decode cX4_isSlot 1 = .ok (.ifCond .eq 8, 3) := by decide +kernel
theorem dX4_isSlot_4 : decode cX4_isSlot 4 = .ok (.iload_n 0, 1) := by decide +kernel
theorem dX4_isSlot_5 : decode cX4_isSlot 5 = .ok (.iconst 1, 1) := by decide +kernel
theorem dX4_isSlot_6 : decode cX4_isSlot 6 = .ok (.if_icmp .ne 7, 3) := by decide +kernel
theorem dX4_isSlot_9 : decode cX4_isSlot 9 = .ok (.iconst 1, 1) := by decide +kernel
theorem dX4_isSlot_10 : decode cX4_isSlot 10 = .ok (.goto 4, 3) := by decide +kernel
theorem dX4_isSlot_13 : decode cX4_isSlot 13 = .ok (.iconst 0, 1) := by decide +kernel
theorem dX4_isSlot_14 : decode cX4_isSlot 14 = .ok (.ireturn, 1) := by decide +kernel
set_option maxRecDepth 20000 in
theorem ggX4_keep_X4_isSlot : GoodIn wsX4_keep wsX4_isSlot := goodIn_r _ [5] (by decide +kernel) (by decide +kernel)
set_option maxRecDepth 20000 in
theorem gX4_keep_X4_isSlot : GoodIn wsX4_keep (va_wsS RX4 152 yX4_isSlot wsX4_isSlot) := goodIn_app (goodIn_of _ (by decide +kernel)) ggX4_keep_X4_isSlot
set_option maxRecDepth 20000 in
theorem ggX4_keep_X4_goes : GoodIn wsX4_keep wsX4_goes := goodIn_r _ [9, 10, 27, 28, 29, 30, 31, 32, 33, 34, 35, 36, 37, 38] (by decide +kernel) (by decide +kernel)
set_option maxRecDepth 20000 in
theorem gX4_keep_X4_goes : GoodIn wsX4_keep (wsV RX4 94 RX4 yX4_goes wsX4_goes) := goodIn_app (goodIn_of _ (by decide +kernel)) ggX4_keep_X4_goes
set_option maxRecDepth 20000 in
theorem ggX4_keep_X4_copies : GoodIn wsX4_keep wsX4_copies := goodIn_r _ [14, 15, 27, 28, 29, 30, 31, 32, 33, 34, 35, 36, 37, 38] (by decide +kernel) (by decide +kernel)
set_option maxRecDepth 20000 in
theorem gX4_keep_X4_copies : GoodIn wsX4_keep (wsV RX4 34 RX4 yX4_copies wsX4_copies) := goodIn_app (goodIn_of _ (by decide +kernel)) ggX4_keep_X4_copies
set_option maxRecDepth 20000 in
theorem ggX4_keep_X4_cuts : GoodIn wsX4_keep wsX4_cuts := goodIn_r _ [19, 20, 21, 22, 4, 23, 15, 24, 25, 26, 27, 28, 29, 30, 31, 32, 33, 34, 35, 36, 37, 38] (by decide +kernel) (by decide +kernel)
set_option maxRecDepth 20000 in
theorem gX4_keep_X4_cuts : GoodIn wsX4_keep (wsV RX4 155 RX4 yX4_cuts wsX4_cuts) := goodIn_app (goodIn_of _ (by decide +kernel)) ggX4_keep_X4_cuts
theorem dX4_keep_0 : decode cX4_keep 0 = .ok (.aload_n 0, 1) := by decide +kernel
theorem dX4_keep_1 : decode cX4_keep 1 = .ok (.iload_n 1, 1) := by decide +kernel
theorem dX4_keep_2 : decode cX4_keep 2 = .ok (.invokestatic 152, 3) := by decide +kernel
theorem dX4_keep_5 : decode cX4_keep 5 = .ok (.iconst 1, 1) := by decide +kernel
theorem dX4_keep_6 : decode cX4_keep 6 = .ok (.invokevirtual 94, 3) := by decide +kernel
theorem dX4_keep_9 : decode cX4_keep 9 = .ok (.ifCond .ne 5, 3) := by decide +kernel
theorem dX4_keep_12 : decode cX4_keep 12 = .ok (.iconst 0, 1) := by decide +kernel
theorem dX4_keep_13 : decode cX4_keep 13 = .ok (.ireturn, 1) := by decide +kernel
theorem dX4_keep_14 : decode cX4_keep 14 = .ok (.aload_n 0, 1) := by decide +kernel
theorem dX4_keep_15 : decode cX4_keep 15 = .ok (.iconst 0, 1) := by decide +kernel
theorem dX4_keep_16 : decode cX4_keep 16 = .ok (.bipush 7, 2) := by decide +kernel
theorem dX4_keep_18 : decode cX4_keep 18 = .ok (.iload_n 1, 1) := by decide +kernel
theorem dX4_keep_19 : decode cX4_keep 19 = .ok (.iadd, 1) := by decide +kernel
theorem dX4_keep_20 : decode cX4_keep 20 = .ok (.invokevirtual 34, 3) := by decide +kernel
theorem dX4_keep_23 : decode cX4_keep 23 = .ok (.aload_n 0, 1) := by decide +kernel
theorem dX4_keep_24 : decode cX4_keep 24 = .ok (.getfield 13, 3) := by decide +kernel
theorem dX4_keep_27 : decode cX4_keep 27 = .ok (.iload_n 1, 1) := by decide +kernel
theorem dX4_keep_28 : decode cX4_keep 28 = .ok (.iconst 1, 1) := by decide +kernel
theorem dX4_keep_29 : decode cX4_keep 29 = .ok (.bastore, 1) := by decide +kernel
theorem dX4_keep_30 : decode cX4_keep 30 = .ok (.aload_n 0, 1) := by decide +kernel
theorem dX4_keep_31 : decode cX4_keep 31 = .ok (.invokevirtual 155, 3) := by decide +kernel
theorem dX4_keep_34 : decode cX4_keep 34 = .ok (.ireturn, 1) := by decide +kernel
set_option maxRecDepth 20000 in
theorem ggX4_goBack_X4_isSlot : GoodIn wsX4_goBack wsX4_isSlot := goodIn_r _ [5] (by decide +kernel) (by decide +kernel)
set_option maxRecDepth 20000 in
theorem gX4_goBack_X4_isSlot : GoodIn wsX4_goBack (va_wsS RX4 152 yX4_isSlot wsX4_isSlot) := goodIn_app (goodIn_of _ (by decide +kernel)) ggX4_goBack_X4_isSlot
set_option maxRecDepth 20000 in
theorem ggX4_goBack_X4_goes : GoodIn wsX4_goBack wsX4_goes := goodIn_r _ [9, 10, 32, 33, 34, 35, 36, 37, 38, 39, 40, 41, 42, 43] (by decide +kernel) (by decide +kernel)
set_option maxRecDepth 20000 in
theorem gX4_goBack_X4_goes : GoodIn wsX4_goBack (wsV RX4 94 RX4 yX4_goes wsX4_goes) := goodIn_app (goodIn_of _ (by decide +kernel)) ggX4_goBack_X4_goes
set_option maxRecDepth 20000 in
theorem ggX4_goBack_X4_saves : GoodIn wsX4_goBack wsX4_saves := goodIn_r _ [14, 15, 16, 17, 18, 4, 19, 20, 32, 33, 34, 35, 36, 37, 38, 39, 40, 41, 42, 43] (by decide +kernel) (by decide +kernel)
set_option maxRecDepth 20000 in
theorem gX4_goBack_X4_saves : GoodIn wsX4_goBack (wsV RX4 98 RX4 yX4_saves wsX4_saves) := goodIn_app (goodIn_of _ (by decide +kernel)) ggX4_goBack_X4_saves
set_option maxRecDepth 20000 in
theorem ggX4_goBack_X4_copies : GoodIn wsX4_goBack wsX4_copies := goodIn_r _ [19, 20, 32, 33, 34, 35, 36, 37, 38, 39, 40, 41, 42, 43] (by decide +kernel) (by decide +kernel)
set_option maxRecDepth 20000 in
theorem gX4_goBack_X4_copies : GoodIn wsX4_goBack (wsV RX4 34 RX4 yX4_copies wsX4_copies) := goodIn_app (goodIn_of _ (by decide +kernel)) ggX4_goBack_X4_copies
set_option maxRecDepth 20000 in
theorem ggX4_goBack_X4_cuts : GoodIn wsX4_goBack wsX4_cuts := goodIn_r _ [24, 25, 26, 27, 4, 28, 20, 29, 30, 31, 32, 33, 34, 35, 36, 37, 38, 39, 40, 41, 42, 43] (by decide +kernel) (by decide +kernel)
set_option maxRecDepth 20000 in
theorem gX4_goBack_X4_cuts : GoodIn wsX4_goBack (wsV RX4 155 RX4 yX4_cuts wsX4_cuts) := goodIn_app (goodIn_of _ (by decide +kernel)) ggX4_goBack_X4_cuts
theorem dX4_goBack_0 : decode cX4_goBack 0 = .ok (.aload_n 0, 1) := by decide +kernel
theorem dX4_goBack_1 : decode cX4_goBack 1 = .ok (.iload_n 1, 1) := by decide +kernel
theorem dX4_goBack_2 : decode cX4_goBack 2 = .ok (.invokestatic 152, 3) := by decide +kernel
theorem dX4_goBack_5 : decode cX4_goBack 5 = .ok (.iload_n 1, 1) := by decide +kernel
theorem dX4_goBack_6 : decode cX4_goBack 6 = .ok (.invokestatic 152, 3) := by decide +kernel
theorem dX4_goBack_9 : decode cX4_goBack 9 = .ok (.ifCond .eq 16, 3) := by decide +kernel
theorem dX4_goBack_12 : decode cX4_goBack 12 = .ok (.aload_n 0, 1) := by decide +kernel
theorem dX4_goBack_13 : decode cX4_goBack 13 = .ok (.getfield 13, 3) := by decide +kernel
theorem dX4_goBack_16 : decode cX4_goBack 16 = .ok (.iload_n 1, 1) := by decide +kernel
theorem dX4_goBack_17 : decode cX4_goBack 17 = .ok (.baload, 1) := by decide +kernel
theorem dX4_goBack_18 : decode cX4_goBack 18 = .ok (.ifCond .eq 7, 3) := by decide +kernel
theorem dX4_goBack_21 : decode cX4_goBack 21 = .ok (.iconst 1, 1) := by decide +kernel
theorem dX4_goBack_22 : decode cX4_goBack 22 = .ok (.goto 4, 3) := by decide +kernel
theorem dX4_goBack_25 : decode cX4_goBack 25 = .ok (.iconst 0, 1) := by decide +kernel
theorem dX4_goBack_26 : decode cX4_goBack 26 = .ok (.invokevirtual 94, 3) := by decide +kernel
theorem dX4_goBack_29 : decode cX4_goBack 29 = .ok (.ifCond .ne 5, 3) := by decide +kernel
theorem dX4_goBack_32 : decode cX4_goBack 32 = .ok (.iconst 0, 1) := by decide +kernel
theorem dX4_goBack_33 : decode cX4_goBack 33 = .ok (.ireturn, 1) := by decide +kernel
theorem dX4_goBack_34 : decode cX4_goBack 34 = .ok (.aload_n 0, 1) := by decide +kernel
theorem dX4_goBack_35 : decode cX4_goBack 35 = .ok (.invokevirtual 98, 3) := by decide +kernel
theorem dX4_goBack_38 : decode cX4_goBack 38 = .ok (.aload_n 0, 1) := by decide +kernel
theorem dX4_goBack_39 : decode cX4_goBack 39 = .ok (.bipush 7, 2) := by decide +kernel
theorem dX4_goBack_41 : decode cX4_goBack 41 = .ok (.iload_n 1, 1) := by decide +kernel
theorem dX4_goBack_42 : decode cX4_goBack 42 = .ok (.iadd, 1) := by decide +kernel
theorem dX4_goBack_43 : decode cX4_goBack 43 = .ok (.iconst 0, 1) := by decide +kernel
theorem dX4_goBack_44 : decode cX4_goBack 44 = .ok (.invokevirtual 34, 3) := by decide +kernel
theorem dX4_goBack_47 : decode cX4_goBack 47 = .ok (.aload_n 0, 1) := by decide +kernel
theorem dX4_goBack_48 : decode cX4_goBack 48 = .ok (.invokevirtual 155, 3) := by decide +kernel
theorem dX4_goBack_51 : decode cX4_goBack 51 = .ok (.ireturn, 1) := by decide +kernel
set_option maxRecDepth 20000 in
theorem ggX4_undo_X4_goes : GoodIn wsX4_undo wsX4_goes := goodIn_r _ [6, 7, 13, 14, 15, 16, 17, 18, 19, 20, 21, 22, 23, 24] (by decide +kernel) (by decide +kernel)
set_option maxRecDepth 20000 in
theorem gX4_undo_X4_goes : GoodIn wsX4_undo (wsV RX4 94 RX4 yX4_goes wsX4_goes) := goodIn_app (goodIn_of _ (by decide +kernel)) ggX4_undo_X4_goes
set_option maxRecDepth 20000 in
theorem ggX4_undo_X4_copies : GoodIn wsX4_undo wsX4_copies := goodIn_r _ [11, 12, 13, 14, 15, 16, 17, 18, 19, 20, 21, 22, 23, 24] (by decide +kernel) (by decide +kernel)
set_option maxRecDepth 20000 in
theorem gX4_undo_X4_copies : GoodIn wsX4_undo (wsV RX4 34 RX4 yX4_copies wsX4_copies) := goodIn_app (goodIn_of _ (by decide +kernel)) ggX4_undo_X4_copies
theorem dX4_undo_0 : decode cX4_undo 0 = .ok (.aload_n 0, 1) := by decide +kernel
theorem dX4_undo_1 : decode cX4_undo 1 = .ok (.aload_n 0, 1) := by decide +kernel
theorem dX4_undo_2 : decode cX4_undo 2 = .ok (.getfield 31, 3) := by decide +kernel
theorem dX4_undo_5 : decode cX4_undo 5 = .ok (.ifCond .le 7, 3) := by decide +kernel
theorem dX4_undo_8 : decode cX4_undo 8 = .ok (.iconst 1, 1) := by decide +kernel
theorem dX4_undo_9 : decode cX4_undo 9 = .ok (.goto 4, 3) := by decide +kernel
theorem dX4_undo_12 : decode cX4_undo 12 = .ok (.iconst 0, 1) := by decide +kernel
theorem dX4_undo_13 : decode cX4_undo 13 = .ok (.iconst 1, 1) := by decide +kernel
theorem dX4_undo_14 : decode cX4_undo 14 = .ok (.invokevirtual 94, 3) := by decide +kernel
theorem dX4_undo_17 : decode cX4_undo 17 = .ok (.ifCond .ne 5, 3) := by decide +kernel
theorem dX4_undo_20 : decode cX4_undo 20 = .ok (.iconst 0, 1) := by decide +kernel
theorem dX4_undo_21 : decode cX4_undo 21 = .ok (.ireturn, 1) := by decide +kernel
theorem dX4_undo_22 : decode cX4_undo 22 = .ok (.aload_n 0, 1) := by decide +kernel
theorem dX4_undo_23 : decode cX4_undo 23 = .ok (.aload_n 0, 1) := by decide +kernel
theorem dX4_undo_24 : decode cX4_undo 24 = .ok (.getfield 31, 3) := by decide +kernel
theorem dX4_undo_27 : decode cX4_undo 27 = .ok (.iconst 0, 1) := by decide +kernel
theorem dX4_undo_28 : decode cX4_undo 28 = .ok (.invokevirtual 34, 3) := by decide +kernel
theorem dX4_undo_31 : decode cX4_undo 31 = .ok (.aload_n 0, 1) := by decide +kernel
theorem dX4_undo_32 : decode cX4_undo 32 = .ok (.dup, 1) := by decide +kernel
theorem dX4_undo_33 : decode cX4_undo 33 = .ok (.getfield 31, 3) := by decide +kernel
theorem dX4_undo_36 : decode cX4_undo 36 = .ok (.iconst 1, 1) := by decide +kernel
theorem dX4_undo_37 : decode cX4_undo 37 = .ok (.isub, 1) := by decide +kernel
theorem dX4_undo_38 : decode cX4_undo 38 = .ok (.putfield 31, 3) := by decide +kernel
theorem dX4_undo_41 : decode cX4_undo 41 = .ok (.aload_n 0, 1) := by decide +kernel
theorem dX4_undo_42 : decode cX4_undo 42 = .ok (.getfield 31, 3) := by decide +kernel
theorem dX4_undo_45 : decode cX4_undo 45 = .ok (.ireturn, 1) := by decide +kernel
set_option maxRecDepth 20000 in
theorem ggX4_property_X4_isCut : GoodIn wsX4_property wsX4_isCut := goodIn_r _ [6, 1, 7, 8, 5, 9, 10, 11, 12, 13, 14, 15, 16, 17, 18, 19, 20, 21] (by decide +kernel) (by decide +kernel)
set_option maxRecDepth 20000 in
theorem gX4_property_X4_isCut : GoodIn wsX4_property (wsV RX4 46 RX4 yX4_isCut wsX4_isCut) := goodIn_app (goodIn_of _ (by decide +kernel)) ggX4_property_X4_isCut
set_option maxRecDepth 20000 in
theorem ggX4_property_X4_at : GoodIn wsX4_property wsX4_at := goodIn_r _ [9] (by decide +kernel) (by decide +kernel)
set_option maxRecDepth 20000 in
theorem gX4_property_X4_at : GoodIn wsX4_property (va_wsS RX4 42 yX4_at wsX4_at) := goodIn_app (goodIn_of _ (by decide +kernel)) ggX4_property_X4_at
theorem dX4_property_0 : decode cX4_property 0 = .ok (.iload_n 2, 1) := by decide +kernel
theorem dX4_property_1 : decode cX4_property 1 = .ok (.ifCond .le 15, 3) := by decide +kernel
theorem dX4_property_4 : decode cX4_property 4 = .ok (.aload_n 0, 1) := by decide +kernel
theorem dX4_property_5 : decode cX4_property 5 = .ok (.iload_n 1, 1) := by decide +kernel
theorem dX4_property_6 : decode cX4_property 6 = .ok (.invokevirtual 46, 3) := by decide +kernel
theorem dX4_property_9 : decode cX4_property 9 = .ok (.ifCond .ne 7, 3) := by decide +kernel
theorem dX4_property_12 : decode cX4_property 12 = .ok (.iconst (-1), 1) := by decide +kernel
theorem dX4_property_13 : decode cX4_property 13 = .ok (.goto 14, 3) := by decide +kernel
theorem dX4_property_16 : decode cX4_property 16 = .ok (.aload_n 0, 1) := by decide +kernel
theorem dX4_property_17 : decode cX4_property 17 = .ok (.getfield 7, 3) := by decide +kernel
theorem dX4_property_20 : decode cX4_property 20 = .ok (.iload_n 1, 1) := by decide +kernel
theorem dX4_property_21 : decode cX4_property 21 = .ok (.invokestatic 42, 3) := by decide +kernel
theorem dX4_property_24 : decode cX4_property 24 = .ok (.iload_n 2, 1) := by decide +kernel
theorem dX4_property_25 : decode cX4_property 25 = .ok (.iadd, 1) := by decide +kernel
theorem dX4_property_26 : decode cX4_property 26 = .ok (.iaload, 1) := by decide +kernel
theorem dX4_property_27 : decode cX4_property 27 = .ok (.ireturn, 1) := by decide +kernel
set_option maxRecDepth 20000 in
theorem ggX4_trackOf_X4_isTrack : GoodIn wsX4_trackOf wsX4_isTrack := goodIn_r _ [4, 5, 6, 3, 7] (by decide +kernel) (by decide +kernel)
set_option maxRecDepth 20000 in
theorem gX4_trackOf_X4_isTrack : GoodIn wsX4_trackOf (va_wsS RX4 91 yX4_isTrack wsX4_isTrack) := goodIn_app (goodIn_of _ (by decide +kernel)) ggX4_trackOf_X4_isTrack
set_option maxRecDepth 20000 in
theorem ggX4_trackOf_X4_in : GoodIn wsX4_trackOf wsX4_in := goodIn_r _ [7] (by decide +kernel) (by decide +kernel)
set_option maxRecDepth 20000 in
theorem gX4_trackOf_X4_in : GoodIn wsX4_trackOf (va_wsS RX4 38 yX4_in wsX4_in) := goodIn_app (goodIn_of _ (by decide +kernel)) ggX4_trackOf_X4_in
set_option maxRecDepth 20000 in
theorem ggX4_trackOf_X4_goes : GoodIn wsX4_trackOf wsX4_goes := goodIn_r _ [11, 12, 25, 26, 27, 28, 29, 30, 31, 32, 33, 34, 35, 36] (by decide +kernel) (by decide +kernel)
set_option maxRecDepth 20000 in
theorem gX4_trackOf_X4_goes : GoodIn wsX4_trackOf (wsV RX4 94 RX4 yX4_goes wsX4_goes) := goodIn_app (goodIn_of _ (by decide +kernel)) ggX4_trackOf_X4_goes
set_option maxRecDepth 20000 in
theorem ggX4_trackOf_X4_property : GoodIn wsX4_trackOf wsX4_property := goodIn_r _ [16, 17, 18, 19, 20, 3, 21, 22, 23, 24, 25, 26, 27, 28, 29, 30, 31, 32, 33, 34, 35, 36] (by decide +kernel) (by decide +kernel)
set_option maxRecDepth 20000 in
theorem gX4_trackOf_X4_property : GoodIn wsX4_trackOf (wsV RX4 157 RX4 yX4_property wsX4_property) := goodIn_app (goodIn_of _ (by decide +kernel)) ggX4_trackOf_X4_property
theorem dX4_trackOf_0 : decode cX4_trackOf 0 = .ok (.aload_n 0, 1) := by decide +kernel
theorem dX4_trackOf_1 : decode cX4_trackOf 1 = .ok (.iload_n 1, 1) := by decide +kernel
theorem dX4_trackOf_2 : decode cX4_trackOf 2 = .ok (.invokestatic 91, 3) := by decide +kernel
theorem dX4_trackOf_5 : decode cX4_trackOf 5 = .ok (.iload_n 2, 1) := by decide +kernel
theorem dX4_trackOf_6 : decode cX4_trackOf 6 = .ok (.iconst 0, 1) := by decide +kernel
theorem dX4_trackOf_7 : decode cX4_trackOf 7 = .ok (.bipush 6, 2) := by decide +kernel
theorem dX4_trackOf_9 : decode cX4_trackOf 9 = .ok (.invokestatic 38, 3) := by decide +kernel
theorem dX4_trackOf_12 : decode cX4_trackOf 12 = .ok (.invokevirtual 94, 3) := by decide +kernel
theorem dX4_trackOf_15 : decode cX4_trackOf 15 = .ok (.ifCond .eq 12, 3) := by decide +kernel
theorem dX4_trackOf_18 : decode cX4_trackOf 18 = .ok (.aload_n 0, 1) := by decide +kernel
theorem dX4_trackOf_19 : decode cX4_trackOf 19 = .ok (.iload_n 1, 1) := by decide +kernel
theorem dX4_trackOf_20 : decode cX4_trackOf 20 = .ok (.iload_n 2, 1) := by decide +kernel
theorem dX4_trackOf_21 : decode cX4_trackOf 21 = .ok (.invokevirtual 157, 3) := by decide +kernel
theorem dX4_trackOf_24 : decode cX4_trackOf 24 = .ok (.goto 4, 3) := by decide +kernel
theorem dX4_trackOf_27 : decode cX4_trackOf 27 = .ok (.iconst 0, 1) := by decide +kernel
theorem dX4_trackOf_28 : decode cX4_trackOf 28 = .ok (.ireturn, 1) := by decide +kernel
set_option maxRecDepth 20000 in
theorem ggX4_cutsOf_X4_isCut : GoodIn wsX4_cutsOf wsX4_isCut := goodIn_r _ [5, 6, 7, 8, 4, 9, 10, 11, 12, 13, 14, 15, 16, 17, 18, 19, 20, 21] (by decide +kernel) (by decide +kernel)
set_option maxRecDepth 20000 in
theorem gX4_cutsOf_X4_isCut : GoodIn wsX4_cutsOf (wsV RX4 46 RX4 yX4_isCut wsX4_isCut) := goodIn_app (goodIn_of _ (by decide +kernel)) ggX4_cutsOf_X4_isCut
theorem dX4_cutsOf_0 : decode cX4_cutsOf 0 = .ok (.iconst 0, 1) := by decide +kernel
theorem dX4_cutsOf_1 : decode cX4_cutsOf 1 = .ok (.istore_n 2, 1) := by decide +kernel
theorem dX4_cutsOf_2 : decode cX4_cutsOf 2 = .ok (.iconst 4, 1) := by decide +kernel
theorem dX4_cutsOf_3 : decode cX4_cutsOf 3 = .ok (.iload_n 1, 1) := by decide +kernel
theorem dX4_cutsOf_4 : decode cX4_cutsOf 4 = .ok (.imul, 1) := by decide +kernel
theorem dX4_cutsOf_5 : decode cX4_cutsOf 5 = .ok (.istore_n 3, 1) := by decide +kernel
theorem dX4_cutsOf_6 : decode cX4_cutsOf 6 = .ok (.iload_n 3, 1) := by decide +kernel
theorem dX4_cutsOf_7 : decode cX4_cutsOf 7 = .ok (.iconst 4, 1) := by decide +kernel
theorem dX4_cutsOf_8 : decode cX4_cutsOf 8 = .ok (.iload_n 1, 1) := by decide +kernel
theorem dX4_cutsOf_9 : decode cX4_cutsOf 9 = .ok (.imul, 1) := by decide +kernel
theorem dX4_cutsOf_10 : decode cX4_cutsOf 10 = .ok (.iconst 4, 1) := by decide +kernel
theorem dX4_cutsOf_11 : decode cX4_cutsOf 11 = .ok (.iadd, 1) := by decide +kernel
theorem dX4_cutsOf_12 : decode cX4_cutsOf 12 = .ok (.if_icmp .ge 25, 3) := by decide +kernel
theorem dX4_cutsOf_15 : decode cX4_cutsOf 15 = .ok (.iload_n 2, 1) := by decide +kernel
theorem dX4_cutsOf_16 : decode cX4_cutsOf 16 = .ok (.aload_n 0, 1) := by decide +kernel
theorem dX4_cutsOf_17 : decode cX4_cutsOf 17 = .ok (.iload_n 3, 1) := by decide +kernel
theorem dX4_cutsOf_18 : decode cX4_cutsOf 18 = .ok (.invokevirtual 46, 3) := by decide +kernel
theorem dX4_cutsOf_21 : decode cX4_cutsOf 21 = .ok (.ifCond .eq 7, 3) := by decide +kernel
theorem dX4_cutsOf_24 : decode cX4_cutsOf 24 = .ok (.iconst 1, 1) := by decide +kernel
theorem dX4_cutsOf_25 : decode cX4_cutsOf 25 = .ok (.goto 4, 3) := by decide +kernel
theorem dX4_cutsOf_28 : decode cX4_cutsOf 28 = .ok (.iconst 0, 1) := by decide +kernel
theorem dX4_cutsOf_29 : decode cX4_cutsOf 29 = .ok (.iadd, 1) := by decide +kernel
theorem dX4_cutsOf_30 : decode cX4_cutsOf 30 = .ok (.istore_n 2, 1) := by decide +kernel
theorem dX4_cutsOf_31 : decode cX4_cutsOf 31 = .ok (.iinc 3 1, 3) := by decide +kernel
theorem dX4_cutsOf_34 : decode cX4_cutsOf 34 = .ok (.goto (-28), 3) := by decide +kernel
theorem dX4_cutsOf_37 : decode cX4_cutsOf 37 = .ok (.iload_n 2, 1) := by decide +kernel
theorem dX4_cutsOf_38 : decode cX4_cutsOf 38 = .ok (.ireturn, 1) := by decide +kernel
set_option maxRecDepth 20000 in
theorem ggX4_clearestOf_X4_isCut : GoodIn wsX4_clearestOf wsX4_isCut := goodIn_r _ [6, 1, 7, 8, 5, 9, 10, 11, 12, 13, 14, 15, 16, 17, 18, 19, 20, 21] (by decide +kernel) (by decide +kernel)
set_option maxRecDepth 20000 in
theorem gX4_clearestOf_X4_isCut : GoodIn wsX4_clearestOf (wsV RX4 46 RX4 yX4_isCut wsX4_isCut) := goodIn_app (goodIn_of _ (by decide +kernel)) ggX4_clearestOf_X4_isCut
set_option maxRecDepth 20000 in
theorem ggX4_clearestOf_X4_at : GoodIn wsX4_clearestOf wsX4_at := goodIn_r _ [9] (by decide +kernel) (by decide +kernel)
set_option maxRecDepth 20000 in
theorem gX4_clearestOf_X4_at : GoodIn wsX4_clearestOf (va_wsS RX4 42 yX4_at wsX4_at) := goodIn_app (goodIn_of _ (by decide +kernel)) ggX4_clearestOf_X4_at
theorem dX4_clearestOf_0 : decode cX4_clearestOf 0 = .ok (.iconst (-1), 1) := by decide +kernel
theorem dX4_clearestOf_1 : decode cX4_clearestOf 1 = .ok (.istore_n 2, 1) := by decide +kernel
theorem dX4_clearestOf_2 : decode cX4_clearestOf 2 = .ok (.iconst 4, 1) := by decide +kernel
theorem dX4_clearestOf_3 : decode cX4_clearestOf 3 = .ok (.iload_n 1, 1) := by decide +kernel
theorem dX4_clearestOf_4 : decode cX4_clearestOf 4 = .ok (.imul, 1) := by decide +kernel
theorem dX4_clearestOf_5 : decode cX4_clearestOf 5 = .ok (.istore_n 3, 1) := by decide +kernel
theorem dX4_clearestOf_6 : decode cX4_clearestOf 6 = .ok (.iload_n 3, 1) := by decide +kernel
theorem dX4_clearestOf_7 : decode cX4_clearestOf 7 = .ok (.iconst 4, 1) := by decide +kernel
theorem dX4_clearestOf_8 : decode cX4_clearestOf 8 = .ok (.iload_n 1, 1) := by decide +kernel
theorem dX4_clearestOf_9 : decode cX4_clearestOf 9 = .ok (.imul, 1) := by decide +kernel
theorem dX4_clearestOf_10 : decode cX4_clearestOf 10 = .ok (.iconst 4, 1) := by decide +kernel
theorem dX4_clearestOf_11 : decode cX4_clearestOf 11 = .ok (.iadd, 1) := by decide +kernel
theorem dX4_clearestOf_12 : decode cX4_clearestOf 12 = .ok (.if_icmp .ge 53, 3) := by decide +kernel
theorem dX4_clearestOf_15 : decode cX4_clearestOf 15 = .ok (.aload_n 0, 1) := by decide +kernel
theorem dX4_clearestOf_16 : decode cX4_clearestOf 16 = .ok (.iload_n 3, 1) := by decide +kernel
theorem dX4_clearestOf_17 : decode cX4_clearestOf 17 = .ok (.invokevirtual 46, 3) := by decide +kernel
theorem dX4_clearestOf_20 : decode cX4_clearestOf 20 = .ok (.ifCond .eq 37, 3) := by decide +kernel
theorem dX4_clearestOf_23 : decode cX4_clearestOf 23 = .ok (.iload_n 2, 1) := by decide +kernel
theorem dX4_clearestOf_24 : decode cX4_clearestOf 24 = .ok (.iconst (-1), 1) := by decide +kernel
theorem dX4_clearestOf_25 : decode cX4_clearestOf 25 = .ok (.if_icmp .eq 28, 3) := by decide +kernel
theorem dX4_clearestOf_28 : decode cX4_clearestOf 28 = .ok (.aload_n 0, 1) := by decide +kernel
theorem dX4_clearestOf_29 : decode cX4_clearestOf 29 = .ok (.getfield 7, 3) := by decide +kernel
theorem dX4_clearestOf_32 : decode cX4_clearestOf 32 = .ok (.iload_n 3, 1) := by decide +kernel
theorem dX4_clearestOf_33 : decode cX4_clearestOf 33 = .ok (.invokestatic 42, 3) := by decide +kernel
theorem dX4_clearestOf_36 : decode cX4_clearestOf 36 = .ok (.iconst 1, 1) := by decide +kernel
theorem dX4_clearestOf_37 : decode cX4_clearestOf 37 = .ok (.iadd, 1) := by decide +kernel
theorem dX4_clearestOf_38 : decode cX4_clearestOf 38 = .ok (.iaload, 1) := by decide +kernel
theorem dX4_clearestOf_39 : decode cX4_clearestOf 39 = .ok (.aload_n 0, 1) := by decide +kernel
theorem dX4_clearestOf_40 : decode cX4_clearestOf 40 = .ok (.getfield 7, 3) := by decide +kernel
theorem dX4_clearestOf_43 : decode cX4_clearestOf 43 = .ok (.iload_n 2, 1) := by decide +kernel
theorem dX4_clearestOf_44 : decode cX4_clearestOf 44 = .ok (.invokestatic 42, 3) := by decide +kernel
theorem dX4_clearestOf_47 : decode cX4_clearestOf 47 = .ok (.iconst 1, 1) := by decide +kernel
theorem dX4_clearestOf_48 : decode cX4_clearestOf 48 = .ok (.iadd, 1) := by decide +kernel
theorem dX4_clearestOf_49 : decode cX4_clearestOf 49 = .ok (.iaload, 1) := by decide +kernel
theorem dX4_clearestOf_50 : decode cX4_clearestOf 50 = .ok (.if_icmp .le 7, 3) := by decide +kernel
theorem dX4_clearestOf_53 : decode cX4_clearestOf 53 = .ok (.iload_n 3, 1) := by decide +kernel
theorem dX4_clearestOf_54 : decode cX4_clearestOf 54 = .ok (.goto 4, 3) := by decide +kernel
theorem dX4_clearestOf_57 : decode cX4_clearestOf 57 = .ok (.iload_n 2, 1) := by decide +kernel
theorem dX4_clearestOf_58 : decode cX4_clearestOf 58 = .ok (.istore_n 2, 1) := by decide +kernel
theorem dX4_clearestOf_59 : decode cX4_clearestOf 59 = .ok (.iinc 3 1, 3) := by decide +kernel
theorem dX4_clearestOf_62 : decode cX4_clearestOf 62 = .ok (.goto (-56), 3) := by decide +kernel
theorem dX4_clearestOf_65 : decode cX4_clearestOf 65 = .ok (.iload_n 2, 1) := by decide +kernel
theorem dX4_clearestOf_66 : decode cX4_clearestOf 66 = .ok (.ireturn, 1) := by decide +kernel
set_option maxRecDepth 20000 in
theorem ggX4_propertyOf_X4_cutsOf : GoodIn wsX4_propertyOf wsX4_cutsOf := goodIn_r _ [6, 7, 8, 9, 5, 10, 1, 11, 12, 13, 25, 26, 27, 28, 29, 30, 31, 32, 33, 34, 35, 36] (by decide +kernel) (by decide +kernel)
set_option maxRecDepth 20000 in
theorem gX4_propertyOf_X4_cutsOf : GoodIn wsX4_propertyOf (wsV RX4 160 RX4 yX4_cutsOf wsX4_cutsOf) := goodIn_app (goodIn_of _ (by decide +kernel)) ggX4_propertyOf_X4_cutsOf
set_option maxRecDepth 20000 in
theorem ggX4_propertyOf_X4_deepest : GoodIn wsX4_propertyOf wsX4_deepest := goodIn_r _ [17, 1, 11, 12, 5, 13, 18, 19, 20, 25, 26, 27, 28, 29, 30, 31, 32, 33, 34, 35, 36] (by decide +kernel) (by decide +kernel)
set_option maxRecDepth 20000 in
theorem gX4_propertyOf_X4_deepest : GoodIn wsX4_propertyOf (wsV RX4 84 RX4 yX4_deepest wsX4_deepest) := goodIn_app (goodIn_of _ (by decide +kernel)) ggX4_propertyOf_X4_deepest
set_option maxRecDepth 20000 in
theorem ggX4_propertyOf_X4_clearestOf : GoodIn wsX4_propertyOf wsX4_clearestOf := goodIn_r _ [24, 1, 7, 8, 9, 5, 10, 11, 12, 13, 25, 26, 27, 28, 29, 30, 31, 32, 33, 34, 35, 36] (by decide +kernel) (by decide +kernel)
set_option maxRecDepth 20000 in
theorem gX4_propertyOf_X4_clearestOf : GoodIn wsX4_propertyOf (wsV RX4 163 RX4 yX4_clearestOf wsX4_clearestOf) := goodIn_app (goodIn_of _ (by decide +kernel)) ggX4_propertyOf_X4_clearestOf
theorem dX4_propertyOf_0 : decode cX4_propertyOf 0 = .ok (.iload_n 2, 1) := by decide +kernel
theorem dX4_propertyOf_1 : decode cX4_propertyOf 1 = .ok (.tableswitch 61 0 3 #[31, 43, 49, 55], 31) := by decide +kernel
theorem dX4_propertyOf_32 : decode cX4_propertyOf 32 = .ok (.aload_n 0, 1) := by decide +kernel
theorem dX4_propertyOf_33 : decode cX4_propertyOf 33 = .ok (.getfield 7, 3) := by decide +kernel
theorem dX4_propertyOf_36 : decode cX4_propertyOf 36 = .ok (.bipush 10, 2) := by decide +kernel
theorem dX4_propertyOf_38 : decode cX4_propertyOf 38 = .ok (.iconst 2, 1) := by decide +kernel
theorem dX4_propertyOf_39 : decode cX4_propertyOf 39 = .ok (.iload_n 1, 1) := by decide +kernel
theorem dX4_propertyOf_40 : decode cX4_propertyOf 40 = .ok (.imul, 1) := by decide +kernel
theorem dX4_propertyOf_41 : decode cX4_propertyOf 41 = .ok (.iadd, 1) := by decide +kernel
theorem dX4_propertyOf_42 : decode cX4_propertyOf 42 = .ok (.iaload, 1) := by decide +kernel
theorem dX4_propertyOf_43 : decode cX4_propertyOf 43 = .ok (.ireturn, 1) := by decide +kernel
theorem dX4_propertyOf_44 : decode cX4_propertyOf 44 = .ok (.aload_n 0, 1) := by decide +kernel
theorem dX4_propertyOf_45 : decode cX4_propertyOf 45 = .ok (.iload_n 1, 1) := by decide +kernel
theorem dX4_propertyOf_46 : decode cX4_propertyOf 46 = .ok (.invokevirtual 160, 3) := by decide +kernel
theorem dX4_propertyOf_49 : decode cX4_propertyOf 49 = .ok (.ireturn, 1) := by decide +kernel
theorem dX4_propertyOf_50 : decode cX4_propertyOf 50 = .ok (.aload_n 0, 1) := by decide +kernel
theorem dX4_propertyOf_51 : decode cX4_propertyOf 51 = .ok (.iload_n 1, 1) := by decide +kernel
theorem dX4_propertyOf_52 : decode cX4_propertyOf 52 = .ok (.invokevirtual 84, 3) := by decide +kernel
theorem dX4_propertyOf_55 : decode cX4_propertyOf 55 = .ok (.ireturn, 1) := by decide +kernel
theorem dX4_propertyOf_56 : decode cX4_propertyOf 56 = .ok (.aload_n 0, 1) := by decide +kernel
theorem dX4_propertyOf_57 : decode cX4_propertyOf 57 = .ok (.iload_n 1, 1) := by decide +kernel
theorem dX4_propertyOf_58 : decode cX4_propertyOf 58 = .ok (.invokevirtual 163, 3) := by decide +kernel
theorem dX4_propertyOf_61 : decode cX4_propertyOf 61 = .ok (.ireturn, 1) := by decide +kernel
theorem dX4_propertyOf_62 : decode cX4_propertyOf 62 = .ok (.aload_n 0, 1) := by decide +kernel
theorem dX4_propertyOf_63 : decode cX4_propertyOf 63 = .ok (.getfield 7, 3) := by decide +kernel
theorem dX4_propertyOf_66 : decode cX4_propertyOf 66 = .ok (.bipush 10, 2) := by decide +kernel
theorem dX4_propertyOf_68 : decode cX4_propertyOf 68 = .ok (.iconst 2, 1) := by decide +kernel
theorem dX4_propertyOf_69 : decode cX4_propertyOf 69 = .ok (.iload_n 1, 1) := by decide +kernel
theorem dX4_propertyOf_70 : decode cX4_propertyOf 70 = .ok (.imul, 1) := by decide +kernel
theorem dX4_propertyOf_71 : decode cX4_propertyOf 71 = .ok (.iadd, 1) := by decide +kernel
theorem dX4_propertyOf_72 : decode cX4_propertyOf 72 = .ok (.iconst 1, 1) := by decide +kernel
theorem dX4_propertyOf_73 : decode cX4_propertyOf 73 = .ok (.iadd, 1) := by decide +kernel
theorem dX4_propertyOf_74 : decode cX4_propertyOf 74 = .ok (.iaload, 1) := by decide +kernel
theorem dX4_propertyOf_75 : decode cX4_propertyOf 75 = .ok (.ireturn, 1) := by decide +kernel
set_option maxRecDepth 20000 in
theorem ggX4_cylinderOf_X4_isCylinder : GoodIn wsX4_cylinderOf wsX4_isCylinder := goodIn_r _ [4, 5, 6, 3, 7] (by decide +kernel) (by decide +kernel)
set_option maxRecDepth 20000 in
theorem gX4_cylinderOf_X4_isCylinder : GoodIn wsX4_cylinderOf (va_wsS RX4 110 yX4_isCylinder wsX4_isCylinder) := goodIn_app (goodIn_of _ (by decide +kernel)) ggX4_cylinderOf_X4_isCylinder
set_option maxRecDepth 20000 in
theorem ggX4_cylinderOf_X4_in : GoodIn wsX4_cylinderOf wsX4_in := goodIn_r _ [7] (by decide +kernel) (by decide +kernel)
set_option maxRecDepth 20000 in
theorem gX4_cylinderOf_X4_in : GoodIn wsX4_cylinderOf (va_wsS RX4 38 yX4_in wsX4_in) := goodIn_app (goodIn_of _ (by decide +kernel)) ggX4_cylinderOf_X4_in
set_option maxRecDepth 20000 in
theorem ggX4_cylinderOf_X4_goes : GoodIn wsX4_cylinderOf wsX4_goes := goodIn_r _ [11, 12, 40, 41, 42, 43, 44, 45, 46, 47, 48, 49, 50, 51] (by decide +kernel) (by decide +kernel)
set_option maxRecDepth 20000 in
theorem gX4_cylinderOf_X4_goes : GoodIn wsX4_cylinderOf (wsV RX4 94 RX4 yX4_goes wsX4_goes) := goodIn_app (goodIn_of _ (by decide +kernel)) ggX4_cylinderOf_X4_goes
set_option maxRecDepth 20000 in
theorem ggX4_cylinderOf_X4_propertyOf : GoodIn wsX4_cylinderOf wsX4_propertyOf := goodIn_r _ [16, 17, 18, 19, 20, 3, 21, 22, 23, 24, 25, 26, 27, 28, 29, 30, 31, 32, 33, 34, 35, 36, 37, 38, 39, 40, 41, 42, 43, 44, 45, 46, 47, 48, 49, 50, 51] (by decide +kernel) (by decide +kernel)
set_option maxRecDepth 20000 in
theorem gX4_cylinderOf_X4_propertyOf : GoodIn wsX4_cylinderOf (wsV RX4 166 RX4 yX4_propertyOf wsX4_propertyOf) := goodIn_app (goodIn_of _ (by decide +kernel)) ggX4_cylinderOf_X4_propertyOf
theorem dX4_cylinderOf_0 : decode cX4_cylinderOf 0 = .ok (.aload_n 0, 1) := by decide +kernel
theorem dX4_cylinderOf_1 : decode cX4_cylinderOf 1 = .ok (.iload_n 1, 1) := by decide +kernel
theorem dX4_cylinderOf_2 : decode cX4_cylinderOf 2 = .ok (.invokestatic 110, 3) := by decide +kernel
theorem dX4_cylinderOf_5 : decode cX4_cylinderOf 5 = .ok (.iload_n 2, 1) := by decide +kernel
theorem dX4_cylinderOf_6 : decode cX4_cylinderOf 6 = .ok (.iconst 0, 1) := by decide +kernel
theorem dX4_cylinderOf_7 : decode cX4_cylinderOf 7 = .ok (.iconst 4, 1) := by decide +kernel
theorem dX4_cylinderOf_8 : decode cX4_cylinderOf 8 = .ok (.invokestatic 38, 3) := by decide +kernel
theorem dX4_cylinderOf_11 : decode cX4_cylinderOf 11 = .ok (.invokevirtual 94, 3) := by decide +kernel
theorem dX4_cylinderOf_14 : decode cX4_cylinderOf 14 = .ok (.ifCond .eq 12, 3) := by decide +kernel
theorem dX4_cylinderOf_17 : decode cX4_cylinderOf 17 = .ok (.aload_n 0, 1) := by decide +kernel
theorem dX4_cylinderOf_18 : decode cX4_cylinderOf 18 = .ok (.iload_n 1, 1) := by decide +kernel
theorem dX4_cylinderOf_19 : decode cX4_cylinderOf 19 = .ok (.iload_n 2, 1) := by decide +kernel
theorem dX4_cylinderOf_20 : decode cX4_cylinderOf 20 = .ok (.invokevirtual 166, 3) := by decide +kernel
theorem dX4_cylinderOf_23 : decode cX4_cylinderOf 23 = .ok (.goto 4, 3) := by decide +kernel
theorem dX4_cylinderOf_26 : decode cX4_cylinderOf 26 = .ok (.iconst 0, 1) := by decide +kernel
theorem dX4_cylinderOf_27 : decode cX4_cylinderOf 27 = .ok (.ireturn, 1) := by decide +kernel
theorem dX4_allLayers_0 : decode cX4_allLayers 0 = .ok (.iconst 0, 1) := by decide +kernel
theorem dX4_allLayers_1 : decode cX4_allLayers 1 = .ok (.istore_n 1, 1) := by decide +kernel
theorem dX4_allLayers_2 : decode cX4_allLayers 2 = .ok (.iconst 0, 1) := by decide +kernel
theorem dX4_allLayers_3 : decode cX4_allLayers 3 = .ok (.istore_n 2, 1) := by decide +kernel
theorem dX4_allLayers_4 : decode cX4_allLayers 4 = .ok (.iload_n 2, 1) := by decide +kernel
theorem dX4_allLayers_5 : decode cX4_allLayers 5 = .ok (.bipush 6, 2) := by decide +kernel
theorem dX4_allLayers_7 : decode cX4_allLayers 7 = .ok (.if_icmp .ge 23, 3) := by decide +kernel
theorem dX4_allLayers_10 : decode cX4_allLayers 10 = .ok (.iload_n 1, 1) := by decide +kernel
theorem dX4_allLayers_11 : decode cX4_allLayers 11 = .ok (.aload_n 0, 1) := by decide +kernel
theorem dX4_allLayers_12 : decode cX4_allLayers 12 = .ok (.getfield 7, 3) := by decide +kernel
theorem dX4_allLayers_15 : decode cX4_allLayers 15 = .ok (.bipush 10, 2) := by decide +kernel
theorem dX4_allLayers_17 : decode cX4_allLayers 17 = .ok (.iconst 2, 1) := by decide +kernel
theorem dX4_allLayers_18 : decode cX4_allLayers 18 = .ok (.iload_n 2, 1) := by decide +kernel
theorem dX4_allLayers_19 : decode cX4_allLayers 19 = .ok (.imul, 1) := by decide +kernel
theorem dX4_allLayers_20 : decode cX4_allLayers 20 = .ok (.iadd, 1) := by decide +kernel
theorem dX4_allLayers_21 : decode cX4_allLayers 21 = .ok (.iaload, 1) := by decide +kernel
theorem dX4_allLayers_22 : decode cX4_allLayers 22 = .ok (.iadd, 1) := by decide +kernel
theorem dX4_allLayers_23 : decode cX4_allLayers 23 = .ok (.istore_n 1, 1) := by decide +kernel
theorem dX4_allLayers_24 : decode cX4_allLayers 24 = .ok (.iinc 2 1, 3) := by decide +kernel
theorem dX4_allLayers_27 : decode cX4_allLayers 27 = .ok (.goto (-23), 3) := by decide +kernel
theorem dX4_allLayers_30 : decode cX4_allLayers 30 = .ok (.iload_n 1, 1) := by decide +kernel
theorem dX4_allLayers_31 : decode cX4_allLayers 31 = .ok (.ireturn, 1) := by decide +kernel
set_option maxRecDepth 20000 in
theorem ggX4_counted_X4_machineFlutter : GoodIn wsX4_counted wsX4_machineFlutter := goodIn_r _ [7, 1, 23, 24, 25, 26, 27, 28, 29, 30, 31, 32, 33, 34] (by decide +kernel) (by decide +kernel)
set_option maxRecDepth 20000 in
theorem gX4_counted_X4_machineFlutter : GoodIn wsX4_counted (wsV RX4 63 RX4 yX4_machineFlutter wsX4_machineFlutter) := goodIn_app (goodIn_of _ (by decide +kernel)) ggX4_counted_X4_machineFlutter
set_option maxRecDepth 20000 in
theorem ggX4_counted_X4_cuts : GoodIn wsX4_counted wsX4_cuts := goodIn_r _ [11, 12, 13, 14, 6, 15, 1, 16, 17, 18, 23, 24, 25, 26, 27, 28, 29, 30, 31, 32, 33, 34] (by decide +kernel) (by decide +kernel)
set_option maxRecDepth 20000 in
theorem gX4_counted_X4_cuts : GoodIn wsX4_counted (wsV RX4 155 RX4 yX4_cuts wsX4_cuts) := goodIn_app (goodIn_of _ (by decide +kernel)) ggX4_counted_X4_cuts
set_option maxRecDepth 20000 in
theorem ggX4_counted_X4_allLayers : GoodIn wsX4_counted wsX4_allLayers := goodIn_r _ [22, 1, 23, 24, 25, 26, 27, 28, 29, 30, 31, 32, 33, 34] (by decide +kernel) (by decide +kernel)
set_option maxRecDepth 20000 in
theorem gX4_counted_X4_allLayers : GoodIn wsX4_counted (wsV RX4 169 RX4 yX4_allLayers wsX4_allLayers) := goodIn_app (goodIn_of _ (by decide +kernel)) ggX4_counted_X4_allLayers
theorem dX4_counted_0 : decode cX4_counted 0 = .ok (.iload_n 1, 1) := by decide +kernel
theorem dX4_counted_1 : decode cX4_counted 1 = .ok (.tableswitch 105 0 12 #[67, 67, 74, 79, 84, 84, 84, 95, 105, 105, 105, 105, 100], 67) := by decide +kernel
theorem dX4_counted_68 : decode cX4_counted 68 = .ok (.aload_n 0, 1) := by decide +kernel
theorem dX4_counted_69 : decode cX4_counted 69 = .ok (.getfield 7, 3) := by decide +kernel
theorem dX4_counted_72 : decode cX4_counted 72 = .ok (.iload_n 1, 1) := by decide +kernel
theorem dX4_counted_73 : decode cX4_counted 73 = .ok (.iaload, 1) := by decide +kernel
theorem dX4_counted_74 : decode cX4_counted 74 = .ok (.ireturn, 1) := by decide +kernel
theorem dX4_counted_75 : decode cX4_counted 75 = .ok (.aload_n 0, 1) := by decide +kernel
theorem dX4_counted_76 : decode cX4_counted 76 = .ok (.invokevirtual 63, 3) := by decide +kernel
theorem dX4_counted_79 : decode cX4_counted 79 = .ok (.ireturn, 1) := by decide +kernel
theorem dX4_counted_80 : decode cX4_counted 80 = .ok (.aload_n 0, 1) := by decide +kernel
theorem dX4_counted_81 : decode cX4_counted 81 = .ok (.invokevirtual 155, 3) := by decide +kernel
theorem dX4_counted_84 : decode cX4_counted 84 = .ok (.ireturn, 1) := by decide +kernel
theorem dX4_counted_85 : decode cX4_counted 85 = .ok (.aload_n 0, 1) := by decide +kernel
theorem dX4_counted_86 : decode cX4_counted 86 = .ok (.getfield 7, 3) := by decide +kernel
theorem dX4_counted_89 : decode cX4_counted 89 = .ok (.iconst 3, 1) := by decide +kernel
theorem dX4_counted_90 : decode cX4_counted 90 = .ok (.iload_n 1, 1) := by decide +kernel
theorem dX4_counted_91 : decode cX4_counted 91 = .ok (.iadd, 1) := by decide +kernel
theorem dX4_counted_92 : decode cX4_counted 92 = .ok (.iconst 4, 1) := by decide +kernel
theorem dX4_counted_93 : decode cX4_counted 93 = .ok (.isub, 1) := by decide +kernel
theorem dX4_counted_94 : decode cX4_counted 94 = .ok (.iaload, 1) := by decide +kernel
theorem dX4_counted_95 : decode cX4_counted 95 = .ok (.ireturn, 1) := by decide +kernel
theorem dX4_counted_96 : decode cX4_counted 96 = .ok (.aload_n 0, 1) := by decide +kernel
theorem dX4_counted_97 : decode cX4_counted 97 = .ok (.invokevirtual 169, 3) := by decide +kernel
theorem dX4_counted_100 : decode cX4_counted 100 = .ok (.ireturn, 1) := by decide +kernel
theorem dX4_counted_101 : decode cX4_counted 101 = .ok (.aload_n 0, 1) := by decide +kernel
theorem dX4_counted_102 : decode cX4_counted 102 = .ok (.getfield 31, 3) := by decide +kernel
theorem dX4_counted_105 : decode cX4_counted 105 = .ok (.ireturn, 1) := by decide +kernel
theorem dX4_counted_106 : decode cX4_counted 106 = .ok (.aload_n 0, 1) := by decide +kernel
theorem dX4_counted_107 : decode cX4_counted 107 = .ok (.getfield 7, 3) := by decide +kernel
theorem dX4_counted_110 : decode cX4_counted 110 = .ok (.bipush 6, 2) := by decide +kernel
theorem dX4_counted_112 : decode cX4_counted 112 = .ok (.iload_n 1, 1) := by decide +kernel
theorem dX4_counted_113 : decode cX4_counted 113 = .ok (.iadd, 1) := by decide +kernel
theorem dX4_counted_114 : decode cX4_counted 114 = .ok (.bipush 8, 2) := by decide +kernel
theorem dX4_counted_116 : decode cX4_counted 116 = .ok (.isub, 1) := by decide +kernel
theorem dX4_counted_117 : decode cX4_counted 117 = .ok (.iaload, 1) := by decide +kernel
theorem dX4_counted_118 : decode cX4_counted 118 = .ok (.ireturn, 1) := by decide +kernel
set_option maxRecDepth 20000 in
theorem ggX4_count_X4_in : GoodIn wsX4_count wsX4_in := goodIn_r _ [4] (by decide +kernel) (by decide +kernel)
set_option maxRecDepth 20000 in
theorem gX4_count_X4_in : GoodIn wsX4_count (va_wsS RX4 38 yX4_in wsX4_in) := goodIn_app (goodIn_of _ (by decide +kernel)) ggX4_count_X4_in
set_option maxRecDepth 20000 in
theorem ggX4_count_X4_goes : GoodIn wsX4_count wsX4_goes := goodIn_r _ [8, 9, 35, 36, 37, 38, 39, 40, 41, 42, 43, 44, 45, 46] (by decide +kernel) (by decide +kernel)
set_option maxRecDepth 20000 in
theorem gX4_count_X4_goes : GoodIn wsX4_count (wsV RX4 94 RX4 yX4_goes wsX4_goes) := goodIn_app (goodIn_of _ (by decide +kernel)) ggX4_count_X4_goes
set_option maxRecDepth 20000 in
theorem ggX4_count_X4_counted : GoodIn wsX4_count wsX4_counted := goodIn_r _ [13, 14, 15, 16, 17, 18, 3, 19, 20, 21, 22, 23, 24, 25, 26, 27, 28, 29, 30, 31, 32, 33, 34, 35, 36, 37, 38, 39, 40, 41, 42, 43, 44, 45, 46] (by decide +kernel) (by decide +kernel)
set_option maxRecDepth 20000 in
theorem gX4_count_X4_counted : GoodIn wsX4_count (wsV RX4 172 RX4 yX4_counted wsX4_counted) := goodIn_app (goodIn_of _ (by decide +kernel)) ggX4_count_X4_counted
theorem dX4_count_0 : decode cX4_count 0 = .ok (.aload_n 0, 1) := by decide +kernel
theorem dX4_count_1 : decode cX4_count 1 = .ok (.iload_n 1, 1) := by decide +kernel
theorem dX4_count_2 : decode cX4_count 2 = .ok (.iconst 0, 1) := by decide +kernel
theorem dX4_count_3 : decode cX4_count 3 = .ok (.bipush 12, 2) := by decide +kernel
theorem dX4_count_5 : decode cX4_count 5 = .ok (.invokestatic 38, 3) := by decide +kernel
theorem dX4_count_8 : decode cX4_count 8 = .ok (.iconst 1, 1) := by decide +kernel
theorem dX4_count_9 : decode cX4_count 9 = .ok (.invokevirtual 94, 3) := by decide +kernel
theorem dX4_count_12 : decode cX4_count 12 = .ok (.ifCond .eq 11, 3) := by decide +kernel
theorem dX4_count_15 : decode cX4_count 15 = .ok (.aload_n 0, 1) := by decide +kernel
theorem dX4_count_16 : decode cX4_count 16 = .ok (.iload_n 1, 1) := by decide +kernel
theorem dX4_count_17 : decode cX4_count 17 = .ok (.invokevirtual 172, 3) := by decide +kernel
theorem dX4_count_20 : decode cX4_count 20 = .ok (.goto 4, 3) := by decide +kernel
theorem dX4_count_23 : decode cX4_count 23 = .ok (.iconst 0, 1) := by decide +kernel
theorem dX4_count_24 : decode cX4_count 24 = .ok (.ireturn, 1) := by decide +kernel
theorem dX4_setting_0 : decode cX4_setting 0 = .ok (.aload_n 0, 1) := by decide +kernel
theorem dX4_setting_1 : decode cX4_setting 1 = .ok (.iconst 0, 1) := by decide +kernel
theorem dX4_setting_2 : decode cX4_setting 2 = .ok (.putfield 27, 3) := by decide +kernel
theorem dX4_setting_5 : decode cX4_setting 5 = .ok (.aload_n 0, 1) := by decide +kernel
theorem dX4_setting_6 : decode cX4_setting 6 = .ok (.getfield 7, 3) := by decide +kernel
theorem dX4_setting_9 : decode cX4_setting 9 = .ok (.iconst 2, 1) := by decide +kernel
theorem dX4_setting_10 : decode cX4_setting 10 = .ok (.iaload, 1) := by decide +kernel
theorem dX4_setting_11 : decode cX4_setting 11 = .ok (.ireturn, 1) := by decide +kernel
set_option maxRecDepth 20000 in
theorem ggX4_whyNot_X4_isTrack : GoodIn wsX4_whyNot wsX4_isTrack := goodIn_r _ [4, 5, 6, 3, 7] (by decide +kernel) (by decide +kernel)
set_option maxRecDepth 20000 in
theorem gX4_whyNot_X4_isTrack : GoodIn wsX4_whyNot (va_wsS RX4 91 yX4_isTrack wsX4_isTrack) := goodIn_app (goodIn_of _ (by decide +kernel)) ggX4_whyNot_X4_isTrack
set_option maxRecDepth 20000 in
theorem ggX4_whyNot_X4_in : GoodIn wsX4_whyNot wsX4_in := goodIn_r _ [7] (by decide +kernel) (by decide +kernel)
set_option maxRecDepth 20000 in
theorem gX4_whyNot_X4_in : GoodIn wsX4_whyNot (va_wsS RX4 38 yX4_in wsX4_in) := goodIn_app (goodIn_of _ (by decide +kernel)) ggX4_whyNot_X4_in
set_option maxRecDepth 20000 in
theorem ggX4_whyNot_X4_goes : GoodIn wsX4_whyNot wsX4_goes := goodIn_r _ [11, 12, 29, 30, 31, 32, 33, 34, 35, 36, 37, 38, 39, 40] (by decide +kernel) (by decide +kernel)
set_option maxRecDepth 20000 in
theorem gX4_whyNot_X4_goes : GoodIn wsX4_whyNot (wsV RX4 94 RX4 yX4_goes wsX4_goes) := goodIn_app (goodIn_of _ (by decide +kernel)) ggX4_whyNot_X4_goes
set_option maxRecDepth 20000 in
theorem ggX4_whyNot_X4_speakReason : GoodIn wsX4_whyNot wsX4_speakReason := goodIn_r _ [16, 17, 18, 19, 20, 3, 21, 22, 23, 24, 25, 26, 27, 28, 29, 30, 31, 32, 33, 34, 35, 36, 37, 38, 39, 40] (by decide +kernel) (by decide +kernel)
set_option maxRecDepth 20000 in
theorem gX4_whyNot_X4_speakReason : GoodIn wsX4_whyNot (wsV RX4 67 RX4 yX4_speakReason wsX4_speakReason) := goodIn_app (goodIn_of _ (by decide +kernel)) ggX4_whyNot_X4_speakReason
theorem dX4_whyNot_0 : decode cX4_whyNot 0 = .ok (.aload_n 0, 1) := by decide +kernel
theorem dX4_whyNot_1 : decode cX4_whyNot 1 = .ok (.iload_n 1, 1) := by decide +kernel
theorem dX4_whyNot_2 : decode cX4_whyNot 2 = .ok (.invokestatic 91, 3) := by decide +kernel
theorem dX4_whyNot_5 : decode cX4_whyNot 5 = .ok (.iload_n 2, 1) := by decide +kernel
theorem dX4_whyNot_6 : decode cX4_whyNot 6 = .ok (.iconst 1, 1) := by decide +kernel
theorem dX4_whyNot_7 : decode cX4_whyNot 7 = .ok (.bipush 9, 2) := by decide +kernel
theorem dX4_whyNot_9 : decode cX4_whyNot 9 = .ok (.invokestatic 38, 3) := by decide +kernel
theorem dX4_whyNot_12 : decode cX4_whyNot 12 = .ok (.invokevirtual 94, 3) := by decide +kernel
theorem dX4_whyNot_15 : decode cX4_whyNot 15 = .ok (.ifCond .eq 12, 3) := by decide +kernel
theorem dX4_whyNot_18 : decode cX4_whyNot 18 = .ok (.aload_n 0, 1) := by decide +kernel
theorem dX4_whyNot_19 : decode cX4_whyNot 19 = .ok (.iload_n 1, 1) := by decide +kernel
theorem dX4_whyNot_20 : decode cX4_whyNot 20 = .ok (.iload_n 2, 1) := by decide +kernel
theorem dX4_whyNot_21 : decode cX4_whyNot 21 = .ok (.invokevirtual 67, 3) := by decide +kernel
theorem dX4_whyNot_24 : decode cX4_whyNot 24 = .ok (.goto 4, 3) := by decide +kernel
theorem dX4_whyNot_27 : decode cX4_whyNot 27 = .ok (.iconst 0, 1) := by decide +kernel
theorem dX4_whyNot_28 : decode cX4_whyNot 28 = .ok (.ireturn, 1) := by decide +kernel
set_option maxRecDepth 20000 in
theorem ggX4_wouldBe_X4_copyReason : GoodIn wsX4_wouldBe wsX4_copyReason := goodIn_r _ [5, 6, 7, 8, 9, 4, 10, 11, 12, 13, 14, 15, 16, 17, 18, 19, 20, 35, 36, 37, 38, 39, 40, 41, 42, 43, 44, 45, 46] (by decide +kernel) (by decide +kernel)
set_option maxRecDepth 20000 in
theorem gX4_wouldBe_X4_copyReason : GoodIn wsX4_wouldBe (wsV RX4 74 RX4 yX4_copyReason wsX4_copyReason) := goodIn_app (goodIn_of _ (by decide +kernel)) ggX4_wouldBe_X4_copyReason
set_option maxRecDepth 20000 in
theorem ggX4_wouldBe_X4_clearOfCopy : GoodIn wsX4_wouldBe wsX4_clearOfCopy := goodIn_r _ [24, 6, 11, 12, 4, 13, 25, 26, 27, 28, 29, 30, 31, 32, 33, 34, 35, 36, 37, 38, 39, 40, 41, 42, 43, 44, 45, 46] (by decide +kernel) (by decide +kernel)
set_option maxRecDepth 20000 in
theorem gX4_wouldBe_X4_clearOfCopy : GoodIn wsX4_wouldBe (wsV RX4 78 RX4 yX4_clearOfCopy wsX4_clearOfCopy) := goodIn_app (goodIn_of _ (by decide +kernel)) ggX4_wouldBe_X4_clearOfCopy
theorem dX4_wouldBe_0 : decode cX4_wouldBe 0 = .ok (.aload_n 0, 1) := by decide +kernel
theorem dX4_wouldBe_1 : decode cX4_wouldBe 1 = .ok (.iload_n 1, 1) := by decide +kernel
theorem dX4_wouldBe_2 : decode cX4_wouldBe 2 = .ok (.iload_n 2, 1) := by decide +kernel
theorem dX4_wouldBe_3 : decode cX4_wouldBe 3 = .ok (.iload_n 3, 1) := by decide +kernel
theorem dX4_wouldBe_4 : decode cX4_wouldBe 4 = .ok (.invokevirtual 74, 3) := by decide +kernel
theorem dX4_wouldBe_7 : decode cX4_wouldBe 7 = .ok (.istore 4, 2) := by decide +kernel
theorem dX4_wouldBe_9 : decode cX4_wouldBe 9 = .ok (.iload 4, 2) := by decide +kernel
theorem dX4_wouldBe_11 : decode cX4_wouldBe 11 = .ok (.ifCond .eq 9, 3) := by decide +kernel
theorem dX4_wouldBe_14 : decode cX4_wouldBe 14 = .ok (.iload 4, 2) := by decide +kernel
theorem dX4_wouldBe_16 : decode cX4_wouldBe 16 = .ok (.ineg, 1) := by decide +kernel
theorem dX4_wouldBe_17 : decode cX4_wouldBe 17 = .ok (.goto 9, 3) := by decide +kernel
theorem dX4_wouldBe_20 : decode cX4_wouldBe 20 = .ok (.aload_n 0, 1) := by decide +kernel
theorem dX4_wouldBe_21 : decode cX4_wouldBe 21 = .ok (.iload_n 1, 1) := by decide +kernel
theorem dX4_wouldBe_22 : decode cX4_wouldBe 22 = .ok (.iload_n 3, 1) := by decide +kernel
theorem dX4_wouldBe_23 : decode cX4_wouldBe 23 = .ok (.invokevirtual 78, 3) := by decide +kernel
theorem dX4_wouldBe_26 : decode cX4_wouldBe 26 = .ok (.ireturn, 1) := by decide +kernel
set_option maxRecDepth 20000 in
theorem ggX4_ifCopied_X4_isTrack : GoodIn wsX4_ifCopied wsX4_isTrack := goodIn_r _ [4, 5, 6, 3, 7] (by decide +kernel) (by decide +kernel)
set_option maxRecDepth 20000 in
theorem gX4_ifCopied_X4_isTrack : GoodIn wsX4_ifCopied (va_wsS RX4 91 yX4_isTrack wsX4_isTrack) := goodIn_app (goodIn_of _ (by decide +kernel)) ggX4_ifCopied_X4_isTrack
set_option maxRecDepth 20000 in
theorem ggX4_ifCopied_X4_in : GoodIn wsX4_ifCopied wsX4_in := goodIn_r _ [7] (by decide +kernel) (by decide +kernel)
set_option maxRecDepth 20000 in
theorem gX4_ifCopied_X4_in : GoodIn wsX4_ifCopied (va_wsS RX4 38 yX4_in wsX4_in) := goodIn_app (goodIn_of _ (by decide +kernel)) ggX4_ifCopied_X4_in
set_option maxRecDepth 20000 in
theorem ggX4_ifCopied_X4_goes : GoodIn wsX4_ifCopied wsX4_goes := goodIn_r _ [11, 12, 50, 51, 52, 53, 54, 55, 56, 57, 58, 59, 60, 61] (by decide +kernel) (by decide +kernel)
set_option maxRecDepth 20000 in
theorem gX4_ifCopied_X4_goes : GoodIn wsX4_ifCopied (wsV RX4 94 RX4 yX4_goes wsX4_goes) := goodIn_app (goodIn_of _ (by decide +kernel)) ggX4_ifCopied_X4_goes
set_option maxRecDepth 20000 in
theorem ggX4_ifCopied_X4_wouldBe : GoodIn wsX4_ifCopied wsX4_wouldBe := goodIn_r _ [16, 17, 18, 19, 3, 20, 21, 22, 23, 24, 25, 26, 27, 28, 29, 30, 31, 32, 33, 34, 35, 36, 37, 38, 39, 40, 41, 42, 43, 44, 45, 46, 47, 48, 49, 50, 51, 52, 53, 54, 55, 56, 57, 58, 59, 60, 61] (by decide +kernel) (by decide +kernel)
set_option maxRecDepth 20000 in
theorem gX4_ifCopied_X4_wouldBe : GoodIn wsX4_ifCopied (wsV RX4 175 RX4 yX4_wouldBe wsX4_wouldBe) := goodIn_app (goodIn_of _ (by decide +kernel)) ggX4_ifCopied_X4_wouldBe
theorem dX4_ifCopied_0 : decode cX4_ifCopied 0 = .ok (.aload_n 0, 1) := by decide +kernel
theorem dX4_ifCopied_1 : decode cX4_ifCopied 1 = .ok (.iload_n 1, 1) := by decide +kernel
theorem dX4_ifCopied_2 : decode cX4_ifCopied 2 = .ok (.invokestatic 91, 3) := by decide +kernel
theorem dX4_ifCopied_5 : decode cX4_ifCopied 5 = .ok (.ifCond .eq 14, 3) := by decide +kernel
theorem dX4_ifCopied_8 : decode cX4_ifCopied 8 = .ok (.iload_n 2, 1) := by decide +kernel
theorem dX4_ifCopied_9 : decode cX4_ifCopied 9 = .ok (.invokestatic 91, 3) := by decide +kernel
theorem dX4_ifCopied_12 : decode cX4_ifCopied 12 = .ok (.ifCond .eq 7, 3) := by decide +kernel
theorem dX4_ifCopied_15 : decode cX4_ifCopied 15 = .ok (.iconst 1, 1) := by decide +kernel
theorem dX4_ifCopied_16 : decode cX4_ifCopied 16 = .ok (.goto 4, 3) := by decide +kernel
theorem dX4_ifCopied_19 : decode cX4_ifCopied 19 = .ok (.iconst 0, 1) := by decide +kernel
theorem dX4_ifCopied_20 : decode cX4_ifCopied 20 = .ok (.iload_n 3, 1) := by decide +kernel
theorem dX4_ifCopied_21 : decode cX4_ifCopied 21 = .ok (.iconst 1, 1) := by decide +kernel
theorem dX4_ifCopied_22 : decode cX4_ifCopied 22 = .ok (.iconst 3, 1) := by decide +kernel
theorem dX4_ifCopied_23 : decode cX4_ifCopied 23 = .ok (.invokestatic 38, 3) := by decide +kernel
theorem dX4_ifCopied_26 : decode cX4_ifCopied 26 = .ok (.invokevirtual 94, 3) := by decide +kernel
theorem dX4_ifCopied_29 : decode cX4_ifCopied 29 = .ok (.ifCond .eq 13, 3) := by decide +kernel
theorem dX4_ifCopied_32 : decode cX4_ifCopied 32 = .ok (.aload_n 0, 1) := by decide +kernel
theorem dX4_ifCopied_33 : decode cX4_ifCopied 33 = .ok (.iload_n 1, 1) := by decide +kernel
theorem dX4_ifCopied_34 : decode cX4_ifCopied 34 = .ok (.iload_n 2, 1) := by decide +kernel
theorem dX4_ifCopied_35 : decode cX4_ifCopied 35 = .ok (.iload_n 3, 1) := by decide +kernel
theorem dX4_ifCopied_36 : decode cX4_ifCopied 36 = .ok (.invokevirtual 175, 3) := by decide +kernel
theorem dX4_ifCopied_39 : decode cX4_ifCopied 39 = .ok (.goto 4, 3) := by decide +kernel
theorem dX4_ifCopied_42 : decode cX4_ifCopied 42 = .ok (.iconst 0, 1) := by decide +kernel
theorem dX4_ifCopied_43 : decode cX4_ifCopied 43 = .ok (.ireturn, 1) := by decide +kernel
set_option maxRecDepth 20000 in
theorem ggX4_copied_X4_bluntness : GoodIn wsX4_copied wsX4_bluntness := goodIn_r _ [4] (by decide +kernel) (by decide +kernel)
set_option maxRecDepth 20000 in
theorem gX4_copied_X4_bluntness : GoodIn wsX4_copied (va_wsS RX4 60 yX4_bluntness wsX4_bluntness) := goodIn_app (goodIn_of _ (by decide +kernel)) ggX4_copied_X4_bluntness
set_option maxRecDepth 20000 in
theorem ggX4_copied_X4_atLeast : GoodIn wsX4_copied wsX4_atLeast := goodIn_r _ [7] (by decide +kernel) (by decide +kernel)
set_option maxRecDepth 20000 in
theorem gX4_copied_X4_atLeast : GoodIn wsX4_copied (va_wsS RX4 50 yX4_atLeast wsX4_atLeast) := goodIn_app (goodIn_of _ (by decide +kernel)) ggX4_copied_X4_atLeast
theorem dX4_copied_0 : decode cX4_copied 0 = .ok (.iload_n 0, 1) := by decide +kernel
theorem dX4_copied_1 : decode cX4_copied 1 = .ok (.bipush 12, 2) := by decide +kernel
theorem dX4_copied_3 : decode cX4_copied 3 = .ok (.iload_n 1, 1) := by decide +kernel
theorem dX4_copied_4 : decode cX4_copied 4 = .ok (.idiv, 1) := by decide +kernel
theorem dX4_copied_5 : decode cX4_copied 5 = .ok (.isub, 1) := by decide +kernel
theorem dX4_copied_6 : decode cX4_copied 6 = .ok (.iload_n 2, 1) := by decide +kernel
theorem dX4_copied_7 : decode cX4_copied 7 = .ok (.invokestatic 60, 3) := by decide +kernel
theorem dX4_copied_10 : decode cX4_copied 10 = .ok (.isub, 1) := by decide +kernel
theorem dX4_copied_11 : decode cX4_copied 11 = .ok (.iconst 0, 1) := by decide +kernel
theorem dX4_copied_12 : decode cX4_copied 12 = .ok (.invokestatic 50, 3) := by decide +kernel
theorem dX4_copied_15 : decode cX4_copied 15 = .ok (.ireturn, 1) := by decide +kernel
set_option maxRecDepth 20000 in
theorem ggX4_bySteps_X4_at : GoodIn wsX4_bySteps wsX4_at := goodIn_r _ [7] (by decide +kernel) (by decide +kernel)
set_option maxRecDepth 20000 in
theorem gX4_bySteps_X4_at : GoodIn wsX4_bySteps (va_wsS RX4 42 yX4_at wsX4_at) := goodIn_app (goodIn_of _ (by decide +kernel)) ggX4_bySteps_X4_at
set_option maxRecDepth 20000 in
theorem ggX4_bySteps_X4_depthBy : GoodIn wsX4_bySteps wsX4_depthBy := goodIn_r _ [10] (by decide +kernel) (by decide +kernel)
set_option maxRecDepth 20000 in
theorem gX4_bySteps_X4_depthBy : GoodIn wsX4_bySteps (va_wsS RX4 57 yX4_depthBy wsX4_depthBy) := goodIn_app (goodIn_of _ (by decide +kernel)) ggX4_bySteps_X4_depthBy
set_option maxRecDepth 20000 in
theorem ggX4_bySteps_X4_atLeast : GoodIn wsX4_bySteps wsX4_atLeast := goodIn_r _ [13] (by decide +kernel) (by decide +kernel)
set_option maxRecDepth 20000 in
theorem gX4_bySteps_X4_atLeast : GoodIn wsX4_bySteps (va_wsS RX4 50 yX4_atLeast wsX4_atLeast) := goodIn_app (goodIn_of _ (by decide +kernel)) ggX4_bySteps_X4_atLeast
set_option maxRecDepth 20000 in
theorem ggX4_bySteps_X4_copied : GoodIn wsX4_bySteps wsX4_copied := goodIn_r _ [16, 17, 18, 6, 19, 11, 12, 13] (by decide +kernel) (by decide +kernel)
set_option maxRecDepth 20000 in
theorem gX4_bySteps_X4_copied : GoodIn wsX4_bySteps (va_wsS RX4 178 yX4_copied wsX4_copied) := goodIn_app (goodIn_of _ (by decide +kernel)) ggX4_bySteps_X4_copied
theorem dX4_bySteps_0 : decode cX4_bySteps 0 = .ok (.iconst 0, 1) := by decide +kernel
theorem dX4_bySteps_1 : decode cX4_bySteps 1 = .ok (.istore_n 3, 1) := by decide +kernel
theorem dX4_bySteps_2 : decode cX4_bySteps 2 = .ok (.iload_n 3, 1) := by decide +kernel
theorem dX4_bySteps_3 : decode cX4_bySteps 3 = .ok (.sipush 1010, 3) := by decide +kernel
theorem dX4_bySteps_6 : decode cX4_bySteps 6 = .ok (.if_icmp .ge 16, 3) := by decide +kernel
theorem dX4_bySteps_9 : decode cX4_bySteps 9 = .ok (.aload_n 0, 1) := by decide +kernel
theorem dX4_bySteps_10 : decode cX4_bySteps 10 = .ok (.getfield 21, 3) := by decide +kernel
theorem dX4_bySteps_13 : decode cX4_bySteps 13 = .ok (.iload_n 3, 1) := by decide +kernel
theorem dX4_bySteps_14 : decode cX4_bySteps 14 = .ok (.iconst (-1), 1) := by decide +kernel
theorem dX4_bySteps_15 : decode cX4_bySteps 15 = .ok (.iastore, 1) := by decide +kernel
theorem dX4_bySteps_16 : decode cX4_bySteps 16 = .ok (.iinc 3 1, 3) := by decide +kernel
theorem dX4_bySteps_19 : decode cX4_bySteps 19 = .ok (.goto (-17), 3) := by decide +kernel
theorem dX4_bySteps_22 : decode cX4_bySteps 22 = .ok (.aload_n 0, 1) := by decide +kernel
theorem dX4_bySteps_23 : decode cX4_bySteps 23 = .ok (.getfield 21, 3) := by decide +kernel
theorem dX4_bySteps_26 : decode cX4_bySteps 26 = .ok (.bipush 101, 2) := by decide +kernel
theorem dX4_bySteps_28 : decode cX4_bySteps 28 = .ok (.aload_n 0, 1) := by decide +kernel
theorem dX4_bySteps_29 : decode cX4_bySteps 29 = .ok (.getfield 7, 3) := by decide +kernel
theorem dX4_bySteps_32 : decode cX4_bySteps 32 = .ok (.iload_n 1, 1) := by decide +kernel
theorem dX4_bySteps_33 : decode cX4_bySteps 33 = .ok (.invokestatic 42, 3) := by decide +kernel
theorem dX4_bySteps_36 : decode cX4_bySteps 36 = .ok (.iaload, 1) := by decide +kernel
theorem dX4_bySteps_37 : decode cX4_bySteps 37 = .ok (.imul, 1) := by decide +kernel
theorem dX4_bySteps_38 : decode cX4_bySteps 38 = .ok (.aload_n 0, 1) := by decide +kernel
theorem dX4_bySteps_39 : decode cX4_bySteps 39 = .ok (.getfield 7, 3) := by decide +kernel
theorem dX4_bySteps_42 : decode cX4_bySteps 42 = .ok (.iconst 0, 1) := by decide +kernel
theorem dX4_bySteps_43 : decode cX4_bySteps 43 = .ok (.iaload, 1) := by decide +kernel
theorem dX4_bySteps_44 : decode cX4_bySteps 44 = .ok (.iadd, 1) := by decide +kernel
theorem dX4_bySteps_45 : decode cX4_bySteps 45 = .ok (.aload_n 0, 1) := by decide +kernel
theorem dX4_bySteps_46 : decode cX4_bySteps 46 = .ok (.getfield 7, 3) := by decide +kernel
theorem dX4_bySteps_49 : decode cX4_bySteps 49 = .ok (.iload_n 1, 1) := by decide +kernel
theorem dX4_bySteps_50 : decode cX4_bySteps 50 = .ok (.invokestatic 42, 3) := by decide +kernel
theorem dX4_bySteps_53 : decode cX4_bySteps 53 = .ok (.iconst 1, 1) := by decide +kernel
theorem dX4_bySteps_54 : decode cX4_bySteps 54 = .ok (.iadd, 1) := by decide +kernel
theorem dX4_bySteps_55 : decode cX4_bySteps 55 = .ok (.iaload, 1) := by decide +kernel
theorem dX4_bySteps_56 : decode cX4_bySteps 56 = .ok (.iastore, 1) := by decide +kernel
theorem dX4_bySteps_57 : decode cX4_bySteps 57 = .ok (.iconst 0, 1) := by decide +kernel
theorem dX4_bySteps_58 : decode cX4_bySteps 58 = .ok (.istore_n 3, 1) := by decide +kernel
theorem dX4_bySteps_59 : decode cX4_bySteps 59 = .ok (.iload_n 3, 1) := by decide +kernel
theorem dX4_bySteps_60 : decode cX4_bySteps 60 = .ok (.iload_n 2, 1) := by decide +kernel
theorem dX4_bySteps_61 : decode cX4_bySteps 61 = .ok (.if_icmp .ge 175, 3) := by decide +kernel
theorem dX4_bySteps_64 : decode cX4_bySteps 64 = .ok (.iconst 0, 1) := by decide +kernel
theorem dX4_bySteps_65 : decode cX4_bySteps 65 = .ok (.istore 4, 2) := by decide +kernel
theorem dX4_bySteps_67 : decode cX4_bySteps 67 = .ok (.iload 4, 2) := by decide +kernel
theorem dX4_bySteps_69 : decode cX4_bySteps 69 = .ok (.sipush 1010, 3) := by decide +kernel
theorem dX4_bySteps_72 : decode cX4_bySteps 72 = .ok (.if_icmp .ge 17, 3) := by decide +kernel
theorem dX4_bySteps_75 : decode cX4_bySteps 75 = .ok (.aload_n 0, 1) := by decide +kernel
theorem dX4_bySteps_76 : decode cX4_bySteps 76 = .ok (.getfield 24, 3) := by decide +kernel
theorem dX4_bySteps_79 : decode cX4_bySteps 79 = .ok (.iload 4, 2) := by decide +kernel
theorem dX4_bySteps_81 : decode cX4_bySteps 81 = .ok (.iconst (-1), 1) := by decide +kernel
theorem dX4_bySteps_82 : decode cX4_bySteps 82 = .ok (.iastore, 1) := by decide +kernel
theorem dX4_bySteps_83 : decode cX4_bySteps 83 = .ok (.iinc 4 1, 3) := by decide +kernel
theorem dX4_bySteps_86 : decode cX4_bySteps 86 = .ok (.goto (-19), 3) := by decide +kernel
theorem dX4_bySteps_89 : decode cX4_bySteps 89 = .ok (.bipush 101, 2) := by decide +kernel
theorem dX4_bySteps_91 : decode cX4_bySteps 91 = .ok (.istore 4, 2) := by decide +kernel
theorem dX4_bySteps_93 : decode cX4_bySteps 93 = .ok (.iload 4, 2) := by decide +kernel
theorem dX4_bySteps_95 : decode cX4_bySteps 95 = .ok (.sipush 1010, 3) := by decide +kernel
theorem dX4_bySteps_98 : decode cX4_bySteps 98 = .ok (.if_icmp .ge 101, 3) := by decide +kernel
theorem dX4_bySteps_101 : decode cX4_bySteps 101 = .ok (.iconst 1, 1) := by decide +kernel
theorem dX4_bySteps_102 : decode cX4_bySteps 102 = .ok (.istore 5, 2) := by decide +kernel
theorem dX4_bySteps_104 : decode cX4_bySteps 104 = .ok (.iload 5, 2) := by decide +kernel
theorem dX4_bySteps_106 : decode cX4_bySteps 106 = .ok (.iconst 3, 1) := by decide +kernel
theorem dX4_bySteps_107 : decode cX4_bySteps 107 = .ok (.if_icmp .gt 86, 3) := by decide +kernel
theorem dX4_bySteps_110 : decode cX4_bySteps 110 = .ok (.aload_n 0, 1) := by decide +kernel
theorem dX4_bySteps_111 : decode cX4_bySteps 111 = .ok (.getfield 21, 3) := by decide +kernel
theorem dX4_bySteps_114 : decode cX4_bySteps 114 = .ok (.iload 4, 2) := by decide +kernel
theorem dX4_bySteps_116 : decode cX4_bySteps 116 = .ok (.iaload, 1) := by decide +kernel
theorem dX4_bySteps_117 : decode cX4_bySteps 117 = .ok (.iconst (-1), 1) := by decide +kernel
theorem dX4_bySteps_118 : decode cX4_bySteps 118 = .ok (.if_icmp .eq 75, 3) := by decide +kernel
theorem dX4_bySteps_121 : decode cX4_bySteps 121 = .ok (.iload 4, 2) := by decide +kernel
theorem dX4_bySteps_123 : decode cX4_bySteps 123 = .ok (.bipush 101, 2) := by decide +kernel
theorem dX4_bySteps_125 : decode cX4_bySteps 125 = .ok (.idiv, 1) := by decide +kernel
theorem dX4_bySteps_126 : decode cX4_bySteps 126 = .ok (.iload 5, 2) := by decide +kernel
theorem dX4_bySteps_128 : decode cX4_bySteps 128 = .ok (.invokestatic 57, 3) := by decide +kernel
theorem dX4_bySteps_131 : decode cX4_bySteps 131 = .ok (.istore 6, 2) := by decide +kernel
theorem dX4_bySteps_133 : decode cX4_bySteps 133 = .ok (.bipush 101, 2) := by decide +kernel
theorem dX4_bySteps_135 : decode cX4_bySteps 135 = .ok (.iload 6, 2) := by decide +kernel
theorem dX4_bySteps_137 : decode cX4_bySteps 137 = .ok (.imul, 1) := by decide +kernel
theorem dX4_bySteps_138 : decode cX4_bySteps 138 = .ok (.iload 4, 2) := by decide +kernel
theorem dX4_bySteps_140 : decode cX4_bySteps 140 = .ok (.bipush 101, 2) := by decide +kernel
theorem dX4_bySteps_142 : decode cX4_bySteps 142 = .ok (.irem, 1) := by decide +kernel
theorem dX4_bySteps_143 : decode cX4_bySteps 143 = .ok (.iload 6, 2) := by decide +kernel
theorem dX4_bySteps_145 : decode cX4_bySteps 145 = .ok (.isub, 1) := by decide +kernel
theorem dX4_bySteps_146 : decode cX4_bySteps 146 = .ok (.iconst 0, 1) := by decide +kernel
theorem dX4_bySteps_147 : decode cX4_bySteps 147 = .ok (.invokestatic 50, 3) := by decide +kernel
theorem dX4_bySteps_150 : decode cX4_bySteps 150 = .ok (.iadd, 1) := by decide +kernel
theorem dX4_bySteps_151 : decode cX4_bySteps 151 = .ok (.istore 7, 2) := by decide +kernel
theorem dX4_bySteps_153 : decode cX4_bySteps 153 = .ok (.aload_n 0, 1) := by decide +kernel
theorem dX4_bySteps_154 : decode cX4_bySteps 154 = .ok (.getfield 24, 3) := by decide +kernel
theorem dX4_bySteps_157 : decode cX4_bySteps 157 = .ok (.iload 7, 2) := by decide +kernel
theorem dX4_bySteps_159 : decode cX4_bySteps 159 = .ok (.aload_n 0, 1) := by decide +kernel
theorem dX4_bySteps_160 : decode cX4_bySteps 160 = .ok (.getfield 21, 3) := by decide +kernel
theorem dX4_bySteps_163 : decode cX4_bySteps 163 = .ok (.iload 4, 2) := by decide +kernel
theorem dX4_bySteps_165 : decode cX4_bySteps 165 = .ok (.iaload, 1) := by decide +kernel
theorem dX4_bySteps_166 : decode cX4_bySteps 166 = .ok (.iload 5, 2) := by decide +kernel
theorem dX4_bySteps_168 : decode cX4_bySteps 168 = .ok (.iload 4, 2) := by decide +kernel
theorem dX4_bySteps_170 : decode cX4_bySteps 170 = .ok (.bipush 101, 2) := by decide +kernel
theorem dX4_bySteps_172 : decode cX4_bySteps 172 = .ok (.irem, 1) := by decide +kernel
theorem dX4_bySteps_173 : decode cX4_bySteps 173 = .ok (.invokestatic 178, 3) := by decide +kernel
theorem dX4_bySteps_176 : decode cX4_bySteps 176 = .ok (.aload_n 0, 1) := by decide +kernel
theorem dX4_bySteps_177 : decode cX4_bySteps 177 = .ok (.getfield 24, 3) := by decide +kernel
theorem dX4_bySteps_180 : decode cX4_bySteps 180 = .ok (.iload 7, 2) := by decide +kernel
theorem dX4_bySteps_182 : decode cX4_bySteps 182 = .ok (.iaload, 1) := by decide +kernel
theorem dX4_bySteps_183 : decode cX4_bySteps 183 = .ok (.invokestatic 50, 3) := by decide +kernel
theorem dX4_bySteps_186 : decode cX4_bySteps 186 = .ok (.iastore, 1) := by decide +kernel
theorem dX4_bySteps_187 : decode cX4_bySteps 187 = .ok (.iinc 5 1, 3) := by decide +kernel
theorem dX4_bySteps_190 : decode cX4_bySteps 190 = .ok (.goto (-86), 3) := by decide +kernel
theorem dX4_bySteps_193 : decode cX4_bySteps 193 = .ok (.iinc 4 1, 3) := by decide +kernel
theorem dX4_bySteps_196 : decode cX4_bySteps 196 = .ok (.goto (-103), 3) := by decide +kernel
theorem dX4_bySteps_199 : decode cX4_bySteps 199 = .ok (.iconst 0, 1) := by decide +kernel
theorem dX4_bySteps_200 : decode cX4_bySteps 200 = .ok (.istore 4, 2) := by decide +kernel
theorem dX4_bySteps_202 : decode cX4_bySteps 202 = .ok (.iload 4, 2) := by decide +kernel
theorem dX4_bySteps_204 : decode cX4_bySteps 204 = .ok (.sipush 1010, 3) := by decide +kernel
theorem dX4_bySteps_207 : decode cX4_bySteps 207 = .ok (.if_icmp .ge 23, 3) := by decide +kernel
theorem dX4_bySteps_210 : decode cX4_bySteps 210 = .ok (.aload_n 0, 1) := by decide +kernel
theorem dX4_bySteps_211 : decode cX4_bySteps 211 = .ok (.getfield 21, 3) := by decide +kernel
theorem dX4_bySteps_214 : decode cX4_bySteps 214 = .ok (.iload 4, 2) := by decide +kernel
theorem dX4_bySteps_216 : decode cX4_bySteps 216 = .ok (.aload_n 0, 1) := by decide +kernel
theorem dX4_bySteps_217 : decode cX4_bySteps 217 = .ok (.getfield 24, 3) := by decide +kernel
theorem dX4_bySteps_220 : decode cX4_bySteps 220 = .ok (.iload 4, 2) := by decide +kernel
theorem dX4_bySteps_222 : decode cX4_bySteps 222 = .ok (.iaload, 1) := by decide +kernel
theorem dX4_bySteps_223 : decode cX4_bySteps 223 = .ok (.iastore, 1) := by decide +kernel
theorem dX4_bySteps_224 : decode cX4_bySteps 224 = .ok (.iinc 4 1, 3) := by decide +kernel
theorem dX4_bySteps_227 : decode cX4_bySteps 227 = .ok (.goto (-25), 3) := by decide +kernel
theorem dX4_bySteps_230 : decode cX4_bySteps 230 = .ok (.iinc 3 1, 3) := by decide +kernel
theorem dX4_bySteps_233 : decode cX4_bySteps 233 = .ok (.goto (-174), 3) := by decide +kernel
theorem dX4_bySteps_236 : decode cX4_bySteps 236 = .ok (.iconst (-1), 1) := by decide +kernel
theorem dX4_bySteps_237 : decode cX4_bySteps 237 = .ok (.istore_n 3, 1) := by decide +kernel
theorem dX4_bySteps_238 : decode cX4_bySteps 238 = .ok (.iconst 0, 1) := by decide +kernel
theorem dX4_bySteps_239 : decode cX4_bySteps 239 = .ok (.istore 4, 2) := by decide +kernel
theorem dX4_bySteps_241 : decode cX4_bySteps 241 = .ok (.iload 4, 2) := by decide +kernel
theorem dX4_bySteps_243 : decode cX4_bySteps 243 = .ok (.sipush 1010, 3) := by decide +kernel
theorem dX4_bySteps_246 : decode cX4_bySteps 246 = .ok (.if_icmp .ge 21, 3) := by decide +kernel
theorem dX4_bySteps_249 : decode cX4_bySteps 249 = .ok (.aload_n 0, 1) := by decide +kernel
theorem dX4_bySteps_250 : decode cX4_bySteps 250 = .ok (.getfield 21, 3) := by decide +kernel
theorem dX4_bySteps_253 : decode cX4_bySteps 253 = .ok (.iload 4, 2) := by decide +kernel
theorem dX4_bySteps_255 : decode cX4_bySteps 255 = .ok (.iaload, 1) := by decide +kernel
theorem dX4_bySteps_256 : decode cX4_bySteps 256 = .ok (.iload_n 3, 1) := by decide +kernel
theorem dX4_bySteps_257 : decode cX4_bySteps 257 = .ok (.invokestatic 50, 3) := by decide +kernel
theorem dX4_bySteps_260 : decode cX4_bySteps 260 = .ok (.istore_n 3, 1) := by decide +kernel
theorem dX4_bySteps_261 : decode cX4_bySteps 261 = .ok (.iinc 4 1, 3) := by decide +kernel
theorem dX4_bySteps_264 : decode cX4_bySteps 264 = .ok (.goto (-23), 3) := by decide +kernel
theorem dX4_bySteps_267 : decode cX4_bySteps 267 = .ok (.iload_n 3, 1) := by decide +kernel
theorem dX4_bySteps_268 : decode cX4_bySteps 268 = .ok (.ireturn, 1) := by decide +kernel
set_option maxRecDepth 20000 in
theorem ggX4_byTrying_X4_at : GoodIn wsX4_byTrying wsX4_at := goodIn_r _ [5] (by decide +kernel) (by decide +kernel)
set_option maxRecDepth 20000 in
theorem gX4_byTrying_X4_at : GoodIn wsX4_byTrying (va_wsS RX4 42 yX4_at wsX4_at) := goodIn_app (goodIn_of _ (by decide +kernel)) ggX4_byTrying_X4_at
set_option maxRecDepth 20000 in
theorem ggX4_byTrying_X4_depthBy : GoodIn wsX4_byTrying wsX4_depthBy := goodIn_r _ [8] (by decide +kernel) (by decide +kernel)
set_option maxRecDepth 20000 in
theorem gX4_byTrying_X4_depthBy : GoodIn wsX4_byTrying (va_wsS RX4 57 yX4_depthBy wsX4_depthBy) := goodIn_app (goodIn_of _ (by decide +kernel)) ggX4_byTrying_X4_depthBy
set_option maxRecDepth 20000 in
theorem ggX4_byTrying_X4_copied : GoodIn wsX4_byTrying wsX4_copied := goodIn_r _ [11, 12, 13, 4, 14, 15, 16, 17] (by decide +kernel) (by decide +kernel)
set_option maxRecDepth 20000 in
theorem gX4_byTrying_X4_copied : GoodIn wsX4_byTrying (va_wsS RX4 178 yX4_copied wsX4_copied) := goodIn_app (goodIn_of _ (by decide +kernel)) ggX4_byTrying_X4_copied
set_option maxRecDepth 20000 in
theorem ggX4_byTrying_X4_atLeast : GoodIn wsX4_byTrying wsX4_atLeast := goodIn_r _ [17] (by decide +kernel) (by decide +kernel)
set_option maxRecDepth 20000 in
theorem gX4_byTrying_X4_atLeast : GoodIn wsX4_byTrying (va_wsS RX4 50 yX4_atLeast wsX4_atLeast) := goodIn_app (goodIn_of _ (by decide +kernel)) ggX4_byTrying_X4_atLeast
theorem dX4_byTrying_0 : decode cX4_byTrying 0 = .ok (.iconst 1, 1) := by decide +kernel
theorem dX4_byTrying_1 : decode cX4_byTrying 1 = .ok (.istore_n 3, 1) := by decide +kernel
theorem dX4_byTrying_2 : decode cX4_byTrying 2 = .ok (.iconst 0, 1) := by decide +kernel
theorem dX4_byTrying_3 : decode cX4_byTrying 3 = .ok (.istore 4, 2) := by decide +kernel
theorem dX4_byTrying_5 : decode cX4_byTrying 5 = .ok (.iload 4, 2) := by decide +kernel
theorem dX4_byTrying_7 : decode cX4_byTrying 7 = .ok (.iload_n 2, 1) := by decide +kernel
theorem dX4_byTrying_8 : decode cX4_byTrying 8 = .ok (.if_icmp .ge 13, 3) := by decide +kernel
theorem dX4_byTrying_11 : decode cX4_byTrying 11 = .ok (.iload_n 3, 1) := by decide +kernel
theorem dX4_byTrying_12 : decode cX4_byTrying 12 = .ok (.iconst 3, 1) := by decide +kernel
theorem dX4_byTrying_13 : decode cX4_byTrying 13 = .ok (.imul, 1) := by decide +kernel
theorem dX4_byTrying_14 : decode cX4_byTrying 14 = .ok (.istore_n 3, 1) := by decide +kernel
theorem dX4_byTrying_15 : decode cX4_byTrying 15 = .ok (.iinc 4 1, 3) := by decide +kernel
theorem dX4_byTrying_18 : decode cX4_byTrying 18 = .ok (.goto (-13), 3) := by decide +kernel
theorem dX4_byTrying_21 : decode cX4_byTrying 21 = .ok (.iconst (-1), 1) := by decide +kernel
theorem dX4_byTrying_22 : decode cX4_byTrying 22 = .ok (.istore 4, 2) := by decide +kernel
theorem dX4_byTrying_24 : decode cX4_byTrying 24 = .ok (.iconst 0, 1) := by decide +kernel
theorem dX4_byTrying_25 : decode cX4_byTrying 25 = .ok (.istore 5, 2) := by decide +kernel
theorem dX4_byTrying_27 : decode cX4_byTrying 27 = .ok (.iload 5, 2) := by decide +kernel
theorem dX4_byTrying_29 : decode cX4_byTrying 29 = .ok (.iload_n 3, 1) := by decide +kernel
theorem dX4_byTrying_30 : decode cX4_byTrying 30 = .ok (.if_icmp .ge 114, 3) := by decide +kernel
theorem dX4_byTrying_33 : decode cX4_byTrying 33 = .ok (.iload 5, 2) := by decide +kernel
theorem dX4_byTrying_35 : decode cX4_byTrying 35 = .ok (.istore 6, 2) := by decide +kernel
theorem dX4_byTrying_37 : decode cX4_byTrying 37 = .ok (.aload_n 0, 1) := by decide +kernel
theorem dX4_byTrying_38 : decode cX4_byTrying 38 = .ok (.getfield 7, 3) := by decide +kernel
theorem dX4_byTrying_41 : decode cX4_byTrying 41 = .ok (.iload_n 1, 1) := by decide +kernel
theorem dX4_byTrying_42 : decode cX4_byTrying 42 = .ok (.invokestatic 42, 3) := by decide +kernel
theorem dX4_byTrying_45 : decode cX4_byTrying 45 = .ok (.iaload, 1) := by decide +kernel
theorem dX4_byTrying_46 : decode cX4_byTrying 46 = .ok (.istore 7, 2) := by decide +kernel
theorem dX4_byTrying_48 : decode cX4_byTrying 48 = .ok (.aload_n 0, 1) := by decide +kernel
theorem dX4_byTrying_49 : decode cX4_byTrying 49 = .ok (.getfield 7, 3) := by decide +kernel
theorem dX4_byTrying_52 : decode cX4_byTrying 52 = .ok (.iconst 0, 1) := by decide +kernel
theorem dX4_byTrying_53 : decode cX4_byTrying 53 = .ok (.iaload, 1) := by decide +kernel
theorem dX4_byTrying_54 : decode cX4_byTrying 54 = .ok (.istore 8, 2) := by decide +kernel
theorem dX4_byTrying_56 : decode cX4_byTrying 56 = .ok (.aload_n 0, 1) := by decide +kernel
theorem dX4_byTrying_57 : decode cX4_byTrying 57 = .ok (.getfield 7, 3) := by decide +kernel
theorem dX4_byTrying_60 : decode cX4_byTrying 60 = .ok (.iload_n 1, 1) := by decide +kernel
theorem dX4_byTrying_61 : decode cX4_byTrying 61 = .ok (.invokestatic 42, 3) := by decide +kernel
theorem dX4_byTrying_64 : decode cX4_byTrying 64 = .ok (.iconst 1, 1) := by decide +kernel
theorem dX4_byTrying_65 : decode cX4_byTrying 65 = .ok (.iadd, 1) := by decide +kernel
theorem dX4_byTrying_66 : decode cX4_byTrying 66 = .ok (.iaload, 1) := by decide +kernel
theorem dX4_byTrying_67 : decode cX4_byTrying 67 = .ok (.istore 9, 2) := by decide +kernel
theorem dX4_byTrying_69 : decode cX4_byTrying 69 = .ok (.iconst 0, 1) := by decide +kernel
theorem dX4_byTrying_70 : decode cX4_byTrying 70 = .ok (.istore 10, 2) := by decide +kernel
theorem dX4_byTrying_72 : decode cX4_byTrying 72 = .ok (.iload 10, 2) := by decide +kernel
theorem dX4_byTrying_74 : decode cX4_byTrying 74 = .ok (.iload_n 2, 1) := by decide +kernel
theorem dX4_byTrying_75 : decode cX4_byTrying 75 = .ok (.if_icmp .ge 54, 3) := by decide +kernel
theorem dX4_byTrying_78 : decode cX4_byTrying 78 = .ok (.iconst 1, 1) := by decide +kernel
theorem dX4_byTrying_79 : decode cX4_byTrying 79 = .ok (.iload 6, 2) := by decide +kernel
theorem dX4_byTrying_81 : decode cX4_byTrying 81 = .ok (.iconst 3, 1) := by decide +kernel
theorem dX4_byTrying_82 : decode cX4_byTrying 82 = .ok (.irem, 1) := by decide +kernel
theorem dX4_byTrying_83 : decode cX4_byTrying 83 = .ok (.iadd, 1) := by decide +kernel
theorem dX4_byTrying_84 : decode cX4_byTrying 84 = .ok (.istore 11, 2) := by decide +kernel
theorem dX4_byTrying_86 : decode cX4_byTrying 86 = .ok (.iload 6, 2) := by decide +kernel
theorem dX4_byTrying_88 : decode cX4_byTrying 88 = .ok (.iconst 3, 1) := by decide +kernel
theorem dX4_byTrying_89 : decode cX4_byTrying 89 = .ok (.idiv, 1) := by decide +kernel
theorem dX4_byTrying_90 : decode cX4_byTrying 90 = .ok (.istore 6, 2) := by decide +kernel
theorem dX4_byTrying_92 : decode cX4_byTrying 92 = .ok (.iload 7, 2) := by decide +kernel
theorem dX4_byTrying_94 : decode cX4_byTrying 94 = .ok (.iload 11, 2) := by decide +kernel
theorem dX4_byTrying_96 : decode cX4_byTrying 96 = .ok (.invokestatic 57, 3) := by decide +kernel
theorem dX4_byTrying_99 : decode cX4_byTrying 99 = .ok (.istore 7, 2) := by decide +kernel
theorem dX4_byTrying_101 : decode cX4_byTrying 101 = .ok (.iload 9, 2) := by decide +kernel
theorem dX4_byTrying_103 : decode cX4_byTrying 103 = .ok (.iload 11, 2) := by decide +kernel
theorem dX4_byTrying_105 : decode cX4_byTrying 105 = .ok (.iload 8, 2) := by decide +kernel
theorem dX4_byTrying_107 : decode cX4_byTrying 107 = .ok (.invokestatic 178, 3) := by decide +kernel
theorem dX4_byTrying_110 : decode cX4_byTrying 110 = .ok (.istore 9, 2) := by decide +kernel
theorem dX4_byTrying_112 : decode cX4_byTrying 112 = .ok (.iload 8, 2) := by decide +kernel
theorem dX4_byTrying_114 : decode cX4_byTrying 114 = .ok (.iload 7, 2) := by decide +kernel
theorem dX4_byTrying_116 : decode cX4_byTrying 116 = .ok (.isub, 1) := by decide +kernel
theorem dX4_byTrying_117 : decode cX4_byTrying 117 = .ok (.iconst 0, 1) := by decide +kernel
theorem dX4_byTrying_118 : decode cX4_byTrying 118 = .ok (.invokestatic 50, 3) := by decide +kernel
theorem dX4_byTrying_121 : decode cX4_byTrying 121 = .ok (.istore 8, 2) := by decide +kernel
theorem dX4_byTrying_123 : decode cX4_byTrying 123 = .ok (.iinc 10 1, 3) := by decide +kernel
theorem dX4_byTrying_126 : decode cX4_byTrying 126 = .ok (.goto (-54), 3) := by decide +kernel
theorem dX4_byTrying_129 : decode cX4_byTrying 129 = .ok (.iload 9, 2) := by decide +kernel
theorem dX4_byTrying_131 : decode cX4_byTrying 131 = .ok (.iload 4, 2) := by decide +kernel
theorem dX4_byTrying_133 : decode cX4_byTrying 133 = .ok (.invokestatic 50, 3) := by decide +kernel
theorem dX4_byTrying_136 : decode cX4_byTrying 136 = .ok (.istore 4, 2) := by decide +kernel
theorem dX4_byTrying_138 : decode cX4_byTrying 138 = .ok (.iinc 5 1, 3) := by decide +kernel
theorem dX4_byTrying_141 : decode cX4_byTrying 141 = .ok (.goto (-114), 3) := by decide +kernel
theorem dX4_byTrying_144 : decode cX4_byTrying 144 = .ok (.iload 4, 2) := by decide +kernel
theorem dX4_byTrying_146 : decode cX4_byTrying 146 = .ok (.ireturn, 1) := by decide +kernel
set_option maxRecDepth 20000 in
theorem ggX4_chained_X4_isCut : GoodIn wsX4_chained wsX4_isCut := goodIn_r _ [5, 6, 7, 8, 4, 9, 32, 33, 34, 35, 36, 37, 38, 39, 40, 41, 42, 43] (by decide +kernel) (by decide +kernel)
set_option maxRecDepth 20000 in
theorem gX4_chained_X4_isCut : GoodIn wsX4_chained (wsV RX4 46 RX4 yX4_isCut wsX4_isCut) := goodIn_app (goodIn_of _ (by decide +kernel)) ggX4_chained_X4_isCut
set_option maxRecDepth 20000 in
theorem ggX4_chained_X4_bySteps : GoodIn wsX4_chained wsX4_bySteps := goodIn_r _ [13, 14, 6, 15, 7, 8, 4, 9, 16, 17, 18, 19, 20, 21, 22, 23, 24, 25, 26, 27, 32, 33, 34, 35, 36, 37, 38, 39, 40, 41, 42, 43] (by decide +kernel) (by decide +kernel)
set_option maxRecDepth 20000 in
theorem gX4_chained_X4_bySteps : GoodIn wsX4_chained (wsV RX4 181 RX4 yX4_bySteps wsX4_bySteps) := goodIn_app (goodIn_of _ (by decide +kernel)) ggX4_chained_X4_bySteps
set_option maxRecDepth 20000 in
theorem ggX4_chained_X4_byTrying : GoodIn wsX4_chained wsX4_byTrying := goodIn_r _ [31, 6, 7, 8, 4, 9, 16, 17, 18, 22, 23, 24, 25, 26, 27, 19, 20, 21, 32, 33, 34, 35, 36, 37, 38, 39, 40, 41, 42, 43] (by decide +kernel) (by decide +kernel)
set_option maxRecDepth 20000 in
theorem gX4_chained_X4_byTrying : GoodIn wsX4_chained (wsV RX4 184 RX4 yX4_byTrying wsX4_byTrying) := goodIn_app (goodIn_of _ (by decide +kernel)) ggX4_chained_X4_byTrying
theorem dX4_chained_0 : decode cX4_chained 0 = .ok (.aload_n 0, 1) := by decide +kernel
theorem dX4_chained_1 : decode cX4_chained 1 = .ok (.iload_n 1, 1) := by decide +kernel
theorem dX4_chained_2 : decode cX4_chained 2 = .ok (.invokevirtual 46, 3) := by decide +kernel
theorem dX4_chained_5 : decode cX4_chained 5 = .ok (.ifCond .ne 7, 3) := by decide +kernel
theorem dX4_chained_8 : decode cX4_chained 8 = .ok (.iconst (-1), 1) := by decide +kernel
theorem dX4_chained_9 : decode cX4_chained 9 = .ok (.goto 22, 3) := by decide +kernel
theorem dX4_chained_12 : decode cX4_chained 12 = .ok (.iload_n 3, 1) := by decide +kernel
theorem dX4_chained_13 : decode cX4_chained 13 = .ok (.ifCond .ne 12, 3) := by decide +kernel
theorem dX4_chained_16 : decode cX4_chained 16 = .ok (.aload_n 0, 1) := by decide +kernel
theorem dX4_chained_17 : decode cX4_chained 17 = .ok (.iload_n 1, 1) := by decide +kernel
theorem dX4_chained_18 : decode cX4_chained 18 = .ok (.iload_n 2, 1) := by decide +kernel
theorem dX4_chained_19 : decode cX4_chained 19 = .ok (.invokevirtual 181, 3) := by decide +kernel
theorem dX4_chained_22 : decode cX4_chained 22 = .ok (.goto 9, 3) := by decide +kernel
theorem dX4_chained_25 : decode cX4_chained 25 = .ok (.aload_n 0, 1) := by decide +kernel
theorem dX4_chained_26 : decode cX4_chained 26 = .ok (.iload_n 1, 1) := by decide +kernel
theorem dX4_chained_27 : decode cX4_chained 27 = .ok (.iload_n 2, 1) := by decide +kernel
theorem dX4_chained_28 : decode cX4_chained 28 = .ok (.invokevirtual 184, 3) := by decide +kernel
theorem dX4_chained_31 : decode cX4_chained 31 = .ok (.ireturn, 1) := by decide +kernel
set_option maxRecDepth 20000 in
theorem ggX4_chain_X4_isTrack : GoodIn wsX4_chain wsX4_isTrack := goodIn_r _ [4, 5, 6, 3, 7] (by decide +kernel) (by decide +kernel)
set_option maxRecDepth 20000 in
theorem gX4_chain_X4_isTrack : GoodIn wsX4_chain (va_wsS RX4 91 yX4_isTrack wsX4_isTrack) := goodIn_app (goodIn_of _ (by decide +kernel)) ggX4_chain_X4_isTrack
set_option maxRecDepth 20000 in
theorem ggX4_chain_X4_in : GoodIn wsX4_chain wsX4_in := goodIn_r _ [7] (by decide +kernel) (by decide +kernel)
set_option maxRecDepth 20000 in
theorem gX4_chain_X4_in : GoodIn wsX4_chain (va_wsS RX4 38 yX4_in wsX4_in) := goodIn_app (goodIn_of _ (by decide +kernel)) ggX4_chain_X4_in
set_option maxRecDepth 20000 in
theorem ggX4_chain_X4_goes : GoodIn wsX4_chain wsX4_goes := goodIn_r _ [11, 12, 47, 48, 49, 50, 51, 52, 53, 54, 55, 56, 57, 58] (by decide +kernel) (by decide +kernel)
set_option maxRecDepth 20000 in
theorem gX4_chain_X4_goes : GoodIn wsX4_chain (wsV RX4 94 RX4 yX4_goes wsX4_goes) := goodIn_app (goodIn_of _ (by decide +kernel)) ggX4_chain_X4_goes
set_option maxRecDepth 20000 in
theorem ggX4_chain_X4_chained : GoodIn wsX4_chain wsX4_chained := goodIn_r _ [16, 17, 18, 19, 3, 20, 21, 22, 23, 24, 25, 26, 27, 28, 29, 30, 31, 32, 33, 34, 35, 36, 37, 38, 39, 40, 41, 42, 43, 44, 45, 46, 47, 48, 49, 50, 51, 52, 53, 54, 55, 56, 57, 58] (by decide +kernel) (by decide +kernel)
set_option maxRecDepth 20000 in
theorem gX4_chain_X4_chained : GoodIn wsX4_chain (wsV RX4 187 RX4 yX4_chained wsX4_chained) := goodIn_app (goodIn_of _ (by decide +kernel)) ggX4_chain_X4_chained
theorem dX4_chain_0 : decode cX4_chain 0 = .ok (.aload_n 0, 1) := by decide +kernel
theorem dX4_chain_1 : decode cX4_chain 1 = .ok (.iload_n 1, 1) := by decide +kernel
theorem dX4_chain_2 : decode cX4_chain 2 = .ok (.invokestatic 91, 3) := by decide +kernel
theorem dX4_chain_5 : decode cX4_chain 5 = .ok (.iload_n 2, 1) := by decide +kernel
theorem dX4_chain_6 : decode cX4_chain 6 = .ok (.iconst 1, 1) := by decide +kernel
theorem dX4_chain_7 : decode cX4_chain 7 = .ok (.iconst 5, 1) := by decide +kernel
theorem dX4_chain_8 : decode cX4_chain 8 = .ok (.invokestatic 38, 3) := by decide +kernel
theorem dX4_chain_11 : decode cX4_chain 11 = .ok (.ifCond .eq 16, 3) := by decide +kernel
theorem dX4_chain_14 : decode cX4_chain 14 = .ok (.iload_n 3, 1) := by decide +kernel
theorem dX4_chain_15 : decode cX4_chain 15 = .ok (.iconst 0, 1) := by decide +kernel
theorem dX4_chain_16 : decode cX4_chain 16 = .ok (.iconst 1, 1) := by decide +kernel
theorem dX4_chain_17 : decode cX4_chain 17 = .ok (.invokestatic 38, 3) := by decide +kernel
theorem dX4_chain_20 : decode cX4_chain 20 = .ok (.ifCond .eq 7, 3) := by decide +kernel
theorem dX4_chain_23 : decode cX4_chain 23 = .ok (.iconst 1, 1) := by decide +kernel
theorem dX4_chain_24 : decode cX4_chain 24 = .ok (.goto 4, 3) := by decide +kernel
theorem dX4_chain_27 : decode cX4_chain 27 = .ok (.iconst 0, 1) := by decide +kernel
theorem dX4_chain_28 : decode cX4_chain 28 = .ok (.invokevirtual 94, 3) := by decide +kernel
theorem dX4_chain_31 : decode cX4_chain 31 = .ok (.ifCond .eq 13, 3) := by decide +kernel
theorem dX4_chain_34 : decode cX4_chain 34 = .ok (.aload_n 0, 1) := by decide +kernel
theorem dX4_chain_35 : decode cX4_chain 35 = .ok (.iload_n 1, 1) := by decide +kernel
theorem dX4_chain_36 : decode cX4_chain 36 = .ok (.iload_n 2, 1) := by decide +kernel
theorem dX4_chain_37 : decode cX4_chain 37 = .ok (.iload_n 3, 1) := by decide +kernel
theorem dX4_chain_38 : decode cX4_chain 38 = .ok (.invokevirtual 187, 3) := by decide +kernel
theorem dX4_chain_41 : decode cX4_chain 41 = .ok (.goto 4, 3) := by decide +kernel
theorem dX4_chain_44 : decode cX4_chain 44 = .ok (.iconst 0, 1) := by decide +kernel
theorem dX4_chain_45 : decode cX4_chain 45 = .ok (.ireturn, 1) := by decide +kernel
set_option maxRecDepth 20000 in
theorem ggX4_clearestTrack_X4_at : GoodIn wsX4_clearestTrack wsX4_at := goodIn_r _ [5] (by decide +kernel) (by decide +kernel)
set_option maxRecDepth 20000 in
theorem gX4_clearestTrack_X4_at : GoodIn wsX4_clearestTrack (va_wsS RX4 42 yX4_at wsX4_at) := goodIn_app (goodIn_of _ (by decide +kernel)) ggX4_clearestTrack_X4_at
set_option maxRecDepth 20000 in
theorem ggX4_clearestTrack_X4_isCut : GoodIn wsX4_clearestTrack wsX4_isCut := goodIn_r _ [9, 1, 2, 3, 4, 5, 10, 11, 12, 13, 14, 15, 16, 17, 18, 19, 20, 21] (by decide +kernel) (by decide +kernel)
set_option maxRecDepth 20000 in
theorem gX4_clearestTrack_X4_isCut : GoodIn wsX4_clearestTrack (wsV RX4 46 RX4 yX4_isCut wsX4_isCut) := goodIn_app (goodIn_of _ (by decide +kernel)) ggX4_clearestTrack_X4_isCut
theorem dX4_clearestTrack_0 : decode cX4_clearestTrack 0 = .ok (.iconst (-1), 1) := by decide +kernel
theorem dX4_clearestTrack_1 : decode cX4_clearestTrack 1 = .ok (.istore_n 1, 1) := by decide +kernel
theorem dX4_clearestTrack_2 : decode cX4_clearestTrack 2 = .ok (.iconst 0, 1) := by decide +kernel
theorem dX4_clearestTrack_3 : decode cX4_clearestTrack 3 = .ok (.istore_n 2, 1) := by decide +kernel
theorem dX4_clearestTrack_4 : decode cX4_clearestTrack 4 = .ok (.iload_n 2, 1) := by decide +kernel
theorem dX4_clearestTrack_5 : decode cX4_clearestTrack 5 = .ok (.bipush 24, 2) := by decide +kernel
theorem dX4_clearestTrack_7 : decode cX4_clearestTrack 7 = .ok (.if_icmp .ge 111, 3) := by decide +kernel
theorem dX4_clearestTrack_10 : decode cX4_clearestTrack 10 = .ok (.iload_n 2, 1) := by decide +kernel
theorem dX4_clearestTrack_11 : decode cX4_clearestTrack 11 = .ok (.invokestatic 42, 3) := by decide +kernel
theorem dX4_clearestTrack_14 : decode cX4_clearestTrack 14 = .ok (.istore_n 3, 1) := by decide +kernel
theorem dX4_clearestTrack_15 : decode cX4_clearestTrack 15 = .ok (.aload_n 0, 1) := by decide +kernel
theorem dX4_clearestTrack_16 : decode cX4_clearestTrack 16 = .ok (.iload_n 2, 1) := by decide +kernel
theorem dX4_clearestTrack_17 : decode cX4_clearestTrack 17 = .ok (.invokevirtual 46, 3) := by decide +kernel
theorem dX4_clearestTrack_20 : decode cX4_clearestTrack 20 = .ok (.ifCond .eq 78, 3) := by decide +kernel
theorem dX4_clearestTrack_23 : decode cX4_clearestTrack 23 = .ok (.iload_n 1, 1) := by decide +kernel
theorem dX4_clearestTrack_24 : decode cX4_clearestTrack 24 = .ok (.iconst (-1), 1) := by decide +kernel
theorem dX4_clearestTrack_25 : decode cX4_clearestTrack 25 = .ok (.if_icmp .eq 69, 3) := by decide +kernel
theorem dX4_clearestTrack_28 : decode cX4_clearestTrack 28 = .ok (.aload_n 0, 1) := by decide +kernel
theorem dX4_clearestTrack_29 : decode cX4_clearestTrack 29 = .ok (.getfield 7, 3) := by decide +kernel
theorem dX4_clearestTrack_32 : decode cX4_clearestTrack 32 = .ok (.iload_n 3, 1) := by decide +kernel
theorem dX4_clearestTrack_33 : decode cX4_clearestTrack 33 = .ok (.iconst 1, 1) := by decide +kernel
theorem dX4_clearestTrack_34 : decode cX4_clearestTrack 34 = .ok (.iadd, 1) := by decide +kernel
theorem dX4_clearestTrack_35 : decode cX4_clearestTrack 35 = .ok (.iaload, 1) := by decide +kernel
theorem dX4_clearestTrack_36 : decode cX4_clearestTrack 36 = .ok (.aload_n 0, 1) := by decide +kernel
theorem dX4_clearestTrack_37 : decode cX4_clearestTrack 37 = .ok (.getfield 7, 3) := by decide +kernel
theorem dX4_clearestTrack_40 : decode cX4_clearestTrack 40 = .ok (.iload_n 1, 1) := by decide +kernel
theorem dX4_clearestTrack_41 : decode cX4_clearestTrack 41 = .ok (.invokestatic 42, 3) := by decide +kernel
theorem dX4_clearestTrack_44 : decode cX4_clearestTrack 44 = .ok (.iconst 1, 1) := by decide +kernel
theorem dX4_clearestTrack_45 : decode cX4_clearestTrack 45 = .ok (.iadd, 1) := by decide +kernel
theorem dX4_clearestTrack_46 : decode cX4_clearestTrack 46 = .ok (.iaload, 1) := by decide +kernel
theorem dX4_clearestTrack_47 : decode cX4_clearestTrack 47 = .ok (.if_icmp .gt 47, 3) := by decide +kernel
theorem dX4_clearestTrack_50 : decode cX4_clearestTrack 50 = .ok (.aload_n 0, 1) := by decide +kernel
theorem dX4_clearestTrack_51 : decode cX4_clearestTrack 51 = .ok (.getfield 7, 3) := by decide +kernel
theorem dX4_clearestTrack_54 : decode cX4_clearestTrack 54 = .ok (.iload_n 3, 1) := by decide +kernel
theorem dX4_clearestTrack_55 : decode cX4_clearestTrack 55 = .ok (.iconst 1, 1) := by decide +kernel
theorem dX4_clearestTrack_56 : decode cX4_clearestTrack 56 = .ok (.iadd, 1) := by decide +kernel
theorem dX4_clearestTrack_57 : decode cX4_clearestTrack 57 = .ok (.iaload, 1) := by decide +kernel
theorem dX4_clearestTrack_58 : decode cX4_clearestTrack 58 = .ok (.aload_n 0, 1) := by decide +kernel
theorem dX4_clearestTrack_59 : decode cX4_clearestTrack 59 = .ok (.getfield 7, 3) := by decide +kernel
theorem dX4_clearestTrack_62 : decode cX4_clearestTrack 62 = .ok (.iload_n 1, 1) := by decide +kernel
theorem dX4_clearestTrack_63 : decode cX4_clearestTrack 63 = .ok (.invokestatic 42, 3) := by decide +kernel
theorem dX4_clearestTrack_66 : decode cX4_clearestTrack 66 = .ok (.iconst 1, 1) := by decide +kernel
theorem dX4_clearestTrack_67 : decode cX4_clearestTrack 67 = .ok (.iadd, 1) := by decide +kernel
theorem dX4_clearestTrack_68 : decode cX4_clearestTrack 68 = .ok (.iaload, 1) := by decide +kernel
theorem dX4_clearestTrack_69 : decode cX4_clearestTrack 69 = .ok (.if_icmp .ne 29, 3) := by decide +kernel
theorem dX4_clearestTrack_72 : decode cX4_clearestTrack 72 = .ok (.aload_n 0, 1) := by decide +kernel
theorem dX4_clearestTrack_73 : decode cX4_clearestTrack 73 = .ok (.getfield 7, 3) := by decide +kernel
theorem dX4_clearestTrack_76 : decode cX4_clearestTrack 76 = .ok (.iload_n 3, 1) := by decide +kernel
theorem dX4_clearestTrack_77 : decode cX4_clearestTrack 77 = .ok (.iconst 2, 1) := by decide +kernel
theorem dX4_clearestTrack_78 : decode cX4_clearestTrack 78 = .ok (.iadd, 1) := by decide +kernel
theorem dX4_clearestTrack_79 : decode cX4_clearestTrack 79 = .ok (.iaload, 1) := by decide +kernel
theorem dX4_clearestTrack_80 : decode cX4_clearestTrack 80 = .ok (.aload_n 0, 1) := by decide +kernel
theorem dX4_clearestTrack_81 : decode cX4_clearestTrack 81 = .ok (.getfield 7, 3) := by decide +kernel
theorem dX4_clearestTrack_84 : decode cX4_clearestTrack 84 = .ok (.iload_n 1, 1) := by decide +kernel
theorem dX4_clearestTrack_85 : decode cX4_clearestTrack 85 = .ok (.invokestatic 42, 3) := by decide +kernel
theorem dX4_clearestTrack_88 : decode cX4_clearestTrack 88 = .ok (.iconst 2, 1) := by decide +kernel
theorem dX4_clearestTrack_89 : decode cX4_clearestTrack 89 = .ok (.iadd, 1) := by decide +kernel
theorem dX4_clearestTrack_90 : decode cX4_clearestTrack 90 = .ok (.iaload, 1) := by decide +kernel
theorem dX4_clearestTrack_91 : decode cX4_clearestTrack 91 = .ok (.if_icmp .ge 7, 3) := by decide +kernel
theorem dX4_clearestTrack_94 : decode cX4_clearestTrack 94 = .ok (.iconst 1, 1) := by decide +kernel
theorem dX4_clearestTrack_95 : decode cX4_clearestTrack 95 = .ok (.goto 4, 3) := by decide +kernel
theorem dX4_clearestTrack_98 : decode cX4_clearestTrack 98 = .ok (.iconst 0, 1) := by decide +kernel
theorem dX4_clearestTrack_99 : decode cX4_clearestTrack 99 = .ok (.istore 4, 2) := by decide +kernel
theorem dX4_clearestTrack_101 : decode cX4_clearestTrack 101 = .ok (.iload 4, 2) := by decide +kernel
theorem dX4_clearestTrack_103 : decode cX4_clearestTrack 103 = .ok (.ifCond .eq 7, 3) := by decide +kernel
theorem dX4_clearestTrack_106 : decode cX4_clearestTrack 106 = .ok (.iload_n 2, 1) := by decide +kernel
theorem dX4_clearestTrack_107 : decode cX4_clearestTrack 107 = .ok (.goto 4, 3) := by decide +kernel
theorem dX4_clearestTrack_110 : decode cX4_clearestTrack 110 = .ok (.iload_n 1, 1) := by decide +kernel
theorem dX4_clearestTrack_111 : decode cX4_clearestTrack 111 = .ok (.istore_n 1, 1) := by decide +kernel
theorem dX4_clearestTrack_112 : decode cX4_clearestTrack 112 = .ok (.iinc 2 1, 3) := by decide +kernel
theorem dX4_clearestTrack_115 : decode cX4_clearestTrack 115 = .ok (.goto (-111), 3) := by decide +kernel
theorem dX4_clearestTrack_118 : decode cX4_clearestTrack 118 = .ok (.iload_n 1, 1) := by decide +kernel
theorem dX4_clearestTrack_119 : decode cX4_clearestTrack 119 = .ok (.ireturn, 1) := by decide +kernel
set_option maxRecDepth 20000 in
theorem ggX4_clearest_X4_clearestTrack : GoodIn wsX4_clearest wsX4_clearestTrack := goodIn_r _ [6, 7, 8, 9, 5, 10, 11, 12, 13, 14, 15, 16, 17, 18, 19, 20, 21, 22, 23, 24, 25, 26] (by decide +kernel) (by decide +kernel)
set_option maxRecDepth 20000 in
theorem gX4_clearest_X4_clearestTrack : GoodIn wsX4_clearest (wsV RX4 190 RX4 yX4_clearestTrack wsX4_clearestTrack) := goodIn_app (goodIn_of _ (by decide +kernel)) ggX4_clearest_X4_clearestTrack
theorem dX4_clearest_0 : decode cX4_clearest 0 = .ok (.aload_n 0, 1) := by decide +kernel
theorem dX4_clearest_1 : decode cX4_clearest 1 = .ok (.iconst 0, 1) := by decide +kernel
theorem dX4_clearest_2 : decode cX4_clearest 2 = .ok (.putfield 27, 3) := by decide +kernel
theorem dX4_clearest_5 : decode cX4_clearest 5 = .ok (.aload_n 0, 1) := by decide +kernel
theorem dX4_clearest_6 : decode cX4_clearest 6 = .ok (.invokevirtual 190, 3) := by decide +kernel
theorem dX4_clearest_9 : decode cX4_clearest 9 = .ok (.ireturn, 1) := by decide +kernel
set_option maxRecDepth 20000 in
theorem ggX4_comes_X4_isCut : GoodIn wsX4_comes wsX4_isCut := goodIn_r _ [6, 1, 7, 8, 5, 9, 10, 11, 12, 13, 14, 15, 16, 17, 18, 19, 20, 21] (by decide +kernel) (by decide +kernel)
set_option maxRecDepth 20000 in
theorem gX4_comes_X4_isCut : GoodIn wsX4_comes (wsV RX4 46 RX4 yX4_isCut wsX4_isCut) := goodIn_app (goodIn_of _ (by decide +kernel)) ggX4_comes_X4_isCut
set_option maxRecDepth 20000 in
theorem ggX4_comes_X4_at : GoodIn wsX4_comes wsX4_at := goodIn_r _ [9] (by decide +kernel) (by decide +kernel)
set_option maxRecDepth 20000 in
theorem gX4_comes_X4_at : GoodIn wsX4_comes (va_wsS RX4 42 yX4_at wsX4_at) := goodIn_app (goodIn_of _ (by decide +kernel)) ggX4_comes_X4_at
theorem dX4_comes_0 : decode cX4_comes 0 = .ok (.iload_n 1, 1) := by decide +kernel
theorem dX4_comes_1 : decode cX4_comes 1 = .ok (.istore_n 3, 1) := by decide +kernel
theorem dX4_comes_2 : decode cX4_comes 2 = .ok (.iconst 0, 1) := by decide +kernel
theorem dX4_comes_3 : decode cX4_comes 3 = .ok (.istore 4, 2) := by decide +kernel
theorem dX4_comes_5 : decode cX4_comes 5 = .ok (.iload 4, 2) := by decide +kernel
theorem dX4_comes_7 : decode cX4_comes 7 = .ok (.bipush 24, 2) := by decide +kernel
theorem dX4_comes_9 : decode cX4_comes 9 = .ok (.if_icmp .ge 45, 3) := by decide +kernel
theorem dX4_comes_12 : decode cX4_comes 12 = .ok (.iload_n 3, 1) := by decide +kernel
theorem dX4_comes_13 : decode cX4_comes 13 = .ok (.iconst (-1), 1) := by decide +kernel
theorem dX4_comes_14 : decode cX4_comes 14 = .ok (.if_icmp .eq 40, 3) := by decide +kernel
theorem dX4_comes_17 : decode cX4_comes 17 = .ok (.aload_n 0, 1) := by decide +kernel
theorem dX4_comes_18 : decode cX4_comes 18 = .ok (.iload_n 3, 1) := by decide +kernel
theorem dX4_comes_19 : decode cX4_comes 19 = .ok (.invokevirtual 46, 3) := by decide +kernel
theorem dX4_comes_22 : decode cX4_comes 22 = .ok (.ifCond .eq 17, 3) := by decide +kernel
theorem dX4_comes_25 : decode cX4_comes 25 = .ok (.aload_n 0, 1) := by decide +kernel
theorem dX4_comes_26 : decode cX4_comes 26 = .ok (.getfield 7, 3) := by decide +kernel
theorem dX4_comes_29 : decode cX4_comes 29 = .ok (.iload_n 3, 1) := by decide +kernel
theorem dX4_comes_30 : decode cX4_comes 30 = .ok (.invokestatic 42, 3) := by decide +kernel
theorem dX4_comes_33 : decode cX4_comes 33 = .ok (.iconst 4, 1) := by decide +kernel
theorem dX4_comes_34 : decode cX4_comes 34 = .ok (.iadd, 1) := by decide +kernel
theorem dX4_comes_35 : decode cX4_comes 35 = .ok (.iaload, 1) := by decide +kernel
theorem dX4_comes_36 : decode cX4_comes 36 = .ok (.goto 4, 3) := by decide +kernel
theorem dX4_comes_39 : decode cX4_comes 39 = .ok (.iconst (-1), 1) := by decide +kernel
theorem dX4_comes_40 : decode cX4_comes 40 = .ok (.istore_n 3, 1) := by decide +kernel
theorem dX4_comes_41 : decode cX4_comes 41 = .ok (.iload_n 3, 1) := by decide +kernel
theorem dX4_comes_42 : decode cX4_comes 42 = .ok (.iload_n 2, 1) := by decide +kernel
theorem dX4_comes_43 : decode cX4_comes 43 = .ok (.if_icmp .ne 5, 3) := by decide +kernel
theorem dX4_comes_46 : decode cX4_comes 46 = .ok (.iconst 1, 1) := by decide +kernel
theorem dX4_comes_47 : decode cX4_comes 47 = .ok (.ireturn, 1) := by decide +kernel
theorem dX4_comes_48 : decode cX4_comes 48 = .ok (.iinc 4 1, 3) := by decide +kernel
theorem dX4_comes_51 : decode cX4_comes 51 = .ok (.goto (-46), 3) := by decide +kernel
theorem dX4_comes_54 : decode cX4_comes 54 = .ok (.iconst 0, 1) := by decide +kernel
theorem dX4_comes_55 : decode cX4_comes 55 = .ok (.ireturn, 1) := by decide +kernel
set_option maxRecDepth 20000 in
theorem ggX4_manyDaughters_X4_comes : GoodIn wsX4_manyDaughters wsX4_comes := goodIn_r _ [5, 6, 7, 8, 9, 4, 10, 11, 12, 13, 14, 15, 16, 17, 18, 19, 20, 21, 22, 23, 24, 25] (by decide +kernel) (by decide +kernel)
set_option maxRecDepth 20000 in
theorem gX4_manyDaughters_X4_comes : GoodIn wsX4_manyDaughters (wsV RX4 193 RX4 yX4_comes wsX4_comes) := goodIn_app (goodIn_of _ (by decide +kernel)) ggX4_manyDaughters_X4_comes
theorem dX4_manyDaughters_0 : decode cX4_manyDaughters 0 = .ok (.iconst 0, 1) := by decide +kernel
theorem dX4_manyDaughters_1 : decode cX4_manyDaughters 1 = .ok (.istore_n 2, 1) := by decide +kernel
theorem dX4_manyDaughters_2 : decode cX4_manyDaughters 2 = .ok (.iconst 0, 1) := by decide +kernel
theorem dX4_manyDaughters_3 : decode cX4_manyDaughters 3 = .ok (.istore_n 3, 1) := by decide +kernel
theorem dX4_manyDaughters_4 : decode cX4_manyDaughters 4 = .ok (.iload_n 3, 1) := by decide +kernel
theorem dX4_manyDaughters_5 : decode cX4_manyDaughters 5 = .ok (.bipush 24, 2) := by decide +kernel
theorem dX4_manyDaughters_7 : decode cX4_manyDaughters 7 = .ok (.if_icmp .ge 31, 3) := by decide +kernel
theorem dX4_manyDaughters_10 : decode cX4_manyDaughters 10 = .ok (.iload_n 2, 1) := by decide +kernel
theorem dX4_manyDaughters_11 : decode cX4_manyDaughters 11 = .ok (.iload_n 3, 1) := by decide +kernel
theorem dX4_manyDaughters_12 : decode cX4_manyDaughters 12 = .ok (.iload_n 1, 1) := by decide +kernel
theorem dX4_manyDaughters_13 : decode cX4_manyDaughters 13 = .ok (.if_icmp .eq 16, 3) := by decide +kernel
theorem dX4_manyDaughters_16 : decode cX4_manyDaughters 16 = .ok (.aload_n 0, 1) := by decide +kernel
theorem dX4_manyDaughters_17 : decode cX4_manyDaughters 17 = .ok (.iload_n 3, 1) := by decide +kernel
theorem dX4_manyDaughters_18 : decode cX4_manyDaughters 18 = .ok (.iload_n 1, 1) := by decide +kernel
theorem dX4_manyDaughters_19 : decode cX4_manyDaughters 19 = .ok (.invokevirtual 193, 3) := by decide +kernel
theorem dX4_manyDaughters_22 : decode cX4_manyDaughters 22 = .ok (.ifCond .eq 7, 3) := by decide +kernel
theorem dX4_manyDaughters_25 : decode cX4_manyDaughters 25 = .ok (.iconst 1, 1) := by decide +kernel
theorem dX4_manyDaughters_26 : decode cX4_manyDaughters 26 = .ok (.goto 4, 3) := by decide +kernel
theorem dX4_manyDaughters_29 : decode cX4_manyDaughters 29 = .ok (.iconst 0, 1) := by decide +kernel
theorem dX4_manyDaughters_30 : decode cX4_manyDaughters 30 = .ok (.iadd, 1) := by decide +kernel
theorem dX4_manyDaughters_31 : decode cX4_manyDaughters 31 = .ok (.istore_n 2, 1) := by decide +kernel
theorem dX4_manyDaughters_32 : decode cX4_manyDaughters 32 = .ok (.iinc 3 1, 3) := by decide +kernel
theorem dX4_manyDaughters_35 : decode cX4_manyDaughters 35 = .ok (.goto (-31), 3) := by decide +kernel
theorem dX4_manyDaughters_38 : decode cX4_manyDaughters 38 = .ok (.iload_n 2, 1) := by decide +kernel
theorem dX4_manyDaughters_39 : decode cX4_manyDaughters 39 = .ok (.ireturn, 1) := by decide +kernel
set_option maxRecDepth 20000 in
theorem ggX4_daughters_X4_isTrack : GoodIn wsX4_daughters wsX4_isTrack := goodIn_r _ [4, 5, 6, 3, 7] (by decide +kernel) (by decide +kernel)
set_option maxRecDepth 20000 in
theorem gX4_daughters_X4_isTrack : GoodIn wsX4_daughters (va_wsS RX4 91 yX4_isTrack wsX4_isTrack) := goodIn_app (goodIn_of _ (by decide +kernel)) ggX4_daughters_X4_isTrack
set_option maxRecDepth 20000 in
theorem ggX4_daughters_X4_goes : GoodIn wsX4_daughters wsX4_goes := goodIn_r _ [11, 12, 29, 30, 31, 32, 33, 34, 35, 36, 37, 38, 39, 40] (by decide +kernel) (by decide +kernel)
set_option maxRecDepth 20000 in
theorem gX4_daughters_X4_goes : GoodIn wsX4_daughters (wsV RX4 94 RX4 yX4_goes wsX4_goes) := goodIn_app (goodIn_of _ (by decide +kernel)) ggX4_daughters_X4_goes
set_option maxRecDepth 20000 in
theorem ggX4_daughters_X4_manyDaughters : GoodIn wsX4_daughters wsX4_manyDaughters := goodIn_r _ [16, 17, 18, 19, 3, 20, 21, 22, 23, 24, 25, 26, 27, 28, 29, 30, 31, 32, 33, 34, 35, 36, 37, 38, 39, 40] (by decide +kernel) (by decide +kernel)
set_option maxRecDepth 20000 in
theorem gX4_daughters_X4_manyDaughters : GoodIn wsX4_daughters (wsV RX4 197 RX4 yX4_manyDaughters wsX4_manyDaughters) := goodIn_app (goodIn_of _ (by decide +kernel)) ggX4_daughters_X4_manyDaughters
theorem dX4_daughters_0 : decode cX4_daughters 0 = .ok (.aload_n 0, 1) := by decide +kernel
theorem dX4_daughters_1 : decode cX4_daughters 1 = .ok (.iload_n 1, 1) := by decide +kernel
theorem dX4_daughters_2 : decode cX4_daughters 2 = .ok (.invokestatic 91, 3) := by decide +kernel
theorem dX4_daughters_5 : decode cX4_daughters 5 = .ok (.iconst 1, 1) := by decide +kernel
theorem dX4_daughters_6 : decode cX4_daughters 6 = .ok (.invokevirtual 94, 3) := by decide +kernel
theorem dX4_daughters_9 : decode cX4_daughters 9 = .ok (.ifCond .eq 11, 3) := by decide +kernel
theorem dX4_daughters_12 : decode cX4_daughters 12 = .ok (.aload_n 0, 1) := by decide +kernel
theorem dX4_daughters_13 : decode cX4_daughters 13 = .ok (.iload_n 1, 1) := by decide +kernel
theorem dX4_daughters_14 : decode cX4_daughters 14 = .ok (.invokevirtual 197, 3) := by decide +kernel
theorem dX4_daughters_17 : decode cX4_daughters 17 = .ok (.goto 4, 3) := by decide +kernel
theorem dX4_daughters_20 : decode cX4_daughters 20 = .ok (.iconst 0, 1) := by decide +kernel
theorem dX4_daughters_21 : decode cX4_daughters 21 = .ok (.ireturn, 1) := by decide +kernel
set_option maxRecDepth 20000 in
theorem ggX4_sum_X4_isCut : GoodIn wsX4_sum wsX4_isCut := goodIn_r _ [6, 1, 7, 8, 5, 9, 10, 11, 12, 13, 14, 15, 16, 17, 18, 19, 20, 21] (by decide +kernel) (by decide +kernel)
set_option maxRecDepth 20000 in
theorem gX4_sum_X4_isCut : GoodIn wsX4_sum (wsV RX4 46 RX4 yX4_isCut wsX4_isCut) := goodIn_app (goodIn_of _ (by decide +kernel)) ggX4_sum_X4_isCut
set_option maxRecDepth 20000 in
theorem ggX4_sum_X4_at : GoodIn wsX4_sum wsX4_at := goodIn_r _ [9] (by decide +kernel) (by decide +kernel)
set_option maxRecDepth 20000 in
theorem gX4_sum_X4_at : GoodIn wsX4_sum (va_wsS RX4 42 yX4_at wsX4_at) := goodIn_app (goodIn_of _ (by decide +kernel)) ggX4_sum_X4_at
theorem dX4_sum_0 : decode cX4_sum 0 = .ok (.iconst 0, 1) := by decide +kernel
theorem dX4_sum_1 : decode cX4_sum 1 = .ok (.istore_n 2, 1) := by decide +kernel
theorem dX4_sum_2 : decode cX4_sum 2 = .ok (.iconst 0, 1) := by decide +kernel
theorem dX4_sum_3 : decode cX4_sum 3 = .ok (.istore_n 3, 1) := by decide +kernel
theorem dX4_sum_4 : decode cX4_sum 4 = .ok (.iload_n 3, 1) := by decide +kernel
theorem dX4_sum_5 : decode cX4_sum 5 = .ok (.bipush 24, 2) := by decide +kernel
theorem dX4_sum_7 : decode cX4_sum 7 = .ok (.if_icmp .ge 35, 3) := by decide +kernel
theorem dX4_sum_10 : decode cX4_sum 10 = .ok (.iload_n 2, 1) := by decide +kernel
theorem dX4_sum_11 : decode cX4_sum 11 = .ok (.aload_n 0, 1) := by decide +kernel
theorem dX4_sum_12 : decode cX4_sum 12 = .ok (.iload_n 3, 1) := by decide +kernel
theorem dX4_sum_13 : decode cX4_sum 13 = .ok (.invokevirtual 46, 3) := by decide +kernel
theorem dX4_sum_16 : decode cX4_sum 16 = .ok (.ifCond .eq 17, 3) := by decide +kernel
theorem dX4_sum_19 : decode cX4_sum 19 = .ok (.aload_n 0, 1) := by decide +kernel
theorem dX4_sum_20 : decode cX4_sum 20 = .ok (.getfield 7, 3) := by decide +kernel
theorem dX4_sum_23 : decode cX4_sum 23 = .ok (.iload_n 3, 1) := by decide +kernel
theorem dX4_sum_24 : decode cX4_sum 24 = .ok (.invokestatic 42, 3) := by decide +kernel
theorem dX4_sum_27 : decode cX4_sum 27 = .ok (.iload_n 1, 1) := by decide +kernel
theorem dX4_sum_28 : decode cX4_sum 28 = .ok (.iadd, 1) := by decide +kernel
theorem dX4_sum_29 : decode cX4_sum 29 = .ok (.iaload, 1) := by decide +kernel
theorem dX4_sum_30 : decode cX4_sum 30 = .ok (.goto 4, 3) := by decide +kernel
theorem dX4_sum_33 : decode cX4_sum 33 = .ok (.iconst 0, 1) := by decide +kernel
theorem dX4_sum_34 : decode cX4_sum 34 = .ok (.iadd, 1) := by decide +kernel
theorem dX4_sum_35 : decode cX4_sum 35 = .ok (.istore_n 2, 1) := by decide +kernel
theorem dX4_sum_36 : decode cX4_sum 36 = .ok (.iinc 3 1, 3) := by decide +kernel
theorem dX4_sum_39 : decode cX4_sum 39 = .ok (.goto (-35), 3) := by decide +kernel
theorem dX4_sum_42 : decode cX4_sum 42 = .ok (.iload_n 2, 1) := by decide +kernel
theorem dX4_sum_43 : decode cX4_sum 43 = .ok (.ireturn, 1) := by decide +kernel
set_option maxRecDepth 20000 in
theorem ggX4_meanDepth_X4_cuts : GoodIn wsX4_meanDepth wsX4_cuts := goodIn_r _ [6, 7, 8, 9, 5, 10, 11, 12, 13, 14, 19, 20, 21, 22, 23, 24, 25, 26, 27, 28, 29, 30] (by decide +kernel) (by decide +kernel)
set_option maxRecDepth 20000 in
theorem gX4_meanDepth_X4_cuts : GoodIn wsX4_meanDepth (wsV RX4 155 RX4 yX4_cuts wsX4_cuts) := goodIn_app (goodIn_of _ (by decide +kernel)) ggX4_meanDepth_X4_cuts
set_option maxRecDepth 20000 in
theorem ggX4_meanDepth_X4_sum : GoodIn wsX4_meanDepth wsX4_sum := goodIn_r _ [18, 11, 7, 8, 9, 5, 10, 12, 13, 14, 19, 20, 21, 22, 23, 24, 25, 26, 27, 28, 29, 30] (by decide +kernel) (by decide +kernel)
set_option maxRecDepth 20000 in
theorem gX4_meanDepth_X4_sum : GoodIn wsX4_meanDepth (wsV RX4 200 RX4 yX4_sum wsX4_sum) := goodIn_app (goodIn_of _ (by decide +kernel)) ggX4_meanDepth_X4_sum
theorem dX4_meanDepth_0 : decode cX4_meanDepth 0 = .ok (.aload_n 0, 1) := by decide +kernel
theorem dX4_meanDepth_1 : decode cX4_meanDepth 1 = .ok (.iconst 0, 1) := by decide +kernel
theorem dX4_meanDepth_2 : decode cX4_meanDepth 2 = .ok (.putfield 27, 3) := by decide +kernel
theorem dX4_meanDepth_5 : decode cX4_meanDepth 5 = .ok (.aload_n 0, 1) := by decide +kernel
theorem dX4_meanDepth_6 : decode cX4_meanDepth 6 = .ok (.invokevirtual 155, 3) := by decide +kernel
theorem dX4_meanDepth_9 : decode cX4_meanDepth 9 = .ok (.ifCond .ne 7, 3) := by decide +kernel
theorem dX4_meanDepth_12 : decode cX4_meanDepth 12 = .ok (.fconst 0, 1) := by decide +kernel
theorem dX4_meanDepth_13 : decode cX4_meanDepth 13 = .ok (.goto 15, 3) := by decide +kernel
theorem dX4_meanDepth_16 : decode cX4_meanDepth 16 = .ok (.aload_n 0, 1) := by decide +kernel
theorem dX4_meanDepth_17 : decode cX4_meanDepth 17 = .ok (.iconst 0, 1) := by decide +kernel
theorem dX4_meanDepth_18 : decode cX4_meanDepth 18 = .ok (.invokevirtual 200, 3) := by decide +kernel
theorem dX4_meanDepth_21 : decode cX4_meanDepth 21 = .ok (.i2f, 1) := by decide +kernel
theorem dX4_meanDepth_22 : decode cX4_meanDepth 22 = .ok (.aload_n 0, 1) := by decide +kernel
theorem dX4_meanDepth_23 : decode cX4_meanDepth 23 = .ok (.invokevirtual 155, 3) := by decide +kernel
theorem dX4_meanDepth_26 : decode cX4_meanDepth 26 = .ok (.i2f, 1) := by decide +kernel
theorem dX4_meanDepth_27 : decode cX4_meanDepth 27 = .ok (.fdiv, 1) := by decide +kernel
theorem dX4_meanDepth_28 : decode cX4_meanDepth 28 = .ok (.freturn, 1) := by decide +kernel
set_option maxRecDepth 20000 in
theorem ggX4_clearShare_X4_cuts : GoodIn wsX4_clearShare wsX4_cuts := goodIn_r _ [6, 7, 8, 9, 5, 10, 11, 12, 13, 14, 19, 20, 21, 22, 23, 24, 25, 26, 27, 28, 29, 30] (by decide +kernel) (by decide +kernel)
set_option maxRecDepth 20000 in
theorem gX4_clearShare_X4_cuts : GoodIn wsX4_clearShare (wsV RX4 155 RX4 yX4_cuts wsX4_cuts) := goodIn_app (goodIn_of _ (by decide +kernel)) ggX4_clearShare_X4_cuts
set_option maxRecDepth 20000 in
theorem ggX4_clearShare_X4_sum : GoodIn wsX4_clearShare wsX4_sum := goodIn_r _ [18, 11, 7, 8, 9, 5, 10, 12, 13, 14, 19, 20, 21, 22, 23, 24, 25, 26, 27, 28, 29, 30] (by decide +kernel) (by decide +kernel)
set_option maxRecDepth 20000 in
theorem gX4_clearShare_X4_sum : GoodIn wsX4_clearShare (wsV RX4 200 RX4 yX4_sum wsX4_sum) := goodIn_app (goodIn_of _ (by decide +kernel)) ggX4_clearShare_X4_sum
theorem dX4_clearShare_0 : decode cX4_clearShare 0 = .ok (.aload_n 0, 1) := by decide +kernel
theorem dX4_clearShare_1 : decode cX4_clearShare 1 = .ok (.iconst 0, 1) := by decide +kernel
theorem dX4_clearShare_2 : decode cX4_clearShare 2 = .ok (.putfield 27, 3) := by decide +kernel
theorem dX4_clearShare_5 : decode cX4_clearShare 5 = .ok (.aload_n 0, 1) := by decide +kernel
theorem dX4_clearShare_6 : decode cX4_clearShare 6 = .ok (.invokevirtual 155, 3) := by decide +kernel
theorem dX4_clearShare_9 : decode cX4_clearShare 9 = .ok (.ifCond .ne 7, 3) := by decide +kernel
theorem dX4_clearShare_12 : decode cX4_clearShare 12 = .ok (.dconst 0, 1) := by decide +kernel
theorem dX4_clearShare_13 : decode cX4_clearShare 13 = .ok (.goto 18, 3) := by decide +kernel
theorem dX4_clearShare_16 : decode cX4_clearShare 16 = .ok (.aload_n 0, 1) := by decide +kernel
theorem dX4_clearShare_17 : decode cX4_clearShare 17 = .ok (.iconst 1, 1) := by decide +kernel
theorem dX4_clearShare_18 : decode cX4_clearShare 18 = .ok (.invokevirtual 200, 3) := by decide +kernel
theorem dX4_clearShare_21 : decode cX4_clearShare 21 = .ok (.i2d, 1) := by decide +kernel
theorem dX4_clearShare_22 : decode cX4_clearShare 22 = .ok (.bipush 100, 2) := by decide +kernel
theorem dX4_clearShare_24 : decode cX4_clearShare 24 = .ok (.aload_n 0, 1) := by decide +kernel
theorem dX4_clearShare_25 : decode cX4_clearShare 25 = .ok (.invokevirtual 155, 3) := by decide +kernel
theorem dX4_clearShare_28 : decode cX4_clearShare 28 = .ok (.imul, 1) := by decide +kernel
theorem dX4_clearShare_29 : decode cX4_clearShare 29 = .ok (.i2d, 1) := by decide +kernel
theorem dX4_clearShare_30 : decode cX4_clearShare 30 = .ok (.ddiv, 1) := by decide +kernel
theorem dX4_clearShare_31 : decode cX4_clearShare 31 = .ok (.dreturn, 1) := by decide +kernel
set_option maxRecDepth 20000 in
theorem ggX4_ofTrack_X4_property : GoodIn wsX4_ofTrack wsX4_property := goodIn_r _ [6, 7, 8, 9, 10, 5, 11, 12, 13, 14, 57, 58, 59, 60, 61, 62, 63, 64, 65, 66, 67, 68] (by decide +kernel) (by decide +kernel)
set_option maxRecDepth 20000 in
theorem gX4_ofTrack_X4_property : GoodIn wsX4_ofTrack (wsV RX4 157 RX4 yX4_property wsX4_property) := goodIn_app (goodIn_of _ (by decide +kernel)) ggX4_ofTrack_X4_property
set_option maxRecDepth 20000 in
theorem ggX4_ofTrack_X4_speakReason : GoodIn wsX4_ofTrack wsX4_speakReason := goodIn_r _ [18, 7, 8, 9, 10, 5, 11, 12, 13, 14, 19, 20, 21, 22, 57, 58, 59, 60, 61, 62, 63, 64, 65, 66, 67, 68] (by decide +kernel) (by decide +kernel)
set_option maxRecDepth 20000 in
theorem gX4_ofTrack_X4_speakReason : GoodIn wsX4_ofTrack (wsV RX4 67 RX4 yX4_speakReason wsX4_speakReason) := goodIn_app (goodIn_of _ (by decide +kernel)) ggX4_ofTrack_X4_speakReason
set_option maxRecDepth 20000 in
theorem ggX4_ofTrack_X4_manyDaughters : GoodIn wsX4_ofTrack wsX4_manyDaughters := goodIn_r _ [26, 27, 28, 29, 5, 30, 7, 8, 9, 10, 11, 12, 13, 14, 57, 58, 59, 60, 61, 62, 63, 64, 65, 66, 67, 68] (by decide +kernel) (by decide +kernel)
set_option maxRecDepth 20000 in
theorem gX4_ofTrack_X4_manyDaughters : GoodIn wsX4_ofTrack (wsV RX4 197 RX4 yX4_manyDaughters wsX4_manyDaughters) := goodIn_app (goodIn_of _ (by decide +kernel)) ggX4_ofTrack_X4_manyDaughters
set_option maxRecDepth 20000 in
theorem ggX4_ofTrack_X4_chained : GoodIn wsX4_ofTrack wsX4_chained := goodIn_r _ [34, 8, 9, 10, 5, 11, 7, 12, 13, 14, 35, 36, 37, 38, 39, 40, 41, 42, 43, 44, 45, 46, 47, 48, 49, 50, 51, 52, 53, 54, 55, 56, 57, 58, 59, 60, 61, 62, 63, 64, 65, 66, 67, 68] (by decide +kernel) (by decide +kernel)
set_option maxRecDepth 20000 in
theorem gX4_ofTrack_X4_chained : GoodIn wsX4_ofTrack (wsV RX4 187 RX4 yX4_chained wsX4_chained) := goodIn_app (goodIn_of _ (by decide +kernel)) ggX4_ofTrack_X4_chained
theorem dX4_ofTrack_0 : decode cX4_ofTrack 0 = .ok (.lload_n 1, 1) := by decide +kernel
theorem dX4_ofTrack_1 : decode cX4_ofTrack 1 = .ok (.lstore 4, 2) := by decide +kernel
theorem dX4_ofTrack_3 : decode cX4_ofTrack 3 = .ok (.iconst 0, 1) := by decide +kernel
theorem dX4_ofTrack_4 : decode cX4_ofTrack 4 = .ok (.istore 6, 2) := by decide +kernel
theorem dX4_ofTrack_6 : decode cX4_ofTrack 6 = .ok (.iload 6, 2) := by decide +kernel
theorem dX4_ofTrack_8 : decode cX4_ofTrack 8 = .ok (.bipush 7, 2) := by decide +kernel
theorem dX4_ofTrack_10 : decode cX4_ofTrack 10 = .ok (.if_icmp .ge 26, 3) := by decide +kernel
theorem dX4_ofTrack_13 : decode cX4_ofTrack 13 = .ok (.ldc2_w 203, 3) := by decide +kernel
theorem dX4_ofTrack_16 : decode cX4_ofTrack 16 = .ok (.lload 4, 2) := by decide +kernel
theorem dX4_ofTrack_18 : decode cX4_ofTrack 18 = .ok (.lmul, 1) := by decide +kernel
theorem dX4_ofTrack_19 : decode cX4_ofTrack 19 = .ok (.aload_n 0, 1) := by decide +kernel
theorem dX4_ofTrack_20 : decode cX4_ofTrack 20 = .ok (.iload_n 3, 1) := by decide +kernel
theorem dX4_ofTrack_21 : decode cX4_ofTrack 21 = .ok (.iload 6, 2) := by decide +kernel
theorem dX4_ofTrack_23 : decode cX4_ofTrack 23 = .ok (.invokevirtual 157, 3) := by decide +kernel
theorem dX4_ofTrack_26 : decode cX4_ofTrack 26 = .ok (.i2l, 1) := by decide +kernel
theorem dX4_ofTrack_27 : decode cX4_ofTrack 27 = .ok (.ladd, 1) := by decide +kernel
theorem dX4_ofTrack_28 : decode cX4_ofTrack 28 = .ok (.lstore 4, 2) := by decide +kernel
theorem dX4_ofTrack_30 : decode cX4_ofTrack 30 = .ok (.iinc 6 1, 3) := by decide +kernel
theorem dX4_ofTrack_33 : decode cX4_ofTrack 33 = .ok (.goto (-27), 3) := by decide +kernel
theorem dX4_ofTrack_36 : decode cX4_ofTrack 36 = .ok (.ldc2_w 203, 3) := by decide +kernel
theorem dX4_ofTrack_39 : decode cX4_ofTrack 39 = .ok (.lload 4, 2) := by decide +kernel
theorem dX4_ofTrack_41 : decode cX4_ofTrack 41 = .ok (.lmul, 1) := by decide +kernel
theorem dX4_ofTrack_42 : decode cX4_ofTrack 42 = .ok (.aload_n 0, 1) := by decide +kernel
theorem dX4_ofTrack_43 : decode cX4_ofTrack 43 = .ok (.iload_n 3, 1) := by decide +kernel
theorem dX4_ofTrack_44 : decode cX4_ofTrack 44 = .ok (.iconst 5, 1) := by decide +kernel
theorem dX4_ofTrack_45 : decode cX4_ofTrack 45 = .ok (.invokevirtual 67, 3) := by decide +kernel
theorem dX4_ofTrack_48 : decode cX4_ofTrack 48 = .ok (.i2l, 1) := by decide +kernel
theorem dX4_ofTrack_49 : decode cX4_ofTrack 49 = .ok (.ladd, 1) := by decide +kernel
theorem dX4_ofTrack_50 : decode cX4_ofTrack 50 = .ok (.lstore 4, 2) := by decide +kernel
theorem dX4_ofTrack_52 : decode cX4_ofTrack 52 = .ok (.ldc2_w 203, 3) := by decide +kernel
theorem dX4_ofTrack_55 : decode cX4_ofTrack 55 = .ok (.lload 4, 2) := by decide +kernel
theorem dX4_ofTrack_57 : decode cX4_ofTrack 57 = .ok (.lmul, 1) := by decide +kernel
theorem dX4_ofTrack_58 : decode cX4_ofTrack 58 = .ok (.aload_n 0, 1) := by decide +kernel
theorem dX4_ofTrack_59 : decode cX4_ofTrack 59 = .ok (.iload_n 3, 1) := by decide +kernel
theorem dX4_ofTrack_60 : decode cX4_ofTrack 60 = .ok (.invokevirtual 197, 3) := by decide +kernel
theorem dX4_ofTrack_63 : decode cX4_ofTrack 63 = .ok (.i2l, 1) := by decide +kernel
theorem dX4_ofTrack_64 : decode cX4_ofTrack 64 = .ok (.ladd, 1) := by decide +kernel
theorem dX4_ofTrack_65 : decode cX4_ofTrack 65 = .ok (.lstore 4, 2) := by decide +kernel
theorem dX4_ofTrack_67 : decode cX4_ofTrack 67 = .ok (.ldc2_w 203, 3) := by decide +kernel
theorem dX4_ofTrack_70 : decode cX4_ofTrack 70 = .ok (.lload 4, 2) := by decide +kernel
theorem dX4_ofTrack_72 : decode cX4_ofTrack 72 = .ok (.lmul, 1) := by decide +kernel
theorem dX4_ofTrack_73 : decode cX4_ofTrack 73 = .ok (.aload_n 0, 1) := by decide +kernel
theorem dX4_ofTrack_74 : decode cX4_ofTrack 74 = .ok (.iload_n 3, 1) := by decide +kernel
theorem dX4_ofTrack_75 : decode cX4_ofTrack 75 = .ok (.iconst 1, 1) := by decide +kernel
theorem dX4_ofTrack_76 : decode cX4_ofTrack 76 = .ok (.iconst 0, 1) := by decide +kernel
theorem dX4_ofTrack_77 : decode cX4_ofTrack 77 = .ok (.invokevirtual 187, 3) := by decide +kernel
theorem dX4_ofTrack_80 : decode cX4_ofTrack 80 = .ok (.i2l, 1) := by decide +kernel
theorem dX4_ofTrack_81 : decode cX4_ofTrack 81 = .ok (.ladd, 1) := by decide +kernel
theorem dX4_ofTrack_82 : decode cX4_ofTrack 82 = .ok (.lstore 4, 2) := by decide +kernel
theorem dX4_ofTrack_84 : decode cX4_ofTrack 84 = .ok (.ldc2_w 203, 3) := by decide +kernel
theorem dX4_ofTrack_87 : decode cX4_ofTrack 87 = .ok (.lload 4, 2) := by decide +kernel
theorem dX4_ofTrack_89 : decode cX4_ofTrack 89 = .ok (.lmul, 1) := by decide +kernel
theorem dX4_ofTrack_90 : decode cX4_ofTrack 90 = .ok (.aload_n 0, 1) := by decide +kernel
theorem dX4_ofTrack_91 : decode cX4_ofTrack 91 = .ok (.iload_n 3, 1) := by decide +kernel
theorem dX4_ofTrack_92 : decode cX4_ofTrack 92 = .ok (.iconst 1, 1) := by decide +kernel
theorem dX4_ofTrack_93 : decode cX4_ofTrack 93 = .ok (.iconst 1, 1) := by decide +kernel
theorem dX4_ofTrack_94 : decode cX4_ofTrack 94 = .ok (.invokevirtual 187, 3) := by decide +kernel
theorem dX4_ofTrack_97 : decode cX4_ofTrack 97 = .ok (.i2l, 1) := by decide +kernel
theorem dX4_ofTrack_98 : decode cX4_ofTrack 98 = .ok (.ladd, 1) := by decide +kernel
theorem dX4_ofTrack_99 : decode cX4_ofTrack 99 = .ok (.lstore 4, 2) := by decide +kernel
theorem dX4_ofTrack_101 : decode cX4_ofTrack 101 = .ok (.ldc2_w 203, 3) := by decide +kernel
theorem dX4_ofTrack_104 : decode cX4_ofTrack 104 = .ok (.lload 4, 2) := by decide +kernel
theorem dX4_ofTrack_106 : decode cX4_ofTrack 106 = .ok (.lmul, 1) := by decide +kernel
theorem dX4_ofTrack_107 : decode cX4_ofTrack 107 = .ok (.aload_n 0, 1) := by decide +kernel
theorem dX4_ofTrack_108 : decode cX4_ofTrack 108 = .ok (.iload_n 3, 1) := by decide +kernel
theorem dX4_ofTrack_109 : decode cX4_ofTrack 109 = .ok (.iconst 3, 1) := by decide +kernel
theorem dX4_ofTrack_110 : decode cX4_ofTrack 110 = .ok (.iconst 0, 1) := by decide +kernel
theorem dX4_ofTrack_111 : decode cX4_ofTrack 111 = .ok (.invokevirtual 187, 3) := by decide +kernel
theorem dX4_ofTrack_114 : decode cX4_ofTrack 114 = .ok (.i2l, 1) := by decide +kernel
theorem dX4_ofTrack_115 : decode cX4_ofTrack 115 = .ok (.ladd, 1) := by decide +kernel
theorem dX4_ofTrack_116 : decode cX4_ofTrack 116 = .ok (.lstore 4, 2) := by decide +kernel
theorem dX4_ofTrack_118 : decode cX4_ofTrack 118 = .ok (.ldc2_w 203, 3) := by decide +kernel
theorem dX4_ofTrack_121 : decode cX4_ofTrack 121 = .ok (.lload 4, 2) := by decide +kernel
theorem dX4_ofTrack_123 : decode cX4_ofTrack 123 = .ok (.lmul, 1) := by decide +kernel
theorem dX4_ofTrack_124 : decode cX4_ofTrack 124 = .ok (.aload_n 0, 1) := by decide +kernel
theorem dX4_ofTrack_125 : decode cX4_ofTrack 125 = .ok (.iload_n 3, 1) := by decide +kernel
theorem dX4_ofTrack_126 : decode cX4_ofTrack 126 = .ok (.iconst 3, 1) := by decide +kernel
theorem dX4_ofTrack_127 : decode cX4_ofTrack 127 = .ok (.iconst 1, 1) := by decide +kernel
theorem dX4_ofTrack_128 : decode cX4_ofTrack 128 = .ok (.invokevirtual 187, 3) := by decide +kernel
theorem dX4_ofTrack_131 : decode cX4_ofTrack 131 = .ok (.i2l, 1) := by decide +kernel
theorem dX4_ofTrack_132 : decode cX4_ofTrack 132 = .ok (.ladd, 1) := by decide +kernel
theorem dX4_ofTrack_133 : decode cX4_ofTrack 133 = .ok (.lreturn, 1) := by decide +kernel
set_option maxRecDepth 20000 in
theorem ggX4_digest_X4_counted : GoodIn wsX4_digest wsX4_counted := goodIn_r _ [11, 3, 12, 13, 14, 15, 10, 16, 17, 18, 19, 20, 21, 22, 23, 24, 25, 26, 27, 28, 29, 30, 31, 151, 152, 153, 154, 155, 156, 157, 158, 159, 160, 161, 162] (by decide +kernel) (by decide +kernel)
set_option maxRecDepth 20000 in
theorem gX4_digest_X4_counted : GoodIn wsX4_digest (wsV RX4 172 RX4 yX4_counted wsX4_counted) := goodIn_app (goodIn_of _ (by decide +kernel)) ggX4_digest_X4_counted
set_option maxRecDepth 20000 in
theorem ggX4_digest_X4_ofTrack : GoodIn wsX4_digest wsX4_ofTrack := goodIn_r _ [35, 2, 36, 37, 38, 10, 39, 3, 21, 22, 23, 24, 25, 26, 27, 40, 41, 42, 43, 44, 45, 46, 47, 48, 49, 50, 51, 52, 53, 54, 55, 56, 57, 58, 59, 60, 61, 62, 63, 64, 65, 66, 67, 68, 69, 70, 71, 72, 73, 74, 75, 76, 77, 78, 79, 80, 81, 151, 152, 153, 154, 155, 156, 157, 158, 159, 160, 161, 162] (by decide +kernel) (by decide +kernel)
set_option maxRecDepth 20000 in
theorem gX4_digest_X4_ofTrack : GoodIn wsX4_digest (wsV RX4 207 RX4 yX4_ofTrack wsX4_ofTrack) := goodIn_app (goodIn_of _ (by decide +kernel)) ggX4_digest_X4_ofTrack
set_option maxRecDepth 20000 in
theorem ggX4_digest_X4_propertyOf : GoodIn wsX4_digest wsX4_propertyOf := goodIn_r _ [85, 3, 86, 87, 88, 10, 89, 21, 22, 23, 24, 25, 26, 27, 90, 91, 92, 93, 69, 70, 71, 94, 95, 96, 97, 151, 152, 153, 154, 155, 156, 157, 158, 159, 160, 161, 162] (by decide +kernel) (by decide +kernel)
set_option maxRecDepth 20000 in
theorem gX4_digest_X4_propertyOf : GoodIn wsX4_digest (wsV RX4 166 RX4 yX4_propertyOf wsX4_propertyOf) := goodIn_app (goodIn_of _ (by decide +kernel)) ggX4_digest_X4_propertyOf
set_option maxRecDepth 20000 in
theorem ggX4_digest_X4_wouldBe : GoodIn wsX4_digest wsX4_wouldBe := goodIn_r _ [101, 102, 103, 104, 10, 105, 3, 21, 22, 23, 24, 25, 26, 27, 44, 45, 46, 47, 66, 67, 68, 106, 107, 108, 109, 75, 76, 77, 13, 14, 15, 16, 69, 70, 71, 151, 152, 153, 154, 155, 156, 157, 158, 159, 160, 161, 162] (by decide +kernel) (by decide +kernel)
set_option maxRecDepth 20000 in
theorem gX4_digest_X4_wouldBe : GoodIn wsX4_digest (wsV RX4 175 RX4 yX4_wouldBe wsX4_wouldBe) := goodIn_app (goodIn_of _ (by decide +kernel)) ggX4_digest_X4_wouldBe
set_option maxRecDepth 20000 in
theorem ggX4_digest_X4_clearestTrack : GoodIn wsX4_digest wsX4_clearestTrack := goodIn_r _ [113, 3, 25, 26, 10, 27, 21, 22, 23, 24, 151, 152, 153, 154, 155, 156, 157, 158, 159, 160, 161, 162] (by decide +kernel) (by decide +kernel)
set_option maxRecDepth 20000 in
theorem gX4_digest_X4_clearestTrack : GoodIn wsX4_digest (wsV RX4 190 RX4 yX4_clearestTrack wsX4_clearestTrack) := goodIn_app (goodIn_of _ (by decide +kernel)) ggX4_digest_X4_clearestTrack
set_option maxRecDepth 20000 in
theorem ggX4_digest_X4_meanDepth : GoodIn wsX4_digest wsX4_meanDepth := goodIn_r _ [117, 118, 17, 18, 19, 10, 20, 21, 22, 23, 24, 3, 25, 26, 27, 119, 120, 121, 122, 151, 152, 153, 154, 155, 156, 157, 158, 159, 160, 161, 162] (by decide +kernel) (by decide +kernel)
set_option maxRecDepth 20000 in
theorem gX4_digest_X4_meanDepth : GoodIn wsX4_digest (wsV RX4 211 RX4 yX4_meanDepth wsX4_meanDepth) := goodIn_app (goodIn_of _ (by decide +kernel)) ggX4_digest_X4_meanDepth
set_option maxRecDepth 20000 in
theorem ggX4_digest_Jxf58ca_floatToIntBits_5c35a : GoodIn wsX4_digest wsJxf58ca_floatToIntBits_5c35a := goodIn_r _ [126, 127, 128, 129, 130, 131, 132, 133, 125, 134] (by decide +kernel) (by decide +kernel)
set_option maxRecDepth 20000 in
theorem gX4_digest_Jxf58ca_floatToIntBits_5c35a : GoodIn wsX4_digest (va_wsS RX4 215 yJxf58ca_floatToIntBits_5c35a wsJxf58ca_floatToIntBits_5c35a) := goodIn_app (goodIn_of _ (by decide +kernel)) ggX4_digest_Jxf58ca_floatToIntBits_5c35a
set_option maxRecDepth 20000 in
theorem ggX4_digest_X4_clearShare : GoodIn wsX4_digest wsX4_clearShare := goodIn_r _ [138, 118, 17, 18, 19, 10, 20, 21, 22, 23, 24, 3, 25, 26, 27, 119, 120, 121, 122, 151, 152, 153, 154, 155, 156, 157, 158, 159, 160, 161, 162] (by decide +kernel) (by decide +kernel)
set_option maxRecDepth 20000 in
theorem gX4_digest_X4_clearShare : GoodIn wsX4_digest (wsV RX4 221 RX4 yX4_clearShare wsX4_clearShare) := goodIn_app (goodIn_of _ (by decide +kernel)) ggX4_digest_X4_clearShare
set_option maxRecDepth 20000 in
theorem ggX4_digest_Jxe99ae_doubleToLongBits_ccdee : GoodIn wsX4_digest wsJxe99ae_doubleToLongBits_ccdee := goodIn_r _ [142, 143, 144, 145, 146, 147, 148, 149, 141, 150] (by decide +kernel) (by decide +kernel)
set_option maxRecDepth 20000 in
theorem gX4_digest_Jxe99ae_doubleToLongBits_ccdee : GoodIn wsX4_digest (va_wsS RX4 225 yJxe99ae_doubleToLongBits_ccdee wsJxe99ae_doubleToLongBits_ccdee) := goodIn_app (goodIn_of _ (by decide +kernel)) ggX4_digest_Jxe99ae_doubleToLongBits_ccdee
theorem dX4_digest_0 : decode cX4_digest 0 = .ok (.ldc2_w 205, 3) := by decide +kernel
theorem dX4_digest_3 : decode cX4_digest 3 = .ok (.lstore_n 1, 1) := by decide +kernel
theorem dX4_digest_4 : decode cX4_digest 4 = .ok (.iconst 0, 1) := by decide +kernel
theorem dX4_digest_5 : decode cX4_digest 5 = .ok (.istore_n 3, 1) := by decide +kernel
theorem dX4_digest_6 : decode cX4_digest 6 = .ok (.iload_n 3, 1) := by decide +kernel
theorem dX4_digest_7 : decode cX4_digest 7 = .ok (.bipush 13, 2) := by decide +kernel
theorem dX4_digest_9 : decode cX4_digest 9 = .ok (.if_icmp .ge 22, 3) := by decide +kernel
theorem dX4_digest_12 : decode cX4_digest 12 = .ok (.ldc2_w 203, 3) := by decide +kernel
theorem dX4_digest_15 : decode cX4_digest 15 = .ok (.lload_n 1, 1) := by decide +kernel
theorem dX4_digest_16 : decode cX4_digest 16 = .ok (.lmul, 1) := by decide +kernel
theorem dX4_digest_17 : decode cX4_digest 17 = .ok (.aload_n 0, 1) := by decide +kernel
theorem dX4_digest_18 : decode cX4_digest 18 = .ok (.iload_n 3, 1) := by decide +kernel
theorem dX4_digest_19 : decode cX4_digest 19 = .ok (.invokevirtual 172, 3) := by decide +kernel
theorem dX4_digest_22 : decode cX4_digest 22 = .ok (.i2l, 1) := by decide +kernel
theorem dX4_digest_23 : decode cX4_digest 23 = .ok (.ladd, 1) := by decide +kernel
theorem dX4_digest_24 : decode cX4_digest 24 = .ok (.lstore_n 1, 1) := by decide +kernel
theorem dX4_digest_25 : decode cX4_digest 25 = .ok (.iinc 3 1, 3) := by decide +kernel
theorem dX4_digest_28 : decode cX4_digest 28 = .ok (.goto (-22), 3) := by decide +kernel
theorem dX4_digest_31 : decode cX4_digest 31 = .ok (.ldc2_w 203, 3) := by decide +kernel
theorem dX4_digest_34 : decode cX4_digest 34 = .ok (.lload_n 1, 1) := by decide +kernel
theorem dX4_digest_35 : decode cX4_digest 35 = .ok (.lmul, 1) := by decide +kernel
theorem dX4_digest_36 : decode cX4_digest 36 = .ok (.aload_n 0, 1) := by decide +kernel
theorem dX4_digest_37 : decode cX4_digest 37 = .ok (.getfield 7, 3) := by decide +kernel
theorem dX4_digest_40 : decode cX4_digest 40 = .ok (.iconst 2, 1) := by decide +kernel
theorem dX4_digest_41 : decode cX4_digest 41 = .ok (.iaload, 1) := by decide +kernel
theorem dX4_digest_42 : decode cX4_digest 42 = .ok (.i2l, 1) := by decide +kernel
theorem dX4_digest_43 : decode cX4_digest 43 = .ok (.ladd, 1) := by decide +kernel
theorem dX4_digest_44 : decode cX4_digest 44 = .ok (.lstore_n 1, 1) := by decide +kernel
theorem dX4_digest_45 : decode cX4_digest 45 = .ok (.iconst 0, 1) := by decide +kernel
theorem dX4_digest_46 : decode cX4_digest 46 = .ok (.istore_n 3, 1) := by decide +kernel
theorem dX4_digest_47 : decode cX4_digest 47 = .ok (.iload_n 3, 1) := by decide +kernel
theorem dX4_digest_48 : decode cX4_digest 48 = .ok (.bipush 24, 2) := by decide +kernel
theorem dX4_digest_50 : decode cX4_digest 50 = .ok (.if_icmp .ge 16, 3) := by decide +kernel
theorem dX4_digest_53 : decode cX4_digest 53 = .ok (.aload_n 0, 1) := by decide +kernel
theorem dX4_digest_54 : decode cX4_digest 54 = .ok (.lload_n 1, 1) := by decide +kernel
theorem dX4_digest_55 : decode cX4_digest 55 = .ok (.iload_n 3, 1) := by decide +kernel
theorem dX4_digest_56 : decode cX4_digest 56 = .ok (.invokevirtual 207, 3) := by decide +kernel
theorem dX4_digest_59 : decode cX4_digest 59 = .ok (.lstore_n 1, 1) := by decide +kernel
theorem dX4_digest_60 : decode cX4_digest 60 = .ok (.iinc 3 1, 3) := by decide +kernel
theorem dX4_digest_63 : decode cX4_digest 63 = .ok (.goto (-16), 3) := by decide +kernel
theorem dX4_digest_66 : decode cX4_digest 66 = .ok (.iconst 0, 1) := by decide +kernel
theorem dX4_digest_67 : decode cX4_digest 67 = .ok (.istore_n 3, 1) := by decide +kernel
theorem dX4_digest_68 : decode cX4_digest 68 = .ok (.iload_n 3, 1) := by decide +kernel
theorem dX4_digest_69 : decode cX4_digest 69 = .ok (.bipush 30, 2) := by decide +kernel
theorem dX4_digest_71 : decode cX4_digest 71 = .ok (.if_icmp .ge 27, 3) := by decide +kernel
theorem dX4_digest_74 : decode cX4_digest 74 = .ok (.ldc2_w 203, 3) := by decide +kernel
theorem dX4_digest_77 : decode cX4_digest 77 = .ok (.lload_n 1, 1) := by decide +kernel
theorem dX4_digest_78 : decode cX4_digest 78 = .ok (.lmul, 1) := by decide +kernel
theorem dX4_digest_79 : decode cX4_digest 79 = .ok (.aload_n 0, 1) := by decide +kernel
theorem dX4_digest_80 : decode cX4_digest 80 = .ok (.iload_n 3, 1) := by decide +kernel
theorem dX4_digest_81 : decode cX4_digest 81 = .ok (.iconst 5, 1) := by decide +kernel
theorem dX4_digest_82 : decode cX4_digest 82 = .ok (.idiv, 1) := by decide +kernel
theorem dX4_digest_83 : decode cX4_digest 83 = .ok (.iload_n 3, 1) := by decide +kernel
theorem dX4_digest_84 : decode cX4_digest 84 = .ok (.iconst 5, 1) := by decide +kernel
theorem dX4_digest_85 : decode cX4_digest 85 = .ok (.irem, 1) := by decide +kernel
theorem dX4_digest_86 : decode cX4_digest 86 = .ok (.invokevirtual 166, 3) := by decide +kernel
theorem dX4_digest_89 : decode cX4_digest 89 = .ok (.i2l, 1) := by decide +kernel
theorem dX4_digest_90 : decode cX4_digest 90 = .ok (.ladd, 1) := by decide +kernel
theorem dX4_digest_91 : decode cX4_digest 91 = .ok (.lstore_n 1, 1) := by decide +kernel
theorem dX4_digest_92 : decode cX4_digest 92 = .ok (.iinc 3 1, 3) := by decide +kernel
theorem dX4_digest_95 : decode cX4_digest 95 = .ok (.goto (-27), 3) := by decide +kernel
theorem dX4_digest_98 : decode cX4_digest 98 = .ok (.ldc2_w 203, 3) := by decide +kernel
theorem dX4_digest_101 : decode cX4_digest 101 = .ok (.lload_n 1, 1) := by decide +kernel
theorem dX4_digest_102 : decode cX4_digest 102 = .ok (.lmul, 1) := by decide +kernel
theorem dX4_digest_103 : decode cX4_digest 103 = .ok (.aload_n 0, 1) := by decide +kernel
theorem dX4_digest_104 : decode cX4_digest 104 = .ok (.iconst 0, 1) := by decide +kernel
theorem dX4_digest_105 : decode cX4_digest 105 = .ok (.iconst 4, 1) := by decide +kernel
theorem dX4_digest_106 : decode cX4_digest 106 = .ok (.iconst 2, 1) := by decide +kernel
theorem dX4_digest_107 : decode cX4_digest 107 = .ok (.invokevirtual 175, 3) := by decide +kernel
theorem dX4_digest_110 : decode cX4_digest 110 = .ok (.i2l, 1) := by decide +kernel
theorem dX4_digest_111 : decode cX4_digest 111 = .ok (.ladd, 1) := by decide +kernel
theorem dX4_digest_112 : decode cX4_digest 112 = .ok (.lstore_n 1, 1) := by decide +kernel
theorem dX4_digest_113 : decode cX4_digest 113 = .ok (.ldc2_w 203, 3) := by decide +kernel
theorem dX4_digest_116 : decode cX4_digest 116 = .ok (.lload_n 1, 1) := by decide +kernel
theorem dX4_digest_117 : decode cX4_digest 117 = .ok (.lmul, 1) := by decide +kernel
theorem dX4_digest_118 : decode cX4_digest 118 = .ok (.aload_n 0, 1) := by decide +kernel
theorem dX4_digest_119 : decode cX4_digest 119 = .ok (.iconst 4, 1) := by decide +kernel
theorem dX4_digest_120 : decode cX4_digest 120 = .ok (.bipush 9, 2) := by decide +kernel
theorem dX4_digest_122 : decode cX4_digest 122 = .ok (.iconst 2, 1) := by decide +kernel
theorem dX4_digest_123 : decode cX4_digest 123 = .ok (.invokevirtual 175, 3) := by decide +kernel
theorem dX4_digest_126 : decode cX4_digest 126 = .ok (.i2l, 1) := by decide +kernel
theorem dX4_digest_127 : decode cX4_digest 127 = .ok (.ladd, 1) := by decide +kernel
theorem dX4_digest_128 : decode cX4_digest 128 = .ok (.lstore_n 1, 1) := by decide +kernel
theorem dX4_digest_129 : decode cX4_digest 129 = .ok (.ldc2_w 203, 3) := by decide +kernel
theorem dX4_digest_132 : decode cX4_digest 132 = .ok (.lload_n 1, 1) := by decide +kernel
theorem dX4_digest_133 : decode cX4_digest 133 = .ok (.lmul, 1) := by decide +kernel
theorem dX4_digest_134 : decode cX4_digest 134 = .ok (.aload_n 0, 1) := by decide +kernel
theorem dX4_digest_135 : decode cX4_digest 135 = .ok (.bipush 9, 2) := by decide +kernel
theorem dX4_digest_137 : decode cX4_digest 137 = .ok (.iconst 0, 1) := by decide +kernel
theorem dX4_digest_138 : decode cX4_digest 138 = .ok (.iconst 2, 1) := by decide +kernel
theorem dX4_digest_139 : decode cX4_digest 139 = .ok (.invokevirtual 175, 3) := by decide +kernel
theorem dX4_digest_142 : decode cX4_digest 142 = .ok (.i2l, 1) := by decide +kernel
theorem dX4_digest_143 : decode cX4_digest 143 = .ok (.ladd, 1) := by decide +kernel
theorem dX4_digest_144 : decode cX4_digest 144 = .ok (.lstore_n 1, 1) := by decide +kernel
theorem dX4_digest_145 : decode cX4_digest 145 = .ok (.ldc2_w 203, 3) := by decide +kernel
theorem dX4_digest_148 : decode cX4_digest 148 = .ok (.lload_n 1, 1) := by decide +kernel
theorem dX4_digest_149 : decode cX4_digest 149 = .ok (.lmul, 1) := by decide +kernel
theorem dX4_digest_150 : decode cX4_digest 150 = .ok (.aload_n 0, 1) := by decide +kernel
theorem dX4_digest_151 : decode cX4_digest 151 = .ok (.invokevirtual 190, 3) := by decide +kernel
theorem dX4_digest_154 : decode cX4_digest 154 = .ok (.i2l, 1) := by decide +kernel
theorem dX4_digest_155 : decode cX4_digest 155 = .ok (.ladd, 1) := by decide +kernel
theorem dX4_digest_156 : decode cX4_digest 156 = .ok (.lstore_n 1, 1) := by decide +kernel
theorem dX4_digest_157 : decode cX4_digest 157 = .ok (.ldc2_w 203, 3) := by decide +kernel
theorem dX4_digest_160 : decode cX4_digest 160 = .ok (.lload_n 1, 1) := by decide +kernel
theorem dX4_digest_161 : decode cX4_digest 161 = .ok (.lmul, 1) := by decide +kernel
theorem dX4_digest_162 : decode cX4_digest 162 = .ok (.aload_n 0, 1) := by decide +kernel
theorem dX4_digest_163 : decode cX4_digest 163 = .ok (.invokevirtual 211, 3) := by decide +kernel
theorem dX4_digest_166 : decode cX4_digest 166 = .ok (.invokestatic 215, 3) := by decide +kernel
theorem dX4_digest_169 : decode cX4_digest 169 = .ok (.i2l, 1) := by decide +kernel
theorem dX4_digest_170 : decode cX4_digest 170 = .ok (.ladd, 1) := by decide +kernel
theorem dX4_digest_171 : decode cX4_digest 171 = .ok (.lstore_n 1, 1) := by decide +kernel
theorem dX4_digest_172 : decode cX4_digest 172 = .ok (.ldc2_w 203, 3) := by decide +kernel
theorem dX4_digest_175 : decode cX4_digest 175 = .ok (.lload_n 1, 1) := by decide +kernel
theorem dX4_digest_176 : decode cX4_digest 176 = .ok (.lmul, 1) := by decide +kernel
theorem dX4_digest_177 : decode cX4_digest 177 = .ok (.aload_n 0, 1) := by decide +kernel
theorem dX4_digest_178 : decode cX4_digest 178 = .ok (.invokevirtual 221, 3) := by decide +kernel
theorem dX4_digest_181 : decode cX4_digest 181 = .ok (.invokestatic 225, 3) := by decide +kernel
theorem dX4_digest_184 : decode cX4_digest 184 = .ok (.ladd, 1) := by decide +kernel
theorem dX4_digest_185 : decode cX4_digest 185 = .ok (.lstore_n 1, 1) := by decide +kernel
theorem dX4_digest_186 : decode cX4_digest 186 = .ok (.ldc2_w 203, 3) := by decide +kernel
theorem dX4_digest_189 : decode cX4_digest 189 = .ok (.lload_n 1, 1) := by decide +kernel
theorem dX4_digest_190 : decode cX4_digest 190 = .ok (.lmul, 1) := by decide +kernel
theorem dX4_digest_191 : decode cX4_digest 191 = .ok (.aload_n 0, 1) := by decide +kernel
theorem dX4_digest_192 : decode cX4_digest 192 = .ok (.getfield 13, 3) := by decide +kernel
theorem dX4_digest_195 : decode cX4_digest 195 = .ok (.iconst 0, 1) := by decide +kernel
theorem dX4_digest_196 : decode cX4_digest 196 = .ok (.baload, 1) := by decide +kernel
theorem dX4_digest_197 : decode cX4_digest 197 = .ok (.ifCond .eq 7, 3) := by decide +kernel
theorem dX4_digest_200 : decode cX4_digest 200 = .ok (.iconst 1, 1) := by decide +kernel
theorem dX4_digest_201 : decode cX4_digest 201 = .ok (.goto 4, 3) := by decide +kernel
theorem dX4_digest_204 : decode cX4_digest 204 = .ok (.iconst 0, 1) := by decide +kernel
theorem dX4_digest_205 : decode cX4_digest 205 = .ok (.i2l, 1) := by decide +kernel
theorem dX4_digest_206 : decode cX4_digest 206 = .ok (.ladd, 1) := by decide +kernel
theorem dX4_digest_207 : decode cX4_digest 207 = .ok (.lstore_n 1, 1) := by decide +kernel
theorem dX4_digest_208 : decode cX4_digest 208 = .ok (.ldc2_w 203, 3) := by decide +kernel
theorem dX4_digest_211 : decode cX4_digest 211 = .ok (.lload_n 1, 1) := by decide +kernel
theorem dX4_digest_212 : decode cX4_digest 212 = .ok (.lmul, 1) := by decide +kernel
theorem dX4_digest_213 : decode cX4_digest 213 = .ok (.aload_n 0, 1) := by decide +kernel
theorem dX4_digest_214 : decode cX4_digest 214 = .ok (.getfield 13, 3) := by decide +kernel
theorem dX4_digest_217 : decode cX4_digest 217 = .ok (.iconst 1, 1) := by decide +kernel
theorem dX4_digest_218 : decode cX4_digest 218 = .ok (.baload, 1) := by decide +kernel
theorem dX4_digest_219 : decode cX4_digest 219 = .ok (.ifCond .eq 7, 3) := by decide +kernel
theorem dX4_digest_222 : decode cX4_digest 222 = .ok (.iconst 1, 1) := by decide +kernel
theorem dX4_digest_223 : decode cX4_digest 223 = .ok (.goto 4, 3) := by decide +kernel
theorem dX4_digest_226 : decode cX4_digest 226 = .ok (.iconst 0, 1) := by decide +kernel
theorem dX4_digest_227 : decode cX4_digest 227 = .ok (.i2l, 1) := by decide +kernel
theorem dX4_digest_228 : decode cX4_digest 228 = .ok (.ladd, 1) := by decide +kernel
theorem dX4_digest_229 : decode cX4_digest 229 = .ok (.lstore_n 1, 1) := by decide +kernel
theorem dX4_digest_230 : decode cX4_digest 230 = .ok (.ldc2_w 203, 3) := by decide +kernel
theorem dX4_digest_233 : decode cX4_digest 233 = .ok (.lload_n 1, 1) := by decide +kernel
theorem dX4_digest_234 : decode cX4_digest 234 = .ok (.lmul, 1) := by decide +kernel
theorem dX4_digest_235 : decode cX4_digest 235 = .ok (.aload_n 0, 1) := by decide +kernel
theorem dX4_digest_236 : decode cX4_digest 236 = .ok (.getfield 119, 3) := by decide +kernel
theorem dX4_digest_239 : decode cX4_digest 239 = .ok (.i2l, 1) := by decide +kernel
theorem dX4_digest_240 : decode cX4_digest 240 = .ok (.ladd, 1) := by decide +kernel
theorem dX4_digest_241 : decode cX4_digest 241 = .ok (.lstore_n 1, 1) := by decide +kernel
theorem dX4_digest_242 : decode cX4_digest 242 = .ok (.iconst 0, 1) := by decide +kernel
theorem dX4_digest_243 : decode cX4_digest 243 = .ok (.istore_n 3, 1) := by decide +kernel
theorem dX4_digest_244 : decode cX4_digest 244 = .ok (.iload_n 3, 1) := by decide +kernel
theorem dX4_digest_245 : decode cX4_digest 245 = .ok (.aload_n 0, 1) := by decide +kernel
theorem dX4_digest_246 : decode cX4_digest 246 = .ok (.getfield 119, 3) := by decide +kernel
theorem dX4_digest_249 : decode cX4_digest 249 = .ok (.if_icmp .ge 23, 3) := by decide +kernel
theorem dX4_digest_252 : decode cX4_digest 252 = .ok (.ldc2_w 203, 3) := by decide +kernel
theorem dX4_digest_255 : decode cX4_digest 255 = .ok (.lload_n 1, 1) := by decide +kernel
theorem dX4_digest_256 : decode cX4_digest 256 = .ok (.lmul, 1) := by decide +kernel
theorem dX4_digest_257 : decode cX4_digest 257 = .ok (.aload_n 0, 1) := by decide +kernel
theorem dX4_digest_258 : decode cX4_digest 258 = .ok (.getfield 17, 3) := by decide +kernel
theorem dX4_digest_261 : decode cX4_digest 261 = .ok (.iload_n 3, 1) := by decide +kernel
theorem dX4_digest_262 : decode cX4_digest 262 = .ok (.caload, 1) := by decide +kernel
theorem dX4_digest_263 : decode cX4_digest 263 = .ok (.i2l, 1) := by decide +kernel
theorem dX4_digest_264 : decode cX4_digest 264 = .ok (.ladd, 1) := by decide +kernel
theorem dX4_digest_265 : decode cX4_digest 265 = .ok (.lstore_n 1, 1) := by decide +kernel
theorem dX4_digest_266 : decode cX4_digest 266 = .ok (.iinc 3 1, 3) := by decide +kernel
theorem dX4_digest_269 : decode cX4_digest 269 = .ok (.goto (-25), 3) := by decide +kernel
theorem dX4_digest_272 : decode cX4_digest 272 = .ok (.lload_n 1, 1) := by decide +kernel
theorem dX4_digest_273 : decode cX4_digest 273 = .ok (.lreturn, 1) := by decide +kernel
