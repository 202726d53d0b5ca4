set_option maxRecDepth 20000 in
theorem ggX3_init_X2_init : GoodIn wsX3_init wsX2_init := goodIn_r _ [23, 24, 2, 3, 25, 26, 27, 28, 29, 30, 31, 32, 33, 34, 35, 36, 37, 38, 39, 40, 41, 42, 43, 44, 57, 58, 59, 60, 61, 62, 63, 64, 65, 66, 67, 68, 69, 70, 71, 72, 73, 74, 75] (by decide +kernel) (by decide +kernel)
set_option maxRecDepth 20000 in
theorem gX3_init_X2_init : GoodIn wsX3_init (wsX2_init) := ggX3_init_X2_init
set_option maxRecDepth 20000 in
theorem ggX3_init_X0_init : GoodIn wsX3_init wsX0_init := goodIn_r _ [46, 47, 2, 3, 48, 49, 50, 83, 84] (by decide +kernel) (by decide +kernel)
set_option maxRecDepth 20000 in
theorem gX3_init_X0_init_n33 : GoodIn wsX3_init (wsX0_init) := ggX3_init_X0_init
set_option maxRecDepth 20000 in
theorem ggX3_init_X1_init : GoodIn wsX3_init wsX1_init := goodIn_r _ [52, 53, 2, 3, 54, 25, 55, 56, 85, 86] (by decide +kernel) (by decide +kernel)
set_option maxRecDepth 20000 in
theorem gX3_init_X1_init_n40 : GoodIn wsX3_init (wsX1_init) := ggX3_init_X1_init
theorem dX3_init_0 : decode cX3_init 0 = .ok (.aload_n 0, 1) := by decide +kernel
theorem dX3_init_1 : decode cX3_init 1 = .ok (.invokespecial 3, 3) := by decide +kernel
theorem dX3_init_4 : decode cX3_init 4 = .ok (.aload_n 0, 1) := by decide +kernel
theorem dX3_init_5 : decode cX3_init 5 = .ok (.new 9, 3) := by decide +kernel
theorem dX3_init_8 : decode cX3_init 8 = .ok (.dup, 1) := by decide +kernel
theorem dX3_init_9 : decode cX3_init 9 = .ok (.invokespecial 11, 3) := by decide +kernel
theorem dX3_init_12 : decode cX3_init 12 = .ok (.putfield 12, 3) := by decide +kernel
theorem dX3_init_15 : decode cX3_init 15 = .ok (.aload_n 0, 1) := by decide +kernel
theorem dX3_init_16 : decode cX3_init 16 = .ok (.iconst 2, 1) := by decide +kernel
theorem dX3_init_17 : decode cX3_init 17 = .ok (.anewarray 9, 3) := by decide +kernel
theorem dX3_init_20 : decode cX3_init 20 = .ok (.putfield 16, 3) := by decide +kernel
theorem dX3_init_23 : decode cX3_init 23 = .ok (.aload_n 0, 1) := by decide +kernel
theorem dX3_init_24 : decode cX3_init 24 = .ok (.iconst 2, 1) := by decide +kernel
theorem dX3_init_25 : decode cX3_init 25 = .ok (.newarray .boolean, 2) := by decide +kernel
theorem dX3_init_27 : decode cX3_init 27 = .ok (.putfield 20, 3) := by decide +kernel
theorem dX3_init_30 : decode cX3_init 30 = .ok (.aload_n 0, 1) := by decide +kernel
theorem dX3_init_31 : decode cX3_init 31 = .ok (.bipush 6, 2) := by decide +kernel
theorem dX3_init_33 : decode cX3_init 33 = .ok (.anewarray 9, 3) := by decide +kernel
theorem dX3_init_36 : decode cX3_init 36 = .ok (.putfield 24, 3) := by decide +kernel
theorem dX3_init_39 : decode cX3_init 39 = .ok (.aload_n 0, 1) := by decide +kernel
theorem dX3_init_40 : decode cX3_init 40 = .ok (.iconst 0, 1) := by decide +kernel
theorem dX3_init_41 : decode cX3_init 41 = .ok (.putfield 27, 3) := by decide +kernel
theorem dX3_init_44 : decode cX3_init 44 = .ok (.aload_n 0, 1) := by decide +kernel
theorem dX3_init_45 : decode cX3_init 45 = .ok (.new 31, 3) := by decide +kernel
theorem dX3_init_48 : decode cX3_init 48 = .ok (.dup, 1) := by decide +kernel
theorem dX3_init_49 : decode cX3_init 49 = .ok (.invokespecial 33, 3) := by decide +kernel
theorem dX3_init_52 : decode cX3_init 52 = .ok (.putfield 34, 3) := by decide +kernel
theorem dX3_init_55 : decode cX3_init 55 = .ok (.aload_n 0, 1) := by decide +kernel
theorem dX3_init_56 : decode cX3_init 56 = .ok (.new 38, 3) := by decide +kernel
theorem dX3_init_59 : decode cX3_init 59 = .ok (.dup, 1) := by decide +kernel
theorem dX3_init_60 : decode cX3_init 60 = .ok (.invokespecial 40, 3) := by decide +kernel
theorem dX3_init_63 : decode cX3_init 63 = .ok (.putfield 41, 3) := by decide +kernel
theorem dX3_init_66 : decode cX3_init 66 = .ok (.iconst 0, 1) := by decide +kernel
theorem dX3_init_67 : decode cX3_init 67 = .ok (.istore_n 1, 1) := by decide +kernel
theorem dX3_init_68 : decode cX3_init 68 = .ok (.iload_n 1, 1) := by decide +kernel
theorem dX3_init_69 : decode cX3_init 69 = .ok (.iconst 2, 1) := by decide +kernel
theorem dX3_init_70 : decode cX3_init 70 = .ok (.if_icmp .ge 22, 3) := by decide +kernel
theorem dX3_init_73 : decode cX3_init 73 = .ok (.aload_n 0, 1) := by decide +kernel
theorem dX3_init_74 : decode cX3_init 74 = .ok (.getfield 16, 3) := by decide +kernel
theorem dX3_init_77 : decode cX3_init 77 = .ok (.iload_n 1, 1) := by decide +kernel
theorem dX3_init_78 : decode cX3_init 78 = .ok (.new 9, 3) := by decide +kernel
theorem dX3_init_81 : decode cX3_init 81 = .ok (.dup, 1) := by decide +kernel
theorem dX3_init_82 : decode cX3_init 82 = .ok (.invokespecial 11, 3) := by decide +kernel
theorem dX3_init_85 : decode cX3_init 85 = .ok (.aastore, 1) := by decide +kernel
theorem dX3_init_86 : decode cX3_init 86 = .ok (.iinc 1 1, 3) := by decide +kernel
theorem dX3_init_89 : decode cX3_init 89 = .ok (.goto (-21), 3) := by decide +kernel
theorem dX3_init_92 : decode cX3_init 92 = .ok (.iconst 0, 1) := by decide +kernel
theorem dX3_init_93 : decode cX3_init 93 = .ok (.istore_n 1, 1) := by decide +kernel
theorem dX3_init_94 : decode cX3_init 94 = .ok (.iload_n 1, 1) := by decide +kernel
theorem dX3_init_95 : decode cX3_init 95 = .ok (.bipush 6, 2) := by decide +kernel
theorem dX3_init_97 : decode cX3_init 97 = .ok (.if_icmp .ge 22, 3) := by decide +kernel
theorem dX3_init_100 : decode cX3_init 100 = .ok (.aload_n 0, 1) := by decide +kernel
theorem dX3_init_101 : decode cX3_init 101 = .ok (.getfield 24, 3) := by decide +kernel
theorem dX3_init_104 : decode cX3_init 104 = .ok (.iload_n 1, 1) := by decide +kernel
theorem dX3_init_105 : decode cX3_init 105 = .ok (.new 9, 3) := by decide +kernel
theorem dX3_init_108 : decode cX3_init 108 = .ok (.dup, 1) := by decide +kernel
theorem dX3_init_109 : decode cX3_init 109 = .ok (.invokespecial 11, 3) := by decide +kernel
theorem dX3_init_112 : decode cX3_init 112 = .ok (.aastore, 1) := by decide +kernel
theorem dX3_init_113 : decode cX3_init 113 = .ok (.iinc 1 1, 3) := by decide +kernel
theorem dX3_init_116 : decode cX3_init 116 = .ok (.goto (-22), 3) := by decide +kernel
theorem dX3_init_119 : decode cX3_init 119 = .ok (.return_, 1) := by decide +kernel
set_option maxRecDepth 20000 in
theorem ggX3_speak_X3_checkTrack : GoodIn wsX3_speak wsX3_checkTrack := goodIn_ca (goodIn_r _ [6, 7, 8] (by decide +kernel) (by decide +kernel)) (goodIn_sub (fun _ h => List.mem_cons_of_mem _ (List.mem_append_left _ (List.mem_append_right _ h))) (by decide +kernel))
set_option maxRecDepth 20000 in
theorem gX3_speak_X3_checkTrack : GoodIn wsX3_speak (wsV RX3 45 RX3 yX3_checkTrack wsX3_checkTrack) := goodIn_app (goodIn_of _ (by decide +kernel)) ggX3_speak_X3_checkTrack
set_option maxRecDepth 20000 in
theorem ggX3_speak_X3_checkLoudness : GoodIn wsX3_speak wsX3_checkLoudness := goodIn_ca (goodIn_r _ [12, 13, 14] (by decide +kernel) (by decide +kernel)) (goodIn_sub (fun _ h => List.mem_cons_of_mem _ (List.mem_append_right _ h)) (by decide +kernel))
set_option maxRecDepth 20000 in
theorem gX3_speak_X3_checkLoudness : GoodIn wsX3_speak (wsV RX3 49 RX3 yX3_checkLoudness wsX3_checkLoudness) := goodIn_app (goodIn_of _ (by decide +kernel)) ggX3_speak_X3_checkLoudness
set_option maxRecDepth 20000 in
theorem ggX3_speak_X3_saveState : GoodIn wsX3_speak wsX3_saveState := goodIn_r _ [18, 19, 20, 1, 21, 22, 23, 5, 24, 25, 26, 27, 28, 29, 30, 31, 32, 33, 34, 35, 36, 37, 38, 39, 40, 41, 42, 43, 44, 45, 46, 47, 48, 49, 50, 51, 52, 81, 82, 83, 84, 85, 86, 87, 88, 89, 90, 91, 92, 93, 94, 95, 96, 97, 98, 99, 100, 101, 102, 103, 104, 105, 106] (by decide +kernel) (by decide +kernel)
set_option maxRecDepth 20000 in
theorem gX3_speak_X3_saveState : GoodIn wsX3_speak (wsV RX3 52 RX3 yX3_saveState wsX3_saveState) := goodIn_app (goodIn_of _ (by decide +kernel)) ggX3_speak_X3_saveState
set_option maxRecDepth 20000 in
theorem ggX3_speak_X2_speakOnto : GoodIn wsX3_speak wsX2_speakOnto := goodIn_r _ [56, 52, 37, 38, 43, 44, 46, 57, 58, 59, 28, 60, 41, 61, 62, 63, 64, 30, 65, 5, 66, 67, 68, 69, 70, 71, 72, 73, 74, 35, 39, 36, 40, 75, 76, 77, 78, 79, 80, 88, 89, 90, 91, 92, 93, 94, 95, 96, 97, 98, 99, 100, 101, 102, 103, 104, 105, 106] (by decide +kernel) (by decide +kernel)
set_option maxRecDepth 20000 in
theorem gX3_speak_X2_speakOnto : GoodIn wsX3_speak (wsV RX3 55 RX2 yX2_speakOnto wsX2_speakOnto) := goodIn_app (goodIn_of _ (by decide +kernel)) ggX3_speak_X2_speakOnto
theorem dX3_speak_0 : decode cX3_speak 0 = .ok (.aload_n 0, 1) := by decide +kernel
theorem dX3_speak_1 : decode cX3_speak 1 = .ok (.iload_n 1, 1) := by decide +kernel
theorem dX3_speak_2 : decode cX3_speak 2 = .ok (.invokevirtual 45, 3) := by decide +kernel
theorem dX3_speak_5 : decode cX3_speak 5 = .ok (.aload_n 0, 1) := by decide +kernel
theorem dX3_speak_6 : decode cX3_speak 6 = .ok (.iload_n 2, 1) := by decide +kernel
theorem dX3_speak_7 : decode cX3_speak 7 = .ok (.invokevirtual 49, 3) := by decide +kernel
theorem dX3_speak_10 : decode cX3_speak 10 = .ok (.aload_n 0, 1) := by decide +kernel
theorem dX3_speak_11 : decode cX3_speak 11 = .ok (.invokevirtual 52, 3) := by decide +kernel
theorem dX3_speak_14 : decode cX3_speak 14 = .ok (.aload_n 0, 1) := by decide +kernel
theorem dX3_speak_15 : decode cX3_speak 15 = .ok (.getfield 12, 3) := by decide +kernel
theorem dX3_speak_18 : decode cX3_speak 18 = .ok (.iload_n 1, 1) := by decide +kernel
theorem dX3_speak_19 : decode cX3_speak 19 = .ok (.iload_n 2, 1) := by decide +kernel
theorem dX3_speak_20 : decode cX3_speak 20 = .ok (.invokevirtual 55, 3) := by decide +kernel
theorem dX3_speak_23 : decode cX3_speak 23 = .ok (.ireturn, 1) := by decide +kernel
set_option maxRecDepth 20000 in
theorem ggX3_copy_X3_checkTrack : GoodIn wsX3_copy wsX3_checkTrack := goodIn_ca (goodIn_r _ [6, 7, 8] (by decide +kernel) (by decide +kernel)) (goodIn_sub (fun _ h => List.mem_cons_of_mem _ (List.mem_append_left _ (List.mem_append_right _ h))) (by decide +kernel))
set_option maxRecDepth 20000 in
theorem gX3_copy_X3_checkTrack : GoodIn wsX3_copy (wsV RX3 45 RX3 yX3_checkTrack wsX3_checkTrack) := goodIn_app (goodIn_of _ (by decide +kernel)) ggX3_copy_X3_checkTrack
set_option maxRecDepth 20000 in
theorem ggX3_copy_X3_checkLever : GoodIn wsX3_copy wsX3_checkLever := goodIn_ca (goodIn_r _ [12, 13, 14] (by decide +kernel) (by decide +kernel)) (goodIn_sub (fun _ h => List.mem_cons_of_mem _ (List.mem_append_right _ h)) (by decide +kernel))
set_option maxRecDepth 20000 in
theorem gX3_copy_X3_checkLever : GoodIn wsX3_copy (wsV RX3 59 RX3 yX3_checkLever wsX3_checkLever) := goodIn_app (goodIn_of _ (by decide +kernel)) ggX3_copy_X3_checkLever
set_option maxRecDepth 20000 in
theorem ggX3_copy_X3_saveState : GoodIn wsX3_copy wsX3_saveState := goodIn_r _ [18, 19, 20, 1, 21, 22, 23, 5, 24, 25, 26, 27, 28, 29, 30, 31, 32, 33, 34, 35, 36, 37, 38, 39, 40, 41, 42, 43, 44, 45, 46, 47, 48, 49, 50, 51, 52, 94, 95, 96, 97, 98, 99, 100, 101, 102, 103, 104, 105, 106, 107, 108, 109, 110, 111, 112, 113, 114, 115, 116, 117, 118, 119] (by decide +kernel) (by decide +kernel)
set_option maxRecDepth 20000 in
theorem gX3_copy_X3_saveState : GoodIn wsX3_copy (wsV RX3 52 RX3 yX3_saveState wsX3_saveState) := goodIn_app (goodIn_of _ (by decide +kernel)) ggX3_copy_X3_saveState
set_option maxRecDepth 20000 in
theorem ggX3_copy_X2_copyOnto : GoodIn wsX3_copy wsX2_copyOnto := goodIn_r _ [56, 52, 37, 38, 36, 57, 58, 59, 60, 30, 44, 47, 61, 62, 63, 28, 64, 41, 65, 66, 67, 68, 69, 5, 70, 71, 72, 73, 74, 75, 76, 77, 78, 79, 80, 81, 82, 35, 43, 83, 84, 85, 86, 87, 88, 89, 90, 91, 39, 40, 92, 93, 101, 102, 103, 104, 105, 106, 107, 108, 109, 110, 111, 112, 113, 114, 115, 116, 117, 118, 119] (by decide +kernel) (by decide +kernel)
set_option maxRecDepth 20000 in
theorem gX3_copy_X2_copyOnto : GoodIn wsX3_copy (wsV RX3 62 RX2 yX2_copyOnto wsX2_copyOnto) := goodIn_app (goodIn_of _ (by decide +kernel)) ggX3_copy_X2_copyOnto
theorem dX3_copy_0 : decode cX3_copy 0 = .ok (.aload_n 0, 1) := by decide +kernel
theorem dX3_copy_1 : decode cX3_copy 1 = .ok (.iload_n 1, 1) := by decide +kernel
theorem dX3_copy_2 : decode cX3_copy 2 = .ok (.invokevirtual 45, 3) := by decide +kernel
theorem dX3_copy_5 : decode cX3_copy 5 = .ok (.aload_n 0, 1) := by decide +kernel
theorem dX3_copy_6 : decode cX3_copy 6 = .ok (.iload_n 2, 1) := by decide +kernel
theorem dX3_copy_7 : decode cX3_copy 7 = .ok (.invokevirtual 45, 3) := by decide +kernel
theorem dX3_copy_10 : decode cX3_copy 10 = .ok (.aload_n 0, 1) := by decide +kernel
theorem dX3_copy_11 : decode cX3_copy 11 = .ok (.iload_n 3, 1) := by decide +kernel
theorem dX3_copy_12 : decode cX3_copy 12 = .ok (.invokevirtual 59, 3) := by decide +kernel
theorem dX3_copy_15 : decode cX3_copy 15 = .ok (.aload_n 0, 1) := by decide +kernel
theorem dX3_copy_16 : decode cX3_copy 16 = .ok (.invokevirtual 52, 3) := by decide +kernel
theorem dX3_copy_19 : decode cX3_copy 19 = .ok (.aload_n 0, 1) := by decide +kernel
theorem dX3_copy_20 : decode cX3_copy 20 = .ok (.getfield 12, 3) := by decide +kernel
theorem dX3_copy_23 : decode cX3_copy 23 = .ok (.iload_n 1, 1) := by decide +kernel
theorem dX3_copy_24 : decode cX3_copy 24 = .ok (.iload_n 2, 1) := by decide +kernel
theorem dX3_copy_25 : decode cX3_copy 25 = .ok (.iload_n 3, 1) := by decide +kernel
theorem dX3_copy_26 : decode cX3_copy 26 = .ok (.invokevirtual 62, 3) := by decide +kernel
theorem dX3_copy_29 : decode cX3_copy 29 = .ok (.ireturn, 1) := by decide +kernel
set_option maxRecDepth 20000 in
theorem ggX3_play_X3_checkTrack : GoodIn wsX3_play wsX3_checkTrack := goodIn_ca (goodIn_r _ [6, 7, 8] (by decide +kernel) (by decide +kernel)) (goodIn_sub (fun _ h => List.mem_cons_of_mem _ (List.mem_append_right _ h)) (by decide +kernel))
set_option maxRecDepth 20000 in
theorem gX3_play_X3_checkTrack : GoodIn wsX3_play (wsV RX3 45 RX3 yX3_checkTrack wsX3_checkTrack) := goodIn_app (goodIn_of _ (by decide +kernel)) ggX3_play_X3_checkTrack
set_option maxRecDepth 20000 in
theorem ggX3_play_X3_saveState : GoodIn wsX3_play wsX3_saveState := goodIn_r _ [12, 13, 14, 1, 15, 16, 17, 5, 18, 19, 20, 21, 22, 23, 24, 25, 26, 27, 28, 29, 30, 31, 32, 33, 34, 35, 36, 37, 38, 39, 40, 41, 42, 43, 44, 45, 46, 59, 60, 61, 62, 63, 64, 65, 66, 67, 68, 69, 70, 71, 72, 73, 74, 75, 76, 77, 78, 79, 80, 81, 82, 83, 84] (by decide +kernel) (by decide +kernel)
set_option maxRecDepth 20000 in
theorem gX3_play_X3_saveState : GoodIn wsX3_play (wsV RX3 52 RX3 yX3_saveState wsX3_saveState) := goodIn_app (goodIn_of _ (by decide +kernel)) ggX3_play_X3_saveState
set_option maxRecDepth 20000 in
theorem ggX3_play_X2_playTrack : GoodIn wsX3_play wsX2_playTrack := goodIn_r _ [50, 38, 46, 29, 39, 51, 52, 53, 54, 34, 42, 55, 56, 57, 22, 58, 24, 66, 67, 68, 69, 70, 71, 72, 73, 74, 75, 76, 77, 78, 79, 80, 81, 82, 83, 84] (by decide +kernel) (by decide +kernel)
set_option maxRecDepth 20000 in
theorem gX3_play_X2_playTrack : GoodIn wsX3_play (wsV RX3 66 RX2 yX2_playTrack wsX2_playTrack) := goodIn_app (goodIn_of _ (by decide +kernel)) ggX3_play_X2_playTrack
theorem dX3_play_0 : decode cX3_play 0 = .ok (.aload_n 0, 1) := by decide +kernel
theorem dX3_play_1 : decode cX3_play 1 = .ok (.iload_n 1, 1) := by decide +kernel
theorem dX3_play_2 : decode cX3_play 2 = .ok (.invokevirtual 45, 3) := by decide +kernel
theorem dX3_play_5 : decode cX3_play 5 = .ok (.aload_n 0, 1) := by decide +kernel
theorem dX3_play_6 : decode cX3_play 6 = .ok (.invokevirtual 52, 3) := by decide +kernel
theorem dX3_play_9 : decode cX3_play 9 = .ok (.aload_n 0, 1) := by decide +kernel
theorem dX3_play_10 : decode cX3_play 10 = .ok (.getfield 12, 3) := by decide +kernel
theorem dX3_play_13 : decode cX3_play 13 = .ok (.iload_n 1, 1) := by decide +kernel
theorem dX3_play_14 : decode cX3_play 14 = .ok (.invokevirtual 66, 3) := by decide +kernel
theorem dX3_play_17 : decode cX3_play 17 = .ok (.ireturn, 1) := by decide +kernel
set_option maxRecDepth 20000 in
theorem ggX3_shave_X3_checkCylinder : GoodIn wsX3_shave wsX3_checkCylinder := goodIn_ca (goodIn_r _ [6, 7, 8] (by decide +kernel) (by decide +kernel)) (goodIn_sub (fun _ h => List.mem_cons_of_mem _ (List.mem_append_right _ h)) (by decide +kernel))
set_option maxRecDepth 20000 in
theorem gX3_shave_X3_checkCylinder : GoodIn wsX3_shave (wsV RX3 70 RX3 yX3_checkCylinder wsX3_checkCylinder) := goodIn_app (goodIn_of _ (by decide +kernel)) ggX3_shave_X3_checkCylinder
set_option maxRecDepth 20000 in
theorem ggX3_shave_X3_saveState : GoodIn wsX3_shave wsX3_saveState := goodIn_r _ [12, 13, 14, 1, 15, 16, 17, 5, 18, 19, 20, 21, 22, 23, 24, 25, 26, 27, 28, 29, 30, 31, 32, 33, 34, 35, 36, 37, 38, 39, 40, 41, 42, 43, 44, 45, 46, 63, 64, 65, 66, 67, 68, 69, 70, 71, 72, 73, 74, 75, 76, 77, 78, 79, 80, 81, 82, 83, 84, 85, 86, 87, 88] (by decide +kernel) (by decide +kernel)
set_option maxRecDepth 20000 in
theorem gX3_shave_X3_saveState : GoodIn wsX3_shave (wsV RX3 52 RX3 yX3_saveState wsX3_saveState) := goodIn_app (goodIn_of _ (by decide +kernel)) ggX3_shave_X3_saveState
set_option maxRecDepth 20000 in
theorem ggX3_shave_X2_shaveCylinder : GoodIn wsX3_shave wsX2_shaveCylinder := goodIn_r _ [50, 46, 35, 43, 36, 51, 52, 53, 22, 54, 24, 55, 56, 57, 58, 59, 60, 61, 62, 32, 70, 71, 72, 73, 74, 75, 76, 77, 78, 79, 80, 81, 82, 83, 84, 85, 86, 87, 88] (by decide +kernel) (by decide +kernel)
set_option maxRecDepth 20000 in
theorem gX3_shave_X2_shaveCylinder : GoodIn wsX3_shave (wsV RX3 73 RX2 yX2_shaveCylinder wsX2_shaveCylinder) := goodIn_app (goodIn_of _ (by decide +kernel)) ggX3_shave_X2_shaveCylinder
theorem dX3_shave_0 : decode cX3_shave 0 = .ok (.aload_n 0, 1) := by decide +kernel
theorem dX3_shave_1 : decode cX3_shave 1 = .ok (.iload_n 1, 1) := by decide +kernel
theorem dX3_shave_2 : decode cX3_shave 2 = .ok (.invokevirtual 70, 3) := by decide +kernel
theorem dX3_shave_5 : decode cX3_shave 5 = .ok (.aload_n 0, 1) := by decide +kernel
theorem dX3_shave_6 : decode cX3_shave 6 = .ok (.invokevirtual 52, 3) := by decide +kernel
theorem dX3_shave_9 : decode cX3_shave 9 = .ok (.aload_n 0, 1) := by decide +kernel
theorem dX3_shave_10 : decode cX3_shave 10 = .ok (.getfield 12, 3) := by decide +kernel
theorem dX3_shave_13 : decode cX3_shave 13 = .ok (.iload_n 1, 1) := by decide +kernel
theorem dX3_shave_14 : decode cX3_shave 14 = .ok (.invokevirtual 73, 3) := by decide +kernel
theorem dX3_shave_17 : decode cX3_shave 17 = .ok (.ireturn, 1) := by decide +kernel
set_option maxRecDepth 20000 in
theorem ggX3_wind_X3_saveState : GoodIn wsX3_wind wsX3_saveState := goodIn_r _ [6, 7, 8, 1, 9, 10, 11, 5, 12, 13, 14, 15, 16, 17, 18, 19, 20, 21, 22, 23, 24, 25, 26, 27, 28, 29, 30, 31, 32, 33, 34, 35, 36, 37, 38, 39, 40, 45, 46, 47, 48, 49, 50, 51, 52, 53, 54, 55, 56, 57, 58, 59, 60, 61, 62, 63, 64, 65, 66, 67, 68, 69, 70] (by decide +kernel) (by decide +kernel)
set_option maxRecDepth 20000 in
theorem gX3_wind_X3_saveState : GoodIn wsX3_wind (wsV RX3 52 RX3 yX3_saveState wsX3_saveState) := goodIn_app (goodIn_of _ (by decide +kernel)) ggX3_wind_X3_saveState
set_option maxRecDepth 20000 in
theorem ggX3_wind_X2_windUp : GoodIn wsX3_wind wsX2_windUp := goodIn_r _ [44, 32, 52, 53, 54, 55, 56, 57, 58, 59, 60, 61, 62, 63, 64, 65, 66, 67, 68, 69, 70] (by decide +kernel) (by decide +kernel)
set_option maxRecDepth 20000 in
theorem gX3_wind_X2_windUp : GoodIn wsX3_wind (wsV RX3 76 RX2 yX2_windUp wsX2_windUp) := goodIn_app (goodIn_of _ (by decide +kernel)) ggX3_wind_X2_windUp
theorem dX3_wind_0 : decode cX3_wind 0 = .ok (.aload_n 0, 1) := by decide +kernel
theorem dX3_wind_1 : decode cX3_wind 1 = .ok (.invokevirtual 52, 3) := by decide +kernel
theorem dX3_wind_4 : decode cX3_wind 4 = .ok (.aload_n 0, 1) := by decide +kernel
theorem dX3_wind_5 : decode cX3_wind 5 = .ok (.getfield 12, 3) := by decide +kernel
theorem dX3_wind_8 : decode cX3_wind 8 = .ok (.invokevirtual 76, 3) := by decide +kernel
theorem dX3_wind_11 : decode cX3_wind 11 = .ok (.ireturn, 1) := by decide +kernel
set_option maxRecDepth 20000 in
theorem ggX3_sharpen_X3_saveState : GoodIn wsX3_sharpen wsX3_saveState := goodIn_r _ [6, 7, 8, 1, 9, 10, 11, 5, 12, 13, 14, 15, 16, 17, 18, 19, 20, 21, 22, 23, 24, 25, 26, 27, 28, 29, 30, 31, 32, 33, 34, 35, 36, 37, 38, 39, 40, 45, 46, 47, 48, 49, 50, 51, 52, 53, 54, 55, 56, 57, 58, 59, 60, 61, 62, 63, 64, 65, 66, 67, 68, 69, 70] (by decide +kernel) (by decide +kernel)
set_option maxRecDepth 20000 in
theorem gX3_sharpen_X3_saveState : GoodIn wsX3_sharpen (wsV RX3 52 RX3 yX3_saveState wsX3_saveState) := goodIn_app (goodIn_of _ (by decide +kernel)) ggX3_sharpen_X3_saveState
set_option maxRecDepth 20000 in
theorem ggX3_sharpen_X2_sharpenPoint : GoodIn wsX3_sharpen wsX2_sharpenPoint := goodIn_r _ [44, 31, 52, 53, 54, 55, 56, 57, 58, 59, 60, 61, 62, 63, 64, 65, 66, 67, 68, 69, 70] (by decide +kernel) (by decide +kernel)
set_option maxRecDepth 20000 in
theorem gX3_sharpen_X2_sharpenPoint : GoodIn wsX3_sharpen (wsV RX3 80 RX2 yX2_sharpenPoint wsX2_sharpenPoint) := goodIn_app (goodIn_of _ (by decide +kernel)) ggX3_sharpen_X2_sharpenPoint
theorem dX3_sharpen_0 : decode cX3_sharpen 0 = .ok (.aload_n 0, 1) := by decide +kernel
theorem dX3_sharpen_1 : decode cX3_sharpen 1 = .ok (.invokevirtual 52, 3) := by decide +kernel
theorem dX3_sharpen_4 : decode cX3_sharpen 4 = .ok (.aload_n 0, 1) := by decide +kernel
theorem dX3_sharpen_5 : decode cX3_sharpen 5 = .ok (.getfield 12, 3) := by decide +kernel
theorem dX3_sharpen_8 : decode cX3_sharpen 8 = .ok (.invokevirtual 80, 3) := by decide +kernel
theorem dX3_sharpen_11 : decode cX3_sharpen 11 = .ok (.ireturn, 1) := by decide +kernel
set_option maxRecDepth 20000 in
theorem ggX3_renew_X3_checkCylinder : GoodIn wsX3_renew wsX3_checkCylinder := goodIn_ca (goodIn_r _ [8, 9, 10] (by decide +kernel) (by decide +kernel)) (goodIn_sub (fun _ h => List.mem_cons_of_mem _ (List.mem_append_right _ h)) (by decide +kernel))
set_option maxRecDepth 20000 in
theorem gX3_renew_X3_checkCylinder : GoodIn wsX3_renew (wsV RX3 70 RX3 yX3_checkCylinder wsX3_checkCylinder) := goodIn_app (goodIn_of _ (by decide +kernel)) ggX3_renew_X3_checkCylinder
set_option maxRecDepth 20000 in
theorem ggX3_renew_X3_saveState : GoodIn wsX3_renew wsX3_saveState := goodIn_r _ [14, 15, 16, 3, 17, 18, 19, 7, 20, 21, 22, 23, 24, 25, 26, 27, 28, 29, 30, 31, 32, 33, 34, 35, 36, 37, 38, 39, 40, 41, 42, 43, 44, 45, 46, 47, 48, 57, 58, 59, 60, 61, 62, 63, 64, 65, 66, 67, 68, 69, 70, 71, 72, 73, 74, 75, 76, 77, 78, 79, 80, 81, 82] (by decide +kernel) (by decide +kernel)
set_option maxRecDepth 20000 in
theorem gX3_renew_X3_saveState : GoodIn wsX3_renew (wsV RX3 52 RX3 yX3_saveState wsX3_saveState) := goodIn_app (goodIn_of _ (by decide +kernel)) ggX3_renew_X3_saveState
set_option maxRecDepth 20000 in
theorem ggX3_renew_X2_renewCylinder : GoodIn wsX3_renew wsX2_renewCylinder := goodIn_r _ [52, 37, 47, 46, 38, 53, 54, 55, 24, 56, 26, 34, 64, 65, 66, 67, 68, 69, 70, 71, 72, 73, 74, 75, 76, 77, 78, 79, 80, 81, 82] (by decide +kernel) (by decide +kernel)
set_option maxRecDepth 20000 in
theorem gX3_renew_X2_renewCylinder : GoodIn wsX3_renew (wsV RX3 90 RX2 yX2_renewCylinder wsX2_renewCylinder) := goodIn_app (goodIn_of _ (by decide +kernel)) ggX3_renew_X2_renewCylinder
theorem dX3_renew_0 : decode cX3_renew 0 = .ok (.aload_n 0, 1) := by decide +kernel
theorem dX3_renew_1 : decode cX3_renew 1 = .ok (.iload_n 1, 1) := by decide +kernel
theorem dX3_renew_2 : decode cX3_renew 2 = .ok (.invokevirtual 70, 3) := by decide +kernel
theorem dX3_renew_5 : decode cX3_renew 5 = .ok (.iload_n 2, 1) := by decide +kernel
theorem dX3_renew_6 : decode cX3_renew 6 = .ok (.ifCond .lt 9, 3) := by decide +kernel
theorem dX3_renew_9 : decode cX3_renew 9 = .ok (.iload_n 2, 1) := by decide +kernel
theorem dX3_renew_10 : decode cX3_renew 10 = .ok (.bipush 100, 2) := by decide +kernel
theorem dX3_renew_12 : decode cX3_renew 12 = .ok (.if_icmp .le 13, 3) := by decide +kernel
theorem dX3_renew_15 : decode cX3_renew 15 = .ok (.new 83, 3) := by decide +kernel
theorem dX3_renew_18 : decode cX3_renew 18 = .ok (.dup, 1) := by decide +kernel
theorem dX3_renew_19 : decode cX3_renew 19 = .ok (.ldc 85, 2) := by decide +kernel
theorem dX3_renew_21 : decode cX3_renew 21 = .ok (.invokespecial 87, 3) := by decide +kernel
theorem dX3_renew_24 : decode cX3_renew 24 = .ok (.athrow, 1) := by decide +kernel
theorem dX3_renew_25 : decode cX3_renew 25 = .ok (.aload_n 0, 1) := by decide +kernel
theorem dX3_renew_26 : decode cX3_renew 26 = .ok (.invokevirtual 52, 3) := by decide +kernel
theorem dX3_renew_29 : decode cX3_renew 29 = .ok (.aload_n 0, 1) := by decide +kernel
theorem dX3_renew_30 : decode cX3_renew 30 = .ok (.getfield 12, 3) := by decide +kernel
theorem dX3_renew_33 : decode cX3_renew 33 = .ok (.iload_n 1, 1) := by decide +kernel
theorem dX3_renew_34 : decode cX3_renew 34 = .ok (.iload_n 2, 1) := by decide +kernel
theorem dX3_renew_35 : decode cX3_renew 35 = .ok (.invokevirtual 90, 3) := by decide +kernel
theorem dX3_renew_38 : decode cX3_renew 38 = .ok (.ireturn, 1) := by decide +kernel
set_option maxRecDepth 20000 in
theorem ggX3_set_X3_saveState : GoodIn wsX3_set wsX3_saveState := goodIn_r _ [9, 10, 11, 3, 12, 13, 14, 8, 15, 16, 17, 18, 19, 20, 21, 22, 23, 24, 25, 26, 27, 28, 29, 30, 31, 32, 33, 34, 35, 36, 37, 38, 39, 40, 41, 42, 43, 44, 45, 46, 47, 48, 49, 50, 51, 52, 53, 54, 55, 56, 57, 58, 59, 60, 61, 62, 63, 64, 65, 66, 67, 68, 69] (by decide +kernel) (by decide +kernel)
set_option maxRecDepth 20000 in
theorem gX3_set_X3_saveState : GoodIn wsX3_set (wsV RX3 52 RX3 yX3_saveState wsX3_saveState) := goodIn_app (goodIn_of _ (by decide +kernel)) ggX3_set_X3_saveState
theorem dX3_set_0 : decode cX3_set 0 = .ok (.iload_n 1, 1) := by decide +kernel
theorem dX3_set_1 : decode cX3_set 1 = .ok (.ifCond .lt 9, 3) := by decide +kernel
theorem dX3_set_4 : decode cX3_set 4 = .ok (.iload_n 1, 1) := by decide +kernel
theorem dX3_set_5 : decode cX3_set 5 = .ok (.bipush 20, 2) := by decide +kernel
theorem dX3_set_7 : decode cX3_set 7 = .ok (.if_icmp .le 13, 3) := by decide +kernel
theorem dX3_set_10 : decode cX3_set 10 = .ok (.new 83, 3) := by decide +kernel
theorem dX3_set_13 : decode cX3_set 13 = .ok (.dup, 1) := by decide +kernel
theorem dX3_set_14 : decode cX3_set 14 = .ok (.ldc 93, 2) := by decide +kernel
theorem dX3_set_16 : decode cX3_set 16 = .ok (.invokespecial 87, 3) := by decide +kernel
theorem dX3_set_19 : decode cX3_set 19 = .ok (.athrow, 1) := by decide +kernel
theorem dX3_set_20 : decode cX3_set 20 = .ok (.aload_n 0, 1) := by decide +kernel
theorem dX3_set_21 : decode cX3_set 21 = .ok (.invokevirtual 52, 3) := by decide +kernel
theorem dX3_set_24 : decode cX3_set 24 = .ok (.aload_n 0, 1) := by decide +kernel
theorem dX3_set_25 : decode cX3_set 25 = .ok (.getfield 12, 3) := by decide +kernel
theorem dX3_set_28 : decode cX3_set 28 = .ok (.getfield 95, 3) := by decide +kernel
theorem dX3_set_31 : decode cX3_set 31 = .ok (.istore_n 2, 1) := by decide +kernel
theorem dX3_set_32 : decode cX3_set 32 = .ok (.aload_n 0, 1) := by decide +kernel
theorem dX3_set_33 : decode cX3_set 33 = .ok (.getfield 12, 3) := by decide +kernel
theorem dX3_set_36 : decode cX3_set 36 = .ok (.iload_n 1, 1) := by decide +kernel
theorem dX3_set_37 : decode cX3_set 37 = .ok (.putfield 95, 3) := by decide +kernel
theorem dX3_set_40 : decode cX3_set 40 = .ok (.iload_n 2, 1) := by decide +kernel
theorem dX3_set_41 : decode cX3_set 41 = .ok (.ireturn, 1) := by decide +kernel
set_option maxRecDepth 20000 in
theorem ggX3_undo_X2_takeOver : GoodIn wsX3_undo wsX2_takeOver := goodIn_r _ [10, 11, 12, 13, 14, 15, 16, 17, 18, 19, 20, 21, 22, 23, 24, 25, 26, 27, 28, 29, 30, 31, 32, 33, 41, 42, 43, 44, 45, 46, 47, 48, 49, 50, 51, 52, 53, 54, 55, 56, 57, 58, 59] (by decide +kernel) (by decide +kernel)
set_option maxRecDepth 20000 in
theorem gX3_undo_X2_takeOver : GoodIn wsX3_undo (wsV RX3 130 RX2 yX2_takeOver wsX2_takeOver) := goodIn_app (goodIn_of _ (by decide +kernel)) ggX3_undo_X2_takeOver
theorem dX3_undo_0 : decode cX3_undo 0 = .ok (.aload_n 0, 1) := by decide +kernel
theorem dX3_undo_1 : decode cX3_undo 1 = .ok (.getfield 27, 3) := by decide +kernel
theorem dX3_undo_4 : decode cX3_undo 4 = .ok (.ifCond .gt 13, 3) := by decide +kernel
theorem dX3_undo_7 : decode cX3_undo 7 = .ok (.new 104, 3) := by decide +kernel
theorem dX3_undo_10 : decode cX3_undo 10 = .ok (.dup, 1) := by decide +kernel
theorem dX3_undo_11 : decode cX3_undo 11 = .ok (.ldc 139, 2) := by decide +kernel
theorem dX3_undo_13 : decode cX3_undo 13 = .ok (.invokespecial 108, 3) := by decide +kernel
theorem dX3_undo_16 : decode cX3_undo 16 = .ok (.athrow, 1) := by decide +kernel
theorem dX3_undo_17 : decode cX3_undo 17 = .ok (.aload_n 0, 1) := by decide +kernel
theorem dX3_undo_18 : decode cX3_undo 18 = .ok (.dup, 1) := by decide +kernel
theorem dX3_undo_19 : decode cX3_undo 19 = .ok (.getfield 27, 3) := by decide +kernel
theorem dX3_undo_22 : decode cX3_undo 22 = .ok (.iconst 1, 1) := by decide +kernel
theorem dX3_undo_23 : decode cX3_undo 23 = .ok (.isub, 1) := by decide +kernel
theorem dX3_undo_24 : decode cX3_undo 24 = .ok (.putfield 27, 3) := by decide +kernel
theorem dX3_undo_27 : decode cX3_undo 27 = .ok (.aload_n 0, 1) := by decide +kernel
theorem dX3_undo_28 : decode cX3_undo 28 = .ok (.getfield 12, 3) := by decide +kernel
theorem dX3_undo_31 : decode cX3_undo 31 = .ok (.aload_n 0, 1) := by decide +kernel
theorem dX3_undo_32 : decode cX3_undo 32 = .ok (.getfield 24, 3) := by decide +kernel
theorem dX3_undo_35 : decode cX3_undo 35 = .ok (.aload_n 0, 1) := by decide +kernel
theorem dX3_undo_36 : decode cX3_undo 36 = .ok (.getfield 27, 3) := by decide +kernel
theorem dX3_undo_39 : decode cX3_undo 39 = .ok (.aaload, 1) := by decide +kernel
theorem dX3_undo_40 : decode cX3_undo 40 = .ok (.invokevirtual 130, 3) := by decide +kernel
theorem dX3_undo_43 : decode cX3_undo 43 = .ok (.aload_n 0, 1) := by decide +kernel
theorem dX3_undo_44 : decode cX3_undo 44 = .ok (.getfield 27, 3) := by decide +kernel
theorem dX3_undo_47 : decode cX3_undo 47 = .ok (.ireturn, 1) := by decide +kernel
set_option maxRecDepth 20000 in
theorem ggX3_trackOf_X3_checkTrack : GoodIn wsX3_trackOf wsX3_checkTrack := goodIn_ca (goodIn_r _ [6, 7, 8] (by decide +kernel) (by decide +kernel)) (goodIn_sub (fun _ h => List.mem_cons_of_mem _ (List.mem_append_left _ (List.mem_append_right _ h))) (by decide +kernel))
set_option maxRecDepth 20000 in
theorem gX3_trackOf_X3_checkTrack : GoodIn wsX3_trackOf (wsV RX3 45 RX3 yX3_checkTrack wsX3_checkTrack) := goodIn_app (goodIn_of _ (by decide +kernel)) ggX3_trackOf_X3_checkTrack
set_option maxRecDepth 20000 in
theorem ggX3_trackOf_X3_checkWhat : GoodIn wsX3_trackOf wsX3_checkWhat := goodIn_ca (goodIn_r _ [12, 13, 14] (by decide +kernel) (by decide +kernel)) (goodIn_sub (fun _ h => List.mem_cons_of_mem _ (List.mem_append_right _ h)) (by decide +kernel))
set_option maxRecDepth 20000 in
theorem gX3_trackOf_X3_checkWhat : GoodIn wsX3_trackOf (wsV RX3 141 RX3 yX3_checkWhat wsX3_checkWhat) := goodIn_app (goodIn_of _ (by decide +kernel)) ggX3_trackOf_X3_checkWhat
set_option maxRecDepth 20000 in
theorem ggX3_trackOf_X2_trackProperty : GoodIn wsX3_trackOf wsX2_trackProperty := goodIn_r _ [19, 20, 21, 22, 23, 24, 25, 26, 27, 28, 29, 18, 30, 38, 39, 40, 41, 42, 43, 44, 45, 46, 47, 48, 49, 50, 51, 52, 53, 54, 55, 56] (by decide +kernel) (by decide +kernel)
set_option maxRecDepth 20000 in
theorem gX3_trackOf_X2_trackProperty : GoodIn wsX3_trackOf (wsV RX3 145 RX2 yX2_trackProperty wsX2_trackProperty) := goodIn_app (goodIn_of _ (by decide +kernel)) ggX3_trackOf_X2_trackProperty
theorem dX3_trackOf_0 : decode cX3_trackOf 0 = .ok (.aload_n 0, 1) := by decide +kernel
theorem dX3_trackOf_1 : decode cX3_trackOf 1 = .ok (.iload_n 1, 1) := by decide +kernel
theorem dX3_trackOf_2 : decode cX3_trackOf 2 = .ok (.invokevirtual 45, 3) := by decide +kernel
theorem dX3_trackOf_5 : decode cX3_trackOf 5 = .ok (.aload_n 0, 1) := by decide +kernel
theorem dX3_trackOf_6 : decode cX3_trackOf 6 = .ok (.iload_n 2, 1) := by decide +kernel
theorem dX3_trackOf_7 : decode cX3_trackOf 7 = .ok (.bipush 7, 2) := by decide +kernel
theorem dX3_trackOf_9 : decode cX3_trackOf 9 = .ok (.invokevirtual 141, 3) := by decide +kernel
theorem dX3_trackOf_12 : decode cX3_trackOf 12 = .ok (.aload_n 0, 1) := by decide +kernel
theorem dX3_trackOf_13 : decode cX3_trackOf 13 = .ok (.getfield 12, 3) := by decide +kernel
theorem dX3_trackOf_16 : decode cX3_trackOf 16 = .ok (.iload_n 1, 1) := by decide +kernel
theorem dX3_trackOf_17 : decode cX3_trackOf 17 = .ok (.iload_n 2, 1) := by decide +kernel
theorem dX3_trackOf_18 : decode cX3_trackOf 18 = .ok (.invokevirtual 145, 3) := by decide +kernel
theorem dX3_trackOf_21 : decode cX3_trackOf 21 = .ok (.ireturn, 1) := by decide +kernel
set_option maxRecDepth 20000 in
theorem ggX3_cylinderOf_X3_checkCylinder : GoodIn wsX3_cylinderOf wsX3_checkCylinder := goodIn_ca (goodIn_r _ [6, 7, 8] (by decide +kernel) (by decide +kernel)) (goodIn_sub (fun _ h => List.mem_cons_of_mem _ (List.mem_append_left _ (List.mem_append_right _ h))) (by decide +kernel))
set_option maxRecDepth 20000 in
theorem gX3_cylinderOf_X3_checkCylinder : GoodIn wsX3_cylinderOf (wsV RX3 70 RX3 yX3_checkCylinder wsX3_checkCylinder) := goodIn_app (goodIn_of _ (by decide +kernel)) ggX3_cylinderOf_X3_checkCylinder
set_option maxRecDepth 20000 in
theorem ggX3_cylinderOf_X3_checkWhat : GoodIn wsX3_cylinderOf wsX3_checkWhat := goodIn_ca (goodIn_r _ [12, 13, 14] (by decide +kernel) (by decide +kernel)) (goodIn_sub (fun _ h => List.mem_cons_of_mem _ (List.mem_append_right _ h)) (by decide +kernel))
set_option maxRecDepth 20000 in
theorem gX3_cylinderOf_X3_checkWhat : GoodIn wsX3_cylinderOf (wsV RX3 141 RX3 yX3_checkWhat wsX3_checkWhat) := goodIn_app (goodIn_of _ (by decide +kernel)) ggX3_cylinderOf_X3_checkWhat
set_option maxRecDepth 20000 in
theorem ggX3_cylinderOf_X2_cylinderProperty : GoodIn wsX3_cylinderOf wsX2_cylinderProperty := goodIn_r _ [19, 20, 21, 22, 23, 24, 18, 25, 26, 27, 28, 29, 30, 31, 32, 33, 34, 35, 36, 37, 38, 39, 40, 41, 42, 43, 51, 52, 53, 54, 55, 56, 57, 58, 59, 60, 61, 62, 63, 64, 65, 66, 67, 68, 69] (by decide +kernel) (by decide +kernel)
set_option maxRecDepth 20000 in
theorem gX3_cylinderOf_X2_cylinderProperty : GoodIn wsX3_cylinderOf (wsV RX3 148 RX2 yX2_cylinderProperty wsX2_cylinderProperty) := goodIn_app (goodIn_of _ (by decide +kernel)) ggX3_cylinderOf_X2_cylinderProperty
theorem dX3_cylinderOf_0 : decode cX3_cylinderOf 0 = .ok (.aload_n 0, 1) := by decide +kernel
theorem dX3_cylinderOf_1 : decode cX3_cylinderOf 1 = .ok (.iload_n 1, 1) := by decide +kernel
theorem dX3_cylinderOf_2 : decode cX3_cylinderOf 2 = .ok (.invokevirtual 70, 3) := by decide +kernel
theorem dX3_cylinderOf_5 : decode cX3_cylinderOf 5 = .ok (.aload_n 0, 1) := by decide +kernel
theorem dX3_cylinderOf_6 : decode cX3_cylinderOf 6 = .ok (.iload_n 2, 1) := by decide +kernel
theorem dX3_cylinderOf_7 : decode cX3_cylinderOf 7 = .ok (.iconst 5, 1) := by decide +kernel
theorem dX3_cylinderOf_8 : decode cX3_cylinderOf 8 = .ok (.invokevirtual 141, 3) := by decide +kernel
theorem dX3_cylinderOf_11 : decode cX3_cylinderOf 11 = .ok (.aload_n 0, 1) := by decide +kernel
theorem dX3_cylinderOf_12 : decode cX3_cylinderOf 12 = .ok (.getfield 12, 3) := by decide +kernel
theorem dX3_cylinderOf_15 : decode cX3_cylinderOf 15 = .ok (.iload_n 1, 1) := by decide +kernel
theorem dX3_cylinderOf_16 : decode cX3_cylinderOf 16 = .ok (.iload_n 2, 1) := by decide +kernel
theorem dX3_cylinderOf_17 : decode cX3_cylinderOf 17 = .ok (.invokevirtual 148, 3) := by decide +kernel
theorem dX3_cylinderOf_20 : decode cX3_cylinderOf 20 = .ok (.ireturn, 1) := by decide +kernel
set_option maxRecDepth 20000 in
theorem ggX3_count_X3_checkWhat : GoodIn wsX3_count wsX3_checkWhat := goodIn_ca (goodIn_r _ [7, 8, 9] (by decide +kernel) (by decide +kernel)) (goodIn_sub (fun _ h => List.mem_cons_of_mem _ (List.mem_append_right _ h)) (by decide +kernel))
set_option maxRecDepth 20000 in
theorem gX3_count_X3_checkWhat : GoodIn wsX3_count (wsV RX3 141 RX3 yX3_checkWhat wsX3_checkWhat) := goodIn_app (goodIn_of _ (by decide +kernel)) ggX3_count_X3_checkWhat
set_option maxRecDepth 20000 in
theorem ggX3_count_X2_number : GoodIn wsX3_count wsX2_number := goodIn_r _ [14, 15, 16, 17, 18, 19, 20, 21, 22, 23, 24, 25, 26, 13, 27, 28, 29, 30, 31, 32, 33, 34, 35, 36, 37, 38, 39, 40, 41, 42, 43, 44, 45, 53, 54, 55, 56, 57, 58, 59, 60, 61, 62, 63, 64, 65, 66, 67, 68, 69, 70, 71] (by decide +kernel) (by decide +kernel)
set_option maxRecDepth 20000 in
theorem gX3_count_X2_number : GoodIn wsX3_count (wsV RX3 151 RX2 yX2_number wsX2_number) := goodIn_app (goodIn_of _ (by decide +kernel)) ggX3_count_X2_number
theorem dX3_count_0 : decode cX3_count 0 = .ok (.aload_n 0, 1) := by decide +kernel
theorem dX3_count_1 : decode cX3_count 1 = .ok (.iload_n 1, 1) := by decide +kernel
theorem dX3_count_2 : decode cX3_count 2 = .ok (.bipush 13, 2) := by decide +kernel
theorem dX3_count_4 : decode cX3_count 4 = .ok (.invokevirtual 141, 3) := by decide +kernel
theorem dX3_count_7 : decode cX3_count 7 = .ok (.iload_n 1, 1) := by decide +kernel
theorem dX3_count_8 : decode cX3_count 8 = .ok (.bipush 12, 2) := by decide +kernel
theorem dX3_count_10 : decode cX3_count 10 = .ok (.if_icmp .ne 10, 3) := by decide +kernel
theorem dX3_count_13 : decode cX3_count 13 = .ok (.aload_n 0, 1) := by decide +kernel
theorem dX3_count_14 : decode cX3_count 14 = .ok (.getfield 27, 3) := by decide +kernel
theorem dX3_count_17 : decode cX3_count 17 = .ok (.goto 11, 3) := by decide +kernel
theorem dX3_count_20 : decode cX3_count 20 = .ok (.aload_n 0, 1) := by decide +kernel
theorem dX3_count_21 : decode cX3_count 21 = .ok (.getfield 12, 3) := by decide +kernel
theorem dX3_count_24 : decode cX3_count 24 = .ok (.iload_n 1, 1) := by decide +kernel
theorem dX3_count_25 : decode cX3_count 25 = .ok (.invokevirtual 151, 3) := by decide +kernel
theorem dX3_count_28 : decode cX3_count 28 = .ok (.ireturn, 1) := by decide +kernel
theorem dX3_setting_0 : decode cX3_setting 0 = .ok (.aload_n 0, 1) := by decide +kernel
theorem dX3_setting_1 : decode cX3_setting 1 = .ok (.getfield 12, 3) := by decide +kernel
theorem dX3_setting_4 : decode cX3_setting 4 = .ok (.getfield 95, 3) := by decide +kernel
theorem dX3_setting_7 : decode cX3_setting 7 = .ok (.ireturn, 1) := by decide +kernel
set_option maxRecDepth 20000 in
theorem ggX3_whyNot_X3_checkTrack : GoodIn wsX3_whyNot wsX3_checkTrack := goodIn_ca (goodIn_r _ [6, 7, 8] (by decide +kernel) (by decide +kernel)) (goodIn_sub (fun _ h => List.mem_cons_of_mem _ (List.mem_append_left _ (List.mem_append_right _ h))) (by decide +kernel))
set_option maxRecDepth 20000 in
theorem gX3_whyNot_X3_checkTrack : GoodIn wsX3_whyNot (wsV RX3 45 RX3 yX3_checkTrack wsX3_checkTrack) := goodIn_app (goodIn_of _ (by decide +kernel)) ggX3_whyNot_X3_checkTrack
set_option maxRecDepth 20000 in
theorem ggX3_whyNot_X3_checkLoudness : GoodIn wsX3_whyNot wsX3_checkLoudness := goodIn_ca (goodIn_r _ [12, 13, 14] (by decide +kernel) (by decide +kernel)) (goodIn_sub (fun _ h => List.mem_cons_of_mem _ (List.mem_append_right _ h)) (by decide +kernel))
set_option maxRecDepth 20000 in
theorem gX3_whyNot_X3_checkLoudness : GoodIn wsX3_whyNot (wsV RX3 49 RX3 yX3_checkLoudness wsX3_checkLoudness) := goodIn_app (goodIn_of _ (by decide +kernel)) ggX3_whyNot_X3_checkLoudness
set_option maxRecDepth 20000 in
theorem ggX3_whyNot_X2_reasonNotToSpeak : GoodIn wsX3_whyNot wsX2_reasonNotToSpeak := goodIn_r _ [19, 20, 21, 22, 23, 24, 18, 25, 26, 34, 35, 36, 37, 38, 39, 40, 41, 42, 43, 44, 45, 46, 47, 48, 49, 50, 51, 52] (by decide +kernel) (by decide +kernel)
set_option maxRecDepth 20000 in
theorem gX3_whyNot_X2_reasonNotToSpeak : GoodIn wsX3_whyNot (wsV RX3 154 RX2 yX2_reasonNotToSpeak wsX2_reasonNotToSpeak) := goodIn_app (goodIn_of _ (by decide +kernel)) ggX3_whyNot_X2_reasonNotToSpeak
theorem dX3_whyNot_0 : decode cX3_whyNot 0 = .ok (.aload_n 0, 1) := by decide +kernel
theorem dX3_whyNot_1 : decode cX3_whyNot 1 = .ok (.iload_n 1, 1) := by decide +kernel
theorem dX3_whyNot_2 : decode cX3_whyNot 2 = .ok (.invokevirtual 45, 3) := by decide +kernel
theorem dX3_whyNot_5 : decode cX3_whyNot 5 = .ok (.aload_n 0, 1) := by decide +kernel
theorem dX3_whyNot_6 : decode cX3_whyNot 6 = .ok (.iload_n 2, 1) := by decide +kernel
theorem dX3_whyNot_7 : decode cX3_whyNot 7 = .ok (.invokevirtual 49, 3) := by decide +kernel
theorem dX3_whyNot_10 : decode cX3_whyNot 10 = .ok (.aload_n 0, 1) := by decide +kernel
theorem dX3_whyNot_11 : decode cX3_whyNot 11 = .ok (.getfield 12, 3) := by decide +kernel
theorem dX3_whyNot_14 : decode cX3_whyNot 14 = .ok (.iload_n 1, 1) := by decide +kernel
theorem dX3_whyNot_15 : decode cX3_whyNot 15 = .ok (.iload_n 2, 1) := by decide +kernel
theorem dX3_whyNot_16 : decode cX3_whyNot 16 = .ok (.invokevirtual 154, 3) := by decide +kernel
theorem dX3_whyNot_19 : decode cX3_whyNot 19 = .ok (.ireturn, 1) := by decide +kernel
set_option maxRecDepth 20000 in
theorem ggX3_ifCopied_X3_checkTrack : GoodIn wsX3_ifCopied wsX3_checkTrack := goodIn_ca (goodIn_r _ [6, 7, 8] (by decide +kernel) (by decide +kernel)) (goodIn_sub (fun _ h => List.mem_cons_of_mem _ (List.mem_append_left _ (List.mem_append_right _ h))) (by decide +kernel))
set_option maxRecDepth 20000 in
theorem gX3_ifCopied_X3_checkTrack : GoodIn wsX3_ifCopied (wsV RX3 45 RX3 yX3_checkTrack wsX3_checkTrack) := goodIn_app (goodIn_of _ (by decide +kernel)) ggX3_ifCopied_X3_checkTrack
set_option maxRecDepth 20000 in
theorem ggX3_ifCopied_X3_checkLever : GoodIn wsX3_ifCopied wsX3_checkLever := goodIn_ca (goodIn_r _ [12, 13, 14] (by decide +kernel) (by decide +kernel)) (goodIn_sub (fun _ h => List.mem_cons_of_mem _ (List.mem_append_right _ h)) (by decide +kernel))
set_option maxRecDepth 20000 in
theorem gX3_ifCopied_X3_checkLever : GoodIn wsX3_ifCopied (wsV RX3 59 RX3 yX3_checkLever wsX3_checkLever) := goodIn_app (goodIn_of _ (by decide +kernel)) ggX3_ifCopied_X3_checkLever
set_option maxRecDepth 20000 in
theorem ggX3_ifCopied_X2_reasonNotToCopy : GoodIn wsX3_ifCopied wsX2_reasonNotToCopy := goodIn_r _ [19, 20, 21, 22, 23, 24, 25, 18, 26, 27, 5, 28, 29, 30, 31, 32, 33, 34, 35, 58, 59, 60, 61, 62, 63, 64, 65, 66, 67, 68, 69, 70, 71, 72, 73, 74, 75, 76] (by decide +kernel) (by decide +kernel)
set_option maxRecDepth 20000 in
theorem gX3_ifCopied_X2_reasonNotToCopy : GoodIn wsX3_ifCopied (wsV RX3 157 RX2 yX2_reasonNotToCopy wsX2_reasonNotToCopy) := goodIn_app (goodIn_of _ (by decide +kernel)) ggX3_ifCopied_X2_reasonNotToCopy
set_option maxRecDepth 20000 in
theorem ggX3_ifCopied_X2_clearnessIfCopied : GoodIn wsX3_ifCopied wsX2_clearnessIfCopied := goodIn_r _ [39, 40, 41, 42, 43, 44, 18, 45, 22, 46, 5, 47, 29, 30, 31, 32, 48, 49, 50, 58, 59, 60, 61, 62, 63, 64, 65, 66, 67, 68, 69, 70, 71, 72, 73, 74, 75, 76] (by decide +kernel) (by decide +kernel)
set_option maxRecDepth 20000 in
theorem gX3_ifCopied_X2_clearnessIfCopied : GoodIn wsX3_ifCopied (wsV RX3 160 RX2 yX2_clearnessIfCopied wsX2_clearnessIfCopied) := goodIn_app (goodIn_of _ (by decide +kernel)) ggX3_ifCopied_X2_clearnessIfCopied
theorem dX3_ifCopied_0 : decode cX3_ifCopied 0 = .ok (.aload_n 0, 1) := by decide +kernel
theorem dX3_ifCopied_1 : decode cX3_ifCopied 1 = .ok (.iload_n 1, 1) := by decide +kernel
theorem dX3_ifCopied_2 : decode cX3_ifCopied 2 = .ok (.invokevirtual 45, 3) := by decide +kernel
theorem dX3_ifCopied_5 : decode cX3_ifCopied 5 = .ok (.aload_n 0, 1) := by decide +kernel
theorem dX3_ifCopied_6 : decode cX3_ifCopied 6 = .ok (.iload_n 2, 1) := by decide +kernel
theorem dX3_ifCopied_7 : decode cX3_ifCopied 7 = .ok (.invokevirtual 45, 3) := by decide +kernel
theorem dX3_ifCopied_10 : decode cX3_ifCopied 10 = .ok (.aload_n 0, 1) := by decide +kernel
theorem dX3_ifCopied_11 : decode cX3_ifCopied 11 = .ok (.iload_n 3, 1) := by decide +kernel
theorem dX3_ifCopied_12 : decode cX3_ifCopied 12 = .ok (.invokevirtual 59, 3) := by decide +kernel
theorem dX3_ifCopied_15 : decode cX3_ifCopied 15 = .ok (.aload_n 0, 1) := by decide +kernel
theorem dX3_ifCopied_16 : decode cX3_ifCopied 16 = .ok (.getfield 12, 3) := by decide +kernel
theorem dX3_ifCopied_19 : decode cX3_ifCopied 19 = .ok (.iload_n 1, 1) := by decide +kernel
theorem dX3_ifCopied_20 : decode cX3_ifCopied 20 = .ok (.iload_n 2, 1) := by decide +kernel
theorem dX3_ifCopied_21 : decode cX3_ifCopied 21 = .ok (.iload_n 3, 1) := by decide +kernel
theorem dX3_ifCopied_22 : decode cX3_ifCopied 22 = .ok (.invokevirtual 157, 3) := by decide +kernel
theorem dX3_ifCopied_25 : decode cX3_ifCopied 25 = .ok (.istore 4, 2) := by decide +kernel
theorem dX3_ifCopied_27 : decode cX3_ifCopied 27 = .ok (.iload 4, 2) := by decide +kernel
theorem dX3_ifCopied_29 : decode cX3_ifCopied 29 = .ok (.ifCond .ne 15, 3) := by decide +kernel
theorem dX3_ifCopied_32 : decode cX3_ifCopied 32 = .ok (.aload_n 0, 1) := by decide +kernel
theorem dX3_ifCopied_33 : decode cX3_ifCopied 33 = .ok (.getfield 12, 3) := by decide +kernel
theorem dX3_ifCopied_36 : decode cX3_ifCopied 36 = .ok (.iload_n 1, 1) := by decide +kernel
theorem dX3_ifCopied_37 : decode cX3_ifCopied 37 = .ok (.iload_n 3, 1) := by decide +kernel
theorem dX3_ifCopied_38 : decode cX3_ifCopied 38 = .ok (.invokevirtual 160, 3) := by decide +kernel
theorem dX3_ifCopied_41 : decode cX3_ifCopied 41 = .ok (.goto 6, 3) := by decide +kernel
theorem dX3_ifCopied_44 : decode cX3_ifCopied 44 = .ok (.iload 4, 2) := by decide +kernel
theorem dX3_ifCopied_46 : decode cX3_ifCopied 46 = .ok (.ineg, 1) := by decide +kernel
theorem dX3_ifCopied_47 : decode cX3_ifCopied 47 = .ok (.ireturn, 1) := by decide +kernel
set_option maxRecDepth 20000 in
theorem ggX3_chain_X3_checkTrack : GoodIn wsX3_chain wsX3_checkTrack := goodIn_ca (goodIn_r _ [12, 13, 14] (by decide +kernel) (by decide +kernel)) (goodIn_sub (fun _ h => List.mem_cons_of_mem _ (List.mem_append_right _ h)) (by decide +kernel))
set_option maxRecDepth 20000 in
theorem gX3_chain_X3_checkTrack : GoodIn wsX3_chain (wsV RX3 45 RX3 yX3_checkTrack wsX3_checkTrack) := goodIn_app (goodIn_of _ (by decide +kernel)) ggX3_chain_X3_checkTrack
set_option maxRecDepth 20000 in
theorem ggX3_chain_X3_checkWhat : GoodIn wsX3_chain wsX3_checkWhat := goodIn_ca (goodIn_r _ [18, 1, 2] (by decide +kernel) (by decide +kernel)) (goodIn_sub (fun _ h => List.mem_cons_of_mem _ (List.mem_append_left _ (List.mem_append_right _ h))) (by decide +kernel))
set_option maxRecDepth 20000 in
theorem gX3_chain_X3_checkWhat : GoodIn wsX3_chain (wsV RX3 141 RX3 yX3_checkWhat wsX3_checkWhat) := goodIn_app (goodIn_of _ (by decide +kernel)) ggX3_chain_X3_checkWhat
set_option maxRecDepth 20000 in
theorem ggX3_chain_X2_isCut : GoodIn wsX3_chain wsX2_isCut := goodIn_r _ [23, 24, 73, 74, 75, 76, 77, 78, 79, 80, 81, 82, 83, 84, 85, 86, 87, 88, 89, 90, 91] (by decide +kernel) (by decide +kernel)
set_option maxRecDepth 20000 in
theorem gX3_chain_X2_isCut : GoodIn wsX3_chain (wsV RX3 165 RX2 yX2_isCut wsX2_isCut) := goodIn_app (goodIn_of _ (by decide +kernel)) ggX3_chain_X2_isCut
set_option maxRecDepth 20000 in
theorem ggX3_chain_X1_clearestAfter : GoodIn wsX3_chain wsX1_clearestAfter := goodIn_r _ [29, 30, 31, 32, 33, 28, 34, 35, 11, 36, 37, 38, 39, 40, 41, 42, 43, 44, 45, 46, 47, 48, 49, 50, 51, 52, 53, 54, 55, 56, 57, 58, 59, 92, 93] (by decide +kernel) (by decide +kernel)
set_option maxRecDepth 20000 in
theorem gX3_chain_X1_clearestAfter : GoodIn wsX3_chain (wsV RX3 179 RX1 yX1_clearestAfter wsX1_clearestAfter) := goodIn_app (goodIn_of _ (by decide +kernel)) ggX3_chain_X1_clearestAfter
set_option maxRecDepth 20000 in
theorem ggX3_chain_X3_clearestOfAllLevers : GoodIn wsX3_chain wsX3_clearestOfAllLevers := goodIn_r _ [62, 37, 38, 39, 40, 63, 46, 11, 47, 48, 49, 50, 64, 51, 52, 53, 54, 55, 65, 35, 36, 60, 61] (by decide +kernel) (by decide +kernel)
set_option maxRecDepth 20000 in
theorem gX3_chain_X3_clearestOfAllLevers : GoodIn wsX3_chain (va_wsS RX3 183 yX3_clearestOfAllLevers wsX3_clearestOfAllLevers) := goodIn_app (goodIn_of _ (by decide +kernel)) ggX3_chain_X3_clearestOfAllLevers
theorem dX3_chain_0 : decode cX3_chain 0 = .ok (.aload_n 0, 1) := by decide +kernel
theorem dX3_chain_1 : decode cX3_chain 1 = .ok (.iload_n 1, 1) := by decide +kernel
theorem dX3_chain_2 : decode cX3_chain 2 = .ok (.invokevirtual 45, 3) := by decide +kernel
theorem dX3_chain_5 : decode cX3_chain 5 = .ok (.iload_n 2, 1) := by decide +kernel
theorem dX3_chain_6 : decode cX3_chain 6 = .ok (.iconst 1, 1) := by decide +kernel
theorem dX3_chain_7 : decode cX3_chain 7 = .ok (.if_icmp .lt 8, 3) := by decide +kernel
theorem dX3_chain_10 : decode cX3_chain 10 = .ok (.iload_n 2, 1) := by decide +kernel
theorem dX3_chain_11 : decode cX3_chain 11 = .ok (.iconst 5, 1) := by decide +kernel
theorem dX3_chain_12 : decode cX3_chain 12 = .ok (.if_icmp .le 13, 3) := by decide +kernel
theorem dX3_chain_15 : decode cX3_chain 15 = .ok (.new 83, 3) := by decide +kernel
theorem dX3_chain_18 : decode cX3_chain 18 = .ok (.dup, 1) := by decide +kernel
theorem dX3_chain_19 : decode cX3_chain 19 = .ok (.ldc 163, 2) := by decide +kernel
theorem dX3_chain_21 : decode cX3_chain 21 = .ok (.invokespecial 87, 3) := by decide +kernel
theorem dX3_chain_24 : decode cX3_chain 24 = .ok (.athrow, 1) := by decide +kernel
theorem dX3_chain_25 : decode cX3_chain 25 = .ok (.aload_n 0, 1) := by decide +kernel
theorem dX3_chain_26 : decode cX3_chain 26 = .ok (.iload_n 3, 1) := by decide +kernel
theorem dX3_chain_27 : decode cX3_chain 27 = .ok (.iconst 2, 1) := by decide +kernel
theorem dX3_chain_28 : decode cX3_chain 28 = .ok (.invokevirtual 141, 3) := by decide +kernel
theorem dX3_chain_31 : decode cX3_chain 31 = .ok (.aload_n 0, 1) := by decide +kernel
theorem dX3_chain_32 : decode cX3_chain 32 = .ok (.getfield 12, 3) := by decide +kernel
theorem dX3_chain_35 : decode cX3_chain 35 = .ok (.iload_n 1, 1) := by decide +kernel
theorem dX3_chain_36 : decode cX3_chain 36 = .ok (.invokevirtual 165, 3) := by decide +kernel
theorem dX3_chain_39 : decode cX3_chain 39 = .ok (.ifCond .ne 5, 3) := by decide +kernel
theorem dX3_chain_42 : decode cX3_chain 42 = .ok (.iconst (-1), 1) := by decide +kernel
theorem dX3_chain_43 : decode cX3_chain 43 = .ok (.ireturn, 1) := by decide +kernel
theorem dX3_chain_44 : decode cX3_chain 44 = .ok (.aload_n 0, 1) := by decide +kernel
theorem dX3_chain_45 : decode cX3_chain 45 = .ok (.getfield 12, 3) := by decide +kernel
theorem dX3_chain_48 : decode cX3_chain 48 = .ok (.getfield 169, 3) := by decide +kernel
theorem dX3_chain_51 : decode cX3_chain 51 = .ok (.iload_n 1, 1) := by decide +kernel
theorem dX3_chain_52 : decode cX3_chain 52 = .ok (.iaload, 1) := by decide +kernel
theorem dX3_chain_53 : decode cX3_chain 53 = .ok (.istore 4, 2) := by decide +kernel
theorem dX3_chain_55 : decode cX3_chain 55 = .ok (.aload_n 0, 1) := by decide +kernel
theorem dX3_chain_56 : decode cX3_chain 56 = .ok (.getfield 12, 3) := by decide +kernel
theorem dX3_chain_59 : decode cX3_chain 59 = .ok (.getfield 173, 3) := by decide +kernel
theorem dX3_chain_62 : decode cX3_chain 62 = .ok (.iload_n 1, 1) := by decide +kernel
theorem dX3_chain_63 : decode cX3_chain 63 = .ok (.iaload, 1) := by decide +kernel
theorem dX3_chain_64 : decode cX3_chain 64 = .ok (.istore 5, 2) := by decide +kernel
theorem dX3_chain_66 : decode cX3_chain 66 = .ok (.iload_n 3, 1) := by decide +kernel
theorem dX3_chain_67 : decode cX3_chain 67 = .ok (.ifCond .ne 23, 3) := by decide +kernel
theorem dX3_chain_70 : decode cX3_chain 70 = .ok (.aload_n 0, 1) := by decide +kernel
theorem dX3_chain_71 : decode cX3_chain 71 = .ok (.getfield 41, 3) := by decide +kernel
theorem dX3_chain_74 : decode cX3_chain 74 = .ok (.iload_n 2, 1) := by decide +kernel
theorem dX3_chain_75 : decode cX3_chain 75 = .ok (.iload 4, 2) := by decide +kernel
theorem dX3_chain_77 : decode cX3_chain 77 = .ok (.iload 5, 2) := by decide +kernel
theorem dX3_chain_79 : decode cX3_chain 79 = .ok (.aload_n 0, 1) := by decide +kernel
theorem dX3_chain_80 : decode cX3_chain 80 = .ok (.getfield 12, 3) := by decide +kernel
theorem dX3_chain_83 : decode cX3_chain 83 = .ok (.getfield 176, 3) := by decide +kernel
theorem dX3_chain_86 : decode cX3_chain 86 = .ok (.invokevirtual 179, 3) := by decide +kernel
theorem dX3_chain_89 : decode cX3_chain 89 = .ok (.ireturn, 1) := by decide +kernel
theorem dX3_chain_90 : decode cX3_chain 90 = .ok (.iload_n 2, 1) := by decide +kernel
theorem dX3_chain_91 : decode cX3_chain 91 = .ok (.iload 4, 2) := by decide +kernel
theorem dX3_chain_93 : decode cX3_chain 93 = .ok (.iload 5, 2) := by decide +kernel
theorem dX3_chain_95 : decode cX3_chain 95 = .ok (.aload_n 0, 1) := by decide +kernel
theorem dX3_chain_96 : decode cX3_chain 96 = .ok (.getfield 12, 3) := by decide +kernel
theorem dX3_chain_99 : decode cX3_chain 99 = .ok (.getfield 176, 3) := by decide +kernel
theorem dX3_chain_102 : decode cX3_chain 102 = .ok (.invokestatic 183, 3) := by decide +kernel
theorem dX3_chain_105 : decode cX3_chain 105 = .ok (.ireturn, 1) := by decide +kernel
set_option maxRecDepth 20000 in
theorem ggX3_clearest_X2_clearestTrack : GoodIn wsX3_clearest wsX2_clearestTrack := goodIn_r _ [6, 7, 8, 9, 5, 10, 11, 12, 13, 14, 15, 16, 17, 25, 26, 27, 28, 29, 30, 31, 32, 33, 34, 35, 36, 37, 38, 39, 40, 41, 42, 43] (by decide +kernel) (by decide +kernel)
set_option maxRecDepth 20000 in
theorem gX3_clearest_X2_clearestTrack : GoodIn wsX3_clearest (wsV RX3 186 RX2 yX2_clearestTrack wsX2_clearestTrack) := goodIn_app (goodIn_of _ (by decide +kernel)) ggX3_clearest_X2_clearestTrack
theorem dX3_clearest_0 : decode cX3_clearest 0 = .ok (.aload_n 0, 1) := by decide +kernel
theorem dX3_clearest_1 : decode cX3_clearest 1 = .ok (.getfield 12, 3) := by decide +kernel
theorem dX3_clearest_4 : decode cX3_clearest 4 = .ok (.invokevirtual 186, 3) := by decide +kernel
theorem dX3_clearest_7 : decode cX3_clearest 7 = .ok (.ireturn, 1) := by decide +kernel
set_option maxRecDepth 20000 in
theorem ggX3_daughters_X3_checkTrack : GoodIn wsX3_daughters wsX3_checkTrack := goodIn_ca (goodIn_r _ [6, 7, 8] (by decide +kernel) (by decide +kernel)) (goodIn_sub (fun _ h => List.mem_cons_of_mem _ (List.mem_append_right _ h)) (by decide +kernel))
set_option maxRecDepth 20000 in
theorem gX3_daughters_X3_checkTrack : GoodIn wsX3_daughters (wsV RX3 45 RX3 yX3_checkTrack wsX3_checkTrack) := goodIn_app (goodIn_of _ (by decide +kernel)) ggX3_daughters_X3_checkTrack
set_option maxRecDepth 20000 in
theorem ggX3_daughters_X2_descendants : GoodIn wsX3_daughters wsX2_descendants := goodIn_r _ [13, 14, 15, 16, 12, 17, 18, 26, 27, 28, 29, 30, 31, 32, 33, 34, 35, 36, 37, 38, 39, 40, 41, 42, 43, 44] (by decide +kernel) (by decide +kernel)
set_option maxRecDepth 20000 in
theorem gX3_daughters_X2_descendants : GoodIn wsX3_daughters (wsV RX3 189 RX2 yX2_descendants wsX2_descendants) := goodIn_app (goodIn_of _ (by decide +kernel)) ggX3_daughters_X2_descendants
theorem dX3_daughters_0 : decode cX3_daughters 0 = .ok (.aload_n 0, 1) := by decide +kernel
theorem dX3_daughters_1 : decode cX3_daughters 1 = .ok (.iload_n 1, 1) := by decide +kernel
theorem dX3_daughters_2 : decode cX3_daughters 2 = .ok (.invokevirtual 45, 3) := by decide +kernel
theorem dX3_daughters_5 : decode cX3_daughters 5 = .ok (.aload_n 0, 1) := by decide +kernel
theorem dX3_daughters_6 : decode cX3_daughters 6 = .ok (.getfield 12, 3) := by decide +kernel
theorem dX3_daughters_9 : decode cX3_daughters 9 = .ok (.iload_n 1, 1) := by decide +kernel
theorem dX3_daughters_10 : decode cX3_daughters 10 = .ok (.invokevirtual 189, 3) := by decide +kernel
theorem dX3_daughters_13 : decode cX3_daughters 13 = .ok (.ireturn, 1) := by decide +kernel
set_option maxRecDepth 20000 in
theorem ggX3_meanDepth_X2_cutTracks : GoodIn wsX3_meanDepth wsX2_cutTracks := goodIn_r _ [6, 7, 8, 9, 5, 10, 11, 12, 13, 14, 15, 27, 28, 29, 30, 31, 32, 33, 34, 35, 36, 37, 38, 39, 40, 41, 42, 43, 44, 45] (by decide +kernel) (by decide +kernel)
set_option maxRecDepth 20000 in
theorem gX3_meanDepth_X2_cutTracks : GoodIn wsX3_meanDepth (wsV RX3 134 RX2 yX2_cutTracks wsX2_cutTracks) := goodIn_app (goodIn_of _ (by decide +kernel)) ggX3_meanDepth_X2_cutTracks
set_option maxRecDepth 20000 in
theorem ggX3_meanDepth_X2_depthTogether : GoodIn wsX3_meanDepth wsX2_depthTogether := goodIn_r _ [19, 15, 27, 28, 29, 30, 31, 32, 33, 34, 35, 36, 37, 38, 39, 40, 41, 42, 43, 44, 45] (by decide +kernel) (by decide +kernel)
set_option maxRecDepth 20000 in
theorem gX3_meanDepth_X2_depthTogether : GoodIn wsX3_meanDepth (wsV RX3 192 RX2 yX2_depthTogether wsX2_depthTogether) := goodIn_app (goodIn_of _ (by decide +kernel)) ggX3_meanDepth_X2_depthTogether
theorem dX3_meanDepth_0 : decode cX3_meanDepth 0 = .ok (.aload_n 0, 1) := by decide +kernel
theorem dX3_meanDepth_1 : decode cX3_meanDepth 1 = .ok (.getfield 12, 3) := by decide +kernel
theorem dX3_meanDepth_4 : decode cX3_meanDepth 4 = .ok (.invokevirtual 134, 3) := by decide +kernel
theorem dX3_meanDepth_7 : decode cX3_meanDepth 7 = .ok (.istore_n 1, 1) := by decide +kernel
theorem dX3_meanDepth_8 : decode cX3_meanDepth 8 = .ok (.iload_n 1, 1) := by decide +kernel
theorem dX3_meanDepth_9 : decode cX3_meanDepth 9 = .ok (.ifCond .gt 7, 3) := by decide +kernel
theorem dX3_meanDepth_12 : decode cX3_meanDepth 12 = .ok (.fconst 0, 1) := by decide +kernel
theorem dX3_meanDepth_13 : decode cX3_meanDepth 13 = .ok (.goto 14, 3) := by decide +kernel
theorem dX3_meanDepth_16 : decode cX3_meanDepth 16 = .ok (.aload_n 0, 1) := by decide +kernel
theorem dX3_meanDepth_17 : decode cX3_meanDepth 17 = .ok (.getfield 12, 3) := by decide +kernel
theorem dX3_meanDepth_20 : decode cX3_meanDepth 20 = .ok (.invokevirtual 192, 3) := by decide +kernel
theorem dX3_meanDepth_23 : decode cX3_meanDepth 23 = .ok (.i2f, 1) := by decide +kernel
theorem dX3_meanDepth_24 : decode cX3_meanDepth 24 = .ok (.iload_n 1, 1) := by decide +kernel
theorem dX3_meanDepth_25 : decode cX3_meanDepth 25 = .ok (.i2f, 1) := by decide +kernel
theorem dX3_meanDepth_26 : decode cX3_meanDepth 26 = .ok (.fdiv, 1) := by decide +kernel
theorem dX3_meanDepth_27 : decode cX3_meanDepth 27 = .ok (.freturn, 1) := by decide +kernel
set_option maxRecDepth 20000 in
theorem ggX3_clearShare_X2_cutTracks : GoodIn wsX3_clearShare wsX2_cutTracks := goodIn_r _ [6, 7, 8, 9, 5, 10, 11, 12, 13, 14, 15, 28, 29, 30, 31, 32, 33, 34, 35, 36, 37, 38, 39, 40, 41, 42, 43, 44, 45, 46] (by decide +kernel) (by decide +kernel)
set_option maxRecDepth 20000 in
theorem gX3_clearShare_X2_cutTracks : GoodIn wsX3_clearShare (wsV RX3 134 RX2 yX2_cutTracks wsX2_cutTracks) := goodIn_app (goodIn_of _ (by decide +kernel)) ggX3_clearShare_X2_cutTracks
set_option maxRecDepth 20000 in
theorem ggX3_clearShare_X2_clearnessTogether : GoodIn wsX3_clearShare wsX2_clearnessTogether := goodIn_r _ [19, 20, 11, 12, 13, 5, 14, 15, 28, 29, 30, 31, 32, 33, 34, 35, 36, 37, 38, 39, 40, 41, 42, 43, 44, 45, 46] (by decide +kernel) (by decide +kernel)
set_option maxRecDepth 20000 in
theorem gX3_clearShare_X2_clearnessTogether : GoodIn wsX3_clearShare (wsV RX3 195 RX2 yX2_clearnessTogether wsX2_clearnessTogether) := goodIn_app (goodIn_of _ (by decide +kernel)) ggX3_clearShare_X2_clearnessTogether
theorem dX3_clearShare_0 : decode cX3_clearShare 0 = .ok (.aload_n 0, 1) := by decide +kernel
theorem dX3_clearShare_1 : decode cX3_clearShare 1 = .ok (.getfield 12, 3) := by decide +kernel
theorem dX3_clearShare_4 : decode cX3_clearShare 4 = .ok (.invokevirtual 134, 3) := by decide +kernel
theorem dX3_clearShare_7 : decode cX3_clearShare 7 = .ok (.istore_n 1, 1) := by decide +kernel
theorem dX3_clearShare_8 : decode cX3_clearShare 8 = .ok (.iload_n 1, 1) := by decide +kernel
theorem dX3_clearShare_9 : decode cX3_clearShare 9 = .ok (.ifCond .gt 7, 3) := by decide +kernel
theorem dX3_clearShare_12 : decode cX3_clearShare 12 = .ok (.dconst 0, 1) := by decide +kernel
theorem dX3_clearShare_13 : decode cX3_clearShare 13 = .ok (.goto 17, 3) := by decide +kernel
theorem dX3_clearShare_16 : decode cX3_clearShare 16 = .ok (.aload_n 0, 1) := by decide +kernel
theorem dX3_clearShare_17 : decode cX3_clearShare 17 = .ok (.getfield 12, 3) := by decide +kernel
theorem dX3_clearShare_20 : decode cX3_clearShare 20 = .ok (.invokevirtual 195, 3) := by decide +kernel
theorem dX3_clearShare_23 : decode cX3_clearShare 23 = .ok (.i2d, 1) := by decide +kernel
theorem dX3_clearShare_24 : decode cX3_clearShare 24 = .ok (.bipush 100, 2) := by decide +kernel
theorem dX3_clearShare_26 : decode cX3_clearShare 26 = .ok (.iload_n 1, 1) := by decide +kernel
theorem dX3_clearShare_27 : decode cX3_clearShare 27 = .ok (.imul, 1) := by decide +kernel
theorem dX3_clearShare_28 : decode cX3_clearShare 28 = .ok (.i2d, 1) := by decide +kernel
theorem dX3_clearShare_29 : decode cX3_clearShare 29 = .ok (.ddiv, 1) := by decide +kernel
theorem dX3_clearShare_30 : decode cX3_clearShare 30 = .ok (.dreturn, 1) := by decide +kernel
theorem dX3_checkTrack_0 : decode cX3_checkTrack 0 = .ok (.iload_n 1, 1) := by decide +kernel
theorem dX3_checkTrack_1 : decode cX3_checkTrack 1 = .ok (.ifCond .lt 9, 3) := by decide +kernel
theorem dX3_checkTrack_4 : decode cX3_checkTrack 4 = .ok (.iload_n 1, 1) := by decide +kernel
theorem dX3_checkTrack_5 : decode cX3_checkTrack 5 = .ok (.bipush 24, 2) := by decide +kernel
theorem dX3_checkTrack_7 : decode cX3_checkTrack 7 = .ok (.if_icmp .lt 14, 3) := by decide +kernel
theorem dX3_checkTrack_10 : decode cX3_checkTrack 10 = .ok (.new 257, 3) := by decide +kernel
theorem dX3_checkTrack_13 : decode cX3_checkTrack 13 = .ok (.dup, 1) := by decide +kernel
theorem dX3_checkTrack_14 : decode cX3_checkTrack 14 = .ok (.ldc_w 259, 3) := by decide +kernel
theorem dX3_checkTrack_17 : decode cX3_checkTrack 17 = .ok (.invokespecial 261, 3) := by decide +kernel
theorem dX3_checkTrack_20 : decode cX3_checkTrack 20 = .ok (.athrow, 1) := by decide +kernel
theorem dX3_checkTrack_21 : decode cX3_checkTrack 21 = .ok (.return_, 1) := by decide +kernel
theorem dX3_checkCylinder_0 : decode cX3_checkCylinder 0 = .ok (.iload_n 1, 1) := by decide +kernel
theorem dX3_checkCylinder_1 : decode cX3_checkCylinder 1 = .ok (.ifCond .lt 9, 3) := by decide +kernel
theorem dX3_checkCylinder_4 : decode cX3_checkCylinder 4 = .ok (.iload_n 1, 1) := by decide +kernel
theorem dX3_checkCylinder_5 : decode cX3_checkCylinder 5 = .ok (.bipush 6, 2) := by decide +kernel
theorem dX3_checkCylinder_7 : decode cX3_checkCylinder 7 = .ok (.if_icmp .lt 14, 3) := by decide +kernel
theorem dX3_checkCylinder_10 : decode cX3_checkCylinder 10 = .ok (.new 257, 3) := by decide +kernel
theorem dX3_checkCylinder_13 : decode cX3_checkCylinder 13 = .ok (.dup, 1) := by decide +kernel
theorem dX3_checkCylinder_14 : decode cX3_checkCylinder 14 = .ok (.ldc_w 262, 3) := by decide +kernel
theorem dX3_checkCylinder_17 : decode cX3_checkCylinder 17 = .ok (.invokespecial 261, 3) := by decide +kernel
theorem dX3_checkCylinder_20 : decode cX3_checkCylinder 20 = .ok (.athrow, 1) := by decide +kernel
theorem dX3_checkCylinder_21 : decode cX3_checkCylinder 21 = .ok (.return_, 1) := by decide +kernel
theorem dX3_checkLoudness_0 : decode cX3_checkLoudness 0 = .ok (.iload_n 1, 1) := by decide +kernel
theorem dX3_checkLoudness_1 : decode cX3_checkLoudness 1 = .ok (.iconst 1, 1) := by decide +kernel
theorem dX3_checkLoudness_2 : decode cX3_checkLoudness 2 = .ok (.if_icmp .lt 9, 3) := by decide +kernel
theorem dX3_checkLoudness_5 : decode cX3_checkLoudness 5 = .ok (.iload_n 1, 1) := by decide +kernel
theorem dX3_checkLoudness_6 : decode cX3_checkLoudness 6 = .ok (.bipush 9, 2) := by decide +kernel
theorem dX3_checkLoudness_8 : decode cX3_checkLoudness 8 = .ok (.if_icmp .le 14, 3) := by decide +kernel
theorem dX3_checkLoudness_11 : decode cX3_checkLoudness 11 = .ok (.new 83, 3) := by decide +kernel
theorem dX3_checkLoudness_14 : decode cX3_checkLoudness 14 = .ok (.dup, 1) := by decide +kernel
theorem dX3_checkLoudness_15 : decode cX3_checkLoudness 15 = .ok (.ldc_w 264, 3) := by decide +kernel
theorem dX3_checkLoudness_18 : decode cX3_checkLoudness 18 = .ok (.invokespecial 87, 3) := by decide +kernel
theorem dX3_checkLoudness_21 : decode cX3_checkLoudness 21 = .ok (.athrow, 1) := by decide +kernel
theorem dX3_checkLoudness_22 : decode cX3_checkLoudness 22 = .ok (.return_, 1) := by decide +kernel
theorem dX3_checkLever_0 : decode cX3_checkLever 0 = .ok (.iload_n 1, 1) := by decide +kernel
theorem dX3_checkLever_1 : decode cX3_checkLever 1 = .ok (.iconst 1, 1) := by decide +kernel
theorem dX3_checkLever_2 : decode cX3_checkLever 2 = .ok (.if_icmp .lt 8, 3) := by decide +kernel
theorem dX3_checkLever_5 : decode cX3_checkLever 5 = .ok (.iload_n 1, 1) := by decide +kernel
theorem dX3_checkLever_6 : decode cX3_checkLever 6 = .ok (.iconst 3, 1) := by decide +kernel
theorem dX3_checkLever_7 : decode cX3_checkLever 7 = .ok (.if_icmp .le 14, 3) := by decide +kernel
theorem dX3_checkLever_10 : decode cX3_checkLever 10 = .ok (.new 83, 3) := by decide +kernel
theorem dX3_checkLever_13 : decode cX3_checkLever 13 = .ok (.dup, 1) := by decide +kernel
theorem dX3_checkLever_14 : decode cX3_checkLever 14 = .ok (.ldc_w 266, 3) := by decide +kernel
theorem dX3_checkLever_17 : decode cX3_checkLever 17 = .ok (.invokespecial 87, 3) := by decide +kernel
theorem dX3_checkLever_20 : decode cX3_checkLever 20 = .ok (.athrow, 1) := by decide +kernel
theorem dX3_checkLever_21 : decode cX3_checkLever 21 = .ok (.return_, 1) := by decide +kernel
theorem dX3_checkWhat_0 : decode cX3_checkWhat 0 = .ok (.iload_n 1, 1) := by decide +kernel
theorem dX3_checkWhat_1 : decode cX3_checkWhat 1 = .ok (.ifCond .lt 8, 3) := by decide +kernel
theorem dX3_checkWhat_4 : decode cX3_checkWhat 4 = .ok (.iload_n 1, 1) := by decide +kernel
theorem dX3_checkWhat_5 : decode cX3_checkWhat 5 = .ok (.iload_n 2, 1) := by decide +kernel
theorem dX3_checkWhat_6 : decode cX3_checkWhat 6 = .ok (.if_icmp .lt 14, 3) := by decide +kernel
theorem dX3_checkWhat_9 : decode cX3_checkWhat 9 = .ok (.new 83, 3) := by decide +kernel
theorem dX3_checkWhat_12 : decode cX3_checkWhat 12 = .ok (.dup, 1) := by decide +kernel
theorem dX3_checkWhat_13 : decode cX3_checkWhat 13 = .ok (.ldc_w 270, 3) := by decide +kernel
theorem dX3_checkWhat_16 : decode cX3_checkWhat 16 = .ok (.invokespecial 87, 3) := by decide +kernel
theorem dX3_checkWhat_19 : decode cX3_checkWhat 19 = .ok (.athrow, 1) := by decide +kernel
theorem dX3_checkWhat_20 : decode cX3_checkWhat 20 = .ok (.return_, 1) := by decide +kernel
set_option maxRecDepth 20000 in
theorem ggX3_saveState_X3_dropOldestState : GoodIn wsX3_saveState wsX3_dropOldestState := goodIn_r _ [8, 2, 1, 37, 38, 39, 40, 41, 42, 43] (by decide +kernel) (by decide +kernel)
set_option maxRecDepth 20000 in
theorem gX3_saveState_X3_dropOldestState : GoodIn wsX3_saveState (wsV RX3 272 RX3 yX3_dropOldestState wsX3_dropOldestState) := goodIn_app (goodIn_of _ (by decide +kernel)) ggX3_saveState_X3_dropOldestState
set_option maxRecDepth 20000 in
theorem ggX3_saveState_X2_takeOver : GoodIn wsX3_saveState wsX2_takeOver := goodIn_r _ [13, 14, 15, 16, 17, 18, 19, 20, 21, 22, 23, 24, 25, 26, 27, 28, 29, 30, 31, 32, 33, 34, 35, 36, 44, 45, 46, 47, 48, 49, 50, 51, 52, 53, 54, 55, 56, 57, 58, 59, 60, 61, 62] (by decide +kernel) (by decide +kernel)
set_option maxRecDepth 20000 in
theorem gX3_saveState_X2_takeOver : GoodIn wsX3_saveState (wsV RX3 130 RX2 yX2_takeOver wsX2_takeOver) := goodIn_app (goodIn_of _ (by decide +kernel)) ggX3_saveState_X2_takeOver
theorem dX3_saveState_0 : decode cX3_saveState 0 = .ok (.aload_n 0, 1) := by decide +kernel
theorem dX3_saveState_1 : decode cX3_saveState 1 = .ok (.getfield 27, 3) := by decide +kernel
theorem dX3_saveState_4 : decode cX3_saveState 4 = .ok (.bipush 6, 2) := by decide +kernel
theorem dX3_saveState_6 : decode cX3_saveState 6 = .ok (.if_icmp .lt 7, 3) := by decide +kernel
theorem dX3_saveState_9 : decode cX3_saveState 9 = .ok (.aload_n 0, 1) := by decide +kernel
theorem dX3_saveState_10 : decode cX3_saveState 10 = .ok (.invokevirtual 272, 3) := by decide +kernel
theorem dX3_saveState_13 : decode cX3_saveState 13 = .ok (.aload_n 0, 1) := by decide +kernel
theorem dX3_saveState_14 : decode cX3_saveState 14 = .ok (.getfield 24, 3) := by decide +kernel
theorem dX3_saveState_17 : decode cX3_saveState 17 = .ok (.aload_n 0, 1) := by decide +kernel
theorem dX3_saveState_18 : decode cX3_saveState 18 = .ok (.getfield 27, 3) := by decide +kernel
theorem dX3_saveState_21 : decode cX3_saveState 21 = .ok (.aaload, 1) := by decide +kernel
theorem dX3_saveState_22 : decode cX3_saveState 22 = .ok (.aload_n 0, 1) := by decide +kernel
theorem dX3_saveState_23 : decode cX3_saveState 23 = .ok (.getfield 12, 3) := by decide +kernel
theorem dX3_saveState_26 : decode cX3_saveState 26 = .ok (.invokevirtual 130, 3) := by decide +kernel
theorem dX3_saveState_29 : decode cX3_saveState 29 = .ok (.aload_n 0, 1) := by decide +kernel
theorem dX3_saveState_30 : decode cX3_saveState 30 = .ok (.dup, 1) := by decide +kernel
theorem dX3_saveState_31 : decode cX3_saveState 31 = .ok (.getfield 27, 3) := by decide +kernel
theorem dX3_saveState_34 : decode cX3_saveState 34 = .ok (.iconst 1, 1) := by decide +kernel
theorem dX3_saveState_35 : decode cX3_saveState 35 = .ok (.iadd, 1) := by decide +kernel
theorem dX3_saveState_36 : decode cX3_saveState 36 = .ok (.putfield 27, 3) := by decide +kernel
theorem dX3_saveState_39 : decode cX3_saveState 39 = .ok (.return_, 1) := by decide +kernel
theorem dX3_dropOldestState_0 : decode cX3_dropOldestState 0 = .ok (.aload_n 0, 1) := by decide +kernel
theorem dX3_dropOldestState_1 : decode cX3_dropOldestState 1 = .ok (.getfield 24, 3) := by decide +kernel
theorem dX3_dropOldestState_4 : decode cX3_dropOldestState 4 = .ok (.iconst 0, 1) := by decide +kernel
theorem dX3_dropOldestState_5 : decode cX3_dropOldestState 5 = .ok (.aaload, 1) := by decide +kernel
theorem dX3_dropOldestState_6 : decode cX3_dropOldestState 6 = .ok (.astore_n 1, 1) := by decide +kernel
theorem dX3_dropOldestState_7 : decode cX3_dropOldestState 7 = .ok (.iconst 1, 1) := by decide +kernel
theorem dX3_dropOldestState_8 : decode cX3_dropOldestState 8 = .ok (.istore_n 2, 1) := by decide +kernel
theorem dX3_dropOldestState_9 : decode cX3_dropOldestState 9 = .ok (.iload_n 2, 1) := by decide +kernel
theorem dX3_dropOldestState_10 : decode cX3_dropOldestState 10 = .ok (.bipush 6, 2) := by decide +kernel
theorem dX3_dropOldestState_12 : decode cX3_dropOldestState 12 = .ok (.if_icmp .ge 23, 3) := by decide +kernel
theorem dX3_dropOldestState_15 : decode cX3_dropOldestState 15 = .ok (.aload_n 0, 1) := by decide +kernel
theorem dX3_dropOldestState_16 : decode cX3_dropOldestState 16 = .ok (.getfield 24, 3) := by decide +kernel
theorem dX3_dropOldestState_19 : decode cX3_dropOldestState 19 = .ok (.iload_n 2, 1) := by decide +kernel
theorem dX3_dropOldestState_20 : decode cX3_dropOldestState 20 = .ok (.iconst 1, 1) := by decide +kernel
theorem dX3_dropOldestState_21 : decode cX3_dropOldestState 21 = .ok (.isub, 1) := by decide +kernel
theorem dX3_dropOldestState_22 : decode cX3_dropOldestState 22 = .ok (.aload_n 0, 1) := by decide +kernel
theorem dX3_dropOldestState_23 : decode cX3_dropOldestState 23 = .ok (.getfield 24, 3) := by decide +kernel
theorem dX3_dropOldestState_26 : decode cX3_dropOldestState 26 = .ok (.iload_n 2, 1) := by decide +kernel
theorem dX3_dropOldestState_27 : decode cX3_dropOldestState 27 = .ok (.aaload, 1) := by decide +kernel
theorem dX3_dropOldestState_28 : decode cX3_dropOldestState 28 = .ok (.aastore, 1) := by decide +kernel
theorem dX3_dropOldestState_29 : decode cX3_dropOldestState 29 = .ok (.iinc 2 1, 3) := by decide +kernel
theorem dX3_dropOldestState_32 : decode cX3_dropOldestState 32 = .ok (.goto (-23), 3) := by decide +kernel
theorem dX3_dropOldestState_35 : decode cX3_dropOldestState 35 = .ok (.aload_n 0, 1) := by decide +kernel
theorem dX3_dropOldestState_36 : decode cX3_dropOldestState 36 = .ok (.getfield 24, 3) := by decide +kernel
theorem dX3_dropOldestState_39 : decode cX3_dropOldestState 39 = .ok (.iconst 5, 1) := by decide +kernel
theorem dX3_dropOldestState_40 : decode cX3_dropOldestState 40 = .ok (.aload_n 1, 1) := by decide +kernel
theorem dX3_dropOldestState_41 : decode cX3_dropOldestState 41 = .ok (.aastore, 1) := by decide +kernel
theorem dX3_dropOldestState_42 : decode cX3_dropOldestState 42 = .ok (.aload_n 0, 1) := by decide +kernel
theorem dX3_dropOldestState_43 : decode cX3_dropOldestState 43 = .ok (.iconst 5, 1) := by decide +kernel
theorem dX3_dropOldestState_44 : decode cX3_dropOldestState 44 = .ok (.putfield 27, 3) := by decide +kernel
theorem dX3_dropOldestState_47 : decode cX3_dropOldestState 47 = .ok (.return_, 1) := by decide +kernel
theorem dX3_bluntness_0 : decode cX3_bluntness 0 = .ok (.bipush 100, 2) := by decide +kernel
theorem dX3_bluntness_2 : decode cX3_bluntness 2 = .ok (.iload_n 0, 1) := by decide +kernel
theorem dX3_bluntness_3 : decode cX3_bluntness 3 = .ok (.isub, 1) := by decide +kernel
theorem dX3_bluntness_4 : decode cX3_bluntness 4 = .ok (.iconst 4, 1) := by decide +kernel
theorem dX3_bluntness_5 : decode cX3_bluntness 5 = .ok (.idiv, 1) := by decide +kernel
theorem dX3_bluntness_6 : decode cX3_bluntness 6 = .ok (.ireturn, 1) := by decide +kernel
theorem dX3_sharpnessAfter_0 : decode cX3_sharpnessAfter 0 = .ok (.iconst 0, 1) := by decide +kernel
theorem dX3_sharpnessAfter_1 : decode cX3_sharpnessAfter 1 = .ok (.iload_n 0, 1) := by decide +kernel
theorem dX3_sharpnessAfter_2 : decode cX3_sharpnessAfter 2 = .ok (.iload_n 1, 1) := by decide +kernel
theorem dX3_sharpnessAfter_3 : decode cX3_sharpnessAfter 3 = .ok (.isub, 1) := by decide +kernel
theorem dX3_sharpnessAfter_4 : decode cX3_sharpnessAfter 4 = .ok (.invokestatic 290, 3) := by decide +kernel
theorem dX3_sharpnessAfter_7 : decode cX3_sharpnessAfter 7 = .ok (.ireturn, 1) := by decide +kernel
theorem dX3_copiedDepth_0 : decode cX3_copiedDepth 0 = .ok (.bipush 9, 2) := by decide +kernel
theorem dX3_copiedDepth_2 : decode cX3_copiedDepth 2 = .ok (.iconst 1, 1) := by decide +kernel
theorem dX3_copiedDepth_3 : decode cX3_copiedDepth 3 = .ok (.iload_n 0, 1) := by decide +kernel
theorem dX3_copiedDepth_4 : decode cX3_copiedDepth 4 = .ok (.iload_n 1, 1) := by decide +kernel
theorem dX3_copiedDepth_5 : decode cX3_copiedDepth 5 = .ok (.imul, 1) := by decide +kernel
theorem dX3_copiedDepth_6 : decode cX3_copiedDepth 6 = .ok (.iconst 2, 1) := by decide +kernel
theorem dX3_copiedDepth_7 : decode cX3_copiedDepth 7 = .ok (.idiv, 1) := by decide +kernel
theorem dX3_copiedDepth_8 : decode cX3_copiedDepth 8 = .ok (.invokestatic 290, 3) := by decide +kernel
theorem dX3_copiedDepth_11 : decode cX3_copiedDepth 11 = .ok (.invokestatic 295, 3) := by decide +kernel
theorem dX3_copiedDepth_14 : decode cX3_copiedDepth 14 = .ok (.ireturn, 1) := by decide +kernel
set_option maxRecDepth 20000 in
theorem ggX3_copiedClearness_X3_bluntness : GoodIn wsX3_copiedClearness wsX3_bluntness := goodIn_r _ [8] (by decide +kernel) (by decide +kernel)
set_option maxRecDepth 20000 in
theorem gX3_copiedClearness_X3_bluntness : GoodIn wsX3_copiedClearness (va_wsS RX3 298 yX3_bluntness wsX3_bluntness) := goodIn_app (goodIn_of _ (by decide +kernel)) ggX3_copiedClearness_X3_bluntness
theorem dX3_copiedClearness_0 : decode cX3_copiedClearness 0 = .ok (.iload_n 1, 1) := by decide +kernel
theorem dX3_copiedClearness_1 : decode cX3_copiedClearness 1 = .ok (.iconst 1, 1) := by decide +kernel
theorem dX3_copiedClearness_2 : decode cX3_copiedClearness 2 = .ok (.if_icmp .ge 5, 3) := by decide +kernel
theorem dX3_copiedClearness_5 : decode cX3_copiedClearness 5 = .ok (.iconst 0, 1) := by decide +kernel
theorem dX3_copiedClearness_6 : decode cX3_copiedClearness 6 = .ok (.ireturn, 1) := by decide +kernel
theorem dX3_copiedClearness_7 : decode cX3_copiedClearness 7 = .ok (.iconst 0, 1) := by decide +kernel
theorem dX3_copiedClearness_8 : decode cX3_copiedClearness 8 = .ok (.iload_n 0, 1) := by decide +kernel
theorem dX3_copiedClearness_9 : decode cX3_copiedClearness 9 = .ok (.bipush 12, 2) := by decide +kernel
theorem dX3_copiedClearness_11 : decode cX3_copiedClearness 11 = .ok (.iload_n 1, 1) := by decide +kernel
theorem dX3_copiedClearness_12 : decode cX3_copiedClearness 12 = .ok (.idiv, 1) := by decide +kernel
theorem dX3_copiedClearness_13 : decode cX3_copiedClearness 13 = .ok (.isub, 1) := by decide +kernel
theorem dX3_copiedClearness_14 : decode cX3_copiedClearness 14 = .ok (.iload_n 2, 1) := by decide +kernel
theorem dX3_copiedClearness_15 : decode cX3_copiedClearness 15 = .ok (.invokestatic 298, 3) := by decide +kernel
theorem dX3_copiedClearness_18 : decode cX3_copiedClearness 18 = .ok (.isub, 1) := by decide +kernel
theorem dX3_copiedClearness_19 : decode cX3_copiedClearness 19 = .ok (.iload_n 3, 1) := by decide +kernel
theorem dX3_copiedClearness_20 : decode cX3_copiedClearness 20 = .ok (.isub, 1) := by decide +kernel
theorem dX3_copiedClearness_21 : decode cX3_copiedClearness 21 = .ok (.invokestatic 290, 3) := by decide +kernel
theorem dX3_copiedClearness_24 : decode cX3_copiedClearness 24 = .ok (.ireturn, 1) := by decide +kernel
set_option maxRecDepth 20000 in
theorem ggX3_clearestOfAllLevers_X3_copiedDepth : GoodIn wsX3_clearestOfAllLevers wsX3_copiedDepth := goodIn_r _ [8, 1, 2, 3, 4, 9, 10, 11] (by decide +kernel) (by decide +kernel)
set_option maxRecDepth 20000 in
theorem gX3_clearestOfAllLevers_X3_copiedDepth : GoodIn wsX3_clearestOfAllLevers (va_wsS RX3 301 yX3_copiedDepth wsX3_copiedDepth) := goodIn_app (goodIn_of _ (by decide +kernel)) ggX3_clearestOfAllLevers_X3_copiedDepth
set_option maxRecDepth 20000 in
theorem ggX3_clearestOfAllLevers_X3_copiedClearness : GoodIn wsX3_clearestOfAllLevers wsX3_copiedClearness := goodIn_r _ [14, 1, 2, 3, 4, 15, 16, 7, 17] (by decide +kernel) (by decide +kernel)
set_option maxRecDepth 20000 in
theorem gX3_clearestOfAllLevers_X3_copiedClearness : GoodIn wsX3_clearestOfAllLevers (va_wsS RX3 304 yX3_copiedClearness wsX3_copiedClearness) := goodIn_app (goodIn_of _ (by decide +kernel)) ggX3_clearestOfAllLevers_X3_copiedClearness
set_option maxRecDepth 20000 in
theorem ggX3_clearestOfAllLevers_X3_sharpnessAfter : GoodIn wsX3_clearestOfAllLevers wsX3_sharpnessAfter := goodIn_r _ [20, 1, 2, 3, 4] (by decide +kernel) (by decide +kernel)
set_option maxRecDepth 20000 in
theorem gX3_clearestOfAllLevers_X3_sharpnessAfter : GoodIn wsX3_clearestOfAllLevers (va_wsS RX3 307 yX3_sharpnessAfter wsX3_sharpnessAfter) := goodIn_app (goodIn_of _ (by decide +kernel)) ggX3_clearestOfAllLevers_X3_sharpnessAfter
set_option maxRecDepth 20000 in
theorem ggX3_clearestOfAllLevers_X3_clearestOfAllLevers : GoodIn wsX3_clearestOfAllLevers wsX3_clearestOfAllLevers := goodIn_r _ [0, 1, 2, 3, 4, 5, 6, 7, 8, 9, 10, 11, 12, 13, 14, 15, 16, 17, 18, 19, 20, 21, 22] (by decide +kernel) (by decide +kernel)
set_option maxRecDepth 20000 in
theorem gX3_clearestOfAllLevers_X3_clearestOfAllLevers : GoodIn wsX3_clearestOfAllLevers (va_wsS RX3 183 yX3_clearestOfAllLevers wsX3_clearestOfAllLevers) := goodIn_app (goodIn_of _ (by decide +kernel)) ggX3_clearestOfAllLevers_X3_clearestOfAllLevers
theorem dX3_clearestOfAllLevers_0 : decode cX3_clearestOfAllLevers 0 = .ok (.iload_n 0, 1) := by decide +kernel
theorem dX3_clearestOfAllLevers_1 : decode cX3_clearestOfAllLevers 1 = .ok (.ifCond .gt 5, 3) := by decide +kernel
theorem dX3_clearestOfAllLevers_4 : decode cX3_clearestOfAllLevers 4 = .ok (.iload_n 2, 1) := by decide +kernel
theorem dX3_clearestOfAllLevers_5 : decode cX3_clearestOfAllLevers 5 = .ok (.ireturn, 1) := by decide +kernel
theorem dX3_clearestOfAllLevers_6 : decode cX3_clearestOfAllLevers 6 = .ok (.iconst (-1), 1) := by decide +kernel
theorem dX3_clearestOfAllLevers_7 : decode cX3_clearestOfAllLevers 7 = .ok (.istore 4, 2) := by decide +kernel
theorem dX3_clearestOfAllLevers_9 : decode cX3_clearestOfAllLevers 9 = .ok (.iconst 1, 1) := by decide +kernel
theorem dX3_clearestOfAllLevers_10 : decode cX3_clearestOfAllLevers 10 = .ok (.istore 5, 2) := by decide +kernel
theorem dX3_clearestOfAllLevers_12 : decode cX3_clearestOfAllLevers 12 = .ok (.iload 5, 2) := by decide +kernel
theorem dX3_clearestOfAllLevers_14 : decode cX3_clearestOfAllLevers 14 = .ok (.iconst 3, 1) := by decide +kernel
theorem dX3_clearestOfAllLevers_15 : decode cX3_clearestOfAllLevers 15 = .ok (.if_icmp .gt 50, 3) := by decide +kernel
theorem dX3_clearestOfAllLevers_18 : decode cX3_clearestOfAllLevers 18 = .ok (.iload_n 1, 1) := by decide +kernel
theorem dX3_clearestOfAllLevers_19 : decode cX3_clearestOfAllLevers 19 = .ok (.iload 5, 2) := by decide +kernel
theorem dX3_clearestOfAllLevers_21 : decode cX3_clearestOfAllLevers 21 = .ok (.invokestatic 301, 3) := by decide +kernel
theorem dX3_clearestOfAllLevers_24 : decode cX3_clearestOfAllLevers 24 = .ok (.istore 6, 2) := by decide +kernel
theorem dX3_clearestOfAllLevers_26 : decode cX3_clearestOfAllLevers 26 = .ok (.iload_n 2, 1) := by decide +kernel
theorem dX3_clearestOfAllLevers_27 : decode cX3_clearestOfAllLevers 27 = .ok (.iload 5, 2) := by decide +kernel
theorem dX3_clearestOfAllLevers_29 : decode cX3_clearestOfAllLevers 29 = .ok (.iload_n 3, 1) := by decide +kernel
theorem dX3_clearestOfAllLevers_30 : decode cX3_clearestOfAllLevers 30 = .ok (.iconst 0, 1) := by decide +kernel
theorem dX3_clearestOfAllLevers_31 : decode cX3_clearestOfAllLevers 31 = .ok (.invokestatic 304, 3) := by decide +kernel
theorem dX3_clearestOfAllLevers_34 : decode cX3_clearestOfAllLevers 34 = .ok (.istore 7, 2) := by decide +kernel
theorem dX3_clearestOfAllLevers_36 : decode cX3_clearestOfAllLevers 36 = .ok (.iload 4, 2) := by decide +kernel
theorem dX3_clearestOfAllLevers_38 : decode cX3_clearestOfAllLevers 38 = .ok (.iload_n 0, 1) := by decide +kernel
theorem dX3_clearestOfAllLevers_39 : decode cX3_clearestOfAllLevers 39 = .ok (.iconst 1, 1) := by decide +kernel
theorem dX3_clearestOfAllLevers_40 : decode cX3_clearestOfAllLevers 40 = .ok (.isub, 1) := by decide +kernel
theorem dX3_clearestOfAllLevers_41 : decode cX3_clearestOfAllLevers 41 = .ok (.iload 6, 2) := by decide +kernel
theorem dX3_clearestOfAllLevers_43 : decode cX3_clearestOfAllLevers 43 = .ok (.iload 7, 2) := by decide +kernel
theorem dX3_clearestOfAllLevers_45 : decode cX3_clearestOfAllLevers 45 = .ok (.iload_n 3, 1) := by decide +kernel
theorem dX3_clearestOfAllLevers_46 : decode cX3_clearestOfAllLevers 46 = .ok (.iload 6, 2) := by decide +kernel
theorem dX3_clearestOfAllLevers_48 : decode cX3_clearestOfAllLevers 48 = .ok (.invokestatic 307, 3) := by decide +kernel
theorem dX3_clearestOfAllLevers_51 : decode cX3_clearestOfAllLevers 51 = .ok (.invokestatic 183, 3) := by decide +kernel
theorem dX3_clearestOfAllLevers_54 : decode cX3_clearestOfAllLevers 54 = .ok (.invokestatic 290, 3) := by decide +kernel
theorem dX3_clearestOfAllLevers_57 : decode cX3_clearestOfAllLevers 57 = .ok (.istore 4, 2) := by decide +kernel
theorem dX3_clearestOfAllLevers_59 : decode cX3_clearestOfAllLevers 59 = .ok (.iinc 5 1, 3) := by decide +kernel
theorem dX3_clearestOfAllLevers_62 : decode cX3_clearestOfAllLevers 62 = .ok (.goto (-50), 3) := by decide +kernel
theorem dX3_clearestOfAllLevers_65 : decode cX3_clearestOfAllLevers 65 = .ok (.iload 4, 2) := by decide +kernel
theorem dX3_clearestOfAllLevers_67 : decode cX3_clearestOfAllLevers 67 = .ok (.ireturn, 1) := by decide +kernel
