theorem dX3_init_0 : decode cX3_init 0 = .ok (.aload_n 0, 1) := by decide +kernel
theorem dX3_init_1 : decode cX3_init 1 = .ok (.invokespecial 3, 3) := by decide +kernel
theorem dX3_init_4 : decode cX3_init 4 = .ok (.aload_n 0, 1) := by decide +kernel
theorem dX3_init_5 : decode cX3_init 5 = .ok (.new 9, 3) := by decide +kernel
theorem dX3_init_8 : decode cX3_init 8 = .ok (.dup, 1) := by decide +kernel
theorem dX3_init_9 : decode cX3_init 9 = .ok (.invokespecial 11, 3) := by decide +kernel
theorem dX3_init_12 : decode cX3_init 12 = .ok (.putfield 12, 3) := by decide +kernel
theorem dX3_init_15 : decode cX3_init 15 = .ok (.aload_n 0, 1) := by decide +kernel
theorem dX3_init_16 : decode cX3_init 16 = .ok (.iconst 2, 1) := by decide +kernel
theorem dX3_init_17 : decode cX3_init 17 = .ok (.anewarray 9, 3) := by decide +kernel
theorem dX3_init_20 : decode cX3_init 20 = .ok (.putfield 16, 3) := by decide +kernel
theorem dX3_init_23 : decode cX3_init 23 = .ok (.aload_n 0, 1) := by decide +kernel
theorem dX3_init_24 : decode cX3_init 24 = .ok (.iconst 2, 1) := by decide +kernel
theorem dX3_init_25 : decode cX3_init 25 = .ok (.newarray .boolean, 2) := by decide +kernel
theorem dX3_init_27 : decode cX3_init 27 = .ok (.putfield 20, 3) := by decide +kernel
theorem dX3_init_30 : decode cX3_init 30 = .ok (.aload_n 0, 1) := by decide +kernel
theorem dX3_init_31 : decode cX3_init 31 = .ok (.bipush 6, 2) := by decide +kernel
theorem dX3_init_33 : decode cX3_init 33 = .ok (.anewarray 9, 3) := by decide +kernel
theorem dX3_init_36 : decode cX3_init 36 = .ok (.putfield 24, 3) := by decide +kernel
theorem dX3_init_39 : decode cX3_init 39 = .ok (.aload_n 0, 1) := by decide +kernel
theorem dX3_init_40 : decode cX3_init 40 = .ok (.iconst 0, 1) := by decide +kernel
theorem dX3_init_41 : decode cX3_init 41 = .ok (.putfield 27, 3) := by decide +kernel
theorem dX3_init_44 : decode cX3_init 44 = .ok (.aload_n 0, 1) := by decide +kernel
theorem dX3_init_45 : decode cX3_init 45 = .ok (.new 31, 3) := by decide +kernel
theorem dX3_init_48 : decode cX3_init 48 = .ok (.dup, 1) := by decide +kernel
theorem dX3_init_49 : decode cX3_init 49 = .ok (.invokespecial 33, 3) := by decide +kernel
theorem dX3_init_52 : decode cX3_init 52 = .ok (.putfield 34, 3) := by decide +kernel
theorem dX3_init_55 : decode cX3_init 55 = .ok (.aload_n 0, 1) := by decide +kernel
theorem dX3_init_56 : decode cX3_init 56 = .ok (.new 38, 3) := by decide +kernel
theorem dX3_init_59 : decode cX3_init 59 = .ok (.dup, 1) := by decide +kernel
theorem dX3_init_60 : decode cX3_init 60 = .ok (.invokespecial 40, 3) := by decide +kernel
theorem dX3_init_63 : decode cX3_init 63 = .ok (.putfield 41, 3) := by decide +kernel
theorem dX3_init_66 : decode cX3_init 66 = .ok (.iconst 0, 1) := by decide +kernel
theorem dX3_init_67 : decode cX3_init 67 = .ok (.istore_n 1, 1) := by decide +kernel
theorem dX3_init_68 : decode cX3_init 68 = .ok (.iload_n 1, 1) := by decide +kernel
theorem dX3_init_69 : decode cX3_init 69 = .ok (.iconst 2, 1) := by decide +kernel
theorem dX3_init_70 : decode cX3_init 70 = .ok (.if_icmp .ge 22, 3) := by decide +kernel
theorem dX3_init_73 : decode cX3_init 73 = .ok (.aload_n 0, 1) := by decide +kernel
theorem dX3_init_74 : decode cX3_init 74 = .ok (.getfield 16, 3) := by decide +kernel
theorem dX3_init_77 : decode cX3_init 77 = .ok (.iload_n 1, 1) := by decide +kernel
theorem dX3_init_78 : decode cX3_init 78 = .ok (.new 9, 3) := by decide +kernel
theorem dX3_init_81 : decode cX3_init 81 = .ok (.dup, 1) := by decide +kernel
theorem dX3_init_82 : decode cX3_init 82 = .ok (.invokespecial 11, 3) := by decide +kernel
theorem dX3_init_85 : decode cX3_init 85 = .ok (.aastore, 1) := by decide +kernel
theorem dX3_init_86 : decode cX3_init 86 = .ok (.iinc 1 1, 3) := by decide +kernel
theorem dX3_init_89 : decode cX3_init 89 = .ok (.goto (-21), 3) := by decide +kernel
theorem dX3_init_92 : decode cX3_init 92 = .ok (.iconst 0, 1) := by decide +kernel
theorem dX3_init_93 : decode cX3_init 93 = .ok (.istore_n 1, 1) := by decide +kernel
theorem dX3_init_94 : decode cX3_init 94 = .ok (.iload_n 1, 1) := by decide +kernel
theorem dX3_init_95 : decode cX3_init 95 = .ok (.bipush 6, 2) := by decide +kernel
theorem dX3_init_97 : decode cX3_init 97 = .ok (.if_icmp .ge 22, 3) := by decide +kernel
theorem dX3_init_100 : decode cX3_init 100 = .ok (.aload_n 0, 1) := by decide +kernel
theorem dX3_init_101 : decode cX3_init 101 = .ok (.getfield 24, 3) := by decide +kernel
theorem dX3_init_104 : decode cX3_init 104 = .ok (.iload_n 1, 1) := by decide +kernel
theorem dX3_init_105 : decode cX3_init 105 = .ok (.new 9, 3) := by decide +kernel
theorem dX3_init_108 : decode cX3_init 108 = .ok (.dup, 1) := by decide +kernel
theorem dX3_init_109 : decode cX3_init 109 = .ok (.invokespecial 11, 3) := by decide +kernel
theorem dX3_init_112 : decode cX3_init 112 = .ok (.aastore, 1) := by decide +kernel
theorem dX3_init_113 : decode cX3_init 113 = .ok (.iinc 1 1, 3) := by decide +kernel
theorem dX3_init_116 : decode cX3_init 116 = .ok (.goto (-22), 3) := by decide +kernel
theorem dX3_init_119 : decode cX3_init 119 = .ok (.return_, 1) := by decide +kernel
set_option maxRecDepth 20000 in
theorem ggX3_speak_X3_checkTrack : GoodIn wsX3_speak wsX3_checkTrack := goodIn_ca (goodIn_r _ [6, 7, 8] (by decide +kernel) (by decide +kernel)) (goodIn_sub (fun _ h => List.mem_cons_of_mem _ (List.mem_append_left _ (List.mem_append_right _ h))) (by decide +kernel))
set_option maxRecDepth 20000 in
theorem gX3_speak_X3_checkTrack : GoodIn wsX3_speak (wsV RX3 45 RX3 yX3_checkTrack wsX3_checkTrack) := goodIn_app (goodIn_of _ (by decide +kernel)) ggX3_speak_X3_checkTrack
set_option maxRecDepth 20000 in
theorem ggX3_speak_X3_checkLoudness : GoodIn wsX3_speak wsX3_checkLoudness := goodIn_ca (goodIn_r _ [12, 13, 14] (by decide +kernel) (by decide +kernel)) (goodIn_sub (fun _ h => List.mem_cons_of_mem _ (List.mem_append_right _ h)) (by decide +kernel))
set_option maxRecDepth 20000 in
theorem gX3_speak_X3_checkLoudness : GoodIn wsX3_speak (wsV RX3 49 RX3 yX3_checkLoudness wsX3_checkLoudness) := goodIn_app (goodIn_of _ (by decide +kernel)) ggX3_speak_X3_checkLoudness
set_option maxRecDepth 20000 in
theorem ggX3_speak_X3_saveState : GoodIn wsX3_speak wsX3_saveState := goodIn_r _ [18, 19, 20, 1, 21, 22, 23, 5, 24, 25, 26, 27, 28, 29, 30, 31, 32, 33, 34, 35, 36, 37, 38, 39, 40, 41, 42, 43, 44, 45, 46, 47, 48, 49, 50, 51, 52, 81, 82, 83, 84, 85, 86, 87, 88, 89, 90, 91, 92, 93, 94, 95, 96, 97, 98, 99, 100, 101, 102, 103, 104, 105, 106] (by decide +kernel) (by decide +kernel)
set_option maxRecDepth 20000 in
theorem gX3_speak_X3_saveState : GoodIn wsX3_speak (wsV RX3 52 RX3 yX3_saveState wsX3_saveState) := goodIn_app (goodIn_of _ (by decide +kernel)) ggX3_speak_X3_saveState
set_option maxRecDepth 20000 in
theorem ggX3_speak_X2_speakOnto : GoodIn wsX3_speak wsX2_speakOnto := goodIn_r _ [56, 52, 37, 38, 43, 44, 46, 57, 58, 59, 28, 60, 41, 61, 62, 63, 64, 30, 65, 5, 66, 67, 68, 69, 70, 71, 72, 73, 74, 35, 39, 36, 40, 75, 76, 77, 78, 79, 80, 88, 89, 90, 91, 92, 93, 94, 95, 96, 97, 98, 99, 100, 101, 102, 103, 104, 105, 106] (by decide +kernel) (by decide +kernel)
set_option maxRecDepth 20000 in
theorem gX3_speak_X2_speakOnto : GoodIn wsX3_speak (wsV RX3 55 RX2 yX2_speakOnto wsX2_speakOnto) := goodIn_app (goodIn_of _ (by decide +kernel)) ggX3_speak_X2_speakOnto
theorem dX3_speak_0 : decode cX3_speak 0 = .ok (.aload_n 0, 1) := by decide +kernel
theorem dX3_speak_1 : decode cX3_speak 1 = .ok (.iload_n 1, 1) := by decide +kernel
theorem dX3_speak_2 : decode cX3_speak 2 = .ok (.invokevirtual 45, 3) := by decide +kernel
theorem dX3_speak_5 : decode cX3_speak 5 = .ok (.aload_n 0, 1) := by decide +kernel
theorem dX3_speak_6 : decode cX3_speak 6 = .ok (.iload_n 2, 1) := by decide +kernel
theorem dX3_speak_7 : decode cX3_speak 7 = .ok (.invokevirtual 49, 3) := by decide +kernel
theorem dX3_speak_10 : decode cX3_speak 10 = .ok (.aload_n 0, 1) := by decide +kernel
theorem dX3_speak_11 : decode cX3_speak 11 = .ok (.invokevirtual 52, 3) := by decide +kernel
theorem dX3_speak_14 : decode cX3_speak 14 = .ok (.aload_n 0, 1) := by decide +kernel
theorem dX3_speak_15 : decode cX3_speak 15 = .ok (.getfield 12, 3) := by decide +kernel
theorem dX3_speak_18 : decode cX3_speak 18 = .ok (.iload_n 1, 1) := by decide +kernel
theorem dX3_speak_19 : decode cX3_speak 19 = .ok (.iload_n 2, 1) := by decide +kernel
theorem dX3_speak_20 : decode cX3_speak 20 = .ok (.invokevirtual 55, 3) := by decide +kernel
theorem dX3_speak_23 : decode cX3_speak 23 = .ok (.ireturn, 1) := by decide +kernel
set_option maxRecDepth 20000 in
theorem ggX3_copy_X3_checkTrack : GoodIn wsX3_copy wsX3_checkTrack := goodIn_ca (goodIn_r _ [6, 7, 8] (by decide +kernel) (by decide +kernel)) (goodIn_sub (fun _ h => List.mem_cons_of_mem _ (List.mem_append_left _ (List.mem_append_right _ h))) (by decide +kernel))
set_option maxRecDepth 20000 in
theorem gX3_copy_X3_checkTrack : GoodIn wsX3_copy (wsV RX3 45 RX3 yX3_checkTrack wsX3_checkTrack) := goodIn_app (goodIn_of _ (by decide +kernel)) ggX3_copy_X3_checkTrack
set_option maxRecDepth 20000 in
theorem ggX3_copy_X3_checkLever : GoodIn wsX3_copy wsX3_checkLever := goodIn_ca (goodIn_r _ [12, 13, 14] (by decide +kernel) (by decide +kernel)) (goodIn_sub (fun _ h => List.mem_cons_of_mem _ (List.mem_append_right _ h)) (by decide +kernel))
set_option maxRecDepth 20000 in
theorem gX3_copy_X3_checkLever : GoodIn wsX3_copy (wsV RX3 59 RX3 yX3_checkLever wsX3_checkLever) := goodIn_app (goodIn_of _ (by decide +kernel)) ggX3_copy_X3_checkLever
set_option maxRecDepth 20000 in
theorem ggX3_copy_X3_saveState : GoodIn wsX3_copy wsX3_saveState := goodIn_r _ [18, 19, 20, 1, 21, 22, 23, 5, 24, 25, 26, 27, 28, 29, 30, 31, 32, 33, 34, 35, 36, 37, 38, 39, 40, 41, 42, 43, 44, 45, 46, 47, 48, 49, 50, 51, 52, 94, 95, 96, 97, 98, 99, 100, 101, 102, 103, 104, 105, 106, 107, 108, 109, 110, 111, 112, 113, 114, 115, 116, 117, 118, 119] (by decide +kernel) (by decide +kernel)
set_option maxRecDepth 20000 in
theorem gX3_copy_X3_saveState : GoodIn wsX3_copy (wsV RX3 52 RX3 yX3_saveState wsX3_saveState) := goodIn_app (goodIn_of _ (by decide +kernel)) ggX3_copy_X3_saveState
set_option maxRecDepth 20000 in
theorem ggX3_copy_X2_copyOnto : GoodIn wsX3_copy wsX2_copyOnto := goodIn_r _ [56, 52, 37, 38, 36, 57, 58, 59, 60, 30, 44, 47, 61, 62, 63, 28, 64, 41, 65, 66, 67, 68, 69, 5, 70, 71, 72, 73, 74, 75, 76, 77, 78, 79, 80, 81, 82, 35, 43, 83, 84, 85, 86, 87, 88, 89, 90, 91, 39, 40, 92, 93, 101, 102, 103, 104, 105, 106, 107, 108, 109, 110, 111, 112, 113, 114, 115, 116, 117, 118, 119] (by decide +kernel) (by decide +kernel)
set_option maxRecDepth 20000 in
theorem gX3_copy_X2_copyOnto : GoodIn wsX3_copy (wsV RX3 62 RX2 yX2_copyOnto wsX2_copyOnto) := goodIn_app (goodIn_of _ (by decide +kernel)) ggX3_copy_X2_copyOnto
theorem dX3_copy_0 : decode cX3_copy 0 = .ok (.aload_n 0, 1) := by decide +kernel
theorem dX3_copy_1 : decode cX3_copy 1 = .ok (.iload_n 1, 1) := by decide +kernel
theorem dX3_copy_2 : decode cX3_copy 2 = .ok (.invokevirtual 45, 3) := by decide +kernel
theorem dX3_copy_5 : decode cX3_copy 5 = .ok (.aload_n 0, 1) := by decide +kernel
theorem dX3_copy_6 : decode cX3_copy 6 = .ok (.iload_n 2, 1) := by decide +kernel
theorem dX3_copy_7 : decode cX3_copy 7 = .ok (.invokevirtual 45, 3) := by decide +kernel
theorem dX3_copy_10 : decode cX3_copy 10 = .ok (.aload_n 0, 1) := by decide +kernel
theorem dX3_copy_11 : decode cX3_copy 11 = .ok (.iload_n 3, 1) := by decide +kernel
theorem dX3_copy_12 : decode cX3_copy 12 = .ok (.invokevirtual 59, 3) := by decide +kernel
theorem dX3_copy_15 : decode cX3_copy 15 = .ok (.aload_n 0, 1) := by decide +kernel
theorem dX3_copy_16 : decode cX3_copy 16 = .ok (.invokevirtual 52, 3) := by decide +kernel
theorem dX3_copy_19 : decode cX3_copy 19 = .ok (.aload_n 0, 1) := by decide +kernel
theorem dX3_copy_20 : decode cX3_copy 20 = .ok (.getfield 12, 3) := by decide +kernel
theorem dX3_copy_23 : decode cX3_copy 23 = .ok (.iload_n 1, 1) := by decide +kernel
theorem dX3_copy_24 : decode cX3_copy 24 = .ok (.iload_n 2, 1) := by decide +kernel
theorem dX3_copy_25 : decode cX3_copy 25 = .ok (.iload_n 3, 1) := by decide +kernel
theorem dX3_copy_26 : decode cX3_copy 26 = .ok (.invokevirtual 62, 3) := by decide +kernel
theorem dX3_copy_29 : decode cX3_copy 29 = .ok (.ireturn, 1) := by decide +kernel
set_option maxRecDepth 20000 in
theorem ggX3_play_X3_checkTrack : GoodIn wsX3_play wsX3_checkTrack := goodIn_ca (goodIn_r _ [6, 7, 8] (by decide +kernel) (by decide +kernel)) (goodIn_sub (fun _ h => List.mem_cons_of_mem _ (List.mem_append_right _ h)) (by decide +kernel))
set_option maxRecDepth 20000 in
theorem gX3_play_X3_checkTrack : GoodIn wsX3_play (wsV RX3 45 RX3 yX3_checkTrack wsX3_checkTrack) := goodIn_app (goodIn_of _ (by decide +kernel)) ggX3_play_X3_checkTrack
set_option maxRecDepth 20000 in
theorem ggX3_play_X3_saveState : GoodIn wsX3_play wsX3_saveState := goodIn_r _ [12, 13, 14, 1, 15, 16, 17, 5, 18, 19, 20, 21, 22, 23, 24, 25, 26, 27, 28, 29, 30, 31, 32, 33, 34, 35, 36, 37, 38, 39, 40, 41, 42, 43, 44, 45, 46, 59, 60, 61, 62, 63, 64, 65, 66, 67, 68, 69, 70, 71, 72, 73, 74, 75, 76, 77, 78, 79, 80, 81, 82, 83, 84] (by decide +kernel) (by decide +kernel)
set_option maxRecDepth 20000 in
theorem gX3_play_X3_saveState : GoodIn wsX3_play (wsV RX3 52 RX3 yX3_saveState wsX3_saveState) := goodIn_app (goodIn_of _ (by decide +kernel)) ggX3_play_X3_saveState
set_option maxRecDepth 20000 in
theorem ggX3_play_X2_playTrack : GoodIn wsX3_play wsX2_playTrack := goodIn_r _ [50, 38, 46, 29, 39, 51, 52, 53, 54, 34, 42, 55, 56, 57, 22, 58, 24, 66, 67, 68, 69, 70, 71, 72, 73, 74, 75, 76, 77, 78, 79, 80, 81, 82, 83, 84] (by decide +kernel) (by decide +kernel)
set_option maxRecDepth 20000 in
theorem gX3_play_X2_playTrack : GoodIn wsX3_play (wsV RX3 66 RX2 yX2_playTrack wsX2_playTrack) := goodIn_app (goodIn_of _ (by decide +kernel)) ggX3_play_X2_playTrack
theorem dX3_play_0 : decode cX3_play 0 = .ok (.aload_n 0, 1) := by decide +kernel
theorem dX3_play_1 : decode cX3_play 1 = .ok (.iload_n 1, 1) := by decide +kernel
theorem dX3_play_2 : decode cX3_play 2 = .ok (.invokevirtual 45, 3) := by decide +kernel
theorem dX3_play_5 : decode cX3_play 5 = .ok (.aload_n 0, 1) := by decide +kernel
theorem dX3_play_6 : decode cX3_play 6 = .ok (.invokevirtual 52, 3) := by decide +kernel
theorem dX3_play_9 : decode cX3_play 9 = .ok (.aload_n 0, 1) := by decide +kernel
theorem dX3_play_10 : decode cX3_play 10 = .ok (.getfield 12, 3) := by decide +kernel
theorem dX3_play_13 : decode cX3_play 13 = .ok (.iload_n 1, 1) := by decide +kernel
theorem dX3_play_14 : decode cX3_play 14 = .ok (.invokevirtual 66, 3) := by decide +kernel
theorem dX3_play_17 : decode cX3_play 17 = .ok (.ireturn, 1) := by decide +kernel
set_option maxRecDepth 20000 in
theorem ggX3_shave_X3_checkCylinder : GoodIn wsX3_shave wsX3_checkCylinder := goodIn_ca (goodIn_r _ [6, 7, 8] (by decide +kernel) (by decide +kernel)) (goodIn_sub (fun _ h => List.mem_cons_of_mem _ (List.mem_append_right _ h)) (by decide +kernel))
set_option maxRecDepth 20000 in
theorem gX3_shave_X3_checkCylinder : GoodIn wsX3_shave (wsV RX3 70 RX3 yX3_checkCylinder wsX3_checkCylinder) := goodIn_app (goodIn_of _ (by decide +kernel)) ggX3_shave_X3_checkCylinder
set_option maxRecDepth 20000 in
theorem ggX3_shave_X3_saveState : GoodIn wsX3_shave wsX3_saveState := goodIn_r _ [12, 13, 14, 1, 15, 16, 17, 5, 18, 19, 20, 21, 22, 23, 24, 25, 26, 27, 28, 29, 30, 31, 32, 33, 34, 35, 36, 37, 38, 39, 40, 41, 42, 43, 44, 45, 46, 63, 64, 65, 66, 67, 68, 69, 70, 71, 72, 73, 74, 75, 76, 77, 78, 79, 80, 81, 82, 83, 84, 85, 86, 87, 88] (by decide +kernel) (by decide +kernel)
set_option maxRecDepth 20000 in
theorem gX3_shave_X3_saveState : GoodIn wsX3_shave (wsV RX3 52 RX3 yX3_saveState wsX3_saveState) := goodIn_app (goodIn_of _ (by decide +kernel)) ggX3_shave_X3_saveState
set_option maxRecDepth 20000 in
theorem ggX3_shave_X2_shaveCylinder : GoodIn wsX3_shave wsX2_shaveCylinder := goodIn_r _ [50, 46, 35, 43, 36, 51, 52, 53, 22, 54, 24, 55, 56, 57, 58, 59, 60, 61, 62, 32, 70, 71, 72, 73, 74, 75, 76, 77, 78, 79, 80, 81, 82, 83, 84, 85, 86, 87, 88] (by decide +kernel) (by decide +kernel)
set_option maxRecDepth 20000 in
theorem gX3_shave_X2_shaveCylinder : GoodIn wsX3_shave (wsV RX3 73 RX2 yX2_shaveCylinder wsX2_shaveCylinder) := goodIn_app (goodIn_of _ (by decide +kernel)) ggX3_shave_X2_shaveCylinder
theorem dX3_shave_0 : decode cX3_shave 0 = .ok (.aload_n 0, 1) := by decide +kernel
theorem dX3_shave_1 : decode cX3_shave 1 = .ok (.iload_n 1, 1) := by decide +kernel
theorem dX3_shave_2 : decode cX3_shave 2 = .ok (.invokevirtual 70, 3) := by decide +kernel
theorem dX3_shave_5 : decode cX3_shave 5 = .ok (.aload_n 0, 1) := by decide +kernel
theorem dX3_shave_6 : decode cX3_shave 6 = .ok (.invokevirtual 52, 3) := by decide +kernel
theorem dX3_shave_9 : decode cX3_shave 9 = .ok (.aload_n 0, 1) := by decide +kernel
theorem dX3_shave_10 : decode cX3_shave 10 = .ok (.getfield 12, 3) := by decide +kernel
theorem dX3_shave_13 : decode cX3_shave 13 = .ok (.iload_n 1, 1) := by decide +kernel
theorem dX3_shave_14 : decode cX3_shave 14 = .ok (.invokevirtual 73, 3) := by decide +kernel
theorem dX3_shave_17 : decode cX3_shave 17 = .ok (.ireturn, 1) := by decide +kernel
set_option maxRecDepth 20000 in
theorem ggX3_wind_X3_saveState : GoodIn wsX3_wind wsX3_saveState := goodIn_r _ [6, 7, 8, 1, 9, 10, 11, 5, 12, 13, 14, 15, 16, 17, 18, 19, 20, 21, 22, 23, 24, 25, 26, 27, 28, 29, 30, 31, 32, 33, 34, 35, 36, 37, 38, 39, 40, 45, 46, 47, 48, 49, 50, 51, 52, 53, 54, 55, 56, 57, 58, 59, 60, 61, 62, 63, 64, 65, 66, 67, 68, 69, 70] (by decide +kernel) (by decide +kernel)
set_option maxRecDepth 20000 in
theorem gX3_wind_X3_saveState : GoodIn wsX3_wind (wsV RX3 52 RX3 yX3_saveState wsX3_saveState) := goodIn_app (goodIn_of _ (by decide +kernel)) ggX3_wind_X3_saveState
set_option maxRecDepth 20000 in
theorem ggX3_wind_X2_windUp : GoodIn wsX3_wind wsX2_windUp := goodIn_r _ [44, 32, 52, 53, 54, 55, 56, 57, 58, 59, 60, 61, 62, 63, 64, 65, 66, 67, 68, 69, 70] (by decide +kernel) (by decide +kernel)
set_option maxRecDepth 20000 in
theorem gX3_wind_X2_windUp : GoodIn wsX3_wind (wsV RX3 76 RX2 yX2_windUp wsX2_windUp) := goodIn_app (goodIn_of _ (by decide +kernel)) ggX3_wind_X2_windUp
theorem dX3_wind_0 : decode cX3_wind 0 = .ok (.aload_n 0, 1) := by decide +kernel
theorem dX3_wind_1 : decode cX3_wind 1 = .ok (.invokevirtual 52, 3) := by decide +kernel
theorem dX3_wind_4 : decode cX3_wind 4 = .ok (.aload_n 0, 1) := by decide +kernel
theorem dX3_wind_5 : decode cX3_wind 5 = .ok (.getfield 12, 3) := by decide +kernel
theorem dX3_wind_8 : decode cX3_wind 8 = .ok (.invokevirtual 76, 3) := by decide +kernel
theorem dX3_wind_11 : decode cX3_wind 11 = .ok (.ireturn, 1) := by decide +kernel
set_option maxRecDepth 20000 in
theorem ggX3_sharpen_X3_saveState : GoodIn wsX3_sharpen wsX3_saveState := goodIn_r _ [6, 7, 8, 1, 9, 10, 11, 5, 12, 13, 14, 15, 16, 17, 18, 19, 20, 21, 22, 23, 24, 25, 26, 27, 28, 29, 30, 31, 32, 33, 34, 35, 36, 37, 38, 39, 40, 45, 46, 47, 48, 49, 50, 51, 52, 53, 54, 55, 56, 57, 58, 59, 60, 61, 62, 63, 64, 65, 66, 67, 68, 69, 70] (by decide +kernel) (by decide +kernel)
set_option maxRecDepth 20000 in
theorem gX3_sharpen_X3_saveState : GoodIn wsX3_sharpen (wsV RX3 52 RX3 yX3_saveState wsX3_saveState) := goodIn_app (goodIn_of _ (by decide +kernel)) ggX3_sharpen_X3_saveState
set_option maxRecDepth 20000 in
theorem ggX3_sharpen_X2_sharpenPoint : GoodIn wsX3_sharpen wsX2_sharpenPoint := goodIn_r _ [44, 31, 52, 53, 54, 55, 56, 57, 58, 59, 60, 61, 62, 63, 64, 65, 66, 67, 68, 69, 70] (by decide +kernel) (by decide +kernel)
set_option maxRecDepth 20000 in
theorem gX3_sharpen_X2_sharpenPoint : GoodIn wsX3_sharpen (wsV RX3 80 RX2 yX2_sharpenPoint wsX2_sharpenPoint) := goodIn_app (goodIn_of _ (by decide +kernel)) ggX3_sharpen_X2_sharpenPoint
theorem dX3_sharpen_0 : decode cX3_sharpen 0 = .ok (.aload_n 0, 1) := by decide +kernel
theorem dX3_sharpen_1 : decode cX3_sharpen 1 = .ok (.invokevirtual 52, 3) := by decide +kernel
theorem dX3_sharpen_4 : decode cX3_sharpen 4 = .ok (.aload_n 0, 1) := by decide +kernel
theorem dX3_sharpen_5 : decode cX3_sharpen 5 = .ok (.getfield 12, 3) := by decide +kernel
theorem dX3_sharpen_8 : decode cX3_sharpen 8 = .ok (.invokevirtual 80, 3) := by decide +kernel
theorem dX3_sharpen_11 : decode cX3_sharpen 11 = .ok (.ireturn, 1) := by decide +kernel
set_option maxRecDepth 20000 in
theorem ggX3_renew_X3_checkCylinder : GoodIn wsX3_renew wsX3_checkCylinder := goodIn_ca (goodIn_r _ [8, 9, 10] (by decide +kernel) (by decide +kernel)) (goodIn_sub (fun _ h => List.mem_cons_of_mem _ (List.mem_append_right _ h)) (by decide +kernel))
set_option maxRecDepth 20000 in
theorem gX3_renew_X3_checkCylinder : GoodIn wsX3_renew (wsV RX3 70 RX3 yX3_checkCylinder wsX3_checkCylinder) := goodIn_app (goodIn_of _ (by decide +kernel)) ggX3_renew_X3_checkCylinder
set_option maxRecDepth 20000 in
theorem ggX3_renew_X3_saveState : GoodIn wsX3_renew wsX3_saveState := goodIn_r _ [14, 15, 16, 3, 17, 18, 19, 7, 20, 21, 22, 23, 24, 25, 26, 27, 28, 29, 30, 31, 32, 33, 34, 35, 36, 37, 38, 39, 40, 41, 42, 43, 44, 45, 46, 47, 48, 57, 58, 59, 60, 61, 62, 63, 64, 65, 66, 67, 68, 69, 70, 71, 72, 73, 74, 75, 76, 77, 78, 79, 80, 81, 82] (by decide +kernel) (by decide +kernel)
set_option maxRecDepth 20000 in
theorem gX3_renew_X3_saveState : GoodIn wsX3_renew (wsV RX3 52 RX3 yX3_saveState wsX3_saveState) := goodIn_app (goodIn_of _ (by decide +kernel)) ggX3_renew_X3_saveState
set_option maxRecDepth 20000 in
theorem ggX3_renew_X2_renewCylinder : GoodIn wsX3_renew wsX2_renewCylinder := goodIn_r _ [52, 37, 47, 46, 38, 53, 54, 55, 24, 56, 26, 34, 64, 65, 66, 67, 68, 69, 70, 71, 72, 73, 74, 75, 76, 77, 78, 79, 80, 81, 82] (by decide +kernel) (by decide +kernel)
set_option maxRecDepth 20000 in
theorem gX3_renew_X2_renewCylinder : GoodIn wsX3_renew (wsV RX3 90 RX2 yX2_renewCylinder wsX2_renewCylinder) := goodIn_app (goodIn_of _ (by decide +kernel)) ggX3_renew_X2_renewCylinder
theorem dX3_renew_0 : decode cX3_renew 0 = .ok (.aload_n 0, 1) := by decide +kernel
theorem dX3_renew_1 : decode cX3_renew 1 = .ok (.iload_n 1, 1) := by decide +kernel
theorem dX3_renew_2 : decode cX3_renew 2 = .ok (.invokevirtual 70, 3) := by decide +kernel
theorem dX3_renew_5 : decode cX3_renew 5 = .ok (.iload_n 2, 1) := by decide +kernel
theorem dX3_renew_6 : decode cX3_renew 6 = .ok (.ifCond .lt 9, 3) := by decide +kernel
theorem dX3_renew_9 : decode cX3_renew 9 = .ok (.iload_n 2, 1) := by decide +kernel
theorem dX3_renew_10 : decode cX3_renew 10 = .ok (.bipush 100, 2) := by decide +kernel
theorem dX3_renew_12 : decode cX3_renew 12 = .ok (.if_icmp .le 13, 3) := by decide +kernel
theorem dX3_renew_15 : decode cX3_renew 15 = .ok (.new 83, 3) := by decide +kernel
theorem dX3_renew_18 : decode cX3_renew 18 = .ok (.dup, 1) := by decide +kernel
theorem dX3_renew_19 : decode cX3_renew 19 = .ok (.ldc 85, 2) := by decide +kernel
theorem dX3_renew_21 : decode cX3_renew 21 = .ok (.invokespecial 87, 3) := by decide +kernel
theorem dX3_renew_24 : decode cX3_renew 24 = .ok (.athrow, 1) := by decide +kernel
theorem dX3_renew_25 : decode cX3_renew 25 = .ok (.aload_n 0, 1) := by decide +kernel
theorem dX3_renew_26 : decode cX3_renew 26 = .ok (.invokevirtual 52, 3) := by decide +kernel
theorem dX3_renew_29 : decode cX3_renew 29 = .ok (.aload_n 0, 1) := by decide +kernel
theorem dX3_renew_30 : decode cX3_renew 30 = .ok (.getfield 12, 3) := by decide +kernel
theorem dX3_renew_33 : decode cX3_renew 33 = .ok (.iload_n 1, 1) := by decide +kernel
theorem dX3_renew_34 : decode cX3_renew 34 = .ok (.iload_n 2, 1) := by decide +kernel
theorem dX3_renew_35 : decode cX3_renew 35 = .ok (.invokevirtual 90, 3) := by decide +kernel
theorem dX3_renew_38 : decode cX3_renew 38 = .ok (.ireturn, 1) := by decide +kernel
set_option maxRecDepth 20000 in
theorem ggX3_set_X3_saveState : GoodIn wsX3_set wsX3_saveState := goodIn_r _ [9, 10, 11, 3, 12, 13, 14, 8, 15, 16, 17, 18, 19, 20, 21, 22, 23, 24, 25, 26, 27, 28, 29, 30, 31, 32, 33, 34, 35, 36, 37, 38, 39, 40, 41, 42, 43, 44, 45, 46, 47, 48, 49, 50, 51, 52, 53, 54, 55, 56, 57, 58, 59, 60, 61, 62, 63, 64, 65, 66, 67, 68, 69] (by decide +kernel) (by decide +kernel)
set_option maxRecDepth 20000 in
theorem gX3_set_X3_saveState : GoodIn wsX3_set (wsV RX3 52 RX3 yX3_saveState wsX3_saveState) := goodIn_app (goodIn_of _ (by decide +kernel)) ggX3_set_X3_saveState
theorem dX3_set_0 : decode cX3_set 0 = .ok (.iload_n 1, 1) := by decide +kernel
theorem dX3_set_1 : decode cX3_set 1 = .ok (.ifCond .lt 9, 3) := by decide +kernel
theorem dX3_set_4 : decode cX3_set 4 = .ok (.iload_n 1, 1) := by decide +kernel
theorem dX3_set_5 : decode cX3_set 5 = .ok (.bipush 20, 2) := by decide +kernel
theorem dX3_set_7 : decode cX3_set 7 = .ok (.if_icmp .le 13, 3) := by decide +kernel
theorem dX3_set_10 : decode cX3_set 10 = .ok (.new 83, 3) := by decide +kernel
theorem dX3_set_13 : decode cX3_set 13 = .ok (.dup, 1) := by decide +kernel
theorem dX3_set_14 : decode cX3_set 14 = .ok (.ldc 93, 2) := by decide +kernel
theorem dX3_set_16 : decode cX3_set 16 = .ok (.invokespecial 87, 3) := by decide +kernel
theorem dX3_set_19 : decode cX3_set 19 = .ok (.athrow, 1) := by decide +kernel
theorem dX3_set_20 : decode cX3_set 20 = .ok (.aload_n 0, 1) := by decide +kernel
theorem dX3_set_21 : decode cX3_set 21 = .ok (.invokevirtual 52, 3) := by decide +kernel
theorem dX3_set_24 : decode cX3_set 24 = .ok (.aload_n 0, 1) := by decide +kernel
theorem dX3_set_25 : decode cX3_set 25 = .ok (.getfield 12, 3) := by decide +kernel
theorem dX3_set_28 : decode cX3_set 28 = .ok (.getfield 95, 3) := by decide +kernel
theorem dX3_set_31 : decode cX3_set 31 = .ok (.istore_n 2, 1) := by decide +kernel
theorem dX3_set_32 : decode cX3_set 32 = .ok (.aload_n 0, 1) := by decide +kernel
theorem dX3_set_33 : decode cX3_set 33 = .ok (.getfield 12, 3) := by decide +kernel
theorem dX3_set_36 : decode cX3_set 36 = .ok (.iload_n 1, 1) := by decide +kernel
theorem dX3_set_37 : decode cX3_set 37 = .ok (.putfield 95, 3) := by decide +kernel
theorem dX3_set_40 : decode cX3_set 40 = .ok (.iload_n 2, 1) := by decide +kernel
theorem dX3_set_41 : decode cX3_set 41 = .ok (.ireturn, 1) := by decide +kernel
set_option maxRecDepth 20000 in
theorem ggX3_append_X0_isFull : GoodIn wsX3_append wsX0_isFull := goodIn_r _ [10, 11, 25, 26] (by decide +kernel) (by decide +kernel)
set_option maxRecDepth 20000 in
theorem gX3_append_X0_isFull : GoodIn wsX3_append (wsV RX3 100 RX0 yX0_isFull wsX0_isFull) := goodIn_app (goodIn_of _ (by decide +kernel)) ggX3_append_X0_isFull
set_option maxRecDepth 20000 in
theorem ggX3_append_X0_take : GoodIn wsX3_append wsX0_take := goodIn_r _ [15, 16, 11, 17, 7, 8, 9, 10, 25, 26] (by decide +kernel) (by decide +kernel)
set_option maxRecDepth 20000 in
theorem gX3_append_X0_take : GoodIn wsX3_append (wsV RX3 109 RX0 yX0_take wsX0_take) := goodIn_app (goodIn_of _ (by decide +kernel)) ggX3_append_X0_take
theorem dX3_append_0 : decode cX3_append 0 = .ok (.iload_n 1, 1) := by decide +kernel
theorem dX3_append_1 : decode cX3_append 1 = .ok (.bipush 33, 2) := by decide +kernel
theorem dX3_append_3 : decode cX3_append 3 = .ok (.if_icmp .lt 9, 3) := by decide +kernel
theorem dX3_append_6 : decode cX3_append 6 = .ok (.iload_n 1, 1) := by decide +kernel
theorem dX3_append_7 : decode cX3_append 7 = .ok (.bipush 126, 2) := by decide +kernel
theorem dX3_append_9 : decode cX3_append 9 = .ok (.if_icmp .le 13, 3) := by decide +kernel
theorem dX3_append_12 : decode cX3_append 12 = .ok (.new 83, 3) := by decide +kernel
theorem dX3_append_15 : decode cX3_append 15 = .ok (.dup, 1) := by decide +kernel
theorem dX3_append_16 : decode cX3_append 16 = .ok (.ldc 98, 2) := by decide +kernel
theorem dX3_append_18 : decode cX3_append 18 = .ok (.invokespecial 87, 3) := by decide +kernel
theorem dX3_append_21 : decode cX3_append 21 = .ok (.athrow, 1) := by decide +kernel
theorem dX3_append_22 : decode cX3_append 22 = .ok (.aload_n 0, 1) := by decide +kernel
theorem dX3_append_23 : decode cX3_append 23 = .ok (.getfield 34, 3) := by decide +kernel
theorem dX3_append_26 : decode cX3_append 26 = .ok (.invokevirtual 100, 3) := by decide +kernel
theorem dX3_append_29 : decode cX3_append 29 = .ok (.ifCond .eq 13, 3) := by decide +kernel
theorem dX3_append_32 : decode cX3_append 32 = .ok (.new 104, 3) := by decide +kernel
theorem dX3_append_35 : decode cX3_append 35 = .ok (.dup, 1) := by decide +kernel
theorem dX3_append_36 : decode cX3_append 36 = .ok (.ldc 106, 2) := by decide +kernel
theorem dX3_append_38 : decode cX3_append 38 = .ok (.invokespecial 108, 3) := by decide +kernel
theorem dX3_append_41 : decode cX3_append 41 = .ok (.athrow, 1) := by decide +kernel
theorem dX3_append_42 : decode cX3_append 42 = .ok (.aload_n 0, 1) := by decide +kernel
theorem dX3_append_43 : decode cX3_append 43 = .ok (.getfield 34, 3) := by decide +kernel
theorem dX3_append_46 : decode cX3_append 46 = .ok (.iload_n 1, 1) := by decide +kernel
theorem dX3_append_47 : decode cX3_append 47 = .ok (.i2c, 1) := by decide +kernel
theorem dX3_append_48 : decode cX3_append 48 = .ok (.invokevirtual 109, 3) := by decide +kernel
theorem dX3_append_51 : decode cX3_append 51 = .ok (.ireturn, 1) := by decide +kernel
set_option maxRecDepth 20000 in
theorem ggX3_clearBuffer_X0_drop : GoodIn wsX3_clearBuffer wsX0_drop := goodIn_r _ [6, 7, 15, 16] (by decide +kernel) (by decide +kernel)
set_option maxRecDepth 20000 in
theorem gX3_clearBuffer_X0_drop : GoodIn wsX3_clearBuffer (wsV RX3 113 RX0 yX0_drop wsX0_drop) := goodIn_app (goodIn_of _ (by decide +kernel)) ggX3_clearBuffer_X0_drop
theorem dX3_clearBuffer_0 : decode cX3_clearBuffer 0 = .ok (.aload_n 0, 1) := by decide +kernel
theorem dX3_clearBuffer_1 : decode cX3_clearBuffer 1 = .ok (.getfield 34, 3) := by decide +kernel
theorem dX3_clearBuffer_4 : decode cX3_clearBuffer 4 = .ok (.invokevirtual 113, 3) := by decide +kernel
theorem dX3_clearBuffer_7 : decode cX3_clearBuffer 7 = .ok (.ireturn, 1) := by decide +kernel
set_option maxRecDepth 20000 in
theorem ggX3_firstError_X0_firstWrong : GoodIn wsX3_firstError wsX0_firstWrong := goodIn_r _ [6, 7, 8, 9, 10, 5, 11, 12, 13, 14, 15, 16, 17, 18, 19, 20, 21, 22, 23, 24, 25, 26, 27, 28, 29, 30, 31, 32, 33, 34, 35, 36, 37, 38, 39, 40, 41, 42, 43, 44, 45, 46, 47, 48, 49, 50, 51, 52, 53, 54, 55, 56, 57, 58, 59, 60, 61, 62, 63, 64, 65, 66, 67, 68, 69, 70, 71, 72, 73, 74, 75, 76, 77, 78, 79, 87, 88] (by decide +kernel) (by decide +kernel)
set_option maxRecDepth 20000 in
theorem gX3_firstError_X0_firstWrong : GoodIn wsX3_firstError (wsV RX3 116 RX0 yX0_firstWrong wsX0_firstWrong) := goodIn_app (goodIn_of _ (by decide +kernel)) ggX3_firstError_X0_firstWrong
theorem dX3_firstError_0 : decode cX3_firstError 0 = .ok (.aload_n 0, 1) := by decide +kernel
theorem dX3_firstError_1 : decode cX3_firstError 1 = .ok (.getfield 34, 3) := by decide +kernel
theorem dX3_firstError_4 : decode cX3_firstError 4 = .ok (.invokevirtual 116, 3) := by decide +kernel
theorem dX3_firstError_7 : decode cX3_firstError 7 = .ok (.ireturn, 1) := by decide +kernel
set_option maxRecDepth 20000 in
theorem ggX3_run_X0_areWhole : GoodIn wsX3_run wsX0_areWhole := goodIn_r _ [8, 9, 10, 11, 12, 7, 13, 14, 15, 16, 17, 18, 19, 20, 21, 22, 23, 24, 25, 26, 27, 28, 29, 30, 31, 32, 33, 34, 35, 36, 37, 38, 39, 40, 41, 42, 43, 44, 45, 46, 47, 48, 49, 50, 51, 52, 53, 54, 55, 56, 57, 58, 59, 60, 61, 62, 63, 64, 65, 66, 67, 68, 69, 70, 71, 72, 73, 74, 75, 76, 77, 78, 79, 80, 81, 231, 232] (by decide +kernel) (by decide +kernel)
set_option maxRecDepth 20000 in
theorem gX3_run_X0_areWhole : GoodIn wsX3_run (wsV RX3 119 RX0 yX0_areWhole wsX0_areWhole) := goodIn_app (goodIn_of _ (by decide +kernel)) ggX3_run_X0_areWhole
set_option maxRecDepth 20000 in
theorem ggX3_run_X3_saveState : GoodIn wsX3_run wsX3_saveState := goodIn_r _ [86, 87, 88, 89, 90, 91, 92, 85, 93, 94, 95, 96, 97, 98, 99, 100, 101, 102, 103, 104, 105, 106, 107, 108, 109, 110, 111, 112, 113, 114, 115, 116, 117, 118, 119, 120, 121, 224, 225, 226, 227, 228, 229, 230, 233, 234, 235, 236, 237, 238, 239, 240, 241, 242, 243, 244, 245, 246, 247, 248, 249, 250, 251] (by decide +kernel) (by decide +kernel)
set_option maxRecDepth 20000 in
theorem gX3_run_X3_saveState : GoodIn wsX3_run (wsV RX3 52 RX3 yX3_saveState wsX3_saveState) := goodIn_app (goodIn_of _ (by decide +kernel)) ggX3_run_X3_saveState
set_option maxRecDepth 20000 in
theorem ggX3_run_X3_doOrders : GoodIn wsX3_run wsX3_doOrders := goodIn_r _ [125, 3, 126, 127, 128, 7, 129, 9, 130, 131, 132, 85, 133, 89, 134, 15, 16, 17, 18, 135, 136, 137, 138, 139, 140, 141, 142, 14, 143, 144, 145, 146, 147, 148, 149, 150, 97, 151, 121, 106, 107, 112, 113, 115, 152, 153, 154, 155, 110, 156, 157, 158, 159, 99, 160, 161, 162, 163, 164, 165, 166, 167, 168, 169, 104, 108, 105, 109, 170, 171, 172, 173, 174, 175, 176, 177, 178, 179, 180, 181, 182, 116, 183, 184, 185, 186, 187, 188, 189, 190, 191, 192, 193, 194, 195, 196, 197, 198, 199, 200, 114, 201, 117, 202, 203, 204, 205, 206, 118, 111, 207, 208, 209, 210, 211, 212, 213, 214, 215, 216, 217, 218, 219, 79, 80, 81, 19, 20, 21, 22, 23, 24, 25, 26, 27, 28, 29, 30, 31, 32, 33, 224, 225, 226, 227, 228, 229, 230, 231, 232, 233, 234, 235, 236, 237, 238, 239, 240, 241, 242, 243, 244, 245, 246, 247, 248, 249, 250, 251] (by decide +kernel) (by decide +kernel)
set_option maxRecDepth 20000 in
theorem gX3_run_X3_doOrders : GoodIn wsX3_run (wsV RX3 124 RX3 yX3_doOrders wsX3_doOrders) := goodIn_app (goodIn_of _ (by decide +kernel)) ggX3_run_X3_doOrders
set_option maxRecDepth 20000 in
theorem ggX3_run_X0_drop : GoodIn wsX3_run wsX0_drop := goodIn_r _ [223, 9, 231, 232] (by decide +kernel) (by decide +kernel)
set_option maxRecDepth 20000 in
theorem gX3_run_X0_drop : GoodIn wsX3_run (wsV RX3 113 RX0 yX0_drop wsX0_drop) := goodIn_app (goodIn_of _ (by decide +kernel)) ggX3_run_X0_drop
theorem dX3_run_0 : decode cX3_run 0 = .ok (.aload_n 0, 1) := by decide +kernel
theorem dX3_run_1 : decode cX3_run 1 = .ok (.getfield 34, 3) := by decide +kernel
theorem dX3_run_4 : decode cX3_run 4 = .ok (.invokevirtual 119, 3) := by decide +kernel
theorem dX3_run_7 : decode cX3_run 7 = .ok (.ifCond .ne 13, 3) := by decide +kernel
theorem dX3_run_10 : decode cX3_run 10 = .ok (.new 83, 3) := by decide +kernel
theorem dX3_run_13 : decode cX3_run 13 = .ok (.dup, 1) := by decide +kernel
theorem dX3_run_14 : decode cX3_run 14 = .ok (.ldc 122, 2) := by decide +kernel
theorem dX3_run_16 : decode cX3_run 16 = .ok (.invokespecial 87, 3) := by decide +kernel
theorem dX3_run_19 : decode cX3_run 19 = .ok (.athrow, 1) := by decide +kernel
theorem dX3_run_20 : decode cX3_run 20 = .ok (.aload_n 0, 1) := by decide +kernel
theorem dX3_run_21 : decode cX3_run 21 = .ok (.invokevirtual 52, 3) := by decide +kernel
theorem dX3_run_24 : decode cX3_run 24 = .ok (.aload_n 0, 1) := by decide +kernel
theorem dX3_run_25 : decode cX3_run 25 = .ok (.invokevirtual 124, 3) := by decide +kernel
theorem dX3_run_28 : decode cX3_run 28 = .ok (.istore_n 1, 1) := by decide +kernel
theorem dX3_run_29 : decode cX3_run 29 = .ok (.aload_n 0, 1) := by decide +kernel
theorem dX3_run_30 : decode cX3_run 30 = .ok (.getfield 34, 3) := by decide +kernel
theorem dX3_run_33 : decode cX3_run 33 = .ok (.invokevirtual 113, 3) := by decide +kernel
theorem dX3_run_36 : decode cX3_run 36 = .ok (.pop, 1) := by decide +kernel
theorem dX3_run_37 : decode cX3_run 37 = .ok (.iload_n 1, 1) := by decide +kernel
theorem dX3_run_38 : decode cX3_run 38 = .ok (.ireturn, 1) := by decide +kernel
set_option maxRecDepth 20000 in
theorem ggX3_keep_X3_checkSlot : GoodIn wsX3_keep wsX3_checkSlot := goodIn_ca (goodIn_r _ [8, 9, 10] (by decide +kernel) (by decide +kernel)) (goodIn_sub (fun _ h => List.mem_cons_of_mem _ (List.mem_append_right _ h)) (by decide +kernel))
set_option maxRecDepth 20000 in
theorem gX3_keep_X3_checkSlot : GoodIn wsX3_keep (wsV RX3 127 RX3 yX3_checkSlot wsX3_checkSlot) := goodIn_app (goodIn_of _ (by decide +kernel)) ggX3_keep_X3_checkSlot
set_option maxRecDepth 20000 in
theorem ggX3_keep_X2_takeOver : GoodIn wsX3_keep wsX2_takeOver := goodIn_r _ [15, 16, 17, 18, 19, 20, 21, 22, 23, 24, 25, 26, 27, 28, 29, 30, 31, 32, 33, 34, 35, 36, 37, 38, 58, 59, 60, 61, 62, 63, 64, 65, 66, 67, 68, 69, 70, 71, 72, 73, 74, 75, 76] (by decide +kernel) (by decide +kernel)
set_option maxRecDepth 20000 in
theorem gX3_keep_X2_takeOver : GoodIn wsX3_keep (wsV RX3 130 RX2 yX2_takeOver wsX2_takeOver) := goodIn_app (goodIn_of _ (by decide +kernel)) ggX3_keep_X2_takeOver
set_option maxRecDepth 20000 in
theorem ggX3_keep_X2_cutTracks : GoodIn wsX3_keep wsX2_cutTracks := goodIn_r _ [42, 43, 44, 45, 14, 46, 47, 48, 49, 50, 16, 58, 59, 60, 61, 62, 63, 64, 65, 66, 67, 68, 69, 70, 71, 72, 73, 74, 75, 76] (by decide +kernel) (by decide +kernel)
set_option maxRecDepth 20000 in
theorem gX3_keep_X2_cutTracks : GoodIn wsX3_keep (wsV RX3 134 RX2 yX2_cutTracks wsX2_cutTracks) := goodIn_app (goodIn_of _ (by decide +kernel)) ggX3_keep_X2_cutTracks
theorem dX3_keep_0 : decode cX3_keep 0 = .ok (.aload_n 0, 1) := by decide +kernel
theorem dX3_keep_1 : decode cX3_keep 1 = .ok (.iload_n 1, 1) := by decide +kernel
theorem dX3_keep_2 : decode cX3_keep 2 = .ok (.invokevirtual 127, 3) := by decide +kernel
theorem dX3_keep_5 : decode cX3_keep 5 = .ok (.aload_n 0, 1) := by decide +kernel
theorem dX3_keep_6 : decode cX3_keep 6 = .ok (.getfield 16, 3) := by decide +kernel
theorem dX3_keep_9 : decode cX3_keep 9 = .ok (.iload_n 1, 1) := by decide +kernel
theorem dX3_keep_10 : decode cX3_keep 10 = .ok (.aaload, 1) := by decide +kernel
theorem dX3_keep_11 : decode cX3_keep 11 = .ok (.aload_n 0, 1) := by decide +kernel
theorem dX3_keep_12 : decode cX3_keep 12 = .ok (.getfield 12, 3) := by decide +kernel
theorem dX3_keep_15 : decode cX3_keep 15 = .ok (.invokevirtual 130, 3) := by decide +kernel
theorem dX3_keep_18 : decode cX3_keep 18 = .ok (.aload_n 0, 1) := by decide +kernel
theorem dX3_keep_19 : decode cX3_keep 19 = .ok (.getfield 20, 3) := by decide +kernel
theorem dX3_keep_22 : decode cX3_keep 22 = .ok (.iload_n 1, 1) := by decide +kernel
theorem dX3_keep_23 : decode cX3_keep 23 = .ok (.iconst 1, 1) := by decide +kernel
theorem dX3_keep_24 : decode cX3_keep 24 = .ok (.bastore, 1) := by decide +kernel
theorem dX3_keep_25 : decode cX3_keep 25 = .ok (.aload_n 0, 1) := by decide +kernel
theorem dX3_keep_26 : decode cX3_keep 26 = .ok (.getfield 12, 3) := by decide +kernel
theorem dX3_keep_29 : decode cX3_keep 29 = .ok (.invokevirtual 134, 3) := by decide +kernel
theorem dX3_keep_32 : decode cX3_keep 32 = .ok (.ireturn, 1) := by decide +kernel
set_option maxRecDepth 20000 in
theorem ggX3_goBack_X3_checkSlot : GoodIn wsX3_goBack wsX3_checkSlot := goodIn_ca (goodIn_r _ [10, 11, 12] (by decide +kernel) (by decide +kernel)) (goodIn_sub (fun _ h => List.mem_cons_of_mem _ (List.mem_append_right _ h)) (by decide +kernel))
set_option maxRecDepth 20000 in
theorem gX3_goBack_X3_checkSlot : GoodIn wsX3_goBack (wsV RX3 127 RX3 yX3_checkSlot wsX3_checkSlot) := goodIn_app (goodIn_of _ (by decide +kernel)) ggX3_goBack_X3_checkSlot
set_option maxRecDepth 20000 in
theorem ggX3_goBack_X3_saveState : GoodIn wsX3_goBack wsX3_saveState := goodIn_r _ [16, 17, 18, 4, 19, 20, 21, 9, 22, 23, 24, 25, 26, 27, 28, 29, 30, 31, 32, 33, 34, 35, 36, 37, 38, 39, 40, 41, 42, 43, 44, 45, 46, 47, 48, 49, 50, 63, 64, 65, 66, 67, 68, 69, 70, 71, 72, 73, 74, 75, 76, 77, 78, 79, 80, 81, 82, 83, 84, 85, 86, 87, 88] (by decide +kernel) (by decide +kernel)
set_option maxRecDepth 20000 in
theorem gX3_goBack_X3_saveState : GoodIn wsX3_goBack (wsV RX3 52 RX3 yX3_saveState wsX3_saveState) := goodIn_app (goodIn_of _ (by decide +kernel)) ggX3_goBack_X3_saveState
set_option maxRecDepth 20000 in
theorem ggX3_goBack_X2_takeOver : GoodIn wsX3_goBack wsX2_takeOver := goodIn_r _ [27, 28, 29, 30, 31, 32, 33, 34, 35, 36, 37, 38, 39, 40, 41, 42, 43, 44, 45, 46, 47, 48, 49, 50, 70, 71, 72, 73, 74, 75, 76, 77, 78, 79, 80, 81, 82, 83, 84, 85, 86, 87, 88] (by decide +kernel) (by decide +kernel)
set_option maxRecDepth 20000 in
theorem gX3_goBack_X2_takeOver : GoodIn wsX3_goBack (wsV RX3 130 RX2 yX2_takeOver wsX2_takeOver) := goodIn_app (goodIn_of _ (by decide +kernel)) ggX3_goBack_X2_takeOver
set_option maxRecDepth 20000 in
theorem ggX3_goBack_X2_cutTracks : GoodIn wsX3_goBack wsX2_cutTracks := goodIn_r _ [54, 55, 56, 57, 26, 58, 59, 60, 61, 62, 28, 70, 71, 72, 73, 74, 75, 76, 77, 78, 79, 80, 81, 82, 83, 84, 85, 86, 87, 88] (by decide +kernel) (by decide +kernel)
set_option maxRecDepth 20000 in
theorem gX3_goBack_X2_cutTracks : GoodIn wsX3_goBack (wsV RX3 134 RX2 yX2_cutTracks wsX2_cutTracks) := goodIn_app (goodIn_of _ (by decide +kernel)) ggX3_goBack_X2_cutTracks
theorem dX3_goBack_0 : decode cX3_goBack 0 = .ok (.aload_n 0, 1) := by decide +kernel
theorem dX3_goBack_1 : decode cX3_goBack 1 = .ok (.iload_n 1, 1) := by decide +kernel
theorem dX3_goBack_2 : decode cX3_goBack 2 = .ok (.invokevirtual 127, 3) := by decide +kernel
theorem dX3_goBack_5 : decode cX3_goBack 5 = .ok (.aload_n 0, 1) := by decide +kernel
theorem dX3_goBack_6 : decode cX3_goBack 6 = .ok (.getfield 20, 3) := by decide +kernel
theorem dX3_goBack_9 : decode cX3_goBack 9 = .ok (.iload_n 1, 1) := by decide +kernel
theorem dX3_goBack_10 : decode cX3_goBack 10 = .ok (.baload, 1) := by decide +kernel
theorem dX3_goBack_11 : decode cX3_goBack 11 = .ok (.ifCond .ne 13, 3) := by decide +kernel
theorem dX3_goBack_14 : decode cX3_goBack 14 = .ok (.new 104, 3) := by decide +kernel
theorem dX3_goBack_17 : decode cX3_goBack 17 = .ok (.dup, 1) := by decide +kernel
theorem dX3_goBack_18 : decode cX3_goBack 18 = .ok (.ldc 137, 2) := by decide +kernel
theorem dX3_goBack_20 : decode cX3_goBack 20 = .ok (.invokespecial 108, 3) := by decide +kernel
theorem dX3_goBack_23 : decode cX3_goBack 23 = .ok (.athrow, 1) := by decide +kernel
theorem dX3_goBack_24 : decode cX3_goBack 24 = .ok (.aload_n 0, 1) := by decide +kernel
theorem dX3_goBack_25 : decode cX3_goBack 25 = .ok (.invokevirtual 52, 3) := by decide +kernel
theorem dX3_goBack_28 : decode cX3_goBack 28 = .ok (.aload_n 0, 1) := by decide +kernel
theorem dX3_goBack_29 : decode cX3_goBack 29 = .ok (.getfield 12, 3) := by decide +kernel
theorem dX3_goBack_32 : decode cX3_goBack 32 = .ok (.aload_n 0, 1) := by decide +kernel
theorem dX3_goBack_33 : decode cX3_goBack 33 = .ok (.getfield 16, 3) := by decide +kernel
theorem dX3_goBack_36 : decode cX3_goBack 36 = .ok (.iload_n 1, 1) := by decide +kernel
theorem dX3_goBack_37 : decode cX3_goBack 37 = .ok (.aaload, 1) := by decide +kernel
theorem dX3_goBack_38 : decode cX3_goBack 38 = .ok (.invokevirtual 130, 3) := by decide +kernel
theorem dX3_goBack_41 : decode cX3_goBack 41 = .ok (.aload_n 0, 1) := by decide +kernel
theorem dX3_goBack_42 : decode cX3_goBack 42 = .ok (.getfield 12, 3) := by decide +kernel
theorem dX3_goBack_45 : decode cX3_goBack 45 = .ok (.invokevirtual 134, 3) := by decide +kernel
theorem dX3_goBack_48 : decode cX3_goBack 48 = .ok (.ireturn, 1) := by decide +kernel
set_option maxRecDepth 20000 in
theorem ggX3_undo_X2_takeOver : GoodIn wsX3_undo wsX2_takeOver := goodIn_r _ [10, 11, 12, 13, 14, 15, 16, 17, 18, 19, 20, 21, 22, 23, 24, 25, 26, 27, 28, 29, 30, 31, 32, 33, 41, 42, 43, 44, 45, 46, 47, 48, 49, 50, 51, 52, 53, 54, 55, 56, 57, 58, 59] (by decide +kernel) (by decide +kernel)
set_option maxRecDepth 20000 in
theorem gX3_undo_X2_takeOver : GoodIn wsX3_undo (wsV RX3 130 RX2 yX2_takeOver wsX2_takeOver) := goodIn_app (goodIn_of _ (by decide +kernel)) ggX3_undo_X2_takeOver
theorem dX3_undo_0 : decode cX3_undo 0 = .ok (.aload_n 0, 1) := by decide +kernel
theorem dX3_undo_1 : decode cX3_undo 1 = .ok (.getfield 27, 3) := by decide +kernel
theorem dX3_undo_4 : decode cX3_undo 4 = .ok (.ifCond .gt 13, 3) := by decide +kernel
theorem dX3_undo_7 : decode cX3_undo 7 = .ok (.new 104, 3) := by decide +kernel
theorem dX3_undo_10 : decode cX3_undo 10 = .ok (.dup, 1) := by decide +kernel
theorem dX3_undo_11 : decode cX3_undo 11 = .ok (.ldc 139, 2) := by decide +kernel
theorem dX3_undo_13 : decode cX3_undo 13 = .ok (.invokespecial 108, 3) := by decide +kernel
theorem dX3_undo_16 : decode cX3_undo 16 = .ok (.athrow, 1) := by decide +kernel
theorem dX3_undo_17 : decode cX3_undo 17 = .ok (.aload_n 0, 1) := by decide +kernel
theorem dX3_undo_18 : decode cX3_undo 18 = .ok (.dup, 1) := by decide +kernel
theorem dX3_undo_19 : decode cX3_undo 19 = .ok (.getfield 27, 3) := by decide +kernel
theorem dX3_undo_22 : decode cX3_undo 22 = .ok (.iconst 1, 1) := by decide +kernel
theorem dX3_undo_23 : decode cX3_undo 23 = .ok (.isub, 1) := by decide +kernel
theorem dX3_undo_24 : decode cX3_undo 24 = .ok (.putfield 27, 3) := by decide +kernel
theorem dX3_undo_27 : decode cX3_undo 27 = .ok (.aload_n 0, 1) := by decide +kernel
theorem dX3_undo_28 : decode cX3_undo 28 = .ok (.getfield 12, 3) := by decide +kernel
theorem dX3_undo_31 : decode cX3_undo 31 = .ok (.aload_n 0, 1) := by decide +kernel
theorem dX3_undo_32 : decode cX3_undo 32 = .ok (.getfield 24, 3) := by decide +kernel
theorem dX3_undo_35 : decode cX3_undo 35 = .ok (.aload_n 0, 1) := by decide +kernel
theorem dX3_undo_36 : decode cX3_undo 36 = .ok (.getfield 27, 3) := by decide +kernel
theorem dX3_undo_39 : decode cX3_undo 39 = .ok (.aaload, 1) := by decide +kernel
theorem dX3_undo_40 : decode cX3_undo 40 = .ok (.invokevirtual 130, 3) := by decide +kernel
theorem dX3_undo_43 : decode cX3_undo 43 = .ok (.aload_n 0, 1) := by decide +kernel
theorem dX3_undo_44 : decode cX3_undo 44 = .ok (.getfield 27, 3) := by decide +kernel
theorem dX3_undo_47 : decode cX3_undo 47 = .ok (.ireturn, 1) := by decide +kernel
set_option maxRecDepth 20000 in
theorem ggX3_trackOf_X3_checkTrack : GoodIn wsX3_trackOf wsX3_checkTrack := goodIn_ca (goodIn_r _ [6, 7, 8] (by decide +kernel) (by decide +kernel)) (goodIn_sub (fun _ h => List.mem_cons_of_mem _ (List.mem_append_left _ (List.mem_append_right _ h))) (by decide +kernel))
set_option maxRecDepth 20000 in
theorem gX3_trackOf_X3_checkTrack : GoodIn wsX3_trackOf (wsV RX3 45 RX3 yX3_checkTrack wsX3_checkTrack) := goodIn_app (goodIn_of _ (by decide +kernel)) ggX3_trackOf_X3_checkTrack
set_option maxRecDepth 20000 in
theorem ggX3_trackOf_X3_checkWhat : GoodIn wsX3_trackOf wsX3_checkWhat := goodIn_ca (goodIn_r _ [12, 13, 14] (by decide +kernel) (by decide +kernel)) (goodIn_sub (fun _ h => List.mem_cons_of_mem _ (List.mem_append_right _ h)) (by decide +kernel))
set_option maxRecDepth 20000 in
theorem gX3_trackOf_X3_checkWhat : GoodIn wsX3_trackOf (wsV RX3 141 RX3 yX3_checkWhat wsX3_checkWhat) := goodIn_app (goodIn_of _ (by decide +kernel)) ggX3_trackOf_X3_checkWhat
set_option maxRecDepth 20000 in
theorem ggX3_trackOf_X2_trackProperty : GoodIn wsX3_trackOf wsX2_trackProperty := goodIn_r _ [19, 20, 21, 22, 23, 24, 25, 26, 27, 28, 29, 18, 30, 38, 39, 40, 41, 42, 43, 44, 45, 46, 47, 48, 49, 50, 51, 52, 53, 54, 55, 56] (by decide +kernel) (by decide +kernel)
set_option maxRecDepth 20000 in
theorem gX3_trackOf_X2_trackProperty : GoodIn wsX3_trackOf (wsV RX3 145 RX2 yX2_trackProperty wsX2_trackProperty) := goodIn_app (goodIn_of _ (by decide +kernel)) ggX3_trackOf_X2_trackProperty
theorem dX3_trackOf_0 : decode cX3_trackOf 0 = .ok (.aload_n 0, 1) := by decide +kernel
theorem dX3_trackOf_1 : decode cX3_trackOf 1 = .ok (.iload_n 1, 1) := by decide +kernel
theorem dX3_trackOf_2 : decode cX3_trackOf 2 = .ok (.invokevirtual 45, 3) := by decide +kernel
theorem dX3_trackOf_5 : decode cX3_trackOf 5 = .ok (.aload_n 0, 1) := by decide +kernel
theorem dX3_trackOf_6 : decode cX3_trackOf 6 = .ok (.iload_n 2, 1) := by decide +kernel
theorem dX3_trackOf_7 : decode cX3_trackOf 7 = .ok (.bipush 7, 2) := by decide +kernel
theorem dX3_trackOf_9 : decode cX3_trackOf 9 = .ok (.invokevirtual 141, 3) := by decide +kernel
theorem dX3_trackOf_12 : decode cX3_trackOf 12 = .ok (.aload_n 0, 1) := by decide +kernel
theorem dX3_trackOf_13 : decode cX3_trackOf 13 = .ok (.getfield 12, 3) := by decide +kernel
theorem dX3_trackOf_16 : decode cX3_trackOf 16 = .ok (.iload_n 1, 1) := by decide +kernel
theorem dX3_trackOf_17 : decode cX3_trackOf 17 = .ok (.iload_n 2, 1) := by decide +kernel
theorem dX3_trackOf_18 : decode cX3_trackOf 18 = .ok (.invokevirtual 145, 3) := by decide +kernel
theorem dX3_trackOf_21 : decode cX3_trackOf 21 = .ok (.ireturn, 1) := by decide +kernel
set_option maxRecDepth 20000 in
theorem ggX3_cylinderOf_X3_checkCylinder : GoodIn wsX3_cylinderOf wsX3_checkCylinder := goodIn_ca (goodIn_r _ [6, 7, 8] (by decide +kernel) (by decide +kernel)) (goodIn_sub (fun _ h => List.mem_cons_of_mem _ (List.mem_append_left _ (List.mem_append_right _ h))) (by decide +kernel))
set_option maxRecDepth 20000 in
theorem gX3_cylinderOf_X3_checkCylinder : GoodIn wsX3_cylinderOf (wsV RX3 70 RX3 yX3_checkCylinder wsX3_checkCylinder) := goodIn_app (goodIn_of _ (by decide +kernel)) ggX3_cylinderOf_X3_checkCylinder
set_option maxRecDepth 20000 in
theorem ggX3_cylinderOf_X3_checkWhat : GoodIn wsX3_cylinderOf wsX3_checkWhat := goodIn_ca (goodIn_r _ [12, 13, 14] (by decide +kernel) (by decide +kernel)) (goodIn_sub (fun _ h => List.mem_cons_of_mem _ (List.mem_append_right _ h)) (by decide +kernel))
set_option maxRecDepth 20000 in
theorem gX3_cylinderOf_X3_checkWhat : GoodIn wsX3_cylinderOf (wsV RX3 141 RX3 yX3_checkWhat wsX3_checkWhat) := goodIn_app (goodIn_of _ (by decide +kernel)) ggX3_cylinderOf_X3_checkWhat
set_option maxRecDepth 20000 in
theorem ggX3_cylinderOf_X2_cylinderProperty : GoodIn wsX3_cylinderOf wsX2_cylinderProperty := goodIn_r _ [19, 20, 21, 22, 23, 24, 18, 25, 26, 27, 28, 29, 30, 31, 32, 33, 34, 35, 36, 37, 38, 39, 40, 41, 42, 43, 51, 52, 53, 54, 55, 56, 57, 58, 59, 60, 61, 62, 63, 64, 65, 66, 67, 68, 69] (by decide +kernel) (by decide +kernel)
set_option maxRecDepth 20000 in
theorem gX3_cylinderOf_X2_cylinderProperty : GoodIn wsX3_cylinderOf (wsV RX3 148 RX2 yX2_cylinderProperty wsX2_cylinderProperty) := goodIn_app (goodIn_of _ (by decide +kernel)) ggX3_cylinderOf_X2_cylinderProperty
theorem dX3_cylinderOf_0 : decode cX3_cylinderOf 0 = .ok (.aload_n 0, 1) := by decide +kernel
theorem dX3_cylinderOf_1 : decode cX3_cylinderOf 1 = .ok (.iload_n 1, 1) := by decide +kernel
theorem dX3_cylinderOf_2 : decode cX3_cylinderOf 2 = .ok (.invokevirtual 70, 3) := by decide +kernel
theorem dX3_cylinderOf_5 : decode cX3_cylinderOf 5 = .ok (.aload_n 0, 1) := by decide +kernel
theorem dX3_cylinderOf_6 : decode cX3_cylinderOf 6 = .ok (.iload_n 2, 1) := by decide +kernel
theorem dX3_cylinderOf_7 : decode cX3_cylinderOf 7 = .ok (.iconst 5, 1) := by decide +kernel
theorem dX3_cylinderOf_8 : decode cX3_cylinderOf 8 = .ok (.invokevirtual 141, 3) := by decide +kernel
theorem dX3_cylinderOf_11 : decode cX3_cylinderOf 11 = .ok (.aload_n 0, 1) := by decide +kernel
theorem dX3_cylinderOf_12 : decode cX3_cylinderOf 12 = .ok (.getfield 12, 3) := by decide +kernel
theorem dX3_cylinderOf_15 : decode cX3_cylinderOf 15 = .ok (.iload_n 1, 1) := by decide +kernel
theorem dX3_cylinderOf_16 : decode cX3_cylinderOf 16 = .ok (.iload_n 2, 1) := by decide +kernel
theorem dX3_cylinderOf_17 : decode cX3_cylinderOf 17 = .ok (.invokevirtual 148, 3) := by decide +kernel
theorem dX3_cylinderOf_20 : decode cX3_cylinderOf 20 = .ok (.ireturn, 1) := by decide +kernel
set_option maxRecDepth 20000 in
theorem ggX3_count_X3_checkWhat : GoodIn wsX3_count wsX3_checkWhat := goodIn_ca (goodIn_r _ [7, 8, 9] (by decide +kernel) (by decide +kernel)) (goodIn_sub (fun _ h => List.mem_cons_of_mem _ (List.mem_append_right _ h)) (by decide +kernel))
set_option maxRecDepth 20000 in
theorem gX3_count_X3_checkWhat : GoodIn wsX3_count (wsV RX3 141 RX3 yX3_checkWhat wsX3_checkWhat) := goodIn_app (goodIn_of _ (by decide +kernel)) ggX3_count_X3_checkWhat
set_option maxRecDepth 20000 in
theorem ggX3_count_X2_number : GoodIn wsX3_count wsX2_number := goodIn_r _ [14, 15, 16, 17, 18, 19, 20, 21, 22, 23, 24, 25, 26, 13, 27, 28, 29, 30, 31, 32, 33, 34, 35, 36, 37, 38, 39, 40, 41, 42, 43, 44, 45, 53, 54, 55, 56, 57, 58, 59, 60, 61, 62, 63, 64, 65, 66, 67, 68, 69, 70, 71] (by decide +kernel) (by decide +kernel)
set_option maxRecDepth 20000 in
theorem gX3_count_X2_number : GoodIn wsX3_count (wsV RX3 151 RX2 yX2_number wsX2_number) := goodIn_app (goodIn_of _ (by decide +kernel)) ggX3_count_X2_number
theorem dX3_count_0 : decode cX3_count 0 = .ok (.aload_n 0, 1) := by decide +kernel
theorem dX3_count_1 : decode cX3_count 1 = .ok (.iload_n 1, 1) := by decide +kernel
theorem dX3_count_2 : decode cX3_count 2 = .ok (.bipush 13, 2) := by decide +kernel
theorem dX3_count_4 : decode cX3_count 4 = .ok (.invokevirtual 141, 3) := by decide +kernel
theorem dX3_count_7 : decode cX3_count 7 = .ok (.iload_n 1, 1) := by decide +kernel
theorem dX3_count_8 : decode cX3_count 8 = .ok (.bipush 12, 2) := by decide +kernel
theorem dX3_count_10 : decode cX3_count 10 = .ok (.if_icmp .ne 10, 3) := by decide +kernel
theorem dX3_count_13 : decode cX3_count 13 = .ok (.aload_n 0, 1) := by decide +kernel
theorem dX3_count_14 : decode cX3_count 14 = .ok (.getfield 27, 3) := by decide +kernel
theorem dX3_count_17 : decode cX3_count 17 = .ok (.goto 11, 3) := by decide +kernel
theorem dX3_count_20 : decode cX3_count 20 = .ok (.aload_n 0, 1) := by decide +kernel
theorem dX3_count_21 : decode cX3_count 21 = .ok (.getfield 12, 3) := by decide +kernel
theorem dX3_count_24 : decode cX3_count 24 = .ok (.iload_n 1, 1) := by decide +kernel
theorem dX3_count_25 : decode cX3_count 25 = .ok (.invokevirtual 151, 3) := by decide +kernel
theorem dX3_count_28 : decode cX3_count 28 = .ok (.ireturn, 1) := by decide +kernel
theorem dX3_setting_0 : decode cX3_setting 0 = .ok (.aload_n 0, 1) := by decide +kernel
theorem dX3_setting_1 : decode cX3_setting 1 = .ok (.getfield 12, 3) := by decide +kernel
theorem dX3_setting_4 : decode cX3_setting 4 = .ok (.getfield 95, 3) := by decide +kernel
theorem dX3_setting_7 : decode cX3_setting 7 = .ok (.ireturn, 1) := by decide +kernel
set_option maxRecDepth 20000 in
theorem ggX3_whyNot_X3_checkTrack : GoodIn wsX3_whyNot wsX3_checkTrack := goodIn_ca (goodIn_r _ [6, 7, 8] (by decide +kernel) (by decide +kernel)) (goodIn_sub (fun _ h => List.mem_cons_of_mem _ (List.mem_append_left _ (List.mem_append_right _ h))) (by decide +kernel))
set_option maxRecDepth 20000 in
theorem gX3_whyNot_X3_checkTrack : GoodIn wsX3_whyNot (wsV RX3 45 RX3 yX3_checkTrack wsX3_checkTrack) := goodIn_app (goodIn_of _ (by decide +kernel)) ggX3_whyNot_X3_checkTrack
set_option maxRecDepth 20000 in
theorem ggX3_whyNot_X3_checkLoudness : GoodIn wsX3_whyNot wsX3_checkLoudness := goodIn_ca (goodIn_r _ [12, 13, 14] (by decide +kernel) (by decide +kernel)) (goodIn_sub (fun _ h => List.mem_cons_of_mem _ (List.mem_append_right _ h)) (by decide +kernel))
set_option maxRecDepth 20000 in
theorem gX3_whyNot_X3_checkLoudness : GoodIn wsX3_whyNot (wsV RX3 49 RX3 yX3_checkLoudness wsX3_checkLoudness) := goodIn_app (goodIn_of _ (by decide +kernel)) ggX3_whyNot_X3_checkLoudness
set_option maxRecDepth 20000 in
theorem ggX3_whyNot_X2_reasonNotToSpeak : GoodIn wsX3_whyNot wsX2_reasonNotToSpeak := goodIn_r _ [19, 20, 21, 22, 23, 24, 18, 25, 26, 34, 35, 36, 37, 38, 39, 40, 41, 42, 43, 44, 45, 46, 47, 48, 49, 50, 51, 52] (by decide +kernel) (by decide +kernel)
set_option maxRecDepth 20000 in
theorem gX3_whyNot_X2_reasonNotToSpeak : GoodIn wsX3_whyNot (wsV RX3 154 RX2 yX2_reasonNotToSpeak wsX2_reasonNotToSpeak) := goodIn_app (goodIn_of _ (by decide +kernel)) ggX3_whyNot_X2_reasonNotToSpeak
theorem dX3_whyNot_0 : decode cX3_whyNot 0 = .ok (.aload_n 0, 1) := by decide +kernel
theorem dX3_whyNot_1 : decode cX3_whyNot 1 = .ok (.iload_n 1, 1) := by decide +kernel
theorem dX3_whyNot_2 : decode cX3_whyNot 2 = .ok (.invokevirtual 45, 3) := by decide +kernel
theorem dX3_whyNot_5 : decode cX3_whyNot 5 = .ok (.aload_n 0, 1) := by decide +kernel
theorem dX3_whyNot_6 : decode cX3_whyNot 6 = .ok (.iload_n 2, 1) := by decide +kernel
theorem dX3_whyNot_7 : decode cX3_whyNot 7 = .ok (.invokevirtual 49, 3) := by decide +kernel
theorem dX3_whyNot_10 : decode cX3_whyNot 10 = .ok (.aload_n 0, 1) := by decide +kernel
theorem dX3_whyNot_11 : decode cX3_whyNot 11 = .ok (.getfield 12, 3) := by decide +kernel
theorem dX3_whyNot_14 : decode cX3_whyNot 14 = .ok (.iload_n 1, 1) := by decide +kernel
theorem dX3_whyNot_15 : decode cX3_whyNot 15 = .ok (.iload_n 2, 1) := by decide +kernel
theorem dX3_whyNot_16 : decode cX3_whyNot 16 = .ok (.invokevirtual 154, 3) := by decide +kernel
theorem dX3_whyNot_19 : decode cX3_whyNot 19 = .ok (.ireturn, 1) := by decide +kernel
set_option maxRecDepth 20000 in
theorem ggX3_ifCopied_X3_checkTrack : GoodIn wsX3_ifCopied wsX3_checkTrack := goodIn_ca (goodIn_r _ [6, 7, 8] (by decide +kernel) (by decide +kernel)) (goodIn_sub (fun _ h => List.mem_cons_of_mem _ (List.mem_append_left _ (List.mem_append_right _ h))) (by decide +kernel))
set_option maxRecDepth 20000 in
theorem gX3_ifCopied_X3_checkTrack : GoodIn wsX3_ifCopied (wsV RX3 45 RX3 yX3_checkTrack wsX3_checkTrack) := goodIn_app (goodIn_of _ (by decide +kernel)) ggX3_ifCopied_X3_checkTrack
set_option maxRecDepth 20000 in
theorem ggX3_ifCopied_X3_checkLever : GoodIn wsX3_ifCopied wsX3_checkLever := goodIn_ca (goodIn_r _ [12, 13, 14] (by decide +kernel) (by decide +kernel)) (goodIn_sub (fun _ h => List.mem_cons_of_mem _ (List.mem_append_right _ h)) (by decide +kernel))
set_option maxRecDepth 20000 in
theorem gX3_ifCopied_X3_checkLever : GoodIn wsX3_ifCopied (wsV RX3 59 RX3 yX3_checkLever wsX3_checkLever) := goodIn_app (goodIn_of _ (by decide +kernel)) ggX3_ifCopied_X3_checkLever
set_option maxRecDepth 20000 in
theorem ggX3_ifCopied_X2_reasonNotToCopy : GoodIn wsX3_ifCopied wsX2_reasonNotToCopy := goodIn_r _ [19, 20, 21, 22, 23, 24, 25, 18, 26, 27, 5, 28, 29, 30, 31, 32, 33, 34, 35, 58, 59, 60, 61, 62, 63, 64, 65, 66, 67, 68, 69, 70, 71, 72, 73, 74, 75, 76] (by decide +kernel) (by decide +kernel)
set_option maxRecDepth 20000 in
theorem gX3_ifCopied_X2_reasonNotToCopy : GoodIn wsX3_ifCopied (wsV RX3 157 RX2 yX2_reasonNotToCopy wsX2_reasonNotToCopy) := goodIn_app (goodIn_of _ (by decide +kernel)) ggX3_ifCopied_X2_reasonNotToCopy
set_option maxRecDepth 20000 in
theorem ggX3_ifCopied_X2_clearnessIfCopied : GoodIn wsX3_ifCopied wsX2_clearnessIfCopied := goodIn_r _ [39, 40, 41, 42, 43, 44, 18, 45, 22, 46, 5, 47, 29, 30, 31, 32, 48, 49, 50, 58, 59, 60, 61, 62, 63, 64, 65, 66, 67, 68, 69, 70, 71, 72, 73, 74, 75, 76] (by decide +kernel) (by decide +kernel)
set_option maxRecDepth 20000 in
theorem gX3_ifCopied_X2_clearnessIfCopied : GoodIn wsX3_ifCopied (wsV RX3 160 RX2 yX2_clearnessIfCopied wsX2_clearnessIfCopied) := goodIn_app (goodIn_of _ (by decide +kernel)) ggX3_ifCopied_X2_clearnessIfCopied
theorem dX3_ifCopied_0 : decode cX3_ifCopied 0 = .ok (.aload_n 0, 1) := by decide +kernel
theorem dX3_ifCopied_1 : decode cX3_ifCopied 1 = .ok (.iload_n 1, 1) := by decide +kernel
theorem dX3_ifCopied_2 : decode cX3_ifCopied 2 = .ok (.invokevirtual 45, 3) := by decide +kernel
theorem dX3_ifCopied_5 : decode cX3_ifCopied 5 = .ok (.aload_n 0, 1) := by decide +kernel
theorem dX3_ifCopied_6 : decode cX3_ifCopied 6 = .ok (.iload_n 2, 1) := by decide +kernel
theorem dX3_ifCopied_7 : decode cX3_ifCopied 7 = .ok (.invokevirtual 45, 3) := by decide +kernel
theorem dX3_ifCopied_10 : decode cX3_ifCopied 10 = .ok (.aload_n 0, 1) := by decide +kernel
theorem dX3_ifCopied_11 : decode cX3_ifCopied 11 = .ok (.iload_n 3, 1) := by decide +kernel
theorem dX3_ifCopied_12 : decode cX3_ifCopied 12 = .ok (.invokevirtual 59, 3) := by decide +kernel
theorem dX3_ifCopied_15 : decode cX3_ifCopied 15 = .ok (.aload_n 0, 1) := by decide +kernel
theorem dX3_ifCopied_16 : decode cX3_ifCopied 16 = .ok (.getfield 12, 3) := by decide +kernel
theorem dX3_ifCopied_19 : decode cX3_ifCopied 19 = .ok (.iload_n 1, 1) := by decide +kernel
theorem dX3_ifCopied_20 : decode cX3_ifCopied 20 = .ok (.iload_n 2, 1) := by decide +kernel
theorem dX3_ifCopied_21 : decode cX3_ifCopied 21 = .ok (.iload_n 3, 1) := by decide +kernel
theorem dX3_ifCopied_22 : decode cX3_ifCopied 22 = .ok (.invokevirtual 157, 3) := by decide +kernel
theorem dX3_ifCopied_25 : decode cX3_ifCopied 25 = .ok (.istore 4, 2) := by decide +kernel
theorem dX3_ifCopied_27 : decode cX3_ifCopied 27 = .ok (.iload 4, 2) := by decide +kernel
theorem dX3_ifCopied_29 : decode cX3_ifCopied 29 = .ok (.ifCond .ne 15, 3) := by decide +kernel
theorem dX3_ifCopied_32 : decode cX3_ifCopied 32 = .ok (.aload_n 0, 1) := by decide +kernel
theorem dX3_ifCopied_33 : decode cX3_ifCopied 33 = .ok (.getfield 12, 3) := by decide +kernel
theorem dX3_ifCopied_36 : decode cX3_ifCopied 36 = .ok (.iload_n 1, 1) := by decide +kernel
theorem dX3_ifCopied_37 : decode cX3_ifCopied 37 = .ok (.iload_n 3, 1) := by decide +kernel
theorem dX3_ifCopied_38 : decode cX3_ifCopied 38 = .ok (.invokevirtual 160, 3) := by decide +kernel
theorem dX3_ifCopied_41 : decode cX3_ifCopied 41 = .ok (.goto 6, 3) := by decide +kernel
theorem dX3_ifCopied_44 : decode cX3_ifCopied 44 = .ok (.iload 4, 2) := by decide +kernel
theorem dX3_ifCopied_46 : decode cX3_ifCopied 46 = .ok (.ineg, 1) := by decide +kernel
theorem dX3_ifCopied_47 : decode cX3_ifCopied 47 = .ok (.ireturn, 1) := by decide +kernel
set_option maxRecDepth 20000 in
theorem ggX3_chain_X3_checkTrack : GoodIn wsX3_chain wsX3_checkTrack := goodIn_ca (goodIn_r _ [12, 13, 14] (by decide +kernel) (by decide +kernel)) (goodIn_sub (fun _ h => List.mem_cons_of_mem _ (List.mem_append_right _ h)) (by decide +kernel))
set_option maxRecDepth 20000 in
theorem gX3_chain_X3_checkTrack : GoodIn wsX3_chain (wsV RX3 45 RX3 yX3_checkTrack wsX3_checkTrack) := goodIn_app (goodIn_of _ (by decide +kernel)) ggX3_chain_X3_checkTrack
set_option maxRecDepth 20000 in
theorem ggX3_chain_X3_checkWhat : GoodIn wsX3_chain wsX3_checkWhat := goodIn_ca (goodIn_r _ [18, 1, 2] (by decide +kernel) (by decide +kernel)) (goodIn_sub (fun _ h => List.mem_cons_of_mem _ (List.mem_append_left _ (List.mem_append_right _ h))) (by decide +kernel))
set_option maxRecDepth 20000 in
theorem gX3_chain_X3_checkWhat : GoodIn wsX3_chain (wsV RX3 141 RX3 yX3_checkWhat wsX3_checkWhat) := goodIn_app (goodIn_of _ (by decide +kernel)) ggX3_chain_X3_checkWhat
set_option maxRecDepth 20000 in
theorem ggX3_chain_X2_isCut : GoodIn wsX3_chain wsX2_isCut := goodIn_r _ [23, 24, 73, 74, 75, 76, 77, 78, 79, 80, 81, 82, 83, 84, 85, 86, 87, 88, 89, 90, 91] (by decide +kernel) (by decide +kernel)
set_option maxRecDepth 20000 in
theorem gX3_chain_X2_isCut : GoodIn wsX3_chain (wsV RX3 165 RX2 yX2_isCut wsX2_isCut) := goodIn_app (goodIn_of _ (by decide +kernel)) ggX3_chain_X2_isCut
set_option maxRecDepth 20000 in
theorem ggX3_chain_X1_clearestAfter : GoodIn wsX3_chain wsX1_clearestAfter := goodIn_r _ [29, 30, 31, 32, 33, 28, 34, 35, 11, 36, 37, 38, 39, 40, 41, 42, 43, 44, 45, 46, 47, 48, 49, 50, 51, 52, 53, 54, 55, 56, 57, 58, 59, 92, 93] (by decide +kernel) (by decide +kernel)
set_option maxRecDepth 20000 in
theorem gX3_chain_X1_clearestAfter : GoodIn wsX3_chain (wsV RX3 179 RX1 yX1_clearestAfter wsX1_clearestAfter) := goodIn_app (goodIn_of _ (by decide +kernel)) ggX3_chain_X1_clearestAfter
set_option maxRecDepth 20000 in
theorem ggX3_chain_X3_clearestOfAllLevers : GoodIn wsX3_chain wsX3_clearestOfAllLevers := goodIn_r _ [62, 37, 38, 39, 40, 63, 46, 11, 47, 48, 49, 50, 64, 51, 52, 53, 54, 55, 65, 35, 36, 60, 61] (by decide +kernel) (by decide +kernel)
set_option maxRecDepth 20000 in
theorem gX3_chain_X3_clearestOfAllLevers : GoodIn wsX3_chain (va_wsS RX3 183 yX3_clearestOfAllLevers wsX3_clearestOfAllLevers) := goodIn_app (goodIn_of _ (by decide +kernel)) ggX3_chain_X3_clearestOfAllLevers
theorem dX3_chain_0 : decode cX3_chain 0 = .ok (.aload_n 0, 1) := by decide +kernel
theorem dX3_chain_1 : decode cX3_chain 1 = .ok (.iload_n 1, 1) := by decide +kernel
theorem dX3_chain_2 : decode cX3_chain 2 = .ok (.invokevirtual 45, 3) := by decide +kernel
theorem dX3_chain_5 : decode cX3_chain 5 = .ok (.iload_n 2, 1) := by decide +kernel
theorem dX3_chain_6 : decode cX3_chain 6 = .ok (.iconst 1, 1) := by decide +kernel
theorem dX3_chain_7 : decode cX3_chain 7 = .ok (.if_icmp .lt 8, 3) := by decide +kernel
theorem dX3_chain_10 : decode cX3_chain 10 = .ok (.iload_n 2, 1) := by decide +kernel
theorem dX3_chain_11 : decode cX3_chain 11 = .ok (.iconst 5, 1) := by decide +kernel
theorem dX3_chain_12 : decode cX3_chain 12 = .ok (.if_icmp .le 13, 3) := by decide +kernel
theorem dX3_chain_15 : decode cX3_chain 15 = .ok (.new 83, 3) := by decide +kernel
theorem dX3_chain_18 : decode cX3_chain 18 = .ok (.dup, 1) := by decide +kernel
theorem dX3_chain_19 : decode cX3_chain 19 = .ok (.ldc 163, 2) := by decide +kernel
theorem dX3_chain_21 : decode cX3_chain 21 = .ok (.invokespecial 87, 3) := by decide +kernel
theorem dX3_chain_24 : decode cX3_chain 24 = .ok (.athrow, 1) := by decide +kernel
theorem dX3_chain_25 : decode cX3_chain 25 = .ok (.aload_n 0, 1) := by decide +kernel
theorem dX3_chain_26 : decode cX3_chain 26 = .ok (.iload_n 3, 1) := by decide +kernel
theorem dX3_chain_27 : decode cX3_chain 27 = .ok (.iconst 2, 1) := by decide +kernel
theorem dX3_chain_28 : decode cX3_chain 28 = .ok (.invokevirtual 141, 3) := by decide +kernel
theorem dX3_chain_31 : decode cX3_chain 31 = .ok (.aload_n 0, 1) := by decide +kernel
theorem dX3_chain_32 : decode cX3_chain 32 = .ok (.getfield 12, 3) := by decide +kernel
theorem dX3_chain_35 : decode cX3_chain 35 = .ok (.iload_n 1, 1) := by decide +kernel
theorem dX3_chain_36 : decode cX3_chain 36 = .ok (.invokevirtual 165, 3) := by decide +kernel
theorem dX3_chain_39 : decode cX3_chain 39 = .ok (.ifCond .ne 5, 3) := by decide +kernel
theorem dX3_chain_42 : decode cX3_chain 42 = .ok (.iconst (-1), 1) := by decide +kernel
theorem dX3_chain_43 : decode cX3_chain 43 = .ok (.ireturn, 1) := by decide +kernel
theorem dX3_chain_44 : decode cX3_chain 44 = .ok (.aload_n 0, 1) := by decide +kernel
theorem dX3_chain_45 : decode cX3_chain 45 = .ok (.getfield 12, 3) := by decide +kernel
theorem dX3_chain_48 : decode cX3_chain 48 = .ok (.getfield 169, 3) := by decide +kernel
theorem dX3_chain_51 : decode cX3_chain 51 = .ok (.iload_n 1, 1) := by decide +kernel
theorem dX3_chain_52 : decode cX3_chain 52 = .ok (.iaload, 1) := by decide +kernel
theorem dX3_chain_53 : decode cX3_chain 53 = .ok (.istore 4, 2) := by decide +kernel
theorem dX3_chain_55 : decode cX3_chain 55 = .ok (.aload_n 0, 1) := by decide +kernel
theorem dX3_chain_56 : decode cX3_chain 56 = .ok (.getfield 12, 3) := by decide +kernel
theorem dX3_chain_59 : decode cX3_chain 59 = .ok (.getfield 173, 3) := by decide +kernel
theorem dX3_chain_62 : decode cX3_chain 62 = .ok (.iload_n 1, 1) := by decide +kernel
theorem dX3_chain_63 : decode cX3_chain 63 = .ok (.iaload, 1) := by decide +kernel
theorem dX3_chain_64 : decode cX3_chain 64 = .ok (.istore 5, 2) := by decide +kernel
theorem dX3_chain_66 : decode cX3_chain 66 = .ok (.iload_n 3, 1) := by decide +kernel
theorem dX3_chain_67 : decode cX3_chain 67 = .ok (.ifCond .ne 23, 3) := by decide +kernel
theorem dX3_chain_70 : decode cX3_chain 70 = .ok (.aload_n 0, 1) := by decide +kernel
theorem dX3_chain_71 : decode cX3_chain 71 = .ok (.getfield 41, 3) := by decide +kernel
theorem dX3_chain_74 : decode cX3_chain 74 = .ok (.iload_n 2, 1) := by decide +kernel
theorem dX3_chain_75 : decode cX3_chain 75 = .ok (.iload 4, 2) := by decide +kernel
theorem dX3_chain_77 : decode cX3_chain 77 = .ok (.iload 5, 2) := by decide +kernel
theorem dX3_chain_79 : decode cX3_chain 79 = .ok (.aload_n 0, 1) := by decide +kernel
theorem dX3_chain_80 : decode cX3_chain 80 = .ok (.getfield 12, 3) := by decide +kernel
theorem dX3_chain_83 : decode cX3_chain 83 = .ok (.getfield 176, 3) := by decide +kernel
theorem dX3_chain_86 : decode cX3_chain 86 = .ok (.invokevirtual 179, 3) := by decide +kernel
theorem dX3_chain_89 : decode cX3_chain 89 = .ok (.ireturn, 1) := by decide +kernel
theorem dX3_chain_90 : decode cX3_chain 90 = .ok (.iload_n 2, 1) := by decide +kernel
theorem dX3_chain_91 : decode cX3_chain 91 = .ok (.iload 4, 2) := by decide +kernel
theorem dX3_chain_93 : decode cX3_chain 93 = .ok (.iload 5, 2) := by decide +kernel
theorem dX3_chain_95 : decode cX3_chain 95 = .ok (.aload_n 0, 1) := by decide +kernel
theorem dX3_chain_96 : decode cX3_chain 96 = .ok (.getfield 12, 3) := by decide +kernel
theorem dX3_chain_99 : decode cX3_chain 99 = .ok (.getfield 176, 3) := by decide +kernel
theorem dX3_chain_102 : decode cX3_chain 102 = .ok (.invokestatic 183, 3) := by decide +kernel
theorem dX3_chain_105 : decode cX3_chain 105 = .ok (.ireturn, 1) := by decide +kernel
set_option maxRecDepth 20000 in
theorem ggX3_clearest_X2_clearestTrack : GoodIn wsX3_clearest wsX2_clearestTrack := goodIn_r _ [6, 7, 8, 9, 5, 10, 11, 12, 13, 14, 15, 16, 17, 25, 26, 27, 28, 29, 30, 31, 32, 33, 34, 35, 36, 37, 38, 39, 40, 41, 42, 43] (by decide +kernel) (by decide +kernel)
set_option maxRecDepth 20000 in
theorem gX3_clearest_X2_clearestTrack : GoodIn wsX3_clearest (wsV RX3 186 RX2 yX2_clearestTrack wsX2_clearestTrack) := goodIn_app (goodIn_of _ (by decide +kernel)) ggX3_clearest_X2_clearestTrack
theorem dX3_clearest_0 : decode cX3_clearest 0 = .ok (.aload_n 0, 1) := by decide +kernel
theorem dX3_clearest_1 : decode cX3_clearest 1 = .ok (.getfield 12, 3) := by decide +kernel
theorem dX3_clearest_4 : decode cX3_clearest 4 = .ok (.invokevirtual 186, 3) := by decide +kernel
theorem dX3_clearest_7 : decode cX3_clearest 7 = .ok (.ireturn, 1) := by decide +kernel
set_option maxRecDepth 20000 in
theorem ggX3_daughters_X3_checkTrack : GoodIn wsX3_daughters wsX3_checkTrack := goodIn_ca (goodIn_r _ [6, 7, 8] (by decide +kernel) (by decide +kernel)) (goodIn_sub (fun _ h => List.mem_cons_of_mem _ (List.mem_append_right _ h)) (by decide +kernel))
set_option maxRecDepth 20000 in
theorem gX3_daughters_X3_checkTrack : GoodIn wsX3_daughters (wsV RX3 45 RX3 yX3_checkTrack wsX3_checkTrack) := goodIn_app (goodIn_of _ (by decide +kernel)) ggX3_daughters_X3_checkTrack
set_option maxRecDepth 20000 in
theorem ggX3_daughters_X2_descendants : GoodIn wsX3_daughters wsX2_descendants := goodIn_r _ [13, 14, 15, 16, 12, 17, 18, 26, 27, 28, 29, 30, 31, 32, 33, 34, 35, 36, 37, 38, 39, 40, 41, 42, 43, 44] (by decide +kernel) (by decide +kernel)
set_option maxRecDepth 20000 in
theorem gX3_daughters_X2_descendants : GoodIn wsX3_daughters (wsV RX3 189 RX2 yX2_descendants wsX2_descendants) := goodIn_app (goodIn_of _ (by decide +kernel)) ggX3_daughters_X2_descendants
theorem dX3_daughters_0 : decode cX3_daughters 0 = .ok (.aload_n 0, 1) := by decide +kernel
theorem dX3_daughters_1 : decode cX3_daughters 1 = .ok (.iload_n 1, 1) := by decide +kernel
theorem dX3_daughters_2 : decode cX3_daughters 2 = .ok (.invokevirtual 45, 3) := by decide +kernel
theorem dX3_daughters_5 : decode cX3_daughters 5 = .ok (.aload_n 0, 1) := by decide +kernel
theorem dX3_daughters_6 : decode cX3_daughters 6 = .ok (.getfield 12, 3) := by decide +kernel
theorem dX3_daughters_9 : decode cX3_daughters 9 = .ok (.iload_n 1, 1) := by decide +kernel
theorem dX3_daughters_10 : decode cX3_daughters 10 = .ok (.invokevirtual 189, 3) := by decide +kernel
theorem dX3_daughters_13 : decode cX3_daughters 13 = .ok (.ireturn, 1) := by decide +kernel
set_option maxRecDepth 20000 in
theorem ggX3_meanDepth_X2_cutTracks : GoodIn wsX3_meanDepth wsX2_cutTracks := goodIn_r _ [6, 7, 8, 9, 5, 10, 11, 12, 13, 14, 15, 27, 28, 29, 30, 31, 32, 33, 34, 35, 36, 37, 38, 39, 40, 41, 42, 43, 44, 45] (by decide +kernel) (by decide +kernel)
set_option maxRecDepth 20000 in
theorem gX3_meanDepth_X2_cutTracks : GoodIn wsX3_meanDepth (wsV RX3 134 RX2 yX2_cutTracks wsX2_cutTracks) := goodIn_app (goodIn_of _ (by decide +kernel)) ggX3_meanDepth_X2_cutTracks
set_option maxRecDepth 20000 in
theorem ggX3_meanDepth_X2_depthTogether : GoodIn wsX3_meanDepth wsX2_depthTogether := goodIn_r _ [19, 15, 27, 28, 29, 30, 31, 32, 33, 34, 35, 36, 37, 38, 39, 40, 41, 42, 43, 44, 45] (by decide +kernel) (by decide +kernel)
set_option maxRecDepth 20000 in
theorem gX3_meanDepth_X2_depthTogether : GoodIn wsX3_meanDepth (wsV RX3 192 RX2 yX2_depthTogether wsX2_depthTogether) := goodIn_app (goodIn_of _ (by decide +kernel)) ggX3_meanDepth_X2_depthTogether
theorem dX3_meanDepth_0 : decode cX3_meanDepth 0 = .ok (.aload_n 0, 1) := by decide +kernel
theorem dX3_meanDepth_1 : decode cX3_meanDepth 1 = .ok (.getfield 12, 3) := by decide +kernel
theorem dX3_meanDepth_4 : decode cX3_meanDepth 4 = .ok (.invokevirtual 134, 3) := by decide +kernel
theorem dX3_meanDepth_7 : decode cX3_meanDepth 7 = .ok (.istore_n 1, 1) := by decide +kernel
theorem dX3_meanDepth_8 : decode cX3_meanDepth 8 = .ok (.iload_n 1, 1) := by decide +kernel
theorem dX3_meanDepth_9 : decode cX3_meanDepth 9 = .ok (.ifCond .gt 7, 3) := by decide +kernel
theorem dX3_meanDepth_12 : decode cX3_meanDepth 12 = .ok (.fconst 0, 1) := by decide +kernel
theorem dX3_meanDepth_13 : decode cX3_meanDepth 13 = .ok (.goto 14, 3) := by decide +kernel
theorem dX3_meanDepth_16 : decode cX3_meanDepth 16 = .ok (.aload_n 0, 1) := by decide +kernel
theorem dX3_meanDepth_17 : decode cX3_meanDepth 17 = .ok (.getfield 12, 3) := by decide +kernel
theorem dX3_meanDepth_20 : decode cX3_meanDepth 20 = .ok (.invokevirtual 192, 3) := by decide +kernel
theorem dX3_meanDepth_23 : decode cX3_meanDepth 23 = .ok (.i2f, 1) := by decide +kernel
theorem dX3_meanDepth_24 : decode cX3_meanDepth 24 = .ok (.iload_n 1, 1) := by decide +kernel
theorem dX3_meanDepth_25 : decode cX3_meanDepth 25 = .ok (.i2f, 1) := by decide +kernel
theorem dX3_meanDepth_26 : decode cX3_meanDepth 26 = .ok (.fdiv, 1) := by decide +kernel
theorem dX3_meanDepth_27 : decode cX3_meanDepth 27 = .ok (.freturn, 1) := by decide +kernel
set_option maxRecDepth 20000 in
theorem ggX3_clearShare_X2_cutTracks : GoodIn wsX3_clearShare wsX2_cutTracks := goodIn_r _ [6, 7, 8, 9, 5, 10, 11, 12, 13, 14, 15, 28, 29, 30, 31, 32, 33, 34, 35, 36, 37, 38, 39, 40, 41, 42, 43, 44, 45, 46] (by decide +kernel) (by decide +kernel)
set_option maxRecDepth 20000 in
theorem gX3_clearShare_X2_cutTracks : GoodIn wsX3_clearShare (wsV RX3 134 RX2 yX2_cutTracks wsX2_cutTracks) := goodIn_app (goodIn_of _ (by decide +kernel)) ggX3_clearShare_X2_cutTracks
set_option maxRecDepth 20000 in
theorem ggX3_clearShare_X2_clearnessTogether : GoodIn wsX3_clearShare wsX2_clearnessTogether := goodIn_r _ [19, 20, 11, 12, 13, 5, 14, 15, 28, 29, 30, 31, 32, 33, 34, 35, 36, 37, 38, 39, 40, 41, 42, 43, 44, 45, 46] (by decide +kernel) (by decide +kernel)
set_option maxRecDepth 20000 in
theorem gX3_clearShare_X2_clearnessTogether : GoodIn wsX3_clearShare (wsV RX3 195 RX2 yX2_clearnessTogether wsX2_clearnessTogether) := goodIn_app (goodIn_of _ (by decide +kernel)) ggX3_clearShare_X2_clearnessTogether
theorem dX3_clearShare_0 : decode cX3_clearShare 0 = .ok (.aload_n 0, 1) := by decide +kernel
theorem dX3_clearShare_1 : decode cX3_clearShare 1 = .ok (.getfield 12, 3) := by decide +kernel
theorem dX3_clearShare_4 : decode cX3_clearShare 4 = .ok (.invokevirtual 134, 3) := by decide +kernel
theorem dX3_clearShare_7 : decode cX3_clearShare 7 = .ok (.istore_n 1, 1) := by decide +kernel
theorem dX3_clearShare_8 : decode cX3_clearShare 8 = .ok (.iload_n 1, 1) := by decide +kernel
theorem dX3_clearShare_9 : decode cX3_clearShare 9 = .ok (.ifCond .gt 7, 3) := by decide +kernel
theorem dX3_clearShare_12 : decode cX3_clearShare 12 = .ok (.dconst 0, 1) := by decide +kernel
theorem dX3_clearShare_13 : decode cX3_clearShare 13 = .ok (.goto 17, 3) := by decide +kernel
theorem dX3_clearShare_16 : decode cX3_clearShare 16 = .ok (.aload_n 0, 1) := by decide +kernel
theorem dX3_clearShare_17 : decode cX3_clearShare 17 = .ok (.getfield 12, 3) := by decide +kernel
theorem dX3_clearShare_20 : decode cX3_clearShare 20 = .ok (.invokevirtual 195, 3) := by decide +kernel
theorem dX3_clearShare_23 : decode cX3_clearShare 23 = .ok (.i2d, 1) := by decide +kernel
theorem dX3_clearShare_24 : decode cX3_clearShare 24 = .ok (.bipush 100, 2) := by decide +kernel
theorem dX3_clearShare_26 : decode cX3_clearShare 26 = .ok (.iload_n 1, 1) := by decide +kernel
theorem dX3_clearShare_27 : decode cX3_clearShare 27 = .ok (.imul, 1) := by decide +kernel
theorem dX3_clearShare_28 : decode cX3_clearShare 28 = .ok (.i2d, 1) := by decide +kernel
theorem dX3_clearShare_29 : decode cX3_clearShare 29 = .ok (.ddiv, 1) := by decide +kernel
theorem dX3_clearShare_30 : decode cX3_clearShare 30 = .ok (.dreturn, 1) := by decide +kernel
set_option maxRecDepth 20000 in
theorem ggX3_digest_X3_count : GoodIn wsX3_digest wsX3_count := goodIn_ca (goodIn_r _ [8, 9, 10, 11, 12, 13, 7, 14, 15, 16, 17, 18, 19, 20, 21, 22, 23, 24, 25, 26, 27, 28, 29, 30, 31, 32, 33, 34, 35, 36, 37, 38, 39, 40, 41, 42, 43, 44, 45, 46, 47, 48, 49, 50, 51, 52, 242, 243, 244, 245, 246, 247, 248, 249, 250, 251, 252, 253, 254, 255, 256, 257, 258, 259, 260, 261, 262, 263, 264, 265, 266, 267] (by decide +kernel) (by decide +kernel)) (goodIn_sub (fun _ h => List.mem_cons_of_mem _ (List.mem_append_left _ (List.mem_append_right _ h))) (by decide +kernel))
set_option maxRecDepth 20000 in
theorem gX3_digest_X3_count : GoodIn wsX3_digest (wsV RX3 200 RX3 yX3_count wsX3_count) := goodIn_app (goodIn_of _ (by decide +kernel)) ggX3_digest_X3_count
set_option maxRecDepth 20000 in
theorem ggX3_digest_X3_mixed : GoodIn wsX3_digest wsX3_mixed := goodIn_r _ [55, 56] (by decide +kernel) (by decide +kernel)
set_option maxRecDepth 20000 in
theorem gX3_digest_X3_mixed : GoodIn wsX3_digest (va_wsS RX3 203 yX3_mixed wsX3_mixed) := goodIn_app (goodIn_of _ (by decide +kernel)) ggX3_digest_X3_mixed
set_option maxRecDepth 20000 in
theorem ggX3_digest_X3_setting : GoodIn wsX3_digest wsX3_setting := goodIn_r _ [60, 10, 61, 242, 243, 244, 245, 246, 247, 248, 249, 250, 251, 252, 253, 254, 255, 256, 257, 258, 259, 260, 261, 262, 263, 264, 265, 266, 267] (by decide +kernel) (by decide +kernel)
set_option maxRecDepth 20000 in
theorem gX3_digest_X3_setting : GoodIn wsX3_digest (wsV RX3 207 RX3 yX3_setting wsX3_setting) := goodIn_app (goodIn_of _ (by decide +kernel)) ggX3_digest_X3_setting
set_option maxRecDepth 20000 in
theorem ggX3_digest_X3_mixedTrack : GoodIn wsX3_digest wsX3_mixedTrack := goodIn_ca (goodIn_ca (goodIn_r _ [65, 66, 67, 68, 7, 69, 10, 70, 71, 72, 73, 74, 75, 11, 12, 13, 14, 15, 16, 76, 77, 78, 20, 79, 47, 80, 81, 82, 83, 84, 85, 43, 44, 45, 46, 53, 54, 55, 56, 86, 87, 88, 89, 90, 91, 92, 93, 94, 95, 96, 97, 52, 23, 98, 99, 100, 101, 102, 103, 104, 105, 106, 107, 108, 109, 110, 111, 112, 113, 114, 115, 116, 117, 118, 119, 120, 121, 122, 123, 124, 125, 126, 127, 128, 129, 130, 131, 132, 133, 134, 135, 136, 137, 138, 139, 140, 141, 142, 143, 144, 145, 146, 147, 148, 149, 150, 151, 152, 153, 154, 155, 156, 157, 158, 159, 242, 243, 244, 245, 246, 247, 248, 249, 250, 251, 252, 253, 254, 255, 256, 257, 258, 259, 260, 261, 262, 263, 264, 265, 266, 267, 268, 269] (by decide +kernel) (by decide +kernel)) (goodIn_sub (fun _ h => List.mem_cons_of_mem _ (List.mem_append_right _ h)) (by decide +kernel))) (goodIn_sub (fun _ h => List.mem_cons_of_mem _ (List.mem_append_left _ (List.mem_append_right _ h))) (by decide +kernel))
set_option maxRecDepth 20000 in
theorem gX3_digest_X3_mixedTrack : GoodIn wsX3_digest (wsV RX3 210 RX3 yX3_mixedTrack wsX3_mixedTrack) := goodIn_app (goodIn_of _ (by decide +kernel)) ggX3_digest_X3_mixedTrack
set_option maxRecDepth 20000 in
theorem ggX3_digest_X3_cylinderOf : GoodIn wsX3_digest wsX3_cylinderOf := goodIn_ca (goodIn_ca (goodIn_r _ [163, 10, 164, 165, 166, 7, 167, 74, 75, 11, 12, 13, 14, 15, 16, 168, 169, 170, 20, 171, 52, 172, 39, 40, 41, 42, 43, 44, 45, 46, 47, 173, 174, 175, 176, 177, 132, 133, 134, 178, 179, 180, 181, 80, 242, 243, 244, 245, 246, 247, 248, 249, 250, 251, 252, 253, 254, 255, 256, 257, 258, 259, 260, 261, 262, 263, 264, 265, 266, 267] (by decide +kernel) (by decide +kernel)) (goodIn_sub (fun _ h => List.mem_cons_of_mem _ (List.mem_append_right _ h)) (by decide +kernel))) (goodIn_sub (fun _ h => List.mem_cons_of_mem _ (List.mem_append_left _ (List.mem_append_right _ h))) (by decide +kernel))
set_option maxRecDepth 20000 in
theorem gX3_digest_X3_cylinderOf : GoodIn wsX3_digest (wsV RX3 214 RX3 yX3_cylinderOf wsX3_cylinderOf) := goodIn_app (goodIn_of _ (by decide +kernel)) ggX3_digest_X3_cylinderOf
set_option maxRecDepth 20000 in
theorem ggX3_digest_X3_ifCopied : GoodIn wsX3_digest wsX3_ifCopied := goodIn_ca (goodIn_ca (goodIn_r _ [185, 10, 70, 71, 72, 7, 73, 74, 75, 186, 187, 188, 189, 15, 16, 190, 191, 192, 20, 193, 52, 47, 23, 43, 44, 45, 46, 140, 141, 131, 132, 133, 134, 142, 143, 144, 194, 195, 196, 197, 80, 22, 31, 32, 33, 34, 145, 146, 147, 148, 149, 242, 243, 244, 245, 246, 247, 248, 249, 250, 251, 252, 253, 254, 255, 256, 257, 258, 259, 260, 261, 262, 263, 264, 265, 266, 267] (by decide +kernel) (by decide +kernel)) (goodIn_sub (fun _ h => List.mem_cons_of_mem _ (List.mem_append_right _ h)) (by decide +kernel))) (goodIn_sub (fun _ h => List.mem_cons_of_mem _ (List.mem_append_left _ (List.mem_append_right _ h))) (by decide +kernel))
set_option maxRecDepth 20000 in
theorem gX3_digest_X3_ifCopied : GoodIn wsX3_digest (wsV RX3 217 RX3 yX3_ifCopied wsX3_ifCopied) := goodIn_app (goodIn_of _ (by decide +kernel)) ggX3_digest_X3_ifCopied
set_option maxRecDepth 20000 in
theorem ggX3_digest_X3_clearest : GoodIn wsX3_digest wsX3_clearest := goodIn_r _ [201, 10, 202, 203, 204, 20, 205, 43, 44, 45, 46, 47, 206, 207, 208, 209, 80, 81, 242, 243, 244, 245, 246, 247, 248, 249, 250, 251, 252, 253, 254, 255, 256, 257, 258, 259, 260, 261, 262, 263, 264, 265, 266, 267] (by decide +kernel) (by decide +kernel)
set_option maxRecDepth 20000 in
theorem gX3_digest_X3_clearest : GoodIn wsX3_digest (wsV RX3 220 RX3 yX3_clearest wsX3_clearest) := goodIn_app (goodIn_of _ (by decide +kernel)) ggX3_digest_X3_clearest
set_option maxRecDepth 20000 in
theorem ggX3_digest_X3_meanDepth : GoodIn wsX3_digest wsX3_meanDepth := goodIn_r _ [213, 10, 214, 36, 37, 20, 38, 39, 40, 41, 42, 43, 44, 45, 46, 47, 215, 216, 217, 218, 242, 243, 244, 245, 246, 247, 248, 249, 250, 251, 252, 253, 254, 255, 256, 257, 258, 259, 260, 261, 262, 263, 264, 265, 266, 267] (by decide +kernel) (by decide +kernel)
set_option maxRecDepth 20000 in
theorem gX3_digest_X3_meanDepth : GoodIn wsX3_digest (wsV RX3 223 RX3 yX3_meanDepth wsX3_meanDepth) := goodIn_app (goodIn_of _ (by decide +kernel)) ggX3_digest_X3_meanDepth
set_option maxRecDepth 20000 in
theorem ggX3_digest_X3_bitsOf : GoodIn wsX3_digest wsX3_bitsOf := goodIn_r _ [221, 222] (by decide +kernel) (by decide +kernel)
set_option maxRecDepth 20000 in
theorem gX3_digest_X3_bitsOf : GoodIn wsX3_digest (va_wsS RX3 227 yX3_bitsOf wsX3_bitsOf) := goodIn_app (goodIn_of _ (by decide +kernel)) ggX3_digest_X3_bitsOf
set_option maxRecDepth 20000 in
theorem ggX3_digest_X3_clearShare : GoodIn wsX3_digest wsX3_clearShare := goodIn_r _ [226, 10, 214, 36, 37, 20, 38, 39, 40, 41, 42, 43, 44, 45, 46, 47, 227, 228, 229, 230, 80, 242, 243, 244, 245, 246, 247, 248, 249, 250, 251, 252, 253, 254, 255, 256, 257, 258, 259, 260, 261, 262, 263, 264, 265, 266, 267] (by decide +kernel) (by decide +kernel)
set_option maxRecDepth 20000 in
theorem gX3_digest_X3_clearShare : GoodIn wsX3_digest (wsV RX3 231 RX3 yX3_clearShare wsX3_clearShare) := goodIn_app (goodIn_of _ (by decide +kernel)) ggX3_digest_X3_clearShare
set_option maxRecDepth 20000 in
theorem ggX3_digest_X0_length : GoodIn wsX3_digest wsX0_length := goodIn_r _ [235, 236, 270, 271] (by decide +kernel) (by decide +kernel)
set_option maxRecDepth 20000 in
theorem gX3_digest_X0_length : GoodIn wsX3_digest (wsV RX3 235 RX0 yX0_length wsX0_length) := goodIn_app (goodIn_of _ (by decide +kernel)) ggX3_digest_X0_length
set_option maxRecDepth 20000 in
theorem ggX3_digest_X0_codeAt : GoodIn wsX3_digest wsX0_codeAt := goodIn_r _ [240, 236, 241, 270, 271] (by decide +kernel) (by decide +kernel)
set_option maxRecDepth 20000 in
theorem gX3_digest_X0_codeAt : GoodIn wsX3_digest (wsV RX3 238 RX0 yX0_codeAt wsX0_codeAt) := goodIn_app (goodIn_of _ (by decide +kernel)) ggX3_digest_X0_codeAt
theorem dX3_digest_0 : decode cX3_digest 0 = .ok (.ldc2_w 198, 3) := by decide +kernel
theorem dX3_digest_3 : decode cX3_digest 3 = .ok (.lstore_n 1, 1) := by decide +kernel
theorem dX3_digest_4 : decode cX3_digest 4 = .ok (.iconst 0, 1) := by decide +kernel
theorem dX3_digest_5 : decode cX3_digest 5 = .ok (.istore_n 3, 1) := by decide +kernel
theorem dX3_digest_6 : decode cX3_digest 6 = .ok (.iload_n 3, 1) := by decide +kernel
theorem dX3_digest_7 : decode cX3_digest 7 = .ok (.bipush 13, 2) := by decide +kernel
theorem dX3_digest_9 : decode cX3_digest 9 = .ok (.if_icmp .ge 20, 3) := by decide +kernel
theorem dX3_digest_12 : decode cX3_digest 12 = .ok (.lload_n 1, 1) := by decide +kernel
theorem dX3_digest_13 : decode cX3_digest 13 = .ok (.aload_n 0, 1) := by decide +kernel
theorem dX3_digest_14 : decode cX3_digest 14 = .ok (.iload_n 3, 1) := by decide +kernel
theorem dX3_digest_15 : decode cX3_digest 15 = .ok (.invokevirtual 200, 3) := by decide +kernel
theorem dX3_digest_18 : decode cX3_digest 18 = .ok (.i2l, 1) := by decide +kernel
theorem dX3_digest_19 : decode cX3_digest 19 = .ok (.invokestatic 203, 3) := by decide +kernel
theorem dX3_digest_22 : decode cX3_digest 22 = .ok (.lstore_n 1, 1) := by decide +kernel
theorem dX3_digest_23 : decode cX3_digest 23 = .ok (.iinc 3 1, 3) := by decide +kernel
theorem dX3_digest_26 : decode cX3_digest 26 = .ok (.goto (-20), 3) := by decide +kernel
theorem dX3_digest_29 : decode cX3_digest 29 = .ok (.lload_n 1, 1) := by decide +kernel
theorem dX3_digest_30 : decode cX3_digest 30 = .ok (.aload_n 0, 1) := by decide +kernel
theorem dX3_digest_31 : decode cX3_digest 31 = .ok (.invokevirtual 207, 3) := by decide +kernel
theorem dX3_digest_34 : decode cX3_digest 34 = .ok (.i2l, 1) := by decide +kernel
theorem dX3_digest_35 : decode cX3_digest 35 = .ok (.invokestatic 203, 3) := by decide +kernel
theorem dX3_digest_38 : decode cX3_digest 38 = .ok (.lstore_n 1, 1) := by decide +kernel
theorem dX3_digest_39 : decode cX3_digest 39 = .ok (.iconst 0, 1) := by decide +kernel
theorem dX3_digest_40 : decode cX3_digest 40 = .ok (.istore_n 3, 1) := by decide +kernel
theorem dX3_digest_41 : decode cX3_digest 41 = .ok (.iload_n 3, 1) := by decide +kernel
theorem dX3_digest_42 : decode cX3_digest 42 = .ok (.bipush 24, 2) := by decide +kernel
theorem dX3_digest_44 : decode cX3_digest 44 = .ok (.if_icmp .ge 16, 3) := by decide +kernel
theorem dX3_digest_47 : decode cX3_digest 47 = .ok (.aload_n 0, 1) := by decide +kernel
theorem dX3_digest_48 : decode cX3_digest 48 = .ok (.lload_n 1, 1) := by decide +kernel
theorem dX3_digest_49 : decode cX3_digest 49 = .ok (.iload_n 3, 1) := by decide +kernel
theorem dX3_digest_50 : decode cX3_digest 50 = .ok (.invokevirtual 210, 3) := by decide +kernel
theorem dX3_digest_53 : decode cX3_digest 53 = .ok (.lstore_n 1, 1) := by decide +kernel
theorem dX3_digest_54 : decode cX3_digest 54 = .ok (.iinc 3 1, 3) := by decide +kernel
theorem dX3_digest_57 : decode cX3_digest 57 = .ok (.goto (-16), 3) := by decide +kernel
theorem dX3_digest_60 : decode cX3_digest 60 = .ok (.iconst 0, 1) := by decide +kernel
theorem dX3_digest_61 : decode cX3_digest 61 = .ok (.istore_n 3, 1) := by decide +kernel
theorem dX3_digest_62 : decode cX3_digest 62 = .ok (.iload_n 3, 1) := by decide +kernel
theorem dX3_digest_63 : decode cX3_digest 63 = .ok (.bipush 6, 2) := by decide +kernel
theorem dX3_digest_65 : decode cX3_digest 65 = .ok (.if_icmp .ge 37, 3) := by decide +kernel
theorem dX3_digest_68 : decode cX3_digest 68 = .ok (.iconst 0, 1) := by decide +kernel
theorem dX3_digest_69 : decode cX3_digest 69 = .ok (.istore 4, 2) := by decide +kernel
theorem dX3_digest_71 : decode cX3_digest 71 = .ok (.iload 4, 2) := by decide +kernel
theorem dX3_digest_73 : decode cX3_digest 73 = .ok (.iconst 5, 1) := by decide +kernel
theorem dX3_digest_74 : decode cX3_digest 74 = .ok (.if_icmp .ge 22, 3) := by decide +kernel
theorem dX3_digest_77 : decode cX3_digest 77 = .ok (.lload_n 1, 1) := by decide +kernel
theorem dX3_digest_78 : decode cX3_digest 78 = .ok (.aload_n 0, 1) := by decide +kernel
theorem dX3_digest_79 : decode cX3_digest 79 = .ok (.iload_n 3, 1) := by decide +kernel
theorem dX3_digest_80 : decode cX3_digest 80 = .ok (.iload 4, 2) := by decide +kernel
theorem dX3_digest_82 : decode cX3_digest 82 = .ok (.invokevirtual 214, 3) := by decide +kernel
theorem dX3_digest_85 : decode cX3_digest 85 = .ok (.i2l, 1) := by decide +kernel
theorem dX3_digest_86 : decode cX3_digest 86 = .ok (.invokestatic 203, 3) := by decide +kernel
theorem dX3_digest_89 : decode cX3_digest 89 = .ok (.lstore_n 1, 1) := by decide +kernel
theorem dX3_digest_90 : decode cX3_digest 90 = .ok (.iinc 4 1, 3) := by decide +kernel
theorem dX3_digest_93 : decode cX3_digest 93 = .ok (.goto (-22), 3) := by decide +kernel
theorem dX3_digest_96 : decode cX3_digest 96 = .ok (.iinc 3 1, 3) := by decide +kernel
theorem dX3_digest_99 : decode cX3_digest 99 = .ok (.goto (-37), 3) := by decide +kernel
theorem dX3_digest_102 : decode cX3_digest 102 = .ok (.lload_n 1, 1) := by decide +kernel
theorem dX3_digest_103 : decode cX3_digest 103 = .ok (.aload_n 0, 1) := by decide +kernel
theorem dX3_digest_104 : decode cX3_digest 104 = .ok (.iconst 0, 1) := by decide +kernel
theorem dX3_digest_105 : decode cX3_digest 105 = .ok (.iconst 4, 1) := by decide +kernel
theorem dX3_digest_106 : decode cX3_digest 106 = .ok (.iconst 2, 1) := by decide +kernel
theorem dX3_digest_107 : decode cX3_digest 107 = .ok (.invokevirtual 217, 3) := by decide +kernel
theorem dX3_digest_110 : decode cX3_digest 110 = .ok (.i2l, 1) := by decide +kernel
theorem dX3_digest_111 : decode cX3_digest 111 = .ok (.invokestatic 203, 3) := by decide +kernel
theorem dX3_digest_114 : decode cX3_digest 114 = .ok (.lstore_n 1, 1) := by decide +kernel
theorem dX3_digest_115 : decode cX3_digest 115 = .ok (.lload_n 1, 1) := by decide +kernel
theorem dX3_digest_116 : decode cX3_digest 116 = .ok (.aload_n 0, 1) := by decide +kernel
theorem dX3_digest_117 : decode cX3_digest 117 = .ok (.iconst 4, 1) := by decide +kernel
theorem dX3_digest_118 : decode cX3_digest 118 = .ok (.bipush 9, 2) := by decide +kernel
theorem dX3_digest_120 : decode cX3_digest 120 = .ok (.iconst 2, 1) := by decide +kernel
theorem dX3_digest_121 : decode cX3_digest 121 = .ok (.invokevirtual 217, 3) := by decide +kernel
theorem dX3_digest_124 : decode cX3_digest 124 = .ok (.i2l, 1) := by decide +kernel
theorem dX3_digest_125 : decode cX3_digest 125 = .ok (.invokestatic 203, 3) := by decide +kernel
theorem dX3_digest_128 : decode cX3_digest 128 = .ok (.lstore_n 1, 1) := by decide +kernel
theorem dX3_digest_129 : decode cX3_digest 129 = .ok (.lload_n 1, 1) := by decide +kernel
theorem dX3_digest_130 : decode cX3_digest 130 = .ok (.aload_n 0, 1) := by decide +kernel
theorem dX3_digest_131 : decode cX3_digest 131 = .ok (.bipush 9, 2) := by decide +kernel
theorem dX3_digest_133 : decode cX3_digest 133 = .ok (.iconst 0, 1) := by decide +kernel
theorem dX3_digest_134 : decode cX3_digest 134 = .ok (.iconst 2, 1) := by decide +kernel
theorem dX3_digest_135 : decode cX3_digest 135 = .ok (.invokevirtual 217, 3) := by decide +kernel
theorem dX3_digest_138 : decode cX3_digest 138 = .ok (.i2l, 1) := by decide +kernel
theorem dX3_digest_139 : decode cX3_digest 139 = .ok (.invokestatic 203, 3) := by decide +kernel
theorem dX3_digest_142 : decode cX3_digest 142 = .ok (.lstore_n 1, 1) := by decide +kernel
theorem dX3_digest_143 : decode cX3_digest 143 = .ok (.lload_n 1, 1) := by decide +kernel
theorem dX3_digest_144 : decode cX3_digest 144 = .ok (.aload_n 0, 1) := by decide +kernel
theorem dX3_digest_145 : decode cX3_digest 145 = .ok (.invokevirtual 220, 3) := by decide +kernel
theorem dX3_digest_148 : decode cX3_digest 148 = .ok (.i2l, 1) := by decide +kernel
theorem dX3_digest_149 : decode cX3_digest 149 = .ok (.invokestatic 203, 3) := by decide +kernel
theorem dX3_digest_152 : decode cX3_digest 152 = .ok (.lstore_n 1, 1) := by decide +kernel
theorem dX3_digest_153 : decode cX3_digest 153 = .ok (.lload_n 1, 1) := by decide +kernel
theorem dX3_digest_154 : decode cX3_digest 154 = .ok (.aload_n 0, 1) := by decide +kernel
theorem dX3_digest_155 : decode cX3_digest 155 = .ok (.invokevirtual 223, 3) := by decide +kernel
theorem dX3_digest_158 : decode cX3_digest 158 = .ok (.f2d, 1) := by decide +kernel
theorem dX3_digest_159 : decode cX3_digest 159 = .ok (.bipush 23, 2) := by decide +kernel
theorem dX3_digest_161 : decode cX3_digest 161 = .ok (.bipush 127, 2) := by decide +kernel
theorem dX3_digest_163 : decode cX3_digest 163 = .ok (.invokestatic 227, 3) := by decide +kernel
theorem dX3_digest_166 : decode cX3_digest 166 = .ok (.invokestatic 203, 3) := by decide +kernel
theorem dX3_digest_169 : decode cX3_digest 169 = .ok (.lstore_n 1, 1) := by decide +kernel
theorem dX3_digest_170 : decode cX3_digest 170 = .ok (.lload_n 1, 1) := by decide +kernel
theorem dX3_digest_171 : decode cX3_digest 171 = .ok (.aload_n 0, 1) := by decide +kernel
theorem dX3_digest_172 : decode cX3_digest 172 = .ok (.invokevirtual 231, 3) := by decide +kernel
theorem dX3_digest_175 : decode cX3_digest 175 = .ok (.bipush 52, 2) := by decide +kernel
theorem dX3_digest_177 : decode cX3_digest 177 = .ok (.sipush 1023, 3) := by decide +kernel
theorem dX3_digest_180 : decode cX3_digest 180 = .ok (.invokestatic 227, 3) := by decide +kernel
theorem dX3_digest_183 : decode cX3_digest 183 = .ok (.invokestatic 203, 3) := by decide +kernel
theorem dX3_digest_186 : decode cX3_digest 186 = .ok (.lstore_n 1, 1) := by decide +kernel
theorem dX3_digest_187 : decode cX3_digest 187 = .ok (.iconst 0, 1) := by decide +kernel
theorem dX3_digest_188 : decode cX3_digest 188 = .ok (.istore_n 3, 1) := by decide +kernel
theorem dX3_digest_189 : decode cX3_digest 189 = .ok (.iload_n 3, 1) := by decide +kernel
theorem dX3_digest_190 : decode cX3_digest 190 = .ok (.iconst 2, 1) := by decide +kernel
theorem dX3_digest_191 : decode cX3_digest 191 = .ok (.if_icmp .ge 28, 3) := by decide +kernel
theorem dX3_digest_194 : decode cX3_digest 194 = .ok (.lload_n 1, 1) := by decide +kernel
theorem dX3_digest_195 : decode cX3_digest 195 = .ok (.aload_n 0, 1) := by decide +kernel
theorem dX3_digest_196 : decode cX3_digest 196 = .ok (.getfield 20, 3) := by decide +kernel
theorem dX3_digest_199 : decode cX3_digest 199 = .ok (.iload_n 3, 1) := by decide +kernel
theorem dX3_digest_200 : decode cX3_digest 200 = .ok (.baload, 1) := by decide +kernel
theorem dX3_digest_201 : decode cX3_digest 201 = .ok (.ifCond .eq 7, 3) := by decide +kernel
theorem dX3_digest_204 : decode cX3_digest 204 = .ok (.lconst 1, 1) := by decide +kernel
theorem dX3_digest_205 : decode cX3_digest 205 = .ok (.goto 4, 3) := by decide +kernel
theorem dX3_digest_208 : decode cX3_digest 208 = .ok (.lconst 0, 1) := by decide +kernel
theorem dX3_digest_209 : decode cX3_digest 209 = .ok (.invokestatic 203, 3) := by decide +kernel
theorem dX3_digest_212 : decode cX3_digest 212 = .ok (.lstore_n 1, 1) := by decide +kernel
theorem dX3_digest_213 : decode cX3_digest 213 = .ok (.iinc 3 1, 3) := by decide +kernel
theorem dX3_digest_216 : decode cX3_digest 216 = .ok (.goto (-27), 3) := by decide +kernel
theorem dX3_digest_219 : decode cX3_digest 219 = .ok (.lload_n 1, 1) := by decide +kernel
theorem dX3_digest_220 : decode cX3_digest 220 = .ok (.aload_n 0, 1) := by decide +kernel
theorem dX3_digest_221 : decode cX3_digest 221 = .ok (.getfield 34, 3) := by decide +kernel
theorem dX3_digest_224 : decode cX3_digest 224 = .ok (.invokevirtual 235, 3) := by decide +kernel
theorem dX3_digest_227 : decode cX3_digest 227 = .ok (.i2l, 1) := by decide +kernel
theorem dX3_digest_228 : decode cX3_digest 228 = .ok (.invokestatic 203, 3) := by decide +kernel
theorem dX3_digest_231 : decode cX3_digest 231 = .ok (.lstore_n 1, 1) := by decide +kernel
theorem dX3_digest_232 : decode cX3_digest 232 = .ok (.iconst 0, 1) := by decide +kernel
theorem dX3_digest_233 : decode cX3_digest 233 = .ok (.istore_n 3, 1) := by decide +kernel
theorem dX3_digest_234 : decode cX3_digest 234 = .ok (.iload_n 3, 1) := by decide +kernel
theorem dX3_digest_235 : decode cX3_digest 235 = .ok (.aload_n 0, 1) := by decide +kernel
theorem dX3_digest_236 : decode cX3_digest 236 = .ok (.getfield 34, 3) := by decide +kernel
theorem dX3_digest_239 : decode cX3_digest 239 = .ok (.invokevirtual 235, 3) := by decide +kernel
theorem dX3_digest_242 : decode cX3_digest 242 = .ok (.if_icmp .ge 23, 3) := by decide +kernel
theorem dX3_digest_245 : decode cX3_digest 245 = .ok (.lload_n 1, 1) := by decide +kernel
theorem dX3_digest_246 : decode cX3_digest 246 = .ok (.aload_n 0, 1) := by decide +kernel
theorem dX3_digest_247 : decode cX3_digest 247 = .ok (.getfield 34, 3) := by decide +kernel
theorem dX3_digest_250 : decode cX3_digest 250 = .ok (.iload_n 3, 1) := by decide +kernel
theorem dX3_digest_251 : decode cX3_digest 251 = .ok (.invokevirtual 238, 3) := by decide +kernel
theorem dX3_digest_254 : decode cX3_digest 254 = .ok (.i2l, 1) := by decide +kernel
theorem dX3_digest_255 : decode cX3_digest 255 = .ok (.invokestatic 203, 3) := by decide +kernel
theorem dX3_digest_258 : decode cX3_digest 258 = .ok (.lstore_n 1, 1) := by decide +kernel
theorem dX3_digest_259 : decode cX3_digest 259 = .ok (.iinc 3 1, 3) := by decide +kernel
theorem dX3_digest_262 : decode cX3_digest 262 = .ok (.goto (-28), 3) := by decide +kernel
theorem dX3_digest_265 : decode cX3_digest 265 = .ok (.lload_n 1, 1) := by decide +kernel
theorem dX3_digest_266 : decode cX3_digest 266 = .ok (.lreturn, 1) := by decide +kernel
set_option maxRecDepth 20000 in
theorem ggX3_mixedTrack_X3_trackOf : GoodIn wsX3_mixedTrack wsX3_trackOf := goodIn_ca (goodIn_ca (goodIn_r _ [5, 6, 7, 8, 9, 4, 10, 11, 12, 13, 14, 15, 16, 17, 18, 19, 20, 21, 22, 23, 24, 25, 26, 27, 28, 29, 30, 31, 32, 33, 34, 115, 116, 117, 118, 119, 120, 121, 122, 123, 124, 125, 126, 127, 128, 129, 130, 131, 132, 133, 134, 135, 136, 137, 138, 139, 140] (by decide +kernel) (by decide +kernel)) (goodIn_sub (fun _ h => List.mem_cons_of_mem _ (List.mem_append_left _ (List.mem_append_right _ h))) (by decide +kernel))) (goodIn_sub (fun _ h => List.mem_cons_of_mem _ (List.mem_append_right _ h)) (by decide +kernel))
set_option maxRecDepth 20000 in
theorem gX3_mixedTrack_X3_trackOf : GoodIn wsX3_mixedTrack (wsV RX3 241 RX3 yX3_trackOf wsX3_trackOf) := goodIn_app (goodIn_of _ (by decide +kernel)) ggX3_mixedTrack_X3_trackOf
set_option maxRecDepth 20000 in
theorem ggX3_mixedTrack_X3_mixed : GoodIn wsX3_mixedTrack wsX3_mixed := goodIn_r _ [37, 38] (by decide +kernel) (by decide +kernel)
set_option maxRecDepth 20000 in
theorem gX3_mixedTrack_X3_mixed : GoodIn wsX3_mixedTrack (va_wsS RX3 203 yX3_mixed wsX3_mixed) := goodIn_app (goodIn_of _ (by decide +kernel)) ggX3_mixedTrack_X3_mixed
set_option maxRecDepth 20000 in
theorem ggX3_mixedTrack_X3_whyNot : GoodIn wsX3_mixedTrack wsX3_whyNot := goodIn_ca (goodIn_ca (goodIn_r _ [42, 6, 7, 8, 9, 4, 10, 11, 12, 43, 44, 45, 46, 17, 18, 47, 48, 49, 22, 50, 51, 52, 31, 32, 33, 34, 24, 115, 116, 117, 118, 119, 120, 121, 122, 123, 124, 125, 126, 127, 128, 129, 130, 131, 132, 133, 134, 135, 136, 137, 138, 139, 140] (by decide +kernel) (by decide +kernel)) (goodIn_sub (fun _ h => List.mem_cons_of_mem _ (List.mem_append_left _ (List.mem_append_right _ h))) (by decide +kernel))) (goodIn_sub (fun _ h => List.mem_cons_of_mem _ (List.mem_append_right _ h)) (by decide +kernel))
set_option maxRecDepth 20000 in
theorem gX3_mixedTrack_X3_whyNot : GoodIn wsX3_mixedTrack (wsV RX3 244 RX3 yX3_whyNot wsX3_whyNot) := goodIn_app (goodIn_of _ (by decide +kernel)) ggX3_mixedTrack_X3_whyNot
set_option maxRecDepth 20000 in
theorem ggX3_mixedTrack_X3_daughters : GoodIn wsX3_mixedTrack wsX3_daughters := goodIn_ca (goodIn_r _ [56, 6, 7, 8, 9, 4, 10, 11, 12, 57, 58, 59, 22, 60, 61, 62, 63, 64, 28, 115, 116, 117, 118, 119, 120, 121, 122, 123, 124, 125, 126, 127, 128, 129, 130, 131, 132, 133, 134, 135, 136, 137, 138, 139, 140] (by decide +kernel) (by decide +kernel)) (goodIn_sub (fun _ h => List.mem_cons_of_mem _ (List.mem_append_left _ (List.mem_append_right _ h))) (by decide +kernel))
set_option maxRecDepth 20000 in
theorem gX3_mixedTrack_X3_daughters : GoodIn wsX3_mixedTrack (wsV RX3 247 RX3 yX3_daughters wsX3_daughters) := goodIn_app (goodIn_of _ (by decide +kernel)) ggX3_mixedTrack_X3_daughters
set_option maxRecDepth 20000 in
theorem ggX3_mixedTrack_X3_chain : GoodIn wsX3_mixedTrack wsX3_chain := goodIn_ca (goodIn_ca (goodIn_r _ [68, 17, 18, 6, 69, 70, 71, 72, 7, 8, 9, 4, 10, 11, 12, 13, 14, 15, 16, 73, 32, 33, 22, 34, 24, 74, 75, 76, 77, 78, 79, 80, 81, 82, 83, 84, 85, 86, 87, 88, 89, 90, 91, 92, 93, 94, 95, 96, 97, 98, 99, 100, 101, 102, 103, 104, 105, 106, 107, 108, 109, 110, 111, 112, 113, 114, 115, 116, 117, 118, 119, 120, 121, 122, 123, 124, 125, 126, 127, 128, 129, 130, 131, 132, 133, 134, 135, 136, 137, 138, 139, 140, 141, 142] (by decide +kernel) (by decide +kernel)) (goodIn_sub (fun _ h => List.mem_cons_of_mem _ (List.mem_append_right _ h)) (by decide +kernel))) (goodIn_sub (fun _ h => List.mem_cons_of_mem _ (List.mem_append_left _ (List.mem_append_right _ h))) (by decide +kernel))
set_option maxRecDepth 20000 in
theorem gX3_mixedTrack_X3_chain : GoodIn wsX3_mixedTrack (wsV RX3 250 RX3 yX3_chain wsX3_chain) := goodIn_app (goodIn_of _ (by decide +kernel)) ggX3_mixedTrack_X3_chain
theorem dX3_mixedTrack_0 : decode cX3_mixedTrack 0 = .ok (.lload_n 1, 1) := by decide +kernel
theorem dX3_mixedTrack_1 : decode cX3_mixedTrack 1 = .ok (.lstore 4, 2) := by decide +kernel
theorem dX3_mixedTrack_3 : decode cX3_mixedTrack 3 = .ok (.iconst 0, 1) := by decide +kernel
theorem dX3_mixedTrack_4 : decode cX3_mixedTrack 4 = .ok (.istore 6, 2) := by decide +kernel
theorem dX3_mixedTrack_6 : decode cX3_mixedTrack 6 = .ok (.iload 6, 2) := by decide +kernel
theorem dX3_mixedTrack_8 : decode cX3_mixedTrack 8 = .ok (.bipush 7, 2) := by decide +kernel
theorem dX3_mixedTrack_10 : decode cX3_mixedTrack 10 = .ok (.if_icmp .ge 24, 3) := by decide +kernel
theorem dX3_mixedTrack_13 : decode cX3_mixedTrack 13 = .ok (.lload 4, 2) := by decide +kernel
theorem dX3_mixedTrack_15 : decode cX3_mixedTrack 15 = .ok (.aload_n 0, 1) := by decide +kernel
theorem dX3_mixedTrack_16 : decode cX3_mixedTrack 16 = .ok (.iload_n 3, 1) := by decide +kernel
theorem dX3_mixedTrack_17 : decode cX3_mixedTrack 17 = .ok (.iload 6, 2) := by decide +kernel
theorem dX3_mixedTrack_19 : decode cX3_mixedTrack 19 = .ok (.invokevirtual 241, 3) := by decide +kernel
theorem dX3_mixedTrack_22 : decode cX3_mixedTrack 22 = .ok (.i2l, 1) := by decide +kernel
theorem dX3_mixedTrack_23 : decode cX3_mixedTrack 23 = .ok (.invokestatic 203, 3) := by decide +kernel
theorem dX3_mixedTrack_26 : decode cX3_mixedTrack 26 = .ok (.lstore 4, 2) := by decide +kernel
theorem dX3_mixedTrack_28 : decode cX3_mixedTrack 28 = .ok (.iinc 6 1, 3) := by decide +kernel
theorem dX3_mixedTrack_31 : decode cX3_mixedTrack 31 = .ok (.goto (-25), 3) := by decide +kernel
theorem dX3_mixedTrack_34 : decode cX3_mixedTrack 34 = .ok (.lload 4, 2) := by decide +kernel
theorem dX3_mixedTrack_36 : decode cX3_mixedTrack 36 = .ok (.aload_n 0, 1) := by decide +kernel
theorem dX3_mixedTrack_37 : decode cX3_mixedTrack 37 = .ok (.iload_n 3, 1) := by decide +kernel
theorem dX3_mixedTrack_38 : decode cX3_mixedTrack 38 = .ok (.iconst 5, 1) := by decide +kernel
theorem dX3_mixedTrack_39 : decode cX3_mixedTrack 39 = .ok (.invokevirtual 244, 3) := by decide +kernel
theorem dX3_mixedTrack_42 : decode cX3_mixedTrack 42 = .ok (.i2l, 1) := by decide +kernel
theorem dX3_mixedTrack_43 : decode cX3_mixedTrack 43 = .ok (.invokestatic 203, 3) := by decide +kernel
theorem dX3_mixedTrack_46 : decode cX3_mixedTrack 46 = .ok (.lstore 4, 2) := by decide +kernel
theorem dX3_mixedTrack_48 : decode cX3_mixedTrack 48 = .ok (.lload 4, 2) := by decide +kernel
theorem dX3_mixedTrack_50 : decode cX3_mixedTrack 50 = .ok (.aload_n 0, 1) := by decide +kernel
theorem dX3_mixedTrack_51 : decode cX3_mixedTrack 51 = .ok (.iload_n 3, 1) := by decide +kernel
theorem dX3_mixedTrack_52 : decode cX3_mixedTrack 52 = .ok (.invokevirtual 247, 3) := by decide +kernel
theorem dX3_mixedTrack_55 : decode cX3_mixedTrack 55 = .ok (.i2l, 1) := by decide +kernel
theorem dX3_mixedTrack_56 : decode cX3_mixedTrack 56 = .ok (.invokestatic 203, 3) := by decide +kernel
theorem dX3_mixedTrack_59 : decode cX3_mixedTrack 59 = .ok (.lstore 4, 2) := by decide +kernel
theorem dX3_mixedTrack_61 : decode cX3_mixedTrack 61 = .ok (.lload 4, 2) := by decide +kernel
theorem dX3_mixedTrack_63 : decode cX3_mixedTrack 63 = .ok (.aload_n 0, 1) := by decide +kernel
theorem dX3_mixedTrack_64 : decode cX3_mixedTrack 64 = .ok (.iload_n 3, 1) := by decide +kernel
theorem dX3_mixedTrack_65 : decode cX3_mixedTrack 65 = .ok (.iconst 1, 1) := by decide +kernel
theorem dX3_mixedTrack_66 : decode cX3_mixedTrack 66 = .ok (.iconst 0, 1) := by decide +kernel
theorem dX3_mixedTrack_67 : decode cX3_mixedTrack 67 = .ok (.invokevirtual 250, 3) := by decide +kernel
theorem dX3_mixedTrack_70 : decode cX3_mixedTrack 70 = .ok (.i2l, 1) := by decide +kernel
theorem dX3_mixedTrack_71 : decode cX3_mixedTrack 71 = .ok (.invokestatic 203, 3) := by decide +kernel
theorem dX3_mixedTrack_74 : decode cX3_mixedTrack 74 = .ok (.lstore 4, 2) := by decide +kernel
theorem dX3_mixedTrack_76 : decode cX3_mixedTrack 76 = .ok (.lload 4, 2) := by decide +kernel
theorem dX3_mixedTrack_78 : decode cX3_mixedTrack 78 = .ok (.aload_n 0, 1) := by decide +kernel
theorem dX3_mixedTrack_79 : decode cX3_mixedTrack 79 = .ok (.iload_n 3, 1) := by decide +kernel
theorem dX3_mixedTrack_80 : decode cX3_mixedTrack 80 = .ok (.iconst 1, 1) := by decide +kernel
theorem dX3_mixedTrack_81 : decode cX3_mixedTrack 81 = .ok (.iconst 1, 1) := by decide +kernel
theorem dX3_mixedTrack_82 : decode cX3_mixedTrack 82 = .ok (.invokevirtual 250, 3) := by decide +kernel
theorem dX3_mixedTrack_85 : decode cX3_mixedTrack 85 = .ok (.i2l, 1) := by decide +kernel
theorem dX3_mixedTrack_86 : decode cX3_mixedTrack 86 = .ok (.invokestatic 203, 3) := by decide +kernel
theorem dX3_mixedTrack_89 : decode cX3_mixedTrack 89 = .ok (.lstore 4, 2) := by decide +kernel
theorem dX3_mixedTrack_91 : decode cX3_mixedTrack 91 = .ok (.lload 4, 2) := by decide +kernel
theorem dX3_mixedTrack_93 : decode cX3_mixedTrack 93 = .ok (.aload_n 0, 1) := by decide +kernel
theorem dX3_mixedTrack_94 : decode cX3_mixedTrack 94 = .ok (.iload_n 3, 1) := by decide +kernel
theorem dX3_mixedTrack_95 : decode cX3_mixedTrack 95 = .ok (.iconst 3, 1) := by decide +kernel
theorem dX3_mixedTrack_96 : decode cX3_mixedTrack 96 = .ok (.iconst 0, 1) := by decide +kernel
theorem dX3_mixedTrack_97 : decode cX3_mixedTrack 97 = .ok (.invokevirtual 250, 3) := by decide +kernel
theorem dX3_mixedTrack_100 : decode cX3_mixedTrack 100 = .ok (.i2l, 1) := by decide +kernel
theorem dX3_mixedTrack_101 : decode cX3_mixedTrack 101 = .ok (.invokestatic 203, 3) := by decide +kernel
theorem dX3_mixedTrack_104 : decode cX3_mixedTrack 104 = .ok (.lstore 4, 2) := by decide +kernel
theorem dX3_mixedTrack_106 : decode cX3_mixedTrack 106 = .ok (.lload 4, 2) := by decide +kernel
theorem dX3_mixedTrack_108 : decode cX3_mixedTrack 108 = .ok (.aload_n 0, 1) := by decide +kernel
theorem dX3_mixedTrack_109 : decode cX3_mixedTrack 109 = .ok (.iload_n 3, 1) := by decide +kernel
theorem dX3_mixedTrack_110 : decode cX3_mixedTrack 110 = .ok (.iconst 3, 1) := by decide +kernel
theorem dX3_mixedTrack_111 : decode cX3_mixedTrack 111 = .ok (.iconst 1, 1) := by decide +kernel
theorem dX3_mixedTrack_112 : decode cX3_mixedTrack 112 = .ok (.invokevirtual 250, 3) := by decide +kernel
theorem dX3_mixedTrack_115 : decode cX3_mixedTrack 115 = .ok (.i2l, 1) := by decide +kernel
theorem dX3_mixedTrack_116 : decode cX3_mixedTrack 116 = .ok (.invokestatic 203, 3) := by decide +kernel
theorem dX3_mixedTrack_119 : decode cX3_mixedTrack 119 = .ok (.lreturn, 1) := by decide +kernel
theorem dX3_mixed_0 : decode cX3_mixed 0 = .ok (.ldc2_w 253, 3) := by decide +kernel
theorem dX3_mixed_3 : decode cX3_mixed 3 = .ok (.lload_n 0, 1) := by decide +kernel
theorem dX3_mixed_4 : decode cX3_mixed 4 = .ok (.lmul, 1) := by decide +kernel
theorem dX3_mixed_5 : decode cX3_mixed 5 = .ok (.lload_n 2, 1) := by decide +kernel
theorem dX3_mixed_6 : decode cX3_mixed 6 = .ok (.ladd, 1) := by decide +kernel
theorem dX3_mixed_7 : decode cX3_mixed 7 = .ok (.lreturn, 1) := by decide +kernel
theorem dX3_bitsOf_0 : decode cX3_bitsOf 0 = .ok (.dload_n 0, 1) := by decide +kernel
theorem dX3_bitsOf_1 : decode cX3_bitsOf 1 = .ok (.dconst 0, 1) := by decide +kernel
theorem dX3_bitsOf_2 : decode cX3_bitsOf 2 = .ok (.dcmp .l, 1) := by decide +kernel
theorem dX3_bitsOf_3 : decode cX3_bitsOf 3 = .ok (.ifCond .gt 5, 3) := by decide +kernel
theorem dX3_bitsOf_6 : decode cX3_bitsOf 6 = .ok (.lconst 0, 1) := by decide +kernel
theorem dX3_bitsOf_7 : decode cX3_bitsOf 7 = .ok (.lreturn, 1) := by decide +kernel
theorem dX3_bitsOf_8 : decode cX3_bitsOf 8 = .ok (.dload_n 0, 1) := by decide +kernel
theorem dX3_bitsOf_9 : decode cX3_bitsOf 9 = .ok (.dstore 4, 2) := by decide +kernel
theorem dX3_bitsOf_11 : decode cX3_bitsOf 11 = .ok (.iload_n 3, 1) := by decide +kernel
theorem dX3_bitsOf_12 : decode cX3_bitsOf 12 = .ok (.istore 6, 2) := by decide +kernel
theorem dX3_bitsOf_14 : decode cX3_bitsOf 14 = .ok (.dload 4, 2) := by decide +kernel
theorem dX3_bitsOf_16 : decode cX3_bitsOf 16 = .ok (.ldc2_w 255, 3) := by decide +kernel
theorem dX3_bitsOf_19 : decode cX3_bitsOf 19 = .ok (.dcmp .l, 1) := by decide +kernel
theorem dX3_bitsOf_20 : decode cX3_bitsOf 20 = .ok (.ifCond .lt 25, 3) := by decide +kernel
theorem dX3_bitsOf_23 : decode cX3_bitsOf 23 = .ok (.iload 6, 2) := by decide +kernel
theorem dX3_bitsOf_25 : decode cX3_bitsOf 25 = .ok (.iconst 2, 1) := by decide +kernel
theorem dX3_bitsOf_26 : decode cX3_bitsOf 26 = .ok (.iload_n 3, 1) := by decide +kernel
theorem dX3_bitsOf_27 : decode cX3_bitsOf 27 = .ok (.imul, 1) := by decide +kernel
theorem dX3_bitsOf_28 : decode cX3_bitsOf 28 = .ok (.if_icmp .ge 17, 3) := by decide +kernel
theorem dX3_bitsOf_31 : decode cX3_bitsOf 31 = .ok (.dload 4, 2) := by decide +kernel
theorem dX3_bitsOf_33 : decode cX3_bitsOf 33 = .ok (.ldc2_w 255, 3) := by decide +kernel
theorem dX3_bitsOf_36 : decode cX3_bitsOf 36 = .ok (.ddiv, 1) := by decide +kernel
theorem dX3_bitsOf_37 : decode cX3_bitsOf 37 = .ok (.dstore 4, 2) := by decide +kernel
theorem dX3_bitsOf_39 : decode cX3_bitsOf 39 = .ok (.iinc 6 1, 3) := by decide +kernel
theorem dX3_bitsOf_42 : decode cX3_bitsOf 42 = .ok (.goto (-28), 3) := by decide +kernel
theorem dX3_bitsOf_45 : decode cX3_bitsOf 45 = .ok (.dload 4, 2) := by decide +kernel
theorem dX3_bitsOf_47 : decode cX3_bitsOf 47 = .ok (.dconst 1, 1) := by decide +kernel
theorem dX3_bitsOf_48 : decode cX3_bitsOf 48 = .ok (.dcmp .g, 1) := by decide +kernel
theorem dX3_bitsOf_49 : decode cX3_bitsOf 49 = .ok (.ifCond .ge 23, 3) := by decide +kernel
theorem dX3_bitsOf_52 : decode cX3_bitsOf 52 = .ok (.iload 6, 2) := by decide +kernel
theorem dX3_bitsOf_54 : decode cX3_bitsOf 54 = .ok (.iconst 1, 1) := by decide +kernel
theorem dX3_bitsOf_55 : decode cX3_bitsOf 55 = .ok (.if_icmp .le 17, 3) := by decide +kernel
theorem dX3_bitsOf_58 : decode cX3_bitsOf 58 = .ok (.dload 4, 2) := by decide +kernel
theorem dX3_bitsOf_60 : decode cX3_bitsOf 60 = .ok (.ldc2_w 255, 3) := by decide +kernel
theorem dX3_bitsOf_63 : decode cX3_bitsOf 63 = .ok (.dmul, 1) := by decide +kernel
theorem dX3_bitsOf_64 : decode cX3_bitsOf 64 = .ok (.dstore 4, 2) := by decide +kernel
theorem dX3_bitsOf_66 : decode cX3_bitsOf 66 = .ok (.iinc 6 (-1), 3) := by decide +kernel
theorem dX3_bitsOf_69 : decode cX3_bitsOf 69 = .ok (.goto (-24), 3) := by decide +kernel
theorem dX3_bitsOf_72 : decode cX3_bitsOf 72 = .ok (.dload 4, 2) := by decide +kernel
theorem dX3_bitsOf_74 : decode cX3_bitsOf 74 = .ok (.dconst 1, 1) := by decide +kernel
theorem dX3_bitsOf_75 : decode cX3_bitsOf 75 = .ok (.dsub, 1) := by decide +kernel
theorem dX3_bitsOf_76 : decode cX3_bitsOf 76 = .ok (.lconst 1, 1) := by decide +kernel
theorem dX3_bitsOf_77 : decode cX3_bitsOf 77 = .ok (.iload_n 2, 1) := by decide +kernel
theorem dX3_bitsOf_78 : decode cX3_bitsOf 78 = .ok (.lshl, 1) := by decide +kernel
theorem dX3_bitsOf_79 : decode cX3_bitsOf 79 = .ok (.l2d, 1) := by decide +kernel
theorem dX3_bitsOf_80 : decode cX3_bitsOf 80 = .ok (.dmul, 1) := by decide +kernel
theorem dX3_bitsOf_81 : decode cX3_bitsOf 81 = .ok (.d2l, 1) := by decide +kernel
theorem dX3_bitsOf_82 : decode cX3_bitsOf 82 = .ok (.lstore 7, 2) := by decide +kernel
theorem dX3_bitsOf_84 : decode cX3_bitsOf 84 = .ok (.iload 6, 2) := by decide +kernel
theorem dX3_bitsOf_86 : decode cX3_bitsOf 86 = .ok (.i2l, 1) := by decide +kernel
theorem dX3_bitsOf_87 : decode cX3_bitsOf 87 = .ok (.iload_n 2, 1) := by decide +kernel
theorem dX3_bitsOf_88 : decode cX3_bitsOf 88 = .ok (.lshl, 1) := by decide +kernel
theorem dX3_bitsOf_89 : decode cX3_bitsOf 89 = .ok (.lload 7, 2) := by decide +kernel
theorem dX3_bitsOf_91 : decode cX3_bitsOf 91 = .ok (.ladd, 1) := by decide +kernel
theorem dX3_bitsOf_92 : decode cX3_bitsOf 92 = .ok (.lreturn, 1) := by decide +kernel
theorem dX3_checkTrack_0 : decode cX3_checkTrack 0 = .ok (.iload_n 1, 1) := by decide +kernel
theorem dX3_checkTrack_1 : decode cX3_checkTrack 1 = .ok (.ifCond .lt 9, 3) := by decide +kernel
theorem dX3_checkTrack_4 : decode cX3_checkTrack 4 = .ok (.iload_n 1, 1) := by decide +kernel
theorem dX3_checkTrack_5 : decode cX3_checkTrack 5 = .ok (.bipush 24, 2) := by decide +kernel
theorem dX3_checkTrack_7 : decode cX3_checkTrack 7 = .ok (.if_icmp .lt 14, 3) := by decide +kernel
theorem dX3_checkTrack_10 : decode cX3_checkTrack 10 = .ok (.new 257, 3) := by decide +kernel
theorem dX3_checkTrack_13 : decode cX3_checkTrack 13 = .ok (.dup, 1) := by decide +kernel
theorem dX3_checkTrack_14 : decode cX3_checkTrack 14 = .ok (.ldc_w 259, 3) := by decide +kernel
theorem dX3_checkTrack_17 : decode cX3_checkTrack 17 = .ok (.invokespecial 261, 3) := by decide +kernel
theorem dX3_checkTrack_20 : decode cX3_checkTrack 20 = .ok (.athrow, 1) := by decide +kernel
theorem dX3_checkTrack_21 : decode cX3_checkTrack 21 = .ok (.return_, 1) := by decide +kernel
theorem dX3_checkCylinder_0 : decode cX3_checkCylinder 0 = .ok (.iload_n 1, 1) := by decide +kernel
theorem dX3_checkCylinder_1 : decode cX3_checkCylinder 1 = .ok (.ifCond .lt 9, 3) := by decide +kernel
theorem dX3_checkCylinder_4 : decode cX3_checkCylinder 4 = .ok (.iload_n 1, 1) := by decide +kernel
theorem dX3_checkCylinder_5 : decode cX3_checkCylinder 5 = .ok (.bipush 6, 2) := by decide +kernel
theorem dX3_checkCylinder_7 : decode cX3_checkCylinder 7 = .ok (.if_icmp .lt 14, 3) := by decide +kernel
theorem dX3_checkCylinder_10 : decode cX3_checkCylinder 10 = .ok (.new 257, 3) := by decide +kernel
theorem dX3_checkCylinder_13 : decode cX3_checkCylinder 13 = .ok (.dup, 1) := by decide +kernel
theorem dX3_checkCylinder_14 : decode cX3_checkCylinder 14 = .ok (.ldc_w 262, 3) := by decide +kernel
theorem dX3_checkCylinder_17 : decode cX3_checkCylinder 17 = .ok (.invokespecial 261, 3) := by decide +kernel
theorem dX3_checkCylinder_20 : decode cX3_checkCylinder 20 = .ok (.athrow, 1) := by decide +kernel
theorem dX3_checkCylinder_21 : decode cX3_checkCylinder 21 = .ok (.return_, 1) := by decide +kernel
theorem dX3_checkLoudness_0 : decode cX3_checkLoudness 0 = .ok (.iload_n 1, 1) := by decide +kernel
theorem dX3_checkLoudness_1 : decode cX3_checkLoudness 1 = .ok (.iconst 1, 1) := by decide +kernel
theorem dX3_checkLoudness_2 : decode cX3_checkLoudness 2 = .ok (.if_icmp .lt 9, 3) := by decide +kernel
theorem dX3_checkLoudness_5 : decode cX3_checkLoudness 5 = .ok (.iload_n 1, 1) := by decide +kernel
theorem dX3_checkLoudness_6 : decode cX3_checkLoudness 6 = .ok (.bipush 9, 2) := by decide +kernel
theorem dX3_checkLoudness_8 : decode cX3_checkLoudness 8 = .ok (.if_icmp .le 14, 3) := by decide +kernel
theorem dX3_checkLoudness_11 : decode cX3_checkLoudness 11 = .ok (.new 83, 3) := by decide +kernel
theorem dX3_checkLoudness_14 : decode cX3_checkLoudness 14 = .ok (.dup, 1) := by decide +kernel
theorem dX3_checkLoudness_15 : decode cX3_checkLoudness 15 = .ok (.ldc_w 264, 3) := by decide +kernel
theorem dX3_checkLoudness_18 : decode cX3_checkLoudness 18 = .ok (.invokespecial 87, 3) := by decide +kernel
theorem dX3_checkLoudness_21 : decode cX3_checkLoudness 21 = .ok (.athrow, 1) := by decide +kernel
theorem dX3_checkLoudness_22 : decode cX3_checkLoudness 22 = .ok (.return_, 1) := by decide +kernel
theorem dX3_checkLever_0 : decode cX3_checkLever 0 = .ok (.iload_n 1, 1) := by decide +kernel
theorem dX3_checkLever_1 : decode cX3_checkLever 1 = .ok (.iconst 1, 1) := by decide +kernel
theorem dX3_checkLever_2 : decode cX3_checkLever 2 = .ok (.if_icmp .lt 8, 3) := by decide +kernel
theorem dX3_checkLever_5 : decode cX3_checkLever 5 = .ok (.iload_n 1, 1) := by decide +kernel
theorem dX3_checkLever_6 : decode cX3_checkLever 6 = .ok (.iconst 3, 1) := by decide +kernel
theorem dX3_checkLever_7 : decode cX3_checkLever 7 = .ok (.if_icmp .le 14, 3) := by decide +kernel
theorem dX3_checkLever_10 : decode cX3_checkLever 10 = .ok (.new 83, 3) := by decide +kernel
theorem dX3_checkLever_13 : decode cX3_checkLever 13 = .ok (.dup, 1) := by decide +kernel
theorem dX3_checkLever_14 : decode cX3_checkLever 14 = .ok (.ldc_w 266, 3) := by decide +kernel
theorem dX3_checkLever_17 : decode cX3_checkLever 17 = .ok (.invokespecial 87, 3) := by decide +kernel
theorem dX3_checkLever_20 : decode cX3_checkLever 20 = .ok (.athrow, 1) := by decide +kernel
theorem dX3_checkLever_21 : decode cX3_checkLever 21 = .ok (.return_, 1) := by decide +kernel
theorem dX3_checkSlot_0 : decode cX3_checkSlot 0 = .ok (.iload_n 1, 1) := by decide +kernel
theorem dX3_checkSlot_1 : decode cX3_checkSlot 1 = .ok (.ifCond .lt 8, 3) := by decide +kernel
theorem dX3_checkSlot_4 : decode cX3_checkSlot 4 = .ok (.iload_n 1, 1) := by decide +kernel
theorem dX3_checkSlot_5 : decode cX3_checkSlot 5 = .ok (.iconst 2, 1) := by decide +kernel
theorem dX3_checkSlot_6 : decode cX3_checkSlot 6 = .ok (.if_icmp .lt 14, 3) := by decide +kernel
theorem dX3_checkSlot_9 : decode cX3_checkSlot 9 = .ok (.new 83, 3) := by decide +kernel
theorem dX3_checkSlot_12 : decode cX3_checkSlot 12 = .ok (.dup, 1) := by decide +kernel
theorem dX3_checkSlot_13 : decode cX3_checkSlot 13 = .ok (.ldc_w 268, 3) := by decide +kernel
theorem dX3_checkSlot_16 : decode cX3_checkSlot 16 = .ok (.invokespecial 87, 3) := by decide +kernel
theorem dX3_checkSlot_19 : decode cX3_checkSlot 19 = .ok (.athrow, 1) := by decide +kernel
theorem dX3_checkSlot_20 : decode cX3_checkSlot 20 = .ok (.return_, 1) := by decide +kernel
theorem dX3_checkWhat_0 : decode cX3_checkWhat 0 = .ok (.iload_n 1, 1) := by decide +kernel
theorem dX3_checkWhat_1 : decode cX3_checkWhat 1 = .ok (.ifCond .lt 8, 3) := by decide +kernel
theorem dX3_checkWhat_4 : decode cX3_checkWhat 4 = .ok (.iload_n 1, 1) := by decide +kernel
theorem dX3_checkWhat_5 : decode cX3_checkWhat 5 = .ok (.iload_n 2, 1) := by decide +kernel
theorem dX3_checkWhat_6 : decode cX3_checkWhat 6 = .ok (.if_icmp .lt 14, 3) := by decide +kernel
theorem dX3_checkWhat_9 : decode cX3_checkWhat 9 = .ok (.new 83, 3) := by decide +kernel
theorem dX3_checkWhat_12 : decode cX3_checkWhat 12 = .ok (.dup, 1) := by decide +kernel
theorem dX3_checkWhat_13 : decode cX3_checkWhat 13 = .ok (.ldc_w 270, 3) := by decide +kernel
theorem dX3_checkWhat_16 : decode cX3_checkWhat 16 = .ok (.invokespecial 87, 3) := by decide +kernel
theorem dX3_checkWhat_19 : decode cX3_checkWhat 19 = .ok (.athrow, 1) := by decide +kernel
theorem dX3_checkWhat_20 : decode cX3_checkWhat 20 = .ok (.return_, 1) := by decide +kernel
set_option maxRecDepth 20000 in
theorem ggX3_saveState_X3_dropOldestState : GoodIn wsX3_saveState wsX3_dropOldestState := goodIn_r _ [8, 2, 1, 37, 38, 39, 40, 41, 42, 43] (by decide +kernel) (by decide +kernel)
set_option maxRecDepth 20000 in
theorem gX3_saveState_X3_dropOldestState : GoodIn wsX3_saveState (wsV RX3 272 RX3 yX3_dropOldestState wsX3_dropOldestState) := goodIn_app (goodIn_of _ (by decide +kernel)) ggX3_saveState_X3_dropOldestState
set_option maxRecDepth 20000 in
theorem ggX3_saveState_X2_takeOver : GoodIn wsX3_saveState wsX2_takeOver := goodIn_r _ [13, 14, 15, 16, 17, 18, 19, 20, 21, 22, 23, 24, 25, 26, 27, 28, 29, 30, 31, 32, 33, 34, 35, 36, 44, 45, 46, 47, 48, 49, 50, 51, 52, 53, 54, 55, 56, 57, 58, 59, 60, 61, 62] (by decide +kernel) (by decide +kernel)
set_option maxRecDepth 20000 in
theorem gX3_saveState_X2_takeOver : GoodIn wsX3_saveState (wsV RX3 130 RX2 yX2_takeOver wsX2_takeOver) := goodIn_app (goodIn_of _ (by decide +kernel)) ggX3_saveState_X2_takeOver
theorem dX3_saveState_0 : decode cX3_saveState 0 = .ok (.aload_n 0, 1) := by decide +kernel
theorem dX3_saveState_1 : decode cX3_saveState 1 = .ok (.getfield 27, 3) := by decide +kernel
theorem dX3_saveState_4 : decode cX3_saveState 4 = .ok (.bipush 6, 2) := by decide +kernel
theorem dX3_saveState_6 : decode cX3_saveState 6 = .ok (.if_icmp .lt 7, 3) := by decide +kernel
theorem dX3_saveState_9 : decode cX3_saveState 9 = .ok (.aload_n 0, 1) := by decide +kernel
theorem dX3_saveState_10 : decode cX3_saveState 10 = .ok (.invokevirtual 272, 3) := by decide +kernel
theorem dX3_saveState_13 : decode cX3_saveState 13 = .ok (.aload_n 0, 1) := by decide +kernel
theorem dX3_saveState_14 : decode cX3_saveState 14 = .ok (.getfield 24, 3) := by decide +kernel
theorem dX3_saveState_17 : decode cX3_saveState 17 = .ok (.aload_n 0, 1) := by decide +kernel
theorem dX3_saveState_18 : decode cX3_saveState 18 = .ok (.getfield 27, 3) := by decide +kernel
theorem dX3_saveState_21 : decode cX3_saveState 21 = .ok (.aaload, 1) := by decide +kernel
theorem dX3_saveState_22 : decode cX3_saveState 22 = .ok (.aload_n 0, 1) := by decide +kernel
theorem dX3_saveState_23 : decode cX3_saveState 23 = .ok (.getfield 12, 3) := by decide +kernel
theorem dX3_saveState_26 : decode cX3_saveState 26 = .ok (.invokevirtual 130, 3) := by decide +kernel
theorem dX3_saveState_29 : decode cX3_saveState 29 = .ok (.aload_n 0, 1) := by decide +kernel
theorem dX3_saveState_30 : decode cX3_saveState 30 = .ok (.dup, 1) := by decide +kernel
theorem dX3_saveState_31 : decode cX3_saveState 31 = .ok (.getfield 27, 3) := by decide +kernel
theorem dX3_saveState_34 : decode cX3_saveState 34 = .ok (.iconst 1, 1) := by decide +kernel
theorem dX3_saveState_35 : decode cX3_saveState 35 = .ok (.iadd, 1) := by decide +kernel
theorem dX3_saveState_36 : decode cX3_saveState 36 = .ok (.putfield 27, 3) := by decide +kernel
theorem dX3_saveState_39 : decode cX3_saveState 39 = .ok (.return_, 1) := by decide +kernel
theorem dX3_dropOldestState_0 : decode cX3_dropOldestState 0 = .ok (.aload_n 0, 1) := by decide +kernel
theorem dX3_dropOldestState_1 : decode cX3_dropOldestState 1 = .ok (.getfield 24, 3) := by decide +kernel
theorem dX3_dropOldestState_4 : decode cX3_dropOldestState 4 = .ok (.iconst 0, 1) := by decide +kernel
theorem dX3_dropOldestState_5 : decode cX3_dropOldestState 5 = .ok (.aaload, 1) := by decide +kernel
theorem dX3_dropOldestState_6 : decode cX3_dropOldestState 6 = .ok (.astore_n 1, 1) := by decide +kernel
theorem dX3_dropOldestState_7 : decode cX3_dropOldestState 7 = .ok (.iconst 1, 1) := by decide +kernel
theorem dX3_dropOldestState_8 : decode cX3_dropOldestState 8 = .ok (.istore_n 2, 1) := by decide +kernel
theorem dX3_dropOldestState_9 : decode cX3_dropOldestState 9 = .ok (.iload_n 2, 1) := by decide +kernel
theorem dX3_dropOldestState_10 : decode cX3_dropOldestState 10 = .ok (.bipush 6, 2) := by decide +kernel
theorem dX3_dropOldestState_12 : decode cX3_dropOldestState 12 = .ok (.if_icmp .ge 23, 3) := by decide +kernel
theorem dX3_dropOldestState_15 : decode cX3_dropOldestState 15 = .ok (.aload_n 0, 1) := by decide +kernel
theorem dX3_dropOldestState_16 : decode cX3_dropOldestState 16 = .ok (.getfield 24, 3) := by decide +kernel
theorem dX3_dropOldestState_19 : decode cX3_dropOldestState 19 = .ok (.iload_n 2, 1) := by decide +kernel
theorem dX3_dropOldestState_20 : decode cX3_dropOldestState 20 = .ok (.iconst 1, 1) := by decide +kernel
theorem dX3_dropOldestState_21 : decode cX3_dropOldestState 21 = .ok (.isub, 1) := by decide +kernel
theorem dX3_dropOldestState_22 : decode cX3_dropOldestState 22 = .ok (.aload_n 0, 1) := by decide +kernel
theorem dX3_dropOldestState_23 : decode cX3_dropOldestState 23 = .ok (.getfield 24, 3) := by decide +kernel
theorem dX3_dropOldestState_26 : decode cX3_dropOldestState 26 = .ok (.iload_n 2, 1) := by decide +kernel
theorem dX3_dropOldestState_27 : decode cX3_dropOldestState 27 = .ok (.aaload, 1) := by decide +kernel
theorem dX3_dropOldestState_28 : decode cX3_dropOldestState 28 = .ok (.aastore, 1) := by decide +kernel
theorem dX3_dropOldestState_29 : decode cX3_dropOldestState 29 = .ok (.iinc 2 1, 3) := by decide +kernel
theorem dX3_dropOldestState_32 : decode cX3_dropOldestState 32 = .ok (.goto (-23), 3) := by decide +kernel
theorem dX3_dropOldestState_35 : decode cX3_dropOldestState 35 = .ok (.aload_n 0, 1) := by decide +kernel
theorem dX3_dropOldestState_36 : decode cX3_dropOldestState 36 = .ok (.getfield 24, 3) := by decide +kernel
theorem dX3_dropOldestState_39 : decode cX3_dropOldestState 39 = .ok (.iconst 5, 1) := by decide +kernel
theorem dX3_dropOldestState_40 : decode cX3_dropOldestState 40 = .ok (.aload_n 1, 1) := by decide +kernel
theorem dX3_dropOldestState_41 : decode cX3_dropOldestState 41 = .ok (.aastore, 1) := by decide +kernel
theorem dX3_dropOldestState_42 : decode cX3_dropOldestState 42 = .ok (.aload_n 0, 1) := by decide +kernel
theorem dX3_dropOldestState_43 : decode cX3_dropOldestState 43 = .ok (.iconst 5, 1) := by decide +kernel
theorem dX3_dropOldestState_44 : decode cX3_dropOldestState 44 = .ok (.putfield 27, 3) := by decide +kernel
theorem dX3_dropOldestState_47 : decode cX3_dropOldestState 47 = .ok (.return_, 1) := by decide +kernel
set_option maxRecDepth 20000 in
theorem ggX3_doOrders_X0_length : GoodIn wsX3_doOrders wsX0_length := goodIn_r _ [6, 7, 148, 149] (by decide +kernel) (by decide +kernel)
set_option maxRecDepth 20000 in
theorem gX3_doOrders_X0_length : GoodIn wsX3_doOrders (wsV RX3 235 RX0 yX0_length wsX0_length) := goodIn_app (goodIn_of _ (by decide +kernel)) ggX3_doOrders_X0_length
set_option maxRecDepth 20000 in
theorem ggX3_doOrders_X3_doOrder : GoodIn wsX3_doOrders wsX3_doOrder := goodIn_r _ [12, 1, 13, 14, 15, 16, 5, 17, 7, 18, 19, 20, 21, 22, 23, 24, 25, 26, 27, 28, 29, 30, 31, 32, 33, 34, 35, 36, 37, 38, 39, 40, 41, 42, 43, 44, 45, 46, 47, 48, 49, 50, 51, 52, 53, 54, 11, 55, 56, 57, 58, 59, 60, 61, 62, 63, 64, 65, 66, 67, 68, 69, 70, 71, 72, 73, 74, 75, 76, 77, 78, 79, 80, 81, 82, 83, 84, 85, 86, 87, 88, 89, 90, 91, 92, 93, 94, 95, 96, 97, 98, 99, 100, 101, 102, 103, 104, 105, 106, 107, 108, 109, 110, 111, 112, 113, 114, 115, 116, 117, 118, 119, 120, 121, 141, 142, 143, 144, 145, 146, 147, 148, 149, 150, 151, 152, 153, 154, 155, 156, 157, 158, 159, 160, 161, 162, 163, 164, 165, 166, 167, 168] (by decide +kernel) (by decide +kernel)
set_option maxRecDepth 20000 in
theorem gX3_doOrders_X3_doOrder : GoodIn wsX3_doOrders (wsV RX3 275 RX3 yX3_doOrder wsX3_doOrder) := goodIn_app (goodIn_of _ (by decide +kernel)) ggX3_doOrders_X3_doOrder
set_option maxRecDepth 20000 in
theorem ggX3_doOrders_X0_formLengthAt : GoodIn wsX3_doOrders wsX0_formLengthAt := goodIn_r _ [125, 27, 15, 16, 5, 17, 7, 18, 126, 127, 128, 129, 130, 131, 132, 133, 134, 135, 136, 137, 138, 139, 140, 148, 149] (by decide +kernel) (by decide +kernel)
set_option maxRecDepth 20000 in
theorem gX3_doOrders_X0_formLengthAt : GoodIn wsX3_doOrders (wsV RX3 278 RX0 yX0_formLengthAt wsX0_formLengthAt) := goodIn_app (goodIn_of _ (by decide +kernel)) ggX3_doOrders_X0_formLengthAt
theorem dX3_doOrders_0 : decode cX3_doOrders 0 = .ok (.iconst 0, 1) := by decide +kernel
theorem dX3_doOrders_1 : decode cX3_doOrders 1 = .ok (.istore_n 1, 1) := by decide +kernel
theorem dX3_doOrders_2 : decode cX3_doOrders 2 = .ok (.iconst 0, 1) := by decide +kernel
theorem dX3_doOrders_3 : decode cX3_doOrders 3 = .ok (.istore_n 2, 1) := by decide +kernel
theorem dX3_doOrders_4 : decode cX3_doOrders 4 = .ok (.iload_n 2, 1) := by decide +kernel
theorem dX3_doOrders_5 : decode cX3_doOrders 5 = .ok (.aload_n 0, 1) := by decide +kernel
theorem dX3_doOrders_6 : decode cX3_doOrders 6 = .ok (.getfield 34, 3) := by decide +kernel
theorem dX3_doOrders_9 : decode cX3_doOrders 9 = .ok (.invokevirtual 235, 3) := by decide +kernel
theorem dX3_doOrders_12 : decode cX3_doOrders 12 = .ok (.if_icmp .ge 32, 3) := by decide +kernel
theorem dX3_doOrders_15 : decode cX3_doOrders 15 = .ok (.aload_n 0, 1) := by decide +kernel
theorem dX3_doOrders_16 : decode cX3_doOrders 16 = .ok (.iload_n 2, 1) := by decide +kernel
theorem dX3_doOrders_17 : decode cX3_doOrders 17 = .ok (.invokevirtual 275, 3) := by decide +kernel
theorem dX3_doOrders_20 : decode cX3_doOrders 20 = .ok (.ifCond .ne 5, 3) := by decide +kernel
theorem dX3_doOrders_23 : decode cX3_doOrders 23 = .ok (.iload_n 1, 1) := by decide +kernel
theorem dX3_doOrders_24 : decode cX3_doOrders 24 = .ok (.ireturn, 1) := by decide +kernel
theorem dX3_doOrders_25 : decode cX3_doOrders 25 = .ok (.iinc 1 1, 3) := by decide +kernel
theorem dX3_doOrders_28 : decode cX3_doOrders 28 = .ok (.iload_n 2, 1) := by decide +kernel
theorem dX3_doOrders_29 : decode cX3_doOrders 29 = .ok (.aload_n 0, 1) := by decide +kernel
theorem dX3_doOrders_30 : decode cX3_doOrders 30 = .ok (.getfield 34, 3) := by decide +kernel
theorem dX3_doOrders_33 : decode cX3_doOrders 33 = .ok (.iload_n 2, 1) := by decide +kernel
theorem dX3_doOrders_34 : decode cX3_doOrders 34 = .ok (.invokevirtual 278, 3) := by decide +kernel
theorem dX3_doOrders_37 : decode cX3_doOrders 37 = .ok (.iconst 1, 1) := by decide +kernel
theorem dX3_doOrders_38 : decode cX3_doOrders 38 = .ok (.iadd, 1) := by decide +kernel
theorem dX3_doOrders_39 : decode cX3_doOrders 39 = .ok (.iadd, 1) := by decide +kernel
theorem dX3_doOrders_40 : decode cX3_doOrders 40 = .ok (.istore_n 2, 1) := by decide +kernel
theorem dX3_doOrders_41 : decode cX3_doOrders 41 = .ok (.goto (-37), 3) := by decide +kernel
theorem dX3_doOrders_44 : decode cX3_doOrders 44 = .ok (.iload_n 1, 1) := by decide +kernel
theorem dX3_doOrders_45 : decode cX3_doOrders 45 = .ok (.ireturn, 1) := by decide +kernel
set_option maxRecDepth 20000 in
theorem ggX3_doOrder_X0_codeAt : GoodIn wsX3_doOrder wsX0_codeAt := goodIn_r _ [7, 8, 9, 121, 122] (by decide +kernel) (by decide +kernel)
set_option maxRecDepth 20000 in
theorem gX3_doOrder_X0_codeAt : GoodIn wsX3_doOrder (wsV RX3 238 RX0 yX0_codeAt wsX0_codeAt) := goodIn_app (goodIn_of _ (by decide +kernel)) ggX3_doOrder_X0_codeAt
set_option maxRecDepth 20000 in
theorem ggX3_doOrder_X0_trackAt : GoodIn wsX3_doOrder wsX0_trackAt := goodIn_r _ [13, 14, 15, 16, 6, 17, 18, 4, 5, 7, 8, 9, 19, 20, 21, 22, 121, 122] (by decide +kernel) (by decide +kernel)
set_option maxRecDepth 20000 in
theorem gX3_doOrder_X0_trackAt : GoodIn wsX3_doOrder (wsV RX3 281 RX0 yX0_trackAt wsX0_trackAt) := goodIn_app (goodIn_of _ (by decide +kernel)) ggX3_doOrder_X0_trackAt
set_option maxRecDepth 20000 in
theorem ggX3_doOrder_X0_digitAt : GoodIn wsX3_doOrder wsX0_digitAt := goodIn_r _ [22, 18, 4, 5, 6, 7, 8, 9, 121, 122] (by decide +kernel) (by decide +kernel)
set_option maxRecDepth 20000 in
theorem gX3_doOrder_X0_digitAt : GoodIn wsX3_doOrder (wsV RX3 284 RX0 yX0_digitAt wsX0_digitAt) := goodIn_app (goodIn_of _ (by decide +kernel)) ggX3_doOrder_X0_digitAt
set_option maxRecDepth 20000 in
theorem ggX3_doOrder_X2_speakOnto : GoodIn wsX3_doOrder wsX2_speakOnto := goodIn_r _ [28, 29, 30, 31, 32, 33, 34, 35, 36, 37, 27, 38, 39, 40, 41, 42, 43, 44, 45, 46, 47, 48, 49, 50, 51, 52, 53, 54, 55, 56, 57, 58, 59, 60, 61, 62, 63, 64, 65, 123, 124, 125, 126, 127, 128, 129, 130, 131, 132, 133, 134, 135, 136, 137, 138, 139, 140, 141] (by decide +kernel) (by decide +kernel)
set_option maxRecDepth 20000 in
theorem gX3_doOrder_X2_speakOnto : GoodIn wsX3_doOrder (wsV RX3 55 RX2 yX2_speakOnto wsX2_speakOnto) := goodIn_app (goodIn_of _ (by decide +kernel)) ggX3_doOrder_X2_speakOnto
set_option maxRecDepth 20000 in
theorem ggX3_doOrder_X2_copyOnto : GoodIn wsX3_doOrder wsX2_copyOnto := goodIn_r _ [69, 29, 30, 31, 58, 70, 71, 64, 72, 44, 33, 73, 74, 75, 76, 27, 77, 39, 40, 41, 42, 43, 78, 46, 79, 62, 63, 65, 80, 48, 49, 50, 51, 81, 82, 83, 84, 56, 32, 85, 86, 87, 45, 47, 52, 53, 54, 55, 57, 59, 60, 61, 123, 124, 125, 126, 127, 128, 129, 130, 131, 132, 133, 134, 135, 136, 137, 138, 139, 140, 141] (by decide +kernel) (by decide +kernel)
set_option maxRecDepth 20000 in
theorem gX3_doOrder_X2_copyOnto : GoodIn wsX3_doOrder (wsV RX3 62 RX2 yX2_copyOnto wsX2_copyOnto) := goodIn_app (goodIn_of _ (by decide +kernel)) ggX3_doOrder_X2_copyOnto
set_option maxRecDepth 20000 in
theorem ggX3_doOrder_X2_playTrack : GoodIn wsX3_doOrder wsX2_playTrack := goodIn_r _ [91, 33, 29, 56, 92, 93, 63, 64, 65, 59, 94, 40, 41, 42, 27, 43, 44, 123, 124, 125, 126, 127, 128, 129, 130, 131, 132, 133, 134, 135, 136, 137, 138, 139, 140, 141] (by decide +kernel) (by decide +kernel)
set_option maxRecDepth 20000 in
theorem gX3_doOrder_X2_playTrack : GoodIn wsX3_doOrder (wsV RX3 66 RX2 yX2_playTrack wsX2_playTrack) := goodIn_app (goodIn_of _ (by decide +kernel)) ggX3_doOrder_X2_playTrack
set_option maxRecDepth 20000 in
theorem ggX3_doOrder_X0_cylinderAt : GoodIn wsX3_doOrder wsX0_cylinderAt := goodIn_r _ [17, 18, 4, 5, 6, 7, 8, 9, 121, 122] (by decide +kernel) (by decide +kernel)
set_option maxRecDepth 20000 in
theorem gX3_doOrder_X0_cylinderAt : GoodIn wsX3_doOrder (wsV RX3 287 RX0 yX0_cylinderAt wsX0_cylinderAt) := goodIn_app (goodIn_of _ (by decide +kernel)) ggX3_doOrder_X0_cylinderAt
set_option maxRecDepth 20000 in
theorem ggX3_doOrder_X2_shaveCylinder : GoodIn wsX3_doOrder wsX2_shaveCylinder := goodIn_r _ [99, 29, 39, 100, 101, 102, 103, 104, 27, 105, 44, 93, 63, 64, 65, 106, 107, 108, 109, 31, 123, 124, 125, 126, 127, 128, 129, 130, 131, 132, 133, 134, 135, 136, 137, 138, 139, 140, 141] (by decide +kernel) (by decide +kernel)
set_option maxRecDepth 20000 in
theorem gX3_doOrder_X2_shaveCylinder : GoodIn wsX3_doOrder (wsV RX3 73 RX2 yX2_shaveCylinder wsX2_shaveCylinder) := goodIn_app (goodIn_of _ (by decide +kernel)) ggX3_doOrder_X2_shaveCylinder
set_option maxRecDepth 20000 in
theorem ggX3_doOrder_X2_windUp : GoodIn wsX3_doOrder wsX2_windUp := goodIn_r _ [113, 33, 123, 124, 125, 126, 127, 128, 129, 130, 131, 132, 133, 134, 135, 136, 137, 138, 139, 140, 141] (by decide +kernel) (by decide +kernel)
set_option maxRecDepth 20000 in
theorem gX3_doOrder_X2_windUp : GoodIn wsX3_doOrder (wsV RX3 76 RX2 yX2_windUp wsX2_windUp) := goodIn_app (goodIn_of _ (by decide +kernel)) ggX3_doOrder_X2_windUp
theorem dX3_doOrder_0 : decode cX3_doOrder 0 = .ok (.aload_n 0, 1) := by decide +kernel
theorem dX3_doOrder_1 : decode cX3_doOrder 1 = .ok (.getfield 34, 3) := by decide +kernel
theorem dX3_doOrder_4 : decode cX3_doOrder 4 = .ok (.iload_n 1, 1) := by decide +kernel
theorem dX3_doOrder_5 : decode cX3_doOrder 5 = .ok (.invokevirtual 238, 3) := by decide +kernel
theorem dX3_doOrder_8 : decode cX3_doOrder 8 = .ok (.lookupswitch 182 #[(99, 80), (112, 127), (115, 44), (120, 155)], 44) := by decide +kernel
theorem dX3_doOrder_52 : decode cX3_doOrder 52 = .ok (.aload_n 0, 1) := by decide +kernel
theorem dX3_doOrder_53 : decode cX3_doOrder 53 = .ok (.getfield 12, 3) := by decide +kernel
theorem dX3_doOrder_56 : decode cX3_doOrder 56 = .ok (.aload_n 0, 1) := by decide +kernel
theorem dX3_doOrder_57 : decode cX3_doOrder 57 = .ok (.getfield 34, 3) := by decide +kernel
theorem dX3_doOrder_60 : decode cX3_doOrder 60 = .ok (.iload_n 1, 1) := by decide +kernel
theorem dX3_doOrder_61 : decode cX3_doOrder 61 = .ok (.iconst 1, 1) := by decide +kernel
theorem dX3_doOrder_62 : decode cX3_doOrder 62 = .ok (.iadd, 1) := by decide +kernel
theorem dX3_doOrder_63 : decode cX3_doOrder 63 = .ok (.invokevirtual 281, 3) := by decide +kernel
theorem dX3_doOrder_66 : decode cX3_doOrder 66 = .ok (.aload_n 0, 1) := by decide +kernel
theorem dX3_doOrder_67 : decode cX3_doOrder 67 = .ok (.getfield 34, 3) := by decide +kernel
theorem dX3_doOrder_70 : decode cX3_doOrder 70 = .ok (.iload_n 1, 1) := by decide +kernel
theorem dX3_doOrder_71 : decode cX3_doOrder 71 = .ok (.iconst 4, 1) := by decide +kernel
theorem dX3_doOrder_72 : decode cX3_doOrder 72 = .ok (.iadd, 1) := by decide +kernel
theorem dX3_doOrder_73 : decode cX3_doOrder 73 = .ok (.invokevirtual 284, 3) := by decide +kernel
theorem dX3_doOrder_76 : decode cX3_doOrder 76 = .ok (.invokevirtual 55, 3) := by decide +kernel
theorem dX3_doOrder_79 : decode cX3_doOrder 79 = .ok (.ifCond .ne 7, 3) := by decide +kernel
theorem dX3_doOrder_82 : decode cX3_doOrder 82 = .ok (.iconst 1, 1) := by decide +kernel
theorem dX3_doOrder_83 : decode cX3_doOrder 83 = .ok (.goto 4, 3) := by decide +kernel
theorem dX3_doOrder_86 : decode cX3_doOrder 86 = .ok (.iconst 0, 1) := by decide +kernel
theorem dX3_doOrder_87 : decode cX3_doOrder 87 = .ok (.ireturn, 1) := by decide +kernel
theorem dX3_doOrder_88 : decode cX3_doOrder 88 = .ok (.aload_n 0, 1) := by decide +kernel
theorem dX3_doOrder_89 : decode cX3_doOrder 89 = .ok (.getfield 12, 3) := by decide +kernel
theorem dX3_doOrder_92 : decode cX3_doOrder 92 = .ok (.aload_n 0, 1) := by decide +kernel
theorem dX3_doOrder_93 : decode cX3_doOrder 93 = .ok (.getfield 34, 3) := by decide +kernel
theorem dX3_doOrder_96 : decode cX3_doOrder 96 = .ok (.iload_n 1, 1) := by decide +kernel
theorem dX3_doOrder_97 : decode cX3_doOrder 97 = .ok (.iconst 1, 1) := by decide +kernel
theorem dX3_doOrder_98 : decode cX3_doOrder 98 = .ok (.iadd, 1) := by decide +kernel
theorem dX3_doOrder_99 : decode cX3_doOrder 99 = .ok (.invokevirtual 281, 3) := by decide +kernel
theorem dX3_doOrder_102 : decode cX3_doOrder 102 = .ok (.aload_n 0, 1) := by decide +kernel
theorem dX3_doOrder_103 : decode cX3_doOrder 103 = .ok (.getfield 34, 3) := by decide +kernel
theorem dX3_doOrder_106 : decode cX3_doOrder 106 = .ok (.iload_n 1, 1) := by decide +kernel
theorem dX3_doOrder_107 : decode cX3_doOrder 107 = .ok (.iconst 4, 1) := by decide +kernel
theorem dX3_doOrder_108 : decode cX3_doOrder 108 = .ok (.iadd, 1) := by decide +kernel
theorem dX3_doOrder_109 : decode cX3_doOrder 109 = .ok (.invokevirtual 281, 3) := by decide +kernel
theorem dX3_doOrder_112 : decode cX3_doOrder 112 = .ok (.aload_n 0, 1) := by decide +kernel
theorem dX3_doOrder_113 : decode cX3_doOrder 113 = .ok (.getfield 34, 3) := by decide +kernel
theorem dX3_doOrder_116 : decode cX3_doOrder 116 = .ok (.iload_n 1, 1) := by decide +kernel
theorem dX3_doOrder_117 : decode cX3_doOrder 117 = .ok (.bipush 7, 2) := by decide +kernel
theorem dX3_doOrder_119 : decode cX3_doOrder 119 = .ok (.iadd, 1) := by decide +kernel
theorem dX3_doOrder_120 : decode cX3_doOrder 120 = .ok (.invokevirtual 284, 3) := by decide +kernel
theorem dX3_doOrder_123 : decode cX3_doOrder 123 = .ok (.invokevirtual 62, 3) := by decide +kernel
theorem dX3_doOrder_126 : decode cX3_doOrder 126 = .ok (.ifCond .ne 7, 3) := by decide +kernel
theorem dX3_doOrder_129 : decode cX3_doOrder 129 = .ok (.iconst 1, 1) := by decide +kernel
theorem dX3_doOrder_130 : decode cX3_doOrder 130 = .ok (.goto 4, 3) := by decide +kernel
theorem dX3_doOrder_133 : decode cX3_doOrder 133 = .ok (.iconst 0, 1) := by decide +kernel
theorem dX3_doOrder_134 : decode cX3_doOrder 134 = .ok (.ireturn, 1) := by decide +kernel
theorem dX3_doOrder_135 : decode cX3_doOrder 135 = .ok (.aload_n 0, 1) := by decide +kernel
theorem dX3_doOrder_136 : decode cX3_doOrder 136 = .ok (.getfield 12, 3) := by decide +kernel
theorem dX3_doOrder_139 : decode cX3_doOrder 139 = .ok (.aload_n 0, 1) := by decide +kernel
theorem dX3_doOrder_140 : decode cX3_doOrder 140 = .ok (.getfield 34, 3) := by decide +kernel
theorem dX3_doOrder_143 : decode cX3_doOrder 143 = .ok (.iload_n 1, 1) := by decide +kernel
theorem dX3_doOrder_144 : decode cX3_doOrder 144 = .ok (.iconst 1, 1) := by decide +kernel
theorem dX3_doOrder_145 : decode cX3_doOrder 145 = .ok (.iadd, 1) := by decide +kernel
theorem dX3_doOrder_146 : decode cX3_doOrder 146 = .ok (.invokevirtual 281, 3) := by decide +kernel
theorem dX3_doOrder_149 : decode cX3_doOrder 149 = .ok (.invokevirtual 66, 3) := by decide +kernel
theorem dX3_doOrder_152 : decode cX3_doOrder 152 = .ok (.bipush 10, 2) := by decide +kernel
theorem dX3_doOrder_154 : decode cX3_doOrder 154 = .ok (.if_icmp .lt 7, 3) := by decide +kernel
theorem dX3_doOrder_157 : decode cX3_doOrder 157 = .ok (.iconst 1, 1) := by decide +kernel
theorem dX3_doOrder_158 : decode cX3_doOrder 158 = .ok (.goto 4, 3) := by decide +kernel
theorem dX3_doOrder_161 : decode cX3_doOrder 161 = .ok (.iconst 0, 1) := by decide +kernel
theorem dX3_doOrder_162 : decode cX3_doOrder 162 = .ok (.ireturn, 1) := by decide +kernel
theorem dX3_doOrder_163 : decode cX3_doOrder 163 = .ok (.aload_n 0, 1) := by decide +kernel
theorem dX3_doOrder_164 : decode cX3_doOrder 164 = .ok (.getfield 12, 3) := by decide +kernel
theorem dX3_doOrder_167 : decode cX3_doOrder 167 = .ok (.aload_n 0, 1) := by decide +kernel
theorem dX3_doOrder_168 : decode cX3_doOrder 168 = .ok (.getfield 34, 3) := by decide +kernel
theorem dX3_doOrder_171 : decode cX3_doOrder 171 = .ok (.iload_n 1, 1) := by decide +kernel
theorem dX3_doOrder_172 : decode cX3_doOrder 172 = .ok (.iconst 1, 1) := by decide +kernel
theorem dX3_doOrder_173 : decode cX3_doOrder 173 = .ok (.iadd, 1) := by decide +kernel
theorem dX3_doOrder_174 : decode cX3_doOrder 174 = .ok (.invokevirtual 287, 3) := by decide +kernel
theorem dX3_doOrder_177 : decode cX3_doOrder 177 = .ok (.invokevirtual 73, 3) := by decide +kernel
theorem dX3_doOrder_180 : decode cX3_doOrder 180 = .ok (.iconst (-1), 1) := by decide +kernel
theorem dX3_doOrder_181 : decode cX3_doOrder 181 = .ok (.if_icmp .eq 7, 3) := by decide +kernel
theorem dX3_doOrder_184 : decode cX3_doOrder 184 = .ok (.iconst 1, 1) := by decide +kernel
theorem dX3_doOrder_185 : decode cX3_doOrder 185 = .ok (.goto 4, 3) := by decide +kernel
theorem dX3_doOrder_188 : decode cX3_doOrder 188 = .ok (.iconst 0, 1) := by decide +kernel
theorem dX3_doOrder_189 : decode cX3_doOrder 189 = .ok (.ireturn, 1) := by decide +kernel
theorem dX3_doOrder_190 : decode cX3_doOrder 190 = .ok (.aload_n 0, 1) := by decide +kernel
theorem dX3_doOrder_191 : decode cX3_doOrder 191 = .ok (.getfield 12, 3) := by decide +kernel
theorem dX3_doOrder_194 : decode cX3_doOrder 194 = .ok (.invokevirtual 76, 3) := by decide +kernel
theorem dX3_doOrder_197 : decode cX3_doOrder 197 = .ok (.pop, 1) := by decide +kernel
theorem dX3_doOrder_198 : decode cX3_doOrder 198 = .ok (.iconst 1, 1) := by decide +kernel
theorem dX3_doOrder_199 : decode cX3_doOrder 199 = .ok (.ireturn, 1) := by decide +kernel
theorem dX3_bluntness_0 : decode cX3_bluntness 0 = .ok (.bipush 100, 2) := by decide +kernel
theorem dX3_bluntness_2 : decode cX3_bluntness 2 = .ok (.iload_n 0, 1) := by decide +kernel
theorem dX3_bluntness_3 : decode cX3_bluntness 3 = .ok (.isub, 1) := by decide +kernel
theorem dX3_bluntness_4 : decode cX3_bluntness 4 = .ok (.iconst 4, 1) := by decide +kernel
theorem dX3_bluntness_5 : decode cX3_bluntness 5 = .ok (.idiv, 1) := by decide +kernel
theorem dX3_bluntness_6 : decode cX3_bluntness 6 = .ok (.ireturn, 1) := by decide +kernel
theorem dX3_sharpnessAfter_0 : decode cX3_sharpnessAfter 0 = .ok (.iconst 0, 1) := by decide +kernel
theorem dX3_sharpnessAfter_1 : decode cX3_sharpnessAfter 1 = .ok (.iload_n 0, 1) := by decide +kernel
theorem dX3_sharpnessAfter_2 : decode cX3_sharpnessAfter 2 = .ok (.iload_n 1, 1) := by decide +kernel
theorem dX3_sharpnessAfter_3 : decode cX3_sharpnessAfter 3 = .ok (.isub, 1) := by decide +kernel
theorem dX3_sharpnessAfter_4 : decode cX3_sharpnessAfter 4 = .ok (.invokestatic 290, 3) := by decide +kernel
theorem dX3_sharpnessAfter_7 : decode cX3_sharpnessAfter 7 = .ok (.ireturn, 1) := by decide +kernel
theorem dX3_copiedDepth_0 : decode cX3_copiedDepth 0 = .ok (.bipush 9, 2) := by decide +kernel
theorem dX3_copiedDepth_2 : decode cX3_copiedDepth 2 = .ok (.iconst 1, 1) := by decide +kernel
theorem dX3_copiedDepth_3 : decode cX3_copiedDepth 3 = .ok (.iload_n 0, 1) := by decide +kernel
theorem dX3_copiedDepth_4 : decode cX3_copiedDepth 4 = .ok (.iload_n 1, 1) := by decide +kernel
theorem dX3_copiedDepth_5 : decode cX3_copiedDepth 5 = .ok (.imul, 1) := by decide +kernel
theorem dX3_copiedDepth_6 : decode cX3_copiedDepth 6 = .ok (.iconst 2, 1) := by decide +kernel
theorem dX3_copiedDepth_7 : decode cX3_copiedDepth 7 = .ok (.idiv, 1) := by decide +kernel
theorem dX3_copiedDepth_8 : decode cX3_copiedDepth 8 = .ok (.invokestatic 290, 3) := by decide +kernel
theorem dX3_copiedDepth_11 : decode cX3_copiedDepth 11 = .ok (.invokestatic 295, 3) := by decide +kernel
theorem dX3_copiedDepth_14 : decode cX3_copiedDepth 14 = .ok (.ireturn, 1) := by decide +kernel
set_option maxRecDepth 20000 in
theorem ggX3_copiedClearness_X3_bluntness : GoodIn wsX3_copiedClearness wsX3_bluntness := goodIn_r _ [8] (by decide +kernel) (by decide +kernel)
set_option maxRecDepth 20000 in
theorem gX3_copiedClearness_X3_bluntness : GoodIn wsX3_copiedClearness (va_wsS RX3 298 yX3_bluntness wsX3_bluntness) := goodIn_app (goodIn_of _ (by decide +kernel)) ggX3_copiedClearness_X3_bluntness
theorem dX3_copiedClearness_0 : decode cX3_copiedClearness 0 = .ok (.iload_n 1, 1) := by decide +kernel
theorem dX3_copiedClearness_1 : decode cX3_copiedClearness 1 = .ok (.iconst 1, 1) := by decide +kernel
theorem dX3_copiedClearness_2 : decode cX3_copiedClearness 2 = .ok (.if_icmp .ge 5, 3) := by decide +kernel
theorem dX3_copiedClearness_5 : decode cX3_copiedClearness 5 = .ok (.iconst 0, 1) := by decide +kernel
theorem dX3_copiedClearness_6 : decode cX3_copiedClearness 6 = .ok (.ireturn, 1) := by decide +kernel
theorem dX3_copiedClearness_7 : decode cX3_copiedClearness 7 = .ok (.iconst 0, 1) := by decide +kernel
theorem dX3_copiedClearness_8 : decode cX3_copiedClearness 8 = .ok (.iload_n 0, 1) := by decide +kernel
theorem dX3_copiedClearness_9 : decode cX3_copiedClearness 9 = .ok (.bipush 12, 2) := by decide +kernel
theorem dX3_copiedClearness_11 : decode cX3_copiedClearness 11 = .ok (.iload_n 1, 1) := by decide +kernel
theorem dX3_copiedClearness_12 : decode cX3_copiedClearness 12 = .ok (.idiv, 1) := by decide +kernel
theorem dX3_copiedClearness_13 : decode cX3_copiedClearness 13 = .ok (.isub, 1) := by decide +kernel
theorem dX3_copiedClearness_14 : decode cX3_copiedClearness 14 = .ok (.iload_n 2, 1) := by decide +kernel
theorem dX3_copiedClearness_15 : decode cX3_copiedClearness 15 = .ok (.invokestatic 298, 3) := by decide +kernel
theorem dX3_copiedClearness_18 : decode cX3_copiedClearness 18 = .ok (.isub, 1) := by decide +kernel
theorem dX3_copiedClearness_19 : decode cX3_copiedClearness 19 = .ok (.iload_n 3, 1) := by decide +kernel
theorem dX3_copiedClearness_20 : decode cX3_copiedClearness 20 = .ok (.isub, 1) := by decide +kernel
theorem dX3_copiedClearness_21 : decode cX3_copiedClearness 21 = .ok (.invokestatic 290, 3) := by decide +kernel
theorem dX3_copiedClearness_24 : decode cX3_copiedClearness 24 = .ok (.ireturn, 1) := by decide +kernel
set_option maxRecDepth 20000 in
theorem ggX3_clearestOfAllLevers_X3_copiedDepth : GoodIn wsX3_clearestOfAllLevers wsX3_copiedDepth := goodIn_r _ [8, 1, 2, 3, 4, 9, 10, 11] (by decide +kernel) (by decide +kernel)
set_option maxRecDepth 20000 in
theorem gX3_clearestOfAllLevers_X3_copiedDepth : GoodIn wsX3_clearestOfAllLevers (va_wsS RX3 301 yX3_copiedDepth wsX3_copiedDepth) := goodIn_app (goodIn_of _ (by decide +kernel)) ggX3_clearestOfAllLevers_X3_copiedDepth
set_option maxRecDepth 20000 in
theorem ggX3_clearestOfAllLevers_X3_copiedClearness : GoodIn wsX3_clearestOfAllLevers wsX3_copiedClearness := goodIn_r _ [14, 1, 2, 3, 4, 15, 16, 7, 17] (by decide +kernel) (by decide +kernel)
set_option maxRecDepth 20000 in
theorem gX3_clearestOfAllLevers_X3_copiedClearness : GoodIn wsX3_clearestOfAllLevers (va_wsS RX3 304 yX3_copiedClearness wsX3_copiedClearness) := goodIn_app (goodIn_of _ (by decide +kernel)) ggX3_clearestOfAllLevers_X3_copiedClearness
set_option maxRecDepth 20000 in
theorem ggX3_clearestOfAllLevers_X3_sharpnessAfter : GoodIn wsX3_clearestOfAllLevers wsX3_sharpnessAfter := goodIn_r _ [20, 1, 2, 3, 4] (by decide +kernel) (by decide +kernel)
set_option maxRecDepth 20000 in
theorem gX3_clearestOfAllLevers_X3_sharpnessAfter : GoodIn wsX3_clearestOfAllLevers (va_wsS RX3 307 yX3_sharpnessAfter wsX3_sharpnessAfter) := goodIn_app (goodIn_of _ (by decide +kernel)) ggX3_clearestOfAllLevers_X3_sharpnessAfter
set_option maxRecDepth 20000 in
theorem ggX3_clearestOfAllLevers_X3_clearestOfAllLevers : GoodIn wsX3_clearestOfAllLevers wsX3_clearestOfAllLevers := goodIn_r _ [0, 1, 2, 3, 4, 5, 6, 7, 8, 9, 10, 11, 12, 13, 14, 15, 16, 17, 18, 19, 20, 21, 22] (by decide +kernel) (by decide +kernel)
set_option maxRecDepth 20000 in
theorem gX3_clearestOfAllLevers_X3_clearestOfAllLevers : GoodIn wsX3_clearestOfAllLevers (va_wsS RX3 183 yX3_clearestOfAllLevers wsX3_clearestOfAllLevers) := goodIn_app (goodIn_of _ (by decide +kernel)) ggX3_clearestOfAllLevers_X3_clearestOfAllLevers
theorem dX3_clearestOfAllLevers_0 : decode cX3_clearestOfAllLevers 0 = .ok (.iload_n 0, 1) := by decide +kernel
theorem dX3_clearestOfAllLevers_1 : decode cX3_clearestOfAllLevers 1 = .ok (.ifCond .gt 5, 3) := by decide +kernel
theorem dX3_clearestOfAllLevers_4 : decode cX3_clearestOfAllLevers 4 = .ok (.iload_n 2, 1) := by decide +kernel
theorem dX3_clearestOfAllLevers_5 : decode cX3_clearestOfAllLevers 5 = .ok (.ireturn, 1) := by decide +kernel
theorem dX3_clearestOfAllLevers_6 : decode cX3_clearestOfAllLevers 6 = .ok (.iconst (-1), 1) := by decide +kernel
theorem dX3_clearestOfAllLevers_7 : decode cX3_clearestOfAllLevers 7 = .ok (.istore 4, 2) := by decide +kernel
theorem dX3_clearestOfAllLevers_9 : decode cX3_clearestOfAllLevers 9 = .ok (.iconst 1, 1) := by decide +kernel
theorem dX3_clearestOfAllLevers_10 : decode cX3_clearestOfAllLevers 10 = .ok (.istore 5, 2) := by decide +kernel
theorem dX3_clearestOfAllLevers_12 : decode cX3_clearestOfAllLevers 12 = .ok (.iload 5, 2) := by decide +kernel
theorem dX3_clearestOfAllLevers_14 : decode cX3_clearestOfAllLevers 14 = .ok (.iconst 3, 1) := by decide +kernel
theorem dX3_clearestOfAllLevers_15 : decode cX3_clearestOfAllLevers 15 = .ok (.if_icmp .gt 50, 3) := by decide +kernel
theorem dX3_clearestOfAllLevers_18 : decode cX3_clearestOfAllLevers 18 = .ok (.iload_n 1, 1) := by decide +kernel
theorem dX3_clearestOfAllLevers_19 : decode cX3_clearestOfAllLevers 19 = .ok (.iload 5, 2) := by decide +kernel
theorem dX3_clearestOfAllLevers_21 : decode cX3_clearestOfAllLevers 21 = .ok (.invokestatic 301, 3) := by decide +kernel
theorem dX3_clearestOfAllLevers_24 : decode cX3_clearestOfAllLevers 24 = .ok (.istore 6, 2) := by decide +kernel
theorem dX3_clearestOfAllLevers_26 : decode cX3_clearestOfAllLevers 26 = .ok (.iload_n 2, 1) := by decide +kernel
theorem dX3_clearestOfAllLevers_27 : decode cX3_clearestOfAllLevers 27 = .ok (.iload 5, 2) := by decide +kernel
theorem dX3_clearestOfAllLevers_29 : decode cX3_clearestOfAllLevers 29 = .ok (.iload_n 3, 1) := by decide +kernel
theorem dX3_clearestOfAllLevers_30 : decode cX3_clearestOfAllLevers 30 = .ok (.iconst 0, 1) := by decide +kernel
theorem dX3_clearestOfAllLevers_31 : decode cX3_clearestOfAllLevers 31 = .ok (.invokestatic 304, 3) := by decide +kernel
theorem dX3_clearestOfAllLevers_34 : decode cX3_clearestOfAllLevers 34 = .ok (.istore 7, 2) := by decide +kernel
theorem dX3_clearestOfAllLevers_36 : decode cX3_clearestOfAllLevers 36 = .ok (.iload 4, 2) := by decide +kernel
theorem dX3_clearestOfAllLevers_38 : decode cX3_clearestOfAllLevers 38 = .ok (.iload_n 0, 1) := by decide +kernel
theorem dX3_clearestOfAllLevers_39 : decode cX3_clearestOfAllLevers 39 = .ok (.iconst 1, 1) := by decide +kernel
theorem dX3_clearestOfAllLevers_40 : decode cX3_clearestOfAllLevers 40 = .ok (.isub, 1) := by decide +kernel
theorem dX3_clearestOfAllLevers_41 : decode cX3_clearestOfAllLevers 41 = .ok (.iload 6, 2) := by decide +kernel
theorem dX3_clearestOfAllLevers_43 : decode cX3_clearestOfAllLevers 43 = .ok (.iload 7, 2) := by decide +kernel
theorem dX3_clearestOfAllLevers_45 : decode cX3_clearestOfAllLevers 45 = .ok (.iload_n 3, 1) := by decide +kernel
theorem dX3_clearestOfAllLevers_46 : decode cX3_clearestOfAllLevers 46 = .ok (.iload 6, 2) := by decide +kernel
theorem dX3_clearestOfAllLevers_48 : decode cX3_clearestOfAllLevers 48 = .ok (.invokestatic 307, 3) := by decide +kernel
theorem dX3_clearestOfAllLevers_51 : decode cX3_clearestOfAllLevers 51 = .ok (.invokestatic 183, 3) := by decide +kernel
theorem dX3_clearestOfAllLevers_54 : decode cX3_clearestOfAllLevers 54 = .ok (.invokestatic 290, 3) := by decide +kernel
theorem dX3_clearestOfAllLevers_57 : decode cX3_clearestOfAllLevers 57 = .ok (.istore 4, 2) := by decide +kernel
theorem dX3_clearestOfAllLevers_59 : decode cX3_clearestOfAllLevers 59 = .ok (.iinc 5 1, 3) := by decide +kernel
theorem dX3_clearestOfAllLevers_62 : decode cX3_clearestOfAllLevers 62 = .ok (.goto (-50), 3) := by decide +kernel
theorem dX3_clearestOfAllLevers_65 : decode cX3_clearestOfAllLevers 65 = .ok (.iload 4, 2) := by decide +kernel
theorem dX3_clearestOfAllLevers_67 : decode cX3_clearestOfAllLevers 67 = .ok (.ireturn, 1) := by decide +kernel
