set_option maxRecDepth 20000 in
theorem ggL_act_L_low : GoodIn wsL_act wsL_low := goodIn_r _ [4, 5] (by decide +kernel) (by decide +kernel)
set_option maxRecDepth 20000 in
theorem gL_act_L_low : GoodIn wsL_act (va_wsS RL 66 yL_low wsL_low) := goodIn_app (goodIn_of _ (by decide +kernel)) ggL_act_L_low
set_option maxRecDepth 20000 in
theorem ggL_act_L_speak : GoodIn wsL_act wsL_speak := goodIn_ca (goodIn_ca (goodIn_r _ [8, 9, 10, 11, 12, 13, 14, 15, 16, 17, 18, 19, 20, 21, 22, 23, 24, 25, 26, 27, 28, 29, 30, 31, 32, 33, 34, 35, 36, 37, 38, 39, 40, 41, 42, 43, 44, 45, 46, 47, 48, 49, 50, 51, 52, 53, 54, 55, 56, 57, 58, 59, 60, 61, 62, 63, 64, 65, 66, 67, 68, 69, 70, 71, 72, 73, 74, 75, 76, 77, 78, 79, 80, 81, 82, 83, 84, 85, 86, 87, 88, 89, 90, 91, 92, 93, 94, 95, 96, 199, 200, 201, 202, 203, 204, 205, 206, 207, 208, 209, 210, 211, 212, 213, 214, 215, 216, 217, 218, 219, 220, 221, 222, 223, 224] (by decide +kernel) (by decide +kernel)) (goodIn_sub (fun _ h => List.mem_cons_of_mem _ (List.mem_append_left _ (List.mem_append_right _ h))) (by decide +kernel))) (goodIn_sub (fun _ h => List.mem_cons_of_mem _ (List.mem_append_right _ h)) (by decide +kernel))
set_option maxRecDepth 20000 in
theorem gL_act_L_speak : GoodIn wsL_act (va_wsS RL 71 yL_speak wsL_speak) := goodIn_app (goodIn_of _ (by decide +kernel)) ggL_act_L_speak
set_option maxRecDepth 20000 in
theorem ggL_act_L_copy : GoodIn wsL_act wsL_copy := goodIn_ca (goodIn_ca (goodIn_r _ [99, 9, 10, 11, 12, 100, 101, 102, 16, 103, 18, 19, 20, 21, 22, 23, 24, 104, 105, 106, 107, 29, 30, 31, 32, 33, 34, 35, 36, 37, 38, 39, 40, 41, 42, 43, 44, 45, 46, 47, 48, 49, 50, 51, 52, 53, 54, 55, 56, 57, 58, 59, 60, 61, 62, 63, 64, 65, 66, 67, 68, 108, 109, 110, 111, 112, 113, 95, 114, 115, 116, 117, 118, 77, 78, 79, 80, 119, 120, 93, 94, 96, 121, 83, 84, 85, 86, 122, 123, 124, 125, 126, 127, 128, 81, 82, 87, 88, 89, 90, 91, 92, 199, 200, 201, 202, 203, 204, 205, 206, 207, 208, 209, 210, 211, 212, 213, 214, 215, 216, 217, 218, 219, 220, 221, 222, 223, 224] (by decide +kernel) (by decide +kernel)) (goodIn_sub (fun _ h => List.mem_cons_of_mem _ (List.mem_append_left _ (List.mem_append_right _ h))) (by decide +kernel))) (goodIn_sub (fun _ h => List.mem_cons_of_mem _ (List.mem_append_right _ h)) (by decide +kernel))
set_option maxRecDepth 20000 in
theorem gL_act_L_copy : GoodIn wsL_act (va_wsS RL 74 yL_copy wsL_copy) := goodIn_app (goodIn_of _ (by decide +kernel)) ggL_act_L_copy
set_option maxRecDepth 20000 in
theorem ggL_act_L_play : GoodIn wsL_act wsL_play := goodIn_ca (goodIn_r _ [131, 9, 11, 132, 133, 134, 16, 135, 18, 19, 20, 21, 22, 23, 24, 31, 32, 33, 34, 35, 36, 37, 38, 39, 40, 41, 42, 43, 44, 45, 46, 47, 48, 49, 50, 51, 52, 53, 54, 55, 56, 57, 58, 59, 60, 61, 62, 63, 64, 65, 66, 67, 68, 136, 137, 138, 139, 140, 94, 95, 96, 77, 78, 79, 80, 199, 200, 201, 202, 203, 204, 205, 206, 207, 208, 209, 210, 211, 212, 213, 214, 215, 216, 217, 218, 219, 220, 221, 222, 223, 224] (by decide +kernel) (by decide +kernel)) (goodIn_sub (fun _ h => List.mem_cons_of_mem _ (List.mem_append_left _ (List.mem_append_right _ h))) (by decide +kernel))
set_option maxRecDepth 20000 in
theorem gL_act_L_play : GoodIn wsL_act (va_wsS RL 77 yL_play wsL_play) := goodIn_app (goodIn_of _ (by decide +kernel)) ggL_act_L_play
set_option maxRecDepth 20000 in
theorem ggL_act_L_shave : GoodIn wsL_act wsL_shave := goodIn_ca (goodIn_r _ [143, 9, 11, 144, 145, 146, 16, 147, 18, 148, 149, 150, 151, 23, 24, 31, 32, 33, 34, 35, 36, 37, 38, 39, 40, 41, 42, 43, 44, 45, 46, 47, 48, 49, 50, 51, 52, 53, 54, 55, 56, 57, 58, 59, 60, 61, 62, 63, 64, 65, 66, 67, 68, 152, 153, 154, 155, 156, 157, 158, 159, 140, 94, 95, 96, 160, 161, 162, 163, 199, 200, 201, 202, 203, 204, 205, 206, 207, 208, 209, 210, 211, 212, 213, 214, 215, 216, 217, 218, 219, 220, 221, 222, 223, 224] (by decide +kernel) (by decide +kernel)) (goodIn_sub (fun _ h => List.mem_cons_of_mem _ (List.mem_append_left _ (List.mem_append_right _ h))) (by decide +kernel))
set_option maxRecDepth 20000 in
theorem gL_act_L_shave : GoodIn wsL_act (va_wsS RL 80 yL_shave wsL_shave) := goodIn_app (goodIn_of _ (by decide +kernel)) ggL_act_L_shave
set_option maxRecDepth 20000 in
theorem ggL_act_L_set : GoodIn wsL_act wsL_set := goodIn_ca (goodIn_r _ [166, 10, 11, 167, 168, 169, 16, 170, 29, 30, 18, 171, 31, 32, 33, 34, 35, 36, 37, 38, 39, 40, 41, 42, 43, 44, 45, 46, 47, 48, 49, 50, 51, 52, 53, 54, 55, 56, 57, 58, 59, 60, 61, 62, 63, 64, 65, 66, 67, 68, 199, 200, 201, 202, 203, 204, 205, 206, 207, 208, 209, 210, 211, 212, 213, 214, 215, 216, 217, 218, 219, 220, 221, 222, 223, 224] (by decide +kernel) (by decide +kernel)) (goodIn_sub (fun _ h => List.mem_cons_of_mem _ (List.mem_append_right _ h)) (by decide +kernel))
set_option maxRecDepth 20000 in
theorem gL_act_L_set : GoodIn wsL_act (va_wsS RL 82 yL_set wsL_set) := goodIn_app (goodIn_of _ (by decide +kernel)) ggL_act_L_set
set_option maxRecDepth 20000 in
theorem ggL_act_L_renew : GoodIn wsL_act wsL_renew := goodIn_ca (goodIn_ca (goodIn_r _ [174, 9, 10, 11, 12, 175, 176, 177, 16, 178, 29, 30, 18, 148, 149, 150, 151, 23, 24, 31, 32, 33, 34, 35, 36, 37, 38, 39, 40, 41, 42, 43, 44, 45, 46, 47, 48, 49, 50, 51, 52, 53, 54, 55, 56, 57, 58, 59, 60, 61, 62, 63, 64, 65, 66, 67, 68, 179, 180, 181, 182, 160, 161, 162, 163, 199, 200, 201, 202, 203, 204, 205, 206, 207, 208, 209, 210, 211, 212, 213, 214, 215, 216, 217, 218, 219, 220, 221, 222, 223, 224] (by decide +kernel) (by decide +kernel)) (goodIn_sub (fun _ h => List.mem_cons_of_mem _ (List.mem_append_right _ h)) (by decide +kernel))) (goodIn_sub (fun _ h => List.mem_cons_of_mem _ (List.mem_append_left _ (List.mem_append_right _ h))) (by decide +kernel))
set_option maxRecDepth 20000 in
theorem gL_act_L_renew : GoodIn wsL_act (va_wsS RL 84 yL_renew wsL_renew) := goodIn_app (goodIn_of _ (by decide +kernel)) ggL_act_L_renew
set_option maxRecDepth 20000 in
theorem ggL_act_X3_sharpen : GoodIn wsL_act wsX3_sharpen := goodIn_r _ [186, 18, 31, 32, 33, 16, 34, 35, 36, 37, 38, 39, 40, 41, 42, 43, 44, 45, 46, 47, 48, 49, 50, 51, 52, 53, 54, 55, 56, 57, 58, 59, 60, 61, 62, 63, 64, 65, 66, 67, 68, 187, 188, 189, 190, 199, 200, 201, 202, 203, 204, 205, 206, 207, 208, 209, 210, 211, 212, 213, 214, 215, 216, 217, 218, 219, 220, 221, 222, 223, 224] (by decide +kernel) (by decide +kernel)
set_option maxRecDepth 20000 in
theorem gL_act_X3_sharpen : GoodIn wsL_act (wsV RL 86 RX3 yX3_sharpen wsX3_sharpen) := goodIn_app (goodIn_of _ (by decide +kernel)) ggL_act_X3_sharpen
set_option maxRecDepth 20000 in
theorem ggL_act_X3_wind : GoodIn wsL_act wsX3_wind := goodIn_r _ [194, 18, 31, 32, 33, 16, 34, 35, 36, 37, 38, 39, 40, 41, 42, 43, 44, 45, 46, 47, 48, 49, 50, 51, 52, 53, 54, 55, 56, 57, 58, 59, 60, 61, 62, 63, 64, 65, 66, 67, 68, 195, 196, 197, 198, 199, 200, 201, 202, 203, 204, 205, 206, 207, 208, 209, 210, 211, 212, 213, 214, 215, 216, 217, 218, 219, 220, 221, 222, 223, 224] (by decide +kernel) (by decide +kernel)
set_option maxRecDepth 20000 in
theorem gL_act_X3_wind : GoodIn wsL_act (wsV RL 89 RX3 yX3_wind wsX3_wind) := goodIn_app (goodIn_of _ (by decide +kernel)) ggL_act_X3_wind
theorem dL_act_0 : decode cL_act 0 = .ok (.iload_n 1, 1) := by decide +kernel
theorem dL_act_1 : decode cL_act 1 = .ok (.iconst 4, 1) := by decide +kernel
theorem dL_act_2 : decode cL_act 2 = .ok (.ishr, 1) := by decide +kernel
theorem dL_act_3 : decode cL_act 3 = .ok (.iload_n 1, 1) := by decide +kernel
theorem dL_act_4 : decode cL_act 4 = .ok (.bipush 12, 2) := by decide +kernel
theorem dL_act_6 : decode cL_act 6 = .ok (.ishr, 1) := by decide +kernel
theorem dL_act_7 : decode cL_act 7 = .ok (.iconst 2, 1) := by decide +kernel
theorem dL_act_8 : decode cL_act 8 = .ok (.invokestatic 66, 3) := by decide +kernel
theorem dL_act_11 : decode cL_act 11 = .ok (.ifCond .ne 8, 3) := by decide +kernel
theorem dL_act_14 : decode cL_act 14 = .ok (.bipush 24, 2) := by decide +kernel
theorem dL_act_16 : decode cL_act 16 = .ok (.goto 5, 3) := by decide +kernel
theorem dL_act_19 : decode cL_act 19 = .ok (.bipush 9, 2) := by decide +kernel
theorem dL_act_21 : decode cL_act 21 = .ok (.invokestatic 66, 3) := by decide +kernel
theorem dL_act_24 : decode cL_act 24 = .ok (.istore_n 3, 1) := by decide +kernel
theorem dL_act_25 : decode cL_act 25 = .ok (.iload_n 1, 1) := by decide +kernel
theorem dL_act_26 : decode cL_act 26 = .ok (.bipush 8, 2) := by decide +kernel
theorem dL_act_28 : decode cL_act 28 = .ok (.ishr, 1) := by decide +kernel
theorem dL_act_29 : decode cL_act 29 = .ok (.bipush 24, 2) := by decide +kernel
theorem dL_act_31 : decode cL_act 31 = .ok (.invokestatic 66, 3) := by decide +kernel
theorem dL_act_34 : decode cL_act 34 = .ok (.istore 4, 2) := by decide +kernel
theorem dL_act_36 : decode cL_act 36 = .ok (.iload_n 1, 1) := by decide +kernel
theorem dL_act_37 : decode cL_act 37 = .ok (.bipush 13, 2) := by decide +kernel
theorem dL_act_39 : decode cL_act 39 = .ok (.invokestatic 66, 3) := by decide +kernel
theorem dL_act_42 : decode cL_act 42 = .ok (.tableswitch 161 0 9 #[54, 54, 54, 68, 68, 68, 68, 83, 89, 125], 54) := by decide +kernel
theorem dL_act_96 : decode cL_act 96 = .ok (.aload_n 0, 1) := by decide +kernel
theorem dL_act_97 : decode cL_act 97 = .ok (.iload_n 3, 1) := by decide +kernel
theorem dL_act_98 : decode cL_act 98 = .ok (.iconst 1, 1) := by decide +kernel
theorem dL_act_99 : decode cL_act 99 = .ok (.iload_n 2, 1) := by decide +kernel
theorem dL_act_100 : decode cL_act 100 = .ok (.bipush 9, 2) := by decide +kernel
theorem dL_act_102 : decode cL_act 102 = .ok (.invokestatic 66, 3) := by decide +kernel
theorem dL_act_105 : decode cL_act 105 = .ok (.iadd, 1) := by decide +kernel
theorem dL_act_106 : decode cL_act 106 = .ok (.invokestatic 71, 3) := by decide +kernel
theorem dL_act_109 : decode cL_act 109 = .ok (.ireturn, 1) := by decide +kernel
theorem dL_act_110 : decode cL_act 110 = .ok (.aload_n 0, 1) := by decide +kernel
theorem dL_act_111 : decode cL_act 111 = .ok (.iload_n 3, 1) := by decide +kernel
theorem dL_act_112 : decode cL_act 112 = .ok (.iload 4, 2) := by decide +kernel
theorem dL_act_114 : decode cL_act 114 = .ok (.iconst 1, 1) := by decide +kernel
theorem dL_act_115 : decode cL_act 115 = .ok (.iload_n 2, 1) := by decide +kernel
theorem dL_act_116 : decode cL_act 116 = .ok (.iconst 3, 1) := by decide +kernel
theorem dL_act_117 : decode cL_act 117 = .ok (.invokestatic 66, 3) := by decide +kernel
theorem dL_act_120 : decode cL_act 120 = .ok (.iadd, 1) := by decide +kernel
theorem dL_act_121 : decode cL_act 121 = .ok (.invokestatic 74, 3) := by decide +kernel
theorem dL_act_124 : decode cL_act 124 = .ok (.ireturn, 1) := by decide +kernel
theorem dL_act_125 : decode cL_act 125 = .ok (.aload_n 0, 1) := by decide +kernel
theorem dL_act_126 : decode cL_act 126 = .ok (.iload_n 3, 1) := by decide +kernel
theorem dL_act_127 : decode cL_act 127 = .ok (.invokestatic 77, 3) := by decide +kernel
theorem dL_act_130 : decode cL_act 130 = .ok (.ireturn, 1) := by decide +kernel
theorem dL_act_131 : decode cL_act 131 = .ok (.iload_n 2, 1) := by decide +kernel
theorem dL_act_132 : decode cL_act 132 = .ok (.iconst 2, 1) := by decide +kernel
theorem dL_act_133 : decode cL_act 133 = .ok (.invokestatic 66, 3) := by decide +kernel
theorem dL_act_136 : decode cL_act 136 = .ok (.ifCond .ne 18, 3) := by decide +kernel
theorem dL_act_139 : decode cL_act 139 = .ok (.aload_n 0, 1) := by decide +kernel
theorem dL_act_140 : decode cL_act 140 = .ok (.iload_n 2, 1) := by decide +kernel
theorem dL_act_141 : decode cL_act 141 = .ok (.iconst 1, 1) := by decide +kernel
theorem dL_act_142 : decode cL_act 142 = .ok (.ishr, 1) := by decide +kernel
theorem dL_act_143 : decode cL_act 143 = .ok (.bipush 6, 2) := by decide +kernel
theorem dL_act_145 : decode cL_act 145 = .ok (.invokestatic 66, 3) := by decide +kernel
theorem dL_act_148 : decode cL_act 148 = .ok (.invokestatic 80, 3) := by decide +kernel
theorem dL_act_151 : decode cL_act 151 = .ok (.goto 15, 3) := by decide +kernel
theorem dL_act_154 : decode cL_act 154 = .ok (.aload_n 0, 1) := by decide +kernel
theorem dL_act_155 : decode cL_act 155 = .ok (.iload_n 2, 1) := by decide +kernel
theorem dL_act_156 : decode cL_act 156 = .ok (.iconst 1, 1) := by decide +kernel
theorem dL_act_157 : decode cL_act 157 = .ok (.ishr, 1) := by decide +kernel
theorem dL_act_158 : decode cL_act 158 = .ok (.bipush 21, 2) := by decide +kernel
theorem dL_act_160 : decode cL_act 160 = .ok (.invokestatic 66, 3) := by decide +kernel
theorem dL_act_163 : decode cL_act 163 = .ok (.invokestatic 82, 3) := by decide +kernel
theorem dL_act_166 : decode cL_act 166 = .ok (.ireturn, 1) := by decide +kernel
theorem dL_act_167 : decode cL_act 167 = .ok (.iload_n 2, 1) := by decide +kernel
theorem dL_act_168 : decode cL_act 168 = .ok (.iconst 2, 1) := by decide +kernel
theorem dL_act_169 : decode cL_act 169 = .ok (.invokestatic 66, 3) := by decide +kernel
theorem dL_act_172 : decode cL_act 172 = .ok (.ifCond .ne 26, 3) := by decide +kernel
theorem dL_act_175 : decode cL_act 175 = .ok (.aload_n 0, 1) := by decide +kernel
theorem dL_act_176 : decode cL_act 176 = .ok (.iload_n 2, 1) := by decide +kernel
theorem dL_act_177 : decode cL_act 177 = .ok (.iconst 1, 1) := by decide +kernel
theorem dL_act_178 : decode cL_act 178 = .ok (.ishr, 1) := by decide +kernel
theorem dL_act_179 : decode cL_act 179 = .ok (.bipush 6, 2) := by decide +kernel
theorem dL_act_181 : decode cL_act 181 = .ok (.invokestatic 66, 3) := by decide +kernel
theorem dL_act_184 : decode cL_act 184 = .ok (.iload_n 2, 1) := by decide +kernel
theorem dL_act_185 : decode cL_act 185 = .ok (.iconst 4, 1) := by decide +kernel
theorem dL_act_186 : decode cL_act 186 = .ok (.ishr, 1) := by decide +kernel
theorem dL_act_187 : decode cL_act 187 = .ok (.bipush 50, 2) := by decide +kernel
theorem dL_act_189 : decode cL_act 189 = .ok (.invokestatic 66, 3) := by decide +kernel
theorem dL_act_192 : decode cL_act 192 = .ok (.invokestatic 84, 3) := by decide +kernel
theorem dL_act_195 : decode cL_act 195 = .ok (.goto 7, 3) := by decide +kernel
theorem dL_act_198 : decode cL_act 198 = .ok (.aload_n 0, 1) := by decide +kernel
theorem dL_act_199 : decode cL_act 199 = .ok (.invokevirtual 86, 3) := by decide +kernel
theorem dL_act_202 : decode cL_act 202 = .ok (.ireturn, 1) := by decide +kernel
theorem dL_act_203 : decode cL_act 203 = .ok (.aload_n 0, 1) := by decide +kernel
theorem dL_act_204 : decode cL_act 204 = .ok (.invokevirtual 89, 3) := by decide +kernel
theorem dL_act_207 : decode cL_act 207 = .ok (.ireturn, 1) := by decide +kernel
set_option maxRecDepth 20000 in
theorem ggL_track_L_trackOf : GoodIn wsL_track wsL_trackOf := goodIn_ca (goodIn_ca (goodIn_r _ [4, 5, 6, 7, 8, 9, 10, 11, 12, 13, 14, 15, 16, 17, 18, 19, 20, 21, 22, 23, 24, 25, 26, 27, 28, 29, 30, 31, 32, 33, 34, 35, 36, 37, 38, 39, 40, 41, 42, 142, 143, 144, 145, 146, 147, 148, 149, 150, 151, 152, 153, 154, 155, 156, 157, 158, 159, 160, 161, 162, 163, 164, 165, 166, 167] (by decide +kernel) (by decide +kernel)) (goodIn_sub (fun _ h => List.mem_cons_of_mem _ (List.mem_append_left _ (List.mem_append_right _ h))) (by decide +kernel))) (goodIn_sub (fun _ h => List.mem_cons_of_mem _ (List.mem_append_right _ h)) (by decide +kernel))
set_option maxRecDepth 20000 in
theorem gL_track_L_trackOf : GoodIn wsL_track (va_wsS RL 92 yL_trackOf wsL_trackOf) := goodIn_app (goodIn_of _ (by decide +kernel)) ggL_track_L_trackOf
set_option maxRecDepth 20000 in
theorem ggL_track_L_chain : GoodIn wsL_track wsL_chain := goodIn_ca (goodIn_ca (goodIn_r _ [45, 5, 6, 7, 8, 46, 47, 48, 12, 49, 25, 26, 14, 50, 51, 52, 53, 15, 16, 17, 18, 19, 20, 21, 22, 23, 24, 54, 40, 41, 30, 42, 32, 55, 56, 57, 58, 59, 60, 61, 62, 63, 64, 65, 66, 67, 68, 69, 70, 71, 72, 73, 74, 75, 76, 77, 78, 79, 80, 81, 82, 83, 84, 85, 86, 87, 88, 89, 90, 91, 92, 93, 94, 95, 142, 143, 144, 145, 146, 147, 148, 149, 150, 151, 152, 153, 154, 155, 156, 157, 158, 159, 160, 161, 162, 163, 164, 165, 166, 167, 168, 169] (by decide +kernel) (by decide +kernel)) (goodIn_sub (fun _ h => List.mem_cons_of_mem _ (List.mem_append_right _ h)) (by decide +kernel))) (goodIn_sub (fun _ h => List.mem_cons_of_mem _ (List.mem_append_left _ (List.mem_append_right _ h))) (by decide +kernel))
set_option maxRecDepth 20000 in
theorem gL_track_L_chain : GoodIn wsL_track (va_wsS RL 94 yL_chain wsL_chain) := goodIn_app (goodIn_of _ (by decide +kernel)) ggL_track_L_chain
set_option maxRecDepth 20000 in
theorem ggL_track_L_whyNot : GoodIn wsL_track wsL_whyNot := goodIn_ca (goodIn_ca (goodIn_r _ [98, 5, 6, 7, 8, 99, 100, 101, 12, 102, 14, 15, 16, 17, 18, 19, 20, 103, 104, 105, 106, 25, 26, 107, 108, 109, 30, 110, 111, 112, 39, 40, 41, 42, 32, 142, 143, 144, 145, 146, 147, 148, 149, 150, 151, 152, 153, 154, 155, 156, 157, 158, 159, 160, 161, 162, 163, 164, 165, 166, 167] (by decide +kernel) (by decide +kernel)) (goodIn_sub (fun _ h => List.mem_cons_of_mem _ (List.mem_append_left _ (List.mem_append_right _ h))) (by decide +kernel))) (goodIn_sub (fun _ h => List.mem_cons_of_mem _ (List.mem_append_right _ h)) (by decide +kernel))
set_option maxRecDepth 20000 in
theorem gL_track_L_whyNot : GoodIn wsL_track (va_wsS RL 96 yL_whyNot wsL_whyNot) := goodIn_app (goodIn_of _ (by decide +kernel)) ggL_track_L_whyNot
set_option maxRecDepth 20000 in
theorem ggL_track_L_cylinderOf : GoodIn wsL_track wsL_cylinderOf := goodIn_ca (goodIn_ca (goodIn_r _ [115, 5, 6, 7, 8, 116, 117, 118, 12, 119, 14, 120, 121, 122, 123, 19, 20, 21, 22, 23, 24, 25, 26, 124, 125, 126, 30, 127, 111, 128, 129, 130, 131, 132, 39, 40, 41, 42, 32, 133, 134, 135, 136, 137, 68, 69, 70, 138, 139, 140, 141, 33, 142, 143, 144, 145, 146, 147, 148, 149, 150, 151, 152, 153, 154, 155, 156, 157, 158, 159, 160, 161, 162, 163, 164, 165, 166, 167] (by decide +kernel) (by decide +kernel)) (goodIn_sub (fun _ h => List.mem_cons_of_mem _ (List.mem_append_left _ (List.mem_append_right _ h))) (by decide +kernel))) (goodIn_sub (fun _ h => List.mem_cons_of_mem _ (List.mem_append_right _ h)) (by decide +kernel))
set_option maxRecDepth 20000 in
theorem gL_track_L_cylinderOf : GoodIn wsL_track (va_wsS RL 98 yL_cylinderOf wsL_cylinderOf) := goodIn_app (goodIn_of _ (by decide +kernel)) ggL_track_L_cylinderOf
theorem dL_track_0 : decode cL_track 0 = .ok (.aload_n 0, 1) := by decide +kernel
theorem dL_track_1 : decode cL_track 1 = .ok (.iload_n 1, 1) := by decide +kernel
theorem dL_track_2 : decode cL_track 2 = .ok (.iconst 0, 1) := by decide +kernel
theorem dL_track_3 : decode cL_track 3 = .ok (.invokestatic 92, 3) := by decide +kernel
theorem dL_track_6 : decode cL_track 6 = .ok (.istore_n 2, 1) := by decide +kernel
theorem dL_track_7 : decode cL_track 7 = .ok (.iload_n 2, 1) := by decide +kernel
theorem dL_track_8 : decode cL_track 8 = .ok (.ifCond .ne 67, 3) := by decide +kernel
theorem dL_track_11 : decode cL_track 11 = .ok (.iconst 1, 1) := by decide +kernel
theorem dL_track_12 : decode cL_track 12 = .ok (.istore_n 3, 1) := by decide +kernel
theorem dL_track_13 : decode cL_track 13 = .ok (.iload_n 3, 1) := by decide +kernel
theorem dL_track_14 : decode cL_track 14 = .ok (.bipush 7, 2) := by decide +kernel
theorem dL_track_16 : decode cL_track 16 = .ok (.if_icmp .ge 21, 3) := by decide +kernel
theorem dL_track_19 : decode cL_track 19 = .ok (.aload_n 0, 1) := by decide +kernel
theorem dL_track_20 : decode cL_track 20 = .ok (.iload_n 1, 1) := by decide +kernel
theorem dL_track_21 : decode cL_track 21 = .ok (.iload_n 3, 1) := by decide +kernel
theorem dL_track_22 : decode cL_track 22 = .ok (.invokestatic 92, 3) := by decide +kernel
theorem dL_track_25 : decode cL_track 25 = .ok (.iconst (-1), 1) := by decide +kernel
theorem dL_track_26 : decode cL_track 26 = .ok (.if_icmp .eq 5, 3) := by decide +kernel
theorem dL_track_29 : decode cL_track 29 = .ok (.iconst 0, 1) := by decide +kernel
theorem dL_track_30 : decode cL_track 30 = .ok (.ireturn, 1) := by decide +kernel
theorem dL_track_31 : decode cL_track 31 = .ok (.iinc 3 1, 3) := by decide +kernel
theorem dL_track_34 : decode cL_track 34 = .ok (.goto (-21), 3) := by decide +kernel
theorem dL_track_37 : decode cL_track 37 = .ok (.aload_n 0, 1) := by decide +kernel
theorem dL_track_38 : decode cL_track 38 = .ok (.iload_n 1, 1) := by decide +kernel
theorem dL_track_39 : decode cL_track 39 = .ok (.iconst 1, 1) := by decide +kernel
theorem dL_track_40 : decode cL_track 40 = .ok (.iconst 0, 1) := by decide +kernel
theorem dL_track_41 : decode cL_track 41 = .ok (.invokestatic 94, 3) := by decide +kernel
theorem dL_track_44 : decode cL_track 44 = .ok (.iconst (-1), 1) := by decide +kernel
theorem dL_track_45 : decode cL_track 45 = .ok (.if_icmp .ne 28, 3) := by decide +kernel
theorem dL_track_48 : decode cL_track 48 = .ok (.aload_n 0, 1) := by decide +kernel
theorem dL_track_49 : decode cL_track 49 = .ok (.iload_n 1, 1) := by decide +kernel
theorem dL_track_50 : decode cL_track 50 = .ok (.iconst 5, 1) := by decide +kernel
theorem dL_track_51 : decode cL_track 51 = .ok (.iconst 1, 1) := by decide +kernel
theorem dL_track_52 : decode cL_track 52 = .ok (.invokestatic 94, 3) := by decide +kernel
theorem dL_track_55 : decode cL_track 55 = .ok (.iconst (-1), 1) := by decide +kernel
theorem dL_track_56 : decode cL_track 56 = .ok (.if_icmp .ne 17, 3) := by decide +kernel
theorem dL_track_59 : decode cL_track 59 = .ok (.aload_n 0, 1) := by decide +kernel
theorem dL_track_60 : decode cL_track 60 = .ok (.iload_n 1, 1) := by decide +kernel
theorem dL_track_61 : decode cL_track 61 = .ok (.iconst 1, 1) := by decide +kernel
theorem dL_track_62 : decode cL_track 62 = .ok (.invokestatic 96, 3) := by decide +kernel
theorem dL_track_65 : decode cL_track 65 = .ok (.iconst 1, 1) := by decide +kernel
theorem dL_track_66 : decode cL_track 66 = .ok (.if_icmp .eq 7, 3) := by decide +kernel
theorem dL_track_69 : decode cL_track 69 = .ok (.iconst 1, 1) := by decide +kernel
theorem dL_track_70 : decode cL_track 70 = .ok (.goto 4, 3) := by decide +kernel
theorem dL_track_73 : decode cL_track 73 = .ok (.iconst 0, 1) := by decide +kernel
theorem dL_track_74 : decode cL_track 74 = .ok (.ireturn, 1) := by decide +kernel
theorem dL_track_75 : decode cL_track 75 = .ok (.aload_n 0, 1) := by decide +kernel
theorem dL_track_76 : decode cL_track 76 = .ok (.iload_n 1, 1) := by decide +kernel
theorem dL_track_77 : decode cL_track 77 = .ok (.iconst 1, 1) := by decide +kernel
theorem dL_track_78 : decode cL_track 78 = .ok (.invokestatic 92, 3) := by decide +kernel
theorem dL_track_81 : decode cL_track 81 = .ok (.istore_n 3, 1) := by decide +kernel
theorem dL_track_82 : decode cL_track 82 = .ok (.aload_n 0, 1) := by decide +kernel
theorem dL_track_83 : decode cL_track 83 = .ok (.iload_n 1, 1) := by decide +kernel
theorem dL_track_84 : decode cL_track 84 = .ok (.iconst 4, 1) := by decide +kernel
theorem dL_track_85 : decode cL_track 85 = .ok (.invokestatic 92, 3) := by decide +kernel
theorem dL_track_88 : decode cL_track 88 = .ok (.istore 4, 2) := by decide +kernel
theorem dL_track_90 : decode cL_track 90 = .ok (.aload_n 0, 1) := by decide +kernel
theorem dL_track_91 : decode cL_track 91 = .ok (.iload_n 1, 1) := by decide +kernel
theorem dL_track_92 : decode cL_track 92 = .ok (.iconst 3, 1) := by decide +kernel
theorem dL_track_93 : decode cL_track 93 = .ok (.invokestatic 92, 3) := by decide +kernel
theorem dL_track_96 : decode cL_track 96 = .ok (.istore 5, 2) := by decide +kernel
theorem dL_track_98 : decode cL_track 98 = .ok (.iload_n 2, 1) := by decide +kernel
theorem dL_track_99 : decode cL_track 99 = .ok (.ifCond .le 130, 3) := by decide +kernel
theorem dL_track_102 : decode cL_track 102 = .ok (.iload_n 2, 1) := by decide +kernel
theorem dL_track_103 : decode cL_track 103 = .ok (.bipush 10, 2) := by decide +kernel
theorem dL_track_105 : decode cL_track 105 = .ok (.if_icmp .ge 124, 3) := by decide +kernel
theorem dL_track_108 : decode cL_track 108 = .ok (.iload_n 3, 1) := by decide +kernel
theorem dL_track_109 : decode cL_track 109 = .ok (.ifCond .lt 120, 3) := by decide +kernel
theorem dL_track_112 : decode cL_track 112 = .ok (.iload_n 3, 1) := by decide +kernel
theorem dL_track_113 : decode cL_track 113 = .ok (.aload_n 0, 1) := by decide +kernel
theorem dL_track_114 : decode cL_track 114 = .ok (.iload_n 1, 1) := by decide +kernel
theorem dL_track_115 : decode cL_track 115 = .ok (.iconst 5, 1) := by decide +kernel
theorem dL_track_116 : decode cL_track 116 = .ok (.invokestatic 92, 3) := by decide +kernel
theorem dL_track_119 : decode cL_track 119 = .ok (.if_icmp .gt 110, 3) := by decide +kernel
theorem dL_track_122 : decode cL_track 122 = .ok (.aload_n 0, 1) := by decide +kernel
theorem dL_track_123 : decode cL_track 123 = .ok (.iload_n 1, 1) := by decide +kernel
theorem dL_track_124 : decode cL_track 124 = .ok (.iconst 5, 1) := by decide +kernel
theorem dL_track_125 : decode cL_track 125 = .ok (.invokestatic 92, 3) := by decide +kernel
theorem dL_track_128 : decode cL_track 128 = .ok (.bipush 100, 2) := by decide +kernel
theorem dL_track_130 : decode cL_track 130 = .ok (.if_icmp .gt 99, 3) := by decide +kernel
theorem dL_track_133 : decode cL_track 133 = .ok (.aload_n 0, 1) := by decide +kernel
theorem dL_track_134 : decode cL_track 134 = .ok (.iload_n 1, 1) := by decide +kernel
theorem dL_track_135 : decode cL_track 135 = .ok (.iconst 2, 1) := by decide +kernel
theorem dL_track_136 : decode cL_track 136 = .ok (.invokestatic 92, 3) := by decide +kernel
theorem dL_track_139 : decode cL_track 139 = .ok (.ifCond .lt 90, 3) := by decide +kernel
theorem dL_track_142 : decode cL_track 142 = .ok (.aload_n 0, 1) := by decide +kernel
theorem dL_track_143 : decode cL_track 143 = .ok (.iload_n 1, 1) := by decide +kernel
theorem dL_track_144 : decode cL_track 144 = .ok (.iconst 2, 1) := by decide +kernel
theorem dL_track_145 : decode cL_track 145 = .ok (.invokestatic 92, 3) := by decide +kernel
theorem dL_track_148 : decode cL_track 148 = .ok (.bipush 20, 2) := by decide +kernel
theorem dL_track_150 : decode cL_track 150 = .ok (.if_icmp .gt 79, 3) := by decide +kernel
theorem dL_track_153 : decode cL_track 153 = .ok (.aload_n 0, 1) := by decide +kernel
theorem dL_track_154 : decode cL_track 154 = .ok (.iload_n 1, 1) := by decide +kernel
theorem dL_track_155 : decode cL_track 155 = .ok (.bipush 6, 2) := by decide +kernel
theorem dL_track_157 : decode cL_track 157 = .ok (.invokestatic 92, 3) := by decide +kernel
theorem dL_track_160 : decode cL_track 160 = .ok (.ifCond .lt 69, 3) := by decide +kernel
theorem dL_track_163 : decode cL_track 163 = .ok (.iload 5, 2) := by decide +kernel
theorem dL_track_165 : decode cL_track 165 = .ok (.ifCond .ne 7, 3) := by decide +kernel
theorem dL_track_168 : decode cL_track 168 = .ok (.iconst 1, 1) := by decide +kernel
theorem dL_track_169 : decode cL_track 169 = .ok (.goto 4, 3) := by decide +kernel
theorem dL_track_172 : decode cL_track 172 = .ok (.iconst 0, 1) := by decide +kernel
theorem dL_track_173 : decode cL_track 173 = .ok (.iload 4, 2) := by decide +kernel
theorem dL_track_175 : decode cL_track 175 = .ok (.iconst (-1), 1) := by decide +kernel
theorem dL_track_176 : decode cL_track 176 = .ok (.if_icmp .ne 7, 3) := by decide +kernel
theorem dL_track_179 : decode cL_track 179 = .ok (.iconst 1, 1) := by decide +kernel
theorem dL_track_180 : decode cL_track 180 = .ok (.goto 4, 3) := by decide +kernel
theorem dL_track_183 : decode cL_track 183 = .ok (.iconst 0, 1) := by decide +kernel
theorem dL_track_184 : decode cL_track 184 = .ok (.if_icmp .ne 45, 3) := by decide +kernel
theorem dL_track_187 : decode cL_track 187 = .ok (.iload 4, 2) := by decide +kernel
theorem dL_track_189 : decode cL_track 189 = .ok (.ifCond .lt 13, 3) := by decide +kernel
theorem dL_track_192 : decode cL_track 192 = .ok (.iload 4, 2) := by decide +kernel
theorem dL_track_194 : decode cL_track 194 = .ok (.iconst 4, 1) := by decide +kernel
theorem dL_track_195 : decode cL_track 195 = .ok (.idiv, 1) := by decide +kernel
theorem dL_track_196 : decode cL_track 196 = .ok (.iload_n 1, 1) := by decide +kernel
theorem dL_track_197 : decode cL_track 197 = .ok (.iconst 4, 1) := by decide +kernel
theorem dL_track_198 : decode cL_track 198 = .ok (.idiv, 1) := by decide +kernel
theorem dL_track_199 : decode cL_track 199 = .ok (.if_icmp .eq 30, 3) := by decide +kernel
theorem dL_track_202 : decode cL_track 202 = .ok (.iload_n 2, 1) := by decide +kernel
theorem dL_track_203 : decode cL_track 203 = .ok (.aload_n 0, 1) := by decide +kernel
theorem dL_track_204 : decode cL_track 204 = .ok (.iload_n 1, 1) := by decide +kernel
theorem dL_track_205 : decode cL_track 205 = .ok (.iconst 4, 1) := by decide +kernel
theorem dL_track_206 : decode cL_track 206 = .ok (.idiv, 1) := by decide +kernel
theorem dL_track_207 : decode cL_track 207 = .ok (.iconst 0, 1) := by decide +kernel
theorem dL_track_208 : decode cL_track 208 = .ok (.invokestatic 98, 3) := by decide +kernel
theorem dL_track_211 : decode cL_track 211 = .ok (.if_icmp .gt 18, 3) := by decide +kernel
theorem dL_track_214 : decode cL_track 214 = .ok (.aload_n 0, 1) := by decide +kernel
theorem dL_track_215 : decode cL_track 215 = .ok (.iload_n 1, 1) := by decide +kernel
theorem dL_track_216 : decode cL_track 216 = .ok (.bipush 9, 2) := by decide +kernel
theorem dL_track_218 : decode cL_track 218 = .ok (.invokestatic 96, 3) := by decide +kernel
theorem dL_track_221 : decode cL_track 221 = .ok (.iconst 1, 1) := by decide +kernel
theorem dL_track_222 : decode cL_track 222 = .ok (.if_icmp .ne 7, 3) := by decide +kernel
theorem dL_track_225 : decode cL_track 225 = .ok (.iconst 1, 1) := by decide +kernel
theorem dL_track_226 : decode cL_track 226 = .ok (.goto 4, 3) := by decide +kernel
theorem dL_track_229 : decode cL_track 229 = .ok (.iconst 0, 1) := by decide +kernel
theorem dL_track_230 : decode cL_track 230 = .ok (.istore 6, 2) := by decide +kernel
theorem dL_track_232 : decode cL_track 232 = .ok (.iload_n 3, 1) := by decide +kernel
theorem dL_track_233 : decode cL_track 233 = .ok (.istore 7, 2) := by decide +kernel
theorem dL_track_235 : decode cL_track 235 = .ok (.iconst 1, 1) := by decide +kernel
theorem dL_track_236 : decode cL_track 236 = .ok (.istore 8, 2) := by decide +kernel
theorem dL_track_238 : decode cL_track 238 = .ok (.iload 8, 2) := by decide +kernel
theorem dL_track_240 : decode cL_track 240 = .ok (.bipush 6, 2) := by decide +kernel
theorem dL_track_242 : decode cL_track 242 = .ok (.if_icmp .ge 66, 3) := by decide +kernel
theorem dL_track_245 : decode cL_track 245 = .ok (.iload 6, 2) := by decide +kernel
theorem dL_track_247 : decode cL_track 247 = .ok (.ifCond .eq 61, 3) := by decide +kernel
theorem dL_track_250 : decode cL_track 250 = .ok (.aload_n 0, 1) := by decide +kernel
theorem dL_track_251 : decode cL_track 251 = .ok (.iload_n 1, 1) := by decide +kernel
theorem dL_track_252 : decode cL_track 252 = .ok (.iload 8, 2) := by decide +kernel
theorem dL_track_254 : decode cL_track 254 = .ok (.iconst 0, 1) := by decide +kernel
theorem dL_track_255 : decode cL_track 255 = .ok (.invokestatic 94, 3) := by decide +kernel
theorem dL_track_258 : decode cL_track 258 = .ok (.istore 9, 2) := by decide +kernel
theorem dL_track_260 : decode cL_track 260 = .ok (.iload 9, 2) := by decide +kernel
theorem dL_track_262 : decode cL_track 262 = .ok (.iload 7, 2) := by decide +kernel
theorem dL_track_264 : decode cL_track 264 = .ok (.if_icmp .gt 31, 3) := by decide +kernel
theorem dL_track_267 : decode cL_track 267 = .ok (.iload 9, 2) := by decide +kernel
theorem dL_track_269 : decode cL_track 269 = .ok (.ifCond .lt 26, 3) := by decide +kernel
theorem dL_track_272 : decode cL_track 272 = .ok (.iload 8, 2) := by decide +kernel
theorem dL_track_274 : decode cL_track 274 = .ok (.iconst 3, 1) := by decide +kernel
theorem dL_track_275 : decode cL_track 275 = .ok (.if_icmp .gt 16, 3) := by decide +kernel
theorem dL_track_278 : decode cL_track 278 = .ok (.iload 9, 2) := by decide +kernel
theorem dL_track_280 : decode cL_track 280 = .ok (.aload_n 0, 1) := by decide +kernel
theorem dL_track_281 : decode cL_track 281 = .ok (.iload_n 1, 1) := by decide +kernel
theorem dL_track_282 : decode cL_track 282 = .ok (.iload 8, 2) := by decide +kernel
theorem dL_track_284 : decode cL_track 284 = .ok (.iconst 1, 1) := by decide +kernel
theorem dL_track_285 : decode cL_track 285 = .ok (.invokestatic 94, 3) := by decide +kernel
theorem dL_track_288 : decode cL_track 288 = .ok (.if_icmp .ne 7, 3) := by decide +kernel
theorem dL_track_291 : decode cL_track 291 = .ok (.iconst 1, 1) := by decide +kernel
theorem dL_track_292 : decode cL_track 292 = .ok (.goto 4, 3) := by decide +kernel
theorem dL_track_295 : decode cL_track 295 = .ok (.iconst 0, 1) := by decide +kernel
theorem dL_track_296 : decode cL_track 296 = .ok (.istore 6, 2) := by decide +kernel
theorem dL_track_298 : decode cL_track 298 = .ok (.iload 9, 2) := by decide +kernel
theorem dL_track_300 : decode cL_track 300 = .ok (.istore 7, 2) := by decide +kernel
theorem dL_track_302 : decode cL_track 302 = .ok (.iinc 8 1, 3) := by decide +kernel
theorem dL_track_305 : decode cL_track 305 = .ok (.goto (-67), 3) := by decide +kernel
theorem dL_track_308 : decode cL_track 308 = .ok (.iload 6, 2) := by decide +kernel
theorem dL_track_310 : decode cL_track 310 = .ok (.ireturn, 1) := by decide +kernel
set_option maxRecDepth 20000 in
theorem ggL_print_X3_setting : GoodIn wsL_print wsX3_setting := goodIn_r _ [7, 8, 9, 116, 117, 118, 119, 120, 121, 122, 123, 124, 125, 126, 127, 128, 129, 130, 131, 132, 133, 134, 135, 136, 137, 138, 139, 140, 141] (by decide +kernel) (by decide +kernel)
set_option maxRecDepth 20000 in
theorem gL_print_X3_setting : GoodIn wsL_print (wsV RL 119 RX3 yX3_setting wsX3_setting) := goodIn_app (goodIn_of _ (by decide +kernel)) ggL_print_X3_setting
set_option maxRecDepth 20000 in
theorem ggL_print_L_count : GoodIn wsL_print wsL_count := goodIn_ca (goodIn_r _ [13, 14, 15, 16, 17, 18, 6, 19, 20, 8, 21, 22, 23, 24, 25, 26, 27, 28, 29, 30, 31, 32, 33, 34, 35, 36, 37, 38, 39, 40, 41, 42, 43, 44, 45, 46, 47, 48, 49, 50, 51, 52, 53, 54, 55, 56, 57, 58, 59, 60, 61, 62, 116, 117, 118, 119, 120, 121, 122, 123, 124, 125, 126, 127, 128, 129, 130, 131, 132, 133, 134, 135, 136, 137, 138, 139, 140, 141] (by decide +kernel) (by decide +kernel)) (goodIn_sub (fun _ h => List.mem_cons_of_mem _ (List.mem_append_left _ (List.mem_append_right _ h))) (by decide +kernel))
set_option maxRecDepth 20000 in
theorem gL_print_L_count : GoodIn wsL_print (va_wsS RL 109 yL_count wsL_count) := goodIn_app (goodIn_of _ (by decide +kernel)) ggL_print_L_count
set_option maxRecDepth 20000 in
theorem ggL_print_L_trackOf : GoodIn wsL_print wsL_trackOf := goodIn_ca (goodIn_ca (goodIn_r _ [65, 66, 14, 15, 67, 68, 69, 70, 6, 71, 8, 72, 73, 74, 75, 76, 77, 21, 22, 23, 24, 25, 26, 78, 79, 80, 30, 81, 57, 82, 83, 84, 85, 86, 87, 53, 54, 55, 56, 116, 117, 118, 119, 120, 121, 122, 123, 124, 125, 126, 127, 128, 129, 130, 131, 132, 133, 134, 135, 136, 137, 138, 139, 140, 141] (by decide +kernel) (by decide +kernel)) (goodIn_sub (fun _ h => List.mem_cons_of_mem _ (List.mem_append_right _ h)) (by decide +kernel))) (goodIn_sub (fun _ h => List.mem_cons_of_mem _ (List.mem_append_left _ (List.mem_append_right _ h))) (by decide +kernel))
set_option maxRecDepth 20000 in
theorem gL_print_L_trackOf : GoodIn wsL_print (va_wsS RL 92 yL_trackOf wsL_trackOf) := goodIn_app (goodIn_of _ (by decide +kernel)) ggL_print_L_trackOf
set_option maxRecDepth 20000 in
theorem ggL_print_L_cylinderOf : GoodIn wsL_print wsL_cylinderOf := goodIn_ca (goodIn_ca (goodIn_r _ [90, 66, 14, 15, 67, 91, 92, 93, 6, 94, 8, 95, 96, 97, 98, 76, 77, 21, 22, 23, 24, 25, 26, 99, 100, 101, 30, 102, 62, 103, 49, 50, 51, 52, 53, 54, 55, 56, 57, 104, 105, 106, 107, 108, 109, 110, 111, 112, 113, 114, 115, 82, 116, 117, 118, 119, 120, 121, 122, 123, 124, 125, 126, 127, 128, 129, 130, 131, 132, 133, 134, 135, 136, 137, 138, 139, 140, 141] (by decide +kernel) (by decide +kernel)) (goodIn_sub (fun _ h => List.mem_cons_of_mem _ (List.mem_append_right _ h)) (by decide +kernel))) (goodIn_sub (fun _ h => List.mem_cons_of_mem _ (List.mem_append_left _ (List.mem_append_right _ h))) (by decide +kernel))
set_option maxRecDepth 20000 in
theorem gL_print_L_cylinderOf : GoodIn wsL_print (va_wsS RL 98 yL_cylinderOf wsL_cylinderOf) := goodIn_app (goodIn_of _ (by decide +kernel)) ggL_print_L_cylinderOf
theorem dL_print_0 : decode cL_print 0 = .ok (.aload_n 0, 1) := by decide +kernel
theorem dL_print_1 : decode cL_print 1 = .ok (.invokevirtual 119, 3) := by decide +kernel
theorem dL_print_4 : decode cL_print 4 = .ok (.i2l, 1) := by decide +kernel
theorem dL_print_5 : decode cL_print 5 = .ok (.lstore_n 1, 1) := by decide +kernel
theorem dL_print_6 : decode cL_print 6 = .ok (.iconst 0, 1) := by decide +kernel
theorem dL_print_7 : decode cL_print 7 = .ok (.istore_n 3, 1) := by decide +kernel
theorem dL_print_8 : decode cL_print 8 = .ok (.iload_n 3, 1) := by decide +kernel
theorem dL_print_9 : decode cL_print 9 = .ok (.bipush 12, 2) := by decide +kernel
theorem dL_print_11 : decode cL_print 11 = .ok (.if_icmp .ge 22, 3) := by decide +kernel
theorem dL_print_14 : decode cL_print 14 = .ok (.ldc2_w 122, 3) := by decide +kernel
theorem dL_print_17 : decode cL_print 17 = .ok (.lload_n 1, 1) := by decide +kernel
theorem dL_print_18 : decode cL_print 18 = .ok (.lmul, 1) := by decide +kernel
theorem dL_print_19 : decode cL_print 19 = .ok (.aload_n 0, 1) := by decide +kernel
theorem dL_print_20 : decode cL_print 20 = .ok (.iload_n 3, 1) := by decide +kernel
theorem dL_print_21 : decode cL_print 21 = .ok (.invokestatic 109, 3) := by decide +kernel
theorem dL_print_24 : decode cL_print 24 = .ok (.i2l, 1) := by decide +kernel
theorem dL_print_25 : decode cL_print 25 = .ok (.ladd, 1) := by decide +kernel
theorem dL_print_26 : decode cL_print 26 = .ok (.lstore_n 1, 1) := by decide +kernel
theorem dL_print_27 : decode cL_print 27 = .ok (.iinc 3 1, 3) := by decide +kernel
theorem dL_print_30 : decode cL_print 30 = .ok (.goto (-22), 3) := by decide +kernel
theorem dL_print_33 : decode cL_print 33 = .ok (.iconst 0, 1) := by decide +kernel
theorem dL_print_34 : decode cL_print 34 = .ok (.istore_n 3, 1) := by decide +kernel
theorem dL_print_35 : decode cL_print 35 = .ok (.iload_n 3, 1) := by decide +kernel
theorem dL_print_36 : decode cL_print 36 = .ok (.sipush 168, 3) := by decide +kernel
theorem dL_print_39 : decode cL_print 39 = .ok (.if_icmp .ge 29, 3) := by decide +kernel
theorem dL_print_42 : decode cL_print 42 = .ok (.ldc2_w 122, 3) := by decide +kernel
theorem dL_print_45 : decode cL_print 45 = .ok (.lload_n 1, 1) := by decide +kernel
theorem dL_print_46 : decode cL_print 46 = .ok (.lmul, 1) := by decide +kernel
theorem dL_print_47 : decode cL_print 47 = .ok (.aload_n 0, 1) := by decide +kernel
theorem dL_print_48 : decode cL_print 48 = .ok (.iload_n 3, 1) := by decide +kernel
theorem dL_print_49 : decode cL_print 49 = .ok (.bipush 7, 2) := by decide +kernel
theorem dL_print_51 : decode cL_print 51 = .ok (.idiv, 1) := by decide +kernel
theorem dL_print_52 : decode cL_print 52 = .ok (.iload_n 3, 1) := by decide +kernel
theorem dL_print_53 : decode cL_print 53 = .ok (.bipush 7, 2) := by decide +kernel
theorem dL_print_55 : decode cL_print 55 = .ok (.irem, 1) := by decide +kernel
theorem dL_print_56 : decode cL_print 56 = .ok (.invokestatic 92, 3) := by decide +kernel
theorem dL_print_59 : decode cL_print 59 = .ok (.i2l, 1) := by decide +kernel
theorem dL_print_60 : decode cL_print 60 = .ok (.ladd, 1) := by decide +kernel
theorem dL_print_61 : decode cL_print 61 = .ok (.lstore_n 1, 1) := by decide +kernel
theorem dL_print_62 : decode cL_print 62 = .ok (.iinc 3 1, 3) := by decide +kernel
theorem dL_print_65 : decode cL_print 65 = .ok (.goto (-30), 3) := by decide +kernel
theorem dL_print_68 : decode cL_print 68 = .ok (.iconst 0, 1) := by decide +kernel
theorem dL_print_69 : decode cL_print 69 = .ok (.istore_n 3, 1) := by decide +kernel
theorem dL_print_70 : decode cL_print 70 = .ok (.iload_n 3, 1) := by decide +kernel
theorem dL_print_71 : decode cL_print 71 = .ok (.bipush 6, 2) := by decide +kernel
theorem dL_print_73 : decode cL_print 73 = .ok (.if_icmp .ge 35, 3) := by decide +kernel
theorem dL_print_76 : decode cL_print 76 = .ok (.ldc2_w 122, 3) := by decide +kernel
theorem dL_print_79 : decode cL_print 79 = .ok (.lload_n 1, 1) := by decide +kernel
theorem dL_print_80 : decode cL_print 80 = .ok (.lmul, 1) := by decide +kernel
theorem dL_print_81 : decode cL_print 81 = .ok (.ldc2_w 124, 3) := by decide +kernel
theorem dL_print_84 : decode cL_print 84 = .ok (.aload_n 0, 1) := by decide +kernel
theorem dL_print_85 : decode cL_print 85 = .ok (.iload_n 3, 1) := by decide +kernel
theorem dL_print_86 : decode cL_print 86 = .ok (.iconst 0, 1) := by decide +kernel
theorem dL_print_87 : decode cL_print 87 = .ok (.invokestatic 98, 3) := by decide +kernel
theorem dL_print_90 : decode cL_print 90 = .ok (.i2l, 1) := by decide +kernel
theorem dL_print_91 : decode cL_print 91 = .ok (.lmul, 1) := by decide +kernel
theorem dL_print_92 : decode cL_print 92 = .ok (.ladd, 1) := by decide +kernel
theorem dL_print_93 : decode cL_print 93 = .ok (.aload_n 0, 1) := by decide +kernel
theorem dL_print_94 : decode cL_print 94 = .ok (.iload_n 3, 1) := by decide +kernel
theorem dL_print_95 : decode cL_print 95 = .ok (.iconst 4, 1) := by decide +kernel
theorem dL_print_96 : decode cL_print 96 = .ok (.invokestatic 98, 3) := by decide +kernel
theorem dL_print_99 : decode cL_print 99 = .ok (.i2l, 1) := by decide +kernel
theorem dL_print_100 : decode cL_print 100 = .ok (.ladd, 1) := by decide +kernel
theorem dL_print_101 : decode cL_print 101 = .ok (.lstore_n 1, 1) := by decide +kernel
theorem dL_print_102 : decode cL_print 102 = .ok (.iinc 3 1, 3) := by decide +kernel
theorem dL_print_105 : decode cL_print 105 = .ok (.goto (-35), 3) := by decide +kernel
theorem dL_print_108 : decode cL_print 108 = .ok (.lload_n 1, 1) := by decide +kernel
theorem dL_print_109 : decode cL_print 109 = .ok (.lreturn, 1) := by decide +kernel
