set_option maxRecDepth 20000 in
theorem ggL_hangs_L_track : GoodIn wsL_hangs wsL_track := goodIn_ca (goodIn_ca (goodIn_r _ [4, 5, 6, 3, 7, 8, 9, 10, 11, 12, 13, 14, 15, 16, 17, 18, 19, 20, 21, 22, 23, 24, 25, 26, 27, 28, 29, 30, 31, 32, 33, 34, 35, 36, 37, 38, 39, 40, 41, 42, 43, 44, 45, 46, 47, 48, 49, 50, 51, 52, 53, 54, 55, 56, 57, 58, 59, 60, 61, 62, 63, 64, 65, 66, 67, 68, 69, 70, 71, 72, 73, 74, 75, 76, 77, 78, 79, 80, 81, 82, 83, 84, 85, 86, 87, 88, 89, 90, 91, 92, 93, 94, 95, 96, 97, 98, 99, 100, 101, 102, 103, 104, 105, 106, 107, 108, 109, 110, 111, 112, 113, 114, 115, 116, 117, 118, 119, 120, 121, 122, 123, 124, 125, 126, 127, 128, 129, 130, 131, 132, 133, 134, 135, 136, 137, 138, 139, 140, 141, 142, 143, 144, 221, 222, 223, 224, 225, 226, 227, 228, 229, 230, 231, 232, 233, 234, 235, 236, 237, 238, 239, 240, 241, 242, 243, 244, 245, 246, 247, 248] (by decide +kernel) (by decide +kernel)) (goodIn_sub (fun _ h => List.mem_cons_of_mem _ (List.mem_append_left _ (List.mem_append_right _ h))) (by decide +kernel))) (goodIn_sub (fun _ h => List.mem_cons_of_mem _ (List.mem_append_right _ h)) (by decide +kernel))
set_option maxRecDepth 20000 in
theorem gL_hangs_L_track : GoodIn wsL_hangs (va_wsS RL 100 yL_track wsL_track) := goodIn_app (goodIn_of _ (by decide +kernel)) ggL_hangs_L_track
set_option maxRecDepth 20000 in
theorem ggL_hangs_L_trackOf : GoodIn wsL_hangs wsL_trackOf := goodIn_ca (goodIn_ca (goodIn_r _ [7, 8, 9, 10, 11, 12, 13, 14, 15, 16, 17, 18, 19, 20, 21, 22, 23, 24, 25, 26, 27, 28, 29, 30, 31, 32, 33, 34, 35, 36, 37, 38, 39, 40, 41, 42, 43, 44, 45, 221, 222, 223, 224, 225, 226, 227, 228, 229, 230, 231, 232, 233, 234, 235, 236, 237, 238, 239, 240, 241, 242, 243, 244, 245, 246] (by decide +kernel) (by decide +kernel)) (goodIn_sub (fun _ h => List.mem_cons_of_mem _ (List.mem_append_left _ (List.mem_append_right _ h))) (by decide +kernel))) (goodIn_sub (fun _ h => List.mem_cons_of_mem _ (List.mem_append_right _ h)) (by decide +kernel))
set_option maxRecDepth 20000 in
theorem gL_hangs_L_trackOf : GoodIn wsL_hangs (va_wsS RL 92 yL_trackOf wsL_trackOf) := goodIn_app (goodIn_of _ (by decide +kernel)) ggL_hangs_L_trackOf
set_option maxRecDepth 20000 in
theorem ggL_hangs_L_daughters : GoodIn wsL_hangs wsL_daughters := goodIn_ca (goodIn_r _ [147, 8, 10, 148, 149, 150, 15, 151, 17, 18, 19, 20, 21, 22, 23, 152, 153, 154, 33, 155, 156, 157, 158, 159, 39, 221, 222, 223, 224, 225, 226, 227, 228, 229, 230, 231, 232, 233, 234, 235, 236, 237, 238, 239, 240, 241, 242, 243, 244, 245, 246] (by decide +kernel) (by decide +kernel)) (goodIn_sub (fun _ h => List.mem_cons_of_mem _ (List.mem_append_left _ (List.mem_append_right _ h))) (by decide +kernel))
set_option maxRecDepth 20000 in
theorem gL_hangs_L_daughters : GoodIn wsL_hangs (va_wsS RL 104 yL_daughters wsL_daughters) := goodIn_app (goodIn_of _ (by decide +kernel)) ggL_hangs_L_daughters
set_option maxRecDepth 20000 in
theorem ggL_hangs_L_cylinderOf : GoodIn wsL_hangs wsL_cylinderOf := goodIn_ca (goodIn_ca (goodIn_r _ [118, 8, 9, 10, 11, 119, 120, 121, 15, 122, 17, 123, 124, 125, 126, 22, 23, 24, 25, 26, 27, 28, 29, 127, 128, 129, 33, 130, 114, 131, 132, 133, 134, 135, 42, 43, 44, 45, 35, 136, 137, 138, 139, 140, 71, 72, 73, 141, 142, 143, 144, 36, 221, 222, 223, 224, 225, 226, 227, 228, 229, 230, 231, 232, 233, 234, 235, 236, 237, 238, 239, 240, 241, 242, 243, 244, 245, 246] (by decide +kernel) (by decide +kernel)) (goodIn_sub (fun _ h => List.mem_cons_of_mem _ (List.mem_append_left _ (List.mem_append_right _ h))) (by decide +kernel))) (goodIn_sub (fun _ h => List.mem_cons_of_mem _ (List.mem_append_right _ h)) (by decide +kernel))
set_option maxRecDepth 20000 in
theorem gL_hangs_L_cylinderOf : GoodIn wsL_hangs (va_wsS RL 98 yL_cylinderOf wsL_cylinderOf) := goodIn_app (goodIn_of _ (by decide +kernel)) ggL_hangs_L_cylinderOf
set_option maxRecDepth 20000 in
theorem ggL_hangs_X3_clearest : GoodIn wsL_hangs wsX3_clearest := goodIn_r _ [163, 17, 164, 165, 166, 33, 167, 42, 43, 44, 45, 35, 168, 169, 170, 171, 36, 37, 221, 222, 223, 224, 225, 226, 227, 228, 229, 230, 231, 232, 233, 234, 235, 236, 237, 238, 239, 240, 241, 242, 243, 244, 245, 246] (by decide +kernel) (by decide +kernel)
set_option maxRecDepth 20000 in
theorem gL_hangs_X3_clearest : GoodIn wsL_hangs (wsV RL 106 RX3 yX3_clearest wsX3_clearest) := goodIn_app (goodIn_of _ (by decide +kernel)) ggL_hangs_X3_clearest
set_option maxRecDepth 20000 in
theorem ggL_hangs_L_count : GoodIn wsL_hangs wsL_count := goodIn_ca (goodIn_r _ [174, 9, 10, 175, 176, 177, 15, 178, 179, 17, 24, 25, 26, 27, 28, 29, 180, 181, 182, 33, 183, 184, 115, 185, 186, 187, 188, 189, 190, 191, 192, 193, 194, 195, 196, 197, 198, 199, 132, 133, 134, 135, 42, 43, 44, 45, 35, 200, 201, 202, 203, 114, 221, 222, 223, 224, 225, 226, 227, 228, 229, 230, 231, 232, 233, 234, 235, 236, 237, 238, 239, 240, 241, 242, 243, 244, 245, 246] (by decide +kernel) (by decide +kernel)) (goodIn_sub (fun _ h => List.mem_cons_of_mem _ (List.mem_append_right _ h)) (by decide +kernel))
set_option maxRecDepth 20000 in
theorem gL_hangs_L_count : GoodIn wsL_hangs (va_wsS RL 109 yL_count wsL_count) := goodIn_app (goodIn_of _ (by decide +kernel)) ggL_hangs_L_count
set_option maxRecDepth 20000 in
theorem ggL_hangs_X3_meanDepth : GoodIn wsL_hangs wsX3_meanDepth := goodIn_r _ [207, 17, 208, 197, 198, 33, 199, 132, 133, 134, 135, 42, 43, 44, 45, 35, 209, 210, 211, 212, 221, 222, 223, 224, 225, 226, 227, 228, 229, 230, 231, 232, 233, 234, 235, 236, 237, 238, 239, 240, 241, 242, 243, 244, 245, 246] (by decide +kernel) (by decide +kernel)
set_option maxRecDepth 20000 in
theorem gL_hangs_X3_meanDepth : GoodIn wsL_hangs (wsV RL 111 RX3 yX3_meanDepth wsX3_meanDepth) := goodIn_app (goodIn_of _ (by decide +kernel)) ggL_hangs_X3_meanDepth
set_option maxRecDepth 20000 in
theorem ggL_hangs_X3_clearShare : GoodIn wsL_hangs wsX3_clearShare := goodIn_r _ [216, 17, 208, 197, 198, 33, 199, 132, 133, 134, 135, 42, 43, 44, 45, 35, 217, 218, 219, 220, 36, 221, 222, 223, 224, 225, 226, 227, 228, 229, 230, 231, 232, 233, 234, 235, 236, 237, 238, 239, 240, 241, 242, 243, 244, 245, 246] (by decide +kernel) (by decide +kernel)
set_option maxRecDepth 20000 in
theorem gL_hangs_X3_clearShare : GoodIn wsL_hangs (wsV RL 115 RX3 yX3_clearShare wsX3_clearShare) := goodIn_app (goodIn_of _ (by decide +kernel)) ggL_hangs_X3_clearShare
theorem dL_hangs_0 : decode cL_hangs 0 = .ok (.iconst 0, 1) := by decide +kernel
theorem dL_hangs_1 : decode cL_hangs 1 = .ok (.istore_n 1, 1) := by decide +kernel
theorem dL_hangs_2 : decode cL_hangs 2 = .ok (.iconst 0, 1) := by decide +kernel
theorem dL_hangs_3 : decode cL_hangs 3 = .ok (.istore_n 2, 1) := by decide +kernel
theorem dL_hangs_4 : decode cL_hangs 4 = .ok (.iconst 0, 1) := by decide +kernel
theorem dL_hangs_5 : decode cL_hangs 5 = .ok (.istore_n 3, 1) := by decide +kernel
theorem dL_hangs_6 : decode cL_hangs 6 = .ok (.iconst 0, 1) := by decide +kernel
theorem dL_hangs_7 : decode cL_hangs 7 = .ok (.istore 4, 2) := by decide +kernel
theorem dL_hangs_9 : decode cL_hangs 9 = .ok (.iconst 0, 1) := by decide +kernel
theorem dL_hangs_10 : decode cL_hangs 10 = .ok (.istore 5, 2) := by decide +kernel
theorem dL_hangs_12 : decode cL_hangs 12 = .ok (.iconst (-1), 1) := by decide +kernel
theorem dL_hangs_13 : decode cL_hangs 13 = .ok (.istore 6, 2) := by decide +kernel
theorem dL_hangs_15 : decode cL_hangs 15 = .ok (.iconst 0, 1) := by decide +kernel
theorem dL_hangs_16 : decode cL_hangs 16 = .ok (.istore 7, 2) := by decide +kernel
theorem dL_hangs_18 : decode cL_hangs 18 = .ok (.iload 7, 2) := by decide +kernel
theorem dL_hangs_20 : decode cL_hangs 20 = .ok (.bipush 24, 2) := by decide +kernel
theorem dL_hangs_22 : decode cL_hangs 22 = .ok (.if_icmp .ge 198, 3) := by decide +kernel
theorem dL_hangs_25 : decode cL_hangs 25 = .ok (.aload_n 0, 1) := by decide +kernel
theorem dL_hangs_26 : decode cL_hangs 26 = .ok (.iload 7, 2) := by decide +kernel
theorem dL_hangs_28 : decode cL_hangs 28 = .ok (.invokestatic 100, 3) := by decide +kernel
theorem dL_hangs_31 : decode cL_hangs 31 = .ok (.ifCond .ne 5, 3) := by decide +kernel
theorem dL_hangs_34 : decode cL_hangs 34 = .ok (.iconst 0, 1) := by decide +kernel
theorem dL_hangs_35 : decode cL_hangs 35 = .ok (.ireturn, 1) := by decide +kernel
theorem dL_hangs_36 : decode cL_hangs 36 = .ok (.aload_n 0, 1) := by decide +kernel
theorem dL_hangs_37 : decode cL_hangs 37 = .ok (.iload 7, 2) := by decide +kernel
theorem dL_hangs_39 : decode cL_hangs 39 = .ok (.iconst 0, 1) := by decide +kernel
theorem dL_hangs_40 : decode cL_hangs 40 = .ok (.invokestatic 92, 3) := by decide +kernel
theorem dL_hangs_43 : decode cL_hangs 43 = .ok (.ifCond .le 7, 3) := by decide +kernel
theorem dL_hangs_46 : decode cL_hangs 46 = .ok (.iconst 1, 1) := by decide +kernel
theorem dL_hangs_47 : decode cL_hangs 47 = .ok (.goto 4, 3) := by decide +kernel
theorem dL_hangs_50 : decode cL_hangs 50 = .ok (.iconst 0, 1) := by decide +kernel
theorem dL_hangs_51 : decode cL_hangs 51 = .ok (.istore 8, 2) := by decide +kernel
theorem dL_hangs_53 : decode cL_hangs 53 = .ok (.iload_n 1, 1) := by decide +kernel
theorem dL_hangs_54 : decode cL_hangs 54 = .ok (.iload 8, 2) := by decide +kernel
theorem dL_hangs_56 : decode cL_hangs 56 = .ok (.ifCond .eq 7, 3) := by decide +kernel
theorem dL_hangs_59 : decode cL_hangs 59 = .ok (.iconst 1, 1) := by decide +kernel
theorem dL_hangs_60 : decode cL_hangs 60 = .ok (.goto 4, 3) := by decide +kernel
theorem dL_hangs_63 : decode cL_hangs 63 = .ok (.iconst 0, 1) := by decide +kernel
theorem dL_hangs_64 : decode cL_hangs 64 = .ok (.iadd, 1) := by decide +kernel
theorem dL_hangs_65 : decode cL_hangs 65 = .ok (.istore_n 1, 1) := by decide +kernel
theorem dL_hangs_66 : decode cL_hangs 66 = .ok (.iload_n 3, 1) := by decide +kernel
theorem dL_hangs_67 : decode cL_hangs 67 = .ok (.aload_n 0, 1) := by decide +kernel
theorem dL_hangs_68 : decode cL_hangs 68 = .ok (.iload 7, 2) := by decide +kernel
theorem dL_hangs_70 : decode cL_hangs 70 = .ok (.iconst 0, 1) := by decide +kernel
theorem dL_hangs_71 : decode cL_hangs 71 = .ok (.invokestatic 92, 3) := by decide +kernel
theorem dL_hangs_74 : decode cL_hangs 74 = .ok (.iadd, 1) := by decide +kernel
theorem dL_hangs_75 : decode cL_hangs 75 = .ok (.istore_n 3, 1) := by decide +kernel
theorem dL_hangs_76 : decode cL_hangs 76 = .ok (.iload 4, 2) := by decide +kernel
theorem dL_hangs_78 : decode cL_hangs 78 = .ok (.iload 8, 2) := by decide +kernel
theorem dL_hangs_80 : decode cL_hangs 80 = .ok (.ifCond .eq 13, 3) := by decide +kernel
theorem dL_hangs_83 : decode cL_hangs 83 = .ok (.aload_n 0, 1) := by decide +kernel
theorem dL_hangs_84 : decode cL_hangs 84 = .ok (.iload 7, 2) := by decide +kernel
theorem dL_hangs_86 : decode cL_hangs 86 = .ok (.iconst 1, 1) := by decide +kernel
theorem dL_hangs_87 : decode cL_hangs 87 = .ok (.invokestatic 92, 3) := by decide +kernel
theorem dL_hangs_90 : decode cL_hangs 90 = .ok (.goto 4, 3) := by decide +kernel
theorem dL_hangs_93 : decode cL_hangs 93 = .ok (.iconst 0, 1) := by decide +kernel
theorem dL_hangs_94 : decode cL_hangs 94 = .ok (.iadd, 1) := by decide +kernel
theorem dL_hangs_95 : decode cL_hangs 95 = .ok (.istore 4, 2) := by decide +kernel
theorem dL_hangs_97 : decode cL_hangs 97 = .ok (.iload 8, 2) := by decide +kernel
theorem dL_hangs_99 : decode cL_hangs 99 = .ok (.ifCond .eq 25, 3) := by decide +kernel
theorem dL_hangs_102 : decode cL_hangs 102 = .ok (.aload_n 0, 1) := by decide +kernel
theorem dL_hangs_103 : decode cL_hangs 103 = .ok (.iload 7, 2) := by decide +kernel
theorem dL_hangs_105 : decode cL_hangs 105 = .ok (.iconst 1, 1) := by decide +kernel
theorem dL_hangs_106 : decode cL_hangs 106 = .ok (.invokestatic 92, 3) := by decide +kernel
theorem dL_hangs_109 : decode cL_hangs 109 = .ok (.iload 6, 2) := by decide +kernel
theorem dL_hangs_111 : decode cL_hangs 111 = .ok (.if_icmp .le 13, 3) := by decide +kernel
theorem dL_hangs_114 : decode cL_hangs 114 = .ok (.aload_n 0, 1) := by decide +kernel
theorem dL_hangs_115 : decode cL_hangs 115 = .ok (.iload 7, 2) := by decide +kernel
theorem dL_hangs_117 : decode cL_hangs 117 = .ok (.iconst 1, 1) := by decide +kernel
theorem dL_hangs_118 : decode cL_hangs 118 = .ok (.invokestatic 92, 3) := by decide +kernel
theorem dL_hangs_121 : decode cL_hangs 121 = .ok (.goto 5, 3) := by decide +kernel
theorem dL_hangs_124 : decode cL_hangs 124 = .ok (.iload 6, 2) := by decide +kernel
theorem dL_hangs_126 : decode cL_hangs 126 = .ok (.istore 6, 2) := by decide +kernel
theorem dL_hangs_128 : decode cL_hangs 128 = .ok (.iconst 0, 1) := by decide +kernel
theorem dL_hangs_129 : decode cL_hangs 129 = .ok (.istore 9, 2) := by decide +kernel
theorem dL_hangs_131 : decode cL_hangs 131 = .ok (.iconst 0, 1) := by decide +kernel
theorem dL_hangs_132 : decode cL_hangs 132 = .ok (.istore 10, 2) := by decide +kernel
theorem dL_hangs_134 : decode cL_hangs 134 = .ok (.iload 10, 2) := by decide +kernel
theorem dL_hangs_136 : decode cL_hangs 136 = .ok (.bipush 24, 2) := by decide +kernel
theorem dL_hangs_138 : decode cL_hangs 138 = .ok (.if_icmp .ge 38, 3) := by decide +kernel
theorem dL_hangs_141 : decode cL_hangs 141 = .ok (.iload 9, 2) := by decide +kernel
theorem dL_hangs_143 : decode cL_hangs 143 = .ok (.iload 10, 2) := by decide +kernel
theorem dL_hangs_145 : decode cL_hangs 145 = .ok (.iload 7, 2) := by decide +kernel
theorem dL_hangs_147 : decode cL_hangs 147 = .ok (.if_icmp .eq 19, 3) := by decide +kernel
theorem dL_hangs_150 : decode cL_hangs 150 = .ok (.aload_n 0, 1) := by decide +kernel
theorem dL_hangs_151 : decode cL_hangs 151 = .ok (.iload 10, 2) := by decide +kernel
theorem dL_hangs_153 : decode cL_hangs 153 = .ok (.iconst 4, 1) := by decide +kernel
theorem dL_hangs_154 : decode cL_hangs 154 = .ok (.invokestatic 92, 3) := by decide +kernel
theorem dL_hangs_157 : decode cL_hangs 157 = .ok (.iload 7, 2) := by decide +kernel
theorem dL_hangs_159 : decode cL_hangs 159 = .ok (.if_icmp .ne 7, 3) := by decide +kernel
theorem dL_hangs_162 : decode cL_hangs 162 = .ok (.iconst 1, 1) := by decide +kernel
theorem dL_hangs_163 : decode cL_hangs 163 = .ok (.goto 4, 3) := by decide +kernel
theorem dL_hangs_166 : decode cL_hangs 166 = .ok (.iconst 0, 1) := by decide +kernel
theorem dL_hangs_167 : decode cL_hangs 167 = .ok (.iadd, 1) := by decide +kernel
theorem dL_hangs_168 : decode cL_hangs 168 = .ok (.istore 9, 2) := by decide +kernel
theorem dL_hangs_170 : decode cL_hangs 170 = .ok (.iinc 10 1, 3) := by decide +kernel
theorem dL_hangs_173 : decode cL_hangs 173 = .ok (.goto (-39), 3) := by decide +kernel
theorem dL_hangs_176 : decode cL_hangs 176 = .ok (.aload_n 0, 1) := by decide +kernel
theorem dL_hangs_177 : decode cL_hangs 177 = .ok (.iload 7, 2) := by decide +kernel
theorem dL_hangs_179 : decode cL_hangs 179 = .ok (.invokestatic 104, 3) := by decide +kernel
theorem dL_hangs_182 : decode cL_hangs 182 = .ok (.iload 9, 2) := by decide +kernel
theorem dL_hangs_184 : decode cL_hangs 184 = .ok (.if_icmp .lt 28, 3) := by decide +kernel
theorem dL_hangs_187 : decode cL_hangs 187 = .ok (.iload 9, 2) := by decide +kernel
theorem dL_hangs_189 : decode cL_hangs 189 = .ok (.ifCond .ne 12, 3) := by decide +kernel
theorem dL_hangs_192 : decode cL_hangs 192 = .ok (.aload_n 0, 1) := by decide +kernel
theorem dL_hangs_193 : decode cL_hangs 193 = .ok (.iload 7, 2) := by decide +kernel
theorem dL_hangs_195 : decode cL_hangs 195 = .ok (.invokestatic 104, 3) := by decide +kernel
theorem dL_hangs_198 : decode cL_hangs 198 = .ok (.ifCond .ne 14, 3) := by decide +kernel
theorem dL_hangs_201 : decode cL_hangs 201 = .ok (.aload_n 0, 1) := by decide +kernel
theorem dL_hangs_202 : decode cL_hangs 202 = .ok (.iload 7, 2) := by decide +kernel
theorem dL_hangs_204 : decode cL_hangs 204 = .ok (.invokestatic 104, 3) := by decide +kernel
theorem dL_hangs_207 : decode cL_hangs 207 = .ok (.bipush 23, 2) := by decide +kernel
theorem dL_hangs_209 : decode cL_hangs 209 = .ok (.if_icmp .le 5, 3) := by decide +kernel
theorem dL_hangs_212 : decode cL_hangs 212 = .ok (.iconst 0, 1) := by decide +kernel
theorem dL_hangs_213 : decode cL_hangs 213 = .ok (.ireturn, 1) := by decide +kernel
theorem dL_hangs_214 : decode cL_hangs 214 = .ok (.iinc 7 1, 3) := by decide +kernel
theorem dL_hangs_217 : decode cL_hangs 217 = .ok (.goto (-199), 3) := by decide +kernel
theorem dL_hangs_220 : decode cL_hangs 220 = .ok (.iconst 0, 1) := by decide +kernel
theorem dL_hangs_221 : decode cL_hangs 221 = .ok (.istore 7, 2) := by decide +kernel
theorem dL_hangs_223 : decode cL_hangs 223 = .ok (.iload 7, 2) := by decide +kernel
theorem dL_hangs_225 : decode cL_hangs 225 = .ok (.bipush 6, 2) := by decide +kernel
theorem dL_hangs_227 : decode cL_hangs 227 = .ok (.if_icmp .ge 189, 3) := by decide +kernel
theorem dL_hangs_230 : decode cL_hangs 230 = .ok (.iconst 0, 1) := by decide +kernel
theorem dL_hangs_231 : decode cL_hangs 231 = .ok (.istore 8, 2) := by decide +kernel
theorem dL_hangs_233 : decode cL_hangs 233 = .ok (.iconst 0, 1) := by decide +kernel
theorem dL_hangs_234 : decode cL_hangs 234 = .ok (.istore 9, 2) := by decide +kernel
theorem dL_hangs_236 : decode cL_hangs 236 = .ok (.iconst 4, 1) := by decide +kernel
theorem dL_hangs_237 : decode cL_hangs 237 = .ok (.iload 7, 2) := by decide +kernel
theorem dL_hangs_239 : decode cL_hangs 239 = .ok (.imul, 1) := by decide +kernel
theorem dL_hangs_240 : decode cL_hangs 240 = .ok (.istore 10, 2) := by decide +kernel
theorem dL_hangs_242 : decode cL_hangs 242 = .ok (.iload 10, 2) := by decide +kernel
theorem dL_hangs_244 : decode cL_hangs 244 = .ok (.iconst 4, 1) := by decide +kernel
theorem dL_hangs_245 : decode cL_hangs 245 = .ok (.iload 7, 2) := by decide +kernel
theorem dL_hangs_247 : decode cL_hangs 247 = .ok (.imul, 1) := by decide +kernel
theorem dL_hangs_248 : decode cL_hangs 248 = .ok (.iconst 4, 1) := by decide +kernel
theorem dL_hangs_249 : decode cL_hangs 249 = .ok (.iadd, 1) := by decide +kernel
theorem dL_hangs_250 : decode cL_hangs 250 = .ok (.if_icmp .ge 55, 3) := by decide +kernel
theorem dL_hangs_253 : decode cL_hangs 253 = .ok (.iload 8, 2) := by decide +kernel
theorem dL_hangs_255 : decode cL_hangs 255 = .ok (.aload_n 0, 1) := by decide +kernel
theorem dL_hangs_256 : decode cL_hangs 256 = .ok (.iload 10, 2) := by decide +kernel
theorem dL_hangs_258 : decode cL_hangs 258 = .ok (.iconst 0, 1) := by decide +kernel
theorem dL_hangs_259 : decode cL_hangs 259 = .ok (.invokestatic 92, 3) := by decide +kernel
theorem dL_hangs_262 : decode cL_hangs 262 = .ok (.ifCond .le 7, 3) := by decide +kernel
theorem dL_hangs_265 : decode cL_hangs 265 = .ok (.iconst 1, 1) := by decide +kernel
theorem dL_hangs_266 : decode cL_hangs 266 = .ok (.goto 4, 3) := by decide +kernel
theorem dL_hangs_269 : decode cL_hangs 269 = .ok (.iconst 0, 1) := by decide +kernel
theorem dL_hangs_270 : decode cL_hangs 270 = .ok (.iadd, 1) := by decide +kernel
theorem dL_hangs_271 : decode cL_hangs 271 = .ok (.istore 8, 2) := by decide +kernel
theorem dL_hangs_273 : decode cL_hangs 273 = .ok (.aload_n 0, 1) := by decide +kernel
theorem dL_hangs_274 : decode cL_hangs 274 = .ok (.iload 10, 2) := by decide +kernel
theorem dL_hangs_276 : decode cL_hangs 276 = .ok (.iconst 0, 1) := by decide +kernel
theorem dL_hangs_277 : decode cL_hangs 277 = .ok (.invokestatic 92, 3) := by decide +kernel
theorem dL_hangs_280 : decode cL_hangs 280 = .ok (.iload 9, 2) := by decide +kernel
theorem dL_hangs_282 : decode cL_hangs 282 = .ok (.if_icmp .le 13, 3) := by decide +kernel
theorem dL_hangs_285 : decode cL_hangs 285 = .ok (.aload_n 0, 1) := by decide +kernel
theorem dL_hangs_286 : decode cL_hangs 286 = .ok (.iload 10, 2) := by decide +kernel
theorem dL_hangs_288 : decode cL_hangs 288 = .ok (.iconst 0, 1) := by decide +kernel
theorem dL_hangs_289 : decode cL_hangs 289 = .ok (.invokestatic 92, 3) := by decide +kernel
theorem dL_hangs_292 : decode cL_hangs 292 = .ok (.goto 5, 3) := by decide +kernel
theorem dL_hangs_295 : decode cL_hangs 295 = .ok (.iload 9, 2) := by decide +kernel
theorem dL_hangs_297 : decode cL_hangs 297 = .ok (.istore 9, 2) := by decide +kernel
theorem dL_hangs_299 : decode cL_hangs 299 = .ok (.iinc 10 1, 3) := by decide +kernel
theorem dL_hangs_302 : decode cL_hangs 302 = .ok (.goto (-60), 3) := by decide +kernel
theorem dL_hangs_305 : decode cL_hangs 305 = .ok (.aload_n 0, 1) := by decide +kernel
theorem dL_hangs_306 : decode cL_hangs 306 = .ok (.iload 7, 2) := by decide +kernel
theorem dL_hangs_308 : decode cL_hangs 308 = .ok (.iconst 3, 1) := by decide +kernel
theorem dL_hangs_309 : decode cL_hangs 309 = .ok (.invokestatic 98, 3) := by decide +kernel
theorem dL_hangs_312 : decode cL_hangs 312 = .ok (.istore 10, 2) := by decide +kernel
theorem dL_hangs_314 : decode cL_hangs 314 = .ok (.iload_n 2, 1) := by decide +kernel
theorem dL_hangs_315 : decode cL_hangs 315 = .ok (.aload_n 0, 1) := by decide +kernel
theorem dL_hangs_316 : decode cL_hangs 316 = .ok (.iload 7, 2) := by decide +kernel
theorem dL_hangs_318 : decode cL_hangs 318 = .ok (.iconst 0, 1) := by decide +kernel
theorem dL_hangs_319 : decode cL_hangs 319 = .ok (.invokestatic 98, 3) := by decide +kernel
theorem dL_hangs_322 : decode cL_hangs 322 = .ok (.iadd, 1) := by decide +kernel
theorem dL_hangs_323 : decode cL_hangs 323 = .ok (.istore_n 2, 1) := by decide +kernel
theorem dL_hangs_324 : decode cL_hangs 324 = .ok (.aload_n 0, 1) := by decide +kernel
theorem dL_hangs_325 : decode cL_hangs 325 = .ok (.iload 7, 2) := by decide +kernel
theorem dL_hangs_327 : decode cL_hangs 327 = .ok (.iconst 1, 1) := by decide +kernel
theorem dL_hangs_328 : decode cL_hangs 328 = .ok (.invokestatic 98, 3) := by decide +kernel
theorem dL_hangs_331 : decode cL_hangs 331 = .ok (.iload 8, 2) := by decide +kernel
theorem dL_hangs_333 : decode cL_hangs 333 = .ok (.if_icmp .ne 75, 3) := by decide +kernel
theorem dL_hangs_336 : decode cL_hangs 336 = .ok (.aload_n 0, 1) := by decide +kernel
theorem dL_hangs_337 : decode cL_hangs 337 = .ok (.iload 7, 2) := by decide +kernel
theorem dL_hangs_339 : decode cL_hangs 339 = .ok (.iconst 2, 1) := by decide +kernel
theorem dL_hangs_340 : decode cL_hangs 340 = .ok (.invokestatic 98, 3) := by decide +kernel
theorem dL_hangs_343 : decode cL_hangs 343 = .ok (.iload 9, 2) := by decide +kernel
theorem dL_hangs_345 : decode cL_hangs 345 = .ok (.if_icmp .ne 63, 3) := by decide +kernel
theorem dL_hangs_348 : decode cL_hangs 348 = .ok (.iload 10, 2) := by decide +kernel
theorem dL_hangs_350 : decode cL_hangs 350 = .ok (.iconst (-1), 1) := by decide +kernel
theorem dL_hangs_351 : decode cL_hangs 351 = .ok (.if_icmp .ne 7, 3) := by decide +kernel
theorem dL_hangs_354 : decode cL_hangs 354 = .ok (.iconst 1, 1) := by decide +kernel
theorem dL_hangs_355 : decode cL_hangs 355 = .ok (.goto 4, 3) := by decide +kernel
theorem dL_hangs_358 : decode cL_hangs 358 = .ok (.iconst 0, 1) := by decide +kernel
theorem dL_hangs_359 : decode cL_hangs 359 = .ok (.iload 8, 2) := by decide +kernel
theorem dL_hangs_361 : decode cL_hangs 361 = .ok (.ifCond .ne 7, 3) := by decide +kernel
theorem dL_hangs_364 : decode cL_hangs 364 = .ok (.iconst 1, 1) := by decide +kernel
theorem dL_hangs_365 : decode cL_hangs 365 = .ok (.goto 4, 3) := by decide +kernel
theorem dL_hangs_368 : decode cL_hangs 368 = .ok (.iconst 0, 1) := by decide +kernel
theorem dL_hangs_369 : decode cL_hangs 369 = .ok (.if_icmp .ne 39, 3) := by decide +kernel
theorem dL_hangs_372 : decode cL_hangs 372 = .ok (.iload 10, 2) := by decide +kernel
theorem dL_hangs_374 : decode cL_hangs 374 = .ok (.ifCond .lt 22, 3) := by decide +kernel
theorem dL_hangs_377 : decode cL_hangs 377 = .ok (.iload 10, 2) := by decide +kernel
theorem dL_hangs_379 : decode cL_hangs 379 = .ok (.iconst 4, 1) := by decide +kernel
theorem dL_hangs_380 : decode cL_hangs 380 = .ok (.idiv, 1) := by decide +kernel
theorem dL_hangs_381 : decode cL_hangs 381 = .ok (.iload 7, 2) := by decide +kernel
theorem dL_hangs_383 : decode cL_hangs 383 = .ok (.if_icmp .ne 25, 3) := by decide +kernel
theorem dL_hangs_386 : decode cL_hangs 386 = .ok (.aload_n 0, 1) := by decide +kernel
theorem dL_hangs_387 : decode cL_hangs 387 = .ok (.iload 10, 2) := by decide +kernel
theorem dL_hangs_389 : decode cL_hangs 389 = .ok (.iconst 0, 1) := by decide +kernel
theorem dL_hangs_390 : decode cL_hangs 390 = .ok (.invokestatic 92, 3) := by decide +kernel
theorem dL_hangs_393 : decode cL_hangs 393 = .ok (.ifCond .eq 15, 3) := by decide +kernel
theorem dL_hangs_396 : decode cL_hangs 396 = .ok (.iload 9, 2) := by decide +kernel
theorem dL_hangs_398 : decode cL_hangs 398 = .ok (.aload_n 0, 1) := by decide +kernel
theorem dL_hangs_399 : decode cL_hangs 399 = .ok (.iload 7, 2) := by decide +kernel
theorem dL_hangs_401 : decode cL_hangs 401 = .ok (.iconst 0, 1) := by decide +kernel
theorem dL_hangs_402 : decode cL_hangs 402 = .ok (.invokestatic 98, 3) := by decide +kernel
theorem dL_hangs_405 : decode cL_hangs 405 = .ok (.if_icmp .le 5, 3) := by decide +kernel
theorem dL_hangs_408 : decode cL_hangs 408 = .ok (.iconst 0, 1) := by decide +kernel
theorem dL_hangs_409 : decode cL_hangs 409 = .ok (.ireturn, 1) := by decide +kernel
theorem dL_hangs_410 : decode cL_hangs 410 = .ok (.iinc 7 1, 3) := by decide +kernel
theorem dL_hangs_413 : decode cL_hangs 413 = .ok (.goto (-190), 3) := by decide +kernel
theorem dL_hangs_416 : decode cL_hangs 416 = .ok (.aload_n 0, 1) := by decide +kernel
theorem dL_hangs_417 : decode cL_hangs 417 = .ok (.invokevirtual 106, 3) := by decide +kernel
theorem dL_hangs_420 : decode cL_hangs 420 = .ok (.istore 7, 2) := by decide +kernel
theorem dL_hangs_422 : decode cL_hangs 422 = .ok (.aload_n 0, 1) := by decide +kernel
theorem dL_hangs_423 : decode cL_hangs 423 = .ok (.iconst 3, 1) := by decide +kernel
theorem dL_hangs_424 : decode cL_hangs 424 = .ok (.invokestatic 109, 3) := by decide +kernel
theorem dL_hangs_427 : decode cL_hangs 427 = .ok (.iload_n 1, 1) := by decide +kernel
theorem dL_hangs_428 : decode cL_hangs 428 = .ok (.if_icmp .ne 101, 3) := by decide +kernel
theorem dL_hangs_431 : decode cL_hangs 431 = .ok (.aload_n 0, 1) := by decide +kernel
theorem dL_hangs_432 : decode cL_hangs 432 = .ok (.bipush 7, 2) := by decide +kernel
theorem dL_hangs_434 : decode cL_hangs 434 = .ok (.invokestatic 109, 3) := by decide +kernel
theorem dL_hangs_437 : decode cL_hangs 437 = .ok (.iload_n 2, 1) := by decide +kernel
theorem dL_hangs_438 : decode cL_hangs 438 = .ok (.if_icmp .ne 91, 3) := by decide +kernel
theorem dL_hangs_441 : decode cL_hangs 441 = .ok (.aload_n 0, 1) := by decide +kernel
theorem dL_hangs_442 : decode cL_hangs 442 = .ok (.bipush 7, 2) := by decide +kernel
theorem dL_hangs_444 : decode cL_hangs 444 = .ok (.invokestatic 109, 3) := by decide +kernel
theorem dL_hangs_447 : decode cL_hangs 447 = .ok (.aload_n 0, 1) := by decide +kernel
theorem dL_hangs_448 : decode cL_hangs 448 = .ok (.bipush 8, 2) := by decide +kernel
theorem dL_hangs_450 : decode cL_hangs 450 = .ok (.invokestatic 109, 3) := by decide +kernel
theorem dL_hangs_453 : decode cL_hangs 453 = .ok (.iadd, 1) := by decide +kernel
theorem dL_hangs_454 : decode cL_hangs 454 = .ok (.aload_n 0, 1) := by decide +kernel
theorem dL_hangs_455 : decode cL_hangs 455 = .ok (.bipush 10, 2) := by decide +kernel
theorem dL_hangs_457 : decode cL_hangs 457 = .ok (.invokestatic 109, 3) := by decide +kernel
theorem dL_hangs_460 : decode cL_hangs 460 = .ok (.iadd, 1) := by decide +kernel
theorem dL_hangs_461 : decode cL_hangs 461 = .ok (.aload_n 0, 1) := by decide +kernel
theorem dL_hangs_462 : decode cL_hangs 462 = .ok (.bipush 9, 2) := by decide +kernel
theorem dL_hangs_464 : decode cL_hangs 464 = .ok (.invokestatic 109, 3) := by decide +kernel
theorem dL_hangs_467 : decode cL_hangs 467 = .ok (.if_icmp .ne 62, 3) := by decide +kernel
theorem dL_hangs_470 : decode cL_hangs 470 = .ok (.aload_n 0, 1) := by decide +kernel
theorem dL_hangs_471 : decode cL_hangs 471 = .ok (.iconst 4, 1) := by decide +kernel
theorem dL_hangs_472 : decode cL_hangs 472 = .ok (.invokestatic 109, 3) := by decide +kernel
theorem dL_hangs_475 : decode cL_hangs 475 = .ok (.aload_n 0, 1) := by decide +kernel
theorem dL_hangs_476 : decode cL_hangs 476 = .ok (.iconst 5, 1) := by decide +kernel
theorem dL_hangs_477 : decode cL_hangs 477 = .ok (.invokestatic 109, 3) := by decide +kernel
theorem dL_hangs_480 : decode cL_hangs 480 = .ok (.iadd, 1) := by decide +kernel
theorem dL_hangs_481 : decode cL_hangs 481 = .ok (.iload_n 1, 1) := by decide +kernel
theorem dL_hangs_482 : decode cL_hangs 482 = .ok (.if_icmp .lt 47, 3) := by decide +kernel
theorem dL_hangs_485 : decode cL_hangs 485 = .ok (.iload 7, 2) := by decide +kernel
theorem dL_hangs_487 : decode cL_hangs 487 = .ok (.iconst (-1), 1) := by decide +kernel
theorem dL_hangs_488 : decode cL_hangs 488 = .ok (.if_icmp .ne 7, 3) := by decide +kernel
theorem dL_hangs_491 : decode cL_hangs 491 = .ok (.iconst 1, 1) := by decide +kernel
theorem dL_hangs_492 : decode cL_hangs 492 = .ok (.goto 4, 3) := by decide +kernel
theorem dL_hangs_495 : decode cL_hangs 495 = .ok (.iconst 0, 1) := by decide +kernel
theorem dL_hangs_496 : decode cL_hangs 496 = .ok (.iload_n 1, 1) := by decide +kernel
theorem dL_hangs_497 : decode cL_hangs 497 = .ok (.ifCond .ne 7, 3) := by decide +kernel
theorem dL_hangs_500 : decode cL_hangs 500 = .ok (.iconst 1, 1) := by decide +kernel
theorem dL_hangs_501 : decode cL_hangs 501 = .ok (.goto 4, 3) := by decide +kernel
theorem dL_hangs_504 : decode cL_hangs 504 = .ok (.iconst 0, 1) := by decide +kernel
theorem dL_hangs_505 : decode cL_hangs 505 = .ok (.if_icmp .ne 24, 3) := by decide +kernel
theorem dL_hangs_508 : decode cL_hangs 508 = .ok (.iload 7, 2) := by decide +kernel
theorem dL_hangs_510 : decode cL_hangs 510 = .ok (.ifCond .lt 15, 3) := by decide +kernel
theorem dL_hangs_513 : decode cL_hangs 513 = .ok (.aload_n 0, 1) := by decide +kernel
theorem dL_hangs_514 : decode cL_hangs 514 = .ok (.iload 7, 2) := by decide +kernel
theorem dL_hangs_516 : decode cL_hangs 516 = .ok (.iconst 1, 1) := by decide +kernel
theorem dL_hangs_517 : decode cL_hangs 517 = .ok (.invokestatic 92, 3) := by decide +kernel
theorem dL_hangs_520 : decode cL_hangs 520 = .ok (.iload 6, 2) := by decide +kernel
theorem dL_hangs_522 : decode cL_hangs 522 = .ok (.if_icmp .ne 7, 3) := by decide +kernel
theorem dL_hangs_525 : decode cL_hangs 525 = .ok (.iconst 1, 1) := by decide +kernel
theorem dL_hangs_526 : decode cL_hangs 526 = .ok (.goto 4, 3) := by decide +kernel
theorem dL_hangs_529 : decode cL_hangs 529 = .ok (.iconst 0, 1) := by decide +kernel
theorem dL_hangs_530 : decode cL_hangs 530 = .ok (.istore 8, 2) := by decide +kernel
theorem dL_hangs_532 : decode cL_hangs 532 = .ok (.iload 8, 2) := by decide +kernel
theorem dL_hangs_534 : decode cL_hangs 534 = .ok (.ifCond .eq 75, 3) := by decide +kernel
theorem dL_hangs_537 : decode cL_hangs 537 = .ok (.aload_n 0, 1) := by decide +kernel
theorem dL_hangs_538 : decode cL_hangs 538 = .ok (.iconst 0, 1) := by decide +kernel
theorem dL_hangs_539 : decode cL_hangs 539 = .ok (.invokestatic 109, 3) := by decide +kernel
theorem dL_hangs_542 : decode cL_hangs 542 = .ok (.ifCond .lt 67, 3) := by decide +kernel
theorem dL_hangs_545 : decode cL_hangs 545 = .ok (.aload_n 0, 1) := by decide +kernel
theorem dL_hangs_546 : decode cL_hangs 546 = .ok (.iconst 0, 1) := by decide +kernel
theorem dL_hangs_547 : decode cL_hangs 547 = .ok (.invokestatic 109, 3) := by decide +kernel
theorem dL_hangs_550 : decode cL_hangs 550 = .ok (.bipush 100, 2) := by decide +kernel
theorem dL_hangs_552 : decode cL_hangs 552 = .ok (.if_icmp .gt 57, 3) := by decide +kernel
theorem dL_hangs_555 : decode cL_hangs 555 = .ok (.aload_n 0, 1) := by decide +kernel
theorem dL_hangs_556 : decode cL_hangs 556 = .ok (.iconst 1, 1) := by decide +kernel
theorem dL_hangs_557 : decode cL_hangs 557 = .ok (.invokestatic 109, 3) := by decide +kernel
theorem dL_hangs_560 : decode cL_hangs 560 = .ok (.ifCond .lt 49, 3) := by decide +kernel
theorem dL_hangs_563 : decode cL_hangs 563 = .ok (.aload_n 0, 1) := by decide +kernel
theorem dL_hangs_564 : decode cL_hangs 564 = .ok (.iconst 1, 1) := by decide +kernel
theorem dL_hangs_565 : decode cL_hangs 565 = .ok (.invokestatic 109, 3) := by decide +kernel
theorem dL_hangs_568 : decode cL_hangs 568 = .ok (.bipush 100, 2) := by decide +kernel
theorem dL_hangs_570 : decode cL_hangs 570 = .ok (.if_icmp .gt 39, 3) := by decide +kernel
theorem dL_hangs_573 : decode cL_hangs 573 = .ok (.aload_n 0, 1) := by decide +kernel
theorem dL_hangs_574 : decode cL_hangs 574 = .ok (.iconst 2, 1) := by decide +kernel
theorem dL_hangs_575 : decode cL_hangs 575 = .ok (.invokestatic 109, 3) := by decide +kernel
theorem dL_hangs_578 : decode cL_hangs 578 = .ok (.aload_n 0, 1) := by decide +kernel
theorem dL_hangs_579 : decode cL_hangs 579 = .ok (.iconst 1, 1) := by decide +kernel
theorem dL_hangs_580 : decode cL_hangs 580 = .ok (.invokestatic 109, 3) := by decide +kernel
theorem dL_hangs_583 : decode cL_hangs 583 = .ok (.bipush 50, 2) := by decide +kernel
theorem dL_hangs_585 : decode cL_hangs 585 = .ok (.if_icmp .ge 16, 3) := by decide +kernel
theorem dL_hangs_588 : decode cL_hangs 588 = .ok (.bipush 50, 2) := by decide +kernel
theorem dL_hangs_590 : decode cL_hangs 590 = .ok (.aload_n 0, 1) := by decide +kernel
theorem dL_hangs_591 : decode cL_hangs 591 = .ok (.iconst 1, 1) := by decide +kernel
theorem dL_hangs_592 : decode cL_hangs 592 = .ok (.invokestatic 109, 3) := by decide +kernel
theorem dL_hangs_595 : decode cL_hangs 595 = .ok (.isub, 1) := by decide +kernel
theorem dL_hangs_596 : decode cL_hangs 596 = .ok (.iconst 5, 1) := by decide +kernel
theorem dL_hangs_597 : decode cL_hangs 597 = .ok (.idiv, 1) := by decide +kernel
theorem dL_hangs_598 : decode cL_hangs 598 = .ok (.goto 4, 3) := by decide +kernel
theorem dL_hangs_601 : decode cL_hangs 601 = .ok (.iconst 0, 1) := by decide +kernel
theorem dL_hangs_602 : decode cL_hangs 602 = .ok (.if_icmp .ne 7, 3) := by decide +kernel
theorem dL_hangs_605 : decode cL_hangs 605 = .ok (.iconst 1, 1) := by decide +kernel
theorem dL_hangs_606 : decode cL_hangs 606 = .ok (.goto 4, 3) := by decide +kernel
theorem dL_hangs_609 : decode cL_hangs 609 = .ok (.iconst 0, 1) := by decide +kernel
theorem dL_hangs_610 : decode cL_hangs 610 = .ok (.istore 8, 2) := by decide +kernel
theorem dL_hangs_612 : decode cL_hangs 612 = .ok (.iload 8, 2) := by decide +kernel
theorem dL_hangs_614 : decode cL_hangs 614 = .ok (.ifCond .eq 53, 3) := by decide +kernel
theorem dL_hangs_617 : decode cL_hangs 617 = .ok (.aload_n 0, 1) := by decide +kernel
theorem dL_hangs_618 : decode cL_hangs 618 = .ok (.invokevirtual 111, 3) := by decide +kernel
theorem dL_hangs_621 : decode cL_hangs 621 = .ok (.iload_n 1, 1) := by decide +kernel
theorem dL_hangs_622 : decode cL_hangs 622 = .ok (.ifCond .ne 7, 3) := by decide +kernel
theorem dL_hangs_625 : decode cL_hangs 625 = .ok (.fconst 0, 1) := by decide +kernel
theorem dL_hangs_626 : decode cL_hangs 626 = .ok (.goto 8, 3) := by decide +kernel
theorem dL_hangs_629 : decode cL_hangs 629 = .ok (.iload_n 3, 1) := by decide +kernel
theorem dL_hangs_630 : decode cL_hangs 630 = .ok (.i2f, 1) := by decide +kernel
theorem dL_hangs_631 : decode cL_hangs 631 = .ok (.iload_n 1, 1) := by decide +kernel
theorem dL_hangs_632 : decode cL_hangs 632 = .ok (.i2f, 1) := by decide +kernel
theorem dL_hangs_633 : decode cL_hangs 633 = .ok (.fdiv, 1) := by decide +kernel
theorem dL_hangs_634 : decode cL_hangs 634 = .ok (.fcmp .l, 1) := by decide +kernel
theorem dL_hangs_635 : decode cL_hangs 635 = .ok (.ifCond .ne 32, 3) := by decide +kernel
theorem dL_hangs_638 : decode cL_hangs 638 = .ok (.aload_n 0, 1) := by decide +kernel
theorem dL_hangs_639 : decode cL_hangs 639 = .ok (.invokevirtual 115, 3) := by decide +kernel
theorem dL_hangs_642 : decode cL_hangs 642 = .ok (.iload_n 1, 1) := by decide +kernel
theorem dL_hangs_643 : decode cL_hangs 643 = .ok (.ifCond .ne 7, 3) := by decide +kernel
theorem dL_hangs_646 : decode cL_hangs 646 = .ok (.dconst 0, 1) := by decide +kernel
theorem dL_hangs_647 : decode cL_hangs 647 = .ok (.goto 12, 3) := by decide +kernel
theorem dL_hangs_650 : decode cL_hangs 650 = .ok (.iload 4, 2) := by decide +kernel
theorem dL_hangs_652 : decode cL_hangs 652 = .ok (.i2d, 1) := by decide +kernel
theorem dL_hangs_653 : decode cL_hangs 653 = .ok (.bipush 100, 2) := by decide +kernel
theorem dL_hangs_655 : decode cL_hangs 655 = .ok (.iload_n 1, 1) := by decide +kernel
theorem dL_hangs_656 : decode cL_hangs 656 = .ok (.imul, 1) := by decide +kernel
theorem dL_hangs_657 : decode cL_hangs 657 = .ok (.i2d, 1) := by decide +kernel
theorem dL_hangs_658 : decode cL_hangs 658 = .ok (.ddiv, 1) := by decide +kernel
theorem dL_hangs_659 : decode cL_hangs 659 = .ok (.dcmp .l, 1) := by decide +kernel
theorem dL_hangs_660 : decode cL_hangs 660 = .ok (.ifCond .ne 7, 3) := by decide +kernel
theorem dL_hangs_663 : decode cL_hangs 663 = .ok (.iconst 1, 1) := by decide +kernel
theorem dL_hangs_664 : decode cL_hangs 664 = .ok (.goto 4, 3) := by decide +kernel
theorem dL_hangs_667 : decode cL_hangs 667 = .ok (.iconst 0, 1) := by decide +kernel
theorem dL_hangs_668 : decode cL_hangs 668 = .ok (.ireturn, 1) := by decide +kernel
