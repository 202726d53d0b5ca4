set_option maxRecDepth 20000 in
theorem ggL_copies_L_ifCopied : GoodIn wsL_copies wsL_ifCopied := goodIn_ca (goodIn_ca (goodIn_r _ [4, 5, 6, 7, 8, 9, 10, 11, 12, 13, 14, 15, 16, 17, 18, 19, 20, 21, 22, 23, 24, 25, 26, 27, 28, 29, 30, 31, 32, 33, 34, 35, 36, 37, 38, 39, 40, 41, 42, 43, 44, 45, 46, 47, 48, 49, 50, 51, 52, 53, 54, 55, 56, 57, 58, 59, 60, 61, 62, 212, 213, 214, 215, 216, 217, 218, 219, 220, 221, 222, 223, 224, 225, 226, 227, 228, 229, 230, 231, 232, 233, 234, 235, 236, 237] (by decide +kernel) (by decide +kernel)) (goodIn_sub (fun _ h => List.mem_cons_of_mem _ (List.mem_append_left _ (List.mem_append_left _ (List.mem_append_right _ h)))) (by decide +kernel))) (goodIn_sub (fun _ h => List.mem_cons_of_mem _ (List.mem_append_left _ (List.mem_append_right _ h))) (by decide +kernel))
set_option maxRecDepth 20000 in
theorem gL_copies_L_ifCopied : GoodIn wsL_copies (va_wsS RL 126 yL_ifCopied wsL_ifCopied) := goodIn_app (goodIn_of _ (by decide +kernel)) ggL_copies_L_ifCopied
set_option maxRecDepth 20000 in
theorem ggL_copies_L_daughters : GoodIn wsL_copies wsL_daughters := goodIn_ca (goodIn_r _ [65, 5, 7, 66, 67, 68, 12, 69, 14, 15, 16, 17, 18, 19, 20, 70, 71, 72, 30, 73, 74, 75, 76, 77, 78, 212, 213, 214, 215, 216, 217, 218, 219, 220, 221, 222, 223, 224, 225, 226, 227, 228, 229, 230, 231, 232, 233, 234, 235, 236, 237] (by decide +kernel) (by decide +kernel)) (goodIn_sub (fun _ h => List.mem_cons_of_mem _ (List.mem_append_left _ (List.mem_append_left _ (List.mem_append_right _ h)))) (by decide +kernel))
set_option maxRecDepth 20000 in
theorem gL_copies_L_daughters : GoodIn wsL_copies (va_wsS RL 104 yL_daughters wsL_daughters) := goodIn_app (goodIn_of _ (by decide +kernel)) ggL_copies_L_daughters
set_option maxRecDepth 20000 in
theorem ggL_copies_L_count : GoodIn wsL_copies wsL_count := goodIn_ca (goodIn_r _ [81, 6, 7, 82, 83, 84, 12, 85, 86, 14, 87, 88, 89, 90, 25, 26, 91, 92, 93, 30, 94, 53, 34, 95, 96, 97, 98, 99, 100, 101, 54, 55, 56, 57, 102, 103, 104, 105, 106, 107, 108, 109, 35, 36, 37, 38, 33, 110, 111, 112, 113, 32, 212, 213, 214, 215, 216, 217, 218, 219, 220, 221, 222, 223, 224, 225, 226, 227, 228, 229, 230, 231, 232, 233, 234, 235, 236, 237] (by decide +kernel) (by decide +kernel)) (goodIn_sub (fun _ h => List.mem_cons_of_mem _ (List.mem_append_left _ (List.mem_append_right _ h))) (by decide +kernel))
set_option maxRecDepth 20000 in
theorem gL_copies_L_count : GoodIn wsL_copies (va_wsS RL 109 yL_count wsL_count) := goodIn_app (goodIn_of _ (by decide +kernel)) ggL_copies_L_count
set_option maxRecDepth 20000 in
theorem ggL_copies_L_print : GoodIn wsL_copies wsL_print := goodIn_ca (goodIn_ca (goodIn_r _ [116, 117, 118, 119, 120, 121, 12, 122, 14, 123, 79, 80, 3, 81, 6, 7, 82, 83, 84, 85, 86, 87, 88, 89, 90, 25, 26, 91, 92, 93, 30, 94, 53, 34, 95, 96, 97, 98, 99, 100, 101, 54, 55, 56, 57, 102, 103, 104, 105, 106, 107, 108, 109, 35, 36, 37, 38, 33, 110, 111, 112, 113, 32, 124, 125, 126, 5, 8, 127, 128, 129, 130, 15, 16, 17, 18, 19, 20, 131, 132, 133, 134, 52, 135, 136, 78, 137, 138, 139, 140, 141, 142, 143, 144, 145, 146, 147, 148, 149, 150, 151, 152, 153, 154, 155, 156, 157, 158, 159, 42, 43, 44, 160, 161, 162, 163, 212, 213, 214, 215, 216, 217, 218, 219, 220, 221, 222, 223, 224, 225, 226, 227, 228, 229, 230, 231, 232, 233, 234, 235, 236, 237] (by decide +kernel) (by decide +kernel)) (goodIn_sub (fun _ h => List.mem_cons_of_mem _ (List.mem_append_left _ (List.mem_append_right _ h))) (by decide +kernel))) (goodIn_sub (fun _ h => List.mem_cons_of_mem _ (List.mem_append_left _ (List.mem_append_left _ (List.mem_append_right _ h)))) (by decide +kernel))
set_option maxRecDepth 20000 in
theorem gL_copies_L_print : GoodIn wsL_copies (va_wsS RL 128 yL_print wsL_print) := goodIn_app (goodIn_of _ (by decide +kernel)) ggL_copies_L_print
set_option maxRecDepth 20000 in
theorem ggL_copies_L_copy : GoodIn wsL_copies wsL_copy := goodIn_ca (goodIn_ca (goodIn_r _ [166, 5, 6, 7, 8, 167, 168, 169, 12, 170, 14, 15, 16, 17, 18, 19, 20, 21, 22, 23, 24, 25, 26, 171, 172, 173, 174, 86, 175, 176, 177, 178, 179, 180, 181, 182, 30, 183, 33, 184, 185, 186, 187, 52, 135, 136, 78, 137, 138, 32, 154, 53, 34, 188, 95, 96, 97, 98, 99, 100, 101, 189, 190, 191, 192, 193, 46, 43, 47, 194, 28, 29, 31, 35, 36, 37, 38, 39, 40, 41, 42, 44, 45, 54, 55, 56, 57, 195, 49, 50, 51, 58, 59, 60, 61, 62, 196, 197, 198, 199, 200, 201, 212, 213, 214, 215, 216, 217, 218, 219, 220, 221, 222, 223, 224, 225, 226, 227, 228, 229, 230, 231, 232, 233, 234, 235, 236, 237] (by decide +kernel) (by decide +kernel)) (goodIn_sub (fun _ h => List.mem_cons_of_mem _ (List.mem_append_left _ (List.mem_append_left _ (List.mem_append_right _ h)))) (by decide +kernel))) (goodIn_sub (fun _ h => List.mem_cons_of_mem _ (List.mem_append_left _ (List.mem_append_right _ h))) (by decide +kernel))
set_option maxRecDepth 20000 in
theorem gL_copies_L_copy : GoodIn wsL_copies (va_wsS RL 74 yL_copy wsL_copy) := goodIn_app (goodIn_of _ (by decide +kernel)) ggL_copies_L_copy
set_option maxRecDepth 20000 in
theorem ggL_copies_L_trackOf : GoodIn wsL_copies wsL_trackOf := goodIn_ca (goodIn_ca (goodIn_r _ [126, 5, 6, 7, 8, 127, 128, 129, 12, 130, 14, 15, 16, 17, 18, 19, 20, 87, 88, 89, 90, 25, 26, 131, 132, 133, 30, 134, 33, 52, 135, 136, 78, 137, 138, 35, 36, 37, 38, 212, 213, 214, 215, 216, 217, 218, 219, 220, 221, 222, 223, 224, 225, 226, 227, 228, 229, 230, 231, 232, 233, 234, 235, 236, 237] (by decide +kernel) (by decide +kernel)) (goodIn_sub (fun _ h => List.mem_cons_of_mem _ (List.mem_append_left _ (List.mem_append_left _ (List.mem_append_right _ h)))) (by decide +kernel))) (goodIn_sub (fun _ h => List.mem_cons_of_mem _ (List.mem_append_left _ (List.mem_append_right _ h))) (by decide +kernel))
set_option maxRecDepth 20000 in
theorem gL_copies_L_trackOf : GoodIn wsL_copies (va_wsS RL 92 yL_trackOf wsL_trackOf) := goodIn_app (goodIn_of _ (by decide +kernel)) ggL_copies_L_trackOf
set_option maxRecDepth 20000 in
theorem ggL_copies_L_undo : GoodIn wsL_copies wsL_undo := goodIn_ca (goodIn_r _ [204, 205, 7, 206, 207, 208, 12, 209, 210, 211, 86, 14, 175, 180, 181, 182, 30, 183, 33, 184, 185, 186, 187, 52, 135, 136, 78, 137, 138, 32, 154, 53, 34, 188, 95, 96, 97, 98, 99, 100, 101, 212, 213, 214, 215, 216, 217, 218, 219, 220, 221, 222, 223, 224, 225, 226, 227, 228, 229, 230, 231, 232, 233, 234, 235, 236, 237] (by decide +kernel) (by decide +kernel)) (goodIn_sub (fun _ h => List.mem_cons_of_mem _ (List.mem_append_right _ h)) (by decide +kernel))
set_option maxRecDepth 20000 in
theorem gL_copies_L_undo : GoodIn wsL_copies (va_wsS RL 132 yL_undo wsL_undo) := goodIn_app (goodIn_of _ (by decide +kernel)) ggL_copies_L_undo
theorem dL_copies_0 : decode cL_copies 0 = .ok (.aload_n 0, 1) := by decide +kernel
theorem dL_copies_1 : decode cL_copies 1 = .ok (.iload_n 1, 1) := by decide +kernel
theorem dL_copies_2 : decode cL_copies 2 = .ok (.iload_n 2, 1) := by decide +kernel
theorem dL_copies_3 : decode cL_copies 3 = .ok (.iload_n 3, 1) := by decide +kernel
theorem dL_copies_4 : decode cL_copies 4 = .ok (.invokestatic 126, 3) := by decide +kernel
theorem dL_copies_7 : decode cL_copies 7 = .ok (.istore 4, 2) := by decide +kernel
theorem dL_copies_9 : decode cL_copies 9 = .ok (.aload_n 0, 1) := by decide +kernel
theorem dL_copies_10 : decode cL_copies 10 = .ok (.iload_n 1, 1) := by decide +kernel
theorem dL_copies_11 : decode cL_copies 11 = .ok (.invokestatic 104, 3) := by decide +kernel
theorem dL_copies_14 : decode cL_copies 14 = .ok (.istore 5, 2) := by decide +kernel
theorem dL_copies_16 : decode cL_copies 16 = .ok (.aload_n 0, 1) := by decide +kernel
theorem dL_copies_17 : decode cL_copies 17 = .ok (.bipush 11, 2) := by decide +kernel
theorem dL_copies_19 : decode cL_copies 19 = .ok (.invokestatic 109, 3) := by decide +kernel
theorem dL_copies_22 : decode cL_copies 22 = .ok (.istore 6, 2) := by decide +kernel
theorem dL_copies_24 : decode cL_copies 24 = .ok (.aload_n 0, 1) := by decide +kernel
theorem dL_copies_25 : decode cL_copies 25 = .ok (.iconst 5, 1) := by decide +kernel
theorem dL_copies_26 : decode cL_copies 26 = .ok (.invokestatic 109, 3) := by decide +kernel
theorem dL_copies_29 : decode cL_copies 29 = .ok (.istore 7, 2) := by decide +kernel
theorem dL_copies_31 : decode cL_copies 31 = .ok (.aload_n 0, 1) := by decide +kernel
theorem dL_copies_32 : decode cL_copies 32 = .ok (.invokestatic 128, 3) := by decide +kernel
theorem dL_copies_35 : decode cL_copies 35 = .ok (.lstore 8, 2) := by decide +kernel
theorem dL_copies_37 : decode cL_copies 37 = .ok (.aload_n 0, 1) := by decide +kernel
theorem dL_copies_38 : decode cL_copies 38 = .ok (.iload_n 1, 1) := by decide +kernel
theorem dL_copies_39 : decode cL_copies 39 = .ok (.iload_n 2, 1) := by decide +kernel
theorem dL_copies_40 : decode cL_copies 40 = .ok (.iload_n 3, 1) := by decide +kernel
theorem dL_copies_41 : decode cL_copies 41 = .ok (.invokestatic 74, 3) := by decide +kernel
theorem dL_copies_44 : decode cL_copies 44 = .ok (.istore 10, 2) := by decide +kernel
theorem dL_copies_46 : decode cL_copies 46 = .ok (.iconst 1, 1) := by decide +kernel
theorem dL_copies_47 : decode cL_copies 47 = .ok (.istore 11, 2) := by decide +kernel
theorem dL_copies_49 : decode cL_copies 49 = .ok (.iload 10, 2) := by decide +kernel
theorem dL_copies_51 : decode cL_copies 51 = .ok (.ifCond .ne 101, 3) := by decide +kernel
theorem dL_copies_54 : decode cL_copies 54 = .ok (.iload 4, 2) := by decide +kernel
theorem dL_copies_56 : decode cL_copies 56 = .ok (.ifCond .lt 90, 3) := by decide +kernel
theorem dL_copies_59 : decode cL_copies 59 = .ok (.aload_n 0, 1) := by decide +kernel
theorem dL_copies_60 : decode cL_copies 60 = .ok (.iload_n 2, 1) := by decide +kernel
theorem dL_copies_61 : decode cL_copies 61 = .ok (.iconst 1, 1) := by decide +kernel
theorem dL_copies_62 : decode cL_copies 62 = .ok (.invokestatic 92, 3) := by decide +kernel
theorem dL_copies_65 : decode cL_copies 65 = .ok (.iload 4, 2) := by decide +kernel
theorem dL_copies_67 : decode cL_copies 67 = .ok (.if_icmp .ne 79, 3) := by decide +kernel
theorem dL_copies_70 : decode cL_copies 70 = .ok (.aload_n 0, 1) := by decide +kernel
theorem dL_copies_71 : decode cL_copies 71 = .ok (.iload_n 2, 1) := by decide +kernel
theorem dL_copies_72 : decode cL_copies 72 = .ok (.iconst 4, 1) := by decide +kernel
theorem dL_copies_73 : decode cL_copies 73 = .ok (.invokestatic 92, 3) := by decide +kernel
theorem dL_copies_76 : decode cL_copies 76 = .ok (.iload_n 1, 1) := by decide +kernel
theorem dL_copies_77 : decode cL_copies 77 = .ok (.if_icmp .ne 69, 3) := by decide +kernel
theorem dL_copies_80 : decode cL_copies 80 = .ok (.aload_n 0, 1) := by decide +kernel
theorem dL_copies_81 : decode cL_copies 81 = .ok (.iload_n 2, 1) := by decide +kernel
theorem dL_copies_82 : decode cL_copies 82 = .ok (.iconst 3, 1) := by decide +kernel
theorem dL_copies_83 : decode cL_copies 83 = .ok (.invokestatic 92, 3) := by decide +kernel
theorem dL_copies_86 : decode cL_copies 86 = .ok (.aload_n 0, 1) := by decide +kernel
theorem dL_copies_87 : decode cL_copies 87 = .ok (.iload_n 1, 1) := by decide +kernel
theorem dL_copies_88 : decode cL_copies 88 = .ok (.iconst 3, 1) := by decide +kernel
theorem dL_copies_89 : decode cL_copies 89 = .ok (.invokestatic 92, 3) := by decide +kernel
theorem dL_copies_92 : decode cL_copies 92 = .ok (.iconst 1, 1) := by decide +kernel
theorem dL_copies_93 : decode cL_copies 93 = .ok (.iadd, 1) := by decide +kernel
theorem dL_copies_94 : decode cL_copies 94 = .ok (.if_icmp .ne 52, 3) := by decide +kernel
theorem dL_copies_97 : decode cL_copies 97 = .ok (.aload_n 0, 1) := by decide +kernel
theorem dL_copies_98 : decode cL_copies 98 = .ok (.iconst 5, 1) := by decide +kernel
theorem dL_copies_99 : decode cL_copies 99 = .ok (.invokestatic 109, 3) := by decide +kernel
theorem dL_copies_102 : decode cL_copies 102 = .ok (.iload 7, 2) := by decide +kernel
theorem dL_copies_104 : decode cL_copies 104 = .ok (.iconst 1, 1) := by decide +kernel
theorem dL_copies_105 : decode cL_copies 105 = .ok (.iadd, 1) := by decide +kernel
theorem dL_copies_106 : decode cL_copies 106 = .ok (.if_icmp .ne 40, 3) := by decide +kernel
theorem dL_copies_109 : decode cL_copies 109 = .ok (.aload_n 0, 1) := by decide +kernel
theorem dL_copies_110 : decode cL_copies 110 = .ok (.bipush 11, 2) := by decide +kernel
theorem dL_copies_112 : decode cL_copies 112 = .ok (.invokestatic 109, 3) := by decide +kernel
theorem dL_copies_115 : decode cL_copies 115 = .ok (.iload 6, 2) := by decide +kernel
theorem dL_copies_117 : decode cL_copies 117 = .ok (.if_icmp .ne 29, 3) := by decide +kernel
theorem dL_copies_120 : decode cL_copies 120 = .ok (.aload_n 0, 1) := by decide +kernel
theorem dL_copies_121 : decode cL_copies 121 = .ok (.iload_n 1, 1) := by decide +kernel
theorem dL_copies_122 : decode cL_copies 122 = .ok (.invokestatic 104, 3) := by decide +kernel
theorem dL_copies_125 : decode cL_copies 125 = .ok (.iload 5, 2) := by decide +kernel
theorem dL_copies_127 : decode cL_copies 127 = .ok (.iconst 1, 1) := by decide +kernel
theorem dL_copies_128 : decode cL_copies 128 = .ok (.isub, 1) := by decide +kernel
theorem dL_copies_129 : decode cL_copies 129 = .ok (.if_icmp .le 17, 3) := by decide +kernel
theorem dL_copies_132 : decode cL_copies 132 = .ok (.aload_n 0, 1) := by decide +kernel
theorem dL_copies_133 : decode cL_copies 133 = .ok (.iload_n 2, 1) := by decide +kernel
theorem dL_copies_134 : decode cL_copies 134 = .ok (.bipush 6, 2) := by decide +kernel
theorem dL_copies_136 : decode cL_copies 136 = .ok (.invokestatic 92, 3) := by decide +kernel
theorem dL_copies_139 : decode cL_copies 139 = .ok (.ifCond .ne 7, 3) := by decide +kernel
theorem dL_copies_142 : decode cL_copies 142 = .ok (.iconst 1, 1) := by decide +kernel
theorem dL_copies_143 : decode cL_copies 143 = .ok (.goto 4, 3) := by decide +kernel
theorem dL_copies_146 : decode cL_copies 146 = .ok (.iconst 0, 1) := by decide +kernel
theorem dL_copies_147 : decode cL_copies 147 = .ok (.istore 11, 2) := by decide +kernel
theorem dL_copies_149 : decode cL_copies 149 = .ok (.goto 46, 3) := by decide +kernel
theorem dL_copies_152 : decode cL_copies 152 = .ok (.iload 4, 2) := by decide +kernel
theorem dL_copies_154 : decode cL_copies 154 = .ok (.ifCond .ge 38, 3) := by decide +kernel
theorem dL_copies_157 : decode cL_copies 157 = .ok (.iload 10, 2) := by decide +kernel
theorem dL_copies_159 : decode cL_copies 159 = .ok (.iload 4, 2) := by decide +kernel
theorem dL_copies_161 : decode cL_copies 161 = .ok (.ineg, 1) := by decide +kernel
theorem dL_copies_162 : decode cL_copies 162 = .ok (.if_icmp .ne 30, 3) := by decide +kernel
theorem dL_copies_165 : decode cL_copies 165 = .ok (.aload_n 0, 1) := by decide +kernel
theorem dL_copies_166 : decode cL_copies 166 = .ok (.bipush 11, 2) := by decide +kernel
theorem dL_copies_168 : decode cL_copies 168 = .ok (.invokestatic 109, 3) := by decide +kernel
theorem dL_copies_171 : decode cL_copies 171 = .ok (.iload 6, 2) := by decide +kernel
theorem dL_copies_173 : decode cL_copies 173 = .ok (.iconst 1, 1) := by decide +kernel
theorem dL_copies_174 : decode cL_copies 174 = .ok (.iadd, 1) := by decide +kernel
theorem dL_copies_175 : decode cL_copies 175 = .ok (.if_icmp .ne 17, 3) := by decide +kernel
theorem dL_copies_178 : decode cL_copies 178 = .ok (.aload_n 0, 1) := by decide +kernel
theorem dL_copies_179 : decode cL_copies 179 = .ok (.iconst 5, 1) := by decide +kernel
theorem dL_copies_180 : decode cL_copies 180 = .ok (.invokestatic 109, 3) := by decide +kernel
theorem dL_copies_183 : decode cL_copies 183 = .ok (.iload 7, 2) := by decide +kernel
theorem dL_copies_185 : decode cL_copies 185 = .ok (.if_icmp .ne 7, 3) := by decide +kernel
theorem dL_copies_188 : decode cL_copies 188 = .ok (.iconst 1, 1) := by decide +kernel
theorem dL_copies_189 : decode cL_copies 189 = .ok (.goto 4, 3) := by decide +kernel
theorem dL_copies_192 : decode cL_copies 192 = .ok (.iconst 0, 1) := by decide +kernel
theorem dL_copies_193 : decode cL_copies 193 = .ok (.istore 11, 2) := by decide +kernel
theorem dL_copies_195 : decode cL_copies 195 = .ok (.iload 11, 2) := by decide +kernel
theorem dL_copies_197 : decode cL_copies 197 = .ok (.ifCond .eq 24, 3) := by decide +kernel
theorem dL_copies_200 : decode cL_copies 200 = .ok (.aload_n 0, 1) := by decide +kernel
theorem dL_copies_201 : decode cL_copies 201 = .ok (.invokestatic 132, 3) := by decide +kernel
theorem dL_copies_204 : decode cL_copies 204 = .ok (.ifCond .lt 17, 3) := by decide +kernel
theorem dL_copies_207 : decode cL_copies 207 = .ok (.aload_n 0, 1) := by decide +kernel
theorem dL_copies_208 : decode cL_copies 208 = .ok (.invokestatic 128, 3) := by decide +kernel
theorem dL_copies_211 : decode cL_copies 211 = .ok (.lload 8, 2) := by decide +kernel
theorem dL_copies_213 : decode cL_copies 213 = .ok (.lcmp, 1) := by decide +kernel
theorem dL_copies_214 : decode cL_copies 214 = .ok (.ifCond .ne 7, 3) := by decide +kernel
theorem dL_copies_217 : decode cL_copies 217 = .ok (.iconst 1, 1) := by decide +kernel
theorem dL_copies_218 : decode cL_copies 218 = .ok (.goto 4, 3) := by decide +kernel
theorem dL_copies_221 : decode cL_copies 221 = .ok (.iconst 0, 1) := by decide +kernel
theorem dL_copies_222 : decode cL_copies 222 = .ok (.ireturn, 1) := by decide +kernel
set_option maxRecDepth 20000 in
theorem ggL_speaks_L_whyNot : GoodIn wsL_speaks wsL_whyNot := goodIn_ca (goodIn_ca (goodIn_r _ [4, 5, 6, 7, 8, 9, 10, 11, 12, 13, 14, 15, 16, 17, 18, 19, 20, 21, 22, 23, 24, 25, 26, 27, 28, 29, 30, 31, 32, 33, 34, 35, 36, 37, 38, 183, 184, 185, 186, 187, 188, 189, 190, 191, 192, 193, 194, 195, 196, 197, 198, 199, 200, 201, 202, 203, 204, 205, 206, 207, 208] (by decide +kernel) (by decide +kernel)) (goodIn_sub (fun _ h => List.mem_cons_of_mem _ (List.mem_append_left _ (List.mem_append_left _ (List.mem_append_right _ h)))) (by decide +kernel))) (goodIn_sub (fun _ h => List.mem_cons_of_mem _ (List.mem_append_left _ (List.mem_append_right _ h))) (by decide +kernel))
set_option maxRecDepth 20000 in
theorem gL_speaks_L_whyNot : GoodIn wsL_speaks (va_wsS RL 96 yL_whyNot wsL_whyNot) := goodIn_app (goodIn_of _ (by decide +kernel)) ggL_speaks_L_whyNot
set_option maxRecDepth 20000 in
theorem ggL_speaks_L_print : GoodIn wsL_speaks wsL_print := goodIn_ca (goodIn_ca (goodIn_r _ [41, 42, 43, 44, 45, 46, 12, 47, 14, 48, 49, 50, 3, 51, 6, 7, 52, 53, 54, 55, 56, 57, 58, 59, 60, 25, 26, 61, 62, 63, 30, 64, 65, 33, 66, 67, 68, 69, 70, 71, 72, 73, 74, 75, 76, 77, 78, 79, 80, 81, 82, 83, 84, 34, 35, 36, 37, 38, 85, 86, 87, 88, 32, 89, 90, 91, 5, 8, 92, 93, 94, 95, 15, 16, 17, 18, 19, 20, 96, 97, 98, 99, 100, 101, 102, 103, 104, 105, 106, 107, 108, 109, 110, 111, 112, 113, 114, 115, 116, 117, 118, 119, 120, 121, 122, 123, 124, 125, 126, 127, 128, 129, 130, 131, 132, 133, 183, 184, 185, 186, 187, 188, 189, 190, 191, 192, 193, 194, 195, 196, 197, 198, 199, 200, 201, 202, 203, 204, 205, 206, 207, 208] (by decide +kernel) (by decide +kernel)) (goodIn_sub (fun _ h => List.mem_cons_of_mem _ (List.mem_append_left _ (List.mem_append_right _ h))) (by decide +kernel))) (goodIn_sub (fun _ h => List.mem_cons_of_mem _ (List.mem_append_left _ (List.mem_append_left _ (List.mem_append_right _ h)))) (by decide +kernel))
set_option maxRecDepth 20000 in
theorem gL_speaks_L_print : GoodIn wsL_speaks (va_wsS RL 128 yL_print wsL_print) := goodIn_app (goodIn_of _ (by decide +kernel)) ggL_speaks_L_print
set_option maxRecDepth 20000 in
theorem ggL_speaks_L_count : GoodIn wsL_speaks wsL_count := goodIn_ca (goodIn_r _ [51, 6, 7, 52, 53, 54, 12, 55, 56, 14, 57, 58, 59, 60, 25, 26, 61, 62, 63, 30, 64, 65, 33, 66, 67, 68, 69, 70, 71, 72, 73, 74, 75, 76, 77, 78, 79, 80, 81, 82, 83, 84, 34, 35, 36, 37, 38, 85, 86, 87, 88, 32, 183, 184, 185, 186, 187, 188, 189, 190, 191, 192, 193, 194, 195, 196, 197, 198, 199, 200, 201, 202, 203, 204, 205, 206, 207, 208] (by decide +kernel) (by decide +kernel)) (goodIn_sub (fun _ h => List.mem_cons_of_mem _ (List.mem_append_left _ (List.mem_append_right _ h))) (by decide +kernel))
set_option maxRecDepth 20000 in
theorem gL_speaks_L_count : GoodIn wsL_speaks (va_wsS RL 109 yL_count wsL_count) := goodIn_app (goodIn_of _ (by decide +kernel)) ggL_speaks_L_count
set_option maxRecDepth 20000 in
theorem ggL_speaks_L_speak : GoodIn wsL_speaks wsL_speak := goodIn_ca (goodIn_ca (goodIn_r _ [136, 5, 6, 7, 8, 137, 138, 139, 12, 140, 14, 15, 16, 17, 18, 19, 20, 21, 22, 23, 24, 25, 26, 141, 142, 143, 144, 56, 145, 146, 147, 148, 149, 150, 151, 152, 30, 153, 38, 154, 155, 156, 157, 100, 101, 102, 103, 104, 105, 32, 121, 65, 33, 158, 66, 67, 68, 69, 70, 71, 72, 159, 160, 161, 162, 163, 28, 29, 31, 34, 35, 36, 37, 164, 165, 73, 74, 75, 76, 166, 167, 168, 169, 170, 171, 172, 127, 128, 129, 183, 184, 185, 186, 187, 188, 189, 190, 191, 192, 193, 194, 195, 196, 197, 198, 199, 200, 201, 202, 203, 204, 205, 206, 207, 208] (by decide +kernel) (by decide +kernel)) (goodIn_sub (fun _ h => List.mem_cons_of_mem _ (List.mem_append_left _ (List.mem_append_left _ (List.mem_append_right _ h)))) (by decide +kernel))) (goodIn_sub (fun _ h => List.mem_cons_of_mem _ (List.mem_append_left _ (List.mem_append_right _ h))) (by decide +kernel))
set_option maxRecDepth 20000 in
theorem gL_speaks_L_speak : GoodIn wsL_speaks (va_wsS RL 71 yL_speak wsL_speak) := goodIn_app (goodIn_of _ (by decide +kernel)) ggL_speaks_L_speak
set_option maxRecDepth 20000 in
theorem ggL_speaks_L_trackOf : GoodIn wsL_speaks wsL_trackOf := goodIn_ca (goodIn_ca (goodIn_r _ [91, 5, 6, 7, 8, 92, 93, 94, 12, 95, 14, 15, 16, 17, 18, 19, 20, 57, 58, 59, 60, 25, 26, 96, 97, 98, 30, 99, 38, 100, 101, 102, 103, 104, 105, 34, 35, 36, 37, 183, 184, 185, 186, 187, 188, 189, 190, 191, 192, 193, 194, 195, 196, 197, 198, 199, 200, 201, 202, 203, 204, 205, 206, 207, 208] (by decide +kernel) (by decide +kernel)) (goodIn_sub (fun _ h => List.mem_cons_of_mem _ (List.mem_append_left _ (List.mem_append_left _ (List.mem_append_right _ h)))) (by decide +kernel))) (goodIn_sub (fun _ h => List.mem_cons_of_mem _ (List.mem_append_left _ (List.mem_append_right _ h))) (by decide +kernel))
set_option maxRecDepth 20000 in
theorem gL_speaks_L_trackOf : GoodIn wsL_speaks (va_wsS RL 92 yL_trackOf wsL_trackOf) := goodIn_app (goodIn_of _ (by decide +kernel)) ggL_speaks_L_trackOf
set_option maxRecDepth 20000 in
theorem ggL_speaks_L_undo : GoodIn wsL_speaks wsL_undo := goodIn_ca (goodIn_r _ [175, 176, 7, 177, 178, 179, 12, 180, 181, 182, 56, 14, 145, 150, 151, 152, 30, 153, 38, 154, 155, 156, 157, 100, 101, 102, 103, 104, 105, 32, 121, 65, 33, 158, 66, 67, 68, 69, 70, 71, 72, 183, 184, 185, 186, 187, 188, 189, 190, 191, 192, 193, 194, 195, 196, 197, 198, 199, 200, 201, 202, 203, 204, 205, 206, 207, 208] (by decide +kernel) (by decide +kernel)) (goodIn_sub (fun _ h => List.mem_cons_of_mem _ (List.mem_append_right _ h)) (by decide +kernel))
set_option maxRecDepth 20000 in
theorem gL_speaks_L_undo : GoodIn wsL_speaks (va_wsS RL 132 yL_undo wsL_undo) := goodIn_app (goodIn_of _ (by decide +kernel)) ggL_speaks_L_undo
theorem dL_speaks_0 : decode cL_speaks 0 = .ok (.aload_n 0, 1) := by decide +kernel
theorem dL_speaks_1 : decode cL_speaks 1 = .ok (.iload_n 1, 1) := by decide +kernel
theorem dL_speaks_2 : decode cL_speaks 2 = .ok (.iload_n 2, 1) := by decide +kernel
theorem dL_speaks_3 : decode cL_speaks 3 = .ok (.invokestatic 96, 3) := by decide +kernel
theorem dL_speaks_6 : decode cL_speaks 6 = .ok (.istore_n 3, 1) := by decide +kernel
theorem dL_speaks_7 : decode cL_speaks 7 = .ok (.aload_n 0, 1) := by decide +kernel
theorem dL_speaks_8 : decode cL_speaks 8 = .ok (.invokestatic 128, 3) := by decide +kernel
theorem dL_speaks_11 : decode cL_speaks 11 = .ok (.lstore 4, 2) := by decide +kernel
theorem dL_speaks_13 : decode cL_speaks 13 = .ok (.aload_n 0, 1) := by decide +kernel
theorem dL_speaks_14 : decode cL_speaks 14 = .ok (.iconst 1, 1) := by decide +kernel
theorem dL_speaks_15 : decode cL_speaks 15 = .ok (.invokestatic 109, 3) := by decide +kernel
theorem dL_speaks_18 : decode cL_speaks 18 = .ok (.istore 6, 2) := by decide +kernel
theorem dL_speaks_20 : decode cL_speaks 20 = .ok (.aload_n 0, 1) := by decide +kernel
theorem dL_speaks_21 : decode cL_speaks 21 = .ok (.iload_n 1, 1) := by decide +kernel
theorem dL_speaks_22 : decode cL_speaks 22 = .ok (.iload_n 2, 1) := by decide +kernel
theorem dL_speaks_23 : decode cL_speaks 23 = .ok (.invokestatic 71, 3) := by decide +kernel
theorem dL_speaks_26 : decode cL_speaks 26 = .ok (.iload_n 3, 1) := by decide +kernel
theorem dL_speaks_27 : decode cL_speaks 27 = .ok (.if_icmp .ne 70, 3) := by decide +kernel
theorem dL_speaks_30 : decode cL_speaks 30 = .ok (.iload_n 3, 1) := by decide +kernel
theorem dL_speaks_31 : decode cL_speaks 31 = .ok (.ifCond .le 20, 3) := by decide +kernel
theorem dL_speaks_34 : decode cL_speaks 34 = .ok (.aload_n 0, 1) := by decide +kernel
theorem dL_speaks_35 : decode cL_speaks 35 = .ok (.iload_n 1, 1) := by decide +kernel
theorem dL_speaks_36 : decode cL_speaks 36 = .ok (.iconst 0, 1) := by decide +kernel
theorem dL_speaks_37 : decode cL_speaks 37 = .ok (.invokestatic 92, 3) := by decide +kernel
theorem dL_speaks_40 : decode cL_speaks 40 = .ok (.ifCond .eq 53, 3) := by decide +kernel
theorem dL_speaks_43 : decode cL_speaks 43 = .ok (.iload_n 3, 1) := by decide +kernel
theorem dL_speaks_44 : decode cL_speaks 44 = .ok (.iconst 1, 1) := by decide +kernel
theorem dL_speaks_45 : decode cL_speaks 45 = .ok (.if_icmp .ne 52, 3) := by decide +kernel
theorem dL_speaks_48 : decode cL_speaks 48 = .ok (.goto 45, 3) := by decide +kernel
theorem dL_speaks_51 : decode cL_speaks 51 = .ok (.aload_n 0, 1) := by decide +kernel
theorem dL_speaks_52 : decode cL_speaks 52 = .ok (.iload_n 1, 1) := by decide +kernel
theorem dL_speaks_53 : decode cL_speaks 53 = .ok (.iconst 0, 1) := by decide +kernel
theorem dL_speaks_54 : decode cL_speaks 54 = .ok (.invokestatic 92, 3) := by decide +kernel
theorem dL_speaks_57 : decode cL_speaks 57 = .ok (.iload_n 2, 1) := by decide +kernel
theorem dL_speaks_58 : decode cL_speaks 58 = .ok (.if_icmp .ne 39, 3) := by decide +kernel
theorem dL_speaks_61 : decode cL_speaks 61 = .ok (.aload_n 0, 1) := by decide +kernel
theorem dL_speaks_62 : decode cL_speaks 62 = .ok (.iload_n 1, 1) := by decide +kernel
theorem dL_speaks_63 : decode cL_speaks 63 = .ok (.iconst 3, 1) := by decide +kernel
theorem dL_speaks_64 : decode cL_speaks 64 = .ok (.invokestatic 92, 3) := by decide +kernel
theorem dL_speaks_67 : decode cL_speaks 67 = .ok (.ifCond .ne 30, 3) := by decide +kernel
theorem dL_speaks_70 : decode cL_speaks 70 = .ok (.aload_n 0, 1) := by decide +kernel
theorem dL_speaks_71 : decode cL_speaks 71 = .ok (.iconst 1, 1) := by decide +kernel
theorem dL_speaks_72 : decode cL_speaks 72 = .ok (.invokestatic 109, 3) := by decide +kernel
theorem dL_speaks_75 : decode cL_speaks 75 = .ok (.iload 6, 2) := by decide +kernel
theorem dL_speaks_77 : decode cL_speaks 77 = .ok (.bipush 10, 2) := by decide +kernel
theorem dL_speaks_79 : decode cL_speaks 79 = .ok (.isub, 1) := by decide +kernel
theorem dL_speaks_80 : decode cL_speaks 80 = .ok (.if_icmp .ne 17, 3) := by decide +kernel
theorem dL_speaks_83 : decode cL_speaks 83 = .ok (.aload_n 0, 1) := by decide +kernel
theorem dL_speaks_84 : decode cL_speaks 84 = .ok (.iload_n 1, 1) := by decide +kernel
theorem dL_speaks_85 : decode cL_speaks 85 = .ok (.iload_n 2, 1) := by decide +kernel
theorem dL_speaks_86 : decode cL_speaks 86 = .ok (.invokestatic 96, 3) := by decide +kernel
theorem dL_speaks_89 : decode cL_speaks 89 = .ok (.iconst 1, 1) := by decide +kernel
theorem dL_speaks_90 : decode cL_speaks 90 = .ok (.if_icmp .ne 7, 3) := by decide +kernel
theorem dL_speaks_93 : decode cL_speaks 93 = .ok (.iconst 1, 1) := by decide +kernel
theorem dL_speaks_94 : decode cL_speaks 94 = .ok (.goto 4, 3) := by decide +kernel
theorem dL_speaks_97 : decode cL_speaks 97 = .ok (.iconst 0, 1) := by decide +kernel
theorem dL_speaks_98 : decode cL_speaks 98 = .ok (.istore 7, 2) := by decide +kernel
theorem dL_speaks_100 : decode cL_speaks 100 = .ok (.iload 7, 2) := by decide +kernel
theorem dL_speaks_102 : decode cL_speaks 102 = .ok (.ifCond .eq 24, 3) := by decide +kernel
theorem dL_speaks_105 : decode cL_speaks 105 = .ok (.aload_n 0, 1) := by decide +kernel
theorem dL_speaks_106 : decode cL_speaks 106 = .ok (.invokestatic 132, 3) := by decide +kernel
theorem dL_speaks_109 : decode cL_speaks 109 = .ok (.ifCond .lt 17, 3) := by decide +kernel
theorem dL_speaks_112 : decode cL_speaks 112 = .ok (.aload_n 0, 1) := by decide +kernel
theorem dL_speaks_113 : decode cL_speaks 113 = .ok (.invokestatic 128, 3) := by decide +kernel
theorem dL_speaks_116 : decode cL_speaks 116 = .ok (.lload 4, 2) := by decide +kernel
theorem dL_speaks_118 : decode cL_speaks 118 = .ok (.lcmp, 1) := by decide +kernel
theorem dL_speaks_119 : decode cL_speaks 119 = .ok (.ifCond .ne 7, 3) := by decide +kernel
theorem dL_speaks_122 : decode cL_speaks 122 = .ok (.iconst 1, 1) := by decide +kernel
theorem dL_speaks_123 : decode cL_speaks 123 = .ok (.goto 4, 3) := by decide +kernel
theorem dL_speaks_126 : decode cL_speaks 126 = .ok (.iconst 0, 1) := by decide +kernel
theorem dL_speaks_127 : decode cL_speaks 127 = .ok (.ireturn, 1) := by decide +kernel
set_option maxRecDepth 20000 in
theorem ggL_steps_L_chain : GoodIn wsL_steps wsL_chain := goodIn_ca (goodIn_ca (goodIn_r _ [4, 5, 6, 7, 8, 9, 10, 11, 12, 13, 14, 15, 16, 17, 18, 19, 20, 21, 22, 23, 24, 25, 26, 27, 28, 29, 30, 31, 32, 33, 34, 35, 36, 37, 38, 39, 40, 41, 42, 43, 44, 45, 46, 47, 48, 49, 50, 51, 52, 53, 54, 55, 56, 57, 58, 59, 60, 61, 62, 63, 64, 65, 66, 67, 68, 69, 70, 71, 72, 73, 74, 75, 76, 77, 239, 240, 241, 242, 243, 244, 245, 246, 247, 248, 249, 250, 251, 252, 253, 254, 255, 256, 257, 258, 259, 260, 261, 262, 263, 264, 265, 266] (by decide +kernel) (by decide +kernel)) (goodIn_sub (fun _ h => List.mem_cons_of_mem _ (List.mem_append_left _ (List.mem_append_left _ (List.mem_append_right _ h)))) (by decide +kernel))) (goodIn_sub (fun _ h => List.mem_cons_of_mem _ (List.mem_append_left _ (List.mem_append_right _ h))) (by decide +kernel))
set_option maxRecDepth 20000 in
theorem gL_steps_L_chain : GoodIn wsL_steps (va_wsS RL 94 yL_chain wsL_chain) := goodIn_app (goodIn_of _ (by decide +kernel)) ggL_steps_L_chain
set_option maxRecDepth 20000 in
theorem ggL_steps_L_print : GoodIn wsL_steps wsL_print := goodIn_ca (goodIn_ca (goodIn_r _ [80, 81, 82, 83, 84, 85, 12, 86, 16, 87, 88, 89, 3, 90, 6, 7, 91, 92, 93, 94, 95, 27, 28, 29, 30, 14, 15, 96, 97, 98, 34, 99, 100, 101, 102, 103, 104, 105, 106, 107, 108, 109, 110, 111, 112, 113, 114, 115, 116, 117, 118, 119, 120, 121, 32, 33, 35, 36, 122, 123, 124, 125, 126, 127, 128, 129, 5, 8, 130, 131, 132, 133, 21, 22, 23, 24, 25, 26, 134, 135, 136, 137, 138, 139, 140, 141, 142, 143, 144, 145, 146, 147, 148, 149, 150, 151, 152, 153, 154, 155, 156, 157, 158, 159, 160, 161, 162, 163, 164, 50, 51, 52, 165, 166, 167, 168, 239, 240, 241, 242, 243, 244, 245, 246, 247, 248, 249, 250, 251, 252, 253, 254, 255, 256, 257, 258, 259, 260, 261, 262, 263, 264] (by decide +kernel) (by decide +kernel)) (goodIn_sub (fun _ h => List.mem_cons_of_mem _ (List.mem_append_left _ (List.mem_append_left _ (List.mem_append_right _ h)))) (by decide +kernel))) (goodIn_sub (fun _ h => List.mem_cons_of_mem _ (List.mem_append_left _ (List.mem_append_right _ h))) (by decide +kernel))
set_option maxRecDepth 20000 in
theorem gL_steps_L_print : GoodIn wsL_steps (va_wsS RL 128 yL_print wsL_print) := goodIn_app (goodIn_of _ (by decide +kernel)) ggL_steps_L_print
set_option maxRecDepth 20000 in
theorem ggL_steps_L_renew : GoodIn wsL_steps wsL_renew := goodIn_ca (goodIn_ca (goodIn_r _ [171, 5, 6, 7, 8, 172, 173, 174, 12, 175, 14, 15, 16, 151, 152, 153, 154, 25, 26, 176, 177, 178, 179, 95, 180, 181, 182, 183, 184, 185, 186, 187, 34, 188, 36, 189, 190, 191, 192, 138, 139, 140, 141, 142, 143, 126, 159, 100, 101, 193, 102, 103, 104, 105, 106, 107, 108, 194, 195, 196, 197, 198, 199, 200, 201, 239, 240, 241, 242, 243, 244, 245, 246, 247, 248, 249, 250, 251, 252, 253, 254, 255, 256, 257, 258, 259, 260, 261, 262, 263, 264] (by decide +kernel) (by decide +kernel)) (goodIn_sub (fun _ h => List.mem_cons_of_mem _ (List.mem_append_left _ (List.mem_append_left _ (List.mem_append_right _ h)))) (by decide +kernel))) (goodIn_sub (fun _ h => List.mem_cons_of_mem _ (List.mem_append_left _ (List.mem_append_right _ h))) (by decide +kernel))
set_option maxRecDepth 20000 in
theorem gL_steps_L_renew : GoodIn wsL_steps (va_wsS RL 84 yL_renew wsL_renew) := goodIn_app (goodIn_of _ (by decide +kernel)) ggL_steps_L_renew
set_option maxRecDepth 20000 in
theorem ggL_steps_X3_wind : GoodIn wsL_steps wsX3_wind := goodIn_r _ [205, 16, 176, 177, 178, 12, 179, 95, 180, 181, 182, 183, 184, 185, 186, 187, 34, 188, 36, 189, 190, 191, 192, 138, 139, 140, 141, 142, 143, 126, 159, 100, 101, 193, 102, 103, 104, 105, 106, 107, 108, 206, 207, 208, 209, 239, 240, 241, 242, 243, 244, 245, 246, 247, 248, 249, 250, 251, 252, 253, 254, 255, 256, 257, 258, 259, 260, 261, 262, 263, 264] (by decide +kernel) (by decide +kernel)
set_option maxRecDepth 20000 in
theorem gL_steps_X3_wind : GoodIn wsL_steps (wsV RL 89 RX3 yX3_wind wsX3_wind) := goodIn_app (goodIn_of _ (by decide +kernel)) ggL_steps_X3_wind
set_option maxRecDepth 20000 in
theorem ggL_steps_L_ifCopied : GoodIn wsL_steps wsL_ifCopied := goodIn_ca (goodIn_ca (goodIn_r _ [212, 5, 6, 7, 8, 213, 214, 215, 12, 216, 16, 21, 22, 23, 24, 25, 26, 217, 218, 219, 220, 14, 15, 221, 222, 223, 34, 224, 126, 36, 101, 121, 32, 33, 35, 58, 59, 49, 50, 51, 52, 60, 61, 62, 225, 226, 227, 228, 138, 100, 109, 110, 111, 112, 63, 64, 65, 66, 67, 239, 240, 241, 242, 243, 244, 245, 246, 247, 248, 249, 250, 251, 252, 253, 254, 255, 256, 257, 258, 259, 260, 261, 262, 263, 264] (by decide +kernel) (by decide +kernel)) (goodIn_sub (fun _ h => List.mem_cons_of_mem _ (List.mem_append_left _ (List.mem_append_right _ h))) (by decide +kernel))) (goodIn_sub (fun _ h => List.mem_cons_of_mem _ (List.mem_append_left _ (List.mem_append_left _ (List.mem_append_right _ h)))) (by decide +kernel))
set_option maxRecDepth 20000 in
theorem gL_steps_L_ifCopied : GoodIn wsL_steps (va_wsS RL 126 yL_ifCopied wsL_ifCopied) := goodIn_app (goodIn_of _ (by decide +kernel)) ggL_steps_L_ifCopied
set_option maxRecDepth 20000 in
theorem ggL_steps_L_undo : GoodIn wsL_steps wsL_undo := goodIn_ca (goodIn_r _ [231, 232, 7, 233, 234, 235, 12, 236, 237, 238, 95, 16, 180, 185, 186, 187, 34, 188, 36, 189, 190, 191, 192, 138, 139, 140, 141, 142, 143, 126, 159, 100, 101, 193, 102, 103, 104, 105, 106, 107, 108, 239, 240, 241, 242, 243, 244, 245, 246, 247, 248, 249, 250, 251, 252, 253, 254, 255, 256, 257, 258, 259, 260, 261, 262, 263, 264] (by decide +kernel) (by decide +kernel)) (goodIn_sub (fun _ h => List.mem_cons_of_mem _ (List.mem_append_right _ h)) (by decide +kernel))
set_option maxRecDepth 20000 in
theorem gL_steps_L_undo : GoodIn wsL_steps (va_wsS RL 132 yL_undo wsL_undo) := goodIn_app (goodIn_of _ (by decide +kernel)) ggL_steps_L_undo
theorem dL_steps_0 : decode cL_steps 0 = .ok (.aload_n 0, 1) := by decide +kernel
theorem dL_steps_1 : decode cL_steps 1 = .ok (.iload_n 1, 1) := by decide +kernel
theorem dL_steps_2 : decode cL_steps 2 = .ok (.iconst 1, 1) := by decide +kernel
theorem dL_steps_3 : decode cL_steps 3 = .ok (.iconst 1, 1) := by decide +kernel
theorem dL_steps_4 : decode cL_steps 4 = .ok (.invokestatic 94, 3) := by decide +kernel
theorem dL_steps_7 : decode cL_steps 7 = .ok (.istore_n 2, 1) := by decide +kernel
theorem dL_steps_8 : decode cL_steps 8 = .ok (.aload_n 0, 1) := by decide +kernel
theorem dL_steps_9 : decode cL_steps 9 = .ok (.invokestatic 128, 3) := by decide +kernel
theorem dL_steps_12 : decode cL_steps 12 = .ok (.lstore_n 3, 1) := by decide +kernel
theorem dL_steps_13 : decode cL_steps 13 = .ok (.iload_n 1, 1) := by decide +kernel
theorem dL_steps_14 : decode cL_steps 14 = .ok (.iconst 4, 1) := by decide +kernel
theorem dL_steps_15 : decode cL_steps 15 = .ok (.idiv, 1) := by decide +kernel
theorem dL_steps_16 : decode cL_steps 16 = .ok (.iconst 1, 1) := by decide +kernel
theorem dL_steps_17 : decode cL_steps 17 = .ok (.iadd, 1) := by decide +kernel
theorem dL_steps_18 : decode cL_steps 18 = .ok (.bipush 6, 2) := by decide +kernel
theorem dL_steps_20 : decode cL_steps 20 = .ok (.irem, 1) := by decide +kernel
theorem dL_steps_21 : decode cL_steps 21 = .ok (.istore 5, 2) := by decide +kernel
theorem dL_steps_23 : decode cL_steps 23 = .ok (.aload_n 0, 1) := by decide +kernel
theorem dL_steps_24 : decode cL_steps 24 = .ok (.iload 5, 2) := by decide +kernel
theorem dL_steps_26 : decode cL_steps 26 = .ok (.bipush 100, 2) := by decide +kernel
theorem dL_steps_28 : decode cL_steps 28 = .ok (.invokestatic 84, 3) := by decide +kernel
theorem dL_steps_31 : decode cL_steps 31 = .ok (.istore 6, 2) := by decide +kernel
theorem dL_steps_33 : decode cL_steps 33 = .ok (.aload_n 0, 1) := by decide +kernel
theorem dL_steps_34 : decode cL_steps 34 = .ok (.invokevirtual 89, 3) := by decide +kernel
theorem dL_steps_37 : decode cL_steps 37 = .ok (.istore 7, 2) := by decide +kernel
theorem dL_steps_39 : decode cL_steps 39 = .ok (.iconst (-1), 1) := by decide +kernel
theorem dL_steps_40 : decode cL_steps 40 = .ok (.istore 8, 2) := by decide +kernel
theorem dL_steps_42 : decode cL_steps 42 = .ok (.iconst 1, 1) := by decide +kernel
theorem dL_steps_43 : decode cL_steps 43 = .ok (.istore 9, 2) := by decide +kernel
theorem dL_steps_45 : decode cL_steps 45 = .ok (.iload 9, 2) := by decide +kernel
theorem dL_steps_47 : decode cL_steps 47 = .ok (.iconst 4, 1) := by decide +kernel
theorem dL_steps_48 : decode cL_steps 48 = .ok (.if_icmp .ge 38, 3) := by decide +kernel
theorem dL_steps_51 : decode cL_steps 51 = .ok (.aload_n 0, 1) := by decide +kernel
theorem dL_steps_52 : decode cL_steps 52 = .ok (.iload_n 1, 1) := by decide +kernel
theorem dL_steps_53 : decode cL_steps 53 = .ok (.iconst 4, 1) := by decide +kernel
theorem dL_steps_54 : decode cL_steps 54 = .ok (.iload 5, 2) := by decide +kernel
theorem dL_steps_56 : decode cL_steps 56 = .ok (.imul, 1) := by decide +kernel
theorem dL_steps_57 : decode cL_steps 57 = .ok (.iload 9, 2) := by decide +kernel
theorem dL_steps_59 : decode cL_steps 59 = .ok (.invokestatic 126, 3) := by decide +kernel
theorem dL_steps_62 : decode cL_steps 62 = .ok (.istore 10, 2) := by decide +kernel
theorem dL_steps_64 : decode cL_steps 64 = .ok (.iload 10, 2) := by decide +kernel
theorem dL_steps_66 : decode cL_steps 66 = .ok (.iload 8, 2) := by decide +kernel
theorem dL_steps_68 : decode cL_steps 68 = .ok (.if_icmp .le 8, 3) := by decide +kernel
theorem dL_steps_71 : decode cL_steps 71 = .ok (.iload 10, 2) := by decide +kernel
theorem dL_steps_73 : decode cL_steps 73 = .ok (.goto 5, 3) := by decide +kernel
theorem dL_steps_76 : decode cL_steps 76 = .ok (.iload 8, 2) := by decide +kernel
theorem dL_steps_78 : decode cL_steps 78 = .ok (.istore 8, 2) := by decide +kernel
theorem dL_steps_80 : decode cL_steps 80 = .ok (.iinc 9 1, 3) := by decide +kernel
theorem dL_steps_83 : decode cL_steps 83 = .ok (.goto (-38), 3) := by decide +kernel
theorem dL_steps_86 : decode cL_steps 86 = .ok (.iload 6, 2) := by decide +kernel
theorem dL_steps_88 : decode cL_steps 88 = .ok (.ifCond .lt 18, 3) := by decide +kernel
theorem dL_steps_91 : decode cL_steps 91 = .ok (.iload 7, 2) := by decide +kernel
theorem dL_steps_93 : decode cL_steps 93 = .ok (.ifCond .lt 13, 3) := by decide +kernel
theorem dL_steps_96 : decode cL_steps 96 = .ok (.iload 8, 2) := by decide +kernel
theorem dL_steps_98 : decode cL_steps 98 = .ok (.iload_n 2, 1) := by decide +kernel
theorem dL_steps_99 : decode cL_steps 99 = .ok (.if_icmp .ne 7, 3) := by decide +kernel
theorem dL_steps_102 : decode cL_steps 102 = .ok (.iconst 1, 1) := by decide +kernel
theorem dL_steps_103 : decode cL_steps 103 = .ok (.goto 4, 3) := by decide +kernel
theorem dL_steps_106 : decode cL_steps 106 = .ok (.iconst 0, 1) := by decide +kernel
theorem dL_steps_107 : decode cL_steps 107 = .ok (.istore 9, 2) := by decide +kernel
theorem dL_steps_109 : decode cL_steps 109 = .ok (.iload 9, 2) := by decide +kernel
theorem dL_steps_111 : decode cL_steps 111 = .ok (.ifCond .eq 30, 3) := by decide +kernel
theorem dL_steps_114 : decode cL_steps 114 = .ok (.aload_n 0, 1) := by decide +kernel
theorem dL_steps_115 : decode cL_steps 115 = .ok (.invokestatic 132, 3) := by decide +kernel
theorem dL_steps_118 : decode cL_steps 118 = .ok (.ifCond .lt 23, 3) := by decide +kernel
theorem dL_steps_121 : decode cL_steps 121 = .ok (.aload_n 0, 1) := by decide +kernel
theorem dL_steps_122 : decode cL_steps 122 = .ok (.invokestatic 132, 3) := by decide +kernel
theorem dL_steps_125 : decode cL_steps 125 = .ok (.ifCond .lt 16, 3) := by decide +kernel
theorem dL_steps_128 : decode cL_steps 128 = .ok (.aload_n 0, 1) := by decide +kernel
theorem dL_steps_129 : decode cL_steps 129 = .ok (.invokestatic 128, 3) := by decide +kernel
theorem dL_steps_132 : decode cL_steps 132 = .ok (.lload_n 3, 1) := by decide +kernel
theorem dL_steps_133 : decode cL_steps 133 = .ok (.lcmp, 1) := by decide +kernel
theorem dL_steps_134 : decode cL_steps 134 = .ok (.ifCond .ne 7, 3) := by decide +kernel
theorem dL_steps_137 : decode cL_steps 137 = .ok (.iconst 1, 1) := by decide +kernel
theorem dL_steps_138 : decode cL_steps 138 = .ok (.goto 4, 3) := by decide +kernel
theorem dL_steps_141 : decode cL_steps 141 = .ok (.iconst 0, 1) := by decide +kernel
theorem dL_steps_142 : decode cL_steps 142 = .ok (.ireturn, 1) := by decide +kernel
set_option maxRecDepth 20000 in
theorem ggL_shaves_L_cylinderOf : GoodIn wsL_shaves wsL_cylinderOf := goodIn_ca (goodIn_ca (goodIn_r _ [4, 5, 6, 7, 8, 9, 10, 11, 12, 13, 14, 15, 16, 17, 18, 19, 20, 21, 22, 23, 24, 25, 26, 27, 28, 29, 30, 31, 32, 33, 34, 35, 36, 37, 38, 39, 40, 41, 42, 43, 44, 45, 46, 47, 48, 49, 50, 51, 52, 53, 54, 55, 162, 163, 164, 165, 166, 167, 168, 169, 170, 171, 172, 173, 174, 175, 176, 177, 178, 179, 180, 181, 182, 183, 184, 185, 186, 187] (by decide +kernel) (by decide +kernel)) (goodIn_sub (fun _ h => List.mem_cons_of_mem _ (List.mem_append_left _ (List.mem_append_left _ (List.mem_append_right _ h)))) (by decide +kernel))) (goodIn_sub (fun _ h => List.mem_cons_of_mem _ (List.mem_append_left _ (List.mem_append_right _ h))) (by decide +kernel))
set_option maxRecDepth 20000 in
theorem gL_shaves_L_cylinderOf : GoodIn wsL_shaves (va_wsS RL 98 yL_cylinderOf wsL_cylinderOf) := goodIn_app (goodIn_of _ (by decide +kernel)) ggL_shaves_L_cylinderOf
set_option maxRecDepth 20000 in
theorem ggL_shaves_L_count : GoodIn wsL_shaves wsL_count := goodIn_ca (goodIn_r _ [58, 6, 7, 59, 60, 61, 12, 62, 63, 14, 21, 22, 23, 24, 25, 26, 64, 65, 66, 30, 67, 68, 69, 70, 71, 72, 73, 74, 75, 76, 77, 78, 79, 80, 81, 82, 83, 84, 34, 35, 36, 37, 38, 39, 40, 41, 42, 85, 86, 87, 88, 32, 162, 163, 164, 165, 166, 167, 168, 169, 170, 171, 172, 173, 174, 175, 176, 177, 178, 179, 180, 181, 182, 183, 184, 185, 186, 187] (by decide +kernel) (by decide +kernel)) (goodIn_sub (fun _ h => List.mem_cons_of_mem _ (List.mem_append_left _ (List.mem_append_right _ h))) (by decide +kernel))
set_option maxRecDepth 20000 in
theorem gL_shaves_L_count : GoodIn wsL_shaves (va_wsS RL 109 yL_count wsL_count) := goodIn_app (goodIn_of _ (by decide +kernel)) ggL_shaves_L_count
set_option maxRecDepth 20000 in
theorem ggL_shaves_L_print : GoodIn wsL_shaves wsL_print := goodIn_ca (goodIn_ca (goodIn_r _ [91, 92, 93, 94, 95, 96, 12, 97, 14, 98, 56, 57, 3, 58, 6, 7, 59, 60, 61, 62, 63, 21, 22, 23, 24, 25, 26, 64, 65, 66, 30, 67, 68, 69, 70, 71, 72, 73, 74, 75, 76, 77, 78, 79, 80, 81, 82, 83, 84, 34, 35, 36, 37, 38, 39, 40, 41, 42, 85, 86, 87, 88, 32, 99, 100, 101, 5, 8, 102, 103, 104, 105, 106, 107, 108, 109, 19, 20, 110, 111, 112, 113, 55, 114, 115, 116, 117, 118, 1, 2, 4, 9, 10, 11, 13, 15, 16, 17, 18, 27, 28, 29, 31, 33, 43, 44, 45, 46, 47, 48, 49, 50, 51, 52, 53, 54, 162, 163, 164, 165, 166, 167, 168, 169, 170, 171, 172, 173, 174, 175, 176, 177, 178, 179, 180, 181, 182, 183, 184, 185, 186, 187] (by decide +kernel) (by decide +kernel)) (goodIn_sub (fun _ h => List.mem_cons_of_mem _ (List.mem_append_left _ (List.mem_append_right _ h))) (by decide +kernel))) (goodIn_sub (fun _ h => List.mem_cons_of_mem _ (List.mem_append_left _ (List.mem_append_left _ (List.mem_append_right _ h)))) (by decide +kernel))
set_option maxRecDepth 20000 in
theorem gL_shaves_L_print : GoodIn wsL_shaves (va_wsS RL 128 yL_print wsL_print) := goodIn_app (goodIn_of _ (by decide +kernel)) ggL_shaves_L_print
set_option maxRecDepth 20000 in
theorem ggL_shaves_L_shave : GoodIn wsL_shaves wsL_shave := goodIn_ca (goodIn_r _ [121, 5, 7, 122, 123, 124, 12, 125, 14, 15, 16, 17, 18, 19, 20, 126, 127, 128, 129, 63, 130, 131, 132, 133, 134, 135, 136, 137, 30, 138, 42, 139, 140, 141, 142, 55, 114, 115, 116, 117, 118, 32, 33, 68, 69, 143, 70, 71, 72, 73, 74, 75, 76, 144, 145, 146, 147, 43, 44, 45, 46, 47, 48, 49, 50, 148, 149, 150, 151, 162, 163, 164, 165, 166, 167, 168, 169, 170, 171, 172, 173, 174, 175, 176, 177, 178, 179, 180, 181, 182, 183, 184, 185, 186, 187] (by decide +kernel) (by decide +kernel)) (goodIn_sub (fun _ h => List.mem_cons_of_mem _ (List.mem_append_left _ (List.mem_append_left _ (List.mem_append_right _ h)))) (by decide +kernel))
set_option maxRecDepth 20000 in
theorem gL_shaves_L_shave : GoodIn wsL_shaves (va_wsS RL 80 yL_shave wsL_shave) := goodIn_app (goodIn_of _ (by decide +kernel)) ggL_shaves_L_shave
set_option maxRecDepth 20000 in
theorem ggL_shaves_L_undo : GoodIn wsL_shaves wsL_undo := goodIn_ca (goodIn_r _ [154, 155, 7, 156, 157, 158, 12, 159, 160, 161, 63, 14, 130, 135, 136, 137, 30, 138, 42, 139, 140, 141, 142, 55, 114, 115, 116, 117, 118, 32, 33, 68, 69, 143, 70, 71, 72, 73, 74, 75, 76, 162, 163, 164, 165, 166, 167, 168, 169, 170, 171, 172, 173, 174, 175, 176, 177, 178, 179, 180, 181, 182, 183, 184, 185, 186, 187] (by decide +kernel) (by decide +kernel)) (goodIn_sub (fun _ h => List.mem_cons_of_mem _ (List.mem_append_right _ h)) (by decide +kernel))
set_option maxRecDepth 20000 in
theorem gL_shaves_L_undo : GoodIn wsL_shaves (va_wsS RL 132 yL_undo wsL_undo) := goodIn_app (goodIn_of _ (by decide +kernel)) ggL_shaves_L_undo
theorem dL_shaves_0 : decode cL_shaves 0 = .ok (.aload_n 0, 1) := by decide +kernel
theorem dL_shaves_1 : decode cL_shaves 1 = .ok (.iload_n 1, 1) := by decide +kernel
theorem dL_shaves_2 : decode cL_shaves 2 = .ok (.iconst 2, 1) := by decide +kernel
theorem dL_shaves_3 : decode cL_shaves 3 = .ok (.invokestatic 98, 3) := by decide +kernel
theorem dL_shaves_6 : decode cL_shaves 6 = .ok (.istore_n 2, 1) := by decide +kernel
theorem dL_shaves_7 : decode cL_shaves 7 = .ok (.aload_n 0, 1) := by decide +kernel
theorem dL_shaves_8 : decode cL_shaves 8 = .ok (.iload_n 1, 1) := by decide +kernel
theorem dL_shaves_9 : decode cL_shaves 9 = .ok (.iconst 0, 1) := by decide +kernel
theorem dL_shaves_10 : decode cL_shaves 10 = .ok (.invokestatic 98, 3) := by decide +kernel
theorem dL_shaves_13 : decode cL_shaves 13 = .ok (.istore_n 3, 1) := by decide +kernel
theorem dL_shaves_14 : decode cL_shaves 14 = .ok (.aload_n 0, 1) := by decide +kernel
theorem dL_shaves_15 : decode cL_shaves 15 = .ok (.bipush 8, 2) := by decide +kernel
theorem dL_shaves_17 : decode cL_shaves 17 = .ok (.invokestatic 109, 3) := by decide +kernel
theorem dL_shaves_20 : decode cL_shaves 20 = .ok (.istore 4, 2) := by decide +kernel
theorem dL_shaves_22 : decode cL_shaves 22 = .ok (.aload_n 0, 1) := by decide +kernel
theorem dL_shaves_23 : decode cL_shaves 23 = .ok (.invokestatic 128, 3) := by decide +kernel
theorem dL_shaves_26 : decode cL_shaves 26 = .ok (.lstore 5, 2) := by decide +kernel
theorem dL_shaves_28 : decode cL_shaves 28 = .ok (.aload_n 0, 1) := by decide +kernel
theorem dL_shaves_29 : decode cL_shaves 29 = .ok (.iload_n 1, 1) := by decide +kernel
theorem dL_shaves_30 : decode cL_shaves 30 = .ok (.invokestatic 80, 3) := by decide +kernel
theorem dL_shaves_33 : decode cL_shaves 33 = .ok (.istore 7, 2) := by decide +kernel
theorem dL_shaves_35 : decode cL_shaves 35 = .ok (.iload 7, 2) := by decide +kernel
theorem dL_shaves_37 : decode cL_shaves 37 = .ok (.iload_n 2, 1) := by decide +kernel
theorem dL_shaves_38 : decode cL_shaves 38 = .ok (.ifCond .ne 7, 3) := by decide +kernel
theorem dL_shaves_41 : decode cL_shaves 41 = .ok (.iconst (-1), 1) := by decide +kernel
theorem dL_shaves_42 : decode cL_shaves 42 = .ok (.goto 4, 3) := by decide +kernel
theorem dL_shaves_45 : decode cL_shaves 45 = .ok (.iload_n 2, 1) := by decide +kernel
theorem dL_shaves_46 : decode cL_shaves 46 = .ok (.if_icmp .ne 41, 3) := by decide +kernel
theorem dL_shaves_49 : decode cL_shaves 49 = .ok (.aload_n 0, 1) := by decide +kernel
theorem dL_shaves_50 : decode cL_shaves 50 = .ok (.iload_n 1, 1) := by decide +kernel
theorem dL_shaves_51 : decode cL_shaves 51 = .ok (.iconst 0, 1) := by decide +kernel
theorem dL_shaves_52 : decode cL_shaves 52 = .ok (.invokestatic 98, 3) := by decide +kernel
theorem dL_shaves_55 : decode cL_shaves 55 = .ok (.iload_n 3, 1) := by decide +kernel
theorem dL_shaves_56 : decode cL_shaves 56 = .ok (.iload_n 2, 1) := by decide +kernel
theorem dL_shaves_57 : decode cL_shaves 57 = .ok (.isub, 1) := by decide +kernel
theorem dL_shaves_58 : decode cL_shaves 58 = .ok (.if_icmp .ne 29, 3) := by decide +kernel
theorem dL_shaves_61 : decode cL_shaves 61 = .ok (.aload_n 0, 1) := by decide +kernel
theorem dL_shaves_62 : decode cL_shaves 62 = .ok (.bipush 8, 2) := by decide +kernel
theorem dL_shaves_64 : decode cL_shaves 64 = .ok (.invokestatic 109, 3) := by decide +kernel
theorem dL_shaves_67 : decode cL_shaves 67 = .ok (.iload 4, 2) := by decide +kernel
theorem dL_shaves_69 : decode cL_shaves 69 = .ok (.iload_n 2, 1) := by decide +kernel
theorem dL_shaves_70 : decode cL_shaves 70 = .ok (.iadd, 1) := by decide +kernel
theorem dL_shaves_71 : decode cL_shaves 71 = .ok (.if_icmp .ne 16, 3) := by decide +kernel
theorem dL_shaves_74 : decode cL_shaves 74 = .ok (.aload_n 0, 1) := by decide +kernel
theorem dL_shaves_75 : decode cL_shaves 75 = .ok (.iload_n 1, 1) := by decide +kernel
theorem dL_shaves_76 : decode cL_shaves 76 = .ok (.iconst 1, 1) := by decide +kernel
theorem dL_shaves_77 : decode cL_shaves 77 = .ok (.invokestatic 98, 3) := by decide +kernel
theorem dL_shaves_80 : decode cL_shaves 80 = .ok (.ifCond .ne 7, 3) := by decide +kernel
theorem dL_shaves_83 : decode cL_shaves 83 = .ok (.iconst 1, 1) := by decide +kernel
theorem dL_shaves_84 : decode cL_shaves 84 = .ok (.goto 4, 3) := by decide +kernel
theorem dL_shaves_87 : decode cL_shaves 87 = .ok (.iconst 0, 1) := by decide +kernel
theorem dL_shaves_88 : decode cL_shaves 88 = .ok (.istore 8, 2) := by decide +kernel
theorem dL_shaves_90 : decode cL_shaves 90 = .ok (.iload 8, 2) := by decide +kernel
theorem dL_shaves_92 : decode cL_shaves 92 = .ok (.ifCond .eq 24, 3) := by decide +kernel
theorem dL_shaves_95 : decode cL_shaves 95 = .ok (.aload_n 0, 1) := by decide +kernel
theorem dL_shaves_96 : decode cL_shaves 96 = .ok (.invokestatic 132, 3) := by decide +kernel
theorem dL_shaves_99 : decode cL_shaves 99 = .ok (.ifCond .lt 17, 3) := by decide +kernel
theorem dL_shaves_102 : decode cL_shaves 102 = .ok (.aload_n 0, 1) := by decide +kernel
theorem dL_shaves_103 : decode cL_shaves 103 = .ok (.invokestatic 128, 3) := by decide +kernel
theorem dL_shaves_106 : decode cL_shaves 106 = .ok (.lload 5, 2) := by decide +kernel
theorem dL_shaves_108 : decode cL_shaves 108 = .ok (.lcmp, 1) := by decide +kernel
theorem dL_shaves_109 : decode cL_shaves 109 = .ok (.ifCond .ne 7, 3) := by decide +kernel
theorem dL_shaves_112 : decode cL_shaves 112 = .ok (.iconst 1, 1) := by decide +kernel
theorem dL_shaves_113 : decode cL_shaves 113 = .ok (.goto 4, 3) := by decide +kernel
theorem dL_shaves_116 : decode cL_shaves 116 = .ok (.iconst 0, 1) := by decide +kernel
theorem dL_shaves_117 : decode cL_shaves 117 = .ok (.ireturn, 1) := by decide +kernel
