theorem dX2_init_0 : decode cX2_init 0 = .ok (.aload_n 0, 1) := by decide +kernel
theorem dX2_init_1 : decode cX2_init 1 = .ok (.invokespecial 3, 3) := by decide +kernel
theorem dX2_init_4 : decode cX2_init 4 = .ok (.aload_n 0, 1) := by decide +kernel
theorem dX2_init_5 : decode cX2_init 5 = .ok (.bipush 24, 2) := by decide +kernel
theorem dX2_init_7 : decode cX2_init 7 = .ok (.newarray .int, 2) := by decide +kernel
theorem dX2_init_9 : decode cX2_init 9 = .ok (.putfield 9, 3) := by decide +kernel
theorem dX2_init_12 : decode cX2_init 12 = .ok (.aload_n 0, 1) := by decide +kernel
theorem dX2_init_13 : decode cX2_init 13 = .ok (.bipush 24, 2) := by decide +kernel
theorem dX2_init_15 : decode cX2_init 15 = .ok (.newarray .int, 2) := by decide +kernel
theorem dX2_init_17 : decode cX2_init 17 = .ok (.putfield 15, 3) := by decide +kernel
theorem dX2_init_20 : decode cX2_init 20 = .ok (.aload_n 0, 1) := by decide +kernel
theorem dX2_init_21 : decode cX2_init 21 = .ok (.bipush 24, 2) := by decide +kernel
theorem dX2_init_23 : decode cX2_init 23 = .ok (.newarray .int, 2) := by decide +kernel
theorem dX2_init_25 : decode cX2_init 25 = .ok (.putfield 18, 3) := by decide +kernel
theorem dX2_init_28 : decode cX2_init 28 = .ok (.aload_n 0, 1) := by decide +kernel
theorem dX2_init_29 : decode cX2_init 29 = .ok (.bipush 24, 2) := by decide +kernel
theorem dX2_init_31 : decode cX2_init 31 = .ok (.newarray .int, 2) := by decide +kernel
theorem dX2_init_33 : decode cX2_init 33 = .ok (.putfield 21, 3) := by decide +kernel
theorem dX2_init_36 : decode cX2_init 36 = .ok (.aload_n 0, 1) := by decide +kernel
theorem dX2_init_37 : decode cX2_init 37 = .ok (.bipush 24, 2) := by decide +kernel
theorem dX2_init_39 : decode cX2_init 39 = .ok (.newarray .int, 2) := by decide +kernel
theorem dX2_init_41 : decode cX2_init 41 = .ok (.putfield 24, 3) := by decide +kernel
theorem dX2_init_44 : decode cX2_init 44 = .ok (.aload_n 0, 1) := by decide +kernel
theorem dX2_init_45 : decode cX2_init 45 = .ok (.bipush 24, 2) := by decide +kernel
theorem dX2_init_47 : decode cX2_init 47 = .ok (.newarray .int, 2) := by decide +kernel
theorem dX2_init_49 : decode cX2_init 49 = .ok (.putfield 27, 3) := by decide +kernel
theorem dX2_init_52 : decode cX2_init 52 = .ok (.aload_n 0, 1) := by decide +kernel
theorem dX2_init_53 : decode cX2_init 53 = .ok (.bipush 24, 2) := by decide +kernel
theorem dX2_init_55 : decode cX2_init 55 = .ok (.newarray .int, 2) := by decide +kernel
theorem dX2_init_57 : decode cX2_init 57 = .ok (.putfield 30, 3) := by decide +kernel
theorem dX2_init_60 : decode cX2_init 60 = .ok (.aload_n 0, 1) := by decide +kernel
theorem dX2_init_61 : decode cX2_init 61 = .ok (.bipush 6, 2) := by decide +kernel
theorem dX2_init_63 : decode cX2_init 63 = .ok (.newarray .int, 2) := by decide +kernel
theorem dX2_init_65 : decode cX2_init 65 = .ok (.putfield 33, 3) := by decide +kernel
theorem dX2_init_68 : decode cX2_init 68 = .ok (.aload_n 0, 1) := by decide +kernel
theorem dX2_init_69 : decode cX2_init 69 = .ok (.bipush 6, 2) := by decide +kernel
theorem dX2_init_71 : decode cX2_init 71 = .ok (.newarray .int, 2) := by decide +kernel
theorem dX2_init_73 : decode cX2_init 73 = .ok (.putfield 36, 3) := by decide +kernel
theorem dX2_init_76 : decode cX2_init 76 = .ok (.aload_n 0, 1) := by decide +kernel
theorem dX2_init_77 : decode cX2_init 77 = .ok (.bipush 100, 2) := by decide +kernel
theorem dX2_init_79 : decode cX2_init 79 = .ok (.putfield 39, 3) := by decide +kernel
theorem dX2_init_82 : decode cX2_init 82 = .ok (.aload_n 0, 1) := by decide +kernel
theorem dX2_init_83 : decode cX2_init 83 = .ok (.bipush 100, 2) := by decide +kernel
theorem dX2_init_85 : decode cX2_init 85 = .ok (.putfield 43, 3) := by decide +kernel
theorem dX2_init_88 : decode cX2_init 88 = .ok (.aload_n 0, 1) := by decide +kernel
theorem dX2_init_89 : decode cX2_init 89 = .ok (.iconst 3, 1) := by decide +kernel
theorem dX2_init_90 : decode cX2_init 90 = .ok (.putfield 46, 3) := by decide +kernel
theorem dX2_init_93 : decode cX2_init 93 = .ok (.aload_n 0, 1) := by decide +kernel
theorem dX2_init_94 : decode cX2_init 94 = .ok (.iconst 0, 1) := by decide +kernel
theorem dX2_init_95 : decode cX2_init 95 = .ok (.putfield 49, 3) := by decide +kernel
theorem dX2_init_98 : decode cX2_init 98 = .ok (.aload_n 0, 1) := by decide +kernel
theorem dX2_init_99 : decode cX2_init 99 = .ok (.iconst 0, 1) := by decide +kernel
theorem dX2_init_100 : decode cX2_init 100 = .ok (.putfield 52, 3) := by decide +kernel
theorem dX2_init_103 : decode cX2_init 103 = .ok (.aload_n 0, 1) := by decide +kernel
theorem dX2_init_104 : decode cX2_init 104 = .ok (.iconst 0, 1) := by decide +kernel
theorem dX2_init_105 : decode cX2_init 105 = .ok (.putfield 55, 3) := by decide +kernel
theorem dX2_init_108 : decode cX2_init 108 = .ok (.aload_n 0, 1) := by decide +kernel
theorem dX2_init_109 : decode cX2_init 109 = .ok (.iconst 0, 1) := by decide +kernel
theorem dX2_init_110 : decode cX2_init 110 = .ok (.putfield 58, 3) := by decide +kernel
theorem dX2_init_113 : decode cX2_init 113 = .ok (.aload_n 0, 1) := by decide +kernel
theorem dX2_init_114 : decode cX2_init 114 = .ok (.sipush 360, 3) := by decide +kernel
theorem dX2_init_117 : decode cX2_init 117 = .ok (.putfield 61, 3) := by decide +kernel
theorem dX2_init_120 : decode cX2_init 120 = .ok (.aload_n 0, 1) := by decide +kernel
theorem dX2_init_121 : decode cX2_init 121 = .ok (.iconst 0, 1) := by decide +kernel
theorem dX2_init_122 : decode cX2_init 122 = .ok (.putfield 64, 3) := by decide +kernel
theorem dX2_init_125 : decode cX2_init 125 = .ok (.aload_n 0, 1) := by decide +kernel
theorem dX2_init_126 : decode cX2_init 126 = .ok (.iconst 0, 1) := by decide +kernel
theorem dX2_init_127 : decode cX2_init 127 = .ok (.putfield 67, 3) := by decide +kernel
theorem dX2_init_130 : decode cX2_init 130 = .ok (.iconst 0, 1) := by decide +kernel
theorem dX2_init_131 : decode cX2_init 131 = .ok (.istore_n 1, 1) := by decide +kernel
theorem dX2_init_132 : decode cX2_init 132 = .ok (.iload_n 1, 1) := by decide +kernel
theorem dX2_init_133 : decode cX2_init 133 = .ok (.bipush 6, 2) := by decide +kernel
theorem dX2_init_135 : decode cX2_init 135 = .ok (.if_icmp .ge 17, 3) := by decide +kernel
theorem dX2_init_138 : decode cX2_init 138 = .ok (.aload_n 0, 1) := by decide +kernel
theorem dX2_init_139 : decode cX2_init 139 = .ok (.getfield 33, 3) := by decide +kernel
theorem dX2_init_142 : decode cX2_init 142 = .ok (.iload_n 1, 1) := by decide +kernel
theorem dX2_init_143 : decode cX2_init 143 = .ok (.bipush 60, 2) := by decide +kernel
theorem dX2_init_145 : decode cX2_init 145 = .ok (.iastore, 1) := by decide +kernel
theorem dX2_init_146 : decode cX2_init 146 = .ok (.iinc 1 1, 3) := by decide +kernel
theorem dX2_init_149 : decode cX2_init 149 = .ok (.goto (-17), 3) := by decide +kernel
theorem dX2_init_152 : decode cX2_init 152 = .ok (.iconst 0, 1) := by decide +kernel
theorem dX2_init_153 : decode cX2_init 153 = .ok (.istore_n 1, 1) := by decide +kernel
theorem dX2_init_154 : decode cX2_init 154 = .ok (.iload_n 1, 1) := by decide +kernel
theorem dX2_init_155 : decode cX2_init 155 = .ok (.bipush 24, 2) := by decide +kernel
theorem dX2_init_157 : decode cX2_init 157 = .ok (.if_icmp .ge 16, 3) := by decide +kernel
theorem dX2_init_160 : decode cX2_init 160 = .ok (.aload_n 0, 1) := by decide +kernel
theorem dX2_init_161 : decode cX2_init 161 = .ok (.getfield 24, 3) := by decide +kernel
theorem dX2_init_164 : decode cX2_init 164 = .ok (.iload_n 1, 1) := by decide +kernel
theorem dX2_init_165 : decode cX2_init 165 = .ok (.iconst (-1), 1) := by decide +kernel
theorem dX2_init_166 : decode cX2_init 166 = .ok (.iastore, 1) := by decide +kernel
theorem dX2_init_167 : decode cX2_init 167 = .ok (.iinc 1 1, 3) := by decide +kernel
theorem dX2_init_170 : decode cX2_init 170 = .ok (.goto (-16), 3) := by decide +kernel
theorem dX2_init_173 : decode cX2_init 173 = .ok (.return_, 1) := by decide +kernel
theorem dX2_takeOver_0 : decode cX2_takeOver 0 = .ok (.aload_n 1, 1) := by decide +kernel
theorem dX2_takeOver_1 : decode cX2_takeOver 1 = .ok (.getfield 9, 3) := by decide +kernel
theorem dX2_takeOver_4 : decode cX2_takeOver 4 = .ok (.iconst 0, 1) := by decide +kernel
theorem dX2_takeOver_5 : decode cX2_takeOver 5 = .ok (.aload_n 0, 1) := by decide +kernel
theorem dX2_takeOver_6 : decode cX2_takeOver 6 = .ok (.getfield 9, 3) := by decide +kernel
theorem dX2_takeOver_9 : decode cX2_takeOver 9 = .ok (.iconst 0, 1) := by decide +kernel
theorem dX2_takeOver_10 : decode cX2_takeOver 10 = .ok (.bipush 24, 2) := by decide +kernel
theorem dX2_takeOver_12 : decode cX2_takeOver 12 = .ok (.invokestatic 70, 3) := by decide +kernel
theorem dX2_takeOver_15 : decode cX2_takeOver 15 = .ok (.aload_n 1, 1) := by decide +kernel
theorem dX2_takeOver_16 : decode cX2_takeOver 16 = .ok (.getfield 15, 3) := by decide +kernel
theorem dX2_takeOver_19 : decode cX2_takeOver 19 = .ok (.iconst 0, 1) := by decide +kernel
theorem dX2_takeOver_20 : decode cX2_takeOver 20 = .ok (.aload_n 0, 1) := by decide +kernel
theorem dX2_takeOver_21 : decode cX2_takeOver 21 = .ok (.getfield 15, 3) := by decide +kernel
theorem dX2_takeOver_24 : decode cX2_takeOver 24 = .ok (.iconst 0, 1) := by decide +kernel
theorem dX2_takeOver_25 : decode cX2_takeOver 25 = .ok (.bipush 24, 2) := by decide +kernel
theorem dX2_takeOver_27 : decode cX2_takeOver 27 = .ok (.invokestatic 70, 3) := by decide +kernel
theorem dX2_takeOver_30 : decode cX2_takeOver 30 = .ok (.aload_n 1, 1) := by decide +kernel
theorem dX2_takeOver_31 : decode cX2_takeOver 31 = .ok (.getfield 18, 3) := by decide +kernel
theorem dX2_takeOver_34 : decode cX2_takeOver 34 = .ok (.iconst 0, 1) := by decide +kernel
theorem dX2_takeOver_35 : decode cX2_takeOver 35 = .ok (.aload_n 0, 1) := by decide +kernel
theorem dX2_takeOver_36 : decode cX2_takeOver 36 = .ok (.getfield 18, 3) := by decide +kernel
theorem dX2_takeOver_39 : decode cX2_takeOver 39 = .ok (.iconst 0, 1) := by decide +kernel
theorem dX2_takeOver_40 : decode cX2_takeOver 40 = .ok (.bipush 24, 2) := by decide +kernel
theorem dX2_takeOver_42 : decode cX2_takeOver 42 = .ok (.invokestatic 70, 3) := by decide +kernel
theorem dX2_takeOver_45 : decode cX2_takeOver 45 = .ok (.aload_n 1, 1) := by decide +kernel
theorem dX2_takeOver_46 : decode cX2_takeOver 46 = .ok (.getfield 21, 3) := by decide +kernel
theorem dX2_takeOver_49 : decode cX2_takeOver 49 = .ok (.iconst 0, 1) := by decide +kernel
theorem dX2_takeOver_50 : decode cX2_takeOver 50 = .ok (.aload_n 0, 1) := by decide +kernel
theorem dX2_takeOver_51 : decode cX2_takeOver 51 = .ok (.getfield 21, 3) := by decide +kernel
theorem dX2_takeOver_54 : decode cX2_takeOver 54 = .ok (.iconst 0, 1) := by decide +kernel
theorem dX2_takeOver_55 : decode cX2_takeOver 55 = .ok (.bipush 24, 2) := by decide +kernel
theorem dX2_takeOver_57 : decode cX2_takeOver 57 = .ok (.invokestatic 70, 3) := by decide +kernel
theorem dX2_takeOver_60 : decode cX2_takeOver 60 = .ok (.aload_n 1, 1) := by decide +kernel
theorem dX2_takeOver_61 : decode cX2_takeOver 61 = .ok (.getfield 24, 3) := by decide +kernel
theorem dX2_takeOver_64 : decode cX2_takeOver 64 = .ok (.iconst 0, 1) := by decide +kernel
theorem dX2_takeOver_65 : decode cX2_takeOver 65 = .ok (.aload_n 0, 1) := by decide +kernel
theorem dX2_takeOver_66 : decode cX2_takeOver 66 = .ok (.getfield 24, 3) := by decide +kernel
theorem dX2_takeOver_69 : decode cX2_takeOver 69 = .ok (.iconst 0, 1) := by decide +kernel
theorem dX2_takeOver_70 : decode cX2_takeOver 70 = .ok (.bipush 24, 2) := by decide +kernel
theorem dX2_takeOver_72 : decode cX2_takeOver 72 = .ok (.invokestatic 70, 3) := by decide +kernel
theorem dX2_takeOver_75 : decode cX2_takeOver 75 = .ok (.aload_n 1, 1) := by decide +kernel
theorem dX2_takeOver_76 : decode cX2_takeOver 76 = .ok (.getfield 27, 3) := by decide +kernel
theorem dX2_takeOver_79 : decode cX2_takeOver 79 = .ok (.iconst 0, 1) := by decide +kernel
theorem dX2_takeOver_80 : decode cX2_takeOver 80 = .ok (.aload_n 0, 1) := by decide +kernel
theorem dX2_takeOver_81 : decode cX2_takeOver 81 = .ok (.getfield 27, 3) := by decide +kernel
theorem dX2_takeOver_84 : decode cX2_takeOver 84 = .ok (.iconst 0, 1) := by decide +kernel
theorem dX2_takeOver_85 : decode cX2_takeOver 85 = .ok (.bipush 24, 2) := by decide +kernel
theorem dX2_takeOver_87 : decode cX2_takeOver 87 = .ok (.invokestatic 70, 3) := by decide +kernel
theorem dX2_takeOver_90 : decode cX2_takeOver 90 = .ok (.aload_n 1, 1) := by decide +kernel
theorem dX2_takeOver_91 : decode cX2_takeOver 91 = .ok (.getfield 30, 3) := by decide +kernel
theorem dX2_takeOver_94 : decode cX2_takeOver 94 = .ok (.iconst 0, 1) := by decide +kernel
theorem dX2_takeOver_95 : decode cX2_takeOver 95 = .ok (.aload_n 0, 1) := by decide +kernel
theorem dX2_takeOver_96 : decode cX2_takeOver 96 = .ok (.getfield 30, 3) := by decide +kernel
theorem dX2_takeOver_99 : decode cX2_takeOver 99 = .ok (.iconst 0, 1) := by decide +kernel
theorem dX2_takeOver_100 : decode cX2_takeOver 100 = .ok (.bipush 24, 2) := by decide +kernel
theorem dX2_takeOver_102 : decode cX2_takeOver 102 = .ok (.invokestatic 70, 3) := by decide +kernel
theorem dX2_takeOver_105 : decode cX2_takeOver 105 = .ok (.aload_n 1, 1) := by decide +kernel
theorem dX2_takeOver_106 : decode cX2_takeOver 106 = .ok (.getfield 33, 3) := by decide +kernel
theorem dX2_takeOver_109 : decode cX2_takeOver 109 = .ok (.iconst 0, 1) := by decide +kernel
theorem dX2_takeOver_110 : decode cX2_takeOver 110 = .ok (.aload_n 0, 1) := by decide +kernel
theorem dX2_takeOver_111 : decode cX2_takeOver 111 = .ok (.getfield 33, 3) := by decide +kernel
theorem dX2_takeOver_114 : decode cX2_takeOver 114 = .ok (.iconst 0, 1) := by decide +kernel
theorem dX2_takeOver_115 : decode cX2_takeOver 115 = .ok (.bipush 6, 2) := by decide +kernel
theorem dX2_takeOver_117 : decode cX2_takeOver 117 = .ok (.invokestatic 70, 3) := by decide +kernel
theorem dX2_takeOver_120 : decode cX2_takeOver 120 = .ok (.aload_n 1, 1) := by decide +kernel
theorem dX2_takeOver_121 : decode cX2_takeOver 121 = .ok (.getfield 36, 3) := by decide +kernel
theorem dX2_takeOver_124 : decode cX2_takeOver 124 = .ok (.iconst 0, 1) := by decide +kernel
theorem dX2_takeOver_125 : decode cX2_takeOver 125 = .ok (.aload_n 0, 1) := by decide +kernel
theorem dX2_takeOver_126 : decode cX2_takeOver 126 = .ok (.getfield 36, 3) := by decide +kernel
theorem dX2_takeOver_129 : decode cX2_takeOver 129 = .ok (.iconst 0, 1) := by decide +kernel
theorem dX2_takeOver_130 : decode cX2_takeOver 130 = .ok (.bipush 6, 2) := by decide +kernel
theorem dX2_takeOver_132 : decode cX2_takeOver 132 = .ok (.invokestatic 70, 3) := by decide +kernel
theorem dX2_takeOver_135 : decode cX2_takeOver 135 = .ok (.aload_n 0, 1) := by decide +kernel
theorem dX2_takeOver_136 : decode cX2_takeOver 136 = .ok (.aload_n 1, 1) := by decide +kernel
theorem dX2_takeOver_137 : decode cX2_takeOver 137 = .ok (.getfield 39, 3) := by decide +kernel
theorem dX2_takeOver_140 : decode cX2_takeOver 140 = .ok (.putfield 39, 3) := by decide +kernel
theorem dX2_takeOver_143 : decode cX2_takeOver 143 = .ok (.aload_n 0, 1) := by decide +kernel
theorem dX2_takeOver_144 : decode cX2_takeOver 144 = .ok (.aload_n 1, 1) := by decide +kernel
theorem dX2_takeOver_145 : decode cX2_takeOver 145 = .ok (.getfield 43, 3) := by decide +kernel
theorem dX2_takeOver_148 : decode cX2_takeOver 148 = .ok (.putfield 43, 3) := by decide +kernel
theorem dX2_takeOver_151 : decode cX2_takeOver 151 = .ok (.aload_n 0, 1) := by decide +kernel
theorem dX2_takeOver_152 : decode cX2_takeOver 152 = .ok (.aload_n 1, 1) := by decide +kernel
theorem dX2_takeOver_153 : decode cX2_takeOver 153 = .ok (.getfield 46, 3) := by decide +kernel
theorem dX2_takeOver_156 : decode cX2_takeOver 156 = .ok (.putfield 46, 3) := by decide +kernel
theorem dX2_takeOver_159 : decode cX2_takeOver 159 = .ok (.aload_n 0, 1) := by decide +kernel
theorem dX2_takeOver_160 : decode cX2_takeOver 160 = .ok (.aload_n 1, 1) := by decide +kernel
theorem dX2_takeOver_161 : decode cX2_takeOver 161 = .ok (.getfield 49, 3) := by decide +kernel
theorem dX2_takeOver_164 : decode cX2_takeOver 164 = .ok (.putfield 49, 3) := by decide +kernel
theorem dX2_takeOver_167 : decode cX2_takeOver 167 = .ok (.aload_n 0, 1) := by decide +kernel
theorem dX2_takeOver_168 : decode cX2_takeOver 168 = .ok (.aload_n 1, 1) := by decide +kernel
theorem dX2_takeOver_169 : decode cX2_takeOver 169 = .ok (.getfield 52, 3) := by decide +kernel
theorem dX2_takeOver_172 : decode cX2_takeOver 172 = .ok (.putfield 52, 3) := by decide +kernel
theorem dX2_takeOver_175 : decode cX2_takeOver 175 = .ok (.aload_n 0, 1) := by decide +kernel
theorem dX2_takeOver_176 : decode cX2_takeOver 176 = .ok (.aload_n 1, 1) := by decide +kernel
theorem dX2_takeOver_177 : decode cX2_takeOver 177 = .ok (.getfield 55, 3) := by decide +kernel
theorem dX2_takeOver_180 : decode cX2_takeOver 180 = .ok (.putfield 55, 3) := by decide +kernel
theorem dX2_takeOver_183 : decode cX2_takeOver 183 = .ok (.aload_n 0, 1) := by decide +kernel
theorem dX2_takeOver_184 : decode cX2_takeOver 184 = .ok (.aload_n 1, 1) := by decide +kernel
theorem dX2_takeOver_185 : decode cX2_takeOver 185 = .ok (.getfield 58, 3) := by decide +kernel
theorem dX2_takeOver_188 : decode cX2_takeOver 188 = .ok (.putfield 58, 3) := by decide +kernel
theorem dX2_takeOver_191 : decode cX2_takeOver 191 = .ok (.aload_n 0, 1) := by decide +kernel
theorem dX2_takeOver_192 : decode cX2_takeOver 192 = .ok (.aload_n 1, 1) := by decide +kernel
theorem dX2_takeOver_193 : decode cX2_takeOver 193 = .ok (.getfield 61, 3) := by decide +kernel
theorem dX2_takeOver_196 : decode cX2_takeOver 196 = .ok (.putfield 61, 3) := by decide +kernel
theorem dX2_takeOver_199 : decode cX2_takeOver 199 = .ok (.aload_n 0, 1) := by decide +kernel
theorem dX2_takeOver_200 : decode cX2_takeOver 200 = .ok (.aload_n 1, 1) := by decide +kernel
theorem dX2_takeOver_201 : decode cX2_takeOver 201 = .ok (.getfield 64, 3) := by decide +kernel
theorem dX2_takeOver_204 : decode cX2_takeOver 204 = .ok (.putfield 64, 3) := by decide +kernel
theorem dX2_takeOver_207 : decode cX2_takeOver 207 = .ok (.aload_n 0, 1) := by decide +kernel
theorem dX2_takeOver_208 : decode cX2_takeOver 208 = .ok (.aload_n 1, 1) := by decide +kernel
theorem dX2_takeOver_209 : decode cX2_takeOver 209 = .ok (.getfield 67, 3) := by decide +kernel
theorem dX2_takeOver_212 : decode cX2_takeOver 212 = .ok (.putfield 67, 3) := by decide +kernel
theorem dX2_takeOver_215 : decode cX2_takeOver 215 = .ok (.return_, 1) := by decide +kernel
theorem dX2_isCut_0 : decode cX2_isCut 0 = .ok (.aload_n 0, 1) := by decide +kernel
theorem dX2_isCut_1 : decode cX2_isCut 1 = .ok (.getfield 9, 3) := by decide +kernel
theorem dX2_isCut_4 : decode cX2_isCut 4 = .ok (.iload_n 1, 1) := by decide +kernel
theorem dX2_isCut_5 : decode cX2_isCut 5 = .ok (.iaload, 1) := by decide +kernel
theorem dX2_isCut_6 : decode cX2_isCut 6 = .ok (.ifCond .le 7, 3) := by decide +kernel
theorem dX2_isCut_9 : decode cX2_isCut 9 = .ok (.iconst 1, 1) := by decide +kernel
theorem dX2_isCut_10 : decode cX2_isCut 10 = .ok (.goto 4, 3) := by decide +kernel
theorem dX2_isCut_13 : decode cX2_isCut 13 = .ok (.iconst 0, 1) := by decide +kernel
theorem dX2_isCut_14 : decode cX2_isCut 14 = .ok (.ireturn, 1) := by decide +kernel
theorem dX2_machineFlutter_0 : decode cX2_machineFlutter 0 = .ok (.aload_n 0, 1) := by decide +kernel
theorem dX2_machineFlutter_1 : decode cX2_machineFlutter 1 = .ok (.getfield 43, 3) := by decide +kernel
theorem dX2_machineFlutter_4 : decode cX2_machineFlutter 4 = .ok (.bipush 50, 2) := by decide +kernel
theorem dX2_machineFlutter_6 : decode cX2_machineFlutter 6 = .ok (.if_icmp .lt 7, 3) := by decide +kernel
theorem dX2_machineFlutter_9 : decode cX2_machineFlutter 9 = .ok (.iconst 0, 1) := by decide +kernel
theorem dX2_machineFlutter_10 : decode cX2_machineFlutter 10 = .ok (.goto 12, 3) := by decide +kernel
theorem dX2_machineFlutter_13 : decode cX2_machineFlutter 13 = .ok (.bipush 50, 2) := by decide +kernel
theorem dX2_machineFlutter_15 : decode cX2_machineFlutter 15 = .ok (.aload_n 0, 1) := by decide +kernel
theorem dX2_machineFlutter_16 : decode cX2_machineFlutter 16 = .ok (.getfield 43, 3) := by decide +kernel
theorem dX2_machineFlutter_19 : decode cX2_machineFlutter 19 = .ok (.isub, 1) := by decide +kernel
theorem dX2_machineFlutter_20 : decode cX2_machineFlutter 20 = .ok (.iconst 5, 1) := by decide +kernel
theorem dX2_machineFlutter_21 : decode cX2_machineFlutter 21 = .ok (.idiv, 1) := by decide +kernel
theorem dX2_machineFlutter_22 : decode cX2_machineFlutter 22 = .ok (.ireturn, 1) := by decide +kernel
set_option maxRecDepth 20000 in
theorem ggX2_reasonNotToSpeak_X2_isCut : GoodIn wsX2_reasonNotToSpeak wsX2_isCut := goodIn_r _ [7, 8, 9, 10, 11, 12, 13, 14, 15, 16, 17, 18, 19, 20, 21, 22, 23, 24, 25, 26, 27] (by decide +kernel) (by decide +kernel)
set_option maxRecDepth 20000 in
theorem gX2_reasonNotToSpeak_X2_isCut : GoodIn wsX2_reasonNotToSpeak (wsV RX2 76 RX2 yX2_isCut wsX2_isCut) := goodIn_app (goodIn_of _ (by decide +kernel)) ggX2_reasonNotToSpeak_X2_isCut
theorem dX2_reasonNotToSpeak_0 : decode cX2_reasonNotToSpeak 0 = .ok (.aload_n 0, 1) := by decide +kernel
theorem dX2_reasonNotToSpeak_1 : decode cX2_reasonNotToSpeak 1 = .ok (.iload_n 1, 1) := by decide +kernel
theorem dX2_reasonNotToSpeak_2 : decode cX2_reasonNotToSpeak 2 = .ok (.invokevirtual 76, 3) := by decide +kernel
theorem dX2_reasonNotToSpeak_5 : decode cX2_reasonNotToSpeak 5 = .ok (.ifCond .eq 5, 3) := by decide +kernel
theorem dX2_reasonNotToSpeak_8 : decode cX2_reasonNotToSpeak 8 = .ok (.iconst 1, 1) := by decide +kernel
theorem dX2_reasonNotToSpeak_9 : decode cX2_reasonNotToSpeak 9 = .ok (.ireturn, 1) := by decide +kernel
theorem dX2_reasonNotToSpeak_10 : decode cX2_reasonNotToSpeak 10 = .ok (.aload_n 0, 1) := by decide +kernel
theorem dX2_reasonNotToSpeak_11 : decode cX2_reasonNotToSpeak 11 = .ok (.getfield 33, 3) := by decide +kernel
theorem dX2_reasonNotToSpeak_14 : decode cX2_reasonNotToSpeak 14 = .ok (.iload_n 1, 1) := by decide +kernel
theorem dX2_reasonNotToSpeak_15 : decode cX2_reasonNotToSpeak 15 = .ok (.iconst 4, 1) := by decide +kernel
theorem dX2_reasonNotToSpeak_16 : decode cX2_reasonNotToSpeak 16 = .ok (.idiv, 1) := by decide +kernel
theorem dX2_reasonNotToSpeak_17 : decode cX2_reasonNotToSpeak 17 = .ok (.iaload, 1) := by decide +kernel
theorem dX2_reasonNotToSpeak_18 : decode cX2_reasonNotToSpeak 18 = .ok (.iload_n 2, 1) := by decide +kernel
theorem dX2_reasonNotToSpeak_19 : decode cX2_reasonNotToSpeak 19 = .ok (.if_icmp .ge 5, 3) := by decide +kernel
theorem dX2_reasonNotToSpeak_22 : decode cX2_reasonNotToSpeak 22 = .ok (.iconst 2, 1) := by decide +kernel
theorem dX2_reasonNotToSpeak_23 : decode cX2_reasonNotToSpeak 23 = .ok (.ireturn, 1) := by decide +kernel
theorem dX2_reasonNotToSpeak_24 : decode cX2_reasonNotToSpeak 24 = .ok (.aload_n 0, 1) := by decide +kernel
theorem dX2_reasonNotToSpeak_25 : decode cX2_reasonNotToSpeak 25 = .ok (.getfield 43, 3) := by decide +kernel
theorem dX2_reasonNotToSpeak_28 : decode cX2_reasonNotToSpeak 28 = .ok (.bipush 10, 2) := by decide +kernel
theorem dX2_reasonNotToSpeak_30 : decode cX2_reasonNotToSpeak 30 = .ok (.if_icmp .ge 7, 3) := by decide +kernel
theorem dX2_reasonNotToSpeak_33 : decode cX2_reasonNotToSpeak 33 = .ok (.iconst 3, 1) := by decide +kernel
theorem dX2_reasonNotToSpeak_34 : decode cX2_reasonNotToSpeak 34 = .ok (.goto 4, 3) := by decide +kernel
theorem dX2_reasonNotToSpeak_37 : decode cX2_reasonNotToSpeak 37 = .ok (.iconst 0, 1) := by decide +kernel
theorem dX2_reasonNotToSpeak_38 : decode cX2_reasonNotToSpeak 38 = .ok (.ireturn, 1) := by decide +kernel
set_option maxRecDepth 20000 in
theorem ggX2_speakOnto_X2_reasonNotToSpeak : GoodIn wsX2_speakOnto wsX2_reasonNotToSpeak := goodIn_r _ [11, 12, 5, 13, 14, 15, 10, 16, 17, 39, 40, 41, 42, 43, 44, 45, 46, 47, 48, 49, 50, 51, 52, 53, 54, 55, 56, 57] (by decide +kernel) (by decide +kernel)
set_option maxRecDepth 20000 in
theorem gX2_speakOnto_X2_reasonNotToSpeak : GoodIn wsX2_speakOnto (wsV RX2 80 RX2 yX2_reasonNotToSpeak wsX2_reasonNotToSpeak) := goodIn_app (goodIn_of _ (by decide +kernel)) ggX2_speakOnto_X2_reasonNotToSpeak
set_option maxRecDepth 20000 in
theorem ggX2_speakOnto_X3_bluntness : GoodIn wsX2_speakOnto wsX3_bluntness := goodIn_r _ [20] (by decide +kernel) (by decide +kernel)
set_option maxRecDepth 20000 in
theorem gX2_speakOnto_X3_bluntness_n84 : GoodIn wsX2_speakOnto (wsX3_bluntness) := ggX2_speakOnto_X3_bluntness
set_option maxRecDepth 20000 in
theorem ggX2_speakOnto_X2_machineFlutter : GoodIn wsX2_speakOnto wsX2_machineFlutter := goodIn_r _ [24, 5, 39, 40, 41, 42, 43, 44, 45, 46, 47, 48, 49, 50, 51, 52, 53, 54, 55, 56, 57] (by decide +kernel) (by decide +kernel)
set_option maxRecDepth 20000 in
theorem gX2_speakOnto_X2_machineFlutter : GoodIn wsX2_speakOnto (wsV RX2 88 RX2 yX2_machineFlutter wsX2_machineFlutter) := goodIn_app (goodIn_of _ (by decide +kernel)) ggX2_speakOnto_X2_machineFlutter
set_option maxRecDepth 20000 in
theorem ggX2_speakOnto_X2_cut : GoodIn wsX2_speakOnto wsX2_cut := goodIn_r _ [28, 17, 29, 30, 31, 32, 4, 33, 19, 34, 35, 36, 37, 38, 39, 40, 41, 42, 43, 44, 45, 46, 47, 48, 49, 50, 51, 52, 53, 54, 55, 56, 57] (by decide +kernel) (by decide +kernel)
set_option maxRecDepth 20000 in
theorem gX2_speakOnto_X2_cut : GoodIn wsX2_speakOnto (wsV RX2 92 RX2 yX2_cut wsX2_cut) := goodIn_app (goodIn_of _ (by decide +kernel)) ggX2_speakOnto_X2_cut
theorem dX2_speakOnto_0 : decode cX2_speakOnto 0 = .ok (.aload_n 0, 1) := by decide +kernel
theorem dX2_speakOnto_1 : decode cX2_speakOnto 1 = .ok (.iload_n 1, 1) := by decide +kernel
theorem dX2_speakOnto_2 : decode cX2_speakOnto 2 = .ok (.iload_n 2, 1) := by decide +kernel
theorem dX2_speakOnto_3 : decode cX2_speakOnto 3 = .ok (.invokevirtual 80, 3) := by decide +kernel
theorem dX2_speakOnto_6 : decode cX2_speakOnto 6 = .ok (.istore_n 3, 1) := by decide +kernel
theorem dX2_speakOnto_7 : decode cX2_speakOnto 7 = .ok (.iload_n 3, 1) := by decide +kernel
theorem dX2_speakOnto_8 : decode cX2_speakOnto 8 = .ok (.ifCond .eq 15, 3) := by decide +kernel
theorem dX2_speakOnto_11 : decode cX2_speakOnto 11 = .ok (.aload_n 0, 1) := by decide +kernel
theorem dX2_speakOnto_12 : decode cX2_speakOnto 12 = .ok (.dup, 1) := by decide +kernel
theorem dX2_speakOnto_13 : decode cX2_speakOnto 13 = .ok (.getfield 67, 3) := by decide +kernel
theorem dX2_speakOnto_16 : decode cX2_speakOnto 16 = .ok (.iconst 1, 1) := by decide +kernel
theorem dX2_speakOnto_17 : decode cX2_speakOnto 17 = .ok (.iadd, 1) := by decide +kernel
theorem dX2_speakOnto_18 : decode cX2_speakOnto 18 = .ok (.putfield 67, 3) := by decide +kernel
theorem dX2_speakOnto_21 : decode cX2_speakOnto 21 = .ok (.iload_n 3, 1) := by decide +kernel
theorem dX2_speakOnto_22 : decode cX2_speakOnto 22 = .ok (.ireturn, 1) := by decide +kernel
theorem dX2_speakOnto_23 : decode cX2_speakOnto 23 = .ok (.aload_n 0, 1) := by decide +kernel
theorem dX2_speakOnto_24 : decode cX2_speakOnto 24 = .ok (.getfield 21, 3) := by decide +kernel
theorem dX2_speakOnto_27 : decode cX2_speakOnto 27 = .ok (.iload_n 1, 1) := by decide +kernel
theorem dX2_speakOnto_28 : decode cX2_speakOnto 28 = .ok (.iconst 0, 1) := by decide +kernel
theorem dX2_speakOnto_29 : decode cX2_speakOnto 29 = .ok (.iastore, 1) := by decide +kernel
theorem dX2_speakOnto_30 : decode cX2_speakOnto 30 = .ok (.aload_n 0, 1) := by decide +kernel
theorem dX2_speakOnto_31 : decode cX2_speakOnto 31 = .ok (.getfield 24, 3) := by decide +kernel
theorem dX2_speakOnto_34 : decode cX2_speakOnto 34 = .ok (.iload_n 1, 1) := by decide +kernel
theorem dX2_speakOnto_35 : decode cX2_speakOnto 35 = .ok (.iconst (-1), 1) := by decide +kernel
theorem dX2_speakOnto_36 : decode cX2_speakOnto 36 = .ok (.iastore, 1) := by decide +kernel
theorem dX2_speakOnto_37 : decode cX2_speakOnto 37 = .ok (.aload_n 0, 1) := by decide +kernel
theorem dX2_speakOnto_38 : decode cX2_speakOnto 38 = .ok (.iload_n 1, 1) := by decide +kernel
theorem dX2_speakOnto_39 : decode cX2_speakOnto 39 = .ok (.iload_n 2, 1) := by decide +kernel
theorem dX2_speakOnto_40 : decode cX2_speakOnto 40 = .ok (.bipush 40, 2) := by decide +kernel
theorem dX2_speakOnto_42 : decode cX2_speakOnto 42 = .ok (.iconst 5, 1) := by decide +kernel
theorem dX2_speakOnto_43 : decode cX2_speakOnto 43 = .ok (.iload_n 2, 1) := by decide +kernel
theorem dX2_speakOnto_44 : decode cX2_speakOnto 44 = .ok (.imul, 1) := by decide +kernel
theorem dX2_speakOnto_45 : decode cX2_speakOnto 45 = .ok (.iadd, 1) := by decide +kernel
theorem dX2_speakOnto_46 : decode cX2_speakOnto 46 = .ok (.aload_n 0, 1) := by decide +kernel
theorem dX2_speakOnto_47 : decode cX2_speakOnto 47 = .ok (.getfield 39, 3) := by decide +kernel
theorem dX2_speakOnto_50 : decode cX2_speakOnto 50 = .ok (.invokestatic 84, 3) := by decide +kernel
theorem dX2_speakOnto_53 : decode cX2_speakOnto 53 = .ok (.isub, 1) := by decide +kernel
theorem dX2_speakOnto_54 : decode cX2_speakOnto 54 = .ok (.aload_n 0, 1) := by decide +kernel
theorem dX2_speakOnto_55 : decode cX2_speakOnto 55 = .ok (.invokevirtual 88, 3) := by decide +kernel
theorem dX2_speakOnto_58 : decode cX2_speakOnto 58 = .ok (.invokevirtual 92, 3) := by decide +kernel
theorem dX2_speakOnto_61 : decode cX2_speakOnto 61 = .ok (.aload_n 0, 1) := by decide +kernel
theorem dX2_speakOnto_62 : decode cX2_speakOnto 62 = .ok (.dup, 1) := by decide +kernel
theorem dX2_speakOnto_63 : decode cX2_speakOnto 63 = .ok (.getfield 43, 3) := by decide +kernel
theorem dX2_speakOnto_66 : decode cX2_speakOnto 66 = .ok (.bipush 10, 2) := by decide +kernel
theorem dX2_speakOnto_68 : decode cX2_speakOnto 68 = .ok (.isub, 1) := by decide +kernel
theorem dX2_speakOnto_69 : decode cX2_speakOnto 69 = .ok (.putfield 43, 3) := by decide +kernel
theorem dX2_speakOnto_72 : decode cX2_speakOnto 72 = .ok (.aload_n 0, 1) := by decide +kernel
theorem dX2_speakOnto_73 : decode cX2_speakOnto 73 = .ok (.dup, 1) := by decide +kernel
theorem dX2_speakOnto_74 : decode cX2_speakOnto 74 = .ok (.getfield 49, 3) := by decide +kernel
theorem dX2_speakOnto_77 : decode cX2_speakOnto 77 = .ok (.iconst 1, 1) := by decide +kernel
theorem dX2_speakOnto_78 : decode cX2_speakOnto 78 = .ok (.iadd, 1) := by decide +kernel
theorem dX2_speakOnto_79 : decode cX2_speakOnto 79 = .ok (.putfield 49, 3) := by decide +kernel
theorem dX2_speakOnto_82 : decode cX2_speakOnto 82 = .ok (.iconst 0, 1) := by decide +kernel
theorem dX2_speakOnto_83 : decode cX2_speakOnto 83 = .ok (.ireturn, 1) := by decide +kernel
set_option maxRecDepth 20000 in
theorem ggX2_reasonNotToCopy_X2_isCut : GoodIn wsX2_reasonNotToCopy wsX2_isCut := goodIn_r _ [8, 2, 19, 20, 21, 22, 23, 24, 25, 26, 27, 28, 29, 30, 31, 32, 33, 34, 35, 36, 37] (by decide +kernel) (by decide +kernel)
set_option maxRecDepth 20000 in
theorem gX2_reasonNotToCopy_X2_isCut : GoodIn wsX2_reasonNotToCopy (wsV RX2 76 RX2 yX2_isCut wsX2_isCut) := goodIn_app (goodIn_of _ (by decide +kernel)) ggX2_reasonNotToCopy_X2_isCut
set_option maxRecDepth 20000 in
theorem ggX2_reasonNotToCopy_X3_copiedDepth : GoodIn wsX2_reasonNotToCopy wsX3_copiedDepth := goodIn_r _ [11, 12, 13, 14, 15, 16, 17, 18] (by decide +kernel) (by decide +kernel)
set_option maxRecDepth 20000 in
theorem gX2_reasonNotToCopy_X3_copiedDepth_n96 : GoodIn wsX2_reasonNotToCopy (wsX3_copiedDepth) := ggX2_reasonNotToCopy_X3_copiedDepth
theorem dX2_reasonNotToCopy_0 : decode cX2_reasonNotToCopy 0 = .ok (.aload_n 0, 1) := by decide +kernel
theorem dX2_reasonNotToCopy_1 : decode cX2_reasonNotToCopy 1 = .ok (.iload_n 1, 1) := by decide +kernel
theorem dX2_reasonNotToCopy_2 : decode cX2_reasonNotToCopy 2 = .ok (.invokevirtual 76, 3) := by decide +kernel
theorem dX2_reasonNotToCopy_5 : decode cX2_reasonNotToCopy 5 = .ok (.ifCond .ne 5, 3) := by decide +kernel
theorem dX2_reasonNotToCopy_8 : decode cX2_reasonNotToCopy 8 = .ok (.iconst 1, 1) := by decide +kernel
theorem dX2_reasonNotToCopy_9 : decode cX2_reasonNotToCopy 9 = .ok (.ireturn, 1) := by decide +kernel
theorem dX2_reasonNotToCopy_10 : decode cX2_reasonNotToCopy 10 = .ok (.aload_n 0, 1) := by decide +kernel
theorem dX2_reasonNotToCopy_11 : decode cX2_reasonNotToCopy 11 = .ok (.iload_n 2, 1) := by decide +kernel
theorem dX2_reasonNotToCopy_12 : decode cX2_reasonNotToCopy 12 = .ok (.invokevirtual 76, 3) := by decide +kernel
theorem dX2_reasonNotToCopy_15 : decode cX2_reasonNotToCopy 15 = .ok (.ifCond .eq 5, 3) := by decide +kernel
theorem dX2_reasonNotToCopy_18 : decode cX2_reasonNotToCopy 18 = .ok (.iconst 2, 1) := by decide +kernel
theorem dX2_reasonNotToCopy_19 : decode cX2_reasonNotToCopy 19 = .ok (.ireturn, 1) := by decide +kernel
theorem dX2_reasonNotToCopy_20 : decode cX2_reasonNotToCopy 20 = .ok (.iload_n 1, 1) := by decide +kernel
theorem dX2_reasonNotToCopy_21 : decode cX2_reasonNotToCopy 21 = .ok (.iconst 4, 1) := by decide +kernel
theorem dX2_reasonNotToCopy_22 : decode cX2_reasonNotToCopy 22 = .ok (.idiv, 1) := by decide +kernel
theorem dX2_reasonNotToCopy_23 : decode cX2_reasonNotToCopy 23 = .ok (.iload_n 2, 1) := by decide +kernel
theorem dX2_reasonNotToCopy_24 : decode cX2_reasonNotToCopy 24 = .ok (.iconst 4, 1) := by decide +kernel
theorem dX2_reasonNotToCopy_25 : decode cX2_reasonNotToCopy 25 = .ok (.idiv, 1) := by decide +kernel
theorem dX2_reasonNotToCopy_26 : decode cX2_reasonNotToCopy 26 = .ok (.if_icmp .ne 5, 3) := by decide +kernel
theorem dX2_reasonNotToCopy_29 : decode cX2_reasonNotToCopy 29 = .ok (.iconst 3, 1) := by decide +kernel
theorem dX2_reasonNotToCopy_30 : decode cX2_reasonNotToCopy 30 = .ok (.ireturn, 1) := by decide +kernel
theorem dX2_reasonNotToCopy_31 : decode cX2_reasonNotToCopy 31 = .ok (.aload_n 0, 1) := by decide +kernel
theorem dX2_reasonNotToCopy_32 : decode cX2_reasonNotToCopy 32 = .ok (.getfield 33, 3) := by decide +kernel
theorem dX2_reasonNotToCopy_35 : decode cX2_reasonNotToCopy 35 = .ok (.iload_n 2, 1) := by decide +kernel
theorem dX2_reasonNotToCopy_36 : decode cX2_reasonNotToCopy 36 = .ok (.iconst 4, 1) := by decide +kernel
theorem dX2_reasonNotToCopy_37 : decode cX2_reasonNotToCopy 37 = .ok (.idiv, 1) := by decide +kernel
theorem dX2_reasonNotToCopy_38 : decode cX2_reasonNotToCopy 38 = .ok (.iaload, 1) := by decide +kernel
theorem dX2_reasonNotToCopy_39 : decode cX2_reasonNotToCopy 39 = .ok (.aload_n 0, 1) := by decide +kernel
theorem dX2_reasonNotToCopy_40 : decode cX2_reasonNotToCopy 40 = .ok (.getfield 9, 3) := by decide +kernel
theorem dX2_reasonNotToCopy_43 : decode cX2_reasonNotToCopy 43 = .ok (.iload_n 1, 1) := by decide +kernel
theorem dX2_reasonNotToCopy_44 : decode cX2_reasonNotToCopy 44 = .ok (.iaload, 1) := by decide +kernel
theorem dX2_reasonNotToCopy_45 : decode cX2_reasonNotToCopy 45 = .ok (.iload_n 3, 1) := by decide +kernel
theorem dX2_reasonNotToCopy_46 : decode cX2_reasonNotToCopy 46 = .ok (.invokestatic 96, 3) := by decide +kernel
theorem dX2_reasonNotToCopy_49 : decode cX2_reasonNotToCopy 49 = .ok (.if_icmp .ge 5, 3) := by decide +kernel
theorem dX2_reasonNotToCopy_52 : decode cX2_reasonNotToCopy 52 = .ok (.iconst 4, 1) := by decide +kernel
theorem dX2_reasonNotToCopy_53 : decode cX2_reasonNotToCopy 53 = .ok (.ireturn, 1) := by decide +kernel
theorem dX2_reasonNotToCopy_54 : decode cX2_reasonNotToCopy 54 = .ok (.aload_n 0, 1) := by decide +kernel
theorem dX2_reasonNotToCopy_55 : decode cX2_reasonNotToCopy 55 = .ok (.getfield 43, 3) := by decide +kernel
theorem dX2_reasonNotToCopy_58 : decode cX2_reasonNotToCopy 58 = .ok (.bipush 20, 2) := by decide +kernel
theorem dX2_reasonNotToCopy_60 : decode cX2_reasonNotToCopy 60 = .ok (.if_icmp .ge 7, 3) := by decide +kernel
theorem dX2_reasonNotToCopy_63 : decode cX2_reasonNotToCopy 63 = .ok (.iconst 5, 1) := by decide +kernel
theorem dX2_reasonNotToCopy_64 : decode cX2_reasonNotToCopy 64 = .ok (.goto 4, 3) := by decide +kernel
theorem dX2_reasonNotToCopy_67 : decode cX2_reasonNotToCopy 67 = .ok (.iconst 0, 1) := by decide +kernel
theorem dX2_reasonNotToCopy_68 : decode cX2_reasonNotToCopy 68 = .ok (.ireturn, 1) := by decide +kernel
set_option maxRecDepth 20000 in
theorem ggX2_clearnessIfCopied_X2_machineFlutter : GoodIn wsX2_clearnessIfCopied wsX2_machineFlutter := goodIn_r _ [7, 8, 19, 20, 21, 22, 23, 24, 25, 26, 27, 28, 29, 30, 31, 32, 33, 34, 35, 36, 37] (by decide +kernel) (by decide +kernel)
set_option maxRecDepth 20000 in
theorem gX2_clearnessIfCopied_X2_machineFlutter : GoodIn wsX2_clearnessIfCopied (wsV RX2 88 RX2 yX2_machineFlutter wsX2_machineFlutter) := goodIn_app (goodIn_of _ (by decide +kernel)) ggX2_clearnessIfCopied_X2_machineFlutter
set_option maxRecDepth 20000 in
theorem ggX2_clearnessIfCopied_X3_copiedClearness : GoodIn wsX2_clearnessIfCopied wsX3_copiedClearness := goodIn_r _ [11, 12, 13, 14, 15, 16, 17, 10, 18] (by decide +kernel) (by decide +kernel)
set_option maxRecDepth 20000 in
theorem gX2_clearnessIfCopied_X3_copiedClearness_n99 : GoodIn wsX2_clearnessIfCopied (wsX3_copiedClearness) := ggX2_clearnessIfCopied_X3_copiedClearness
theorem dX2_clearnessIfCopied_0 : decode cX2_clearnessIfCopied 0 = .ok (.aload_n 0, 1) := by decide +kernel
theorem dX2_clearnessIfCopied_1 : decode cX2_clearnessIfCopied 1 = .ok (.getfield 15, 3) := by decide +kernel
theorem dX2_clearnessIfCopied_4 : decode cX2_clearnessIfCopied 4 = .ok (.iload_n 1, 1) := by decide +kernel
theorem dX2_clearnessIfCopied_5 : decode cX2_clearnessIfCopied 5 = .ok (.iaload, 1) := by decide +kernel
theorem dX2_clearnessIfCopied_6 : decode cX2_clearnessIfCopied 6 = .ok (.iload_n 2, 1) := by decide +kernel
theorem dX2_clearnessIfCopied_7 : decode cX2_clearnessIfCopied 7 = .ok (.aload_n 0, 1) := by decide +kernel
theorem dX2_clearnessIfCopied_8 : decode cX2_clearnessIfCopied 8 = .ok (.getfield 39, 3) := by decide +kernel
theorem dX2_clearnessIfCopied_11 : decode cX2_clearnessIfCopied 11 = .ok (.aload_n 0, 1) := by decide +kernel
theorem dX2_clearnessIfCopied_12 : decode cX2_clearnessIfCopied 12 = .ok (.invokevirtual 88, 3) := by decide +kernel
theorem dX2_clearnessIfCopied_15 : decode cX2_clearnessIfCopied 15 = .ok (.invokestatic 99, 3) := by decide +kernel
theorem dX2_clearnessIfCopied_18 : decode cX2_clearnessIfCopied 18 = .ok (.ireturn, 1) := by decide +kernel
set_option maxRecDepth 20000 in
theorem ggX2_copyOnto_X2_reasonNotToCopy : GoodIn wsX2_copyOnto wsX2_reasonNotToCopy := goodIn_r _ [16, 17, 9, 10, 18, 19, 20, 15, 21, 22, 23, 24, 25, 26, 7, 27, 28, 6, 8, 52, 53, 54, 55, 56, 57, 58, 59, 60, 61, 62, 63, 64, 65, 66, 67, 68, 69, 70] (by decide +kernel) (by decide +kernel)
set_option maxRecDepth 20000 in
theorem gX2_copyOnto_X2_reasonNotToCopy : GoodIn wsX2_copyOnto (wsV RX2 103 RX2 yX2_reasonNotToCopy wsX2_reasonNotToCopy) := goodIn_app (goodIn_of _ (by decide +kernel)) ggX2_copyOnto_X2_reasonNotToCopy
set_option maxRecDepth 20000 in
theorem ggX2_copyOnto_X2_machineFlutter : GoodIn wsX2_copyOnto wsX2_machineFlutter := goodIn_r _ [32, 10, 52, 53, 54, 55, 56, 57, 58, 59, 60, 61, 62, 63, 64, 65, 66, 67, 68, 69, 70] (by decide +kernel) (by decide +kernel)
set_option maxRecDepth 20000 in
theorem gX2_copyOnto_X2_machineFlutter : GoodIn wsX2_copyOnto (wsV RX2 88 RX2 yX2_machineFlutter wsX2_machineFlutter) := goodIn_app (goodIn_of _ (by decide +kernel)) ggX2_copyOnto_X2_machineFlutter
set_option maxRecDepth 20000 in
theorem ggX2_copyOnto_X3_copiedDepth : GoodIn wsX2_copyOnto wsX3_copiedDepth := goodIn_r _ [24, 25, 26, 7, 27, 28, 6, 8] (by decide +kernel) (by decide +kernel)
set_option maxRecDepth 20000 in
theorem gX2_copyOnto_X3_copiedDepth_n96 : GoodIn wsX2_copyOnto (wsX3_copiedDepth) := ggX2_copyOnto_X3_copiedDepth
set_option maxRecDepth 20000 in
theorem ggX2_copyOnto_X2_clearnessIfCopied : GoodIn wsX2_copyOnto wsX2_clearnessIfCopied := goodIn_r _ [36, 37, 38, 29, 30, 31, 15, 32, 10, 39, 23, 40, 25, 26, 7, 27, 41, 42, 43, 52, 53, 54, 55, 56, 57, 58, 59, 60, 61, 62, 63, 64, 65, 66, 67, 68, 69, 70] (by decide +kernel) (by decide +kernel)
set_option maxRecDepth 20000 in
theorem gX2_copyOnto_X2_clearnessIfCopied : GoodIn wsX2_copyOnto (wsV RX2 112 RX2 yX2_clearnessIfCopied wsX2_clearnessIfCopied) := goodIn_app (goodIn_of _ (by decide +kernel)) ggX2_copyOnto_X2_clearnessIfCopied
set_option maxRecDepth 20000 in
theorem ggX2_copyOnto_X2_cut : GoodIn wsX2_copyOnto wsX2_cut := goodIn_r _ [47, 9, 37, 48, 4, 49, 38, 50, 23, 51, 25, 26, 7, 27, 52, 53, 54, 55, 56, 57, 58, 59, 60, 61, 62, 63, 64, 65, 66, 67, 68, 69, 70] (by decide +kernel) (by decide +kernel)
set_option maxRecDepth 20000 in
theorem gX2_copyOnto_X2_cut : GoodIn wsX2_copyOnto (wsV RX2 92 RX2 yX2_cut wsX2_cut) := goodIn_app (goodIn_of _ (by decide +kernel)) ggX2_copyOnto_X2_cut
theorem dX2_copyOnto_0 : decode cX2_copyOnto 0 = .ok (.aload_n 0, 1) := by decide +kernel
theorem dX2_copyOnto_1 : decode cX2_copyOnto 1 = .ok (.iload_n 1, 1) := by decide +kernel
theorem dX2_copyOnto_2 : decode cX2_copyOnto 2 = .ok (.iload_n 2, 1) := by decide +kernel
theorem dX2_copyOnto_3 : decode cX2_copyOnto 3 = .ok (.iload_n 3, 1) := by decide +kernel
theorem dX2_copyOnto_4 : decode cX2_copyOnto 4 = .ok (.invokevirtual 103, 3) := by decide +kernel
theorem dX2_copyOnto_7 : decode cX2_copyOnto 7 = .ok (.istore 4, 2) := by decide +kernel
theorem dX2_copyOnto_9 : decode cX2_copyOnto 9 = .ok (.iload 4, 2) := by decide +kernel
theorem dX2_copyOnto_11 : decode cX2_copyOnto 11 = .ok (.ifCond .eq 16, 3) := by decide +kernel
theorem dX2_copyOnto_14 : decode cX2_copyOnto 14 = .ok (.aload_n 0, 1) := by decide +kernel
theorem dX2_copyOnto_15 : decode cX2_copyOnto 15 = .ok (.dup, 1) := by decide +kernel
theorem dX2_copyOnto_16 : decode cX2_copyOnto 16 = .ok (.getfield 67, 3) := by decide +kernel
theorem dX2_copyOnto_19 : decode cX2_copyOnto 19 = .ok (.iconst 1, 1) := by decide +kernel
theorem dX2_copyOnto_20 : decode cX2_copyOnto 20 = .ok (.iadd, 1) := by decide +kernel
theorem dX2_copyOnto_21 : decode cX2_copyOnto 21 = .ok (.putfield 67, 3) := by decide +kernel
theorem dX2_copyOnto_24 : decode cX2_copyOnto 24 = .ok (.iload 4, 2) := by decide +kernel
theorem dX2_copyOnto_26 : decode cX2_copyOnto 26 = .ok (.ireturn, 1) := by decide +kernel
theorem dX2_copyOnto_27 : decode cX2_copyOnto 27 = .ok (.aload_n 0, 1) := by decide +kernel
theorem dX2_copyOnto_28 : decode cX2_copyOnto 28 = .ok (.getfield 21, 3) := by decide +kernel
theorem dX2_copyOnto_31 : decode cX2_copyOnto 31 = .ok (.iload_n 2, 1) := by decide +kernel
theorem dX2_copyOnto_32 : decode cX2_copyOnto 32 = .ok (.aload_n 0, 1) := by decide +kernel
theorem dX2_copyOnto_33 : decode cX2_copyOnto 33 = .ok (.getfield 21, 3) := by decide +kernel
theorem dX2_copyOnto_36 : decode cX2_copyOnto 36 = .ok (.iload_n 1, 1) := by decide +kernel
theorem dX2_copyOnto_37 : decode cX2_copyOnto 37 = .ok (.iaload, 1) := by decide +kernel
theorem dX2_copyOnto_38 : decode cX2_copyOnto 38 = .ok (.iconst 1, 1) := by decide +kernel
theorem dX2_copyOnto_39 : decode cX2_copyOnto 39 = .ok (.iadd, 1) := by decide +kernel
theorem dX2_copyOnto_40 : decode cX2_copyOnto 40 = .ok (.iastore, 1) := by decide +kernel
theorem dX2_copyOnto_41 : decode cX2_copyOnto 41 = .ok (.aload_n 0, 1) := by decide +kernel
theorem dX2_copyOnto_42 : decode cX2_copyOnto 42 = .ok (.getfield 24, 3) := by decide +kernel
theorem dX2_copyOnto_45 : decode cX2_copyOnto 45 = .ok (.iload_n 2, 1) := by decide +kernel
theorem dX2_copyOnto_46 : decode cX2_copyOnto 46 = .ok (.iload_n 1, 1) := by decide +kernel
theorem dX2_copyOnto_47 : decode cX2_copyOnto 47 = .ok (.iastore, 1) := by decide +kernel
theorem dX2_copyOnto_48 : decode cX2_copyOnto 48 = .ok (.bipush 20, 2) := by decide +kernel
theorem dX2_copyOnto_50 : decode cX2_copyOnto 50 = .ok (.aload_n 0, 1) := by decide +kernel
theorem dX2_copyOnto_51 : decode cX2_copyOnto 51 = .ok (.getfield 18, 3) := by decide +kernel
theorem dX2_copyOnto_54 : decode cX2_copyOnto 54 = .ok (.iload_n 1, 1) := by decide +kernel
theorem dX2_copyOnto_55 : decode cX2_copyOnto 55 = .ok (.iaload, 1) := by decide +kernel
theorem dX2_copyOnto_56 : decode cX2_copyOnto 56 = .ok (.aload_n 0, 1) := by decide +kernel
theorem dX2_copyOnto_57 : decode cX2_copyOnto 57 = .ok (.invokevirtual 88, 3) := by decide +kernel
theorem dX2_copyOnto_60 : decode cX2_copyOnto 60 = .ok (.iadd, 1) := by decide +kernel
theorem dX2_copyOnto_61 : decode cX2_copyOnto 61 = .ok (.invokestatic 107, 3) := by decide +kernel
theorem dX2_copyOnto_64 : decode cX2_copyOnto 64 = .ok (.istore 5, 2) := by decide +kernel
theorem dX2_copyOnto_66 : decode cX2_copyOnto 66 = .ok (.aload_n 0, 1) := by decide +kernel
theorem dX2_copyOnto_67 : decode cX2_copyOnto 67 = .ok (.iload_n 2, 1) := by decide +kernel
theorem dX2_copyOnto_68 : decode cX2_copyOnto 68 = .ok (.aload_n 0, 1) := by decide +kernel
theorem dX2_copyOnto_69 : decode cX2_copyOnto 69 = .ok (.getfield 9, 3) := by decide +kernel
theorem dX2_copyOnto_72 : decode cX2_copyOnto 72 = .ok (.iload_n 1, 1) := by decide +kernel
theorem dX2_copyOnto_73 : decode cX2_copyOnto 73 = .ok (.iaload, 1) := by decide +kernel
theorem dX2_copyOnto_74 : decode cX2_copyOnto 74 = .ok (.iload_n 3, 1) := by decide +kernel
theorem dX2_copyOnto_75 : decode cX2_copyOnto 75 = .ok (.invokestatic 96, 3) := by decide +kernel
theorem dX2_copyOnto_78 : decode cX2_copyOnto 78 = .ok (.aload_n 0, 1) := by decide +kernel
theorem dX2_copyOnto_79 : decode cX2_copyOnto 79 = .ok (.iload_n 1, 1) := by decide +kernel
theorem dX2_copyOnto_80 : decode cX2_copyOnto 80 = .ok (.iload_n 3, 1) := by decide +kernel
theorem dX2_copyOnto_81 : decode cX2_copyOnto 81 = .ok (.invokevirtual 112, 3) := by decide +kernel
theorem dX2_copyOnto_84 : decode cX2_copyOnto 84 = .ok (.iload 5, 2) := by decide +kernel
theorem dX2_copyOnto_86 : decode cX2_copyOnto 86 = .ok (.invokevirtual 92, 3) := by decide +kernel
theorem dX2_copyOnto_89 : decode cX2_copyOnto 89 = .ok (.aload_n 0, 1) := by decide +kernel
theorem dX2_copyOnto_90 : decode cX2_copyOnto 90 = .ok (.dup, 1) := by decide +kernel
theorem dX2_copyOnto_91 : decode cX2_copyOnto 91 = .ok (.getfield 43, 3) := by decide +kernel
theorem dX2_copyOnto_94 : decode cX2_copyOnto 94 = .ok (.bipush 20, 2) := by decide +kernel
theorem dX2_copyOnto_96 : decode cX2_copyOnto 96 = .ok (.isub, 1) := by decide +kernel
theorem dX2_copyOnto_97 : decode cX2_copyOnto 97 = .ok (.putfield 43, 3) := by decide +kernel
theorem dX2_copyOnto_100 : decode cX2_copyOnto 100 = .ok (.aload_n 0, 1) := by decide +kernel
theorem dX2_copyOnto_101 : decode cX2_copyOnto 101 = .ok (.dup, 1) := by decide +kernel
theorem dX2_copyOnto_102 : decode cX2_copyOnto 102 = .ok (.getfield 52, 3) := by decide +kernel
theorem dX2_copyOnto_105 : decode cX2_copyOnto 105 = .ok (.iconst 1, 1) := by decide +kernel
theorem dX2_copyOnto_106 : decode cX2_copyOnto 106 = .ok (.iadd, 1) := by decide +kernel
theorem dX2_copyOnto_107 : decode cX2_copyOnto 107 = .ok (.putfield 52, 3) := by decide +kernel
theorem dX2_copyOnto_110 : decode cX2_copyOnto 110 = .ok (.iconst 0, 1) := by decide +kernel
theorem dX2_copyOnto_111 : decode cX2_copyOnto 111 = .ok (.ireturn, 1) := by decide +kernel
set_option maxRecDepth 20000 in
theorem ggX2_cut_X3_sharpnessAfter : GoodIn wsX2_cut wsX3_sharpnessAfter := goodIn_r _ [9, 10, 11, 12, 13] (by decide +kernel) (by decide +kernel)
set_option maxRecDepth 20000 in
theorem gX2_cut_X3_sharpnessAfter_n115 : GoodIn wsX2_cut (wsX3_sharpnessAfter) := ggX2_cut_X3_sharpnessAfter
theorem dX2_cut_0 : decode cX2_cut 0 = .ok (.aload_n 0, 1) := by decide +kernel
theorem dX2_cut_1 : decode cX2_cut 1 = .ok (.getfield 9, 3) := by decide +kernel
theorem dX2_cut_4 : decode cX2_cut 4 = .ok (.iload_n 1, 1) := by decide +kernel
theorem dX2_cut_5 : decode cX2_cut 5 = .ok (.iload_n 2, 1) := by decide +kernel
theorem dX2_cut_6 : decode cX2_cut 6 = .ok (.iastore, 1) := by decide +kernel
theorem dX2_cut_7 : decode cX2_cut 7 = .ok (.aload_n 0, 1) := by decide +kernel
theorem dX2_cut_8 : decode cX2_cut 8 = .ok (.getfield 15, 3) := by decide +kernel
theorem dX2_cut_11 : decode cX2_cut 11 = .ok (.iload_n 1, 1) := by decide +kernel
theorem dX2_cut_12 : decode cX2_cut 12 = .ok (.iload_n 3, 1) := by decide +kernel
theorem dX2_cut_13 : decode cX2_cut 13 = .ok (.iastore, 1) := by decide +kernel
theorem dX2_cut_14 : decode cX2_cut 14 = .ok (.aload_n 0, 1) := by decide +kernel
theorem dX2_cut_15 : decode cX2_cut 15 = .ok (.getfield 27, 3) := by decide +kernel
theorem dX2_cut_18 : decode cX2_cut 18 = .ok (.iload_n 1, 1) := by decide +kernel
theorem dX2_cut_19 : decode cX2_cut 19 = .ok (.iload_n 3, 1) := by decide +kernel
theorem dX2_cut_20 : decode cX2_cut 20 = .ok (.iastore, 1) := by decide +kernel
theorem dX2_cut_21 : decode cX2_cut 21 = .ok (.aload_n 0, 1) := by decide +kernel
theorem dX2_cut_22 : decode cX2_cut 22 = .ok (.getfield 18, 3) := by decide +kernel
theorem dX2_cut_25 : decode cX2_cut 25 = .ok (.iload_n 1, 1) := by decide +kernel
theorem dX2_cut_26 : decode cX2_cut 26 = .ok (.iload 4, 2) := by decide +kernel
theorem dX2_cut_28 : decode cX2_cut 28 = .ok (.iastore, 1) := by decide +kernel
theorem dX2_cut_29 : decode cX2_cut 29 = .ok (.aload_n 0, 1) := by decide +kernel
theorem dX2_cut_30 : decode cX2_cut 30 = .ok (.getfield 30, 3) := by decide +kernel
theorem dX2_cut_33 : decode cX2_cut 33 = .ok (.iload_n 1, 1) := by decide +kernel
theorem dX2_cut_34 : decode cX2_cut 34 = .ok (.iconst 0, 1) := by decide +kernel
theorem dX2_cut_35 : decode cX2_cut 35 = .ok (.iastore, 1) := by decide +kernel
theorem dX2_cut_36 : decode cX2_cut 36 = .ok (.aload_n 0, 1) := by decide +kernel
theorem dX2_cut_37 : decode cX2_cut 37 = .ok (.aload_n 0, 1) := by decide +kernel
theorem dX2_cut_38 : decode cX2_cut 38 = .ok (.getfield 39, 3) := by decide +kernel
theorem dX2_cut_41 : decode cX2_cut 41 = .ok (.iload_n 2, 1) := by decide +kernel
theorem dX2_cut_42 : decode cX2_cut 42 = .ok (.invokestatic 115, 3) := by decide +kernel
theorem dX2_cut_45 : decode cX2_cut 45 = .ok (.putfield 39, 3) := by decide +kernel
theorem dX2_cut_48 : decode cX2_cut 48 = .ok (.return_, 1) := by decide +kernel
set_option maxRecDepth 20000 in
theorem ggX2_playTrack_X2_isCut : GoodIn wsX2_playTrack wsX2_isCut := goodIn_r _ [15, 16, 17, 18, 19, 20, 21, 22, 23, 24, 25, 26, 27, 28, 29, 30, 31, 32, 33, 34, 35] (by decide +kernel) (by decide +kernel)
set_option maxRecDepth 20000 in
theorem gX2_playTrack_X2_isCut : GoodIn wsX2_playTrack (wsV RX2 76 RX2 yX2_isCut wsX2_isCut) := goodIn_app (goodIn_of _ (by decide +kernel)) ggX2_playTrack_X2_isCut
theorem dX2_playTrack_0 : decode cX2_playTrack 0 = .ok (.aload_n 0, 1) := by decide +kernel
theorem dX2_playTrack_1 : decode cX2_playTrack 1 = .ok (.iload_n 1, 1) := by decide +kernel
theorem dX2_playTrack_2 : decode cX2_playTrack 2 = .ok (.invokevirtual 76, 3) := by decide +kernel
theorem dX2_playTrack_5 : decode cX2_playTrack 5 = .ok (.ifCond .ne 7, 3) := by decide +kernel
theorem dX2_playTrack_8 : decode cX2_playTrack 8 = .ok (.iconst 1, 1) := by decide +kernel
theorem dX2_playTrack_9 : decode cX2_playTrack 9 = .ok (.goto 16, 3) := by decide +kernel
theorem dX2_playTrack_12 : decode cX2_playTrack 12 = .ok (.aload_n 0, 1) := by decide +kernel
theorem dX2_playTrack_13 : decode cX2_playTrack 13 = .ok (.getfield 43, 3) := by decide +kernel
theorem dX2_playTrack_16 : decode cX2_playTrack 16 = .ok (.iconst 5, 1) := by decide +kernel
theorem dX2_playTrack_17 : decode cX2_playTrack 17 = .ok (.if_icmp .ge 7, 3) := by decide +kernel
theorem dX2_playTrack_20 : decode cX2_playTrack 20 = .ok (.iconst 2, 1) := by decide +kernel
theorem dX2_playTrack_21 : decode cX2_playTrack 21 = .ok (.goto 4, 3) := by decide +kernel
theorem dX2_playTrack_24 : decode cX2_playTrack 24 = .ok (.iconst 0, 1) := by decide +kernel
theorem dX2_playTrack_25 : decode cX2_playTrack 25 = .ok (.istore_n 2, 1) := by decide +kernel
theorem dX2_playTrack_26 : decode cX2_playTrack 26 = .ok (.iload_n 2, 1) := by decide +kernel
theorem dX2_playTrack_27 : decode cX2_playTrack 27 = .ok (.ifCond .eq 15, 3) := by decide +kernel
theorem dX2_playTrack_30 : decode cX2_playTrack 30 = .ok (.aload_n 0, 1) := by decide +kernel
theorem dX2_playTrack_31 : decode cX2_playTrack 31 = .ok (.dup, 1) := by decide +kernel
theorem dX2_playTrack_32 : decode cX2_playTrack 32 = .ok (.getfield 67, 3) := by decide +kernel
theorem dX2_playTrack_35 : decode cX2_playTrack 35 = .ok (.iconst 1, 1) := by decide +kernel
theorem dX2_playTrack_36 : decode cX2_playTrack 36 = .ok (.iadd, 1) := by decide +kernel
theorem dX2_playTrack_37 : decode cX2_playTrack 37 = .ok (.putfield 67, 3) := by decide +kernel
theorem dX2_playTrack_40 : decode cX2_playTrack 40 = .ok (.iload_n 2, 1) := by decide +kernel
theorem dX2_playTrack_41 : decode cX2_playTrack 41 = .ok (.ireturn, 1) := by decide +kernel
theorem dX2_playTrack_42 : decode cX2_playTrack 42 = .ok (.aload_n 0, 1) := by decide +kernel
theorem dX2_playTrack_43 : decode cX2_playTrack 43 = .ok (.getfield 15, 3) := by decide +kernel
theorem dX2_playTrack_46 : decode cX2_playTrack 46 = .ok (.iload_n 1, 1) := by decide +kernel
theorem dX2_playTrack_47 : decode cX2_playTrack 47 = .ok (.iconst 0, 1) := by decide +kernel
theorem dX2_playTrack_48 : decode cX2_playTrack 48 = .ok (.aload_n 0, 1) := by decide +kernel
theorem dX2_playTrack_49 : decode cX2_playTrack 49 = .ok (.getfield 15, 3) := by decide +kernel
theorem dX2_playTrack_52 : decode cX2_playTrack 52 = .ok (.iload_n 1, 1) := by decide +kernel
theorem dX2_playTrack_53 : decode cX2_playTrack 53 = .ok (.iaload, 1) := by decide +kernel
theorem dX2_playTrack_54 : decode cX2_playTrack 54 = .ok (.aload_n 0, 1) := by decide +kernel
theorem dX2_playTrack_55 : decode cX2_playTrack 55 = .ok (.getfield 46, 3) := by decide +kernel
theorem dX2_playTrack_58 : decode cX2_playTrack 58 = .ok (.isub, 1) := by decide +kernel
theorem dX2_playTrack_59 : decode cX2_playTrack 59 = .ok (.invokestatic 118, 3) := by decide +kernel
theorem dX2_playTrack_62 : decode cX2_playTrack 62 = .ok (.iastore, 1) := by decide +kernel
theorem dX2_playTrack_63 : decode cX2_playTrack 63 = .ok (.aload_n 0, 1) := by decide +kernel
theorem dX2_playTrack_64 : decode cX2_playTrack 64 = .ok (.getfield 30, 3) := by decide +kernel
theorem dX2_playTrack_67 : decode cX2_playTrack 67 = .ok (.iload_n 1, 1) := by decide +kernel
theorem dX2_playTrack_68 : decode cX2_playTrack 68 = .ok (.dup2, 1) := by decide +kernel
theorem dX2_playTrack_69 : decode cX2_playTrack 69 = .ok (.iaload, 1) := by decide +kernel
theorem dX2_playTrack_70 : decode cX2_playTrack 70 = .ok (.iconst 1, 1) := by decide +kernel
theorem dX2_playTrack_71 : decode cX2_playTrack 71 = .ok (.iadd, 1) := by decide +kernel
theorem dX2_playTrack_72 : decode cX2_playTrack 72 = .ok (.iastore, 1) := by decide +kernel
theorem dX2_playTrack_73 : decode cX2_playTrack 73 = .ok (.aload_n 0, 1) := by decide +kernel
theorem dX2_playTrack_74 : decode cX2_playTrack 74 = .ok (.dup, 1) := by decide +kernel
theorem dX2_playTrack_75 : decode cX2_playTrack 75 = .ok (.getfield 43, 3) := by decide +kernel
theorem dX2_playTrack_78 : decode cX2_playTrack 78 = .ok (.iconst 5, 1) := by decide +kernel
theorem dX2_playTrack_79 : decode cX2_playTrack 79 = .ok (.isub, 1) := by decide +kernel
theorem dX2_playTrack_80 : decode cX2_playTrack 80 = .ok (.putfield 43, 3) := by decide +kernel
theorem dX2_playTrack_83 : decode cX2_playTrack 83 = .ok (.aload_n 0, 1) := by decide +kernel
theorem dX2_playTrack_84 : decode cX2_playTrack 84 = .ok (.dup, 1) := by decide +kernel
theorem dX2_playTrack_85 : decode cX2_playTrack 85 = .ok (.getfield 55, 3) := by decide +kernel
theorem dX2_playTrack_88 : decode cX2_playTrack 88 = .ok (.iconst 1, 1) := by decide +kernel
theorem dX2_playTrack_89 : decode cX2_playTrack 89 = .ok (.iadd, 1) := by decide +kernel
theorem dX2_playTrack_90 : decode cX2_playTrack 90 = .ok (.putfield 55, 3) := by decide +kernel
theorem dX2_playTrack_93 : decode cX2_playTrack 93 = .ok (.bipush 10, 2) := by decide +kernel
theorem dX2_playTrack_95 : decode cX2_playTrack 95 = .ok (.aload_n 0, 1) := by decide +kernel
theorem dX2_playTrack_96 : decode cX2_playTrack 96 = .ok (.getfield 15, 3) := by decide +kernel
theorem dX2_playTrack_99 : decode cX2_playTrack 99 = .ok (.iload_n 1, 1) := by decide +kernel
theorem dX2_playTrack_100 : decode cX2_playTrack 100 = .ok (.iaload, 1) := by decide +kernel
theorem dX2_playTrack_101 : decode cX2_playTrack 101 = .ok (.iadd, 1) := by decide +kernel
theorem dX2_playTrack_102 : decode cX2_playTrack 102 = .ok (.ireturn, 1) := by decide +kernel
set_option maxRecDepth 20000 in
theorem ggX2_shaveCylinder_X2_greatestDepth : GoodIn wsX2_shaveCylinder wsX2_greatestDepth := goodIn_r _ [9, 10, 11, 12, 13, 14, 20, 21, 22, 23, 24, 25, 26, 27, 28, 29, 30, 31, 32, 33, 34, 35, 36, 37, 38] (by decide +kernel) (by decide +kernel)
set_option maxRecDepth 20000 in
theorem gX2_shaveCylinder_X2_greatestDepth : GoodIn wsX2_shaveCylinder (wsV RX2 121 RX2 yX2_greatestDepth wsX2_greatestDepth) := goodIn_app (goodIn_of _ (by decide +kernel)) ggX2_shaveCylinder_X2_greatestDepth
set_option maxRecDepth 20000 in
theorem ggX2_shaveCylinder_X2_smoothTracks : GoodIn wsX2_shaveCylinder wsX2_smoothTracks := goodIn_r _ [18, 10, 19, 20, 21, 22, 23, 24, 25, 26, 27, 28, 29, 30, 31, 32, 33, 34, 35, 36, 37, 38] (by decide +kernel) (by decide +kernel)
set_option maxRecDepth 20000 in
theorem gX2_shaveCylinder_X2_smoothTracks : GoodIn wsX2_shaveCylinder (wsV RX2 124 RX2 yX2_smoothTracks wsX2_smoothTracks) := goodIn_app (goodIn_of _ (by decide +kernel)) ggX2_shaveCylinder_X2_smoothTracks
theorem dX2_shaveCylinder_0 : decode cX2_shaveCylinder 0 = .ok (.aload_n 0, 1) := by decide +kernel
theorem dX2_shaveCylinder_1 : decode cX2_shaveCylinder 1 = .ok (.iload_n 1, 1) := by decide +kernel
theorem dX2_shaveCylinder_2 : decode cX2_shaveCylinder 2 = .ok (.invokevirtual 121, 3) := by decide +kernel
theorem dX2_shaveCylinder_5 : decode cX2_shaveCylinder 5 = .ok (.istore_n 2, 1) := by decide +kernel
theorem dX2_shaveCylinder_6 : decode cX2_shaveCylinder 6 = .ok (.iload_n 2, 1) := by decide +kernel
theorem dX2_shaveCylinder_7 : decode cX2_shaveCylinder 7 = .ok (.ifCond .ne 15, 3) := by decide +kernel
theorem dX2_shaveCylinder_10 : decode cX2_shaveCylinder 10 = .ok (.aload_n 0, 1) := by decide +kernel
theorem dX2_shaveCylinder_11 : decode cX2_shaveCylinder 11 = .ok (.dup, 1) := by decide +kernel
theorem dX2_shaveCylinder_12 : decode cX2_shaveCylinder 12 = .ok (.getfield 67, 3) := by decide +kernel
theorem dX2_shaveCylinder_15 : decode cX2_shaveCylinder 15 = .ok (.iconst 1, 1) := by decide +kernel
theorem dX2_shaveCylinder_16 : decode cX2_shaveCylinder 16 = .ok (.iadd, 1) := by decide +kernel
theorem dX2_shaveCylinder_17 : decode cX2_shaveCylinder 17 = .ok (.putfield 67, 3) := by decide +kernel
theorem dX2_shaveCylinder_20 : decode cX2_shaveCylinder 20 = .ok (.iconst (-1), 1) := by decide +kernel
theorem dX2_shaveCylinder_21 : decode cX2_shaveCylinder 21 = .ok (.ireturn, 1) := by decide +kernel
theorem dX2_shaveCylinder_22 : decode cX2_shaveCylinder 22 = .ok (.aload_n 0, 1) := by decide +kernel
theorem dX2_shaveCylinder_23 : decode cX2_shaveCylinder 23 = .ok (.getfield 33, 3) := by decide +kernel
theorem dX2_shaveCylinder_26 : decode cX2_shaveCylinder 26 = .ok (.iload_n 1, 1) := by decide +kernel
theorem dX2_shaveCylinder_27 : decode cX2_shaveCylinder 27 = .ok (.dup2, 1) := by decide +kernel
theorem dX2_shaveCylinder_28 : decode cX2_shaveCylinder 28 = .ok (.iaload, 1) := by decide +kernel
theorem dX2_shaveCylinder_29 : decode cX2_shaveCylinder 29 = .ok (.iload_n 2, 1) := by decide +kernel
theorem dX2_shaveCylinder_30 : decode cX2_shaveCylinder 30 = .ok (.isub, 1) := by decide +kernel
theorem dX2_shaveCylinder_31 : decode cX2_shaveCylinder 31 = .ok (.iastore, 1) := by decide +kernel
theorem dX2_shaveCylinder_32 : decode cX2_shaveCylinder 32 = .ok (.aload_n 0, 1) := by decide +kernel
theorem dX2_shaveCylinder_33 : decode cX2_shaveCylinder 33 = .ok (.dup, 1) := by decide +kernel
theorem dX2_shaveCylinder_34 : decode cX2_shaveCylinder 34 = .ok (.getfield 58, 3) := by decide +kernel
theorem dX2_shaveCylinder_37 : decode cX2_shaveCylinder 37 = .ok (.iload_n 2, 1) := by decide +kernel
theorem dX2_shaveCylinder_38 : decode cX2_shaveCylinder 38 = .ok (.iadd, 1) := by decide +kernel
theorem dX2_shaveCylinder_39 : decode cX2_shaveCylinder 39 = .ok (.putfield 58, 3) := by decide +kernel
theorem dX2_shaveCylinder_42 : decode cX2_shaveCylinder 42 = .ok (.aload_n 0, 1) := by decide +kernel
theorem dX2_shaveCylinder_43 : decode cX2_shaveCylinder 43 = .ok (.getfield 36, 3) := by decide +kernel
theorem dX2_shaveCylinder_46 : decode cX2_shaveCylinder 46 = .ok (.iload_n 1, 1) := by decide +kernel
theorem dX2_shaveCylinder_47 : decode cX2_shaveCylinder 47 = .ok (.dup2, 1) := by decide +kernel
theorem dX2_shaveCylinder_48 : decode cX2_shaveCylinder 48 = .ok (.iaload, 1) := by decide +kernel
theorem dX2_shaveCylinder_49 : decode cX2_shaveCylinder 49 = .ok (.iconst 1, 1) := by decide +kernel
theorem dX2_shaveCylinder_50 : decode cX2_shaveCylinder 50 = .ok (.iadd, 1) := by decide +kernel
theorem dX2_shaveCylinder_51 : decode cX2_shaveCylinder 51 = .ok (.iastore, 1) := by decide +kernel
theorem dX2_shaveCylinder_52 : decode cX2_shaveCylinder 52 = .ok (.aload_n 0, 1) := by decide +kernel
theorem dX2_shaveCylinder_53 : decode cX2_shaveCylinder 53 = .ok (.iload_n 1, 1) := by decide +kernel
theorem dX2_shaveCylinder_54 : decode cX2_shaveCylinder 54 = .ok (.invokevirtual 124, 3) := by decide +kernel
theorem dX2_shaveCylinder_57 : decode cX2_shaveCylinder 57 = .ok (.iload_n 2, 1) := by decide +kernel
theorem dX2_shaveCylinder_58 : decode cX2_shaveCylinder 58 = .ok (.ireturn, 1) := by decide +kernel
set_option maxRecDepth 20000 in
theorem ggX2_renewCylinder_X2_smoothTracks : GoodIn wsX2_renewCylinder wsX2_smoothTracks := goodIn_r _ [9, 10, 11, 12, 13, 14, 15, 16, 17, 18, 19, 20, 21, 22, 23, 24, 25, 26, 27, 28, 29, 30] (by decide +kernel) (by decide +kernel)
set_option maxRecDepth 20000 in
theorem gX2_renewCylinder_X2_smoothTracks : GoodIn wsX2_renewCylinder (wsV RX2 124 RX2 yX2_smoothTracks wsX2_smoothTracks) := goodIn_app (goodIn_of _ (by decide +kernel)) ggX2_renewCylinder_X2_smoothTracks
theorem dX2_renewCylinder_0 : decode cX2_renewCylinder 0 = .ok (.aload_n 0, 1) := by decide +kernel
theorem dX2_renewCylinder_1 : decode cX2_renewCylinder 1 = .ok (.getfield 33, 3) := by decide +kernel
theorem dX2_renewCylinder_4 : decode cX2_renewCylinder 4 = .ok (.iload_n 1, 1) := by decide +kernel
theorem dX2_renewCylinder_5 : decode cX2_renewCylinder 5 = .ok (.iaload, 1) := by decide +kernel
theorem dX2_renewCylinder_6 : decode cX2_renewCylinder 6 = .ok (.istore_n 3, 1) := by decide +kernel
theorem dX2_renewCylinder_7 : decode cX2_renewCylinder 7 = .ok (.aload_n 0, 1) := by decide +kernel
theorem dX2_renewCylinder_8 : decode cX2_renewCylinder 8 = .ok (.getfield 33, 3) := by decide +kernel
theorem dX2_renewCylinder_11 : decode cX2_renewCylinder 11 = .ok (.iload_n 1, 1) := by decide +kernel
theorem dX2_renewCylinder_12 : decode cX2_renewCylinder 12 = .ok (.iload_n 2, 1) := by decide +kernel
theorem dX2_renewCylinder_13 : decode cX2_renewCylinder 13 = .ok (.iastore, 1) := by decide +kernel
theorem dX2_renewCylinder_14 : decode cX2_renewCylinder 14 = .ok (.aload_n 0, 1) := by decide +kernel
theorem dX2_renewCylinder_15 : decode cX2_renewCylinder 15 = .ok (.dup, 1) := by decide +kernel
theorem dX2_renewCylinder_16 : decode cX2_renewCylinder 16 = .ok (.getfield 64, 3) := by decide +kernel
theorem dX2_renewCylinder_19 : decode cX2_renewCylinder 19 = .ok (.iload_n 3, 1) := by decide +kernel
theorem dX2_renewCylinder_20 : decode cX2_renewCylinder 20 = .ok (.iadd, 1) := by decide +kernel
theorem dX2_renewCylinder_21 : decode cX2_renewCylinder 21 = .ok (.putfield 64, 3) := by decide +kernel
theorem dX2_renewCylinder_24 : decode cX2_renewCylinder 24 = .ok (.aload_n 0, 1) := by decide +kernel
theorem dX2_renewCylinder_25 : decode cX2_renewCylinder 25 = .ok (.dup, 1) := by decide +kernel
theorem dX2_renewCylinder_26 : decode cX2_renewCylinder 26 = .ok (.getfield 61, 3) := by decide +kernel
theorem dX2_renewCylinder_29 : decode cX2_renewCylinder 29 = .ok (.iload_n 2, 1) := by decide +kernel
theorem dX2_renewCylinder_30 : decode cX2_renewCylinder 30 = .ok (.iadd, 1) := by decide +kernel
theorem dX2_renewCylinder_31 : decode cX2_renewCylinder 31 = .ok (.putfield 61, 3) := by decide +kernel
theorem dX2_renewCylinder_34 : decode cX2_renewCylinder 34 = .ok (.aload_n 0, 1) := by decide +kernel
theorem dX2_renewCylinder_35 : decode cX2_renewCylinder 35 = .ok (.getfield 36, 3) := by decide +kernel
theorem dX2_renewCylinder_38 : decode cX2_renewCylinder 38 = .ok (.iload_n 1, 1) := by decide +kernel
theorem dX2_renewCylinder_39 : decode cX2_renewCylinder 39 = .ok (.iconst 0, 1) := by decide +kernel
theorem dX2_renewCylinder_40 : decode cX2_renewCylinder 40 = .ok (.iastore, 1) := by decide +kernel
theorem dX2_renewCylinder_41 : decode cX2_renewCylinder 41 = .ok (.aload_n 0, 1) := by decide +kernel
theorem dX2_renewCylinder_42 : decode cX2_renewCylinder 42 = .ok (.iload_n 1, 1) := by decide +kernel
theorem dX2_renewCylinder_43 : decode cX2_renewCylinder 43 = .ok (.invokevirtual 124, 3) := by decide +kernel
theorem dX2_renewCylinder_46 : decode cX2_renewCylinder 46 = .ok (.iload_n 3, 1) := by decide +kernel
theorem dX2_renewCylinder_47 : decode cX2_renewCylinder 47 = .ok (.ireturn, 1) := by decide +kernel
theorem dX2_smoothTracks_0 : decode cX2_smoothTracks 0 = .ok (.iload_n 1, 1) := by decide +kernel
theorem dX2_smoothTracks_1 : decode cX2_smoothTracks 1 = .ok (.iconst 4, 1) := by decide +kernel
theorem dX2_smoothTracks_2 : decode cX2_smoothTracks 2 = .ok (.imul, 1) := by decide +kernel
theorem dX2_smoothTracks_3 : decode cX2_smoothTracks 3 = .ok (.istore_n 2, 1) := by decide +kernel
theorem dX2_smoothTracks_4 : decode cX2_smoothTracks 4 = .ok (.iload_n 2, 1) := by decide +kernel
theorem dX2_smoothTracks_5 : decode cX2_smoothTracks 5 = .ok (.istore_n 3, 1) := by decide +kernel
theorem dX2_smoothTracks_6 : decode cX2_smoothTracks 6 = .ok (.iload_n 3, 1) := by decide +kernel
theorem dX2_smoothTracks_7 : decode cX2_smoothTracks 7 = .ok (.iload_n 2, 1) := by decide +kernel
theorem dX2_smoothTracks_8 : decode cX2_smoothTracks 8 = .ok (.iconst 4, 1) := by decide +kernel
theorem dX2_smoothTracks_9 : decode cX2_smoothTracks 9 = .ok (.iadd, 1) := by decide +kernel
theorem dX2_smoothTracks_10 : decode cX2_smoothTracks 10 = .ok (.if_icmp .ge 23, 3) := by decide +kernel
theorem dX2_smoothTracks_13 : decode cX2_smoothTracks 13 = .ok (.aload_n 0, 1) := by decide +kernel
theorem dX2_smoothTracks_14 : decode cX2_smoothTracks 14 = .ok (.getfield 9, 3) := by decide +kernel
theorem dX2_smoothTracks_17 : decode cX2_smoothTracks 17 = .ok (.iload_n 3, 1) := by decide +kernel
theorem dX2_smoothTracks_18 : decode cX2_smoothTracks 18 = .ok (.iconst 0, 1) := by decide +kernel
theorem dX2_smoothTracks_19 : decode cX2_smoothTracks 19 = .ok (.iastore, 1) := by decide +kernel
theorem dX2_smoothTracks_20 : decode cX2_smoothTracks 20 = .ok (.aload_n 0, 1) := by decide +kernel
theorem dX2_smoothTracks_21 : decode cX2_smoothTracks 21 = .ok (.getfield 24, 3) := by decide +kernel
theorem dX2_smoothTracks_24 : decode cX2_smoothTracks 24 = .ok (.iload_n 3, 1) := by decide +kernel
theorem dX2_smoothTracks_25 : decode cX2_smoothTracks 25 = .ok (.iconst (-1), 1) := by decide +kernel
theorem dX2_smoothTracks_26 : decode cX2_smoothTracks 26 = .ok (.iastore, 1) := by decide +kernel
theorem dX2_smoothTracks_27 : decode cX2_smoothTracks 27 = .ok (.iinc 3 1, 3) := by decide +kernel
theorem dX2_smoothTracks_30 : decode cX2_smoothTracks 30 = .ok (.goto (-24), 3) := by decide +kernel
theorem dX2_smoothTracks_33 : decode cX2_smoothTracks 33 = .ok (.return_, 1) := by decide +kernel
theorem dX2_windUp_0 : decode cX2_windUp 0 = .ok (.bipush 100, 2) := by decide +kernel
theorem dX2_windUp_2 : decode cX2_windUp 2 = .ok (.aload_n 0, 1) := by decide +kernel
theorem dX2_windUp_3 : decode cX2_windUp 3 = .ok (.getfield 43, 3) := by decide +kernel
theorem dX2_windUp_6 : decode cX2_windUp 6 = .ok (.isub, 1) := by decide +kernel
theorem dX2_windUp_7 : decode cX2_windUp 7 = .ok (.istore_n 1, 1) := by decide +kernel
theorem dX2_windUp_8 : decode cX2_windUp 8 = .ok (.aload_n 0, 1) := by decide +kernel
theorem dX2_windUp_9 : decode cX2_windUp 9 = .ok (.bipush 100, 2) := by decide +kernel
theorem dX2_windUp_11 : decode cX2_windUp 11 = .ok (.putfield 43, 3) := by decide +kernel
theorem dX2_windUp_14 : decode cX2_windUp 14 = .ok (.iload_n 1, 1) := by decide +kernel
theorem dX2_windUp_15 : decode cX2_windUp 15 = .ok (.ireturn, 1) := by decide +kernel
theorem dX2_sharpenPoint_0 : decode cX2_sharpenPoint 0 = .ok (.bipush 100, 2) := by decide +kernel
theorem dX2_sharpenPoint_2 : decode cX2_sharpenPoint 2 = .ok (.aload_n 0, 1) := by decide +kernel
theorem dX2_sharpenPoint_3 : decode cX2_sharpenPoint 3 = .ok (.getfield 39, 3) := by decide +kernel
theorem dX2_sharpenPoint_6 : decode cX2_sharpenPoint 6 = .ok (.isub, 1) := by decide +kernel
theorem dX2_sharpenPoint_7 : decode cX2_sharpenPoint 7 = .ok (.istore_n 1, 1) := by decide +kernel
theorem dX2_sharpenPoint_8 : decode cX2_sharpenPoint 8 = .ok (.aload_n 0, 1) := by decide +kernel
theorem dX2_sharpenPoint_9 : decode cX2_sharpenPoint 9 = .ok (.bipush 100, 2) := by decide +kernel
theorem dX2_sharpenPoint_11 : decode cX2_sharpenPoint 11 = .ok (.putfield 39, 3) := by decide +kernel
theorem dX2_sharpenPoint_14 : decode cX2_sharpenPoint 14 = .ok (.iload_n 1, 1) := by decide +kernel
theorem dX2_sharpenPoint_15 : decode cX2_sharpenPoint 15 = .ok (.ireturn, 1) := by decide +kernel
set_option maxRecDepth 20000 in
theorem ggX2_trackProperty_X2_isCut : GoodIn wsX2_trackProperty wsX2_isCut := goodIn_r _ [12, 1, 13, 14, 15, 16, 17, 18, 19, 20, 21, 22, 23, 24, 25, 26, 27, 28, 29, 30, 31] (by decide +kernel) (by decide +kernel)
set_option maxRecDepth 20000 in
theorem gX2_trackProperty_X2_isCut : GoodIn wsX2_trackProperty (wsV RX2 76 RX2 yX2_isCut wsX2_isCut) := goodIn_app (goodIn_of _ (by decide +kernel)) ggX2_trackProperty_X2_isCut
theorem dX2_trackProperty_0 : decode cX2_trackProperty 0 = .ok (.iload_n 2, 1) := by decide +kernel
theorem dX2_trackProperty_1 : decode cX2_trackProperty 1 = .ok (.ifCond .ne 10, 3) := by decide +kernel
theorem dX2_trackProperty_4 : decode cX2_trackProperty 4 = .ok (.aload_n 0, 1) := by decide +kernel
theorem dX2_trackProperty_5 : decode cX2_trackProperty 5 = .ok (.getfield 9, 3) := by decide +kernel
theorem dX2_trackProperty_8 : decode cX2_trackProperty 8 = .ok (.iload_n 1, 1) := by decide +kernel
theorem dX2_trackProperty_9 : decode cX2_trackProperty 9 = .ok (.iaload, 1) := by decide +kernel
theorem dX2_trackProperty_10 : decode cX2_trackProperty 10 = .ok (.ireturn, 1) := by decide +kernel
theorem dX2_trackProperty_11 : decode cX2_trackProperty 11 = .ok (.aload_n 0, 1) := by decide +kernel
theorem dX2_trackProperty_12 : decode cX2_trackProperty 12 = .ok (.iload_n 1, 1) := by decide +kernel
theorem dX2_trackProperty_13 : decode cX2_trackProperty 13 = .ok (.invokevirtual 76, 3) := by decide +kernel
theorem dX2_trackProperty_16 : decode cX2_trackProperty 16 = .ok (.ifCond .ne 5, 3) := by decide +kernel
theorem dX2_trackProperty_19 : decode cX2_trackProperty 19 = .ok (.iconst (-1), 1) := by decide +kernel
theorem dX2_trackProperty_20 : decode cX2_trackProperty 20 = .ok (.ireturn, 1) := by decide +kernel
theorem dX2_trackProperty_21 : decode cX2_trackProperty 21 = .ok (.iload_n 2, 1) := by decide +kernel
theorem dX2_trackProperty_22 : decode cX2_trackProperty 22 = .ok (.tableswitch 69 1 5 #[34, 41, 48, 55, 62], 34) := by decide +kernel
theorem dX2_trackProperty_56 : decode cX2_trackProperty 56 = .ok (.aload_n 0, 1) := by decide +kernel
theorem dX2_trackProperty_57 : decode cX2_trackProperty 57 = .ok (.getfield 15, 3) := by decide +kernel
theorem dX2_trackProperty_60 : decode cX2_trackProperty 60 = .ok (.iload_n 1, 1) := by decide +kernel
theorem dX2_trackProperty_61 : decode cX2_trackProperty 61 = .ok (.iaload, 1) := by decide +kernel
theorem dX2_trackProperty_62 : decode cX2_trackProperty 62 = .ok (.ireturn, 1) := by decide +kernel
theorem dX2_trackProperty_63 : decode cX2_trackProperty 63 = .ok (.aload_n 0, 1) := by decide +kernel
theorem dX2_trackProperty_64 : decode cX2_trackProperty 64 = .ok (.getfield 18, 3) := by decide +kernel
theorem dX2_trackProperty_67 : decode cX2_trackProperty 67 = .ok (.iload_n 1, 1) := by decide +kernel
theorem dX2_trackProperty_68 : decode cX2_trackProperty 68 = .ok (.iaload, 1) := by decide +kernel
theorem dX2_trackProperty_69 : decode cX2_trackProperty 69 = .ok (.ireturn, 1) := by decide +kernel
theorem dX2_trackProperty_70 : decode cX2_trackProperty 70 = .ok (.aload_n 0, 1) := by decide +kernel
theorem dX2_trackProperty_71 : decode cX2_trackProperty 71 = .ok (.getfield 21, 3) := by decide +kernel
theorem dX2_trackProperty_74 : decode cX2_trackProperty 74 = .ok (.iload_n 1, 1) := by decide +kernel
theorem dX2_trackProperty_75 : decode cX2_trackProperty 75 = .ok (.iaload, 1) := by decide +kernel
theorem dX2_trackProperty_76 : decode cX2_trackProperty 76 = .ok (.ireturn, 1) := by decide +kernel
theorem dX2_trackProperty_77 : decode cX2_trackProperty 77 = .ok (.aload_n 0, 1) := by decide +kernel
theorem dX2_trackProperty_78 : decode cX2_trackProperty 78 = .ok (.getfield 24, 3) := by decide +kernel
theorem dX2_trackProperty_81 : decode cX2_trackProperty 81 = .ok (.iload_n 1, 1) := by decide +kernel
theorem dX2_trackProperty_82 : decode cX2_trackProperty 82 = .ok (.iaload, 1) := by decide +kernel
theorem dX2_trackProperty_83 : decode cX2_trackProperty 83 = .ok (.ireturn, 1) := by decide +kernel
theorem dX2_trackProperty_84 : decode cX2_trackProperty 84 = .ok (.aload_n 0, 1) := by decide +kernel
theorem dX2_trackProperty_85 : decode cX2_trackProperty 85 = .ok (.getfield 27, 3) := by decide +kernel
theorem dX2_trackProperty_88 : decode cX2_trackProperty 88 = .ok (.iload_n 1, 1) := by decide +kernel
theorem dX2_trackProperty_89 : decode cX2_trackProperty 89 = .ok (.iaload, 1) := by decide +kernel
theorem dX2_trackProperty_90 : decode cX2_trackProperty 90 = .ok (.ireturn, 1) := by decide +kernel
theorem dX2_trackProperty_91 : decode cX2_trackProperty 91 = .ok (.aload_n 0, 1) := by decide +kernel
theorem dX2_trackProperty_92 : decode cX2_trackProperty 92 = .ok (.getfield 30, 3) := by decide +kernel
theorem dX2_trackProperty_95 : decode cX2_trackProperty 95 = .ok (.iload_n 1, 1) := by decide +kernel
theorem dX2_trackProperty_96 : decode cX2_trackProperty 96 = .ok (.iaload, 1) := by decide +kernel
theorem dX2_trackProperty_97 : decode cX2_trackProperty 97 = .ok (.ireturn, 1) := by decide +kernel
set_option maxRecDepth 20000 in
theorem ggX2_cylinderProperty_X2_cutTracksOn : GoodIn wsX2_cylinderProperty wsX2_cutTracksOn := goodIn_r _ [7, 8, 9, 10, 6, 11, 12, 26, 27, 28, 29, 30, 31, 32, 33, 34, 35, 36, 37, 38, 39, 40, 41, 42, 43, 44] (by decide +kernel) (by decide +kernel)
set_option maxRecDepth 20000 in
theorem gX2_cylinderProperty_X2_cutTracksOn : GoodIn wsX2_cylinderProperty (wsV RX2 128 RX2 yX2_cutTracksOn wsX2_cutTracksOn) := goodIn_app (goodIn_of _ (by decide +kernel)) ggX2_cylinderProperty_X2_cutTracksOn
set_option maxRecDepth 20000 in
theorem ggX2_cylinderProperty_X2_greatestDepth : GoodIn wsX2_cylinderProperty wsX2_greatestDepth := goodIn_r _ [16, 12, 17, 18, 19, 20, 26, 27, 28, 29, 30, 31, 32, 33, 34, 35, 36, 37, 38, 39, 40, 41, 42, 43, 44] (by decide +kernel) (by decide +kernel)
set_option maxRecDepth 20000 in
theorem gX2_cylinderProperty_X2_greatestDepth : GoodIn wsX2_cylinderProperty (wsV RX2 121 RX2 yX2_greatestDepth wsX2_greatestDepth) := goodIn_app (goodIn_of _ (by decide +kernel)) ggX2_cylinderProperty_X2_greatestDepth
set_option maxRecDepth 20000 in
theorem ggX2_cylinderProperty_X2_clearestTrackOn : GoodIn wsX2_cylinderProperty wsX2_clearestTrackOn := goodIn_r _ [24, 25, 8, 9, 10, 6, 11, 12, 26, 27, 28, 29, 30, 31, 32, 33, 34, 35, 36, 37, 38, 39, 40, 41, 42, 43, 44] (by decide +kernel) (by decide +kernel)
set_option maxRecDepth 20000 in
theorem gX2_cylinderProperty_X2_clearestTrackOn : GoodIn wsX2_cylinderProperty (wsV RX2 131 RX2 yX2_clearestTrackOn wsX2_clearestTrackOn) := goodIn_app (goodIn_of _ (by decide +kernel)) ggX2_cylinderProperty_X2_clearestTrackOn
theorem dX2_cylinderProperty_0 : decode cX2_cylinderProperty 0 = .ok (.iload_n 2, 1) := by decide +kernel
theorem dX2_cylinderProperty_1 : decode cX2_cylinderProperty 1 = .ok (.tableswitch 56 0 3 #[31, 38, 44, 50], 31) := by decide +kernel
theorem dX2_cylinderProperty_32 : decode cX2_cylinderProperty 32 = .ok (.aload_n 0, 1) := by decide +kernel
theorem dX2_cylinderProperty_33 : decode cX2_cylinderProperty 33 = .ok (.getfield 33, 3) := by decide +kernel
theorem dX2_cylinderProperty_36 : decode cX2_cylinderProperty 36 = .ok (.iload_n 1, 1) := by decide +kernel
theorem dX2_cylinderProperty_37 : decode cX2_cylinderProperty 37 = .ok (.iaload, 1) := by decide +kernel
theorem dX2_cylinderProperty_38 : decode cX2_cylinderProperty 38 = .ok (.ireturn, 1) := by decide +kernel
theorem dX2_cylinderProperty_39 : decode cX2_cylinderProperty 39 = .ok (.aload_n 0, 1) := by decide +kernel
theorem dX2_cylinderProperty_40 : decode cX2_cylinderProperty 40 = .ok (.iload_n 1, 1) := by decide +kernel
theorem dX2_cylinderProperty_41 : decode cX2_cylinderProperty 41 = .ok (.invokevirtual 128, 3) := by decide +kernel
theorem dX2_cylinderProperty_44 : decode cX2_cylinderProperty 44 = .ok (.ireturn, 1) := by decide +kernel
theorem dX2_cylinderProperty_45 : decode cX2_cylinderProperty 45 = .ok (.aload_n 0, 1) := by decide +kernel
theorem dX2_cylinderProperty_46 : decode cX2_cylinderProperty 46 = .ok (.iload_n 1, 1) := by decide +kernel
theorem dX2_cylinderProperty_47 : decode cX2_cylinderProperty 47 = .ok (.invokevirtual 121, 3) := by decide +kernel
theorem dX2_cylinderProperty_50 : decode cX2_cylinderProperty 50 = .ok (.ireturn, 1) := by decide +kernel
theorem dX2_cylinderProperty_51 : decode cX2_cylinderProperty 51 = .ok (.aload_n 0, 1) := by decide +kernel
theorem dX2_cylinderProperty_52 : decode cX2_cylinderProperty 52 = .ok (.iload_n 1, 1) := by decide +kernel
theorem dX2_cylinderProperty_53 : decode cX2_cylinderProperty 53 = .ok (.invokevirtual 131, 3) := by decide +kernel
theorem dX2_cylinderProperty_56 : decode cX2_cylinderProperty 56 = .ok (.ireturn, 1) := by decide +kernel
theorem dX2_cylinderProperty_57 : decode cX2_cylinderProperty 57 = .ok (.aload_n 0, 1) := by decide +kernel
theorem dX2_cylinderProperty_58 : decode cX2_cylinderProperty 58 = .ok (.getfield 36, 3) := by decide +kernel
theorem dX2_cylinderProperty_61 : decode cX2_cylinderProperty 61 = .ok (.iload_n 1, 1) := by decide +kernel
theorem dX2_cylinderProperty_62 : decode cX2_cylinderProperty 62 = .ok (.iaload, 1) := by decide +kernel
theorem dX2_cylinderProperty_63 : decode cX2_cylinderProperty 63 = .ok (.ireturn, 1) := by decide +kernel
set_option maxRecDepth 20000 in
theorem ggX2_number_X2_machineFlutter : GoodIn wsX2_number wsX2_machineFlutter := goodIn_r _ [14, 2, 33, 34, 35, 36, 37, 38, 39, 40, 41, 42, 43, 44, 45, 46, 47, 48, 49, 50, 51] (by decide +kernel) (by decide +kernel)
set_option maxRecDepth 20000 in
theorem gX2_number_X2_machineFlutter : GoodIn wsX2_number (wsV RX2 88 RX2 yX2_machineFlutter wsX2_machineFlutter) := goodIn_app (goodIn_of _ (by decide +kernel)) ggX2_number_X2_machineFlutter
set_option maxRecDepth 20000 in
theorem ggX2_number_X2_cutTracks : GoodIn wsX2_number wsX2_cutTracks := goodIn_r _ [18, 19, 20, 21, 13, 22, 23, 24, 25, 26, 27, 33, 34, 35, 36, 37, 38, 39, 40, 41, 42, 43, 44, 45, 46, 47, 48, 49, 50, 51] (by decide +kernel) (by decide +kernel)
set_option maxRecDepth 20000 in
theorem gX2_number_X2_cutTracks : GoodIn wsX2_number (wsV RX2 134 RX2 yX2_cutTracks wsX2_cutTracks) := goodIn_app (goodIn_of _ (by decide +kernel)) ggX2_number_X2_cutTracks
set_option maxRecDepth 20000 in
theorem ggX2_number_X2_layersTogether : GoodIn wsX2_number wsX2_layersTogether := goodIn_r _ [31, 32, 33, 34, 35, 36, 37, 38, 39, 40, 41, 42, 43, 44, 45, 46, 47, 48, 49, 50, 51] (by decide +kernel) (by decide +kernel)
set_option maxRecDepth 20000 in
theorem gX2_number_X2_layersTogether : GoodIn wsX2_number (wsV RX2 137 RX2 yX2_layersTogether wsX2_layersTogether) := goodIn_app (goodIn_of _ (by decide +kernel)) ggX2_number_X2_layersTogether
theorem dX2_number_0 : decode cX2_number 0 = .ok (.iload_n 1, 1) := by decide +kernel
theorem dX2_number_1 : decode cX2_number 1 = .ok (.tableswitch 114 0 10 #[59, 64, 69, 74, 79, 84, 89, 94, 99, 104, 109], 59) := by decide +kernel
theorem dX2_number_60 : decode cX2_number 60 = .ok (.aload_n 0, 1) := by decide +kernel
theorem dX2_number_61 : decode cX2_number 61 = .ok (.getfield 39, 3) := by decide +kernel
theorem dX2_number_64 : decode cX2_number 64 = .ok (.ireturn, 1) := by decide +kernel
theorem dX2_number_65 : decode cX2_number 65 = .ok (.aload_n 0, 1) := by decide +kernel
theorem dX2_number_66 : decode cX2_number 66 = .ok (.getfield 43, 3) := by decide +kernel
theorem dX2_number_69 : decode cX2_number 69 = .ok (.ireturn, 1) := by decide +kernel
theorem dX2_number_70 : decode cX2_number 70 = .ok (.aload_n 0, 1) := by decide +kernel
theorem dX2_number_71 : decode cX2_number 71 = .ok (.invokevirtual 88, 3) := by decide +kernel
theorem dX2_number_74 : decode cX2_number 74 = .ok (.ireturn, 1) := by decide +kernel
theorem dX2_number_75 : decode cX2_number 75 = .ok (.aload_n 0, 1) := by decide +kernel
theorem dX2_number_76 : decode cX2_number 76 = .ok (.invokevirtual 134, 3) := by decide +kernel
theorem dX2_number_79 : decode cX2_number 79 = .ok (.ireturn, 1) := by decide +kernel
theorem dX2_number_80 : decode cX2_number 80 = .ok (.aload_n 0, 1) := by decide +kernel
theorem dX2_number_81 : decode cX2_number 81 = .ok (.getfield 49, 3) := by decide +kernel
theorem dX2_number_84 : decode cX2_number 84 = .ok (.ireturn, 1) := by decide +kernel
theorem dX2_number_85 : decode cX2_number 85 = .ok (.aload_n 0, 1) := by decide +kernel
theorem dX2_number_86 : decode cX2_number 86 = .ok (.getfield 52, 3) := by decide +kernel
theorem dX2_number_89 : decode cX2_number 89 = .ok (.ireturn, 1) := by decide +kernel
theorem dX2_number_90 : decode cX2_number 90 = .ok (.aload_n 0, 1) := by decide +kernel
theorem dX2_number_91 : decode cX2_number 91 = .ok (.getfield 55, 3) := by decide +kernel
theorem dX2_number_94 : decode cX2_number 94 = .ok (.ireturn, 1) := by decide +kernel
theorem dX2_number_95 : decode cX2_number 95 = .ok (.aload_n 0, 1) := by decide +kernel
theorem dX2_number_96 : decode cX2_number 96 = .ok (.invokevirtual 137, 3) := by decide +kernel
theorem dX2_number_99 : decode cX2_number 99 = .ok (.ireturn, 1) := by decide +kernel
theorem dX2_number_100 : decode cX2_number 100 = .ok (.aload_n 0, 1) := by decide +kernel
theorem dX2_number_101 : decode cX2_number 101 = .ok (.getfield 58, 3) := by decide +kernel
theorem dX2_number_104 : decode cX2_number 104 = .ok (.ireturn, 1) := by decide +kernel
theorem dX2_number_105 : decode cX2_number 105 = .ok (.aload_n 0, 1) := by decide +kernel
theorem dX2_number_106 : decode cX2_number 106 = .ok (.getfield 61, 3) := by decide +kernel
theorem dX2_number_109 : decode cX2_number 109 = .ok (.ireturn, 1) := by decide +kernel
theorem dX2_number_110 : decode cX2_number 110 = .ok (.aload_n 0, 1) := by decide +kernel
theorem dX2_number_111 : decode cX2_number 111 = .ok (.getfield 64, 3) := by decide +kernel
theorem dX2_number_114 : decode cX2_number 114 = .ok (.ireturn, 1) := by decide +kernel
theorem dX2_number_115 : decode cX2_number 115 = .ok (.aload_n 0, 1) := by decide +kernel
theorem dX2_number_116 : decode cX2_number 116 = .ok (.getfield 67, 3) := by decide +kernel
theorem dX2_number_119 : decode cX2_number 119 = .ok (.ireturn, 1) := by decide +kernel
set_option maxRecDepth 20000 in
theorem ggX2_cutTracksOn_X2_isCut : GoodIn wsX2_cutTracksOn wsX2_isCut := goodIn_r _ [5, 6, 7, 8, 9, 10, 11, 12, 13, 14, 15, 16, 17, 18, 19, 20, 21, 22, 23, 24, 25] (by decide +kernel) (by decide +kernel)
set_option maxRecDepth 20000 in
theorem gX2_cutTracksOn_X2_isCut : GoodIn wsX2_cutTracksOn (wsV RX2 76 RX2 yX2_isCut wsX2_isCut) := goodIn_app (goodIn_of _ (by decide +kernel)) ggX2_cutTracksOn_X2_isCut
theorem dX2_cutTracksOn_0 : decode cX2_cutTracksOn 0 = .ok (.iconst 0, 1) := by decide +kernel
theorem dX2_cutTracksOn_1 : decode cX2_cutTracksOn 1 = .ok (.istore_n 2, 1) := by decide +kernel
theorem dX2_cutTracksOn_2 : decode cX2_cutTracksOn 2 = .ok (.iload_n 1, 1) := by decide +kernel
theorem dX2_cutTracksOn_3 : decode cX2_cutTracksOn 3 = .ok (.iconst 4, 1) := by decide +kernel
theorem dX2_cutTracksOn_4 : decode cX2_cutTracksOn 4 = .ok (.imul, 1) := by decide +kernel
theorem dX2_cutTracksOn_5 : decode cX2_cutTracksOn 5 = .ok (.istore_n 3, 1) := by decide +kernel
theorem dX2_cutTracksOn_6 : decode cX2_cutTracksOn 6 = .ok (.iload_n 3, 1) := by decide +kernel
theorem dX2_cutTracksOn_7 : decode cX2_cutTracksOn 7 = .ok (.istore 4, 2) := by decide +kernel
theorem dX2_cutTracksOn_9 : decode cX2_cutTracksOn 9 = .ok (.iload 4, 2) := by decide +kernel
theorem dX2_cutTracksOn_11 : decode cX2_cutTracksOn 11 = .ok (.iload_n 3, 1) := by decide +kernel
theorem dX2_cutTracksOn_12 : decode cX2_cutTracksOn 12 = .ok (.iconst 4, 1) := by decide +kernel
theorem dX2_cutTracksOn_13 : decode cX2_cutTracksOn 13 = .ok (.iadd, 1) := by decide +kernel
theorem dX2_cutTracksOn_14 : decode cX2_cutTracksOn 14 = .ok (.if_icmp .ge 26, 3) := by decide +kernel
theorem dX2_cutTracksOn_17 : decode cX2_cutTracksOn 17 = .ok (.iload_n 2, 1) := by decide +kernel
theorem dX2_cutTracksOn_18 : decode cX2_cutTracksOn 18 = .ok (.aload_n 0, 1) := by decide +kernel
theorem dX2_cutTracksOn_19 : decode cX2_cutTracksOn 19 = .ok (.iload 4, 2) := by decide +kernel
theorem dX2_cutTracksOn_21 : decode cX2_cutTracksOn 21 = .ok (.invokevirtual 76, 3) := by decide +kernel
theorem dX2_cutTracksOn_24 : decode cX2_cutTracksOn 24 = .ok (.ifCond .eq 7, 3) := by decide +kernel
theorem dX2_cutTracksOn_27 : decode cX2_cutTracksOn 27 = .ok (.iconst 1, 1) := by decide +kernel
theorem dX2_cutTracksOn_28 : decode cX2_cutTracksOn 28 = .ok (.goto 4, 3) := by decide +kernel
theorem dX2_cutTracksOn_31 : decode cX2_cutTracksOn 31 = .ok (.iconst 0, 1) := by decide +kernel
theorem dX2_cutTracksOn_32 : decode cX2_cutTracksOn 32 = .ok (.iadd, 1) := by decide +kernel
theorem dX2_cutTracksOn_33 : decode cX2_cutTracksOn 33 = .ok (.istore_n 2, 1) := by decide +kernel
theorem dX2_cutTracksOn_34 : decode cX2_cutTracksOn 34 = .ok (.iinc 4 1, 3) := by decide +kernel
theorem dX2_cutTracksOn_37 : decode cX2_cutTracksOn 37 = .ok (.goto (-28), 3) := by decide +kernel
theorem dX2_cutTracksOn_40 : decode cX2_cutTracksOn 40 = .ok (.iload_n 2, 1) := by decide +kernel
theorem dX2_cutTracksOn_41 : decode cX2_cutTracksOn 41 = .ok (.ireturn, 1) := by decide +kernel
set_option maxRecDepth 20000 in
theorem ggX2_cutTracks_X2_cutTracksOn : GoodIn wsX2_cutTracks wsX2_cutTracksOn := goodIn_r _ [5, 6, 7, 8, 4, 9, 10, 11, 12, 13, 14, 15, 16, 17, 18, 19, 20, 21, 22, 23, 24, 25, 26, 27, 28, 29] (by decide +kernel) (by decide +kernel)
set_option maxRecDepth 20000 in
theorem gX2_cutTracks_X2_cutTracksOn : GoodIn wsX2_cutTracks (wsV RX2 128 RX2 yX2_cutTracksOn wsX2_cutTracksOn) := goodIn_app (goodIn_of _ (by decide +kernel)) ggX2_cutTracks_X2_cutTracksOn
theorem dX2_cutTracks_0 : decode cX2_cutTracks 0 = .ok (.iconst 0, 1) := by decide +kernel
theorem dX2_cutTracks_1 : decode cX2_cutTracks 1 = .ok (.istore_n 1, 1) := by decide +kernel
theorem dX2_cutTracks_2 : decode cX2_cutTracks 2 = .ok (.iconst 0, 1) := by decide +kernel
theorem dX2_cutTracks_3 : decode cX2_cutTracks 3 = .ok (.istore_n 2, 1) := by decide +kernel
theorem dX2_cutTracks_4 : decode cX2_cutTracks 4 = .ok (.iload_n 2, 1) := by decide +kernel
theorem dX2_cutTracks_5 : decode cX2_cutTracks 5 = .ok (.bipush 6, 2) := by decide +kernel
theorem dX2_cutTracks_7 : decode cX2_cutTracks 7 = .ok (.if_icmp .ge 17, 3) := by decide +kernel
theorem dX2_cutTracks_10 : decode cX2_cutTracks 10 = .ok (.iload_n 1, 1) := by decide +kernel
theorem dX2_cutTracks_11 : decode cX2_cutTracks 11 = .ok (.aload_n 0, 1) := by decide +kernel
theorem dX2_cutTracks_12 : decode cX2_cutTracks 12 = .ok (.iload_n 2, 1) := by decide +kernel
theorem dX2_cutTracks_13 : decode cX2_cutTracks 13 = .ok (.invokevirtual 128, 3) := by decide +kernel
theorem dX2_cutTracks_16 : decode cX2_cutTracks 16 = .ok (.iadd, 1) := by decide +kernel
theorem dX2_cutTracks_17 : decode cX2_cutTracks 17 = .ok (.istore_n 1, 1) := by decide +kernel
theorem dX2_cutTracks_18 : decode cX2_cutTracks 18 = .ok (.iinc 2 1, 3) := by decide +kernel
theorem dX2_cutTracks_21 : decode cX2_cutTracks 21 = .ok (.goto (-17), 3) := by decide +kernel
theorem dX2_cutTracks_24 : decode cX2_cutTracks 24 = .ok (.iload_n 1, 1) := by decide +kernel
theorem dX2_cutTracks_25 : decode cX2_cutTracks 25 = .ok (.ireturn, 1) := by decide +kernel
theorem dX2_greatestDepth_0 : decode cX2_greatestDepth 0 = .ok (.iconst 0, 1) := by decide +kernel
theorem dX2_greatestDepth_1 : decode cX2_greatestDepth 1 = .ok (.istore_n 2, 1) := by decide +kernel
theorem dX2_greatestDepth_2 : decode cX2_greatestDepth 2 = .ok (.iload_n 1, 1) := by decide +kernel
theorem dX2_greatestDepth_3 : decode cX2_greatestDepth 3 = .ok (.iconst 4, 1) := by decide +kernel
theorem dX2_greatestDepth_4 : decode cX2_greatestDepth 4 = .ok (.imul, 1) := by decide +kernel
theorem dX2_greatestDepth_5 : decode cX2_greatestDepth 5 = .ok (.istore_n 3, 1) := by decide +kernel
theorem dX2_greatestDepth_6 : decode cX2_greatestDepth 6 = .ok (.iload_n 3, 1) := by decide +kernel
theorem dX2_greatestDepth_7 : decode cX2_greatestDepth 7 = .ok (.istore 4, 2) := by decide +kernel
theorem dX2_greatestDepth_9 : decode cX2_greatestDepth 9 = .ok (.iload 4, 2) := by decide +kernel
theorem dX2_greatestDepth_11 : decode cX2_greatestDepth 11 = .ok (.iload_n 3, 1) := by decide +kernel
theorem dX2_greatestDepth_12 : decode cX2_greatestDepth 12 = .ok (.iconst 4, 1) := by decide +kernel
theorem dX2_greatestDepth_13 : decode cX2_greatestDepth 13 = .ok (.iadd, 1) := by decide +kernel
theorem dX2_greatestDepth_14 : decode cX2_greatestDepth 14 = .ok (.if_icmp .ge 21, 3) := by decide +kernel
theorem dX2_greatestDepth_17 : decode cX2_greatestDepth 17 = .ok (.iload_n 2, 1) := by decide +kernel
theorem dX2_greatestDepth_18 : decode cX2_greatestDepth 18 = .ok (.aload_n 0, 1) := by decide +kernel
theorem dX2_greatestDepth_19 : decode cX2_greatestDepth 19 = .ok (.getfield 9, 3) := by decide +kernel
theorem dX2_greatestDepth_22 : decode cX2_greatestDepth 22 = .ok (.iload 4, 2) := by decide +kernel
theorem dX2_greatestDepth_24 : decode cX2_greatestDepth 24 = .ok (.iaload, 1) := by decide +kernel
theorem dX2_greatestDepth_25 : decode cX2_greatestDepth 25 = .ok (.invokestatic 118, 3) := by decide +kernel
theorem dX2_greatestDepth_28 : decode cX2_greatestDepth 28 = .ok (.istore_n 2, 1) := by decide +kernel
theorem dX2_greatestDepth_29 : decode cX2_greatestDepth 29 = .ok (.iinc 4 1, 3) := by decide +kernel
theorem dX2_greatestDepth_32 : decode cX2_greatestDepth 32 = .ok (.goto (-23), 3) := by decide +kernel
theorem dX2_greatestDepth_35 : decode cX2_greatestDepth 35 = .ok (.iload_n 2, 1) := by decide +kernel
theorem dX2_greatestDepth_36 : decode cX2_greatestDepth 36 = .ok (.ireturn, 1) := by decide +kernel
set_option maxRecDepth 20000 in
theorem ggX2_clearestTrackOn_X2_isCut : GoodIn wsX2_clearestTrackOn wsX2_isCut := goodIn_r _ [6, 7, 8, 9, 10, 11, 12, 13, 14, 15, 16, 17, 18, 19, 20, 21, 22, 23, 24, 25, 26] (by decide +kernel) (by decide +kernel)
set_option maxRecDepth 20000 in
theorem gX2_clearestTrackOn_X2_isCut : GoodIn wsX2_clearestTrackOn (wsV RX2 76 RX2 yX2_isCut wsX2_isCut) := goodIn_app (goodIn_of _ (by decide +kernel)) ggX2_clearestTrackOn_X2_isCut
theorem dX2_clearestTrackOn_0 : decode cX2_clearestTrackOn 0 = .ok (.iconst (-1), 1) := by decide +kernel
theorem dX2_clearestTrackOn_1 : decode cX2_clearestTrackOn 1 = .ok (.istore_n 2, 1) := by decide +kernel
theorem dX2_clearestTrackOn_2 : decode cX2_clearestTrackOn 2 = .ok (.iload_n 1, 1) := by decide +kernel
theorem dX2_clearestTrackOn_3 : decode cX2_clearestTrackOn 3 = .ok (.iconst 4, 1) := by decide +kernel
theorem dX2_clearestTrackOn_4 : decode cX2_clearestTrackOn 4 = .ok (.imul, 1) := by decide +kernel
theorem dX2_clearestTrackOn_5 : decode cX2_clearestTrackOn 5 = .ok (.istore_n 3, 1) := by decide +kernel
theorem dX2_clearestTrackOn_6 : decode cX2_clearestTrackOn 6 = .ok (.iload_n 3, 1) := by decide +kernel
theorem dX2_clearestTrackOn_7 : decode cX2_clearestTrackOn 7 = .ok (.istore 4, 2) := by decide +kernel
theorem dX2_clearestTrackOn_9 : decode cX2_clearestTrackOn 9 = .ok (.iload 4, 2) := by decide +kernel
theorem dX2_clearestTrackOn_11 : decode cX2_clearestTrackOn 11 = .ok (.iload_n 3, 1) := by decide +kernel
theorem dX2_clearestTrackOn_12 : decode cX2_clearestTrackOn 12 = .ok (.iconst 4, 1) := by decide +kernel
theorem dX2_clearestTrackOn_13 : decode cX2_clearestTrackOn 13 = .ok (.iadd, 1) := by decide +kernel
theorem dX2_clearestTrackOn_14 : decode cX2_clearestTrackOn 14 = .ok (.if_icmp .ge 42, 3) := by decide +kernel
theorem dX2_clearestTrackOn_17 : decode cX2_clearestTrackOn 17 = .ok (.aload_n 0, 1) := by decide +kernel
theorem dX2_clearestTrackOn_18 : decode cX2_clearestTrackOn 18 = .ok (.iload 4, 2) := by decide +kernel
theorem dX2_clearestTrackOn_20 : decode cX2_clearestTrackOn 20 = .ok (.invokevirtual 76, 3) := by decide +kernel
theorem dX2_clearestTrackOn_23 : decode cX2_clearestTrackOn 23 = .ok (.ifCond .eq 27, 3) := by decide +kernel
theorem dX2_clearestTrackOn_26 : decode cX2_clearestTrackOn 26 = .ok (.iload_n 2, 1) := by decide +kernel
theorem dX2_clearestTrackOn_27 : decode cX2_clearestTrackOn 27 = .ok (.iconst (-1), 1) := by decide +kernel
theorem dX2_clearestTrackOn_28 : decode cX2_clearestTrackOn 28 = .ok (.if_icmp .eq 19, 3) := by decide +kernel
theorem dX2_clearestTrackOn_31 : decode cX2_clearestTrackOn 31 = .ok (.aload_n 0, 1) := by decide +kernel
theorem dX2_clearestTrackOn_32 : decode cX2_clearestTrackOn 32 = .ok (.getfield 15, 3) := by decide +kernel
theorem dX2_clearestTrackOn_35 : decode cX2_clearestTrackOn 35 = .ok (.iload 4, 2) := by decide +kernel
theorem dX2_clearestTrackOn_37 : decode cX2_clearestTrackOn 37 = .ok (.iaload, 1) := by decide +kernel
theorem dX2_clearestTrackOn_38 : decode cX2_clearestTrackOn 38 = .ok (.aload_n 0, 1) := by decide +kernel
theorem dX2_clearestTrackOn_39 : decode cX2_clearestTrackOn 39 = .ok (.getfield 15, 3) := by decide +kernel
theorem dX2_clearestTrackOn_42 : decode cX2_clearestTrackOn 42 = .ok (.iload_n 2, 1) := by decide +kernel
theorem dX2_clearestTrackOn_43 : decode cX2_clearestTrackOn 43 = .ok (.iaload, 1) := by decide +kernel
theorem dX2_clearestTrackOn_44 : decode cX2_clearestTrackOn 44 = .ok (.if_icmp .le 6, 3) := by decide +kernel
theorem dX2_clearestTrackOn_47 : decode cX2_clearestTrackOn 47 = .ok (.iload 4, 2) := by decide +kernel
theorem dX2_clearestTrackOn_49 : decode cX2_clearestTrackOn 49 = .ok (.istore_n 2, 1) := by decide +kernel
theorem dX2_clearestTrackOn_50 : decode cX2_clearestTrackOn 50 = .ok (.iinc 4 1, 3) := by decide +kernel
theorem dX2_clearestTrackOn_53 : decode cX2_clearestTrackOn 53 = .ok (.goto (-44), 3) := by decide +kernel
theorem dX2_clearestTrackOn_56 : decode cX2_clearestTrackOn 56 = .ok (.iload_n 2, 1) := by decide +kernel
theorem dX2_clearestTrackOn_57 : decode cX2_clearestTrackOn 57 = .ok (.ireturn, 1) := by decide +kernel
set_option maxRecDepth 20000 in
theorem ggX2_clearestTrack_X2_isCut : GoodIn wsX2_clearestTrack wsX2_isCut := goodIn_r _ [5, 6, 13, 14, 15, 16, 17, 18, 19, 20, 21, 22, 23, 24, 25, 26, 27, 28, 29, 30, 31] (by decide +kernel) (by decide +kernel)
set_option maxRecDepth 20000 in
theorem gX2_clearestTrack_X2_isCut : GoodIn wsX2_clearestTrack (wsV RX2 76 RX2 yX2_isCut wsX2_isCut) := goodIn_app (goodIn_of _ (by decide +kernel)) ggX2_clearestTrack_X2_isCut
set_option maxRecDepth 20000 in
theorem ggX2_clearestTrack_X2_soundsBetter : GoodIn wsX2_clearestTrack wsX2_soundsBetter := goodIn_r _ [10, 11, 12, 13, 14, 15, 16, 17, 18, 19, 20, 21, 22, 23, 24, 25, 26, 27, 28, 29, 30, 31] (by decide +kernel) (by decide +kernel)
set_option maxRecDepth 20000 in
theorem gX2_clearestTrack_X2_soundsBetter : GoodIn wsX2_clearestTrack (wsV RX2 140 RX2 yX2_soundsBetter wsX2_soundsBetter) := goodIn_app (goodIn_of _ (by decide +kernel)) ggX2_clearestTrack_X2_soundsBetter
theorem dX2_clearestTrack_0 : decode cX2_clearestTrack 0 = .ok (.iconst (-1), 1) := by decide +kernel
theorem dX2_clearestTrack_1 : decode cX2_clearestTrack 1 = .ok (.istore_n 1, 1) := by decide +kernel
theorem dX2_clearestTrack_2 : decode cX2_clearestTrack 2 = .ok (.iconst 0, 1) := by decide +kernel
theorem dX2_clearestTrack_3 : decode cX2_clearestTrack 3 = .ok (.istore_n 2, 1) := by decide +kernel
theorem dX2_clearestTrack_4 : decode cX2_clearestTrack 4 = .ok (.iload_n 2, 1) := by decide +kernel
theorem dX2_clearestTrack_5 : decode cX2_clearestTrack 5 = .ok (.bipush 24, 2) := by decide +kernel
theorem dX2_clearestTrack_7 : decode cX2_clearestTrack 7 = .ok (.if_icmp .ge 33, 3) := by decide +kernel
theorem dX2_clearestTrack_10 : decode cX2_clearestTrack 10 = .ok (.aload_n 0, 1) := by decide +kernel
theorem dX2_clearestTrack_11 : decode cX2_clearestTrack 11 = .ok (.iload_n 2, 1) := by decide +kernel
theorem dX2_clearestTrack_12 : decode cX2_clearestTrack 12 = .ok (.invokevirtual 76, 3) := by decide +kernel
theorem dX2_clearestTrack_15 : decode cX2_clearestTrack 15 = .ok (.ifCond .eq 19, 3) := by decide +kernel
theorem dX2_clearestTrack_18 : decode cX2_clearestTrack 18 = .ok (.iload_n 1, 1) := by decide +kernel
theorem dX2_clearestTrack_19 : decode cX2_clearestTrack 19 = .ok (.iconst (-1), 1) := by decide +kernel
theorem dX2_clearestTrack_20 : decode cX2_clearestTrack 20 = .ok (.if_icmp .eq 12, 3) := by decide +kernel
theorem dX2_clearestTrack_23 : decode cX2_clearestTrack 23 = .ok (.aload_n 0, 1) := by decide +kernel
theorem dX2_clearestTrack_24 : decode cX2_clearestTrack 24 = .ok (.iload_n 2, 1) := by decide +kernel
theorem dX2_clearestTrack_25 : decode cX2_clearestTrack 25 = .ok (.iload_n 1, 1) := by decide +kernel
theorem dX2_clearestTrack_26 : decode cX2_clearestTrack 26 = .ok (.invokevirtual 140, 3) := by decide +kernel
theorem dX2_clearestTrack_29 : decode cX2_clearestTrack 29 = .ok (.ifCond .eq 5, 3) := by decide +kernel
theorem dX2_clearestTrack_32 : decode cX2_clearestTrack 32 = .ok (.iload_n 2, 1) := by decide +kernel
theorem dX2_clearestTrack_33 : decode cX2_clearestTrack 33 = .ok (.istore_n 1, 1) := by decide +kernel
theorem dX2_clearestTrack_34 : decode cX2_clearestTrack 34 = .ok (.iinc 2 1, 3) := by decide +kernel
theorem dX2_clearestTrack_37 : decode cX2_clearestTrack 37 = .ok (.goto (-33), 3) := by decide +kernel
theorem dX2_clearestTrack_40 : decode cX2_clearestTrack 40 = .ok (.iload_n 1, 1) := by decide +kernel
theorem dX2_clearestTrack_41 : decode cX2_clearestTrack 41 = .ok (.ireturn, 1) := by decide +kernel
theorem dX2_soundsBetter_0 : decode cX2_soundsBetter 0 = .ok (.aload_n 0, 1) := by decide +kernel
theorem dX2_soundsBetter_1 : decode cX2_soundsBetter 1 = .ok (.getfield 15, 3) := by decide +kernel
theorem dX2_soundsBetter_4 : decode cX2_soundsBetter 4 = .ok (.iload_n 1, 1) := by decide +kernel
theorem dX2_soundsBetter_5 : decode cX2_soundsBetter 5 = .ok (.iaload, 1) := by decide +kernel
theorem dX2_soundsBetter_6 : decode cX2_soundsBetter 6 = .ok (.aload_n 0, 1) := by decide +kernel
theorem dX2_soundsBetter_7 : decode cX2_soundsBetter 7 = .ok (.getfield 15, 3) := by decide +kernel
theorem dX2_soundsBetter_10 : decode cX2_soundsBetter 10 = .ok (.iload_n 2, 1) := by decide +kernel
theorem dX2_soundsBetter_11 : decode cX2_soundsBetter 11 = .ok (.iaload, 1) := by decide +kernel
theorem dX2_soundsBetter_12 : decode cX2_soundsBetter 12 = .ok (.if_icmp .eq 24, 3) := by decide +kernel
theorem dX2_soundsBetter_15 : decode cX2_soundsBetter 15 = .ok (.aload_n 0, 1) := by decide +kernel
theorem dX2_soundsBetter_16 : decode cX2_soundsBetter 16 = .ok (.getfield 15, 3) := by decide +kernel
theorem dX2_soundsBetter_19 : decode cX2_soundsBetter 19 = .ok (.iload_n 1, 1) := by decide +kernel
theorem dX2_soundsBetter_20 : decode cX2_soundsBetter 20 = .ok (.iaload, 1) := by decide +kernel
theorem dX2_soundsBetter_21 : decode cX2_soundsBetter 21 = .ok (.aload_n 0, 1) := by decide +kernel
theorem dX2_soundsBetter_22 : decode cX2_soundsBetter 22 = .ok (.getfield 15, 3) := by decide +kernel
theorem dX2_soundsBetter_25 : decode cX2_soundsBetter 25 = .ok (.iload_n 2, 1) := by decide +kernel
theorem dX2_soundsBetter_26 : decode cX2_soundsBetter 26 = .ok (.iaload, 1) := by decide +kernel
theorem dX2_soundsBetter_27 : decode cX2_soundsBetter 27 = .ok (.if_icmp .le 7, 3) := by decide +kernel
theorem dX2_soundsBetter_30 : decode cX2_soundsBetter 30 = .ok (.iconst 1, 1) := by decide +kernel
theorem dX2_soundsBetter_31 : decode cX2_soundsBetter 31 = .ok (.goto 4, 3) := by decide +kernel
theorem dX2_soundsBetter_34 : decode cX2_soundsBetter 34 = .ok (.iconst 0, 1) := by decide +kernel
theorem dX2_soundsBetter_35 : decode cX2_soundsBetter 35 = .ok (.ireturn, 1) := by decide +kernel
theorem dX2_soundsBetter_36 : decode cX2_soundsBetter 36 = .ok (.aload_n 0, 1) := by decide +kernel
theorem dX2_soundsBetter_37 : decode cX2_soundsBetter 37 = .ok (.getfield 18, 3) := by decide +kernel
theorem dX2_soundsBetter_40 : decode cX2_soundsBetter 40 = .ok (.iload_n 1, 1) := by decide +kernel
theorem dX2_soundsBetter_41 : decode cX2_soundsBetter 41 = .ok (.iaload, 1) := by decide +kernel
theorem dX2_soundsBetter_42 : decode cX2_soundsBetter 42 = .ok (.aload_n 0, 1) := by decide +kernel
theorem dX2_soundsBetter_43 : decode cX2_soundsBetter 43 = .ok (.getfield 18, 3) := by decide +kernel
theorem dX2_soundsBetter_46 : decode cX2_soundsBetter 46 = .ok (.iload_n 2, 1) := by decide +kernel
theorem dX2_soundsBetter_47 : decode cX2_soundsBetter 47 = .ok (.iaload, 1) := by decide +kernel
theorem dX2_soundsBetter_48 : decode cX2_soundsBetter 48 = .ok (.if_icmp .ge 7, 3) := by decide +kernel
theorem dX2_soundsBetter_51 : decode cX2_soundsBetter 51 = .ok (.iconst 1, 1) := by decide +kernel
theorem dX2_soundsBetter_52 : decode cX2_soundsBetter 52 = .ok (.goto 4, 3) := by decide +kernel
theorem dX2_soundsBetter_55 : decode cX2_soundsBetter 55 = .ok (.iconst 0, 1) := by decide +kernel
theorem dX2_soundsBetter_56 : decode cX2_soundsBetter 56 = .ok (.ireturn, 1) := by decide +kernel
theorem dX2_layersTogether_0 : decode cX2_layersTogether 0 = .ok (.iconst 0, 1) := by decide +kernel
theorem dX2_layersTogether_1 : decode cX2_layersTogether 1 = .ok (.istore_n 1, 1) := by decide +kernel
theorem dX2_layersTogether_2 : decode cX2_layersTogether 2 = .ok (.iconst 0, 1) := by decide +kernel
theorem dX2_layersTogether_3 : decode cX2_layersTogether 3 = .ok (.istore_n 2, 1) := by decide +kernel
theorem dX2_layersTogether_4 : decode cX2_layersTogether 4 = .ok (.iload_n 2, 1) := by decide +kernel
theorem dX2_layersTogether_5 : decode cX2_layersTogether 5 = .ok (.bipush 6, 2) := by decide +kernel
theorem dX2_layersTogether_7 : decode cX2_layersTogether 7 = .ok (.if_icmp .ge 18, 3) := by decide +kernel
theorem dX2_layersTogether_10 : decode cX2_layersTogether 10 = .ok (.iload_n 1, 1) := by decide +kernel
theorem dX2_layersTogether_11 : decode cX2_layersTogether 11 = .ok (.aload_n 0, 1) := by decide +kernel
theorem dX2_layersTogether_12 : decode cX2_layersTogether 12 = .ok (.getfield 33, 3) := by decide +kernel
theorem dX2_layersTogether_15 : decode cX2_layersTogether 15 = .ok (.iload_n 2, 1) := by decide +kernel
theorem dX2_layersTogether_16 : decode cX2_layersTogether 16 = .ok (.iaload, 1) := by decide +kernel
theorem dX2_layersTogether_17 : decode cX2_layersTogether 17 = .ok (.iadd, 1) := by decide +kernel
theorem dX2_layersTogether_18 : decode cX2_layersTogether 18 = .ok (.istore_n 1, 1) := by decide +kernel
theorem dX2_layersTogether_19 : decode cX2_layersTogether 19 = .ok (.iinc 2 1, 3) := by decide +kernel
theorem dX2_layersTogether_22 : decode cX2_layersTogether 22 = .ok (.goto (-18), 3) := by decide +kernel
theorem dX2_layersTogether_25 : decode cX2_layersTogether 25 = .ok (.iload_n 1, 1) := by decide +kernel
theorem dX2_layersTogether_26 : decode cX2_layersTogether 26 = .ok (.ireturn, 1) := by decide +kernel
theorem dX2_depthTogether_0 : decode cX2_depthTogether 0 = .ok (.iconst 0, 1) := by decide +kernel
theorem dX2_depthTogether_1 : decode cX2_depthTogether 1 = .ok (.istore_n 1, 1) := by decide +kernel
theorem dX2_depthTogether_2 : decode cX2_depthTogether 2 = .ok (.iconst 0, 1) := by decide +kernel
theorem dX2_depthTogether_3 : decode cX2_depthTogether 3 = .ok (.istore_n 2, 1) := by decide +kernel
theorem dX2_depthTogether_4 : decode cX2_depthTogether 4 = .ok (.iload_n 2, 1) := by decide +kernel
theorem dX2_depthTogether_5 : decode cX2_depthTogether 5 = .ok (.bipush 24, 2) := by decide +kernel
theorem dX2_depthTogether_7 : decode cX2_depthTogether 7 = .ok (.if_icmp .ge 18, 3) := by decide +kernel
theorem dX2_depthTogether_10 : decode cX2_depthTogether 10 = .ok (.iload_n 1, 1) := by decide +kernel
theorem dX2_depthTogether_11 : decode cX2_depthTogether 11 = .ok (.aload_n 0, 1) := by decide +kernel
theorem dX2_depthTogether_12 : decode cX2_depthTogether 12 = .ok (.getfield 9, 3) := by decide +kernel
theorem dX2_depthTogether_15 : decode cX2_depthTogether 15 = .ok (.iload_n 2, 1) := by decide +kernel
theorem dX2_depthTogether_16 : decode cX2_depthTogether 16 = .ok (.iaload, 1) := by decide +kernel
theorem dX2_depthTogether_17 : decode cX2_depthTogether 17 = .ok (.iadd, 1) := by decide +kernel
theorem dX2_depthTogether_18 : decode cX2_depthTogether 18 = .ok (.istore_n 1, 1) := by decide +kernel
theorem dX2_depthTogether_19 : decode cX2_depthTogether 19 = .ok (.iinc 2 1, 3) := by decide +kernel
theorem dX2_depthTogether_22 : decode cX2_depthTogether 22 = .ok (.goto (-18), 3) := by decide +kernel
theorem dX2_depthTogether_25 : decode cX2_depthTogether 25 = .ok (.iload_n 1, 1) := by decide +kernel
theorem dX2_depthTogether_26 : decode cX2_depthTogether 26 = .ok (.ireturn, 1) := by decide +kernel
set_option maxRecDepth 20000 in
theorem ggX2_clearnessTogether_X2_isCut : GoodIn wsX2_clearnessTogether wsX2_isCut := goodIn_r _ [6, 7, 8, 9, 10, 11, 12, 13, 14, 15, 16, 17, 18, 19, 20, 21, 22, 23, 24, 25, 26] (by decide +kernel) (by decide +kernel)
set_option maxRecDepth 20000 in
theorem gX2_clearnessTogether_X2_isCut : GoodIn wsX2_clearnessTogether (wsV RX2 76 RX2 yX2_isCut wsX2_isCut) := goodIn_app (goodIn_of _ (by decide +kernel)) ggX2_clearnessTogether_X2_isCut
theorem dX2_clearnessTogether_0 : decode cX2_clearnessTogether 0 = .ok (.iconst 0, 1) := by decide +kernel
theorem dX2_clearnessTogether_1 : decode cX2_clearnessTogether 1 = .ok (.istore_n 1, 1) := by decide +kernel
theorem dX2_clearnessTogether_2 : decode cX2_clearnessTogether 2 = .ok (.iconst 0, 1) := by decide +kernel
theorem dX2_clearnessTogether_3 : decode cX2_clearnessTogether 3 = .ok (.istore_n 2, 1) := by decide +kernel
theorem dX2_clearnessTogether_4 : decode cX2_clearnessTogether 4 = .ok (.iload_n 2, 1) := by decide +kernel
theorem dX2_clearnessTogether_5 : decode cX2_clearnessTogether 5 = .ok (.bipush 24, 2) := by decide +kernel
theorem dX2_clearnessTogether_7 : decode cX2_clearnessTogether 7 = .ok (.if_icmp .ge 30, 3) := by decide +kernel
theorem dX2_clearnessTogether_10 : decode cX2_clearnessTogether 10 = .ok (.iload_n 1, 1) := by decide +kernel
theorem dX2_clearnessTogether_11 : decode cX2_clearnessTogether 11 = .ok (.aload_n 0, 1) := by decide +kernel
theorem dX2_clearnessTogether_12 : decode cX2_clearnessTogether 12 = .ok (.iload_n 2, 1) := by decide +kernel
theorem dX2_clearnessTogether_13 : decode cX2_clearnessTogether 13 = .ok (.invokevirtual 76, 3) := by decide +kernel
theorem dX2_clearnessTogether_16 : decode cX2_clearnessTogether 16 = .ok (.ifCond .eq 12, 3) := by decide +kernel
theorem dX2_clearnessTogether_19 : decode cX2_clearnessTogether 19 = .ok (.aload_n 0, 1) := by decide +kernel
theorem dX2_clearnessTogether_20 : decode cX2_clearnessTogether 20 = .ok (.getfield 15, 3) := by decide +kernel
theorem dX2_clearnessTogether_23 : decode cX2_clearnessTogether 23 = .ok (.iload_n 2, 1) := by decide +kernel
theorem dX2_clearnessTogether_24 : decode cX2_clearnessTogether 24 = .ok (.iaload, 1) := by decide +kernel
theorem dX2_clearnessTogether_25 : decode cX2_clearnessTogether 25 = .ok (.goto 4, 3) := by decide +kernel
theorem dX2_clearnessTogether_28 : decode cX2_clearnessTogether 28 = .ok (.iconst 0, 1) := by decide +kernel
theorem dX2_clearnessTogether_29 : decode cX2_clearnessTogether 29 = .ok (.iadd, 1) := by decide +kernel
theorem dX2_clearnessTogether_30 : decode cX2_clearnessTogether 30 = .ok (.istore_n 1, 1) := by decide +kernel
theorem dX2_clearnessTogether_31 : decode cX2_clearnessTogether 31 = .ok (.iinc 2 1, 3) := by decide +kernel
theorem dX2_clearnessTogether_34 : decode cX2_clearnessTogether 34 = .ok (.goto (-30), 3) := by decide +kernel
theorem dX2_clearnessTogether_37 : decode cX2_clearnessTogether 37 = .ok (.iload_n 1, 1) := by decide +kernel
theorem dX2_clearnessTogether_38 : decode cX2_clearnessTogether 38 = .ok (.ireturn, 1) := by decide +kernel
set_option maxRecDepth 20000 in
theorem ggX2_descendants_X2_comesFrom : GoodIn wsX2_descendants wsX2_comesFrom := goodIn_r _ [5, 6, 7, 8, 9, 10, 11, 12, 13, 14, 15, 16, 17, 18, 19, 20, 21, 22, 23, 24, 25] (by decide +kernel) (by decide +kernel)
set_option maxRecDepth 20000 in
theorem gX2_descendants_X2_comesFrom : GoodIn wsX2_descendants (wsV RX2 144 RX2 yX2_comesFrom wsX2_comesFrom) := goodIn_app (goodIn_of _ (by decide +kernel)) ggX2_descendants_X2_comesFrom
theorem dX2_descendants_0 : decode cX2_descendants 0 = .ok (.iconst 0, 1) := by decide +kernel
theorem dX2_descendants_1 : decode cX2_descendants 1 = .ok (.istore_n 2, 1) := by decide +kernel
theorem dX2_descendants_2 : decode cX2_descendants 2 = .ok (.iconst 0, 1) := by decide +kernel
theorem dX2_descendants_3 : decode cX2_descendants 3 = .ok (.istore_n 3, 1) := by decide +kernel
theorem dX2_descendants_4 : decode cX2_descendants 4 = .ok (.iload_n 3, 1) := by decide +kernel
theorem dX2_descendants_5 : decode cX2_descendants 5 = .ok (.bipush 24, 2) := by decide +kernel
theorem dX2_descendants_7 : decode cX2_descendants 7 = .ok (.if_icmp .ge 26, 3) := by decide +kernel
theorem dX2_descendants_10 : decode cX2_descendants 10 = .ok (.iload_n 3, 1) := by decide +kernel
theorem dX2_descendants_11 : decode cX2_descendants 11 = .ok (.iload_n 1, 1) := by decide +kernel
theorem dX2_descendants_12 : decode cX2_descendants 12 = .ok (.if_icmp .eq 15, 3) := by decide +kernel
theorem dX2_descendants_15 : decode cX2_descendants 15 = .ok (.aload_n 0, 1) := by decide +kernel
theorem dX2_descendants_16 : decode cX2_descendants 16 = .ok (.iload_n 3, 1) := by decide +kernel
theorem dX2_descendants_17 : decode cX2_descendants 17 = .ok (.iload_n 1, 1) := by decide +kernel
theorem dX2_descendants_18 : decode cX2_descendants 18 = .ok (.invokevirtual 144, 3) := by decide +kernel
theorem dX2_descendants_21 : decode cX2_descendants 21 = .ok (.ifCond .eq 6, 3) := by decide +kernel
theorem dX2_descendants_24 : decode cX2_descendants 24 = .ok (.iinc 2 1, 3) := by decide +kernel
theorem dX2_descendants_27 : decode cX2_descendants 27 = .ok (.iinc 3 1, 3) := by decide +kernel
theorem dX2_descendants_30 : decode cX2_descendants 30 = .ok (.goto (-26), 3) := by decide +kernel
theorem dX2_descendants_33 : decode cX2_descendants 33 = .ok (.iload_n 2, 1) := by decide +kernel
theorem dX2_descendants_34 : decode cX2_descendants 34 = .ok (.ireturn, 1) := by decide +kernel
theorem dX2_comesFrom_0 : decode cX2_comesFrom 0 = .ok (.aload_n 0, 1) := by decide +kernel
theorem dX2_comesFrom_1 : decode cX2_comesFrom 1 = .ok (.getfield 24, 3) := by decide +kernel
theorem dX2_comesFrom_4 : decode cX2_comesFrom 4 = .ok (.iload_n 1, 1) := by decide +kernel
theorem dX2_comesFrom_5 : decode cX2_comesFrom 5 = .ok (.iaload, 1) := by decide +kernel
theorem dX2_comesFrom_6 : decode cX2_comesFrom 6 = .ok (.istore_n 3, 1) := by decide +kernel
theorem dX2_comesFrom_7 : decode cX2_comesFrom 7 = .ok (.iconst 0, 1) := by decide +kernel
theorem dX2_comesFrom_8 : decode cX2_comesFrom 8 = .ok (.istore 4, 2) := by decide +kernel
theorem dX2_comesFrom_10 : decode cX2_comesFrom 10 = .ok (.iload 4, 2) := by decide +kernel
theorem dX2_comesFrom_12 : decode cX2_comesFrom 12 = .ok (.bipush 24, 2) := by decide +kernel
theorem dX2_comesFrom_14 : decode cX2_comesFrom 14 = .ok (.if_icmp .ge 33, 3) := by decide +kernel
theorem dX2_comesFrom_17 : decode cX2_comesFrom 17 = .ok (.iload_n 3, 1) := by decide +kernel
theorem dX2_comesFrom_18 : decode cX2_comesFrom 18 = .ok (.ifCond .lt 29, 3) := by decide +kernel
theorem dX2_comesFrom_21 : decode cX2_comesFrom 21 = .ok (.iload_n 3, 1) := by decide +kernel
theorem dX2_comesFrom_22 : decode cX2_comesFrom 22 = .ok (.bipush 24, 2) := by decide +kernel
theorem dX2_comesFrom_24 : decode cX2_comesFrom 24 = .ok (.if_icmp .ge 23, 3) := by decide +kernel
theorem dX2_comesFrom_27 : decode cX2_comesFrom 27 = .ok (.iload_n 3, 1) := by decide +kernel
theorem dX2_comesFrom_28 : decode cX2_comesFrom 28 = .ok (.iload_n 2, 1) := by decide +kernel
theorem dX2_comesFrom_29 : decode cX2_comesFrom 29 = .ok (.if_icmp .ne 5, 3) := by decide +kernel
theorem dX2_comesFrom_32 : decode cX2_comesFrom 32 = .ok (.iconst 1, 1) := by decide +kernel
theorem dX2_comesFrom_33 : decode cX2_comesFrom 33 = .ok (.ireturn, 1) := by decide +kernel
theorem dX2_comesFrom_34 : decode cX2_comesFrom 34 = .ok (.aload_n 0, 1) := by decide +kernel
theorem dX2_comesFrom_35 : decode cX2_comesFrom 35 = .ok (.getfield 24, 3) := by decide +kernel
theorem dX2_comesFrom_38 : decode cX2_comesFrom 38 = .ok (.iload_n 3, 1) := by decide +kernel
theorem dX2_comesFrom_39 : decode cX2_comesFrom 39 = .ok (.iaload, 1) := by decide +kernel
theorem dX2_comesFrom_40 : decode cX2_comesFrom 40 = .ok (.istore_n 3, 1) := by decide +kernel
theorem dX2_comesFrom_41 : decode cX2_comesFrom 41 = .ok (.iinc 4 1, 3) := by decide +kernel
theorem dX2_comesFrom_44 : decode cX2_comesFrom 44 = .ok (.goto (-34), 3) := by decide +kernel
theorem dX2_comesFrom_47 : decode cX2_comesFrom 47 = .ok (.iconst 0, 1) := by decide +kernel
theorem dX2_comesFrom_48 : decode cX2_comesFrom 48 = .ok (.ireturn, 1) := by decide +kernel
