theorem dX5_init_0 : decode cX5_init 0 = .ok (.aload_n 0, 1) := by decide +kernel
theorem dX5_init_1 : decode cX5_init 1 = .ok (.invokespecial 1, 3) := by decide +kernel
theorem dX5_init_4 : decode cX5_init 4 = .ok (.aload_n 0, 1) := by decide +kernel
theorem dX5_init_5 : decode cX5_init 5 = .ok (.bipush 8, 2) := by decide +kernel
theorem dX5_init_7 : decode cX5_init 7 = .ok (.newarray .int, 2) := by decide +kernel
theorem dX5_init_9 : decode cX5_init 9 = .ok (.putfield 7, 3) := by decide +kernel
theorem dX5_init_12 : decode cX5_init 12 = .ok (.aload_n 0, 1) := by decide +kernel
theorem dX5_init_13 : decode cX5_init 13 = .ok (.bipush 8, 2) := by decide +kernel
theorem dX5_init_15 : decode cX5_init 15 = .ok (.newarray .int, 2) := by decide +kernel
theorem dX5_init_17 : decode cX5_init 17 = .ok (.putfield 13, 3) := by decide +kernel
theorem dX5_init_20 : decode cX5_init 20 = .ok (.aload_n 0, 1) := by decide +kernel
theorem dX5_init_21 : decode cX5_init 21 = .ok (.bipush 8, 2) := by decide +kernel
theorem dX5_init_23 : decode cX5_init 23 = .ok (.newarray .int, 2) := by decide +kernel
theorem dX5_init_25 : decode cX5_init 25 = .ok (.putfield 16, 3) := by decide +kernel
theorem dX5_init_28 : decode cX5_init 28 = .ok (.aload_n 0, 1) := by decide +kernel
theorem dX5_init_29 : decode cX5_init 29 = .ok (.bipush 8, 2) := by decide +kernel
theorem dX5_init_31 : decode cX5_init 31 = .ok (.newarray .int, 2) := by decide +kernel
theorem dX5_init_33 : decode cX5_init 33 = .ok (.putfield 19, 3) := by decide +kernel
theorem dX5_init_36 : decode cX5_init 36 = .ok (.aload_n 0, 1) := by decide +kernel
theorem dX5_init_37 : decode cX5_init 37 = .ok (.bipush 8, 2) := by decide +kernel
theorem dX5_init_39 : decode cX5_init 39 = .ok (.newarray .int, 2) := by decide +kernel
theorem dX5_init_41 : decode cX5_init 41 = .ok (.putfield 22, 3) := by decide +kernel
theorem dX5_init_44 : decode cX5_init 44 = .ok (.aload_n 0, 1) := by decide +kernel
theorem dX5_init_45 : decode cX5_init 45 = .ok (.bipush 8, 2) := by decide +kernel
theorem dX5_init_47 : decode cX5_init 47 = .ok (.newarray .int, 2) := by decide +kernel
theorem dX5_init_49 : decode cX5_init 49 = .ok (.putfield 25, 3) := by decide +kernel
theorem dX5_init_52 : decode cX5_init 52 = .ok (.aload_n 0, 1) := by decide +kernel
theorem dX5_init_53 : decode cX5_init 53 = .ok (.bipush 8, 2) := by decide +kernel
theorem dX5_init_55 : decode cX5_init 55 = .ok (.newarray .boolean, 2) := by decide +kernel
theorem dX5_init_57 : decode cX5_init 57 = .ok (.putfield 28, 3) := by decide +kernel
theorem dX5_init_60 : decode cX5_init 60 = .ok (.aload_n 0, 1) := by decide +kernel
theorem dX5_init_61 : decode cX5_init 61 = .ok (.bipush 8, 2) := by decide +kernel
theorem dX5_init_63 : decode cX5_init 63 = .ok (.newarray .int, 2) := by decide +kernel
theorem dX5_init_65 : decode cX5_init 65 = .ok (.putfield 32, 3) := by decide +kernel
theorem dX5_init_68 : decode cX5_init 68 = .ok (.aload_n 0, 1) := by decide +kernel
theorem dX5_init_69 : decode cX5_init 69 = .ok (.bipush 8, 2) := by decide +kernel
theorem dX5_init_71 : decode cX5_init 71 = .ok (.newarray .int, 2) := by decide +kernel
theorem dX5_init_73 : decode cX5_init 73 = .ok (.putfield 35, 3) := by decide +kernel
theorem dX5_init_76 : decode cX5_init 76 = .ok (.aload_n 0, 1) := by decide +kernel
theorem dX5_init_77 : decode cX5_init 77 = .ok (.bipush 8, 2) := by decide +kernel
theorem dX5_init_79 : decode cX5_init 79 = .ok (.newarray .int, 2) := by decide +kernel
theorem dX5_init_81 : decode cX5_init 81 = .ok (.putfield 38, 3) := by decide +kernel
theorem dX5_init_84 : decode cX5_init 84 = .ok (.aload_n 0, 1) := by decide +kernel
theorem dX5_init_85 : decode cX5_init 85 = .ok (.bipush 8, 2) := by decide +kernel
theorem dX5_init_87 : decode cX5_init 87 = .ok (.newarray .boolean, 2) := by decide +kernel
theorem dX5_init_89 : decode cX5_init 89 = .ok (.putfield 41, 3) := by decide +kernel
theorem dX5_init_92 : decode cX5_init 92 = .ok (.aload_n 0, 1) := by decide +kernel
theorem dX5_init_93 : decode cX5_init 93 = .ok (.bipush 8, 2) := by decide +kernel
theorem dX5_init_95 : decode cX5_init 95 = .ok (.newarray .boolean, 2) := by decide +kernel
theorem dX5_init_97 : decode cX5_init 97 = .ok (.putfield 44, 3) := by decide +kernel
theorem dX5_init_100 : decode cX5_init 100 = .ok (.aload_n 0, 1) := by decide +kernel
theorem dX5_init_101 : decode cX5_init 101 = .ok (.bipush 8, 2) := by decide +kernel
theorem dX5_init_103 : decode cX5_init 103 = .ok (.newarray .int, 2) := by decide +kernel
theorem dX5_init_105 : decode cX5_init 105 = .ok (.putfield 47, 3) := by decide +kernel
theorem dX5_init_108 : decode cX5_init 108 = .ok (.aload_n 0, 1) := by decide +kernel
theorem dX5_init_109 : decode cX5_init 109 = .ok (.bipush 8, 2) := by decide +kernel
theorem dX5_init_111 : decode cX5_init 111 = .ok (.newarray .int, 2) := by decide +kernel
theorem dX5_init_113 : decode cX5_init 113 = .ok (.putfield 50, 3) := by decide +kernel
theorem dX5_init_116 : decode cX5_init 116 = .ok (.aload_n 0, 1) := by decide +kernel
theorem dX5_init_117 : decode cX5_init 117 = .ok (.bipush 8, 2) := by decide +kernel
theorem dX5_init_119 : decode cX5_init 119 = .ok (.newarray .int, 2) := by decide +kernel
theorem dX5_init_121 : decode cX5_init 121 = .ok (.putfield 53, 3) := by decide +kernel
theorem dX5_init_124 : decode cX5_init 124 = .ok (.aload_n 0, 1) := by decide +kernel
theorem dX5_init_125 : decode cX5_init 125 = .ok (.bipush 8, 2) := by decide +kernel
theorem dX5_init_127 : decode cX5_init 127 = .ok (.newarray .int, 2) := by decide +kernel
theorem dX5_init_129 : decode cX5_init 129 = .ok (.putfield 56, 3) := by decide +kernel
theorem dX5_init_132 : decode cX5_init 132 = .ok (.aload_n 0, 1) := by decide +kernel
theorem dX5_init_133 : decode cX5_init 133 = .ok (.bipush 8, 2) := by decide +kernel
theorem dX5_init_135 : decode cX5_init 135 = .ok (.newarray .int, 2) := by decide +kernel
theorem dX5_init_137 : decode cX5_init 137 = .ok (.putfield 59, 3) := by decide +kernel
theorem dX5_init_140 : decode cX5_init 140 = .ok (.aload_n 0, 1) := by decide +kernel
theorem dX5_init_141 : decode cX5_init 141 = .ok (.bipush 8, 2) := by decide +kernel
theorem dX5_init_143 : decode cX5_init 143 = .ok (.newarray .int, 2) := by decide +kernel
theorem dX5_init_145 : decode cX5_init 145 = .ok (.putfield 62, 3) := by decide +kernel
theorem dX5_init_148 : decode cX5_init 148 = .ok (.aload_n 0, 1) := by decide +kernel
theorem dX5_init_149 : decode cX5_init 149 = .ok (.bipush 24, 2) := by decide +kernel
theorem dX5_init_151 : decode cX5_init 151 = .ok (.newarray .int, 2) := by decide +kernel
theorem dX5_init_153 : decode cX5_init 153 = .ok (.putfield 65, 3) := by decide +kernel
theorem dX5_init_156 : decode cX5_init 156 = .ok (.aload_n 0, 1) := by decide +kernel
theorem dX5_init_157 : decode cX5_init 157 = .ok (.bipush 24, 2) := by decide +kernel
theorem dX5_init_159 : decode cX5_init 159 = .ok (.newarray .int, 2) := by decide +kernel
theorem dX5_init_161 : decode cX5_init 161 = .ok (.putfield 68, 3) := by decide +kernel
theorem dX5_init_164 : decode cX5_init 164 = .ok (.aload_n 0, 1) := by decide +kernel
theorem dX5_init_165 : decode cX5_init 165 = .ok (.bipush 24, 2) := by decide +kernel
theorem dX5_init_167 : decode cX5_init 167 = .ok (.newarray .int, 2) := by decide +kernel
theorem dX5_init_169 : decode cX5_init 169 = .ok (.putfield 71, 3) := by decide +kernel
theorem dX5_init_172 : decode cX5_init 172 = .ok (.aload_n 0, 1) := by decide +kernel
theorem dX5_init_173 : decode cX5_init 173 = .ok (.bipush 24, 2) := by decide +kernel
theorem dX5_init_175 : decode cX5_init 175 = .ok (.newarray .boolean, 2) := by decide +kernel
theorem dX5_init_177 : decode cX5_init 177 = .ok (.putfield 74, 3) := by decide +kernel
theorem dX5_init_180 : decode cX5_init 180 = .ok (.aload_n 0, 1) := by decide +kernel
theorem dX5_init_181 : decode cX5_init 181 = .ok (.bipush 24, 2) := by decide +kernel
theorem dX5_init_183 : decode cX5_init 183 = .ok (.newarray .int, 2) := by decide +kernel
theorem dX5_init_185 : decode cX5_init 185 = .ok (.putfield 77, 3) := by decide +kernel
theorem dX5_init_188 : decode cX5_init 188 = .ok (.aload_n 0, 1) := by decide +kernel
theorem dX5_init_189 : decode cX5_init 189 = .ok (.bipush 9, 2) := by decide +kernel
theorem dX5_init_191 : decode cX5_init 191 = .ok (.newarray .int, 2) := by decide +kernel
theorem dX5_init_193 : decode cX5_init 193 = .ok (.putfield 80, 3) := by decide +kernel
theorem dX5_init_196 : decode cX5_init 196 = .ok (.aload_n 0, 1) := by decide +kernel
theorem dX5_init_197 : decode cX5_init 197 = .ok (.bipush 9, 2) := by decide +kernel
theorem dX5_init_199 : decode cX5_init 199 = .ok (.newarray .int, 2) := by decide +kernel
theorem dX5_init_201 : decode cX5_init 201 = .ok (.putfield 83, 3) := by decide +kernel
theorem dX5_init_204 : decode cX5_init 204 = .ok (.aload_n 0, 1) := by decide +kernel
theorem dX5_init_205 : decode cX5_init 205 = .ok (.bipush 8, 2) := by decide +kernel
theorem dX5_init_207 : decode cX5_init 207 = .ok (.newarray .int, 2) := by decide +kernel
theorem dX5_init_209 : decode cX5_init 209 = .ok (.putfield 86, 3) := by decide +kernel
theorem dX5_init_212 : decode cX5_init 212 = .ok (.return_, 1) := by decide +kernel
theorem dX5_thrown_0 : decode cX5_thrown 0 = .ok (.aload_n 0, 1) := by decide +kernel
theorem dX5_thrown_1 : decode cX5_thrown 1 = .ok (.getfield 89, 3) := by decide +kernel
theorem dX5_thrown_4 : decode cX5_thrown 4 = .ok (.ireturn, 1) := by decide +kernel
theorem dX5_can_0 : decode cX5_can 0 = .ok (.aload_n 0, 1) := by decide +kernel
theorem dX5_can_1 : decode cX5_can 1 = .ok (.iload_n 1, 1) := by decide +kernel
theorem dX5_can_2 : decode cX5_can 2 = .ok (.putfield 89, 3) := by decide +kernel
theorem dX5_can_5 : decode cX5_can 5 = .ok (.iload_n 1, 1) := by decide +kernel
theorem dX5_can_6 : decode cX5_can 6 = .ok (.ifCond .ne 7, 3) := by decide +kernel
theorem dX5_can_9 : decode cX5_can 9 = .ok (.iconst 1, 1) := by decide +kernel
theorem dX5_can_10 : decode cX5_can 10 = .ok (.goto 4, 3) := by decide +kernel
theorem dX5_can_13 : decode cX5_can 13 = .ok (.iconst 0, 1) := by decide +kernel
theorem dX5_can_14 : decode cX5_can 14 = .ok (.ireturn, 1) := by decide +kernel
theorem dX5_isIn_0 : decode cX5_isIn 0 = .ok (.iload_n 0, 1) := by decide +kernel
theorem dX5_isIn_1 : decode cX5_isIn 1 = .ok (.iload_n 1, 1) := by decide +kernel
theorem dX5_isIn_2 : decode cX5_isIn 2 = .ok (.if_icmp .lt 12, 3) := by decide +kernel
theorem dX5_isIn_5 : decode cX5_isIn 5 = .ok (.iload_n 0, 1) := by decide +kernel
theorem dX5_isIn_6 : decode cX5_isIn 6 = .ok (.iload_n 2, 1) := by decide +kernel
theorem dX5_isIn_7 : decode cX5_isIn 7 = .ok (.if_icmp .gt 7, 3) := by decide +kernel
theorem dX5_isIn_10 : decode cX5_isIn 10 = .ok (.iconst 1, 1) := by decide +kernel
theorem dX5_isIn_11 : decode cX5_isIn 11 = .ok (.goto 4, 3) := by decide +kernel
theorem dX5_isIn_14 : decode cX5_isIn 14 = .ok (.iconst 0, 1) := by decide +kernel
theorem dX5_isIn_15 : decode cX5_isIn 15 = .ok (.ireturn, 1) := by decide +kernel
theorem dX5_isDistrict_0 : decode cX5_isDistrict 0 = .ok (.iload_n 1, 1) := by decide +kernel
theorem dX5_isDistrict_1 : decode cX5_isDistrict 1 = .ok (.iconst 0, 1) := by decide +kernel
theorem dX5_isDistrict_2 : decode cX5_isDistrict 2 = .ok (.aload_n 0, 1) := by decide +kernel
theorem dX5_isDistrict_3 : decode cX5_isDistrict 3 = .ok (.getfield 93, 3) := by decide +kernel
theorem dX5_isDistrict_6 : decode cX5_isDistrict 6 = .ok (.iconst 1, 1) := by decide +kernel
theorem dX5_isDistrict_7 : decode cX5_isDistrict 7 = .ok (.isub, 1) := by decide +kernel
theorem dX5_isDistrict_8 : decode cX5_isDistrict 8 = .ok (.invokestatic 96, 3) := by decide +kernel
theorem dX5_isDistrict_11 : decode cX5_isDistrict 11 = .ok (.ireturn, 1) := by decide +kernel
theorem dX5_isPipe_0 : decode cX5_isPipe 0 = .ok (.iload_n 1, 1) := by decide +kernel
theorem dX5_isPipe_1 : decode cX5_isPipe 1 = .ok (.iconst 0, 1) := by decide +kernel
theorem dX5_isPipe_2 : decode cX5_isPipe 2 = .ok (.aload_n 0, 1) := by decide +kernel
theorem dX5_isPipe_3 : decode cX5_isPipe 3 = .ok (.getfield 100, 3) := by decide +kernel
theorem dX5_isPipe_6 : decode cX5_isPipe 6 = .ok (.iconst 1, 1) := by decide +kernel
theorem dX5_isPipe_7 : decode cX5_isPipe 7 = .ok (.isub, 1) := by decide +kernel
theorem dX5_isPipe_8 : decode cX5_isPipe 8 = .ok (.invokestatic 96, 3) := by decide +kernel
theorem dX5_isPipe_11 : decode cX5_isPipe 11 = .ok (.ireturn, 1) := by decide +kernel
theorem dX5_lesser_0 : decode cX5_lesser 0 = .ok (.iload_n 0, 1) := by decide +kernel
theorem dX5_lesser_1 : decode cX5_lesser 1 = .ok (.iload_n 1, 1) := by decide +kernel
theorem dX5_lesser_2 : decode cX5_lesser 2 = .ok (.if_icmp .ge 7, 3) := by decide +kernel
theorem dX5_lesser_5 : decode cX5_lesser 5 = .ok (.iload_n 0, 1) := by decide +kernel
theorem dX5_lesser_6 : decode cX5_lesser 6 = .ok (.goto 4, 3) := by decide +kernel
theorem dX5_lesser_9 : decode cX5_lesser 9 = .ok (.iload_n 1, 1) := by decide +kernel
theorem dX5_lesser_10 : decode cX5_lesser 10 = .ok (.ireturn, 1) := by decide +kernel
theorem dX5_district_0 : decode cX5_district 0 = .ok (.iload_n 1, 1) := by decide +kernel
theorem dX5_district_1 : decode cX5_district 1 = .ok (.iconst 0, 1) := by decide +kernel
theorem dX5_district_2 : decode cX5_district 2 = .ok (.sipush 9999, 3) := by decide +kernel
theorem dX5_district_5 : decode cX5_district 5 = .ok (.invokestatic 96, 3) := by decide +kernel
theorem dX5_district_8 : decode cX5_district 8 = .ok (.ifCond .eq 18, 3) := by decide +kernel
theorem dX5_district_11 : decode cX5_district 11 = .ok (.iload_n 2, 1) := by decide +kernel
theorem dX5_district_12 : decode cX5_district 12 = .ok (.iconst 0, 1) := by decide +kernel
theorem dX5_district_13 : decode cX5_district 13 = .ok (.sipush 999, 3) := by decide +kernel
theorem dX5_district_16 : decode cX5_district 16 = .ok (.invokestatic 96, 3) := by decide +kernel
theorem dX5_district_19 : decode cX5_district 19 = .ok (.ifCond .eq 7, 3) := by decide +kernel
theorem dX5_district_22 : decode cX5_district 22 = .ok (.iconst 1, 1) := by decide +kernel
theorem dX5_district_23 : decode cX5_district 23 = .ok (.goto 4, 3) := by decide +kernel
theorem dX5_district_26 : decode cX5_district 26 = .ok (.iconst 0, 1) := by decide +kernel
theorem dX5_district_27 : decode cX5_district 27 = .ok (.istore_n 3, 1) := by decide +kernel
theorem dX5_district_28 : decode cX5_district 28 = .ok (.aload_n 0, 1) := by decide +kernel
theorem dX5_district_29 : decode cX5_district 29 = .ok (.iload_n 3, 1) := by decide +kernel
theorem dX5_district_30 : decode cX5_district 30 = .ok (.ifCond .ne 7, 3) := by decide +kernel
theorem dX5_district_33 : decode cX5_district 33 = .ok (.iconst 1, 1) := by decide +kernel
theorem dX5_district_34 : decode cX5_district 34 = .ok (.goto 17, 3) := by decide +kernel
theorem dX5_district_37 : decode cX5_district 37 = .ok (.aload_n 0, 1) := by decide +kernel
theorem dX5_district_38 : decode cX5_district 38 = .ok (.getfield 93, 3) := by decide +kernel
theorem dX5_district_41 : decode cX5_district 41 = .ok (.bipush 8, 2) := by decide +kernel
theorem dX5_district_43 : decode cX5_district 43 = .ok (.if_icmp .ne 7, 3) := by decide +kernel
theorem dX5_district_46 : decode cX5_district 46 = .ok (.iconst 2, 1) := by decide +kernel
theorem dX5_district_47 : decode cX5_district 47 = .ok (.goto 4, 3) := by decide +kernel
theorem dX5_district_50 : decode cX5_district 50 = .ok (.iconst 0, 1) := by decide +kernel
theorem dX5_district_51 : decode cX5_district 51 = .ok (.invokevirtual 103, 3) := by decide +kernel
theorem dX5_district_54 : decode cX5_district 54 = .ok (.ifCond .ne 5, 3) := by decide +kernel
theorem dX5_district_57 : decode cX5_district 57 = .ok (.iconst 0, 1) := by decide +kernel
theorem dX5_district_58 : decode cX5_district 58 = .ok (.ireturn, 1) := by decide +kernel
theorem dX5_district_59 : decode cX5_district 59 = .ok (.aload_n 0, 1) := by decide +kernel
theorem dX5_district_60 : decode cX5_district 60 = .ok (.getfield 7, 3) := by decide +kernel
theorem dX5_district_63 : decode cX5_district 63 = .ok (.aload_n 0, 1) := by decide +kernel
theorem dX5_district_64 : decode cX5_district 64 = .ok (.getfield 93, 3) := by decide +kernel
theorem dX5_district_67 : decode cX5_district 67 = .ok (.iload_n 1, 1) := by decide +kernel
theorem dX5_district_68 : decode cX5_district 68 = .ok (.iastore, 1) := by decide +kernel
theorem dX5_district_69 : decode cX5_district 69 = .ok (.aload_n 0, 1) := by decide +kernel
theorem dX5_district_70 : decode cX5_district 70 = .ok (.getfield 13, 3) := by decide +kernel
theorem dX5_district_73 : decode cX5_district 73 = .ok (.aload_n 0, 1) := by decide +kernel
theorem dX5_district_74 : decode cX5_district 74 = .ok (.getfield 93, 3) := by decide +kernel
theorem dX5_district_77 : decode cX5_district 77 = .ok (.iload_n 2, 1) := by decide +kernel
theorem dX5_district_78 : decode cX5_district 78 = .ok (.iastore, 1) := by decide +kernel
theorem dX5_district_79 : decode cX5_district 79 = .ok (.aload_n 0, 1) := by decide +kernel
theorem dX5_district_80 : decode cX5_district 80 = .ok (.dup, 1) := by decide +kernel
theorem dX5_district_81 : decode cX5_district 81 = .ok (.getfield 93, 3) := by decide +kernel
theorem dX5_district_84 : decode cX5_district 84 = .ok (.iconst 1, 1) := by decide +kernel
theorem dX5_district_85 : decode cX5_district 85 = .ok (.iadd, 1) := by decide +kernel
theorem dX5_district_86 : decode cX5_district 86 = .ok (.putfield 93, 3) := by decide +kernel
theorem dX5_district_89 : decode cX5_district 89 = .ok (.aload_n 0, 1) := by decide +kernel
theorem dX5_district_90 : decode cX5_district 90 = .ok (.getfield 93, 3) := by decide +kernel
theorem dX5_district_93 : decode cX5_district 93 = .ok (.iconst 1, 1) := by decide +kernel
theorem dX5_district_94 : decode cX5_district 94 = .ok (.isub, 1) := by decide +kernel
theorem dX5_district_95 : decode cX5_district 95 = .ok (.ireturn, 1) := by decide +kernel
theorem dX5_pipe_0 : decode cX5_pipe 0 = .ok (.iload_n 1, 1) := by decide +kernel
theorem dX5_pipe_1 : decode cX5_pipe 1 = .ok (.iconst (-1), 1) := by decide +kernel
theorem dX5_pipe_2 : decode cX5_pipe 2 = .ok (.if_icmp .eq 11, 3) := by decide +kernel
theorem dX5_pipe_5 : decode cX5_pipe 5 = .ok (.aload_n 0, 1) := by decide +kernel
theorem dX5_pipe_6 : decode cX5_pipe 6 = .ok (.iload_n 1, 1) := by decide +kernel
theorem dX5_pipe_7 : decode cX5_pipe 7 = .ok (.invokevirtual 107, 3) := by decide +kernel
theorem dX5_pipe_10 : decode cX5_pipe 10 = .ok (.ifCond .eq 15, 3) := by decide +kernel
theorem dX5_pipe_13 : decode cX5_pipe 13 = .ok (.aload_n 0, 1) := by decide +kernel
theorem dX5_pipe_14 : decode cX5_pipe 14 = .ok (.iload_n 2, 1) := by decide +kernel
theorem dX5_pipe_15 : decode cX5_pipe 15 = .ok (.invokevirtual 107, 3) := by decide +kernel
theorem dX5_pipe_18 : decode cX5_pipe 18 = .ok (.ifCond .eq 7, 3) := by decide +kernel
theorem dX5_pipe_21 : decode cX5_pipe 21 = .ok (.iconst 1, 1) := by decide +kernel
theorem dX5_pipe_22 : decode cX5_pipe 22 = .ok (.goto 4, 3) := by decide +kernel
theorem dX5_pipe_25 : decode cX5_pipe 25 = .ok (.iconst 0, 1) := by decide +kernel
theorem dX5_pipe_26 : decode cX5_pipe 26 = .ok (.istore 4, 2) := by decide +kernel
theorem dX5_pipe_28 : decode cX5_pipe 28 = .ok (.iload_n 1, 1) := by decide +kernel
theorem dX5_pipe_29 : decode cX5_pipe 29 = .ok (.iload_n 2, 1) := by decide +kernel
theorem dX5_pipe_30 : decode cX5_pipe 30 = .ok (.if_icmp .eq 18, 3) := by decide +kernel
theorem dX5_pipe_33 : decode cX5_pipe 33 = .ok (.iload_n 3, 1) := by decide +kernel
theorem dX5_pipe_34 : decode cX5_pipe 34 = .ok (.iconst 1, 1) := by decide +kernel
theorem dX5_pipe_35 : decode cX5_pipe 35 = .ok (.sipush 999, 3) := by decide +kernel
theorem dX5_pipe_38 : decode cX5_pipe 38 = .ok (.invokestatic 96, 3) := by decide +kernel
theorem dX5_pipe_41 : decode cX5_pipe 41 = .ok (.ifCond .eq 7, 3) := by decide +kernel
theorem dX5_pipe_44 : decode cX5_pipe 44 = .ok (.iconst 1, 1) := by decide +kernel
theorem dX5_pipe_45 : decode cX5_pipe 45 = .ok (.goto 4, 3) := by decide +kernel
theorem dX5_pipe_48 : decode cX5_pipe 48 = .ok (.iconst 0, 1) := by decide +kernel
theorem dX5_pipe_49 : decode cX5_pipe 49 = .ok (.istore 5, 2) := by decide +kernel
theorem dX5_pipe_51 : decode cX5_pipe 51 = .ok (.aload_n 0, 1) := by decide +kernel
theorem dX5_pipe_52 : decode cX5_pipe 52 = .ok (.iload 4, 2) := by decide +kernel
theorem dX5_pipe_54 : decode cX5_pipe 54 = .ok (.ifCond .ne 7, 3) := by decide +kernel
theorem dX5_pipe_57 : decode cX5_pipe 57 = .ok (.iconst 1, 1) := by decide +kernel
theorem dX5_pipe_58 : decode cX5_pipe 58 = .ok (.goto 34, 3) := by decide +kernel
theorem dX5_pipe_61 : decode cX5_pipe 61 = .ok (.iload 5, 2) := by decide +kernel
theorem dX5_pipe_63 : decode cX5_pipe 63 = .ok (.ifCond .ne 7, 3) := by decide +kernel
theorem dX5_pipe_66 : decode cX5_pipe 66 = .ok (.iconst 2, 1) := by decide +kernel
theorem dX5_pipe_67 : decode cX5_pipe 67 = .ok (.goto 25, 3) := by decide +kernel
theorem dX5_pipe_70 : decode cX5_pipe 70 = .ok (.aload_n 0, 1) := by decide +kernel
theorem dX5_pipe_71 : decode cX5_pipe 71 = .ok (.getfield 100, 3) := by decide +kernel
theorem dX5_pipe_74 : decode cX5_pipe 74 = .ok (.bipush 24, 2) := by decide +kernel
theorem dX5_pipe_76 : decode cX5_pipe 76 = .ok (.if_icmp .eq 11, 3) := by decide +kernel
theorem dX5_pipe_79 : decode cX5_pipe 79 = .ok (.aload_n 0, 1) := by decide +kernel
theorem dX5_pipe_80 : decode cX5_pipe 80 = .ok (.getfield 110, 3) := by decide +kernel
theorem dX5_pipe_83 : decode cX5_pipe 83 = .ok (.iconst (-1), 1) := by decide +kernel
theorem dX5_pipe_84 : decode cX5_pipe 84 = .ok (.if_icmp .ne 7, 3) := by decide +kernel
theorem dX5_pipe_87 : decode cX5_pipe 87 = .ok (.iconst 3, 1) := by decide +kernel
theorem dX5_pipe_88 : decode cX5_pipe 88 = .ok (.goto 4, 3) := by decide +kernel
theorem dX5_pipe_91 : decode cX5_pipe 91 = .ok (.iconst 0, 1) := by decide +kernel
theorem dX5_pipe_92 : decode cX5_pipe 92 = .ok (.invokevirtual 103, 3) := by decide +kernel
theorem dX5_pipe_95 : decode cX5_pipe 95 = .ok (.ifCond .ne 5, 3) := by decide +kernel
theorem dX5_pipe_98 : decode cX5_pipe 98 = .ok (.iconst 0, 1) := by decide +kernel
theorem dX5_pipe_99 : decode cX5_pipe 99 = .ok (.ireturn, 1) := by decide +kernel
theorem dX5_pipe_100 : decode cX5_pipe 100 = .ok (.aload_n 0, 1) := by decide +kernel
theorem dX5_pipe_101 : decode cX5_pipe 101 = .ok (.getfield 65, 3) := by decide +kernel
theorem dX5_pipe_104 : decode cX5_pipe 104 = .ok (.aload_n 0, 1) := by decide +kernel
theorem dX5_pipe_105 : decode cX5_pipe 105 = .ok (.getfield 100, 3) := by decide +kernel
theorem dX5_pipe_108 : decode cX5_pipe 108 = .ok (.iload_n 1, 1) := by decide +kernel
theorem dX5_pipe_109 : decode cX5_pipe 109 = .ok (.iconst (-1), 1) := by decide +kernel
theorem dX5_pipe_110 : decode cX5_pipe 110 = .ok (.if_icmp .ne 8, 3) := by decide +kernel
theorem dX5_pipe_113 : decode cX5_pipe 113 = .ok (.bipush 8, 2) := by decide +kernel
theorem dX5_pipe_115 : decode cX5_pipe 115 = .ok (.goto 4, 3) := by decide +kernel
theorem dX5_pipe_118 : decode cX5_pipe 118 = .ok (.iload_n 1, 1) := by decide +kernel
theorem dX5_pipe_119 : decode cX5_pipe 119 = .ok (.iastore, 1) := by decide +kernel
theorem dX5_pipe_120 : decode cX5_pipe 120 = .ok (.aload_n 0, 1) := by decide +kernel
theorem dX5_pipe_121 : decode cX5_pipe 121 = .ok (.getfield 68, 3) := by decide +kernel
theorem dX5_pipe_124 : decode cX5_pipe 124 = .ok (.aload_n 0, 1) := by decide +kernel
theorem dX5_pipe_125 : decode cX5_pipe 125 = .ok (.getfield 100, 3) := by decide +kernel
theorem dX5_pipe_128 : decode cX5_pipe 128 = .ok (.iload_n 2, 1) := by decide +kernel
theorem dX5_pipe_129 : decode cX5_pipe 129 = .ok (.iastore, 1) := by decide +kernel
theorem dX5_pipe_130 : decode cX5_pipe 130 = .ok (.aload_n 0, 1) := by decide +kernel
theorem dX5_pipe_131 : decode cX5_pipe 131 = .ok (.getfield 71, 3) := by decide +kernel
theorem dX5_pipe_134 : decode cX5_pipe 134 = .ok (.aload_n 0, 1) := by decide +kernel
theorem dX5_pipe_135 : decode cX5_pipe 135 = .ok (.getfield 100, 3) := by decide +kernel
theorem dX5_pipe_138 : decode cX5_pipe 138 = .ok (.iload_n 3, 1) := by decide +kernel
theorem dX5_pipe_139 : decode cX5_pipe 139 = .ok (.iastore, 1) := by decide +kernel
theorem dX5_pipe_140 : decode cX5_pipe 140 = .ok (.aload_n 0, 1) := by decide +kernel
theorem dX5_pipe_141 : decode cX5_pipe 141 = .ok (.dup, 1) := by decide +kernel
theorem dX5_pipe_142 : decode cX5_pipe 142 = .ok (.getfield 100, 3) := by decide +kernel
theorem dX5_pipe_145 : decode cX5_pipe 145 = .ok (.iconst 1, 1) := by decide +kernel
theorem dX5_pipe_146 : decode cX5_pipe 146 = .ok (.iadd, 1) := by decide +kernel
theorem dX5_pipe_147 : decode cX5_pipe 147 = .ok (.putfield 100, 3) := by decide +kernel
theorem dX5_pipe_150 : decode cX5_pipe 150 = .ok (.aload_n 0, 1) := by decide +kernel
theorem dX5_pipe_151 : decode cX5_pipe 151 = .ok (.getfield 100, 3) := by decide +kernel
theorem dX5_pipe_154 : decode cX5_pipe 154 = .ok (.iconst 1, 1) := by decide +kernel
theorem dX5_pipe_155 : decode cX5_pipe 155 = .ok (.isub, 1) := by decide +kernel
theorem dX5_pipe_156 : decode cX5_pipe 156 = .ok (.ireturn, 1) := by decide +kernel
theorem dX5_source_0 : decode cX5_source 0 = .ok (.aload_n 0, 1) := by decide +kernel
theorem dX5_source_1 : decode cX5_source 1 = .ok (.iload_n 1, 1) := by decide +kernel
theorem dX5_source_2 : decode cX5_source 2 = .ok (.iconst 0, 1) := by decide +kernel
theorem dX5_source_3 : decode cX5_source 3 = .ok (.sipush 9999, 3) := by decide +kernel
theorem dX5_source_6 : decode cX5_source 6 = .ok (.invokestatic 96, 3) := by decide +kernel
theorem dX5_source_9 : decode cX5_source 9 = .ok (.ifCond .ne 7, 3) := by decide +kernel
theorem dX5_source_12 : decode cX5_source 12 = .ok (.iconst 1, 1) := by decide +kernel
theorem dX5_source_13 : decode cX5_source 13 = .ok (.goto 16, 3) := by decide +kernel
theorem dX5_source_16 : decode cX5_source 16 = .ok (.aload_n 0, 1) := by decide +kernel
theorem dX5_source_17 : decode cX5_source 17 = .ok (.getfield 110, 3) := by decide +kernel
theorem dX5_source_20 : decode cX5_source 20 = .ok (.iconst (-1), 1) := by decide +kernel
theorem dX5_source_21 : decode cX5_source 21 = .ok (.if_icmp .ne 7, 3) := by decide +kernel
theorem dX5_source_24 : decode cX5_source 24 = .ok (.iconst 2, 1) := by decide +kernel
theorem dX5_source_25 : decode cX5_source 25 = .ok (.goto 4, 3) := by decide +kernel
theorem dX5_source_28 : decode cX5_source 28 = .ok (.iconst 0, 1) := by decide +kernel
theorem dX5_source_29 : decode cX5_source 29 = .ok (.invokevirtual 103, 3) := by decide +kernel
theorem dX5_source_32 : decode cX5_source 32 = .ok (.ifCond .ne 5, 3) := by decide +kernel
theorem dX5_source_35 : decode cX5_source 35 = .ok (.iconst 0, 1) := by decide +kernel
theorem dX5_source_36 : decode cX5_source 36 = .ok (.ireturn, 1) := by decide +kernel
theorem dX5_source_37 : decode cX5_source 37 = .ok (.aload_n 0, 1) := by decide +kernel
theorem dX5_source_38 : decode cX5_source 38 = .ok (.getfield 113, 3) := by decide +kernel
theorem dX5_source_41 : decode cX5_source 41 = .ok (.istore_n 2, 1) := by decide +kernel
theorem dX5_source_42 : decode cX5_source 42 = .ok (.aload_n 0, 1) := by decide +kernel
theorem dX5_source_43 : decode cX5_source 43 = .ok (.iload_n 1, 1) := by decide +kernel
theorem dX5_source_44 : decode cX5_source 44 = .ok (.putfield 113, 3) := by decide +kernel
theorem dX5_source_47 : decode cX5_source 47 = .ok (.iload_n 2, 1) := by decide +kernel
theorem dX5_source_48 : decode cX5_source 48 = .ok (.ireturn, 1) := by decide +kernel
theorem dX5_need_0 : decode cX5_need 0 = .ok (.aload_n 0, 1) := by decide +kernel
theorem dX5_need_1 : decode cX5_need 1 = .ok (.aload_n 0, 1) := by decide +kernel
theorem dX5_need_2 : decode cX5_need 2 = .ok (.iload_n 1, 1) := by decide +kernel
theorem dX5_need_3 : decode cX5_need 3 = .ok (.invokevirtual 107, 3) := by decide +kernel
theorem dX5_need_6 : decode cX5_need 6 = .ok (.ifCond .ne 7, 3) := by decide +kernel
theorem dX5_need_9 : decode cX5_need 9 = .ok (.iconst 1, 1) := by decide +kernel
theorem dX5_need_10 : decode cX5_need 10 = .ok (.goto 19, 3) := by decide +kernel
theorem dX5_need_13 : decode cX5_need 13 = .ok (.iload_n 2, 1) := by decide +kernel
theorem dX5_need_14 : decode cX5_need 14 = .ok (.iconst 0, 1) := by decide +kernel
theorem dX5_need_15 : decode cX5_need 15 = .ok (.sipush 999, 3) := by decide +kernel
theorem dX5_need_18 : decode cX5_need 18 = .ok (.invokestatic 96, 3) := by decide +kernel
theorem dX5_need_21 : decode cX5_need 21 = .ok (.ifCond .eq 7, 3) := by decide +kernel
theorem dX5_need_24 : decode cX5_need 24 = .ok (.iconst 0, 1) := by decide +kernel
theorem dX5_need_25 : decode cX5_need 25 = .ok (.goto 4, 3) := by decide +kernel
theorem dX5_need_28 : decode cX5_need 28 = .ok (.iconst 2, 1) := by decide +kernel
theorem dX5_need_29 : decode cX5_need 29 = .ok (.invokevirtual 103, 3) := by decide +kernel
theorem dX5_need_32 : decode cX5_need 32 = .ok (.ifCond .ne 5, 3) := by decide +kernel
theorem dX5_need_35 : decode cX5_need 35 = .ok (.iconst 0, 1) := by decide +kernel
theorem dX5_need_36 : decode cX5_need 36 = .ok (.ireturn, 1) := by decide +kernel
theorem dX5_need_37 : decode cX5_need 37 = .ok (.aload_n 0, 1) := by decide +kernel
theorem dX5_need_38 : decode cX5_need 38 = .ok (.getfield 13, 3) := by decide +kernel
theorem dX5_need_41 : decode cX5_need 41 = .ok (.iload_n 1, 1) := by decide +kernel
theorem dX5_need_42 : decode cX5_need 42 = .ok (.iaload, 1) := by decide +kernel
theorem dX5_need_43 : decode cX5_need 43 = .ok (.istore_n 3, 1) := by decide +kernel
theorem dX5_need_44 : decode cX5_need 44 = .ok (.aload_n 0, 1) := by decide +kernel
theorem dX5_need_45 : decode cX5_need 45 = .ok (.getfield 13, 3) := by decide +kernel
theorem dX5_need_48 : decode cX5_need 48 = .ok (.iload_n 1, 1) := by decide +kernel
theorem dX5_need_49 : decode cX5_need 49 = .ok (.iload_n 2, 1) := by decide +kernel
theorem dX5_need_50 : decode cX5_need 50 = .ok (.iastore, 1) := by decide +kernel
theorem dX5_need_51 : decode cX5_need 51 = .ok (.iload_n 3, 1) := by decide +kernel
theorem dX5_need_52 : decode cX5_need 52 = .ok (.ireturn, 1) := by decide +kernel
theorem dX5_dries_0 : decode cX5_dries 0 = .ok (.aload_n 0, 1) := by decide +kernel
theorem dX5_dries_1 : decode cX5_dries 1 = .ok (.iconst 0, 1) := by decide +kernel
theorem dX5_dries_2 : decode cX5_dries 2 = .ok (.putfield 116, 3) := by decide +kernel
theorem dX5_dries_5 : decode cX5_dries 5 = .ok (.iconst 0, 1) := by decide +kernel
theorem dX5_dries_6 : decode cX5_dries 6 = .ok (.istore_n 1, 1) := by decide +kernel
theorem dX5_dries_7 : decode cX5_dries 7 = .ok (.iload_n 1, 1) := by decide +kernel
theorem dX5_dries_8 : decode cX5_dries 8 = .ok (.aload_n 0, 1) := by decide +kernel
theorem dX5_dries_9 : decode cX5_dries 9 = .ok (.getfield 100, 3) := by decide +kernel
theorem dX5_dries_12 : decode cX5_dries 12 = .ok (.if_icmp .ge 16, 3) := by decide +kernel
theorem dX5_dries_15 : decode cX5_dries 15 = .ok (.aload_n 0, 1) := by decide +kernel
theorem dX5_dries_16 : decode cX5_dries 16 = .ok (.getfield 77, 3) := by decide +kernel
theorem dX5_dries_19 : decode cX5_dries 19 = .ok (.iload_n 1, 1) := by decide +kernel
theorem dX5_dries_20 : decode cX5_dries 20 = .ok (.iconst 0, 1) := by decide +kernel
theorem dX5_dries_21 : decode cX5_dries 21 = .ok (.iastore, 1) := by decide +kernel
theorem dX5_dries_22 : decode cX5_dries 22 = .ok (.iinc 1 1, 3) := by decide +kernel
theorem dX5_dries_25 : decode cX5_dries 25 = .ok (.goto (-18), 3) := by decide +kernel
theorem dX5_dries_28 : decode cX5_dries 28 = .ok (.return_, 1) := by decide +kernel
theorem dX5_room_0 : decode cX5_room 0 = .ok (.aload_n 0, 1) := by decide +kernel
theorem dX5_room_1 : decode cX5_room 1 = .ok (.getfield 74, 3) := by decide +kernel
theorem dX5_room_4 : decode cX5_room 4 = .ok (.iload_n 1, 1) := by decide +kernel
theorem dX5_room_5 : decode cX5_room 5 = .ok (.baload, 1) := by decide +kernel
theorem dX5_room_6 : decode cX5_room 6 = .ok (.ifCond .eq 7, 3) := by decide +kernel
theorem dX5_room_9 : decode cX5_room 9 = .ok (.iconst 0, 1) := by decide +kernel
theorem dX5_room_10 : decode cX5_room 10 = .ok (.goto 29, 3) := by decide +kernel
theorem dX5_room_13 : decode cX5_room 13 = .ok (.iload_n 2, 1) := by decide +kernel
theorem dX5_room_14 : decode cX5_room 14 = .ok (.ifCond .eq 19, 3) := by decide +kernel
theorem dX5_room_17 : decode cX5_room 17 = .ok (.aload_n 0, 1) := by decide +kernel
theorem dX5_room_18 : decode cX5_room 18 = .ok (.getfield 71, 3) := by decide +kernel
theorem dX5_room_21 : decode cX5_room 21 = .ok (.iload_n 1, 1) := by decide +kernel
theorem dX5_room_22 : decode cX5_room 22 = .ok (.iaload, 1) := by decide +kernel
theorem dX5_room_23 : decode cX5_room 23 = .ok (.aload_n 0, 1) := by decide +kernel
theorem dX5_room_24 : decode cX5_room 24 = .ok (.getfield 77, 3) := by decide +kernel
theorem dX5_room_27 : decode cX5_room 27 = .ok (.iload_n 1, 1) := by decide +kernel
theorem dX5_room_28 : decode cX5_room 28 = .ok (.iaload, 1) := by decide +kernel
theorem dX5_room_29 : decode cX5_room 29 = .ok (.isub, 1) := by decide +kernel
theorem dX5_room_30 : decode cX5_room 30 = .ok (.goto 9, 3) := by decide +kernel
theorem dX5_room_33 : decode cX5_room 33 = .ok (.aload_n 0, 1) := by decide +kernel
theorem dX5_room_34 : decode cX5_room 34 = .ok (.getfield 77, 3) := by decide +kernel
theorem dX5_room_37 : decode cX5_room 37 = .ok (.iload_n 1, 1) := by decide +kernel
theorem dX5_room_38 : decode cX5_room 38 = .ok (.iaload, 1) := by decide +kernel
theorem dX5_room_39 : decode cX5_room 39 = .ok (.ireturn, 1) := by decide +kernel
theorem dX5_finds_0 : decode cX5_finds 0 = .ok (.iconst 0, 1) := by decide +kernel
theorem dX5_finds_1 : decode cX5_finds 1 = .ok (.istore_n 2, 1) := by decide +kernel
theorem dX5_finds_2 : decode cX5_finds 2 = .ok (.iload_n 2, 1) := by decide +kernel
theorem dX5_finds_3 : decode cX5_finds 3 = .ok (.bipush 8, 2) := by decide +kernel
theorem dX5_finds_5 : decode cX5_finds 5 = .ok (.if_icmp .gt 16, 3) := by decide +kernel
theorem dX5_finds_8 : decode cX5_finds 8 = .ok (.aload_n 0, 1) := by decide +kernel
theorem dX5_finds_9 : decode cX5_finds 9 = .ok (.getfield 80, 3) := by decide +kernel
theorem dX5_finds_12 : decode cX5_finds 12 = .ok (.iload_n 2, 1) := by decide +kernel
theorem dX5_finds_13 : decode cX5_finds 13 = .ok (.iconst (-1), 1) := by decide +kernel
theorem dX5_finds_14 : decode cX5_finds 14 = .ok (.iastore, 1) := by decide +kernel
theorem dX5_finds_15 : decode cX5_finds 15 = .ok (.iinc 2 1, 3) := by decide +kernel
theorem dX5_finds_18 : decode cX5_finds 18 = .ok (.goto (-16), 3) := by decide +kernel
theorem dX5_finds_21 : decode cX5_finds 21 = .ok (.aload_n 0, 1) := by decide +kernel
theorem dX5_finds_22 : decode cX5_finds 22 = .ok (.getfield 83, 3) := by decide +kernel
theorem dX5_finds_25 : decode cX5_finds 25 = .ok (.iconst 0, 1) := by decide +kernel
theorem dX5_finds_26 : decode cX5_finds 26 = .ok (.bipush 8, 2) := by decide +kernel
theorem dX5_finds_28 : decode cX5_finds 28 = .ok (.iastore, 1) := by decide +kernel
theorem dX5_finds_29 : decode cX5_finds 29 = .ok (.iconst 1, 1) := by decide +kernel
theorem dX5_finds_30 : decode cX5_finds 30 = .ok (.istore_n 2, 1) := by decide +kernel
theorem dX5_finds_31 : decode cX5_finds 31 = .ok (.iconst 0, 1) := by decide +kernel
theorem dX5_finds_32 : decode cX5_finds 32 = .ok (.istore_n 3, 1) := by decide +kernel
theorem dX5_finds_33 : decode cX5_finds 33 = .ok (.iload_n 3, 1) := by decide +kernel
theorem dX5_finds_34 : decode cX5_finds 34 = .ok (.iload_n 2, 1) := by decide +kernel
theorem dX5_finds_35 : decode cX5_finds 35 = .ok (.if_icmp .ge 179, 3) := by decide +kernel
theorem dX5_finds_38 : decode cX5_finds 38 = .ok (.aload_n 0, 1) := by decide +kernel
theorem dX5_finds_39 : decode cX5_finds 39 = .ok (.getfield 80, 3) := by decide +kernel
theorem dX5_finds_42 : decode cX5_finds 42 = .ok (.iload_n 1, 1) := by decide +kernel
theorem dX5_finds_43 : decode cX5_finds 43 = .ok (.iaload, 1) := by decide +kernel
theorem dX5_finds_44 : decode cX5_finds 44 = .ok (.iconst (-1), 1) := by decide +kernel
theorem dX5_finds_45 : decode cX5_finds 45 = .ok (.if_icmp .ne 169, 3) := by decide +kernel
theorem dX5_finds_48 : decode cX5_finds 48 = .ok (.aload_n 0, 1) := by decide +kernel
theorem dX5_finds_49 : decode cX5_finds 49 = .ok (.getfield 83, 3) := by decide +kernel
theorem dX5_finds_52 : decode cX5_finds 52 = .ok (.iload_n 3, 1) := by decide +kernel
theorem dX5_finds_53 : decode cX5_finds 53 = .ok (.iaload, 1) := by decide +kernel
theorem dX5_finds_54 : decode cX5_finds 54 = .ok (.istore 4, 2) := by decide +kernel
theorem dX5_finds_56 : decode cX5_finds 56 = .ok (.iconst 0, 1) := by decide +kernel
theorem dX5_finds_57 : decode cX5_finds 57 = .ok (.istore 5, 2) := by decide +kernel
theorem dX5_finds_59 : decode cX5_finds 59 = .ok (.iload 5, 2) := by decide +kernel
theorem dX5_finds_61 : decode cX5_finds 61 = .ok (.aload_n 0, 1) := by decide +kernel
theorem dX5_finds_62 : decode cX5_finds 62 = .ok (.getfield 100, 3) := by decide +kernel
theorem dX5_finds_65 : decode cX5_finds 65 = .ok (.if_icmp .ge 143, 3) := by decide +kernel
theorem dX5_finds_68 : decode cX5_finds 68 = .ok (.aload_n 0, 1) := by decide +kernel
theorem dX5_finds_69 : decode cX5_finds 69 = .ok (.getfield 65, 3) := by decide +kernel
theorem dX5_finds_72 : decode cX5_finds 72 = .ok (.iload 5, 2) := by decide +kernel
theorem dX5_finds_74 : decode cX5_finds 74 = .ok (.iaload, 1) := by decide +kernel
theorem dX5_finds_75 : decode cX5_finds 75 = .ok (.iload 4, 2) := by decide +kernel
theorem dX5_finds_77 : decode cX5_finds 77 = .ok (.if_icmp .ne 7, 3) := by decide +kernel
theorem dX5_finds_80 : decode cX5_finds 80 = .ok (.iconst 1, 1) := by decide +kernel
theorem dX5_finds_81 : decode cX5_finds 81 = .ok (.goto 4, 3) := by decide +kernel
theorem dX5_finds_84 : decode cX5_finds 84 = .ok (.iconst 0, 1) := by decide +kernel
theorem dX5_finds_85 : decode cX5_finds 85 = .ok (.istore 6, 2) := by decide +kernel
theorem dX5_finds_87 : decode cX5_finds 87 = .ok (.iload 6, 2) := by decide +kernel
theorem dX5_finds_89 : decode cX5_finds 89 = .ok (.ifCond .eq 13, 3) := by decide +kernel
theorem dX5_finds_92 : decode cX5_finds 92 = .ok (.aload_n 0, 1) := by decide +kernel
theorem dX5_finds_93 : decode cX5_finds 93 = .ok (.getfield 68, 3) := by decide +kernel
theorem dX5_finds_96 : decode cX5_finds 96 = .ok (.iload 5, 2) := by decide +kernel
theorem dX5_finds_98 : decode cX5_finds 98 = .ok (.iaload, 1) := by decide +kernel
theorem dX5_finds_99 : decode cX5_finds 99 = .ok (.goto 10, 3) := by decide +kernel
theorem dX5_finds_102 : decode cX5_finds 102 = .ok (.aload_n 0, 1) := by decide +kernel
theorem dX5_finds_103 : decode cX5_finds 103 = .ok (.getfield 65, 3) := by decide +kernel
theorem dX5_finds_106 : decode cX5_finds 106 = .ok (.iload 5, 2) := by decide +kernel
theorem dX5_finds_108 : decode cX5_finds 108 = .ok (.iaload, 1) := by decide +kernel
theorem dX5_finds_109 : decode cX5_finds 109 = .ok (.istore 7, 2) := by decide +kernel
theorem dX5_finds_111 : decode cX5_finds 111 = .ok (.iload 6, 2) := by decide +kernel
theorem dX5_finds_113 : decode cX5_finds 113 = .ok (.ifCond .ne 15, 3) := by decide +kernel
theorem dX5_finds_116 : decode cX5_finds 116 = .ok (.aload_n 0, 1) := by decide +kernel
theorem dX5_finds_117 : decode cX5_finds 117 = .ok (.getfield 68, 3) := by decide +kernel
theorem dX5_finds_120 : decode cX5_finds 120 = .ok (.iload 5, 2) := by decide +kernel
theorem dX5_finds_122 : decode cX5_finds 122 = .ok (.iaload, 1) := by decide +kernel
theorem dX5_finds_123 : decode cX5_finds 123 = .ok (.iload 4, 2) := by decide +kernel
theorem dX5_finds_125 : decode cX5_finds 125 = .ok (.if_icmp .ne 36, 3) := by decide +kernel
theorem dX5_finds_128 : decode cX5_finds 128 = .ok (.iload 7, 2) := by decide +kernel
theorem dX5_finds_130 : decode cX5_finds 130 = .ok (.bipush 8, 2) := by decide +kernel
theorem dX5_finds_132 : decode cX5_finds 132 = .ok (.if_icmp .eq 29, 3) := by decide +kernel
theorem dX5_finds_135 : decode cX5_finds 135 = .ok (.aload_n 0, 1) := by decide +kernel
theorem dX5_finds_136 : decode cX5_finds 136 = .ok (.getfield 80, 3) := by decide +kernel
theorem dX5_finds_139 : decode cX5_finds 139 = .ok (.iload 7, 2) := by decide +kernel
theorem dX5_finds_141 : decode cX5_finds 141 = .ok (.iaload, 1) := by decide +kernel
theorem dX5_finds_142 : decode cX5_finds 142 = .ok (.iconst (-1), 1) := by decide +kernel
theorem dX5_finds_143 : decode cX5_finds 143 = .ok (.if_icmp .ne 18, 3) := by decide +kernel
theorem dX5_finds_146 : decode cX5_finds 146 = .ok (.aload_n 0, 1) := by decide +kernel
theorem dX5_finds_147 : decode cX5_finds 147 = .ok (.iload 5, 2) := by decide +kernel
theorem dX5_finds_149 : decode cX5_finds 149 = .ok (.iload 6, 2) := by decide +kernel
theorem dX5_finds_151 : decode cX5_finds 151 = .ok (.invokevirtual 119, 3) := by decide +kernel
theorem dX5_finds_154 : decode cX5_finds 154 = .ok (.ifCond .le 7, 3) := by decide +kernel
theorem dX5_finds_157 : decode cX5_finds 157 = .ok (.iconst 1, 1) := by decide +kernel
theorem dX5_finds_158 : decode cX5_finds 158 = .ok (.goto 4, 3) := by decide +kernel
theorem dX5_finds_161 : decode cX5_finds 161 = .ok (.iconst 0, 1) := by decide +kernel
theorem dX5_finds_162 : decode cX5_finds 162 = .ok (.istore 8, 2) := by decide +kernel
theorem dX5_finds_164 : decode cX5_finds 164 = .ok (.iload 8, 2) := by decide +kernel
theorem dX5_finds_166 : decode cX5_finds 166 = .ok (.ifCond .eq 36, 3) := by decide +kernel
theorem dX5_finds_169 : decode cX5_finds 169 = .ok (.aload_n 0, 1) := by decide +kernel
theorem dX5_finds_170 : decode cX5_finds 170 = .ok (.getfield 80, 3) := by decide +kernel
theorem dX5_finds_173 : decode cX5_finds 173 = .ok (.iload 7, 2) := by decide +kernel
theorem dX5_finds_175 : decode cX5_finds 175 = .ok (.iload 6, 2) := by decide +kernel
theorem dX5_finds_177 : decode cX5_finds 177 = .ok (.ifCond .eq 8, 3) := by decide +kernel
theorem dX5_finds_180 : decode cX5_finds 180 = .ok (.iload 5, 2) := by decide +kernel
theorem dX5_finds_182 : decode cX5_finds 182 = .ok (.goto 8, 3) := by decide +kernel
theorem dX5_finds_185 : decode cX5_finds 185 = .ok (.iload 5, 2) := by decide +kernel
theorem dX5_finds_187 : decode cX5_finds 187 = .ok (.bipush 24, 2) := by decide +kernel
theorem dX5_finds_189 : decode cX5_finds 189 = .ok (.iadd, 1) := by decide +kernel
theorem dX5_finds_190 : decode cX5_finds 190 = .ok (.iastore, 1) := by decide +kernel
theorem dX5_finds_191 : decode cX5_finds 191 = .ok (.aload_n 0, 1) := by decide +kernel
theorem dX5_finds_192 : decode cX5_finds 192 = .ok (.getfield 83, 3) := by decide +kernel
theorem dX5_finds_195 : decode cX5_finds 195 = .ok (.iload_n 2, 1) := by decide +kernel
theorem dX5_finds_196 : decode cX5_finds 196 = .ok (.iload 7, 2) := by decide +kernel
theorem dX5_finds_198 : decode cX5_finds 198 = .ok (.iastore, 1) := by decide +kernel
theorem dX5_finds_199 : decode cX5_finds 199 = .ok (.iinc 2 1, 3) := by decide +kernel
theorem dX5_finds_202 : decode cX5_finds 202 = .ok (.iinc 5 1, 3) := by decide +kernel
theorem dX5_finds_205 : decode cX5_finds 205 = .ok (.goto (-146), 3) := by decide +kernel
theorem dX5_finds_208 : decode cX5_finds 208 = .ok (.iinc 3 1, 3) := by decide +kernel
theorem dX5_finds_211 : decode cX5_finds 211 = .ok (.goto (-178), 3) := by decide +kernel
theorem dX5_finds_214 : decode cX5_finds 214 = .ok (.aload_n 0, 1) := by decide +kernel
theorem dX5_finds_215 : decode cX5_finds 215 = .ok (.getfield 80, 3) := by decide +kernel
theorem dX5_finds_218 : decode cX5_finds 218 = .ok (.iload_n 1, 1) := by decide +kernel
theorem dX5_finds_219 : decode cX5_finds 219 = .ok (.iaload, 1) := by decide +kernel
theorem dX5_finds_220 : decode cX5_finds 220 = .ok (.iconst (-1), 1) := by decide +kernel
theorem dX5_finds_221 : decode cX5_finds 221 = .ok (.if_icmp .eq 7, 3) := by decide +kernel
theorem dX5_finds_224 : decode cX5_finds 224 = .ok (.iconst 1, 1) := by decide +kernel
theorem dX5_finds_225 : decode cX5_finds 225 = .ok (.goto 4, 3) := by decide +kernel
theorem dX5_finds_228 : decode cX5_finds 228 = .ok (.iconst 0, 1) := by decide +kernel
theorem dX5_finds_229 : decode cX5_finds 229 = .ok (.ireturn, 1) := by decide +kernel
theorem dX5_flows_0 : decode cX5_flows 0 = .ok (.iconst 0, 1) := by decide +kernel
theorem dX5_flows_1 : decode cX5_flows 1 = .ok (.istore_n 3, 1) := by decide +kernel
theorem dX5_flows_2 : decode cX5_flows 2 = .ok (.iload_n 3, 1) := by decide +kernel
theorem dX5_flows_3 : decode cX5_flows 3 = .ok (.iload_n 2, 1) := by decide +kernel
theorem dX5_flows_4 : decode cX5_flows 4 = .ok (.if_icmp .ge 176, 3) := by decide +kernel
theorem dX5_flows_7 : decode cX5_flows 7 = .ok (.aload_n 0, 1) := by decide +kernel
theorem dX5_flows_8 : decode cX5_flows 8 = .ok (.getfield 116, 3) := by decide +kernel
theorem dX5_flows_11 : decode cX5_flows 11 = .ok (.aload_n 0, 1) := by decide +kernel
theorem dX5_flows_12 : decode cX5_flows 12 = .ok (.getfield 113, 3) := by decide +kernel
theorem dX5_flows_15 : decode cX5_flows 15 = .ok (.if_icmp .ge 165, 3) := by decide +kernel
theorem dX5_flows_18 : decode cX5_flows 18 = .ok (.aload_n 0, 1) := by decide +kernel
theorem dX5_flows_19 : decode cX5_flows 19 = .ok (.iload_n 1, 1) := by decide +kernel
theorem dX5_flows_20 : decode cX5_flows 20 = .ok (.invokevirtual 123, 3) := by decide +kernel
theorem dX5_flows_23 : decode cX5_flows 23 = .ok (.ifCond .eq 157, 3) := by decide +kernel
theorem dX5_flows_26 : decode cX5_flows 26 = .ok (.iload_n 2, 1) := by decide +kernel
theorem dX5_flows_27 : decode cX5_flows 27 = .ok (.iload_n 3, 1) := by decide +kernel
theorem dX5_flows_28 : decode cX5_flows 28 = .ok (.isub, 1) := by decide +kernel
theorem dX5_flows_29 : decode cX5_flows 29 = .ok (.aload_n 0, 1) := by decide +kernel
theorem dX5_flows_30 : decode cX5_flows 30 = .ok (.getfield 113, 3) := by decide +kernel
theorem dX5_flows_33 : decode cX5_flows 33 = .ok (.aload_n 0, 1) := by decide +kernel
theorem dX5_flows_34 : decode cX5_flows 34 = .ok (.getfield 116, 3) := by decide +kernel
theorem dX5_flows_37 : decode cX5_flows 37 = .ok (.isub, 1) := by decide +kernel
theorem dX5_flows_38 : decode cX5_flows 38 = .ok (.invokestatic 126, 3) := by decide +kernel
theorem dX5_flows_41 : decode cX5_flows 41 = .ok (.istore 4, 2) := by decide +kernel
theorem dX5_flows_43 : decode cX5_flows 43 = .ok (.iload_n 1, 1) := by decide +kernel
theorem dX5_flows_44 : decode cX5_flows 44 = .ok (.istore 5, 2) := by decide +kernel
theorem dX5_flows_46 : decode cX5_flows 46 = .ok (.iload 5, 2) := by decide +kernel
theorem dX5_flows_48 : decode cX5_flows 48 = .ok (.bipush 8, 2) := by decide +kernel
theorem dX5_flows_50 : decode cX5_flows 50 = .ok (.if_icmp .eq 52, 3) := by decide +kernel
theorem dX5_flows_53 : decode cX5_flows 53 = .ok (.iload 4, 2) := by decide +kernel
theorem dX5_flows_55 : decode cX5_flows 55 = .ok (.aload_n 0, 1) := by decide +kernel
theorem dX5_flows_56 : decode cX5_flows 56 = .ok (.aload_n 0, 1) := by decide +kernel
theorem dX5_flows_57 : decode cX5_flows 57 = .ok (.getfield 80, 3) := by decide +kernel
theorem dX5_flows_60 : decode cX5_flows 60 = .ok (.iload 5, 2) := by decide +kernel
theorem dX5_flows_62 : decode cX5_flows 62 = .ok (.iaload, 1) := by decide +kernel
theorem dX5_flows_63 : decode cX5_flows 63 = .ok (.bipush 24, 2) := by decide +kernel
theorem dX5_flows_65 : decode cX5_flows 65 = .ok (.irem, 1) := by decide +kernel
theorem dX5_flows_66 : decode cX5_flows 66 = .ok (.aload_n 0, 1) := by decide +kernel
theorem dX5_flows_67 : decode cX5_flows 67 = .ok (.getfield 80, 3) := by decide +kernel
theorem dX5_flows_70 : decode cX5_flows 70 = .ok (.iload 5, 2) := by decide +kernel
theorem dX5_flows_72 : decode cX5_flows 72 = .ok (.iaload, 1) := by decide +kernel
theorem dX5_flows_73 : decode cX5_flows 73 = .ok (.bipush 24, 2) := by decide +kernel
theorem dX5_flows_75 : decode cX5_flows 75 = .ok (.if_icmp .ge 7, 3) := by decide +kernel
theorem dX5_flows_78 : decode cX5_flows 78 = .ok (.iconst 1, 1) := by decide +kernel
theorem dX5_flows_79 : decode cX5_flows 79 = .ok (.goto 4, 3) := by decide +kernel
theorem dX5_flows_82 : decode cX5_flows 82 = .ok (.iconst 0, 1) := by decide +kernel
theorem dX5_flows_83 : decode cX5_flows 83 = .ok (.invokevirtual 119, 3) := by decide +kernel
theorem dX5_flows_86 : decode cX5_flows 86 = .ok (.invokestatic 126, 3) := by decide +kernel
theorem dX5_flows_89 : decode cX5_flows 89 = .ok (.istore 4, 2) := by decide +kernel
theorem dX5_flows_91 : decode cX5_flows 91 = .ok (.aload_n 0, 1) := by decide +kernel
theorem dX5_flows_92 : decode cX5_flows 92 = .ok (.iload 5, 2) := by decide +kernel
theorem dX5_flows_94 : decode cX5_flows 94 = .ok (.invokevirtual 130, 3) := by decide +kernel
theorem dX5_flows_97 : decode cX5_flows 97 = .ok (.istore 5, 2) := by decide +kernel
theorem dX5_flows_99 : decode cX5_flows 99 = .ok (.goto (-53), 3) := by decide +kernel
theorem dX5_flows_102 : decode cX5_flows 102 = .ok (.iload_n 1, 1) := by decide +kernel
theorem dX5_flows_103 : decode cX5_flows 103 = .ok (.istore 5, 2) := by decide +kernel
theorem dX5_flows_105 : decode cX5_flows 105 = .ok (.iload 5, 2) := by decide +kernel
theorem dX5_flows_107 : decode cX5_flows 107 = .ok (.bipush 8, 2) := by decide +kernel
theorem dX5_flows_109 : decode cX5_flows 109 = .ok (.if_icmp .eq 52, 3) := by decide +kernel
theorem dX5_flows_112 : decode cX5_flows 112 = .ok (.aload_n 0, 1) := by decide +kernel
theorem dX5_flows_113 : decode cX5_flows 113 = .ok (.getfield 77, 3) := by decide +kernel
theorem dX5_flows_116 : decode cX5_flows 116 = .ok (.aload_n 0, 1) := by decide +kernel
theorem dX5_flows_117 : decode cX5_flows 117 = .ok (.getfield 80, 3) := by decide +kernel
theorem dX5_flows_120 : decode cX5_flows 120 = .ok (.iload 5, 2) := by decide +kernel
theorem dX5_flows_122 : decode cX5_flows 122 = .ok (.iaload, 1) := by decide +kernel
theorem dX5_flows_123 : decode cX5_flows 123 = .ok (.bipush 24, 2) := by decide +kernel
theorem dX5_flows_125 : decode cX5_flows 125 = .ok (.irem, 1) := by decide +kernel
theorem dX5_flows_126 : decode cX5_flows 126 = .ok (.dup2, 1) := by decide +kernel
theorem dX5_flows_127 : decode cX5_flows 127 = .ok (.iaload, 1) := by decide +kernel
theorem dX5_flows_128 : decode cX5_flows 128 = .ok (.aload_n 0, 1) := by decide +kernel
theorem dX5_flows_129 : decode cX5_flows 129 = .ok (.getfield 80, 3) := by decide +kernel
theorem dX5_flows_132 : decode cX5_flows 132 = .ok (.iload 5, 2) := by decide +kernel
theorem dX5_flows_134 : decode cX5_flows 134 = .ok (.iaload, 1) := by decide +kernel
theorem dX5_flows_135 : decode cX5_flows 135 = .ok (.bipush 24, 2) := by decide +kernel
theorem dX5_flows_137 : decode cX5_flows 137 = .ok (.if_icmp .ge 8, 3) := by decide +kernel
theorem dX5_flows_140 : decode cX5_flows 140 = .ok (.iload 4, 2) := by decide +kernel
theorem dX5_flows_142 : decode cX5_flows 142 = .ok (.goto 6, 3) := by decide +kernel
theorem dX5_flows_145 : decode cX5_flows 145 = .ok (.iload 4, 2) := by decide +kernel
theorem dX5_flows_147 : decode cX5_flows 147 = .ok (.ineg, 1) := by decide +kernel
theorem dX5_flows_148 : decode cX5_flows 148 = .ok (.iadd, 1) := by decide +kernel
theorem dX5_flows_149 : decode cX5_flows 149 = .ok (.iastore, 1) := by decide +kernel
theorem dX5_flows_150 : decode cX5_flows 150 = .ok (.aload_n 0, 1) := by decide +kernel
theorem dX5_flows_151 : decode cX5_flows 151 = .ok (.iload 5, 2) := by decide +kernel
theorem dX5_flows_153 : decode cX5_flows 153 = .ok (.invokevirtual 130, 3) := by decide +kernel
theorem dX5_flows_156 : decode cX5_flows 156 = .ok (.istore 5, 2) := by decide +kernel
theorem dX5_flows_158 : decode cX5_flows 158 = .ok (.goto (-53), 3) := by decide +kernel
theorem dX5_flows_161 : decode cX5_flows 161 = .ok (.aload_n 0, 1) := by decide +kernel
theorem dX5_flows_162 : decode cX5_flows 162 = .ok (.dup, 1) := by decide +kernel
theorem dX5_flows_163 : decode cX5_flows 163 = .ok (.getfield 116, 3) := by decide +kernel
theorem dX5_flows_166 : decode cX5_flows 166 = .ok (.iload 4, 2) := by decide +kernel
theorem dX5_flows_168 : decode cX5_flows 168 = .ok (.iadd, 1) := by decide +kernel
theorem dX5_flows_169 : decode cX5_flows 169 = .ok (.putfield 116, 3) := by decide +kernel
theorem dX5_flows_172 : decode cX5_flows 172 = .ok (.iload_n 3, 1) := by decide +kernel
theorem dX5_flows_173 : decode cX5_flows 173 = .ok (.iload 4, 2) := by decide +kernel
theorem dX5_flows_175 : decode cX5_flows 175 = .ok (.iadd, 1) := by decide +kernel
theorem dX5_flows_176 : decode cX5_flows 176 = .ok (.istore_n 3, 1) := by decide +kernel
theorem dX5_flows_177 : decode cX5_flows 177 = .ok (.goto (-175), 3) := by decide +kernel
theorem dX5_flows_180 : decode cX5_flows 180 = .ok (.iload_n 3, 1) := by decide +kernel
theorem dX5_flows_181 : decode cX5_flows 181 = .ok (.ireturn, 1) := by decide +kernel
theorem dX5_before_0 : decode cX5_before 0 = .ok (.aload_n 0, 1) := by decide +kernel
theorem dX5_before_1 : decode cX5_before 1 = .ok (.getfield 80, 3) := by decide +kernel
theorem dX5_before_4 : decode cX5_before 4 = .ok (.iload_n 1, 1) := by decide +kernel
theorem dX5_before_5 : decode cX5_before 5 = .ok (.iaload, 1) := by decide +kernel
theorem dX5_before_6 : decode cX5_before 6 = .ok (.bipush 24, 2) := by decide +kernel
theorem dX5_before_8 : decode cX5_before 8 = .ok (.if_icmp .ge 17, 3) := by decide +kernel
theorem dX5_before_11 : decode cX5_before 11 = .ok (.aload_n 0, 1) := by decide +kernel
theorem dX5_before_12 : decode cX5_before 12 = .ok (.getfield 65, 3) := by decide +kernel
theorem dX5_before_15 : decode cX5_before 15 = .ok (.aload_n 0, 1) := by decide +kernel
theorem dX5_before_16 : decode cX5_before 16 = .ok (.getfield 80, 3) := by decide +kernel
theorem dX5_before_19 : decode cX5_before 19 = .ok (.iload_n 1, 1) := by decide +kernel
theorem dX5_before_20 : decode cX5_before 20 = .ok (.iaload, 1) := by decide +kernel
theorem dX5_before_21 : decode cX5_before 21 = .ok (.iaload, 1) := by decide +kernel
theorem dX5_before_22 : decode cX5_before 22 = .ok (.goto 17, 3) := by decide +kernel
theorem dX5_before_25 : decode cX5_before 25 = .ok (.aload_n 0, 1) := by decide +kernel
theorem dX5_before_26 : decode cX5_before 26 = .ok (.getfield 68, 3) := by decide +kernel
theorem dX5_before_29 : decode cX5_before 29 = .ok (.aload_n 0, 1) := by decide +kernel
theorem dX5_before_30 : decode cX5_before 30 = .ok (.getfield 80, 3) := by decide +kernel
theorem dX5_before_33 : decode cX5_before 33 = .ok (.iload_n 1, 1) := by decide +kernel
theorem dX5_before_34 : decode cX5_before 34 = .ok (.iaload, 1) := by decide +kernel
theorem dX5_before_35 : decode cX5_before 35 = .ok (.bipush 24, 2) := by decide +kernel
theorem dX5_before_37 : decode cX5_before 37 = .ok (.isub, 1) := by decide +kernel
theorem dX5_before_38 : decode cX5_before 38 = .ok (.iaload, 1) := by decide +kernel
theorem dX5_before_39 : decode cX5_before 39 = .ok (.ireturn, 1) := by decide +kernel
theorem dX5_isAhead_0 : decode cX5_isAhead 0 = .ok (.aload_n 0, 1) := by decide +kernel
theorem dX5_isAhead_1 : decode cX5_isAhead 1 = .ok (.getfield 19, 3) := by decide +kernel
theorem dX5_isAhead_4 : decode cX5_isAhead 4 = .ok (.iload_n 1, 1) := by decide +kernel
theorem dX5_isAhead_5 : decode cX5_isAhead 5 = .ok (.iaload, 1) := by decide +kernel
theorem dX5_isAhead_6 : decode cX5_isAhead 6 = .ok (.aload_n 0, 1) := by decide +kernel
theorem dX5_isAhead_7 : decode cX5_isAhead 7 = .ok (.getfield 19, 3) := by decide +kernel
theorem dX5_isAhead_10 : decode cX5_isAhead 10 = .ok (.iload_n 2, 1) := by decide +kernel
theorem dX5_isAhead_11 : decode cX5_isAhead 11 = .ok (.iaload, 1) := by decide +kernel
theorem dX5_isAhead_12 : decode cX5_isAhead 12 = .ok (.if_icmp .gt 33, 3) := by decide +kernel
theorem dX5_isAhead_15 : decode cX5_isAhead 15 = .ok (.aload_n 0, 1) := by decide +kernel
theorem dX5_isAhead_16 : decode cX5_isAhead 16 = .ok (.getfield 19, 3) := by decide +kernel
theorem dX5_isAhead_19 : decode cX5_isAhead 19 = .ok (.iload_n 1, 1) := by decide +kernel
theorem dX5_isAhead_20 : decode cX5_isAhead 20 = .ok (.iaload, 1) := by decide +kernel
theorem dX5_isAhead_21 : decode cX5_isAhead 21 = .ok (.aload_n 0, 1) := by decide +kernel
theorem dX5_isAhead_22 : decode cX5_isAhead 22 = .ok (.getfield 19, 3) := by decide +kernel
theorem dX5_isAhead_25 : decode cX5_isAhead 25 = .ok (.iload_n 2, 1) := by decide +kernel
theorem dX5_isAhead_26 : decode cX5_isAhead 26 = .ok (.iaload, 1) := by decide +kernel
theorem dX5_isAhead_27 : decode cX5_isAhead 27 = .ok (.if_icmp .ne 22, 3) := by decide +kernel
theorem dX5_isAhead_30 : decode cX5_isAhead 30 = .ok (.aload_n 0, 1) := by decide +kernel
theorem dX5_isAhead_31 : decode cX5_isAhead 31 = .ok (.getfield 25, 3) := by decide +kernel
theorem dX5_isAhead_34 : decode cX5_isAhead 34 = .ok (.iload_n 1, 1) := by decide +kernel
theorem dX5_isAhead_35 : decode cX5_isAhead 35 = .ok (.iaload, 1) := by decide +kernel
theorem dX5_isAhead_36 : decode cX5_isAhead 36 = .ok (.aload_n 0, 1) := by decide +kernel
theorem dX5_isAhead_37 : decode cX5_isAhead 37 = .ok (.getfield 25, 3) := by decide +kernel
theorem dX5_isAhead_40 : decode cX5_isAhead 40 = .ok (.iload_n 2, 1) := by decide +kernel
theorem dX5_isAhead_41 : decode cX5_isAhead 41 = .ok (.iaload, 1) := by decide +kernel
theorem dX5_isAhead_42 : decode cX5_isAhead 42 = .ok (.if_icmp .ge 7, 3) := by decide +kernel
theorem dX5_isAhead_45 : decode cX5_isAhead 45 = .ok (.iconst 1, 1) := by decide +kernel
theorem dX5_isAhead_46 : decode cX5_isAhead 46 = .ok (.goto 4, 3) := by decide +kernel
theorem dX5_isAhead_49 : decode cX5_isAhead 49 = .ok (.iconst 0, 1) := by decide +kernel
theorem dX5_isAhead_50 : decode cX5_isAhead 50 = .ok (.ireturn, 1) := by decide +kernel
theorem dX5_placeOf_0 : decode cX5_placeOf 0 = .ok (.iconst 0, 1) := by decide +kernel
theorem dX5_placeOf_1 : decode cX5_placeOf 1 = .ok (.istore_n 2, 1) := by decide +kernel
theorem dX5_placeOf_2 : decode cX5_placeOf 2 = .ok (.iconst 0, 1) := by decide +kernel
theorem dX5_placeOf_3 : decode cX5_placeOf 3 = .ok (.istore_n 3, 1) := by decide +kernel
theorem dX5_placeOf_4 : decode cX5_placeOf 4 = .ok (.iload_n 3, 1) := by decide +kernel
theorem dX5_placeOf_5 : decode cX5_placeOf 5 = .ok (.aload_n 0, 1) := by decide +kernel
theorem dX5_placeOf_6 : decode cX5_placeOf 6 = .ok (.getfield 93, 3) := by decide +kernel
theorem dX5_placeOf_9 : decode cX5_placeOf 9 = .ok (.if_icmp .ge 35, 3) := by decide +kernel
theorem dX5_placeOf_12 : decode cX5_placeOf 12 = .ok (.iload_n 2, 1) := by decide +kernel
theorem dX5_placeOf_13 : decode cX5_placeOf 13 = .ok (.aload_n 0, 1) := by decide +kernel
theorem dX5_placeOf_14 : decode cX5_placeOf 14 = .ok (.getfield 28, 3) := by decide +kernel
theorem dX5_placeOf_17 : decode cX5_placeOf 17 = .ok (.iload_n 3, 1) := by decide +kernel
theorem dX5_placeOf_18 : decode cX5_placeOf 18 = .ok (.baload, 1) := by decide +kernel
theorem dX5_placeOf_19 : decode cX5_placeOf 19 = .ok (.ifCond .eq 16, 3) := by decide +kernel
theorem dX5_placeOf_22 : decode cX5_placeOf 22 = .ok (.aload_n 0, 1) := by decide +kernel
theorem dX5_placeOf_23 : decode cX5_placeOf 23 = .ok (.iload_n 3, 1) := by decide +kernel
theorem dX5_placeOf_24 : decode cX5_placeOf 24 = .ok (.iload_n 1, 1) := by decide +kernel
theorem dX5_placeOf_25 : decode cX5_placeOf 25 = .ok (.invokevirtual 134, 3) := by decide +kernel
theorem dX5_placeOf_28 : decode cX5_placeOf 28 = .ok (.ifCond .eq 7, 3) := by decide +kernel
theorem dX5_placeOf_31 : decode cX5_placeOf 31 = .ok (.iconst 1, 1) := by decide +kernel
theorem dX5_placeOf_32 : decode cX5_placeOf 32 = .ok (.goto 4, 3) := by decide +kernel
theorem dX5_placeOf_35 : decode cX5_placeOf 35 = .ok (.iconst 0, 1) := by decide +kernel
theorem dX5_placeOf_36 : decode cX5_placeOf 36 = .ok (.iadd, 1) := by decide +kernel
theorem dX5_placeOf_37 : decode cX5_placeOf 37 = .ok (.istore_n 2, 1) := by decide +kernel
theorem dX5_placeOf_38 : decode cX5_placeOf 38 = .ok (.iinc 3 1, 3) := by decide +kernel
theorem dX5_placeOf_41 : decode cX5_placeOf 41 = .ok (.goto (-37), 3) := by decide +kernel
theorem dX5_placeOf_44 : decode cX5_placeOf 44 = .ok (.iload_n 2, 1) := by decide +kernel
theorem dX5_placeOf_45 : decode cX5_placeOf 45 = .ok (.ireturn, 1) := by decide +kernel
theorem dX5_at_0 : decode cX5_at 0 = .ok (.iconst (-1), 1) := by decide +kernel
theorem dX5_at_1 : decode cX5_at 1 = .ok (.istore_n 2, 1) := by decide +kernel
theorem dX5_at_2 : decode cX5_at 2 = .ok (.iconst 0, 1) := by decide +kernel
theorem dX5_at_3 : decode cX5_at 3 = .ok (.istore_n 3, 1) := by decide +kernel
theorem dX5_at_4 : decode cX5_at 4 = .ok (.iload_n 3, 1) := by decide +kernel
theorem dX5_at_5 : decode cX5_at 5 = .ok (.aload_n 0, 1) := by decide +kernel
theorem dX5_at_6 : decode cX5_at 6 = .ok (.getfield 93, 3) := by decide +kernel
theorem dX5_at_9 : decode cX5_at 9 = .ok (.if_icmp .ge 33, 3) := by decide +kernel
theorem dX5_at_12 : decode cX5_at 12 = .ok (.aload_n 0, 1) := by decide +kernel
theorem dX5_at_13 : decode cX5_at 13 = .ok (.getfield 28, 3) := by decide +kernel
theorem dX5_at_16 : decode cX5_at 16 = .ok (.iload_n 3, 1) := by decide +kernel
theorem dX5_at_17 : decode cX5_at 17 = .ok (.baload, 1) := by decide +kernel
theorem dX5_at_18 : decode cX5_at 18 = .ok (.ifCond .eq 16, 3) := by decide +kernel
theorem dX5_at_21 : decode cX5_at 21 = .ok (.aload_n 0, 1) := by decide +kernel
theorem dX5_at_22 : decode cX5_at 22 = .ok (.iload_n 3, 1) := by decide +kernel
theorem dX5_at_23 : decode cX5_at 23 = .ok (.invokevirtual 138, 3) := by decide +kernel
theorem dX5_at_26 : decode cX5_at 26 = .ok (.iload_n 1, 1) := by decide +kernel
theorem dX5_at_27 : decode cX5_at 27 = .ok (.if_icmp .ne 7, 3) := by decide +kernel
theorem dX5_at_30 : decode cX5_at 30 = .ok (.iload_n 3, 1) := by decide +kernel
theorem dX5_at_31 : decode cX5_at 31 = .ok (.goto 4, 3) := by decide +kernel
theorem dX5_at_34 : decode cX5_at 34 = .ok (.iload_n 2, 1) := by decide +kernel
theorem dX5_at_35 : decode cX5_at 35 = .ok (.istore_n 2, 1) := by decide +kernel
theorem dX5_at_36 : decode cX5_at 36 = .ok (.iinc 3 1, 3) := by decide +kernel
theorem dX5_at_39 : decode cX5_at 39 = .ok (.goto (-35), 3) := by decide +kernel
theorem dX5_at_42 : decode cX5_at 42 = .ok (.iload_n 2, 1) := by decide +kernel
theorem dX5_at_43 : decode cX5_at 43 = .ok (.ireturn, 1) := by decide +kernel
theorem dX5_standing_0 : decode cX5_standing 0 = .ok (.iconst 0, 1) := by decide +kernel
theorem dX5_standing_1 : decode cX5_standing 1 = .ok (.istore_n 1, 1) := by decide +kernel
theorem dX5_standing_2 : decode cX5_standing 2 = .ok (.iconst 0, 1) := by decide +kernel
theorem dX5_standing_3 : decode cX5_standing 3 = .ok (.istore_n 2, 1) := by decide +kernel
theorem dX5_standing_4 : decode cX5_standing 4 = .ok (.iload_n 2, 1) := by decide +kernel
theorem dX5_standing_5 : decode cX5_standing 5 = .ok (.aload_n 0, 1) := by decide +kernel
theorem dX5_standing_6 : decode cX5_standing 6 = .ok (.getfield 93, 3) := by decide +kernel
theorem dX5_standing_9 : decode cX5_standing 9 = .ok (.if_icmp .ge 26, 3) := by decide +kernel
theorem dX5_standing_12 : decode cX5_standing 12 = .ok (.iload_n 1, 1) := by decide +kernel
theorem dX5_standing_13 : decode cX5_standing 13 = .ok (.aload_n 0, 1) := by decide +kernel
theorem dX5_standing_14 : decode cX5_standing 14 = .ok (.getfield 28, 3) := by decide +kernel
theorem dX5_standing_17 : decode cX5_standing 17 = .ok (.iload_n 2, 1) := by decide +kernel
theorem dX5_standing_18 : decode cX5_standing 18 = .ok (.baload, 1) := by decide +kernel
theorem dX5_standing_19 : decode cX5_standing 19 = .ok (.ifCond .eq 7, 3) := by decide +kernel
theorem dX5_standing_22 : decode cX5_standing 22 = .ok (.iconst 1, 1) := by decide +kernel
theorem dX5_standing_23 : decode cX5_standing 23 = .ok (.goto 4, 3) := by decide +kernel
theorem dX5_standing_26 : decode cX5_standing 26 = .ok (.iconst 0, 1) := by decide +kernel
theorem dX5_standing_27 : decode cX5_standing 27 = .ok (.iadd, 1) := by decide +kernel
theorem dX5_standing_28 : decode cX5_standing 28 = .ok (.istore_n 1, 1) := by decide +kernel
theorem dX5_standing_29 : decode cX5_standing 29 = .ok (.iinc 2 1, 3) := by decide +kernel
theorem dX5_standing_32 : decode cX5_standing 32 = .ok (.goto (-28), 3) := by decide +kernel
theorem dX5_standing_35 : decode cX5_standing 35 = .ok (.iload_n 1, 1) := by decide +kernel
theorem dX5_standing_36 : decode cX5_standing 36 = .ok (.ireturn, 1) := by decide +kernel
theorem dX5_settles_0 : decode cX5_settles 0 = .ok (.aload_n 0, 1) := by decide +kernel
theorem dX5_settles_1 : decode cX5_settles 1 = .ok (.invokevirtual 141, 3) := by decide +kernel
theorem dX5_settles_4 : decode cX5_settles 4 = .ok (.aload_n 0, 1) := by decide +kernel
theorem dX5_settles_5 : decode cX5_settles 5 = .ok (.invokevirtual 144, 3) := by decide +kernel
theorem dX5_settles_8 : decode cX5_settles 8 = .ok (.istore_n 1, 1) := by decide +kernel
theorem dX5_settles_9 : decode cX5_settles 9 = .ok (.iconst 0, 1) := by decide +kernel
theorem dX5_settles_10 : decode cX5_settles 10 = .ok (.istore_n 2, 1) := by decide +kernel
theorem dX5_settles_11 : decode cX5_settles 11 = .ok (.iload_n 2, 1) := by decide +kernel
theorem dX5_settles_12 : decode cX5_settles 12 = .ok (.iload_n 1, 1) := by decide +kernel
theorem dX5_settles_13 : decode cX5_settles 13 = .ok (.if_icmp .ge 32, 3) := by decide +kernel
theorem dX5_settles_16 : decode cX5_settles 16 = .ok (.aload_n 0, 1) := by decide +kernel
theorem dX5_settles_17 : decode cX5_settles 17 = .ok (.iload_n 2, 1) := by decide +kernel
theorem dX5_settles_18 : decode cX5_settles 18 = .ok (.invokevirtual 148, 3) := by decide +kernel
theorem dX5_settles_21 : decode cX5_settles 21 = .ok (.istore_n 3, 1) := by decide +kernel
theorem dX5_settles_22 : decode cX5_settles 22 = .ok (.aload_n 0, 1) := by decide +kernel
theorem dX5_settles_23 : decode cX5_settles 23 = .ok (.getfield 47, 3) := by decide +kernel
theorem dX5_settles_26 : decode cX5_settles 26 = .ok (.iload_n 3, 1) := by decide +kernel
theorem dX5_settles_27 : decode cX5_settles 27 = .ok (.aload_n 0, 1) := by decide +kernel
theorem dX5_settles_28 : decode cX5_settles 28 = .ok (.iload_n 3, 1) := by decide +kernel
theorem dX5_settles_29 : decode cX5_settles 29 = .ok (.aload_n 0, 1) := by decide +kernel
theorem dX5_settles_30 : decode cX5_settles 30 = .ok (.getfield 86, 3) := by decide +kernel
theorem dX5_settles_33 : decode cX5_settles 33 = .ok (.iload_n 3, 1) := by decide +kernel
theorem dX5_settles_34 : decode cX5_settles 34 = .ok (.iaload, 1) := by decide +kernel
theorem dX5_settles_35 : decode cX5_settles 35 = .ok (.invokevirtual 151, 3) := by decide +kernel
theorem dX5_settles_38 : decode cX5_settles 38 = .ok (.iastore, 1) := by decide +kernel
theorem dX5_settles_39 : decode cX5_settles 39 = .ok (.iinc 2 1, 3) := by decide +kernel
theorem dX5_settles_42 : decode cX5_settles 42 = .ok (.goto (-31), 3) := by decide +kernel
theorem dX5_settles_45 : decode cX5_settles 45 = .ok (.return_, 1) := by decide +kernel
theorem dX5_toldNow_0 : decode cX5_toldNow 0 = .ok (.iconst 0, 1) := by decide +kernel
theorem dX5_toldNow_1 : decode cX5_toldNow 1 = .ok (.istore_n 1, 1) := by decide +kernel
theorem dX5_toldNow_2 : decode cX5_toldNow 2 = .ok (.iconst 0, 1) := by decide +kernel
theorem dX5_toldNow_3 : decode cX5_toldNow 3 = .ok (.istore_n 2, 1) := by decide +kernel
theorem dX5_toldNow_4 : decode cX5_toldNow 4 = .ok (.iload_n 2, 1) := by decide +kernel
theorem dX5_toldNow_5 : decode cX5_toldNow 5 = .ok (.aload_n 0, 1) := by decide +kernel
theorem dX5_toldNow_6 : decode cX5_toldNow 6 = .ok (.getfield 93, 3) := by decide +kernel
theorem dX5_toldNow_9 : decode cX5_toldNow 9 = .ok (.if_icmp .ge 26, 3) := by decide +kernel
theorem dX5_toldNow_12 : decode cX5_toldNow 12 = .ok (.iload_n 1, 1) := by decide +kernel
theorem dX5_toldNow_13 : decode cX5_toldNow 13 = .ok (.aload_n 0, 1) := by decide +kernel
theorem dX5_toldNow_14 : decode cX5_toldNow 14 = .ok (.getfield 41, 3) := by decide +kernel
theorem dX5_toldNow_17 : decode cX5_toldNow 17 = .ok (.iload_n 2, 1) := by decide +kernel
theorem dX5_toldNow_18 : decode cX5_toldNow 18 = .ok (.baload, 1) := by decide +kernel
theorem dX5_toldNow_19 : decode cX5_toldNow 19 = .ok (.ifCond .eq 7, 3) := by decide +kernel
theorem dX5_toldNow_22 : decode cX5_toldNow 22 = .ok (.iconst 1, 1) := by decide +kernel
theorem dX5_toldNow_23 : decode cX5_toldNow 23 = .ok (.goto 4, 3) := by decide +kernel
theorem dX5_toldNow_26 : decode cX5_toldNow 26 = .ok (.iconst 0, 1) := by decide +kernel
theorem dX5_toldNow_27 : decode cX5_toldNow 27 = .ok (.iadd, 1) := by decide +kernel
theorem dX5_toldNow_28 : decode cX5_toldNow 28 = .ok (.istore_n 1, 1) := by decide +kernel
theorem dX5_toldNow_29 : decode cX5_toldNow 29 = .ok (.iinc 2 1, 3) := by decide +kernel
theorem dX5_toldNow_32 : decode cX5_toldNow 32 = .ok (.goto (-28), 3) := by decide +kernel
theorem dX5_toldNow_35 : decode cX5_toldNow 35 = .ok (.iload_n 1, 1) := by decide +kernel
theorem dX5_toldNow_36 : decode cX5_toldNow 36 = .ok (.ireturn, 1) := by decide +kernel
theorem dX5_bid_0 : decode cX5_bid 0 = .ok (.aload_n 0, 1) := by decide +kernel
theorem dX5_bid_1 : decode cX5_bid 1 = .ok (.iload_n 1, 1) := by decide +kernel
theorem dX5_bid_2 : decode cX5_bid 2 = .ok (.invokevirtual 107, 3) := by decide +kernel
theorem dX5_bid_5 : decode cX5_bid 5 = .ok (.istore 4, 2) := by decide +kernel
theorem dX5_bid_7 : decode cX5_bid 7 = .ok (.iload_n 2, 1) := by decide +kernel
theorem dX5_bid_8 : decode cX5_bid 8 = .ok (.iconst 0, 1) := by decide +kernel
theorem dX5_bid_9 : decode cX5_bid 9 = .ok (.bipush 99, 2) := by decide +kernel
theorem dX5_bid_11 : decode cX5_bid 11 = .ok (.invokestatic 96, 3) := by decide +kernel
theorem dX5_bid_14 : decode cX5_bid 14 = .ok (.ifCond .eq 18, 3) := by decide +kernel
theorem dX5_bid_17 : decode cX5_bid 17 = .ok (.iload_n 3, 1) := by decide +kernel
theorem dX5_bid_18 : decode cX5_bid 18 = .ok (.iconst 0, 1) := by decide +kernel
theorem dX5_bid_19 : decode cX5_bid 19 = .ok (.sipush 999, 3) := by decide +kernel
theorem dX5_bid_22 : decode cX5_bid 22 = .ok (.invokestatic 96, 3) := by decide +kernel
theorem dX5_bid_25 : decode cX5_bid 25 = .ok (.ifCond .eq 7, 3) := by decide +kernel
theorem dX5_bid_28 : decode cX5_bid 28 = .ok (.iconst 1, 1) := by decide +kernel
theorem dX5_bid_29 : decode cX5_bid 29 = .ok (.goto 4, 3) := by decide +kernel
theorem dX5_bid_32 : decode cX5_bid 32 = .ok (.iconst 0, 1) := by decide +kernel
theorem dX5_bid_33 : decode cX5_bid 33 = .ok (.istore 5, 2) := by decide +kernel
theorem dX5_bid_35 : decode cX5_bid 35 = .ok (.iload 4, 2) := by decide +kernel
theorem dX5_bid_37 : decode cX5_bid 37 = .ok (.ifCond .eq 34, 3) := by decide +kernel
theorem dX5_bid_40 : decode cX5_bid 40 = .ok (.aload_n 0, 1) := by decide +kernel
theorem dX5_bid_41 : decode cX5_bid 41 = .ok (.getfield 110, 3) := by decide +kernel
theorem dX5_bid_44 : decode cX5_bid 44 = .ok (.iconst (-1), 1) := by decide +kernel
theorem dX5_bid_45 : decode cX5_bid 45 = .ok (.if_icmp .eq 26, 3) := by decide +kernel
theorem dX5_bid_48 : decode cX5_bid 48 = .ok (.aload_n 0, 1) := by decide +kernel
theorem dX5_bid_49 : decode cX5_bid 49 = .ok (.getfield 28, 3) := by decide +kernel
theorem dX5_bid_52 : decode cX5_bid 52 = .ok (.iload_n 1, 1) := by decide +kernel
theorem dX5_bid_53 : decode cX5_bid 53 = .ok (.baload, 1) := by decide +kernel
theorem dX5_bid_54 : decode cX5_bid 54 = .ok (.ifCond .eq 13, 3) := by decide +kernel
theorem dX5_bid_57 : decode cX5_bid 57 = .ok (.iload_n 2, 1) := by decide +kernel
theorem dX5_bid_58 : decode cX5_bid 58 = .ok (.aload_n 0, 1) := by decide +kernel
theorem dX5_bid_59 : decode cX5_bid 59 = .ok (.getfield 19, 3) := by decide +kernel
theorem dX5_bid_62 : decode cX5_bid 62 = .ok (.iload_n 1, 1) := by decide +kernel
theorem dX5_bid_63 : decode cX5_bid 63 = .ok (.iaload, 1) := by decide +kernel
theorem dX5_bid_64 : decode cX5_bid 64 = .ok (.if_icmp .lt 7, 3) := by decide +kernel
theorem dX5_bid_67 : decode cX5_bid 67 = .ok (.iconst 1, 1) := by decide +kernel
theorem dX5_bid_68 : decode cX5_bid 68 = .ok (.goto 4, 3) := by decide +kernel
theorem dX5_bid_71 : decode cX5_bid 71 = .ok (.iconst 0, 1) := by decide +kernel
theorem dX5_bid_72 : decode cX5_bid 72 = .ok (.istore 6, 2) := by decide +kernel
theorem dX5_bid_74 : decode cX5_bid 74 = .ok (.aload_n 0, 1) := by decide +kernel
theorem dX5_bid_75 : decode cX5_bid 75 = .ok (.iload 4, 2) := by decide +kernel
theorem dX5_bid_77 : decode cX5_bid 77 = .ok (.ifCond .ne 7, 3) := by decide +kernel
theorem dX5_bid_80 : decode cX5_bid 80 = .ok (.iconst 1, 1) := by decide +kernel
theorem dX5_bid_81 : decode cX5_bid 81 = .ok (.goto 22, 3) := by decide +kernel
theorem dX5_bid_84 : decode cX5_bid 84 = .ok (.iload 5, 2) := by decide +kernel
theorem dX5_bid_86 : decode cX5_bid 86 = .ok (.ifCond .ne 7, 3) := by decide +kernel
theorem dX5_bid_89 : decode cX5_bid 89 = .ok (.iconst 2, 1) := by decide +kernel
theorem dX5_bid_90 : decode cX5_bid 90 = .ok (.goto 13, 3) := by decide +kernel
theorem dX5_bid_93 : decode cX5_bid 93 = .ok (.iload 6, 2) := by decide +kernel
theorem dX5_bid_95 : decode cX5_bid 95 = .ok (.ifCond .eq 7, 3) := by decide +kernel
theorem dX5_bid_98 : decode cX5_bid 98 = .ok (.iconst 0, 1) := by decide +kernel
theorem dX5_bid_99 : decode cX5_bid 99 = .ok (.goto 4, 3) := by decide +kernel
theorem dX5_bid_102 : decode cX5_bid 102 = .ok (.iconst 3, 1) := by decide +kernel
theorem dX5_bid_103 : decode cX5_bid 103 = .ok (.invokevirtual 103, 3) := by decide +kernel
theorem dX5_bid_106 : decode cX5_bid 106 = .ok (.ifCond .ne 5, 3) := by decide +kernel
theorem dX5_bid_109 : decode cX5_bid 109 = .ok (.iconst 0, 1) := by decide +kernel
theorem dX5_bid_110 : decode cX5_bid 110 = .ok (.ireturn, 1) := by decide +kernel
theorem dX5_bid_111 : decode cX5_bid 111 = .ok (.aload_n 0, 1) := by decide +kernel
theorem dX5_bid_112 : decode cX5_bid 112 = .ok (.getfield 32, 3) := by decide +kernel
theorem dX5_bid_115 : decode cX5_bid 115 = .ok (.iload_n 1, 1) := by decide +kernel
theorem dX5_bid_116 : decode cX5_bid 116 = .ok (.iload_n 2, 1) := by decide +kernel
theorem dX5_bid_117 : decode cX5_bid 117 = .ok (.iastore, 1) := by decide +kernel
theorem dX5_bid_118 : decode cX5_bid 118 = .ok (.aload_n 0, 1) := by decide +kernel
theorem dX5_bid_119 : decode cX5_bid 119 = .ok (.getfield 35, 3) := by decide +kernel
theorem dX5_bid_122 : decode cX5_bid 122 = .ok (.iload_n 1, 1) := by decide +kernel
theorem dX5_bid_123 : decode cX5_bid 123 = .ok (.iload_n 3, 1) := by decide +kernel
theorem dX5_bid_124 : decode cX5_bid 124 = .ok (.iastore, 1) := by decide +kernel
theorem dX5_bid_125 : decode cX5_bid 125 = .ok (.aload_n 0, 1) := by decide +kernel
theorem dX5_bid_126 : decode cX5_bid 126 = .ok (.getfield 38, 3) := by decide +kernel
theorem dX5_bid_129 : decode cX5_bid 129 = .ok (.iload_n 1, 1) := by decide +kernel
theorem dX5_bid_130 : decode cX5_bid 130 = .ok (.aload_n 0, 1) := by decide +kernel
theorem dX5_bid_131 : decode cX5_bid 131 = .ok (.getfield 154, 3) := by decide +kernel
theorem dX5_bid_134 : decode cX5_bid 134 = .ok (.iastore, 1) := by decide +kernel
theorem dX5_bid_135 : decode cX5_bid 135 = .ok (.aload_n 0, 1) := by decide +kernel
theorem dX5_bid_136 : decode cX5_bid 136 = .ok (.getfield 41, 3) := by decide +kernel
theorem dX5_bid_139 : decode cX5_bid 139 = .ok (.iload_n 1, 1) := by decide +kernel
theorem dX5_bid_140 : decode cX5_bid 140 = .ok (.iconst 1, 1) := by decide +kernel
theorem dX5_bid_141 : decode cX5_bid 141 = .ok (.bastore, 1) := by decide +kernel
theorem dX5_bid_142 : decode cX5_bid 142 = .ok (.aload_n 0, 1) := by decide +kernel
theorem dX5_bid_143 : decode cX5_bid 143 = .ok (.dup, 1) := by decide +kernel
theorem dX5_bid_144 : decode cX5_bid 144 = .ok (.getfield 154, 3) := by decide +kernel
theorem dX5_bid_147 : decode cX5_bid 147 = .ok (.iconst 1, 1) := by decide +kernel
theorem dX5_bid_148 : decode cX5_bid 148 = .ok (.iadd, 1) := by decide +kernel
theorem dX5_bid_149 : decode cX5_bid 149 = .ok (.putfield 154, 3) := by decide +kernel
theorem dX5_bid_152 : decode cX5_bid 152 = .ok (.aload_n 0, 1) := by decide +kernel
theorem dX5_bid_153 : decode cX5_bid 153 = .ok (.invokevirtual 157, 3) := by decide +kernel
theorem dX5_bid_156 : decode cX5_bid 156 = .ok (.ireturn, 1) := by decide +kernel
theorem dX5_begins_0 : decode cX5_begins 0 = .ok (.iconst 0, 1) := by decide +kernel
theorem dX5_begins_1 : decode cX5_begins 1 = .ok (.istore_n 1, 1) := by decide +kernel
theorem dX5_begins_2 : decode cX5_begins 2 = .ok (.iload_n 1, 1) := by decide +kernel
theorem dX5_begins_3 : decode cX5_begins 3 = .ok (.aload_n 0, 1) := by decide +kernel
theorem dX5_begins_4 : decode cX5_begins 4 = .ok (.getfield 93, 3) := by decide +kernel
theorem dX5_begins_7 : decode cX5_begins 7 = .ok (.if_icmp .ge 21, 3) := by decide +kernel
theorem dX5_begins_10 : decode cX5_begins 10 = .ok (.aload_n 0, 1) := by decide +kernel
theorem dX5_begins_11 : decode cX5_begins 11 = .ok (.getfield 86, 3) := by decide +kernel
theorem dX5_begins_14 : decode cX5_begins 14 = .ok (.iload_n 1, 1) := by decide +kernel
theorem dX5_begins_15 : decode cX5_begins 15 = .ok (.aload_n 0, 1) := by decide +kernel
theorem dX5_begins_16 : decode cX5_begins 16 = .ok (.getfield 22, 3) := by decide +kernel
theorem dX5_begins_19 : decode cX5_begins 19 = .ok (.iload_n 1, 1) := by decide +kernel
theorem dX5_begins_20 : decode cX5_begins 20 = .ok (.iaload, 1) := by decide +kernel
theorem dX5_begins_21 : decode cX5_begins 21 = .ok (.iastore, 1) := by decide +kernel
theorem dX5_begins_22 : decode cX5_begins 22 = .ok (.iinc 1 1, 3) := by decide +kernel
theorem dX5_begins_25 : decode cX5_begins 25 = .ok (.goto (-23), 3) := by decide +kernel
theorem dX5_begins_28 : decode cX5_begins 28 = .ok (.aload_n 0, 1) := by decide +kernel
theorem dX5_begins_29 : decode cX5_begins 29 = .ok (.invokevirtual 160, 3) := by decide +kernel
theorem dX5_begins_32 : decode cX5_begins 32 = .ok (.iconst 0, 1) := by decide +kernel
theorem dX5_begins_33 : decode cX5_begins 33 = .ok (.istore_n 1, 1) := by decide +kernel
theorem dX5_begins_34 : decode cX5_begins 34 = .ok (.iload_n 1, 1) := by decide +kernel
theorem dX5_begins_35 : decode cX5_begins 35 = .ok (.aload_n 0, 1) := by decide +kernel
theorem dX5_begins_36 : decode cX5_begins 36 = .ok (.getfield 93, 3) := by decide +kernel
theorem dX5_begins_39 : decode cX5_begins 39 = .ok (.if_icmp .ge 31, 3) := by decide +kernel
theorem dX5_begins_42 : decode cX5_begins 42 = .ok (.aload_n 0, 1) := by decide +kernel
theorem dX5_begins_43 : decode cX5_begins 43 = .ok (.getfield 50, 3) := by decide +kernel
theorem dX5_begins_46 : decode cX5_begins 46 = .ok (.iload_n 1, 1) := by decide +kernel
theorem dX5_begins_47 : decode cX5_begins 47 = .ok (.dup2, 1) := by decide +kernel
theorem dX5_begins_48 : decode cX5_begins 48 = .ok (.iaload, 1) := by decide +kernel
theorem dX5_begins_49 : decode cX5_begins 49 = .ok (.aload_n 0, 1) := by decide +kernel
theorem dX5_begins_50 : decode cX5_begins 50 = .ok (.getfield 47, 3) := by decide +kernel
theorem dX5_begins_53 : decode cX5_begins 53 = .ok (.iload_n 1, 1) := by decide +kernel
theorem dX5_begins_54 : decode cX5_begins 54 = .ok (.iaload, 1) := by decide +kernel
theorem dX5_begins_55 : decode cX5_begins 55 = .ok (.aload_n 0, 1) := by decide +kernel
theorem dX5_begins_56 : decode cX5_begins 56 = .ok (.getfield 19, 3) := by decide +kernel
theorem dX5_begins_59 : decode cX5_begins 59 = .ok (.iload_n 1, 1) := by decide +kernel
theorem dX5_begins_60 : decode cX5_begins 60 = .ok (.iaload, 1) := by decide +kernel
theorem dX5_begins_61 : decode cX5_begins 61 = .ok (.imul, 1) := by decide +kernel
theorem dX5_begins_62 : decode cX5_begins 62 = .ok (.iadd, 1) := by decide +kernel
theorem dX5_begins_63 : decode cX5_begins 63 = .ok (.iastore, 1) := by decide +kernel
theorem dX5_begins_64 : decode cX5_begins 64 = .ok (.iinc 1 1, 3) := by decide +kernel
theorem dX5_begins_67 : decode cX5_begins 67 = .ok (.goto (-33), 3) := by decide +kernel
theorem dX5_begins_70 : decode cX5_begins 70 = .ok (.aload_n 0, 1) := by decide +kernel
theorem dX5_begins_71 : decode cX5_begins 71 = .ok (.iconst (-1), 1) := by decide +kernel
theorem dX5_begins_72 : decode cX5_begins 72 = .ok (.putfield 110, 3) := by decide +kernel
theorem dX5_begins_75 : decode cX5_begins 75 = .ok (.return_, 1) := by decide +kernel
theorem dX5_close_0 : decode cX5_close 0 = .ok (.aload_n 0, 1) := by decide +kernel
theorem dX5_close_1 : decode cX5_close 1 = .ok (.aload_n 0, 1) := by decide +kernel
theorem dX5_close_2 : decode cX5_close 2 = .ok (.getfield 110, 3) := by decide +kernel
theorem dX5_close_5 : decode cX5_close 5 = .ok (.iconst (-1), 1) := by decide +kernel
theorem dX5_close_6 : decode cX5_close 6 = .ok (.if_icmp .ne 7, 3) := by decide +kernel
theorem dX5_close_9 : decode cX5_close 9 = .ok (.iconst 1, 1) := by decide +kernel
theorem dX5_close_10 : decode cX5_close 10 = .ok (.goto 4, 3) := by decide +kernel
theorem dX5_close_13 : decode cX5_close 13 = .ok (.iconst 0, 1) := by decide +kernel
theorem dX5_close_14 : decode cX5_close 14 = .ok (.invokevirtual 103, 3) := by decide +kernel
theorem dX5_close_17 : decode cX5_close 17 = .ok (.ifCond .ne 5, 3) := by decide +kernel
theorem dX5_close_20 : decode cX5_close 20 = .ok (.iconst 0, 1) := by decide +kernel
theorem dX5_close_21 : decode cX5_close 21 = .ok (.ireturn, 1) := by decide +kernel
theorem dX5_close_22 : decode cX5_close 22 = .ok (.aload_n 0, 1) := by decide +kernel
theorem dX5_close_23 : decode cX5_close 23 = .ok (.invokevirtual 157, 3) := by decide +kernel
theorem dX5_close_26 : decode cX5_close 26 = .ok (.ifCond .eq 11, 3) := by decide +kernel
theorem dX5_close_29 : decode cX5_close 29 = .ok (.aload_n 0, 1) := by decide +kernel
theorem dX5_close_30 : decode cX5_close 30 = .ok (.getfield 110, 3) := by decide +kernel
theorem dX5_close_33 : decode cX5_close 33 = .ok (.iconst 4, 1) := by decide +kernel
theorem dX5_close_34 : decode cX5_close 34 = .ok (.if_icmp .ne 7, 3) := by decide +kernel
theorem dX5_close_37 : decode cX5_close 37 = .ok (.iconst 1, 1) := by decide +kernel
theorem dX5_close_38 : decode cX5_close 38 = .ok (.goto 4, 3) := by decide +kernel
theorem dX5_close_41 : decode cX5_close 41 = .ok (.iconst 0, 1) := by decide +kernel
theorem dX5_close_42 : decode cX5_close 42 = .ok (.istore_n 1, 1) := by decide +kernel
theorem dX5_close_43 : decode cX5_close 43 = .ok (.iconst 0, 1) := by decide +kernel
theorem dX5_close_44 : decode cX5_close 44 = .ok (.istore_n 2, 1) := by decide +kernel
theorem dX5_close_45 : decode cX5_close 45 = .ok (.iload_n 2, 1) := by decide +kernel
theorem dX5_close_46 : decode cX5_close 46 = .ok (.aload_n 0, 1) := by decide +kernel
theorem dX5_close_47 : decode cX5_close 47 = .ok (.getfield 93, 3) := by decide +kernel
theorem dX5_close_50 : decode cX5_close 50 = .ok (.if_icmp .ge 120, 3) := by decide +kernel
theorem dX5_close_53 : decode cX5_close 53 = .ok (.aload_n 0, 1) := by decide +kernel
theorem dX5_close_54 : decode cX5_close 54 = .ok (.getfield 41, 3) := by decide +kernel
theorem dX5_close_57 : decode cX5_close 57 = .ok (.iload_n 2, 1) := by decide +kernel
theorem dX5_close_58 : decode cX5_close 58 = .ok (.baload, 1) := by decide +kernel
theorem dX5_close_59 : decode cX5_close 59 = .ok (.ifCond .eq 49, 3) := by decide +kernel
theorem dX5_close_62 : decode cX5_close 62 = .ok (.aload_n 0, 1) := by decide +kernel
theorem dX5_close_63 : decode cX5_close 63 = .ok (.getfield 19, 3) := by decide +kernel
theorem dX5_close_66 : decode cX5_close 66 = .ok (.iload_n 2, 1) := by decide +kernel
theorem dX5_close_67 : decode cX5_close 67 = .ok (.aload_n 0, 1) := by decide +kernel
theorem dX5_close_68 : decode cX5_close 68 = .ok (.getfield 32, 3) := by decide +kernel
theorem dX5_close_71 : decode cX5_close 71 = .ok (.iload_n 2, 1) := by decide +kernel
theorem dX5_close_72 : decode cX5_close 72 = .ok (.iaload, 1) := by decide +kernel
theorem dX5_close_73 : decode cX5_close 73 = .ok (.iastore, 1) := by decide +kernel
theorem dX5_close_74 : decode cX5_close 74 = .ok (.aload_n 0, 1) := by decide +kernel
theorem dX5_close_75 : decode cX5_close 75 = .ok (.getfield 22, 3) := by decide +kernel
theorem dX5_close_78 : decode cX5_close 78 = .ok (.iload_n 2, 1) := by decide +kernel
theorem dX5_close_79 : decode cX5_close 79 = .ok (.aload_n 0, 1) := by decide +kernel
theorem dX5_close_80 : decode cX5_close 80 = .ok (.getfield 35, 3) := by decide +kernel
theorem dX5_close_83 : decode cX5_close 83 = .ok (.iload_n 2, 1) := by decide +kernel
theorem dX5_close_84 : decode cX5_close 84 = .ok (.iaload, 1) := by decide +kernel
theorem dX5_close_85 : decode cX5_close 85 = .ok (.iastore, 1) := by decide +kernel
theorem dX5_close_86 : decode cX5_close 86 = .ok (.aload_n 0, 1) := by decide +kernel
theorem dX5_close_87 : decode cX5_close 87 = .ok (.getfield 25, 3) := by decide +kernel
theorem dX5_close_90 : decode cX5_close 90 = .ok (.iload_n 2, 1) := by decide +kernel
theorem dX5_close_91 : decode cX5_close 91 = .ok (.aload_n 0, 1) := by decide +kernel
theorem dX5_close_92 : decode cX5_close 92 = .ok (.getfield 38, 3) := by decide +kernel
theorem dX5_close_95 : decode cX5_close 95 = .ok (.iload_n 2, 1) := by decide +kernel
theorem dX5_close_96 : decode cX5_close 96 = .ok (.iaload, 1) := by decide +kernel
theorem dX5_close_97 : decode cX5_close 97 = .ok (.iastore, 1) := by decide +kernel
theorem dX5_close_98 : decode cX5_close 98 = .ok (.aload_n 0, 1) := by decide +kernel
theorem dX5_close_99 : decode cX5_close 99 = .ok (.getfield 28, 3) := by decide +kernel
theorem dX5_close_102 : decode cX5_close 102 = .ok (.iload_n 2, 1) := by decide +kernel
theorem dX5_close_103 : decode cX5_close 103 = .ok (.iconst 1, 1) := by decide +kernel
theorem dX5_close_104 : decode cX5_close 104 = .ok (.bastore, 1) := by decide +kernel
theorem dX5_close_105 : decode cX5_close 105 = .ok (.goto 32, 3) := by decide +kernel
theorem dX5_close_108 : decode cX5_close 108 = .ok (.aload_n 0, 1) := by decide +kernel
theorem dX5_close_109 : decode cX5_close 109 = .ok (.getfield 28, 3) := by decide +kernel
theorem dX5_close_112 : decode cX5_close 112 = .ok (.iload_n 2, 1) := by decide +kernel
theorem dX5_close_113 : decode cX5_close 113 = .ok (.aload_n 0, 1) := by decide +kernel
theorem dX5_close_114 : decode cX5_close 114 = .ok (.getfield 28, 3) := by decide +kernel
theorem dX5_close_117 : decode cX5_close 117 = .ok (.iload_n 2, 1) := by decide +kernel
theorem dX5_close_118 : decode cX5_close 118 = .ok (.baload, 1) := by decide +kernel
theorem dX5_close_119 : decode cX5_close 119 = .ok (.ifCond .eq 16, 3) := by decide +kernel
theorem dX5_close_122 : decode cX5_close 122 = .ok (.aload_n 0, 1) := by decide +kernel
theorem dX5_close_123 : decode cX5_close 123 = .ok (.getfield 44, 3) := by decide +kernel
theorem dX5_close_126 : decode cX5_close 126 = .ok (.iload_n 2, 1) := by decide +kernel
theorem dX5_close_127 : decode cX5_close 127 = .ok (.baload, 1) := by decide +kernel
theorem dX5_close_128 : decode cX5_close 128 = .ok (.ifCond .ne 7, 3) := by decide +kernel
theorem dX5_close_131 : decode cX5_close 131 = .ok (.iconst 1, 1) := by decide +kernel
theorem dX5_close_132 : decode cX5_close 132 = .ok (.goto 4, 3) := by decide +kernel
theorem dX5_close_135 : decode cX5_close 135 = .ok (.iconst 0, 1) := by decide +kernel
theorem dX5_close_136 : decode cX5_close 136 = .ok (.bastore, 1) := by decide +kernel
theorem dX5_close_137 : decode cX5_close 137 = .ok (.aload_n 0, 1) := by decide +kernel
theorem dX5_close_138 : decode cX5_close 138 = .ok (.getfield 44, 3) := by decide +kernel
theorem dX5_close_141 : decode cX5_close 141 = .ok (.iload_n 2, 1) := by decide +kernel
theorem dX5_close_142 : decode cX5_close 142 = .ok (.aload_n 0, 1) := by decide +kernel
theorem dX5_close_143 : decode cX5_close 143 = .ok (.getfield 41, 3) := by decide +kernel
theorem dX5_close_146 : decode cX5_close 146 = .ok (.iload_n 2, 1) := by decide +kernel
theorem dX5_close_147 : decode cX5_close 147 = .ok (.baload, 1) := by decide +kernel
theorem dX5_close_148 : decode cX5_close 148 = .ok (.ifCond .ne 7, 3) := by decide +kernel
theorem dX5_close_151 : decode cX5_close 151 = .ok (.iconst 1, 1) := by decide +kernel
theorem dX5_close_152 : decode cX5_close 152 = .ok (.goto 4, 3) := by decide +kernel
theorem dX5_close_155 : decode cX5_close 155 = .ok (.iconst 0, 1) := by decide +kernel
theorem dX5_close_156 : decode cX5_close 156 = .ok (.bastore, 1) := by decide +kernel
theorem dX5_close_157 : decode cX5_close 157 = .ok (.aload_n 0, 1) := by decide +kernel
theorem dX5_close_158 : decode cX5_close 158 = .ok (.getfield 41, 3) := by decide +kernel
theorem dX5_close_161 : decode cX5_close 161 = .ok (.iload_n 2, 1) := by decide +kernel
theorem dX5_close_162 : decode cX5_close 162 = .ok (.iconst 0, 1) := by decide +kernel
theorem dX5_close_163 : decode cX5_close 163 = .ok (.bastore, 1) := by decide +kernel
theorem dX5_close_164 : decode cX5_close 164 = .ok (.iinc 2 1, 3) := by decide +kernel
theorem dX5_close_167 : decode cX5_close 167 = .ok (.goto (-122), 3) := by decide +kernel
theorem dX5_close_170 : decode cX5_close 170 = .ok (.aload_n 0, 1) := by decide +kernel
theorem dX5_close_171 : decode cX5_close 171 = .ok (.dup, 1) := by decide +kernel
theorem dX5_close_172 : decode cX5_close 172 = .ok (.getfield 110, 3) := by decide +kernel
theorem dX5_close_175 : decode cX5_close 175 = .ok (.iconst 1, 1) := by decide +kernel
theorem dX5_close_176 : decode cX5_close 176 = .ok (.iadd, 1) := by decide +kernel
theorem dX5_close_177 : decode cX5_close 177 = .ok (.putfield 110, 3) := by decide +kernel
theorem dX5_close_180 : decode cX5_close 180 = .ok (.iload_n 1, 1) := by decide +kernel
theorem dX5_close_181 : decode cX5_close 181 = .ok (.ifCond .eq 7, 3) := by decide +kernel
theorem dX5_close_184 : decode cX5_close 184 = .ok (.aload_n 0, 1) := by decide +kernel
theorem dX5_close_185 : decode cX5_close 185 = .ok (.invokevirtual 163, 3) := by decide +kernel
theorem dX5_close_188 : decode cX5_close 188 = .ok (.iload_n 1, 1) := by decide +kernel
theorem dX5_close_189 : decode cX5_close 189 = .ok (.ireturn, 1) := by decide +kernel
theorem dX5_burst_0 : decode cX5_burst 0 = .ok (.aload_n 0, 1) := by decide +kernel
theorem dX5_burst_1 : decode cX5_burst 1 = .ok (.iload_n 1, 1) := by decide +kernel
theorem dX5_burst_2 : decode cX5_burst 2 = .ok (.invokevirtual 166, 3) := by decide +kernel
theorem dX5_burst_5 : decode cX5_burst 5 = .ok (.istore_n 2, 1) := by decide +kernel
theorem dX5_burst_6 : decode cX5_burst 6 = .ok (.aload_n 0, 1) := by decide +kernel
theorem dX5_burst_7 : decode cX5_burst 7 = .ok (.iload_n 2, 1) := by decide +kernel
theorem dX5_burst_8 : decode cX5_burst 8 = .ok (.ifCond .ne 7, 3) := by decide +kernel
theorem dX5_burst_11 : decode cX5_burst 11 = .ok (.iconst 1, 1) := by decide +kernel
theorem dX5_burst_12 : decode cX5_burst 12 = .ok (.goto 17, 3) := by decide +kernel
theorem dX5_burst_15 : decode cX5_burst 15 = .ok (.aload_n 0, 1) := by decide +kernel
theorem dX5_burst_16 : decode cX5_burst 16 = .ok (.getfield 74, 3) := by decide +kernel
theorem dX5_burst_19 : decode cX5_burst 19 = .ok (.iload_n 1, 1) := by decide +kernel
theorem dX5_burst_20 : decode cX5_burst 20 = .ok (.baload, 1) := by decide +kernel
theorem dX5_burst_21 : decode cX5_burst 21 = .ok (.ifCond .eq 7, 3) := by decide +kernel
theorem dX5_burst_24 : decode cX5_burst 24 = .ok (.iconst 2, 1) := by decide +kernel
theorem dX5_burst_25 : decode cX5_burst 25 = .ok (.goto 4, 3) := by decide +kernel
theorem dX5_burst_28 : decode cX5_burst 28 = .ok (.iconst 0, 1) := by decide +kernel
theorem dX5_burst_29 : decode cX5_burst 29 = .ok (.invokevirtual 103, 3) := by decide +kernel
theorem dX5_burst_32 : decode cX5_burst 32 = .ok (.ifCond .ne 5, 3) := by decide +kernel
theorem dX5_burst_35 : decode cX5_burst 35 = .ok (.iconst 0, 1) := by decide +kernel
theorem dX5_burst_36 : decode cX5_burst 36 = .ok (.ireturn, 1) := by decide +kernel
theorem dX5_burst_37 : decode cX5_burst 37 = .ok (.aload_n 0, 1) := by decide +kernel
theorem dX5_burst_38 : decode cX5_burst 38 = .ok (.getfield 74, 3) := by decide +kernel
theorem dX5_burst_41 : decode cX5_burst 41 = .ok (.iload_n 1, 1) := by decide +kernel
theorem dX5_burst_42 : decode cX5_burst 42 = .ok (.iconst 1, 1) := by decide +kernel
theorem dX5_burst_43 : decode cX5_burst 43 = .ok (.bastore, 1) := by decide +kernel
theorem dX5_burst_44 : decode cX5_burst 44 = .ok (.aload_n 0, 1) := by decide +kernel
theorem dX5_burst_45 : decode cX5_burst 45 = .ok (.getfield 110, 3) := by decide +kernel
theorem dX5_burst_48 : decode cX5_burst 48 = .ok (.iconst (-1), 1) := by decide +kernel
theorem dX5_burst_49 : decode cX5_burst 49 = .ok (.if_icmp .eq 5, 3) := by decide +kernel
theorem dX5_burst_52 : decode cX5_burst 52 = .ok (.iconst 0, 1) := by decide +kernel
theorem dX5_burst_53 : decode cX5_burst 53 = .ok (.ireturn, 1) := by decide +kernel
theorem dX5_burst_54 : decode cX5_burst 54 = .ok (.iconst 0, 1) := by decide +kernel
theorem dX5_burst_55 : decode cX5_burst 55 = .ok (.istore_n 3, 1) := by decide +kernel
theorem dX5_burst_56 : decode cX5_burst 56 = .ok (.iload_n 3, 1) := by decide +kernel
theorem dX5_burst_57 : decode cX5_burst 57 = .ok (.aload_n 0, 1) := by decide +kernel
theorem dX5_burst_58 : decode cX5_burst 58 = .ok (.getfield 93, 3) := by decide +kernel
theorem dX5_burst_61 : decode cX5_burst 61 = .ok (.if_icmp .ge 21, 3) := by decide +kernel
theorem dX5_burst_64 : decode cX5_burst 64 = .ok (.aload_n 0, 1) := by decide +kernel
theorem dX5_burst_65 : decode cX5_burst 65 = .ok (.getfield 86, 3) := by decide +kernel
theorem dX5_burst_68 : decode cX5_burst 68 = .ok (.iload_n 3, 1) := by decide +kernel
theorem dX5_burst_69 : decode cX5_burst 69 = .ok (.aload_n 0, 1) := by decide +kernel
theorem dX5_burst_70 : decode cX5_burst 70 = .ok (.getfield 47, 3) := by decide +kernel
theorem dX5_burst_73 : decode cX5_burst 73 = .ok (.iload_n 3, 1) := by decide +kernel
theorem dX5_burst_74 : decode cX5_burst 74 = .ok (.iaload, 1) := by decide +kernel
theorem dX5_burst_75 : decode cX5_burst 75 = .ok (.iastore, 1) := by decide +kernel
theorem dX5_burst_76 : decode cX5_burst 76 = .ok (.iinc 3 1, 3) := by decide +kernel
theorem dX5_burst_79 : decode cX5_burst 79 = .ok (.goto (-23), 3) := by decide +kernel
theorem dX5_burst_82 : decode cX5_burst 82 = .ok (.aload_n 0, 1) := by decide +kernel
theorem dX5_burst_83 : decode cX5_burst 83 = .ok (.invokevirtual 160, 3) := by decide +kernel
theorem dX5_burst_86 : decode cX5_burst 86 = .ok (.iconst 0, 1) := by decide +kernel
theorem dX5_burst_87 : decode cX5_burst 87 = .ok (.istore_n 3, 1) := by decide +kernel
theorem dX5_burst_88 : decode cX5_burst 88 = .ok (.iconst 0, 1) := by decide +kernel
theorem dX5_burst_89 : decode cX5_burst 89 = .ok (.istore 4, 2) := by decide +kernel
theorem dX5_burst_91 : decode cX5_burst 91 = .ok (.iload 4, 2) := by decide +kernel
theorem dX5_burst_93 : decode cX5_burst 93 = .ok (.aload_n 0, 1) := by decide +kernel
theorem dX5_burst_94 : decode cX5_burst 94 = .ok (.getfield 93, 3) := by decide +kernel
theorem dX5_burst_97 : decode cX5_burst 97 = .ok (.if_icmp .ge 65, 3) := by decide +kernel
theorem dX5_burst_100 : decode cX5_burst 100 = .ok (.aload_n 0, 1) := by decide +kernel
theorem dX5_burst_101 : decode cX5_burst 101 = .ok (.getfield 86, 3) := by decide +kernel
theorem dX5_burst_104 : decode cX5_burst 104 = .ok (.iload 4, 2) := by decide +kernel
theorem dX5_burst_106 : decode cX5_burst 106 = .ok (.iaload, 1) := by decide +kernel
theorem dX5_burst_107 : decode cX5_burst 107 = .ok (.aload_n 0, 1) := by decide +kernel
theorem dX5_burst_108 : decode cX5_burst 108 = .ok (.getfield 47, 3) := by decide +kernel
theorem dX5_burst_111 : decode cX5_burst 111 = .ok (.iload 4, 2) := by decide +kernel
theorem dX5_burst_113 : decode cX5_burst 113 = .ok (.iaload, 1) := by decide +kernel
theorem dX5_burst_114 : decode cX5_burst 114 = .ok (.isub, 1) := by decide +kernel
theorem dX5_burst_115 : decode cX5_burst 115 = .ok (.istore 5, 2) := by decide +kernel
theorem dX5_burst_117 : decode cX5_burst 117 = .ok (.aload_n 0, 1) := by decide +kernel
theorem dX5_burst_118 : decode cX5_burst 118 = .ok (.getfield 53, 3) := by decide +kernel
theorem dX5_burst_121 : decode cX5_burst 121 = .ok (.iload 4, 2) := by decide +kernel
theorem dX5_burst_123 : decode cX5_burst 123 = .ok (.dup2, 1) := by decide +kernel
theorem dX5_burst_124 : decode cX5_burst 124 = .ok (.iaload, 1) := by decide +kernel
theorem dX5_burst_125 : decode cX5_burst 125 = .ok (.iload 5, 2) := by decide +kernel
theorem dX5_burst_127 : decode cX5_burst 127 = .ok (.aload_n 0, 1) := by decide +kernel
theorem dX5_burst_128 : decode cX5_burst 128 = .ok (.getfield 19, 3) := by decide +kernel
theorem dX5_burst_131 : decode cX5_burst 131 = .ok (.iload 4, 2) := by decide +kernel
theorem dX5_burst_133 : decode cX5_burst 133 = .ok (.iaload, 1) := by decide +kernel
theorem dX5_burst_134 : decode cX5_burst 134 = .ok (.imul, 1) := by decide +kernel
theorem dX5_burst_135 : decode cX5_burst 135 = .ok (.iload 5, 2) := by decide +kernel
theorem dX5_burst_137 : decode cX5_burst 137 = .ok (.aload_n 0, 1) := by decide +kernel
theorem dX5_burst_138 : decode cX5_burst 138 = .ok (.getfield 19, 3) := by decide +kernel
theorem dX5_burst_141 : decode cX5_burst 141 = .ok (.iload 4, 2) := by decide +kernel
theorem dX5_burst_143 : decode cX5_burst 143 = .ok (.iaload, 1) := by decide +kernel
theorem dX5_burst_144 : decode cX5_burst 144 = .ok (.imul, 1) := by decide +kernel
theorem dX5_burst_145 : decode cX5_burst 145 = .ok (.bipush 10, 2) := by decide +kernel
theorem dX5_burst_147 : decode cX5_burst 147 = .ok (.idiv, 1) := by decide +kernel
theorem dX5_burst_148 : decode cX5_burst 148 = .ok (.iadd, 1) := by decide +kernel
theorem dX5_burst_149 : decode cX5_burst 149 = .ok (.iadd, 1) := by decide +kernel
theorem dX5_burst_150 : decode cX5_burst 150 = .ok (.iastore, 1) := by decide +kernel
theorem dX5_burst_151 : decode cX5_burst 151 = .ok (.iload_n 3, 1) := by decide +kernel
theorem dX5_burst_152 : decode cX5_burst 152 = .ok (.iload 5, 2) := by decide +kernel
theorem dX5_burst_154 : decode cX5_burst 154 = .ok (.iadd, 1) := by decide +kernel
theorem dX5_burst_155 : decode cX5_burst 155 = .ok (.istore_n 3, 1) := by decide +kernel
theorem dX5_burst_156 : decode cX5_burst 156 = .ok (.iinc 4 1, 3) := by decide +kernel
theorem dX5_burst_159 : decode cX5_burst 159 = .ok (.goto (-68), 3) := by decide +kernel
theorem dX5_burst_162 : decode cX5_burst 162 = .ok (.iload_n 3, 1) := by decide +kernel
theorem dX5_burst_163 : decode cX5_burst 163 = .ok (.ireturn, 1) := by decide +kernel
theorem dX5_repair_0 : decode cX5_repair 0 = .ok (.aload_n 0, 1) := by decide +kernel
theorem dX5_repair_1 : decode cX5_repair 1 = .ok (.iload_n 1, 1) := by decide +kernel
theorem dX5_repair_2 : decode cX5_repair 2 = .ok (.invokevirtual 166, 3) := by decide +kernel
theorem dX5_repair_5 : decode cX5_repair 5 = .ok (.istore_n 2, 1) := by decide +kernel
theorem dX5_repair_6 : decode cX5_repair 6 = .ok (.aload_n 0, 1) := by decide +kernel
theorem dX5_repair_7 : decode cX5_repair 7 = .ok (.iload_n 2, 1) := by decide +kernel
theorem dX5_repair_8 : decode cX5_repair 8 = .ok (.ifCond .ne 7, 3) := by decide +kernel
theorem dX5_repair_11 : decode cX5_repair 11 = .ok (.iconst 1, 1) := by decide +kernel
theorem dX5_repair_12 : decode cX5_repair 12 = .ok (.goto 25, 3) := by decide +kernel
theorem dX5_repair_15 : decode cX5_repair 15 = .ok (.aload_n 0, 1) := by decide +kernel
theorem dX5_repair_16 : decode cX5_repair 16 = .ok (.getfield 74, 3) := by decide +kernel
theorem dX5_repair_19 : decode cX5_repair 19 = .ok (.iload_n 1, 1) := by decide +kernel
theorem dX5_repair_20 : decode cX5_repair 20 = .ok (.baload, 1) := by decide +kernel
theorem dX5_repair_21 : decode cX5_repair 21 = .ok (.ifCond .eq 11, 3) := by decide +kernel
theorem dX5_repair_24 : decode cX5_repair 24 = .ok (.aload_n 0, 1) := by decide +kernel
theorem dX5_repair_25 : decode cX5_repair 25 = .ok (.getfield 110, 3) := by decide +kernel
theorem dX5_repair_28 : decode cX5_repair 28 = .ok (.iconst (-1), 1) := by decide +kernel
theorem dX5_repair_29 : decode cX5_repair 29 = .ok (.if_icmp .ne 7, 3) := by decide +kernel
theorem dX5_repair_32 : decode cX5_repair 32 = .ok (.iconst 2, 1) := by decide +kernel
theorem dX5_repair_33 : decode cX5_repair 33 = .ok (.goto 4, 3) := by decide +kernel
theorem dX5_repair_36 : decode cX5_repair 36 = .ok (.iconst 0, 1) := by decide +kernel
theorem dX5_repair_37 : decode cX5_repair 37 = .ok (.invokevirtual 103, 3) := by decide +kernel
theorem dX5_repair_40 : decode cX5_repair 40 = .ok (.ifCond .eq 10, 3) := by decide +kernel
theorem dX5_repair_43 : decode cX5_repair 43 = .ok (.aload_n 0, 1) := by decide +kernel
theorem dX5_repair_44 : decode cX5_repair 44 = .ok (.getfield 74, 3) := by decide +kernel
theorem dX5_repair_47 : decode cX5_repair 47 = .ok (.iload_n 1, 1) := by decide +kernel
theorem dX5_repair_48 : decode cX5_repair 48 = .ok (.iconst 0, 1) := by decide +kernel
theorem dX5_repair_49 : decode cX5_repair 49 = .ok (.bastore, 1) := by decide +kernel
theorem dX5_repair_50 : decode cX5_repair 50 = .ok (.return_, 1) := by decide +kernel
theorem dX5_end_0 : decode cX5_end 0 = .ok (.aload_n 0, 1) := by decide +kernel
theorem dX5_end_1 : decode cX5_end 1 = .ok (.aload_n 0, 1) := by decide +kernel
theorem dX5_end_2 : decode cX5_end 2 = .ok (.getfield 110, 3) := by decide +kernel
theorem dX5_end_5 : decode cX5_end 5 = .ok (.iconst (-1), 1) := by decide +kernel
theorem dX5_end_6 : decode cX5_end 6 = .ok (.if_icmp .ne 13, 3) := by decide +kernel
theorem dX5_end_9 : decode cX5_end 9 = .ok (.aload_n 0, 1) := by decide +kernel
theorem dX5_end_10 : decode cX5_end 10 = .ok (.getfield 169, 3) := by decide +kernel
theorem dX5_end_13 : decode cX5_end 13 = .ok (.sipush 1000, 3) := by decide +kernel
theorem dX5_end_16 : decode cX5_end 16 = .ok (.if_icmp .ne 7, 3) := by decide +kernel
theorem dX5_end_19 : decode cX5_end 19 = .ok (.iconst 1, 1) := by decide +kernel
theorem dX5_end_20 : decode cX5_end 20 = .ok (.goto 4, 3) := by decide +kernel
theorem dX5_end_23 : decode cX5_end 23 = .ok (.iconst 0, 1) := by decide +kernel
theorem dX5_end_24 : decode cX5_end 24 = .ok (.invokevirtual 103, 3) := by decide +kernel
theorem dX5_end_27 : decode cX5_end 27 = .ok (.ifCond .ne 5, 3) := by decide +kernel
theorem dX5_end_30 : decode cX5_end 30 = .ok (.iconst 0, 1) := by decide +kernel
theorem dX5_end_31 : decode cX5_end 31 = .ok (.ireturn, 1) := by decide +kernel
theorem dX5_end_32 : decode cX5_end 32 = .ok (.iconst 0, 1) := by decide +kernel
theorem dX5_end_33 : decode cX5_end 33 = .ok (.istore_n 1, 1) := by decide +kernel
theorem dX5_end_34 : decode cX5_end 34 = .ok (.iconst 0, 1) := by decide +kernel
theorem dX5_end_35 : decode cX5_end 35 = .ok (.istore_n 2, 1) := by decide +kernel
theorem dX5_end_36 : decode cX5_end 36 = .ok (.iload_n 2, 1) := by decide +kernel
theorem dX5_end_37 : decode cX5_end 37 = .ok (.aload_n 0, 1) := by decide +kernel
theorem dX5_end_38 : decode cX5_end 38 = .ok (.getfield 93, 3) := by decide +kernel
theorem dX5_end_41 : decode cX5_end 41 = .ok (.if_icmp .ge 178, 3) := by decide +kernel
theorem dX5_end_44 : decode cX5_end 44 = .ok (.aload_n 0, 1) := by decide +kernel
theorem dX5_end_45 : decode cX5_end 45 = .ok (.getfield 47, 3) := by decide +kernel
theorem dX5_end_48 : decode cX5_end 48 = .ok (.iload_n 2, 1) := by decide +kernel
theorem dX5_end_49 : decode cX5_end 49 = .ok (.iaload, 1) := by decide +kernel
theorem dX5_end_50 : decode cX5_end 50 = .ok (.aload_n 0, 1) := by decide +kernel
theorem dX5_end_51 : decode cX5_end 51 = .ok (.getfield 7, 3) := by decide +kernel
theorem dX5_end_54 : decode cX5_end 54 = .ok (.iload_n 2, 1) := by decide +kernel
theorem dX5_end_55 : decode cX5_end 55 = .ok (.iaload, 1) := by decide +kernel
theorem dX5_end_56 : decode cX5_end 56 = .ok (.aload_n 0, 1) := by decide +kernel
theorem dX5_end_57 : decode cX5_end 57 = .ok (.getfield 16, 3) := by decide +kernel
theorem dX5_end_60 : decode cX5_end 60 = .ok (.iload_n 2, 1) := by decide +kernel
theorem dX5_end_61 : decode cX5_end 61 = .ok (.iaload, 1) := by decide +kernel
theorem dX5_end_62 : decode cX5_end 62 = .ok (.isub, 1) := by decide +kernel
theorem dX5_end_63 : decode cX5_end 63 = .ok (.invokestatic 126, 3) := by decide +kernel
theorem dX5_end_66 : decode cX5_end 66 = .ok (.istore_n 3, 1) := by decide +kernel
theorem dX5_end_67 : decode cX5_end 67 = .ok (.aload_n 0, 1) := by decide +kernel
theorem dX5_end_68 : decode cX5_end 68 = .ok (.getfield 16, 3) := by decide +kernel
theorem dX5_end_71 : decode cX5_end 71 = .ok (.iload_n 2, 1) := by decide +kernel
theorem dX5_end_72 : decode cX5_end 72 = .ok (.dup2, 1) := by decide +kernel
theorem dX5_end_73 : decode cX5_end 73 = .ok (.iaload, 1) := by decide +kernel
theorem dX5_end_74 : decode cX5_end 74 = .ok (.iload_n 3, 1) := by decide +kernel
theorem dX5_end_75 : decode cX5_end 75 = .ok (.iadd, 1) := by decide +kernel
theorem dX5_end_76 : decode cX5_end 76 = .ok (.iastore, 1) := by decide +kernel
theorem dX5_end_77 : decode cX5_end 77 = .ok (.aload_n 0, 1) := by decide +kernel
theorem dX5_end_78 : decode cX5_end 78 = .ok (.getfield 62, 3) := by decide +kernel
theorem dX5_end_81 : decode cX5_end 81 = .ok (.iload_n 2, 1) := by decide +kernel
theorem dX5_end_82 : decode cX5_end 82 = .ok (.dup2, 1) := by decide +kernel
theorem dX5_end_83 : decode cX5_end 83 = .ok (.iaload, 1) := by decide +kernel
theorem dX5_end_84 : decode cX5_end 84 = .ok (.aload_n 0, 1) := by decide +kernel
theorem dX5_end_85 : decode cX5_end 85 = .ok (.getfield 47, 3) := by decide +kernel
theorem dX5_end_88 : decode cX5_end 88 = .ok (.iload_n 2, 1) := by decide +kernel
theorem dX5_end_89 : decode cX5_end 89 = .ok (.iaload, 1) := by decide +kernel
theorem dX5_end_90 : decode cX5_end 90 = .ok (.iload_n 3, 1) := by decide +kernel
theorem dX5_end_91 : decode cX5_end 91 = .ok (.isub, 1) := by decide +kernel
theorem dX5_end_92 : decode cX5_end 92 = .ok (.iadd, 1) := by decide +kernel
theorem dX5_end_93 : decode cX5_end 93 = .ok (.iastore, 1) := by decide +kernel
theorem dX5_end_94 : decode cX5_end 94 = .ok (.aload_n 0, 1) := by decide +kernel
theorem dX5_end_95 : decode cX5_end 95 = .ok (.getfield 13, 3) := by decide +kernel
theorem dX5_end_98 : decode cX5_end 98 = .ok (.iload_n 2, 1) := by decide +kernel
theorem dX5_end_99 : decode cX5_end 99 = .ok (.iaload, 1) := by decide +kernel
theorem dX5_end_100 : decode cX5_end 100 = .ok (.aload_n 0, 1) := by decide +kernel
theorem dX5_end_101 : decode cX5_end 101 = .ok (.getfield 16, 3) := by decide +kernel
theorem dX5_end_104 : decode cX5_end 104 = .ok (.iload_n 2, 1) := by decide +kernel
theorem dX5_end_105 : decode cX5_end 105 = .ok (.iaload, 1) := by decide +kernel
theorem dX5_end_106 : decode cX5_end 106 = .ok (.invokestatic 126, 3) := by decide +kernel
theorem dX5_end_109 : decode cX5_end 109 = .ok (.istore 4, 2) := by decide +kernel
theorem dX5_end_111 : decode cX5_end 111 = .ok (.aload_n 0, 1) := by decide +kernel
theorem dX5_end_112 : decode cX5_end 112 = .ok (.getfield 16, 3) := by decide +kernel
theorem dX5_end_115 : decode cX5_end 115 = .ok (.iload_n 2, 1) := by decide +kernel
theorem dX5_end_116 : decode cX5_end 116 = .ok (.dup2, 1) := by decide +kernel
theorem dX5_end_117 : decode cX5_end 117 = .ok (.iaload, 1) := by decide +kernel
theorem dX5_end_118 : decode cX5_end 118 = .ok (.iload 4, 2) := by decide +kernel
theorem dX5_end_120 : decode cX5_end 120 = .ok (.isub, 1) := by decide +kernel
theorem dX5_end_121 : decode cX5_end 121 = .ok (.iastore, 1) := by decide +kernel
theorem dX5_end_122 : decode cX5_end 122 = .ok (.aload_n 0, 1) := by decide +kernel
theorem dX5_end_123 : decode cX5_end 123 = .ok (.getfield 56, 3) := by decide +kernel
theorem dX5_end_126 : decode cX5_end 126 = .ok (.iload_n 2, 1) := by decide +kernel
theorem dX5_end_127 : decode cX5_end 127 = .ok (.dup2, 1) := by decide +kernel
theorem dX5_end_128 : decode cX5_end 128 = .ok (.iaload, 1) := by decide +kernel
theorem dX5_end_129 : decode cX5_end 129 = .ok (.iload 4, 2) := by decide +kernel
theorem dX5_end_131 : decode cX5_end 131 = .ok (.iadd, 1) := by decide +kernel
theorem dX5_end_132 : decode cX5_end 132 = .ok (.iastore, 1) := by decide +kernel
theorem dX5_end_133 : decode cX5_end 133 = .ok (.aload_n 0, 1) := by decide +kernel
theorem dX5_end_134 : decode cX5_end 134 = .ok (.getfield 59, 3) := by decide +kernel
theorem dX5_end_137 : decode cX5_end 137 = .ok (.iload_n 2, 1) := by decide +kernel
theorem dX5_end_138 : decode cX5_end 138 = .ok (.dup2, 1) := by decide +kernel
theorem dX5_end_139 : decode cX5_end 139 = .ok (.iaload, 1) := by decide +kernel
theorem dX5_end_140 : decode cX5_end 140 = .ok (.aload_n 0, 1) := by decide +kernel
theorem dX5_end_141 : decode cX5_end 141 = .ok (.getfield 13, 3) := by decide +kernel
theorem dX5_end_144 : decode cX5_end 144 = .ok (.iload_n 2, 1) := by decide +kernel
theorem dX5_end_145 : decode cX5_end 145 = .ok (.iaload, 1) := by decide +kernel
theorem dX5_end_146 : decode cX5_end 146 = .ok (.iload 4, 2) := by decide +kernel
theorem dX5_end_148 : decode cX5_end 148 = .ok (.isub, 1) := by decide +kernel
theorem dX5_end_149 : decode cX5_end 149 = .ok (.iadd, 1) := by decide +kernel
theorem dX5_end_150 : decode cX5_end 150 = .ok (.iastore, 1) := by decide +kernel
theorem dX5_end_151 : decode cX5_end 151 = .ok (.iload_n 1, 1) := by decide +kernel
theorem dX5_end_152 : decode cX5_end 152 = .ok (.iload 4, 2) := by decide +kernel
theorem dX5_end_154 : decode cX5_end 154 = .ok (.aload_n 0, 1) := by decide +kernel
theorem dX5_end_155 : decode cX5_end 155 = .ok (.getfield 13, 3) := by decide +kernel
theorem dX5_end_158 : decode cX5_end 158 = .ok (.iload_n 2, 1) := by decide +kernel
theorem dX5_end_159 : decode cX5_end 159 = .ok (.iaload, 1) := by decide +kernel
theorem dX5_end_160 : decode cX5_end 160 = .ok (.if_icmp .ge 7, 3) := by decide +kernel
theorem dX5_end_163 : decode cX5_end 163 = .ok (.iconst 1, 1) := by decide +kernel
theorem dX5_end_164 : decode cX5_end 164 = .ok (.goto 4, 3) := by decide +kernel
theorem dX5_end_167 : decode cX5_end 167 = .ok (.iconst 0, 1) := by decide +kernel
theorem dX5_end_168 : decode cX5_end 168 = .ok (.iadd, 1) := by decide +kernel
theorem dX5_end_169 : decode cX5_end 169 = .ok (.istore_n 1, 1) := by decide +kernel
theorem dX5_end_170 : decode cX5_end 170 = .ok (.aload_n 0, 1) := by decide +kernel
theorem dX5_end_171 : decode cX5_end 171 = .ok (.dup, 1) := by decide +kernel
theorem dX5_end_172 : decode cX5_end 172 = .ok (.getfield 172, 3) := by decide +kernel
theorem dX5_end_175 : decode cX5_end 175 = .ok (.aload_n 0, 1) := by decide +kernel
theorem dX5_end_176 : decode cX5_end 176 = .ok (.getfield 47, 3) := by decide +kernel
theorem dX5_end_179 : decode cX5_end 179 = .ok (.iload_n 2, 1) := by decide +kernel
theorem dX5_end_180 : decode cX5_end 180 = .ok (.iaload, 1) := by decide +kernel
theorem dX5_end_181 : decode cX5_end 181 = .ok (.iadd, 1) := by decide +kernel
theorem dX5_end_182 : decode cX5_end 182 = .ok (.putfield 172, 3) := by decide +kernel
theorem dX5_end_185 : decode cX5_end 185 = .ok (.aload_n 0, 1) := by decide +kernel
theorem dX5_end_186 : decode cX5_end 186 = .ok (.getfield 47, 3) := by decide +kernel
theorem dX5_end_189 : decode cX5_end 189 = .ok (.iload_n 2, 1) := by decide +kernel
theorem dX5_end_190 : decode cX5_end 190 = .ok (.iconst 0, 1) := by decide +kernel
theorem dX5_end_191 : decode cX5_end 191 = .ok (.iastore, 1) := by decide +kernel
theorem dX5_end_192 : decode cX5_end 192 = .ok (.aload_n 0, 1) := by decide +kernel
theorem dX5_end_193 : decode cX5_end 193 = .ok (.getfield 28, 3) := by decide +kernel
theorem dX5_end_196 : decode cX5_end 196 = .ok (.iload_n 2, 1) := by decide +kernel
theorem dX5_end_197 : decode cX5_end 197 = .ok (.iconst 0, 1) := by decide +kernel
theorem dX5_end_198 : decode cX5_end 198 = .ok (.bastore, 1) := by decide +kernel
theorem dX5_end_199 : decode cX5_end 199 = .ok (.aload_n 0, 1) := by decide +kernel
theorem dX5_end_200 : decode cX5_end 200 = .ok (.getfield 44, 3) := by decide +kernel
theorem dX5_end_203 : decode cX5_end 203 = .ok (.iload_n 2, 1) := by decide +kernel
theorem dX5_end_204 : decode cX5_end 204 = .ok (.iconst 0, 1) := by decide +kernel
theorem dX5_end_205 : decode cX5_end 205 = .ok (.bastore, 1) := by decide +kernel
theorem dX5_end_206 : decode cX5_end 206 = .ok (.aload_n 0, 1) := by decide +kernel
theorem dX5_end_207 : decode cX5_end 207 = .ok (.getfield 19, 3) := by decide +kernel
theorem dX5_end_210 : decode cX5_end 210 = .ok (.iload_n 2, 1) := by decide +kernel
theorem dX5_end_211 : decode cX5_end 211 = .ok (.iconst 0, 1) := by decide +kernel
theorem dX5_end_212 : decode cX5_end 212 = .ok (.iastore, 1) := by decide +kernel
theorem dX5_end_213 : decode cX5_end 213 = .ok (.iinc 2 1, 3) := by decide +kernel
theorem dX5_end_216 : decode cX5_end 216 = .ok (.goto (-180), 3) := by decide +kernel
theorem dX5_end_219 : decode cX5_end 219 = .ok (.aload_n 0, 1) := by decide +kernel
theorem dX5_end_220 : decode cX5_end 220 = .ok (.dup, 1) := by decide +kernel
theorem dX5_end_221 : decode cX5_end 221 = .ok (.getfield 169, 3) := by decide +kernel
theorem dX5_end_224 : decode cX5_end 224 = .ok (.iconst 1, 1) := by decide +kernel
theorem dX5_end_225 : decode cX5_end 225 = .ok (.iadd, 1) := by decide +kernel
theorem dX5_end_226 : decode cX5_end 226 = .ok (.putfield 169, 3) := by decide +kernel
theorem dX5_end_229 : decode cX5_end 229 = .ok (.aload_n 0, 1) := by decide +kernel
theorem dX5_end_230 : decode cX5_end 230 = .ok (.iconst 0, 1) := by decide +kernel
theorem dX5_end_231 : decode cX5_end 231 = .ok (.putfield 110, 3) := by decide +kernel
theorem dX5_end_234 : decode cX5_end 234 = .ok (.iload_n 1, 1) := by decide +kernel
theorem dX5_end_235 : decode cX5_end 235 = .ok (.ireturn, 1) := by decide +kernel
theorem dX5_hour_0 : decode cX5_hour 0 = .ok (.aload_n 0, 1) := by decide +kernel
theorem dX5_hour_1 : decode cX5_hour 1 = .ok (.iconst 0, 1) := by decide +kernel
theorem dX5_hour_2 : decode cX5_hour 2 = .ok (.putfield 89, 3) := by decide +kernel
theorem dX5_hour_5 : decode cX5_hour 5 = .ok (.aload_n 0, 1) := by decide +kernel
theorem dX5_hour_6 : decode cX5_hour 6 = .ok (.getfield 169, 3) := by decide +kernel
theorem dX5_hour_9 : decode cX5_hour 9 = .ok (.ireturn, 1) := by decide +kernel
theorem dX5_round_0 : decode cX5_round 0 = .ok (.aload_n 0, 1) := by decide +kernel
theorem dX5_round_1 : decode cX5_round 1 = .ok (.iconst 0, 1) := by decide +kernel
theorem dX5_round_2 : decode cX5_round 2 = .ok (.putfield 89, 3) := by decide +kernel
theorem dX5_round_5 : decode cX5_round 5 = .ok (.aload_n 0, 1) := by decide +kernel
theorem dX5_round_6 : decode cX5_round 6 = .ok (.getfield 110, 3) := by decide +kernel
theorem dX5_round_9 : decode cX5_round 9 = .ok (.ireturn, 1) := by decide +kernel
theorem dX5_ofDistrict_0 : decode cX5_ofDistrict 0 = .ok (.aload_n 0, 1) := by decide +kernel
theorem dX5_ofDistrict_1 : decode cX5_ofDistrict 1 = .ok (.aload_n 0, 1) := by decide +kernel
theorem dX5_ofDistrict_2 : decode cX5_ofDistrict 2 = .ok (.iload_n 1, 1) := by decide +kernel
theorem dX5_ofDistrict_3 : decode cX5_ofDistrict 3 = .ok (.invokevirtual 107, 3) := by decide +kernel
theorem dX5_ofDistrict_6 : decode cX5_ofDistrict 6 = .ok (.ifCond .eq 17, 3) := by decide +kernel
theorem dX5_ofDistrict_9 : decode cX5_ofDistrict 9 = .ok (.iload_n 2, 1) := by decide +kernel
theorem dX5_ofDistrict_10 : decode cX5_ofDistrict 10 = .ok (.iconst 0, 1) := by decide +kernel
theorem dX5_ofDistrict_11 : decode cX5_ofDistrict 11 = .ok (.bipush 8, 2) := by decide +kernel
theorem dX5_ofDistrict_13 : decode cX5_ofDistrict 13 = .ok (.invokestatic 96, 3) := by decide +kernel
theorem dX5_ofDistrict_16 : decode cX5_ofDistrict 16 = .ok (.ifCond .eq 7, 3) := by decide +kernel
theorem dX5_ofDistrict_19 : decode cX5_ofDistrict 19 = .ok (.iconst 0, 1) := by decide +kernel
theorem dX5_ofDistrict_20 : decode cX5_ofDistrict 20 = .ok (.goto 4, 3) := by decide +kernel
theorem dX5_ofDistrict_23 : decode cX5_ofDistrict 23 = .ok (.iconst 1, 1) := by decide +kernel
theorem dX5_ofDistrict_24 : decode cX5_ofDistrict 24 = .ok (.invokevirtual 103, 3) := by decide +kernel
theorem dX5_ofDistrict_27 : decode cX5_ofDistrict 27 = .ok (.ifCond .ne 5, 3) := by decide +kernel
theorem dX5_ofDistrict_30 : decode cX5_ofDistrict 30 = .ok (.iconst 0, 1) := by decide +kernel
theorem dX5_ofDistrict_31 : decode cX5_ofDistrict 31 = .ok (.ireturn, 1) := by decide +kernel
theorem dX5_ofDistrict_32 : decode cX5_ofDistrict 32 = .ok (.iload_n 2, 1) := by decide +kernel
theorem dX5_ofDistrict_33 : decode cX5_ofDistrict 33 = .ok (.tableswitch 129 0 7 #[47, 54, 74, 94, 101, 108, 115, 122], 47) := by decide +kernel
theorem dX5_ofDistrict_80 : decode cX5_ofDistrict 80 = .ok (.aload_n 0, 1) := by decide +kernel
theorem dX5_ofDistrict_81 : decode cX5_ofDistrict 81 = .ok (.getfield 16, 3) := by decide +kernel
theorem dX5_ofDistrict_84 : decode cX5_ofDistrict 84 = .ok (.iload_n 1, 1) := by decide +kernel
theorem dX5_ofDistrict_85 : decode cX5_ofDistrict 85 = .ok (.iaload, 1) := by decide +kernel
theorem dX5_ofDistrict_86 : decode cX5_ofDistrict 86 = .ok (.ireturn, 1) := by decide +kernel
theorem dX5_ofDistrict_87 : decode cX5_ofDistrict 87 = .ok (.aload_n 0, 1) := by decide +kernel
theorem dX5_ofDistrict_88 : decode cX5_ofDistrict 88 = .ok (.getfield 28, 3) := by decide +kernel
theorem dX5_ofDistrict_91 : decode cX5_ofDistrict 91 = .ok (.iload_n 1, 1) := by decide +kernel
theorem dX5_ofDistrict_92 : decode cX5_ofDistrict 92 = .ok (.baload, 1) := by decide +kernel
theorem dX5_ofDistrict_93 : decode cX5_ofDistrict 93 = .ok (.ifCond .eq 12, 3) := by decide +kernel
theorem dX5_ofDistrict_96 : decode cX5_ofDistrict 96 = .ok (.aload_n 0, 1) := by decide +kernel
theorem dX5_ofDistrict_97 : decode cX5_ofDistrict 97 = .ok (.getfield 19, 3) := by decide +kernel
theorem dX5_ofDistrict_100 : decode cX5_ofDistrict 100 = .ok (.iload_n 1, 1) := by decide +kernel
theorem dX5_ofDistrict_101 : decode cX5_ofDistrict 101 = .ok (.iaload, 1) := by decide +kernel
theorem dX5_ofDistrict_102 : decode cX5_ofDistrict 102 = .ok (.goto 4, 3) := by decide +kernel
theorem dX5_ofDistrict_105 : decode cX5_ofDistrict 105 = .ok (.iconst (-1), 1) := by decide +kernel
theorem dX5_ofDistrict_106 : decode cX5_ofDistrict 106 = .ok (.ireturn, 1) := by decide +kernel
theorem dX5_ofDistrict_107 : decode cX5_ofDistrict 107 = .ok (.aload_n 0, 1) := by decide +kernel
theorem dX5_ofDistrict_108 : decode cX5_ofDistrict 108 = .ok (.getfield 28, 3) := by decide +kernel
theorem dX5_ofDistrict_111 : decode cX5_ofDistrict 111 = .ok (.iload_n 1, 1) := by decide +kernel
theorem dX5_ofDistrict_112 : decode cX5_ofDistrict 112 = .ok (.baload, 1) := by decide +kernel
theorem dX5_ofDistrict_113 : decode cX5_ofDistrict 113 = .ok (.ifCond .eq 12, 3) := by decide +kernel
theorem dX5_ofDistrict_116 : decode cX5_ofDistrict 116 = .ok (.aload_n 0, 1) := by decide +kernel
theorem dX5_ofDistrict_117 : decode cX5_ofDistrict 117 = .ok (.getfield 22, 3) := by decide +kernel
theorem dX5_ofDistrict_120 : decode cX5_ofDistrict 120 = .ok (.iload_n 1, 1) := by decide +kernel
theorem dX5_ofDistrict_121 : decode cX5_ofDistrict 121 = .ok (.iaload, 1) := by decide +kernel
theorem dX5_ofDistrict_122 : decode cX5_ofDistrict 122 = .ok (.goto 4, 3) := by decide +kernel
theorem dX5_ofDistrict_125 : decode cX5_ofDistrict 125 = .ok (.iconst (-1), 1) := by decide +kernel
theorem dX5_ofDistrict_126 : decode cX5_ofDistrict 126 = .ok (.ireturn, 1) := by decide +kernel
theorem dX5_ofDistrict_127 : decode cX5_ofDistrict 127 = .ok (.aload_n 0, 1) := by decide +kernel
theorem dX5_ofDistrict_128 : decode cX5_ofDistrict 128 = .ok (.getfield 47, 3) := by decide +kernel
theorem dX5_ofDistrict_131 : decode cX5_ofDistrict 131 = .ok (.iload_n 1, 1) := by decide +kernel
theorem dX5_ofDistrict_132 : decode cX5_ofDistrict 132 = .ok (.iaload, 1) := by decide +kernel
theorem dX5_ofDistrict_133 : decode cX5_ofDistrict 133 = .ok (.ireturn, 1) := by decide +kernel
theorem dX5_ofDistrict_134 : decode cX5_ofDistrict 134 = .ok (.aload_n 0, 1) := by decide +kernel
theorem dX5_ofDistrict_135 : decode cX5_ofDistrict 135 = .ok (.getfield 50, 3) := by decide +kernel
theorem dX5_ofDistrict_138 : decode cX5_ofDistrict 138 = .ok (.iload_n 1, 1) := by decide +kernel
theorem dX5_ofDistrict_139 : decode cX5_ofDistrict 139 = .ok (.iaload, 1) := by decide +kernel
theorem dX5_ofDistrict_140 : decode cX5_ofDistrict 140 = .ok (.ireturn, 1) := by decide +kernel
theorem dX5_ofDistrict_141 : decode cX5_ofDistrict 141 = .ok (.aload_n 0, 1) := by decide +kernel
theorem dX5_ofDistrict_142 : decode cX5_ofDistrict 142 = .ok (.getfield 53, 3) := by decide +kernel
theorem dX5_ofDistrict_145 : decode cX5_ofDistrict 145 = .ok (.iload_n 1, 1) := by decide +kernel
theorem dX5_ofDistrict_146 : decode cX5_ofDistrict 146 = .ok (.iaload, 1) := by decide +kernel
theorem dX5_ofDistrict_147 : decode cX5_ofDistrict 147 = .ok (.ireturn, 1) := by decide +kernel
theorem dX5_ofDistrict_148 : decode cX5_ofDistrict 148 = .ok (.aload_n 0, 1) := by decide +kernel
theorem dX5_ofDistrict_149 : decode cX5_ofDistrict 149 = .ok (.getfield 56, 3) := by decide +kernel
theorem dX5_ofDistrict_152 : decode cX5_ofDistrict 152 = .ok (.iload_n 1, 1) := by decide +kernel
theorem dX5_ofDistrict_153 : decode cX5_ofDistrict 153 = .ok (.iaload, 1) := by decide +kernel
theorem dX5_ofDistrict_154 : decode cX5_ofDistrict 154 = .ok (.ireturn, 1) := by decide +kernel
theorem dX5_ofDistrict_155 : decode cX5_ofDistrict 155 = .ok (.aload_n 0, 1) := by decide +kernel
theorem dX5_ofDistrict_156 : decode cX5_ofDistrict 156 = .ok (.getfield 59, 3) := by decide +kernel
theorem dX5_ofDistrict_159 : decode cX5_ofDistrict 159 = .ok (.iload_n 1, 1) := by decide +kernel
theorem dX5_ofDistrict_160 : decode cX5_ofDistrict 160 = .ok (.iaload, 1) := by decide +kernel
theorem dX5_ofDistrict_161 : decode cX5_ofDistrict 161 = .ok (.ireturn, 1) := by decide +kernel
theorem dX5_ofDistrict_162 : decode cX5_ofDistrict 162 = .ok (.aload_n 0, 1) := by decide +kernel
theorem dX5_ofDistrict_163 : decode cX5_ofDistrict 163 = .ok (.getfield 62, 3) := by decide +kernel
theorem dX5_ofDistrict_166 : decode cX5_ofDistrict 166 = .ok (.iload_n 1, 1) := by decide +kernel
theorem dX5_ofDistrict_167 : decode cX5_ofDistrict 167 = .ok (.iaload, 1) := by decide +kernel
theorem dX5_ofDistrict_168 : decode cX5_ofDistrict 168 = .ok (.ireturn, 1) := by decide +kernel
theorem dX5_flowAnew_0 : decode cX5_flowAnew 0 = .ok (.aload_n 0, 1) := by decide +kernel
theorem dX5_flowAnew_1 : decode cX5_flowAnew 1 = .ok (.aload_n 0, 1) := by decide +kernel
theorem dX5_flowAnew_2 : decode cX5_flowAnew 2 = .ok (.iload_n 1, 1) := by decide +kernel
theorem dX5_flowAnew_3 : decode cX5_flowAnew 3 = .ok (.invokevirtual 107, 3) := by decide +kernel
theorem dX5_flowAnew_6 : decode cX5_flowAnew 6 = .ok (.ifCond .eq 7, 3) := by decide +kernel
theorem dX5_flowAnew_9 : decode cX5_flowAnew 9 = .ok (.iconst 0, 1) := by decide +kernel
theorem dX5_flowAnew_10 : decode cX5_flowAnew 10 = .ok (.goto 4, 3) := by decide +kernel
theorem dX5_flowAnew_13 : decode cX5_flowAnew 13 = .ok (.iconst 1, 1) := by decide +kernel
theorem dX5_flowAnew_14 : decode cX5_flowAnew 14 = .ok (.invokevirtual 103, 3) := by decide +kernel
theorem dX5_flowAnew_17 : decode cX5_flowAnew 17 = .ok (.ifCond .eq 12, 3) := by decide +kernel
theorem dX5_flowAnew_20 : decode cX5_flowAnew 20 = .ok (.aload_n 0, 1) := by decide +kernel
theorem dX5_flowAnew_21 : decode cX5_flowAnew 21 = .ok (.getfield 47, 3) := by decide +kernel
theorem dX5_flowAnew_24 : decode cX5_flowAnew 24 = .ok (.iload_n 1, 1) := by decide +kernel
theorem dX5_flowAnew_25 : decode cX5_flowAnew 25 = .ok (.iaload, 1) := by decide +kernel
theorem dX5_flowAnew_26 : decode cX5_flowAnew 26 = .ok (.goto 4, 3) := by decide +kernel
theorem dX5_flowAnew_29 : decode cX5_flowAnew 29 = .ok (.iconst 0, 1) := by decide +kernel
theorem dX5_flowAnew_30 : decode cX5_flowAnew 30 = .ok (.ireturn, 1) := by decide +kernel
theorem dX5_most_0 : decode cX5_most 0 = .ok (.aload_n 0, 1) := by decide +kernel
theorem dX5_most_1 : decode cX5_most 1 = .ok (.iload_n 1, 1) := by decide +kernel
theorem dX5_most_2 : decode cX5_most 2 = .ok (.ifCond .lt 13, 3) := by decide +kernel
theorem dX5_most_5 : decode cX5_most 5 = .ok (.iload_n 1, 1) := by decide +kernel
theorem dX5_most_6 : decode cX5_most 6 = .ok (.iconst 1, 1) := by decide +kernel
theorem dX5_most_7 : decode cX5_most 7 = .ok (.aload_n 0, 1) := by decide +kernel
theorem dX5_most_8 : decode cX5_most 8 = .ok (.getfield 93, 3) := by decide +kernel
theorem dX5_most_11 : decode cX5_most 11 = .ok (.ishl, 1) := by decide +kernel
theorem dX5_most_12 : decode cX5_most 12 = .ok (.if_icmp .lt 7, 3) := by decide +kernel
theorem dX5_most_15 : decode cX5_most 15 = .ok (.iconst 1, 1) := by decide +kernel
theorem dX5_most_16 : decode cX5_most 16 = .ok (.goto 4, 3) := by decide +kernel
theorem dX5_most_19 : decode cX5_most 19 = .ok (.iconst 0, 1) := by decide +kernel
theorem dX5_most_20 : decode cX5_most 20 = .ok (.invokevirtual 103, 3) := by decide +kernel
theorem dX5_most_23 : decode cX5_most 23 = .ok (.ifCond .ne 5, 3) := by decide +kernel
theorem dX5_most_26 : decode cX5_most 26 = .ok (.iconst 0, 1) := by decide +kernel
theorem dX5_most_27 : decode cX5_most 27 = .ok (.ireturn, 1) := by decide +kernel
theorem dX5_most_28 : decode cX5_most 28 = .ok (.aload_n 0, 1) := by decide +kernel
theorem dX5_most_29 : decode cX5_most 29 = .ok (.invokevirtual 141, 3) := by decide +kernel
theorem dX5_most_32 : decode cX5_most 32 = .ok (.iconst 0, 1) := by decide +kernel
theorem dX5_most_33 : decode cX5_most 33 = .ok (.istore_n 2, 1) := by decide +kernel
theorem dX5_most_34 : decode cX5_most 34 = .ok (.iconst 0, 1) := by decide +kernel
theorem dX5_most_35 : decode cX5_most 35 = .ok (.istore_n 3, 1) := by decide +kernel
theorem dX5_most_36 : decode cX5_most 36 = .ok (.iload_n 3, 1) := by decide +kernel
theorem dX5_most_37 : decode cX5_most 37 = .ok (.aload_n 0, 1) := by decide +kernel
theorem dX5_most_38 : decode cX5_most 38 = .ok (.getfield 93, 3) := by decide +kernel
theorem dX5_most_41 : decode cX5_most 41 = .ok (.if_icmp .ge 33, 3) := by decide +kernel
theorem dX5_most_44 : decode cX5_most 44 = .ok (.iload_n 2, 1) := by decide +kernel
theorem dX5_most_45 : decode cX5_most 45 = .ok (.iload_n 1, 1) := by decide +kernel
theorem dX5_most_46 : decode cX5_most 46 = .ok (.iload_n 3, 1) := by decide +kernel
theorem dX5_most_47 : decode cX5_most 47 = .ok (.ishr, 1) := by decide +kernel
theorem dX5_most_48 : decode cX5_most 48 = .ok (.iconst 1, 1) := by decide +kernel
theorem dX5_most_49 : decode cX5_most 49 = .ok (.iand, 1) := by decide +kernel
theorem dX5_most_50 : decode cX5_most 50 = .ok (.iconst 1, 1) := by decide +kernel
theorem dX5_most_51 : decode cX5_most 51 = .ok (.if_icmp .ne 14, 3) := by decide +kernel
theorem dX5_most_54 : decode cX5_most 54 = .ok (.aload_n 0, 1) := by decide +kernel
theorem dX5_most_55 : decode cX5_most 55 = .ok (.iload_n 3, 1) := by decide +kernel
theorem dX5_most_56 : decode cX5_most 56 = .ok (.sipush 9999, 3) := by decide +kernel
theorem dX5_most_59 : decode cX5_most 59 = .ok (.invokevirtual 151, 3) := by decide +kernel
theorem dX5_most_62 : decode cX5_most 62 = .ok (.goto 4, 3) := by decide +kernel
theorem dX5_most_65 : decode cX5_most 65 = .ok (.iconst 0, 1) := by decide +kernel
theorem dX5_most_66 : decode cX5_most 66 = .ok (.iadd, 1) := by decide +kernel
theorem dX5_most_67 : decode cX5_most 67 = .ok (.istore_n 2, 1) := by decide +kernel
theorem dX5_most_68 : decode cX5_most 68 = .ok (.iinc 3 1, 3) := by decide +kernel
theorem dX5_most_71 : decode cX5_most 71 = .ok (.goto (-35), 3) := by decide +kernel
theorem dX5_most_74 : decode cX5_most 74 = .ok (.iload_n 2, 1) := by decide +kernel
theorem dX5_most_75 : decode cX5_most 75 = .ok (.ireturn, 1) := by decide +kernel
theorem dX5_place_0 : decode cX5_place 0 = .ok (.aload_n 0, 1) := by decide +kernel
theorem dX5_place_1 : decode cX5_place 1 = .ok (.aload_n 0, 1) := by decide +kernel
theorem dX5_place_2 : decode cX5_place 2 = .ok (.iload_n 1, 1) := by decide +kernel
theorem dX5_place_3 : decode cX5_place 3 = .ok (.invokevirtual 107, 3) := by decide +kernel
theorem dX5_place_6 : decode cX5_place 6 = .ok (.ifCond .eq 7, 3) := by decide +kernel
theorem dX5_place_9 : decode cX5_place 9 = .ok (.iconst 0, 1) := by decide +kernel
theorem dX5_place_10 : decode cX5_place 10 = .ok (.goto 4, 3) := by decide +kernel
theorem dX5_place_13 : decode cX5_place 13 = .ok (.iconst 1, 1) := by decide +kernel
theorem dX5_place_14 : decode cX5_place 14 = .ok (.invokevirtual 103, 3) := by decide +kernel
theorem dX5_place_17 : decode cX5_place 17 = .ok (.ifCond .ne 5, 3) := by decide +kernel
theorem dX5_place_20 : decode cX5_place 20 = .ok (.iconst 0, 1) := by decide +kernel
theorem dX5_place_21 : decode cX5_place 21 = .ok (.ireturn, 1) := by decide +kernel
theorem dX5_place_22 : decode cX5_place 22 = .ok (.aload_n 0, 1) := by decide +kernel
theorem dX5_place_23 : decode cX5_place 23 = .ok (.getfield 28, 3) := by decide +kernel
theorem dX5_place_26 : decode cX5_place 26 = .ok (.iload_n 1, 1) := by decide +kernel
theorem dX5_place_27 : decode cX5_place 27 = .ok (.baload, 1) := by decide +kernel
theorem dX5_place_28 : decode cX5_place 28 = .ok (.ifCond .eq 11, 3) := by decide +kernel
theorem dX5_place_31 : decode cX5_place 31 = .ok (.aload_n 0, 1) := by decide +kernel
theorem dX5_place_32 : decode cX5_place 32 = .ok (.iload_n 1, 1) := by decide +kernel
theorem dX5_place_33 : decode cX5_place 33 = .ok (.invokevirtual 138, 3) := by decide +kernel
theorem dX5_place_36 : decode cX5_place 36 = .ok (.goto 4, 3) := by decide +kernel
theorem dX5_place_39 : decode cX5_place 39 = .ok (.iconst (-1), 1) := by decide +kernel
theorem dX5_place_40 : decode cX5_place 40 = .ok (.ireturn, 1) := by decide +kernel
theorem dX5_sum_0 : decode cX5_sum 0 = .ok (.iconst 0, 1) := by decide +kernel
theorem dX5_sum_1 : decode cX5_sum 1 = .ok (.istore_n 2, 1) := by decide +kernel
theorem dX5_sum_2 : decode cX5_sum 2 = .ok (.iconst 0, 1) := by decide +kernel
theorem dX5_sum_3 : decode cX5_sum 3 = .ok (.istore_n 3, 1) := by decide +kernel
theorem dX5_sum_4 : decode cX5_sum 4 = .ok (.iload_n 3, 1) := by decide +kernel
theorem dX5_sum_5 : decode cX5_sum 5 = .ok (.aload_n 0, 1) := by decide +kernel
theorem dX5_sum_6 : decode cX5_sum 6 = .ok (.getfield 93, 3) := by decide +kernel
theorem dX5_sum_9 : decode cX5_sum 9 = .ok (.if_icmp .ge 15, 3) := by decide +kernel
theorem dX5_sum_12 : decode cX5_sum 12 = .ok (.iload_n 2, 1) := by decide +kernel
theorem dX5_sum_13 : decode cX5_sum 13 = .ok (.aload_n 1, 1) := by decide +kernel
theorem dX5_sum_14 : decode cX5_sum 14 = .ok (.iload_n 3, 1) := by decide +kernel
theorem dX5_sum_15 : decode cX5_sum 15 = .ok (.iaload, 1) := by decide +kernel
theorem dX5_sum_16 : decode cX5_sum 16 = .ok (.iadd, 1) := by decide +kernel
theorem dX5_sum_17 : decode cX5_sum 17 = .ok (.istore_n 2, 1) := by decide +kernel
theorem dX5_sum_18 : decode cX5_sum 18 = .ok (.iinc 3 1, 3) := by decide +kernel
theorem dX5_sum_21 : decode cX5_sum 21 = .ok (.goto (-17), 3) := by decide +kernel
theorem dX5_sum_24 : decode cX5_sum 24 = .ok (.iload_n 2, 1) := by decide +kernel
theorem dX5_sum_25 : decode cX5_sum 25 = .ok (.ireturn, 1) := by decide +kernel
theorem dX5_burstPipes_0 : decode cX5_burstPipes 0 = .ok (.iconst 0, 1) := by decide +kernel
theorem dX5_burstPipes_1 : decode cX5_burstPipes 1 = .ok (.istore_n 1, 1) := by decide +kernel
theorem dX5_burstPipes_2 : decode cX5_burstPipes 2 = .ok (.iconst 0, 1) := by decide +kernel
theorem dX5_burstPipes_3 : decode cX5_burstPipes 3 = .ok (.istore_n 2, 1) := by decide +kernel
theorem dX5_burstPipes_4 : decode cX5_burstPipes 4 = .ok (.iload_n 2, 1) := by decide +kernel
theorem dX5_burstPipes_5 : decode cX5_burstPipes 5 = .ok (.aload_n 0, 1) := by decide +kernel
theorem dX5_burstPipes_6 : decode cX5_burstPipes 6 = .ok (.getfield 100, 3) := by decide +kernel
theorem dX5_burstPipes_9 : decode cX5_burstPipes 9 = .ok (.if_icmp .ge 26, 3) := by decide +kernel
theorem dX5_burstPipes_12 : decode cX5_burstPipes 12 = .ok (.iload_n 1, 1) := by decide +kernel
theorem dX5_burstPipes_13 : decode cX5_burstPipes 13 = .ok (.aload_n 0, 1) := by decide +kernel
theorem dX5_burstPipes_14 : decode cX5_burstPipes 14 = .ok (.getfield 74, 3) := by decide +kernel
theorem dX5_burstPipes_17 : decode cX5_burstPipes 17 = .ok (.iload_n 2, 1) := by decide +kernel
theorem dX5_burstPipes_18 : decode cX5_burstPipes 18 = .ok (.baload, 1) := by decide +kernel
theorem dX5_burstPipes_19 : decode cX5_burstPipes 19 = .ok (.ifCond .eq 7, 3) := by decide +kernel
theorem dX5_burstPipes_22 : decode cX5_burstPipes 22 = .ok (.iconst 1, 1) := by decide +kernel
theorem dX5_burstPipes_23 : decode cX5_burstPipes 23 = .ok (.goto 4, 3) := by decide +kernel
theorem dX5_burstPipes_26 : decode cX5_burstPipes 26 = .ok (.iconst 0, 1) := by decide +kernel
theorem dX5_burstPipes_27 : decode cX5_burstPipes 27 = .ok (.iadd, 1) := by decide +kernel
theorem dX5_burstPipes_28 : decode cX5_burstPipes 28 = .ok (.istore_n 1, 1) := by decide +kernel
theorem dX5_burstPipes_29 : decode cX5_burstPipes 29 = .ok (.iinc 2 1, 3) := by decide +kernel
theorem dX5_burstPipes_32 : decode cX5_burstPipes 32 = .ok (.goto (-28), 3) := by decide +kernel
theorem dX5_burstPipes_35 : decode cX5_burstPipes 35 = .ok (.iload_n 1, 1) := by decide +kernel
theorem dX5_burstPipes_36 : decode cX5_burstPipes 36 = .ok (.ireturn, 1) := by decide +kernel
theorem dX5_count_0 : decode cX5_count 0 = .ok (.aload_n 0, 1) := by decide +kernel
theorem dX5_count_1 : decode cX5_count 1 = .ok (.iload_n 1, 1) := by decide +kernel
theorem dX5_count_2 : decode cX5_count 2 = .ok (.iconst 0, 1) := by decide +kernel
theorem dX5_count_3 : decode cX5_count 3 = .ok (.bipush 7, 2) := by decide +kernel
theorem dX5_count_5 : decode cX5_count 5 = .ok (.invokestatic 96, 3) := by decide +kernel
theorem dX5_count_8 : decode cX5_count 8 = .ok (.ifCond .eq 7, 3) := by decide +kernel
theorem dX5_count_11 : decode cX5_count 11 = .ok (.iconst 0, 1) := by decide +kernel
theorem dX5_count_12 : decode cX5_count 12 = .ok (.goto 4, 3) := by decide +kernel
theorem dX5_count_15 : decode cX5_count 15 = .ok (.iconst 1, 1) := by decide +kernel
theorem dX5_count_16 : decode cX5_count 16 = .ok (.invokevirtual 103, 3) := by decide +kernel
theorem dX5_count_19 : decode cX5_count 19 = .ok (.ifCond .ne 5, 3) := by decide +kernel
theorem dX5_count_22 : decode cX5_count 22 = .ok (.iconst 0, 1) := by decide +kernel
theorem dX5_count_23 : decode cX5_count 23 = .ok (.ireturn, 1) := by decide +kernel
theorem dX5_count_24 : decode cX5_count 24 = .ok (.iload_n 1, 1) := by decide +kernel
theorem dX5_count_25 : decode cX5_count 25 = .ok (.tableswitch 99 0 6 #[43, 48, 53, 58, 63, 72, 81], 43) := by decide +kernel
theorem dX5_count_68 : decode cX5_count 68 = .ok (.aload_n 0, 1) := by decide +kernel
theorem dX5_count_69 : decode cX5_count 69 = .ok (.getfield 93, 3) := by decide +kernel
theorem dX5_count_72 : decode cX5_count 72 = .ok (.ireturn, 1) := by decide +kernel
theorem dX5_count_73 : decode cX5_count 73 = .ok (.aload_n 0, 1) := by decide +kernel
theorem dX5_count_74 : decode cX5_count 74 = .ok (.getfield 100, 3) := by decide +kernel
theorem dX5_count_77 : decode cX5_count 77 = .ok (.ireturn, 1) := by decide +kernel
theorem dX5_count_78 : decode cX5_count 78 = .ok (.aload_n 0, 1) := by decide +kernel
theorem dX5_count_79 : decode cX5_count 79 = .ok (.invokevirtual 175, 3) := by decide +kernel
theorem dX5_count_82 : decode cX5_count 82 = .ok (.ireturn, 1) := by decide +kernel
theorem dX5_count_83 : decode cX5_count 83 = .ok (.aload_n 0, 1) := by decide +kernel
theorem dX5_count_84 : decode cX5_count 84 = .ok (.invokevirtual 144, 3) := by decide +kernel
theorem dX5_count_87 : decode cX5_count 87 = .ok (.ireturn, 1) := by decide +kernel
theorem dX5_count_88 : decode cX5_count 88 = .ok (.aload_n 0, 1) := by decide +kernel
theorem dX5_count_89 : decode cX5_count 89 = .ok (.aload_n 0, 1) := by decide +kernel
theorem dX5_count_90 : decode cX5_count 90 = .ok (.getfield 47, 3) := by decide +kernel
theorem dX5_count_93 : decode cX5_count 93 = .ok (.invokevirtual 178, 3) := by decide +kernel
theorem dX5_count_96 : decode cX5_count 96 = .ok (.ireturn, 1) := by decide +kernel
theorem dX5_count_97 : decode cX5_count 97 = .ok (.aload_n 0, 1) := by decide +kernel
theorem dX5_count_98 : decode cX5_count 98 = .ok (.aload_n 0, 1) := by decide +kernel
theorem dX5_count_99 : decode cX5_count 99 = .ok (.getfield 16, 3) := by decide +kernel
theorem dX5_count_102 : decode cX5_count 102 = .ok (.invokevirtual 178, 3) := by decide +kernel
theorem dX5_count_105 : decode cX5_count 105 = .ok (.ireturn, 1) := by decide +kernel
theorem dX5_count_106 : decode cX5_count 106 = .ok (.aload_n 0, 1) := by decide +kernel
theorem dX5_count_107 : decode cX5_count 107 = .ok (.aload_n 0, 1) := by decide +kernel
theorem dX5_count_108 : decode cX5_count 108 = .ok (.getfield 50, 3) := by decide +kernel
theorem dX5_count_111 : decode cX5_count 111 = .ok (.invokevirtual 178, 3) := by decide +kernel
theorem dX5_count_114 : decode cX5_count 114 = .ok (.aload_n 0, 1) := by decide +kernel
theorem dX5_count_115 : decode cX5_count 115 = .ok (.aload_n 0, 1) := by decide +kernel
theorem dX5_count_116 : decode cX5_count 116 = .ok (.getfield 53, 3) := by decide +kernel
theorem dX5_count_119 : decode cX5_count 119 = .ok (.invokevirtual 178, 3) := by decide +kernel
theorem dX5_count_122 : decode cX5_count 122 = .ok (.isub, 1) := by decide +kernel
theorem dX5_count_123 : decode cX5_count 123 = .ok (.ireturn, 1) := by decide +kernel
theorem dX5_count_124 : decode cX5_count 124 = .ok (.aload_n 0, 1) := by decide +kernel
theorem dX5_count_125 : decode cX5_count 125 = .ok (.getfield 172, 3) := by decide +kernel
theorem dX5_count_128 : decode cX5_count 128 = .ok (.ireturn, 1) := by decide +kernel
