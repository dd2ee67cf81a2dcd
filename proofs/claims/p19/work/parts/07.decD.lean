theorem dL_draw_0 : decode cL_draw 0 = .ok (.iload_n 1, 1) := by decide +kernel
theorem dL_draw_1 : decode cL_draw 1 = .ok (.aload_n 0, 1) := by decide +kernel
theorem dL_draw_2 : decode cL_draw 2 = .ok (.arraylength, 1) := by decide +kernel
theorem dL_draw_3 : decode cL_draw 3 = .ok (.if_icmp .ge 9, 3) := by decide +kernel
theorem dL_draw_6 : decode cL_draw 6 = .ok (.aload_n 0, 1) := by decide +kernel
theorem dL_draw_7 : decode cL_draw 7 = .ok (.iload_n 1, 1) := by decide +kernel
theorem dL_draw_8 : decode cL_draw 8 = .ok (.iaload, 1) := by decide +kernel
theorem dL_draw_9 : decode cL_draw 9 = .ok (.goto 14, 3) := by decide +kernel
theorem dL_draw_12 : decode cL_draw 12 = .ok (.ldc 7, 2) := by decide +kernel
theorem dL_draw_14 : decode cL_draw 14 = .ok (.iload_n 1, 1) := by decide +kernel
theorem dL_draw_15 : decode cL_draw 15 = .ok (.sipush 967, 3) := by decide +kernel
theorem dL_draw_18 : decode cL_draw 18 = .ok (.iadd, 1) := by decide +kernel
theorem dL_draw_19 : decode cL_draw 19 = .ok (.imul, 1) := by decide +kernel
theorem dL_draw_20 : decode cL_draw 20 = .ok (.ldc 8, 2) := by decide +kernel
theorem dL_draw_22 : decode cL_draw 22 = .ok (.iadd, 1) := by decide +kernel
theorem dL_draw_23 : decode cL_draw 23 = .ok (.istore_n 3, 1) := by decide +kernel
theorem dL_draw_24 : decode cL_draw 24 = .ok (.iload_n 3, 1) := by decide +kernel
theorem dL_draw_25 : decode cL_draw 25 = .ok (.ldc 9, 2) := by decide +kernel
theorem dL_draw_27 : decode cL_draw 27 = .ok (.iand, 1) := by decide +kernel
theorem dL_draw_28 : decode cL_draw 28 = .ok (.iload_n 2, 1) := by decide +kernel
theorem dL_draw_29 : decode cL_draw 29 = .ok (.irem, 1) := by decide +kernel
theorem dL_draw_30 : decode cL_draw 30 = .ok (.ireturn, 1) := by decide +kernel
theorem dL_mends_0 : decode cL_mends 0 = .ok (.aload_n 0, 1) := by decide +kernel
theorem dL_mends_1 : decode cL_mends 1 = .ok (.iload_n 1, 1) := by decide +kernel
theorem dL_mends_2 : decode cL_mends 2 = .ok (.invokevirtual 10, 3) := by decide +kernel
theorem dL_mends_5 : decode cL_mends 5 = .ok (.iconst 0, 1) := by decide +kernel
theorem dL_mends_6 : decode cL_mends 6 = .ok (.ireturn, 1) := by decide +kernel
theorem dL_asks_0 : decode cL_asks 0 = .ok (.iload_n 1, 1) := by decide +kernel
theorem dL_asks_1 : decode cL_asks 1 = .ok (.ifCond .ne 12, 3) := by decide +kernel
theorem dL_asks_4 : decode cL_asks 4 = .ok (.aload_n 0, 1) := by decide +kernel
theorem dL_asks_5 : decode cL_asks 5 = .ok (.iload_n 2, 1) := by decide +kernel
theorem dL_asks_6 : decode cL_asks 6 = .ok (.iload_n 3, 1) := by decide +kernel
theorem dL_asks_7 : decode cL_asks 7 = .ok (.invokevirtual 16, 3) := by decide +kernel
theorem dL_asks_10 : decode cL_asks 10 = .ok (.goto 114, 3) := by decide +kernel
theorem dL_asks_13 : decode cL_asks 13 = .ok (.iload_n 1, 1) := by decide +kernel
theorem dL_asks_14 : decode cL_asks 14 = .ok (.iconst 1, 1) := by decide +kernel
theorem dL_asks_15 : decode cL_asks 15 = .ok (.if_icmp .ne 14, 3) := by decide +kernel
theorem dL_asks_18 : decode cL_asks 18 = .ok (.aload_n 0, 1) := by decide +kernel
theorem dL_asks_19 : decode cL_asks 19 = .ok (.iload_n 2, 1) := by decide +kernel
theorem dL_asks_20 : decode cL_asks 20 = .ok (.iload_n 3, 1) := by decide +kernel
theorem dL_asks_21 : decode cL_asks 21 = .ok (.iload 4, 2) := by decide +kernel
theorem dL_asks_23 : decode cL_asks 23 = .ok (.invokevirtual 20, 3) := by decide +kernel
theorem dL_asks_26 : decode cL_asks 26 = .ok (.goto 98, 3) := by decide +kernel
theorem dL_asks_29 : decode cL_asks 29 = .ok (.iload_n 1, 1) := by decide +kernel
theorem dL_asks_30 : decode cL_asks 30 = .ok (.iconst 2, 1) := by decide +kernel
theorem dL_asks_31 : decode cL_asks 31 = .ok (.if_icmp .ne 11, 3) := by decide +kernel
theorem dL_asks_34 : decode cL_asks 34 = .ok (.aload_n 0, 1) := by decide +kernel
theorem dL_asks_35 : decode cL_asks 35 = .ok (.iload_n 2, 1) := by decide +kernel
theorem dL_asks_36 : decode cL_asks 36 = .ok (.invokevirtual 24, 3) := by decide +kernel
theorem dL_asks_39 : decode cL_asks 39 = .ok (.goto 85, 3) := by decide +kernel
theorem dL_asks_42 : decode cL_asks 42 = .ok (.iload_n 1, 1) := by decide +kernel
theorem dL_asks_43 : decode cL_asks 43 = .ok (.iconst 3, 1) := by decide +kernel
theorem dL_asks_44 : decode cL_asks 44 = .ok (.if_icmp .ne 14, 3) := by decide +kernel
theorem dL_asks_47 : decode cL_asks 47 = .ok (.aload_n 0, 1) := by decide +kernel
theorem dL_asks_48 : decode cL_asks 48 = .ok (.iload_n 2, 1) := by decide +kernel
theorem dL_asks_49 : decode cL_asks 49 = .ok (.iload_n 3, 1) := by decide +kernel
theorem dL_asks_50 : decode cL_asks 50 = .ok (.iload 4, 2) := by decide +kernel
theorem dL_asks_52 : decode cL_asks 52 = .ok (.invokevirtual 28, 3) := by decide +kernel
theorem dL_asks_55 : decode cL_asks 55 = .ok (.goto 69, 3) := by decide +kernel
theorem dL_asks_58 : decode cL_asks 58 = .ok (.iload_n 1, 1) := by decide +kernel
theorem dL_asks_59 : decode cL_asks 59 = .ok (.iconst 4, 1) := by decide +kernel
theorem dL_asks_60 : decode cL_asks 60 = .ok (.if_icmp .ne 18, 3) := by decide +kernel
theorem dL_asks_63 : decode cL_asks 63 = .ok (.aload_n 0, 1) := by decide +kernel
theorem dL_asks_64 : decode cL_asks 64 = .ok (.invokevirtual 31, 3) := by decide +kernel
theorem dL_asks_67 : decode cL_asks 67 = .ok (.ifCond .eq 7, 3) := by decide +kernel
theorem dL_asks_70 : decode cL_asks 70 = .ok (.iconst 1, 1) := by decide +kernel
theorem dL_asks_71 : decode cL_asks 71 = .ok (.goto 53, 3) := by decide +kernel
theorem dL_asks_74 : decode cL_asks 74 = .ok (.iconst 0, 1) := by decide +kernel
theorem dL_asks_75 : decode cL_asks 75 = .ok (.goto 49, 3) := by decide +kernel
theorem dL_asks_78 : decode cL_asks 78 = .ok (.iload_n 1, 1) := by decide +kernel
theorem dL_asks_79 : decode cL_asks 79 = .ok (.iconst 5, 1) := by decide +kernel
theorem dL_asks_80 : decode cL_asks 80 = .ok (.if_icmp .ne 11, 3) := by decide +kernel
theorem dL_asks_83 : decode cL_asks 83 = .ok (.aload_n 0, 1) := by decide +kernel
theorem dL_asks_84 : decode cL_asks 84 = .ok (.iload_n 2, 1) := by decide +kernel
theorem dL_asks_85 : decode cL_asks 85 = .ok (.invokevirtual 35, 3) := by decide +kernel
theorem dL_asks_88 : decode cL_asks 88 = .ok (.goto 36, 3) := by decide +kernel
theorem dL_asks_91 : decode cL_asks 91 = .ok (.iload_n 1, 1) := by decide +kernel
theorem dL_asks_92 : decode cL_asks 92 = .ok (.bipush 6, 2) := by decide +kernel
theorem dL_asks_94 : decode cL_asks 94 = .ok (.if_icmp .ne 11, 3) := by decide +kernel
theorem dL_asks_97 : decode cL_asks 97 = .ok (.aload_n 0, 1) := by decide +kernel
theorem dL_asks_98 : decode cL_asks 98 = .ok (.iload_n 2, 1) := by decide +kernel
theorem dL_asks_99 : decode cL_asks 99 = .ok (.invokestatic 38, 3) := by decide +kernel
theorem dL_asks_102 : decode cL_asks 102 = .ok (.goto 22, 3) := by decide +kernel
theorem dL_asks_105 : decode cL_asks 105 = .ok (.iload_n 1, 1) := by decide +kernel
theorem dL_asks_106 : decode cL_asks 106 = .ok (.bipush 7, 2) := by decide +kernel
theorem dL_asks_108 : decode cL_asks 108 = .ok (.if_icmp .ne 10, 3) := by decide +kernel
theorem dL_asks_111 : decode cL_asks 111 = .ok (.aload_n 0, 1) := by decide +kernel
theorem dL_asks_112 : decode cL_asks 112 = .ok (.invokevirtual 44, 3) := by decide +kernel
theorem dL_asks_115 : decode cL_asks 115 = .ok (.goto 9, 3) := by decide +kernel
theorem dL_asks_118 : decode cL_asks 118 = .ok (.aload_n 0, 1) := by decide +kernel
theorem dL_asks_119 : decode cL_asks 119 = .ok (.iload_n 2, 1) := by decide +kernel
theorem dL_asks_120 : decode cL_asks 120 = .ok (.iload_n 3, 1) := by decide +kernel
theorem dL_asks_121 : decode cL_asks 121 = .ok (.invokevirtual 48, 3) := by decide +kernel
theorem dL_asks_124 : decode cL_asks 124 = .ok (.ireturn, 1) := by decide +kernel
theorem dL_asks_125 : decode cL_asks 125 = .ok (.astore 5, 2) := by decide +kernel
theorem dL_asks_127 : decode cL_asks 127 = .ok (.ldc 53, 2) := by decide +kernel
theorem dL_asks_129 : decode cL_asks 129 = .ok (.ireturn, 1) := by decide +kernel
theorem dL_asks_130 : decode cL_asks 130 = .ok (.astore 5, 2) := by decide +kernel
theorem dL_asks_132 : decode cL_asks 132 = .ok (.ldc 56, 2) := by decide +kernel
theorem dL_asks_134 : decode cL_asks 134 = .ok (.ireturn, 1) := by decide +kernel
theorem dL_asks_135 : decode cL_asks 135 = .ok (.astore 5, 2) := by decide +kernel
theorem dL_asks_137 : decode cL_asks 137 = .ok (.ldc 59, 2) := by decide +kernel
theorem dL_asks_139 : decode cL_asks 139 = .ok (.ireturn, 1) := by decide +kernel
theorem dL_isSound_0 : decode cL_isSound 0 = .ok (.iconst 0, 1) := by decide +kernel
theorem dL_isSound_1 : decode cL_isSound 1 = .ok (.istore 5, 2) := by decide +kernel
theorem dL_isSound_3 : decode cL_isSound 3 = .ok (.iconst 0, 1) := by decide +kernel
theorem dL_isSound_4 : decode cL_isSound 4 = .ok (.istore 6, 2) := by decide +kernel
theorem dL_isSound_6 : decode cL_isSound 6 = .ok (.iconst 0, 1) := by decide +kernel
theorem dL_isSound_7 : decode cL_isSound 7 = .ok (.istore 7, 2) := by decide +kernel
theorem dL_isSound_9 : decode cL_isSound 9 = .ok (.iconst 0, 1) := by decide +kernel
theorem dL_isSound_10 : decode cL_isSound 10 = .ok (.istore 8, 2) := by decide +kernel
theorem dL_isSound_12 : decode cL_isSound 12 = .ok (.iconst 0, 1) := by decide +kernel
theorem dL_isSound_13 : decode cL_isSound 13 = .ok (.istore 9, 2) := by decide +kernel
theorem dL_isSound_15 : decode cL_isSound 15 = .ok (.aload_n 0, 1) := by decide +kernel
theorem dL_isSound_16 : decode cL_isSound 16 = .ok (.invokevirtual 60, 3) := by decide +kernel
theorem dL_isSound_19 : decode cL_isSound 19 = .ok (.aload_n 1, 1) := by decide +kernel
theorem dL_isSound_20 : decode cL_isSound 20 = .ok (.iconst 2, 1) := by decide +kernel
theorem dL_isSound_21 : decode cL_isSound 21 = .ok (.iaload, 1) := by decide +kernel
theorem dL_isSound_22 : decode cL_isSound 22 = .ok (.if_icmp .ne 81, 3) := by decide +kernel
theorem dL_isSound_25 : decode cL_isSound 25 = .ok (.aload_n 0, 1) := by decide +kernel
theorem dL_isSound_26 : decode cL_isSound 26 = .ok (.invokevirtual 63, 3) := by decide +kernel
theorem dL_isSound_29 : decode cL_isSound 29 = .ok (.iconst (-1), 1) := by decide +kernel
theorem dL_isSound_30 : decode cL_isSound 30 = .ok (.if_icmp .ne 7, 3) := by decide +kernel
theorem dL_isSound_33 : decode cL_isSound 33 = .ok (.iconst 1, 1) := by decide +kernel
theorem dL_isSound_34 : decode cL_isSound 34 = .ok (.goto 4, 3) := by decide +kernel
theorem dL_isSound_37 : decode cL_isSound 37 = .ok (.iconst 0, 1) := by decide +kernel
theorem dL_isSound_38 : decode cL_isSound 38 = .ok (.aload_n 1, 1) := by decide +kernel
theorem dL_isSound_39 : decode cL_isSound 39 = .ok (.iconst 3, 1) := by decide +kernel
theorem dL_isSound_40 : decode cL_isSound 40 = .ok (.iaload, 1) := by decide +kernel
theorem dL_isSound_41 : decode cL_isSound 41 = .ok (.iconst 1, 1) := by decide +kernel
theorem dL_isSound_42 : decode cL_isSound 42 = .ok (.if_icmp .ne 7, 3) := by decide +kernel
theorem dL_isSound_45 : decode cL_isSound 45 = .ok (.iconst 1, 1) := by decide +kernel
theorem dL_isSound_46 : decode cL_isSound 46 = .ok (.goto 4, 3) := by decide +kernel
theorem dL_isSound_49 : decode cL_isSound 49 = .ok (.iconst 0, 1) := by decide +kernel
theorem dL_isSound_50 : decode cL_isSound 50 = .ok (.if_icmp .ne 53, 3) := by decide +kernel
theorem dL_isSound_53 : decode cL_isSound 53 = .ok (.aload_n 0, 1) := by decide +kernel
theorem dL_isSound_54 : decode cL_isSound 54 = .ok (.invokevirtual 63, 3) := by decide +kernel
theorem dL_isSound_57 : decode cL_isSound 57 = .ok (.iconst 5, 1) := by decide +kernel
theorem dL_isSound_58 : decode cL_isSound 58 = .ok (.if_icmp .ge 45, 3) := by decide +kernel
theorem dL_isSound_61 : decode cL_isSound 61 = .ok (.aload_n 0, 1) := by decide +kernel
theorem dL_isSound_62 : decode cL_isSound 62 = .ok (.iconst 0, 1) := by decide +kernel
theorem dL_isSound_63 : decode cL_isSound 63 = .ok (.invokevirtual 66, 3) := by decide +kernel
theorem dL_isSound_66 : decode cL_isSound 66 = .ok (.aload_n 1, 1) := by decide +kernel
theorem dL_isSound_67 : decode cL_isSound 67 = .ok (.iconst 0, 1) := by decide +kernel
theorem dL_isSound_68 : decode cL_isSound 68 = .ok (.iaload, 1) := by decide +kernel
theorem dL_isSound_69 : decode cL_isSound 69 = .ok (.if_icmp .ne 34, 3) := by decide +kernel
theorem dL_isSound_72 : decode cL_isSound 72 = .ok (.aload_n 0, 1) := by decide +kernel
theorem dL_isSound_73 : decode cL_isSound 73 = .ok (.iconst 1, 1) := by decide +kernel
theorem dL_isSound_74 : decode cL_isSound 74 = .ok (.invokevirtual 66, 3) := by decide +kernel
theorem dL_isSound_77 : decode cL_isSound 77 = .ok (.aload_n 1, 1) := by decide +kernel
theorem dL_isSound_78 : decode cL_isSound 78 = .ok (.iconst 1, 1) := by decide +kernel
theorem dL_isSound_79 : decode cL_isSound 79 = .ok (.iaload, 1) := by decide +kernel
theorem dL_isSound_80 : decode cL_isSound 80 = .ok (.if_icmp .ne 23, 3) := by decide +kernel
theorem dL_isSound_83 : decode cL_isSound 83 = .ok (.aload_n 0, 1) := by decide +kernel
theorem dL_isSound_84 : decode cL_isSound 84 = .ok (.bipush 8, 2) := by decide +kernel
theorem dL_isSound_86 : decode cL_isSound 86 = .ok (.aload_n 1, 1) := by decide +kernel
theorem dL_isSound_87 : decode cL_isSound 87 = .ok (.iconst 0, 1) := by decide +kernel
theorem dL_isSound_88 : decode cL_isSound 88 = .ok (.iaload, 1) := by decide +kernel
theorem dL_isSound_89 : decode cL_isSound 89 = .ok (.iconst 0, 1) := by decide +kernel
theorem dL_isSound_90 : decode cL_isSound 90 = .ok (.iconst 0, 1) := by decide +kernel
theorem dL_isSound_91 : decode cL_isSound 91 = .ok (.invokestatic 69, 3) := by decide +kernel
theorem dL_isSound_94 : decode cL_isSound 94 = .ok (.ldc 53, 2) := by decide +kernel
theorem dL_isSound_96 : decode cL_isSound 96 = .ok (.if_icmp .ne 7, 3) := by decide +kernel
theorem dL_isSound_99 : decode cL_isSound 99 = .ok (.iconst 1, 1) := by decide +kernel
theorem dL_isSound_100 : decode cL_isSound 100 = .ok (.goto 4, 3) := by decide +kernel
theorem dL_isSound_103 : decode cL_isSound 103 = .ok (.iconst 0, 1) := by decide +kernel
theorem dL_isSound_104 : decode cL_isSound 104 = .ok (.istore 10, 2) := by decide +kernel
theorem dL_isSound_106 : decode cL_isSound 106 = .ok (.iconst 0, 1) := by decide +kernel
theorem dL_isSound_107 : decode cL_isSound 107 = .ok (.istore 11, 2) := by decide +kernel
theorem dL_isSound_109 : decode cL_isSound 109 = .ok (.iload 11, 2) := by decide +kernel
theorem dL_isSound_111 : decode cL_isSound 111 = .ok (.aload_n 1, 1) := by decide +kernel
theorem dL_isSound_112 : decode cL_isSound 112 = .ok (.iconst 0, 1) := by decide +kernel
theorem dL_isSound_113 : decode cL_isSound 113 = .ok (.iaload, 1) := by decide +kernel
theorem dL_isSound_114 : decode cL_isSound 114 = .ok (.if_icmp .ge 361, 3) := by decide +kernel
theorem dL_isSound_117 : decode cL_isSound 117 = .ok (.iload 10, 2) := by decide +kernel
theorem dL_isSound_119 : decode cL_isSound 119 = .ok (.ifCond .eq 356, 3) := by decide +kernel
theorem dL_isSound_122 : decode cL_isSound 122 = .ok (.aload_n 0, 1) := by decide +kernel
theorem dL_isSound_123 : decode cL_isSound 123 = .ok (.iload 11, 2) := by decide +kernel
theorem dL_isSound_125 : decode cL_isSound 125 = .ok (.invokevirtual 73, 3) := by decide +kernel
theorem dL_isSound_128 : decode cL_isSound 128 = .ok (.istore 12, 2) := by decide +kernel
theorem dL_isSound_130 : decode cL_isSound 130 = .ok (.aload_n 0, 1) := by decide +kernel
theorem dL_isSound_131 : decode cL_isSound 131 = .ok (.iload 11, 2) := by decide +kernel
theorem dL_isSound_133 : decode cL_isSound 133 = .ok (.iconst 3, 1) := by decide +kernel
theorem dL_isSound_134 : decode cL_isSound 134 = .ok (.invokevirtual 48, 3) := by decide +kernel
theorem dL_isSound_137 : decode cL_isSound 137 = .ok (.istore 13, 2) := by decide +kernel
theorem dL_isSound_139 : decode cL_isSound 139 = .ok (.iload 5, 2) := by decide +kernel
theorem dL_isSound_141 : decode cL_isSound 141 = .ok (.iload 12, 2) := by decide +kernel
theorem dL_isSound_143 : decode cL_isSound 143 = .ok (.ifCond .ge 7, 3) := by decide +kernel
theorem dL_isSound_146 : decode cL_isSound 146 = .ok (.iconst 0, 1) := by decide +kernel
theorem dL_isSound_147 : decode cL_isSound 147 = .ok (.goto 4, 3) := by decide +kernel
theorem dL_isSound_150 : decode cL_isSound 150 = .ok (.iconst 1, 1) := by decide +kernel
theorem dL_isSound_151 : decode cL_isSound 151 = .ok (.iadd, 1) := by decide +kernel
theorem dL_isSound_152 : decode cL_isSound 152 = .ok (.istore 5, 2) := by decide +kernel
theorem dL_isSound_154 : decode cL_isSound 154 = .ok (.iload 6, 2) := by decide +kernel
theorem dL_isSound_156 : decode cL_isSound 156 = .ok (.iload 13, 2) := by decide +kernel
theorem dL_isSound_158 : decode cL_isSound 158 = .ok (.iadd, 1) := by decide +kernel
theorem dL_isSound_159 : decode cL_isSound 159 = .ok (.istore 6, 2) := by decide +kernel
theorem dL_isSound_161 : decode cL_isSound 161 = .ok (.iload 7, 2) := by decide +kernel
theorem dL_isSound_163 : decode cL_isSound 163 = .ok (.aload_n 0, 1) := by decide +kernel
theorem dL_isSound_164 : decode cL_isSound 164 = .ok (.iload 11, 2) := by decide +kernel
theorem dL_isSound_166 : decode cL_isSound 166 = .ok (.iconst 0, 1) := by decide +kernel
theorem dL_isSound_167 : decode cL_isSound 167 = .ok (.invokevirtual 48, 3) := by decide +kernel
theorem dL_isSound_170 : decode cL_isSound 170 = .ok (.iadd, 1) := by decide +kernel
theorem dL_isSound_171 : decode cL_isSound 171 = .ok (.istore 7, 2) := by decide +kernel
theorem dL_isSound_173 : decode cL_isSound 173 = .ok (.iload 8, 2) := by decide +kernel
theorem dL_isSound_175 : decode cL_isSound 175 = .ok (.aload_n 0, 1) := by decide +kernel
theorem dL_isSound_176 : decode cL_isSound 176 = .ok (.iload 11, 2) := by decide +kernel
theorem dL_isSound_178 : decode cL_isSound 178 = .ok (.iconst 4, 1) := by decide +kernel
theorem dL_isSound_179 : decode cL_isSound 179 = .ok (.invokevirtual 48, 3) := by decide +kernel
theorem dL_isSound_182 : decode cL_isSound 182 = .ok (.aload_n 0, 1) := by decide +kernel
theorem dL_isSound_183 : decode cL_isSound 183 = .ok (.iload 11, 2) := by decide +kernel
theorem dL_isSound_185 : decode cL_isSound 185 = .ok (.iconst 5, 1) := by decide +kernel
theorem dL_isSound_186 : decode cL_isSound 186 = .ok (.invokevirtual 48, 3) := by decide +kernel
theorem dL_isSound_189 : decode cL_isSound 189 = .ok (.isub, 1) := by decide +kernel
theorem dL_isSound_190 : decode cL_isSound 190 = .ok (.iadd, 1) := by decide +kernel
theorem dL_isSound_191 : decode cL_isSound 191 = .ok (.istore 8, 2) := by decide +kernel
theorem dL_isSound_193 : decode cL_isSound 193 = .ok (.iload 12, 2) := by decide +kernel
theorem dL_isSound_195 : decode cL_isSound 195 = .ok (.ifCond .ge 7, 3) := by decide +kernel
theorem dL_isSound_198 : decode cL_isSound 198 = .ok (.iconst 1, 1) := by decide +kernel
theorem dL_isSound_199 : decode cL_isSound 199 = .ok (.goto 4, 3) := by decide +kernel
theorem dL_isSound_202 : decode cL_isSound 202 = .ok (.iconst 0, 1) := by decide +kernel
theorem dL_isSound_203 : decode cL_isSound 203 = .ok (.aload_n 0, 1) := by decide +kernel
theorem dL_isSound_204 : decode cL_isSound 204 = .ok (.iload 11, 2) := by decide +kernel
theorem dL_isSound_206 : decode cL_isSound 206 = .ok (.iconst 1, 1) := by decide +kernel
theorem dL_isSound_207 : decode cL_isSound 207 = .ok (.invokevirtual 48, 3) := by decide +kernel
theorem dL_isSound_210 : decode cL_isSound 210 = .ok (.iconst (-1), 1) := by decide +kernel
theorem dL_isSound_211 : decode cL_isSound 211 = .ok (.if_icmp .ne 7, 3) := by decide +kernel
theorem dL_isSound_214 : decode cL_isSound 214 = .ok (.iconst 1, 1) := by decide +kernel
theorem dL_isSound_215 : decode cL_isSound 215 = .ok (.goto 4, 3) := by decide +kernel
theorem dL_isSound_218 : decode cL_isSound 218 = .ok (.iconst 0, 1) := by decide +kernel
theorem dL_isSound_219 : decode cL_isSound 219 = .ok (.if_icmp .ne 149, 3) := by decide +kernel
theorem dL_isSound_222 : decode cL_isSound 222 = .ok (.iload 12, 2) := by decide +kernel
theorem dL_isSound_224 : decode cL_isSound 224 = .ok (.ifCond .ge 7, 3) := by decide +kernel
theorem dL_isSound_227 : decode cL_isSound 227 = .ok (.iconst 1, 1) := by decide +kernel
theorem dL_isSound_228 : decode cL_isSound 228 = .ok (.goto 4, 3) := by decide +kernel
theorem dL_isSound_231 : decode cL_isSound 231 = .ok (.iconst 0, 1) := by decide +kernel
theorem dL_isSound_232 : decode cL_isSound 232 = .ok (.aload_n 0, 1) := by decide +kernel
theorem dL_isSound_233 : decode cL_isSound 233 = .ok (.iload 11, 2) := by decide +kernel
theorem dL_isSound_235 : decode cL_isSound 235 = .ok (.iconst 2, 1) := by decide +kernel
theorem dL_isSound_236 : decode cL_isSound 236 = .ok (.invokevirtual 48, 3) := by decide +kernel
theorem dL_isSound_239 : decode cL_isSound 239 = .ok (.iconst (-1), 1) := by decide +kernel
theorem dL_isSound_240 : decode cL_isSound 240 = .ok (.if_icmp .ne 7, 3) := by decide +kernel
theorem dL_isSound_243 : decode cL_isSound 243 = .ok (.iconst 1, 1) := by decide +kernel
theorem dL_isSound_244 : decode cL_isSound 244 = .ok (.goto 4, 3) := by decide +kernel
theorem dL_isSound_247 : decode cL_isSound 247 = .ok (.iconst 0, 1) := by decide +kernel
theorem dL_isSound_248 : decode cL_isSound 248 = .ok (.if_icmp .ne 120, 3) := by decide +kernel
theorem dL_isSound_251 : decode cL_isSound 251 = .ok (.aload_n 0, 1) := by decide +kernel
theorem dL_isSound_252 : decode cL_isSound 252 = .ok (.iload 11, 2) := by decide +kernel
theorem dL_isSound_254 : decode cL_isSound 254 = .ok (.iconst 0, 1) := by decide +kernel
theorem dL_isSound_255 : decode cL_isSound 255 = .ok (.invokevirtual 48, 3) := by decide +kernel
theorem dL_isSound_258 : decode cL_isSound 258 = .ok (.ifCond .lt 110, 3) := by decide +kernel
theorem dL_isSound_261 : decode cL_isSound 261 = .ok (.aload_n 0, 1) := by decide +kernel
theorem dL_isSound_262 : decode cL_isSound 262 = .ok (.iload 11, 2) := by decide +kernel
theorem dL_isSound_264 : decode cL_isSound 264 = .ok (.iconst 0, 1) := by decide +kernel
theorem dL_isSound_265 : decode cL_isSound 265 = .ok (.invokevirtual 48, 3) := by decide +kernel
theorem dL_isSound_268 : decode cL_isSound 268 = .ok (.aload_n 2, 1) := by decide +kernel
theorem dL_isSound_269 : decode cL_isSound 269 = .ok (.iconst 2, 1) := by decide +kernel
theorem dL_isSound_270 : decode cL_isSound 270 = .ok (.iload 11, 2) := by decide +kernel
theorem dL_isSound_272 : decode cL_isSound 272 = .ok (.imul, 1) := by decide +kernel
theorem dL_isSound_273 : decode cL_isSound 273 = .ok (.iaload, 1) := by decide +kernel
theorem dL_isSound_274 : decode cL_isSound 274 = .ok (.if_icmp .gt 94, 3) := by decide +kernel
theorem dL_isSound_277 : decode cL_isSound 277 = .ok (.iload 13, 2) := by decide +kernel
theorem dL_isSound_279 : decode cL_isSound 279 = .ok (.ifCond .lt 89, 3) := by decide +kernel
theorem dL_isSound_282 : decode cL_isSound 282 = .ok (.iload 13, 2) := by decide +kernel
theorem dL_isSound_284 : decode cL_isSound 284 = .ok (.ifCond .eq 22, 3) := by decide +kernel
theorem dL_isSound_287 : decode cL_isSound 287 = .ok (.aload_n 1, 1) := by decide +kernel
theorem dL_isSound_288 : decode cL_isSound 288 = .ok (.iconst 3, 1) := by decide +kernel
theorem dL_isSound_289 : decode cL_isSound 289 = .ok (.iaload, 1) := by decide +kernel
theorem dL_isSound_290 : decode cL_isSound 290 = .ok (.iconst 1, 1) := by decide +kernel
theorem dL_isSound_291 : decode cL_isSound 291 = .ok (.if_icmp .ne 77, 3) := by decide +kernel
theorem dL_isSound_294 : decode cL_isSound 294 = .ok (.iload 13, 2) := by decide +kernel
theorem dL_isSound_296 : decode cL_isSound 296 = .ok (.aload_n 0, 1) := by decide +kernel
theorem dL_isSound_297 : decode cL_isSound 297 = .ok (.iload 11, 2) := by decide +kernel
theorem dL_isSound_299 : decode cL_isSound 299 = .ok (.iconst 2, 1) := by decide +kernel
theorem dL_isSound_300 : decode cL_isSound 300 = .ok (.invokevirtual 48, 3) := by decide +kernel
theorem dL_isSound_303 : decode cL_isSound 303 = .ok (.if_icmp .gt 65, 3) := by decide +kernel
theorem dL_isSound_306 : decode cL_isSound 306 = .ok (.aload_n 0, 1) := by decide +kernel
theorem dL_isSound_307 : decode cL_isSound 307 = .ok (.iload 11, 2) := by decide +kernel
theorem dL_isSound_309 : decode cL_isSound 309 = .ok (.invokevirtual 76, 3) := by decide +kernel
theorem dL_isSound_312 : decode cL_isSound 312 = .ok (.iload 13, 2) := by decide +kernel
theorem dL_isSound_314 : decode cL_isSound 314 = .ok (.if_icmp .ne 54, 3) := by decide +kernel
theorem dL_isSound_317 : decode cL_isSound 317 = .ok (.aload_n 0, 1) := by decide +kernel
theorem dL_isSound_318 : decode cL_isSound 318 = .ok (.iload 11, 2) := by decide +kernel
theorem dL_isSound_320 : decode cL_isSound 320 = .ok (.iconst 4, 1) := by decide +kernel
theorem dL_isSound_321 : decode cL_isSound 321 = .ok (.invokevirtual 48, 3) := by decide +kernel
theorem dL_isSound_324 : decode cL_isSound 324 = .ok (.aload_n 3, 1) := by decide +kernel
theorem dL_isSound_325 : decode cL_isSound 325 = .ok (.iconst 2, 1) := by decide +kernel
theorem dL_isSound_326 : decode cL_isSound 326 = .ok (.iload 11, 2) := by decide +kernel
theorem dL_isSound_328 : decode cL_isSound 328 = .ok (.imul, 1) := by decide +kernel
theorem dL_isSound_329 : decode cL_isSound 329 = .ok (.iaload, 1) := by decide +kernel
theorem dL_isSound_330 : decode cL_isSound 330 = .ok (.if_icmp .ne 38, 3) := by decide +kernel
theorem dL_isSound_333 : decode cL_isSound 333 = .ok (.aload_n 0, 1) := by decide +kernel
theorem dL_isSound_334 : decode cL_isSound 334 = .ok (.iload 11, 2) := by decide +kernel
theorem dL_isSound_336 : decode cL_isSound 336 = .ok (.iconst 5, 1) := by decide +kernel
theorem dL_isSound_337 : decode cL_isSound 337 = .ok (.invokevirtual 48, 3) := by decide +kernel
theorem dL_isSound_340 : decode cL_isSound 340 = .ok (.aload_n 3, 1) := by decide +kernel
theorem dL_isSound_341 : decode cL_isSound 341 = .ok (.iconst 2, 1) := by decide +kernel
theorem dL_isSound_342 : decode cL_isSound 342 = .ok (.iload 11, 2) := by decide +kernel
theorem dL_isSound_344 : decode cL_isSound 344 = .ok (.imul, 1) := by decide +kernel
theorem dL_isSound_345 : decode cL_isSound 345 = .ok (.iconst 1, 1) := by decide +kernel
theorem dL_isSound_346 : decode cL_isSound 346 = .ok (.iadd, 1) := by decide +kernel
theorem dL_isSound_347 : decode cL_isSound 347 = .ok (.iaload, 1) := by decide +kernel
theorem dL_isSound_348 : decode cL_isSound 348 = .ok (.if_icmp .ne 20, 3) := by decide +kernel
theorem dL_isSound_351 : decode cL_isSound 351 = .ok (.iload 13, 2) := by decide +kernel
theorem dL_isSound_353 : decode cL_isSound 353 = .ok (.aload_n 0, 1) := by decide +kernel
theorem dL_isSound_354 : decode cL_isSound 354 = .ok (.iconst 1, 1) := by decide +kernel
theorem dL_isSound_355 : decode cL_isSound 355 = .ok (.iload 11, 2) := by decide +kernel
theorem dL_isSound_357 : decode cL_isSound 357 = .ok (.ishl, 1) := by decide +kernel
theorem dL_isSound_358 : decode cL_isSound 358 = .ok (.invokevirtual 79, 3) := by decide +kernel
theorem dL_isSound_361 : decode cL_isSound 361 = .ok (.if_icmp .gt 7, 3) := by decide +kernel
theorem dL_isSound_364 : decode cL_isSound 364 = .ok (.iconst 1, 1) := by decide +kernel
theorem dL_isSound_365 : decode cL_isSound 365 = .ok (.goto 4, 3) := by decide +kernel
theorem dL_isSound_368 : decode cL_isSound 368 = .ok (.iconst 0, 1) := by decide +kernel
theorem dL_isSound_369 : decode cL_isSound 369 = .ok (.istore 10, 2) := by decide +kernel
theorem dL_isSound_371 : decode cL_isSound 371 = .ok (.iconst 0, 1) := by decide +kernel
theorem dL_isSound_372 : decode cL_isSound 372 = .ok (.istore 14, 2) := by decide +kernel
theorem dL_isSound_374 : decode cL_isSound 374 = .ok (.iload 14, 2) := by decide +kernel
theorem dL_isSound_376 : decode cL_isSound 376 = .ok (.aload_n 1, 1) := by decide +kernel
theorem dL_isSound_377 : decode cL_isSound 377 = .ok (.iconst 0, 1) := by decide +kernel
theorem dL_isSound_378 : decode cL_isSound 378 = .ok (.iaload, 1) := by decide +kernel
theorem dL_isSound_379 : decode cL_isSound 379 = .ok (.if_icmp .ge 90, 3) := by decide +kernel
theorem dL_isSound_382 : decode cL_isSound 382 = .ok (.iload 10, 2) := by decide +kernel
theorem dL_isSound_384 : decode cL_isSound 384 = .ok (.ifCond .eq 85, 3) := by decide +kernel
theorem dL_isSound_387 : decode cL_isSound 387 = .ok (.iload 12, 2) := by decide +kernel
theorem dL_isSound_389 : decode cL_isSound 389 = .ok (.ifCond .lt 80, 3) := by decide +kernel
theorem dL_isSound_392 : decode cL_isSound 392 = .ok (.aload_n 0, 1) := by decide +kernel
theorem dL_isSound_393 : decode cL_isSound 393 = .ok (.iload 14, 2) := by decide +kernel
theorem dL_isSound_395 : decode cL_isSound 395 = .ok (.invokevirtual 73, 3) := by decide +kernel
theorem dL_isSound_398 : decode cL_isSound 398 = .ok (.istore 15, 2) := by decide +kernel
theorem dL_isSound_400 : decode cL_isSound 400 = .ok (.aload_n 0, 1) := by decide +kernel
theorem dL_isSound_401 : decode cL_isSound 401 = .ok (.iload 14, 2) := by decide +kernel
theorem dL_isSound_403 : decode cL_isSound 403 = .ok (.iconst 1, 1) := by decide +kernel
theorem dL_isSound_404 : decode cL_isSound 404 = .ok (.invokevirtual 48, 3) := by decide +kernel
theorem dL_isSound_407 : decode cL_isSound 407 = .ok (.aload_n 0, 1) := by decide +kernel
theorem dL_isSound_408 : decode cL_isSound 408 = .ok (.iload 11, 2) := by decide +kernel
theorem dL_isSound_410 : decode cL_isSound 410 = .ok (.iconst 1, 1) := by decide +kernel
theorem dL_isSound_411 : decode cL_isSound 411 = .ok (.invokevirtual 48, 3) := by decide +kernel
theorem dL_isSound_414 : decode cL_isSound 414 = .ok (.isub, 1) := by decide +kernel
theorem dL_isSound_415 : decode cL_isSound 415 = .ok (.istore 16, 2) := by decide +kernel
theorem dL_isSound_417 : decode cL_isSound 417 = .ok (.iload 15, 2) := by decide +kernel
theorem dL_isSound_419 : decode cL_isSound 419 = .ok (.ifCond .lt 37, 3) := by decide +kernel
theorem dL_isSound_422 : decode cL_isSound 422 = .ok (.iload 14, 2) := by decide +kernel
theorem dL_isSound_424 : decode cL_isSound 424 = .ok (.iload 11, 2) := by decide +kernel
theorem dL_isSound_426 : decode cL_isSound 426 = .ok (.if_icmp .eq 30, 3) := by decide +kernel
theorem dL_isSound_429 : decode cL_isSound 429 = .ok (.iload 15, 2) := by decide +kernel
theorem dL_isSound_431 : decode cL_isSound 431 = .ok (.iload 12, 2) := by decide +kernel
theorem dL_isSound_433 : decode cL_isSound 433 = .ok (.if_icmp .ge 11, 3) := by decide +kernel
theorem dL_isSound_436 : decode cL_isSound 436 = .ok (.iload 16, 2) := by decide +kernel
theorem dL_isSound_438 : decode cL_isSound 438 = .ok (.ifCond .lt 22, 3) := by decide +kernel
theorem dL_isSound_441 : decode cL_isSound 441 = .ok (.goto 15, 3) := by decide +kernel
theorem dL_isSound_444 : decode cL_isSound 444 = .ok (.iload 15, 2) := by decide +kernel
theorem dL_isSound_446 : decode cL_isSound 446 = .ok (.iload 12, 2) := by decide +kernel
theorem dL_isSound_448 : decode cL_isSound 448 = .ok (.if_icmp .le 12, 3) := by decide +kernel
theorem dL_isSound_451 : decode cL_isSound 451 = .ok (.iload 16, 2) := by decide +kernel
theorem dL_isSound_453 : decode cL_isSound 453 = .ok (.ifCond .gt 7, 3) := by decide +kernel
theorem dL_isSound_456 : decode cL_isSound 456 = .ok (.iconst 1, 1) := by decide +kernel
theorem dL_isSound_457 : decode cL_isSound 457 = .ok (.goto 4, 3) := by decide +kernel
theorem dL_isSound_460 : decode cL_isSound 460 = .ok (.iconst 0, 1) := by decide +kernel
theorem dL_isSound_461 : decode cL_isSound 461 = .ok (.istore 10, 2) := by decide +kernel
theorem dL_isSound_463 : decode cL_isSound 463 = .ok (.iinc 14 1, 3) := by decide +kernel
theorem dL_isSound_466 : decode cL_isSound 466 = .ok (.goto (-92), 3) := by decide +kernel
theorem dL_isSound_469 : decode cL_isSound 469 = .ok (.iinc 11 1, 3) := by decide +kernel
theorem dL_isSound_472 : decode cL_isSound 472 = .ok (.goto (-363), 3) := by decide +kernel
theorem dL_isSound_475 : decode cL_isSound 475 = .ok (.iconst 0, 1) := by decide +kernel
theorem dL_isSound_476 : decode cL_isSound 476 = .ok (.istore 11, 2) := by decide +kernel
theorem dL_isSound_478 : decode cL_isSound 478 = .ok (.iload 11, 2) := by decide +kernel
theorem dL_isSound_480 : decode cL_isSound 480 = .ok (.aload_n 1, 1) := by decide +kernel
theorem dL_isSound_481 : decode cL_isSound 481 = .ok (.iconst 1, 1) := by decide +kernel
theorem dL_isSound_482 : decode cL_isSound 482 = .ok (.iaload, 1) := by decide +kernel
theorem dL_isSound_483 : decode cL_isSound 483 = .ok (.if_icmp .ge 19, 3) := by decide +kernel
theorem dL_isSound_486 : decode cL_isSound 486 = .ok (.iload 9, 2) := by decide +kernel
theorem dL_isSound_488 : decode cL_isSound 488 = .ok (.aload 4, 2) := by decide +kernel
theorem dL_isSound_490 : decode cL_isSound 490 = .ok (.iload 11, 2) := by decide +kernel
theorem dL_isSound_492 : decode cL_isSound 492 = .ok (.iaload, 1) := by decide +kernel
theorem dL_isSound_493 : decode cL_isSound 493 = .ok (.iadd, 1) := by decide +kernel
theorem dL_isSound_494 : decode cL_isSound 494 = .ok (.istore 9, 2) := by decide +kernel
theorem dL_isSound_496 : decode cL_isSound 496 = .ok (.iinc 11 1, 3) := by decide +kernel
theorem dL_isSound_499 : decode cL_isSound 499 = .ok (.goto (-21), 3) := by decide +kernel
theorem dL_isSound_502 : decode cL_isSound 502 = .ok (.iload 10, 2) := by decide +kernel
theorem dL_isSound_504 : decode cL_isSound 504 = .ok (.ifCond .eq 70, 3) := by decide +kernel
theorem dL_isSound_507 : decode cL_isSound 507 = .ok (.aload_n 0, 1) := by decide +kernel
theorem dL_isSound_508 : decode cL_isSound 508 = .ok (.iconst 2, 1) := by decide +kernel
theorem dL_isSound_509 : decode cL_isSound 509 = .ok (.invokevirtual 66, 3) := by decide +kernel
theorem dL_isSound_512 : decode cL_isSound 512 = .ok (.iload 9, 2) := by decide +kernel
theorem dL_isSound_514 : decode cL_isSound 514 = .ok (.if_icmp .ne 60, 3) := by decide +kernel
theorem dL_isSound_517 : decode cL_isSound 517 = .ok (.aload_n 0, 1) := by decide +kernel
theorem dL_isSound_518 : decode cL_isSound 518 = .ok (.iconst 3, 1) := by decide +kernel
theorem dL_isSound_519 : decode cL_isSound 519 = .ok (.invokevirtual 66, 3) := by decide +kernel
theorem dL_isSound_522 : decode cL_isSound 522 = .ok (.iload 5, 2) := by decide +kernel
theorem dL_isSound_524 : decode cL_isSound 524 = .ok (.if_icmp .ne 50, 3) := by decide +kernel
theorem dL_isSound_527 : decode cL_isSound 527 = .ok (.aload_n 0, 1) := by decide +kernel
theorem dL_isSound_528 : decode cL_isSound 528 = .ok (.iconst 4, 1) := by decide +kernel
theorem dL_isSound_529 : decode cL_isSound 529 = .ok (.invokevirtual 66, 3) := by decide +kernel
theorem dL_isSound_532 : decode cL_isSound 532 = .ok (.iload 6, 2) := by decide +kernel
theorem dL_isSound_534 : decode cL_isSound 534 = .ok (.if_icmp .ne 40, 3) := by decide +kernel
theorem dL_isSound_537 : decode cL_isSound 537 = .ok (.aload_n 0, 1) := by decide +kernel
theorem dL_isSound_538 : decode cL_isSound 538 = .ok (.iconst 5, 1) := by decide +kernel
theorem dL_isSound_539 : decode cL_isSound 539 = .ok (.invokevirtual 66, 3) := by decide +kernel
theorem dL_isSound_542 : decode cL_isSound 542 = .ok (.iload 7, 2) := by decide +kernel
theorem dL_isSound_544 : decode cL_isSound 544 = .ok (.if_icmp .ne 30, 3) := by decide +kernel
theorem dL_isSound_547 : decode cL_isSound 547 = .ok (.aload_n 0, 1) := by decide +kernel
theorem dL_isSound_548 : decode cL_isSound 548 = .ok (.bipush 6, 2) := by decide +kernel
theorem dL_isSound_550 : decode cL_isSound 550 = .ok (.invokevirtual 66, 3) := by decide +kernel
theorem dL_isSound_553 : decode cL_isSound 553 = .ok (.iload 8, 2) := by decide +kernel
theorem dL_isSound_555 : decode cL_isSound 555 = .ok (.if_icmp .ne 19, 3) := by decide +kernel
theorem dL_isSound_558 : decode cL_isSound 558 = .ok (.aload_n 0, 1) := by decide +kernel
theorem dL_isSound_559 : decode cL_isSound 559 = .ok (.bipush 7, 2) := by decide +kernel
theorem dL_isSound_561 : decode cL_isSound 561 = .ok (.invokevirtual 66, 3) := by decide +kernel
theorem dL_isSound_564 : decode cL_isSound 564 = .ok (.aload_n 1, 1) := by decide +kernel
theorem dL_isSound_565 : decode cL_isSound 565 = .ok (.iconst 4, 1) := by decide +kernel
theorem dL_isSound_566 : decode cL_isSound 566 = .ok (.iaload, 1) := by decide +kernel
theorem dL_isSound_567 : decode cL_isSound 567 = .ok (.if_icmp .ne 7, 3) := by decide +kernel
theorem dL_isSound_570 : decode cL_isSound 570 = .ok (.iconst 1, 1) := by decide +kernel
theorem dL_isSound_571 : decode cL_isSound 571 = .ok (.goto 4, 3) := by decide +kernel
theorem dL_isSound_574 : decode cL_isSound 574 = .ok (.iconst 0, 1) := by decide +kernel
theorem dL_isSound_575 : decode cL_isSound 575 = .ok (.istore 10, 2) := by decide +kernel
theorem dL_isSound_577 : decode cL_isSound 577 = .ok (.iload 10, 2) := by decide +kernel
theorem dL_isSound_579 : decode cL_isSound 579 = .ok (.ifCond .eq 31, 3) := by decide +kernel
theorem dL_isSound_582 : decode cL_isSound 582 = .ok (.iload 6, 2) := by decide +kernel
theorem dL_isSound_584 : decode cL_isSound 584 = .ok (.aload_n 0, 1) := by decide +kernel
theorem dL_isSound_585 : decode cL_isSound 585 = .ok (.iconst 1, 1) := by decide +kernel
theorem dL_isSound_586 : decode cL_isSound 586 = .ok (.aload_n 1, 1) := by decide +kernel
theorem dL_isSound_587 : decode cL_isSound 587 = .ok (.iconst 0, 1) := by decide +kernel
theorem dL_isSound_588 : decode cL_isSound 588 = .ok (.iaload, 1) := by decide +kernel
theorem dL_isSound_589 : decode cL_isSound 589 = .ok (.ishl, 1) := by decide +kernel
theorem dL_isSound_590 : decode cL_isSound 590 = .ok (.iconst 1, 1) := by decide +kernel
theorem dL_isSound_591 : decode cL_isSound 591 = .ok (.isub, 1) := by decide +kernel
theorem dL_isSound_592 : decode cL_isSound 592 = .ok (.invokevirtual 79, 3) := by decide +kernel
theorem dL_isSound_595 : decode cL_isSound 595 = .ok (.if_icmp .gt 15, 3) := by decide +kernel
theorem dL_isSound_598 : decode cL_isSound 598 = .ok (.aload_n 0, 1) := by decide +kernel
theorem dL_isSound_599 : decode cL_isSound 599 = .ok (.iconst 0, 1) := by decide +kernel
theorem dL_isSound_600 : decode cL_isSound 600 = .ok (.invokevirtual 79, 3) := by decide +kernel
theorem dL_isSound_603 : decode cL_isSound 603 = .ok (.ifCond .ne 7, 3) := by decide +kernel
theorem dL_isSound_606 : decode cL_isSound 606 = .ok (.iconst 1, 1) := by decide +kernel
theorem dL_isSound_607 : decode cL_isSound 607 = .ok (.goto 4, 3) := by decide +kernel
theorem dL_isSound_610 : decode cL_isSound 610 = .ok (.iconst 0, 1) := by decide +kernel
theorem dL_isSound_611 : decode cL_isSound 611 = .ok (.ireturn, 1) := by decide +kernel
theorem dL_isMost_0 : decode cL_isMost 0 = .ok (.iconst 0, 1) := by decide +kernel
theorem dL_isMost_1 : decode cL_isMost 1 = .ok (.istore_n 3, 1) := by decide +kernel
theorem dL_isMost_2 : decode cL_isMost 2 = .ok (.iconst 0, 1) := by decide +kernel
theorem dL_isMost_3 : decode cL_isMost 3 = .ok (.istore 4, 2) := by decide +kernel
theorem dL_isMost_5 : decode cL_isMost 5 = .ok (.iconst 1, 1) := by decide +kernel
theorem dL_isMost_6 : decode cL_isMost 6 = .ok (.istore 5, 2) := by decide +kernel
theorem dL_isMost_8 : decode cL_isMost 8 = .ok (.iconst 1, 1) := by decide +kernel
theorem dL_isMost_9 : decode cL_isMost 9 = .ok (.istore 6, 2) := by decide +kernel
theorem dL_isMost_11 : decode cL_isMost 11 = .ok (.iconst 0, 1) := by decide +kernel
theorem dL_isMost_12 : decode cL_isMost 12 = .ok (.istore 7, 2) := by decide +kernel
theorem dL_isMost_14 : decode cL_isMost 14 = .ok (.iload 7, 2) := by decide +kernel
theorem dL_isMost_16 : decode cL_isMost 16 = .ok (.aload_n 1, 1) := by decide +kernel
theorem dL_isMost_17 : decode cL_isMost 17 = .ok (.iconst 0, 1) := by decide +kernel
theorem dL_isMost_18 : decode cL_isMost 18 = .ok (.iaload, 1) := by decide +kernel
theorem dL_isMost_19 : decode cL_isMost 19 = .ok (.if_icmp .ge 172, 3) := by decide +kernel
theorem dL_isMost_22 : decode cL_isMost 22 = .ok (.iload 5, 2) := by decide +kernel
theorem dL_isMost_24 : decode cL_isMost 24 = .ok (.ifCond .eq 167, 3) := by decide +kernel
theorem dL_isMost_27 : decode cL_isMost 27 = .ok (.iconst 0, 1) := by decide +kernel
theorem dL_isMost_28 : decode cL_isMost 28 = .ok (.istore 8, 2) := by decide +kernel
theorem dL_isMost_30 : decode cL_isMost 30 = .ok (.iload 8, 2) := by decide +kernel
theorem dL_isMost_32 : decode cL_isMost 32 = .ok (.aload_n 1, 1) := by decide +kernel
theorem dL_isMost_33 : decode cL_isMost 33 = .ok (.iconst 0, 1) := by decide +kernel
theorem dL_isMost_34 : decode cL_isMost 34 = .ok (.iaload, 1) := by decide +kernel
theorem dL_isMost_35 : decode cL_isMost 35 = .ok (.if_icmp .ge 150, 3) := by decide +kernel
theorem dL_isMost_38 : decode cL_isMost 38 = .ok (.aload_n 0, 1) := by decide +kernel
theorem dL_isMost_39 : decode cL_isMost 39 = .ok (.iload 8, 2) := by decide +kernel
theorem dL_isMost_41 : decode cL_isMost 41 = .ok (.invokevirtual 73, 3) := by decide +kernel
theorem dL_isMost_44 : decode cL_isMost 44 = .ok (.iload 7, 2) := by decide +kernel
theorem dL_isMost_46 : decode cL_isMost 46 = .ok (.if_icmp .ne 133, 3) := by decide +kernel
theorem dL_isMost_49 : decode cL_isMost 49 = .ok (.aload_n 0, 1) := by decide +kernel
theorem dL_isMost_50 : decode cL_isMost 50 = .ok (.iload 8, 2) := by decide +kernel
theorem dL_isMost_52 : decode cL_isMost 52 = .ok (.iconst 3, 1) := by decide +kernel
theorem dL_isMost_53 : decode cL_isMost 53 = .ok (.invokevirtual 48, 3) := by decide +kernel
theorem dL_isMost_56 : decode cL_isMost 56 = .ok (.istore 9, 2) := by decide +kernel
theorem dL_isMost_58 : decode cL_isMost 58 = .ok (.aload_n 0, 1) := by decide +kernel
theorem dL_isMost_59 : decode cL_isMost 59 = .ok (.iload 8, 2) := by decide +kernel
theorem dL_isMost_61 : decode cL_isMost 61 = .ok (.iconst 2, 1) := by decide +kernel
theorem dL_isMost_62 : decode cL_isMost 62 = .ok (.invokevirtual 48, 3) := by decide +kernel
theorem dL_isMost_65 : decode cL_isMost 65 = .ok (.istore 10, 2) := by decide +kernel
theorem dL_isMost_67 : decode cL_isMost 67 = .ok (.aload_n 0, 1) := by decide +kernel
theorem dL_isMost_68 : decode cL_isMost 68 = .ok (.iconst 1, 1) := by decide +kernel
theorem dL_isMost_69 : decode cL_isMost 69 = .ok (.iload 8, 2) := by decide +kernel
theorem dL_isMost_71 : decode cL_isMost 71 = .ok (.ishl, 1) := by decide +kernel
theorem dL_isMost_72 : decode cL_isMost 72 = .ok (.invokevirtual 79, 3) := by decide +kernel
theorem dL_isMost_75 : decode cL_isMost 75 = .ok (.istore 11, 2) := by decide +kernel
theorem dL_isMost_77 : decode cL_isMost 77 = .ok (.iload_n 3, 1) := by decide +kernel
theorem dL_isMost_78 : decode cL_isMost 78 = .ok (.iconst 1, 1) := by decide +kernel
theorem dL_isMost_79 : decode cL_isMost 79 = .ok (.iload 8, 2) := by decide +kernel
theorem dL_isMost_81 : decode cL_isMost 81 = .ok (.ishl, 1) := by decide +kernel
theorem dL_isMost_82 : decode cL_isMost 82 = .ok (.ior, 1) := by decide +kernel
theorem dL_isMost_83 : decode cL_isMost 83 = .ok (.istore_n 3, 1) := by decide +kernel
theorem dL_isMost_84 : decode cL_isMost 84 = .ok (.iload 4, 2) := by decide +kernel
theorem dL_isMost_86 : decode cL_isMost 86 = .ok (.iload 9, 2) := by decide +kernel
theorem dL_isMost_88 : decode cL_isMost 88 = .ok (.iadd, 1) := by decide +kernel
theorem dL_isMost_89 : decode cL_isMost 89 = .ok (.istore 4, 2) := by decide +kernel
theorem dL_isMost_91 : decode cL_isMost 91 = .ok (.iload 6, 2) := by decide +kernel
theorem dL_isMost_93 : decode cL_isMost 93 = .ok (.ifCond .eq 14, 3) := by decide +kernel
theorem dL_isMost_96 : decode cL_isMost 96 = .ok (.iload 9, 2) := by decide +kernel
theorem dL_isMost_98 : decode cL_isMost 98 = .ok (.iload 10, 2) := by decide +kernel
theorem dL_isMost_100 : decode cL_isMost 100 = .ok (.if_icmp .ge 7, 3) := by decide +kernel
theorem dL_isMost_103 : decode cL_isMost 103 = .ok (.iconst 1, 1) := by decide +kernel
theorem dL_isMost_104 : decode cL_isMost 104 = .ok (.goto 4, 3) := by decide +kernel
theorem dL_isMost_107 : decode cL_isMost 107 = .ok (.iconst 0, 1) := by decide +kernel
theorem dL_isMost_108 : decode cL_isMost 108 = .ok (.istore 6, 2) := by decide +kernel
theorem dL_isMost_110 : decode cL_isMost 110 = .ok (.iload 5, 2) := by decide +kernel
theorem dL_isMost_112 : decode cL_isMost 112 = .ok (.ifCond .eq 64, 3) := by decide +kernel
theorem dL_isMost_115 : decode cL_isMost 115 = .ok (.iload_n 2, 1) := by decide +kernel
theorem dL_isMost_116 : decode cL_isMost 116 = .ok (.ifCond .eq 27, 3) := by decide +kernel
theorem dL_isMost_119 : decode cL_isMost 119 = .ok (.iload 7, 2) := by decide +kernel
theorem dL_isMost_121 : decode cL_isMost 121 = .ok (.ifCond .gt 22, 3) := by decide +kernel
theorem dL_isMost_124 : decode cL_isMost 124 = .ok (.iload 9, 2) := by decide +kernel
theorem dL_isMost_126 : decode cL_isMost 126 = .ok (.iload 11, 2) := by decide +kernel
theorem dL_isMost_128 : decode cL_isMost 128 = .ok (.iload 10, 2) := by decide +kernel
theorem dL_isMost_130 : decode cL_isMost 130 = .ok (.if_icmp .ge 8, 3) := by decide +kernel
theorem dL_isMost_133 : decode cL_isMost 133 = .ok (.iload 11, 2) := by decide +kernel
theorem dL_isMost_135 : decode cL_isMost 135 = .ok (.goto 5, 3) := by decide +kernel
theorem dL_isMost_138 : decode cL_isMost 138 = .ok (.iload 10, 2) := by decide +kernel
theorem dL_isMost_140 : decode cL_isMost 140 = .ok (.if_icmp .ne 36, 3) := by decide +kernel
theorem dL_isMost_143 : decode cL_isMost 143 = .ok (.iload 4, 2) := by decide +kernel
theorem dL_isMost_145 : decode cL_isMost 145 = .ok (.aload_n 0, 1) := by decide +kernel
theorem dL_isMost_146 : decode cL_isMost 146 = .ok (.iload_n 3, 1) := by decide +kernel
theorem dL_isMost_147 : decode cL_isMost 147 = .ok (.invokevirtual 79, 3) := by decide +kernel
theorem dL_isMost_150 : decode cL_isMost 150 = .ok (.if_icmp .gt 26, 3) := by decide +kernel
theorem dL_isMost_153 : decode cL_isMost 153 = .ok (.iload_n 2, 1) := by decide +kernel
theorem dL_isMost_154 : decode cL_isMost 154 = .ok (.ifCond .eq 18, 3) := by decide +kernel
theorem dL_isMost_157 : decode cL_isMost 157 = .ok (.iload 6, 2) := by decide +kernel
theorem dL_isMost_159 : decode cL_isMost 159 = .ok (.ifCond .eq 13, 3) := by decide +kernel
theorem dL_isMost_162 : decode cL_isMost 162 = .ok (.iload 4, 2) := by decide +kernel
theorem dL_isMost_164 : decode cL_isMost 164 = .ok (.aload_n 0, 1) := by decide +kernel
theorem dL_isMost_165 : decode cL_isMost 165 = .ok (.iload_n 3, 1) := by decide +kernel
theorem dL_isMost_166 : decode cL_isMost 166 = .ok (.invokevirtual 79, 3) := by decide +kernel
theorem dL_isMost_169 : decode cL_isMost 169 = .ok (.if_icmp .ne 7, 3) := by decide +kernel
theorem dL_isMost_172 : decode cL_isMost 172 = .ok (.iconst 1, 1) := by decide +kernel
theorem dL_isMost_173 : decode cL_isMost 173 = .ok (.goto 4, 3) := by decide +kernel
theorem dL_isMost_176 : decode cL_isMost 176 = .ok (.iconst 0, 1) := by decide +kernel
theorem dL_isMost_177 : decode cL_isMost 177 = .ok (.istore 5, 2) := by decide +kernel
theorem dL_isMost_179 : decode cL_isMost 179 = .ok (.iinc 8 1, 3) := by decide +kernel
theorem dL_isMost_182 : decode cL_isMost 182 = .ok (.goto (-152), 3) := by decide +kernel
theorem dL_isMost_185 : decode cL_isMost 185 = .ok (.iinc 7 1, 3) := by decide +kernel
theorem dL_isMost_188 : decode cL_isMost 188 = .ok (.goto (-174), 3) := by decide +kernel
theorem dL_isMost_191 : decode cL_isMost 191 = .ok (.iload 5, 2) := by decide +kernel
theorem dL_isMost_193 : decode cL_isMost 193 = .ok (.ireturn, 1) := by decide +kernel
theorem dL_bids_0 : decode cL_bids 0 = .ok (.iload_n 1, 1) := by decide +kernel
theorem dL_bids_1 : decode cL_bids 1 = .ok (.aload_n 3, 1) := by decide +kernel
theorem dL_bids_2 : decode cL_bids 2 = .ok (.iconst 0, 1) := by decide +kernel
theorem dL_bids_3 : decode cL_bids 3 = .ok (.iaload, 1) := by decide +kernel
theorem dL_bids_4 : decode cL_bids 4 = .ok (.irem, 1) := by decide +kernel
theorem dL_bids_5 : decode cL_bids 5 = .ok (.istore 4, 2) := by decide +kernel
theorem dL_bids_7 : decode cL_bids 7 = .ok (.iload_n 2, 1) := by decide +kernel
theorem dL_bids_8 : decode cL_bids 8 = .ok (.bipush 40, 2) := by decide +kernel
theorem dL_bids_10 : decode cL_bids 10 = .ok (.irem, 1) := by decide +kernel
theorem dL_bids_11 : decode cL_bids 11 = .ok (.iload_n 2, 1) := by decide +kernel
theorem dL_bids_12 : decode cL_bids 12 = .ok (.bipush 40, 2) := by decide +kernel
theorem dL_bids_14 : decode cL_bids 14 = .ok (.idiv, 1) := by decide +kernel
theorem dL_bids_15 : decode cL_bids 15 = .ok (.iconst 4, 1) := by decide +kernel
theorem dL_bids_16 : decode cL_bids 16 = .ok (.irem, 1) := by decide +kernel
theorem dL_bids_17 : decode cL_bids 17 = .ok (.ifCond .ne 8, 3) := by decide +kernel
theorem dL_bids_20 : decode cL_bids 20 = .ok (.bipush 40, 2) := by decide +kernel
theorem dL_bids_22 : decode cL_bids 22 = .ok (.goto 4, 3) := by decide +kernel
theorem dL_bids_25 : decode cL_bids 25 = .ok (.iconst 0, 1) := by decide +kernel
theorem dL_bids_26 : decode cL_bids 26 = .ok (.iadd, 1) := by decide +kernel
theorem dL_bids_27 : decode cL_bids 27 = .ok (.istore 5, 2) := by decide +kernel
theorem dL_bids_29 : decode cL_bids 29 = .ok (.aload_n 0, 1) := by decide +kernel
theorem dL_bids_30 : decode cL_bids 30 = .ok (.iload 4, 2) := by decide +kernel
theorem dL_bids_32 : decode cL_bids 32 = .ok (.iconst 1, 1) := by decide +kernel
theorem dL_bids_33 : decode cL_bids 33 = .ok (.invokevirtual 48, 3) := by decide +kernel
theorem dL_bids_36 : decode cL_bids 36 = .ok (.istore 6, 2) := by decide +kernel
theorem dL_bids_38 : decode cL_bids 38 = .ok (.aload_n 0, 1) := by decide +kernel
theorem dL_bids_39 : decode cL_bids 39 = .ok (.iconst 3, 1) := by decide +kernel
theorem dL_bids_40 : decode cL_bids 40 = .ok (.iload 4, 2) := by decide +kernel
theorem dL_bids_42 : decode cL_bids 42 = .ok (.iload 5, 2) := by decide +kernel
theorem dL_bids_44 : decode cL_bids 44 = .ok (.iload_n 2, 1) := by decide +kernel
theorem dL_bids_45 : decode cL_bids 45 = .ok (.sipush 160, 3) := by decide +kernel
theorem dL_bids_48 : decode cL_bids 48 = .ok (.idiv, 1) := by decide +kernel
theorem dL_bids_49 : decode cL_bids 49 = .ok (.sipush 300, 3) := by decide +kernel
theorem dL_bids_52 : decode cL_bids 52 = .ok (.irem, 1) := by decide +kernel
theorem dL_bids_53 : decode cL_bids 53 = .ok (.invokestatic 69, 3) := by decide +kernel
theorem dL_bids_56 : decode cL_bids 56 = .ok (.istore 7, 2) := by decide +kernel
theorem dL_bids_58 : decode cL_bids 58 = .ok (.aload_n 3, 1) := by decide +kernel
theorem dL_bids_59 : decode cL_bids 59 = .ok (.iconst 3, 1) := by decide +kernel
theorem dL_bids_60 : decode cL_bids 60 = .ok (.iaload, 1) := by decide +kernel
theorem dL_bids_61 : decode cL_bids 61 = .ok (.iconst 1, 1) := by decide +kernel
theorem dL_bids_62 : decode cL_bids 62 = .ok (.if_icmp .eq 10, 3) := by decide +kernel
theorem dL_bids_65 : decode cL_bids 65 = .ok (.iload 5, 2) := by decide +kernel
theorem dL_bids_67 : decode cL_bids 67 = .ok (.iload 6, 2) := by decide +kernel
theorem dL_bids_69 : decode cL_bids 69 = .ok (.if_icmp .ge 28, 3) := by decide +kernel
theorem dL_bids_72 : decode cL_bids 72 = .ok (.iload 7, 2) := by decide +kernel
theorem dL_bids_74 : decode cL_bids 74 = .ok (.ldc 59, 2) := by decide +kernel
theorem dL_bids_76 : decode cL_bids 76 = .ok (.if_icmp .ne 19, 3) := by decide +kernel
theorem dL_bids_79 : decode cL_bids 79 = .ok (.aload_n 0, 1) := by decide +kernel
theorem dL_bids_80 : decode cL_bids 80 = .ok (.iload 4, 2) := by decide +kernel
theorem dL_bids_82 : decode cL_bids 82 = .ok (.iconst 1, 1) := by decide +kernel
theorem dL_bids_83 : decode cL_bids 83 = .ok (.invokevirtual 48, 3) := by decide +kernel
theorem dL_bids_86 : decode cL_bids 86 = .ok (.iload 6, 2) := by decide +kernel
theorem dL_bids_88 : decode cL_bids 88 = .ok (.if_icmp .ne 7, 3) := by decide +kernel
theorem dL_bids_91 : decode cL_bids 91 = .ok (.iconst 1, 1) := by decide +kernel
theorem dL_bids_92 : decode cL_bids 92 = .ok (.goto 4, 3) := by decide +kernel
theorem dL_bids_95 : decode cL_bids 95 = .ok (.iconst 0, 1) := by decide +kernel
theorem dL_bids_96 : decode cL_bids 96 = .ok (.ireturn, 1) := by decide +kernel
theorem dL_bids_97 : decode cL_bids 97 = .ok (.iload 7, 2) := by decide +kernel
theorem dL_bids_99 : decode cL_bids 99 = .ok (.ifCond .le 27, 3) := by decide +kernel
theorem dL_bids_102 : decode cL_bids 102 = .ok (.iload 7, 2) := by decide +kernel
theorem dL_bids_104 : decode cL_bids 104 = .ok (.aload_n 3, 1) := by decide +kernel
theorem dL_bids_105 : decode cL_bids 105 = .ok (.iconst 0, 1) := by decide +kernel
theorem dL_bids_106 : decode cL_bids 106 = .ok (.iaload, 1) := by decide +kernel
theorem dL_bids_107 : decode cL_bids 107 = .ok (.if_icmp .gt 19, 3) := by decide +kernel
theorem dL_bids_110 : decode cL_bids 110 = .ok (.aload_n 0, 1) := by decide +kernel
theorem dL_bids_111 : decode cL_bids 111 = .ok (.iload 4, 2) := by decide +kernel
theorem dL_bids_113 : decode cL_bids 113 = .ok (.iconst 1, 1) := by decide +kernel
theorem dL_bids_114 : decode cL_bids 114 = .ok (.invokevirtual 48, 3) := by decide +kernel
theorem dL_bids_117 : decode cL_bids 117 = .ok (.iload 6, 2) := by decide +kernel
theorem dL_bids_119 : decode cL_bids 119 = .ok (.if_icmp .ne 7, 3) := by decide +kernel
theorem dL_bids_122 : decode cL_bids 122 = .ok (.iconst 1, 1) := by decide +kernel
theorem dL_bids_123 : decode cL_bids 123 = .ok (.goto 4, 3) := by decide +kernel
theorem dL_bids_126 : decode cL_bids 126 = .ok (.iconst 0, 1) := by decide +kernel
theorem dL_bids_127 : decode cL_bids 127 = .ok (.ireturn, 1) := by decide +kernel
theorem dL_closes_0 : decode cL_closes 0 = .ok (.aload_n 0, 1) := by decide +kernel
theorem dL_closes_1 : decode cL_closes 1 = .ok (.invokevirtual 63, 3) := by decide +kernel
theorem dL_closes_4 : decode cL_closes 4 = .ok (.istore_n 3, 1) := by decide +kernel
theorem dL_closes_5 : decode cL_closes 5 = .ok (.aload_n 0, 1) := by decide +kernel
theorem dL_closes_6 : decode cL_closes 6 = .ok (.iconst 4, 1) := by decide +kernel
theorem dL_closes_7 : decode cL_closes 7 = .ok (.iconst 0, 1) := by decide +kernel
theorem dL_closes_8 : decode cL_closes 8 = .ok (.iconst 0, 1) := by decide +kernel
theorem dL_closes_9 : decode cL_closes 9 = .ok (.iconst 0, 1) := by decide +kernel
theorem dL_closes_10 : decode cL_closes 10 = .ok (.invokestatic 69, 3) := by decide +kernel
theorem dL_closes_13 : decode cL_closes 13 = .ok (.istore 4, 2) := by decide +kernel
theorem dL_closes_15 : decode cL_closes 15 = .ok (.aload_n 1, 1) := by decide +kernel
theorem dL_closes_16 : decode cL_closes 16 = .ok (.iconst 3, 1) := by decide +kernel
theorem dL_closes_17 : decode cL_closes 17 = .ok (.iaload, 1) := by decide +kernel
theorem dL_closes_18 : decode cL_closes 18 = .ok (.iconst 1, 1) := by decide +kernel
theorem dL_closes_19 : decode cL_closes 19 = .ok (.if_icmp .ne 16, 3) := by decide +kernel
theorem dL_closes_22 : decode cL_closes 22 = .ok (.iload 4, 2) := by decide +kernel
theorem dL_closes_24 : decode cL_closes 24 = .ok (.ldc 59, 2) := by decide +kernel
theorem dL_closes_26 : decode cL_closes 26 = .ok (.if_icmp .ne 7, 3) := by decide +kernel
theorem dL_closes_29 : decode cL_closes 29 = .ok (.iconst 1, 1) := by decide +kernel
theorem dL_closes_30 : decode cL_closes 30 = .ok (.goto 4, 3) := by decide +kernel
theorem dL_closes_33 : decode cL_closes 33 = .ok (.iconst 0, 1) := by decide +kernel
theorem dL_closes_34 : decode cL_closes 34 = .ok (.ireturn, 1) := by decide +kernel
theorem dL_closes_35 : decode cL_closes 35 = .ok (.aload_n 1, 1) := by decide +kernel
theorem dL_closes_36 : decode cL_closes 36 = .ok (.iconst 3, 1) := by decide +kernel
theorem dL_closes_37 : decode cL_closes 37 = .ok (.iload 4, 2) := by decide +kernel
theorem dL_closes_39 : decode cL_closes 39 = .ok (.iastore, 1) := by decide +kernel
theorem dL_closes_40 : decode cL_closes 40 = .ok (.iconst 0, 1) := by decide +kernel
theorem dL_closes_41 : decode cL_closes 41 = .ok (.istore 5, 2) := by decide +kernel
theorem dL_closes_43 : decode cL_closes 43 = .ok (.iload 5, 2) := by decide +kernel
theorem dL_closes_45 : decode cL_closes 45 = .ok (.aload_n 1, 1) := by decide +kernel
theorem dL_closes_46 : decode cL_closes 46 = .ok (.iconst 0, 1) := by decide +kernel
theorem dL_closes_47 : decode cL_closes 47 = .ok (.iaload, 1) := by decide +kernel
theorem dL_closes_48 : decode cL_closes 48 = .ok (.if_icmp .ge 43, 3) := by decide +kernel
theorem dL_closes_51 : decode cL_closes 51 = .ok (.aload_n 2, 1) := by decide +kernel
theorem dL_closes_52 : decode cL_closes 52 = .ok (.iconst 2, 1) := by decide +kernel
theorem dL_closes_53 : decode cL_closes 53 = .ok (.iload 5, 2) := by decide +kernel
theorem dL_closes_55 : decode cL_closes 55 = .ok (.imul, 1) := by decide +kernel
theorem dL_closes_56 : decode cL_closes 56 = .ok (.dup2, 1) := by decide +kernel
theorem dL_closes_57 : decode cL_closes 57 = .ok (.iaload, 1) := by decide +kernel
theorem dL_closes_58 : decode cL_closes 58 = .ok (.iload 4, 2) := by decide +kernel
theorem dL_closes_60 : decode cL_closes 60 = .ok (.iconst 1, 1) := by decide +kernel
theorem dL_closes_61 : decode cL_closes 61 = .ok (.if_icmp .ne 21, 3) := by decide +kernel
theorem dL_closes_64 : decode cL_closes 64 = .ok (.aload_n 0, 1) := by decide +kernel
theorem dL_closes_65 : decode cL_closes 65 = .ok (.iload 5, 2) := by decide +kernel
theorem dL_closes_67 : decode cL_closes 67 = .ok (.iconst 3, 1) := by decide +kernel
theorem dL_closes_68 : decode cL_closes 68 = .ok (.invokevirtual 48, 3) := by decide +kernel
theorem dL_closes_71 : decode cL_closes 71 = .ok (.aload_n 0, 1) := by decide +kernel
theorem dL_closes_72 : decode cL_closes 72 = .ok (.iload 5, 2) := by decide +kernel
theorem dL_closes_74 : decode cL_closes 74 = .ok (.iconst 1, 1) := by decide +kernel
theorem dL_closes_75 : decode cL_closes 75 = .ok (.invokevirtual 48, 3) := by decide +kernel
theorem dL_closes_78 : decode cL_closes 78 = .ok (.imul, 1) := by decide +kernel
theorem dL_closes_79 : decode cL_closes 79 = .ok (.goto 4, 3) := by decide +kernel
theorem dL_closes_82 : decode cL_closes 82 = .ok (.iconst 0, 1) := by decide +kernel
theorem dL_closes_83 : decode cL_closes 83 = .ok (.iadd, 1) := by decide +kernel
theorem dL_closes_84 : decode cL_closes 84 = .ok (.iastore, 1) := by decide +kernel
theorem dL_closes_85 : decode cL_closes 85 = .ok (.iinc 5 1, 3) := by decide +kernel
theorem dL_closes_88 : decode cL_closes 88 = .ok (.goto (-45), 3) := by decide +kernel
theorem dL_closes_91 : decode cL_closes 91 = .ok (.iload 4, 2) := by decide +kernel
theorem dL_closes_93 : decode cL_closes 93 = .ok (.iconst 1, 1) := by decide +kernel
theorem dL_closes_94 : decode cL_closes 94 = .ok (.if_icmp .ne 14, 3) := by decide +kernel
theorem dL_closes_97 : decode cL_closes 97 = .ok (.aload_n 0, 1) := by decide +kernel
theorem dL_closes_98 : decode cL_closes 98 = .ok (.invokevirtual 63, 3) := by decide +kernel
theorem dL_closes_101 : decode cL_closes 101 = .ok (.iconst (-1), 1) := by decide +kernel
theorem dL_closes_102 : decode cL_closes 102 = .ok (.if_icmp .ne 39, 3) := by decide +kernel
theorem dL_closes_105 : decode cL_closes 105 = .ok (.goto 18, 3) := by decide +kernel
theorem dL_closes_108 : decode cL_closes 108 = .ok (.aload_n 0, 1) := by decide +kernel
theorem dL_closes_109 : decode cL_closes 109 = .ok (.invokevirtual 63, 3) := by decide +kernel
theorem dL_closes_112 : decode cL_closes 112 = .ok (.iload_n 3, 1) := by decide +kernel
theorem dL_closes_113 : decode cL_closes 113 = .ok (.iconst 1, 1) := by decide +kernel
theorem dL_closes_114 : decode cL_closes 114 = .ok (.iadd, 1) := by decide +kernel
theorem dL_closes_115 : decode cL_closes 115 = .ok (.if_icmp .ne 26, 3) := by decide +kernel
theorem dL_closes_118 : decode cL_closes 118 = .ok (.iload_n 3, 1) := by decide +kernel
theorem dL_closes_119 : decode cL_closes 119 = .ok (.iconst 4, 1) := by decide +kernel
theorem dL_closes_120 : decode cL_closes 120 = .ok (.if_icmp .ge 21, 3) := by decide +kernel
theorem dL_closes_123 : decode cL_closes 123 = .ok (.iload 4, 2) := by decide +kernel
theorem dL_closes_125 : decode cL_closes 125 = .ok (.ifCond .eq 12, 3) := by decide +kernel
theorem dL_closes_128 : decode cL_closes 128 = .ok (.aload_n 0, 1) := by decide +kernel
theorem dL_closes_129 : decode cL_closes 129 = .ok (.aload_n 1, 1) := by decide +kernel
theorem dL_closes_130 : decode cL_closes 130 = .ok (.iconst 1, 1) := by decide +kernel
theorem dL_closes_131 : decode cL_closes 131 = .ok (.invokestatic 82, 3) := by decide +kernel
theorem dL_closes_134 : decode cL_closes 134 = .ok (.ifCond .eq 7, 3) := by decide +kernel
theorem dL_closes_137 : decode cL_closes 137 = .ok (.iconst 1, 1) := by decide +kernel
theorem dL_closes_138 : decode cL_closes 138 = .ok (.goto 4, 3) := by decide +kernel
theorem dL_closes_141 : decode cL_closes 141 = .ok (.iconst 0, 1) := by decide +kernel
theorem dL_closes_142 : decode cL_closes 142 = .ok (.ireturn, 1) := by decide +kernel
theorem dL_bursts_0 : decode cL_bursts 0 = .ok (.iload_n 1, 1) := by decide +kernel
theorem dL_bursts_1 : decode cL_bursts 1 = .ok (.aload_n 2, 1) := by decide +kernel
theorem dL_bursts_2 : decode cL_bursts 2 = .ok (.iconst 1, 1) := by decide +kernel
theorem dL_bursts_3 : decode cL_bursts 3 = .ok (.iaload, 1) := by decide +kernel
theorem dL_bursts_4 : decode cL_bursts 4 = .ok (.irem, 1) := by decide +kernel
theorem dL_bursts_5 : decode cL_bursts 5 = .ok (.istore 5, 2) := by decide +kernel
theorem dL_bursts_7 : decode cL_bursts 7 = .ok (.bipush 8, 2) := by decide +kernel
theorem dL_bursts_9 : decode cL_bursts 9 = .ok (.newarray .int, 2) := by decide +kernel
theorem dL_bursts_11 : decode cL_bursts 11 = .ok (.astore 6, 2) := by decide +kernel
theorem dL_bursts_13 : decode cL_bursts 13 = .ok (.iconst 0, 1) := by decide +kernel
theorem dL_bursts_14 : decode cL_bursts 14 = .ok (.istore 7, 2) := by decide +kernel
theorem dL_bursts_16 : decode cL_bursts 16 = .ok (.iload 7, 2) := by decide +kernel
theorem dL_bursts_18 : decode cL_bursts 18 = .ok (.aload_n 2, 1) := by decide +kernel
theorem dL_bursts_19 : decode cL_bursts 19 = .ok (.iconst 0, 1) := by decide +kernel
theorem dL_bursts_20 : decode cL_bursts 20 = .ok (.iaload, 1) := by decide +kernel
theorem dL_bursts_21 : decode cL_bursts 21 = .ok (.if_icmp .ge 21, 3) := by decide +kernel
theorem dL_bursts_24 : decode cL_bursts 24 = .ok (.aload 6, 2) := by decide +kernel
theorem dL_bursts_26 : decode cL_bursts 26 = .ok (.iload 7, 2) := by decide +kernel
theorem dL_bursts_28 : decode cL_bursts 28 = .ok (.aload_n 0, 1) := by decide +kernel
theorem dL_bursts_29 : decode cL_bursts 29 = .ok (.iload 7, 2) := by decide +kernel
theorem dL_bursts_31 : decode cL_bursts 31 = .ok (.iconst 3, 1) := by decide +kernel
theorem dL_bursts_32 : decode cL_bursts 32 = .ok (.invokevirtual 48, 3) := by decide +kernel
theorem dL_bursts_35 : decode cL_bursts 35 = .ok (.iastore, 1) := by decide +kernel
theorem dL_bursts_36 : decode cL_bursts 36 = .ok (.iinc 7 1, 3) := by decide +kernel
theorem dL_bursts_39 : decode cL_bursts 39 = .ok (.goto (-23), 3) := by decide +kernel
theorem dL_bursts_42 : decode cL_bursts 42 = .ok (.aload_n 0, 1) := by decide +kernel
theorem dL_bursts_43 : decode cL_bursts 43 = .ok (.iconst 5, 1) := by decide +kernel
theorem dL_bursts_44 : decode cL_bursts 44 = .ok (.iload 5, 2) := by decide +kernel
theorem dL_bursts_46 : decode cL_bursts 46 = .ok (.iconst 0, 1) := by decide +kernel
theorem dL_bursts_47 : decode cL_bursts 47 = .ok (.iconst 0, 1) := by decide +kernel
theorem dL_bursts_48 : decode cL_bursts 48 = .ok (.invokestatic 69, 3) := by decide +kernel
theorem dL_bursts_51 : decode cL_bursts 51 = .ok (.istore 7, 2) := by decide +kernel
theorem dL_bursts_53 : decode cL_bursts 53 = .ok (.aload 4, 2) := by decide +kernel
theorem dL_bursts_55 : decode cL_bursts 55 = .ok (.iload 5, 2) := by decide +kernel
theorem dL_bursts_57 : decode cL_bursts 57 = .ok (.iaload, 1) := by decide +kernel
theorem dL_bursts_58 : decode cL_bursts 58 = .ok (.iconst 1, 1) := by decide +kernel
theorem dL_bursts_59 : decode cL_bursts 59 = .ok (.if_icmp .ne 16, 3) := by decide +kernel
theorem dL_bursts_62 : decode cL_bursts 62 = .ok (.iload 7, 2) := by decide +kernel
theorem dL_bursts_64 : decode cL_bursts 64 = .ok (.ldc 59, 2) := by decide +kernel
theorem dL_bursts_66 : decode cL_bursts 66 = .ok (.if_icmp .ne 7, 3) := by decide +kernel
theorem dL_bursts_69 : decode cL_bursts 69 = .ok (.iconst 1, 1) := by decide +kernel
theorem dL_bursts_70 : decode cL_bursts 70 = .ok (.goto 4, 3) := by decide +kernel
theorem dL_bursts_73 : decode cL_bursts 73 = .ok (.iconst 0, 1) := by decide +kernel
theorem dL_bursts_74 : decode cL_bursts 74 = .ok (.ireturn, 1) := by decide +kernel
theorem dL_bursts_75 : decode cL_bursts 75 = .ok (.aload 4, 2) := by decide +kernel
theorem dL_bursts_77 : decode cL_bursts 77 = .ok (.iload 5, 2) := by decide +kernel
theorem dL_bursts_79 : decode cL_bursts 79 = .ok (.iconst 1, 1) := by decide +kernel
theorem dL_bursts_80 : decode cL_bursts 80 = .ok (.iastore, 1) := by decide +kernel
theorem dL_bursts_81 : decode cL_bursts 81 = .ok (.iconst 0, 1) := by decide +kernel
theorem dL_bursts_82 : decode cL_bursts 82 = .ok (.istore 8, 2) := by decide +kernel
theorem dL_bursts_84 : decode cL_bursts 84 = .ok (.iconst 1, 1) := by decide +kernel
theorem dL_bursts_85 : decode cL_bursts 85 = .ok (.istore 9, 2) := by decide +kernel
theorem dL_bursts_87 : decode cL_bursts 87 = .ok (.iconst 0, 1) := by decide +kernel
theorem dL_bursts_88 : decode cL_bursts 88 = .ok (.istore 10, 2) := by decide +kernel
theorem dL_bursts_90 : decode cL_bursts 90 = .ok (.iload 10, 2) := by decide +kernel
theorem dL_bursts_92 : decode cL_bursts 92 = .ok (.aload_n 2, 1) := by decide +kernel
theorem dL_bursts_93 : decode cL_bursts 93 = .ok (.iconst 0, 1) := by decide +kernel
theorem dL_bursts_94 : decode cL_bursts 94 = .ok (.iaload, 1) := by decide +kernel
theorem dL_bursts_95 : decode cL_bursts 95 = .ok (.if_icmp .ge 88, 3) := by decide +kernel
theorem dL_bursts_98 : decode cL_bursts 98 = .ok (.iload 9, 2) := by decide +kernel
theorem dL_bursts_100 : decode cL_bursts 100 = .ok (.ifCond .eq 83, 3) := by decide +kernel
theorem dL_bursts_103 : decode cL_bursts 103 = .ok (.aload 6, 2) := by decide +kernel
theorem dL_bursts_105 : decode cL_bursts 105 = .ok (.iload 10, 2) := by decide +kernel
theorem dL_bursts_107 : decode cL_bursts 107 = .ok (.iaload, 1) := by decide +kernel
theorem dL_bursts_108 : decode cL_bursts 108 = .ok (.aload_n 0, 1) := by decide +kernel
theorem dL_bursts_109 : decode cL_bursts 109 = .ok (.iload 10, 2) := by decide +kernel
theorem dL_bursts_111 : decode cL_bursts 111 = .ok (.iconst 3, 1) := by decide +kernel
theorem dL_bursts_112 : decode cL_bursts 112 = .ok (.invokevirtual 48, 3) := by decide +kernel
theorem dL_bursts_115 : decode cL_bursts 115 = .ok (.isub, 1) := by decide +kernel
theorem dL_bursts_116 : decode cL_bursts 116 = .ok (.istore 11, 2) := by decide +kernel
theorem dL_bursts_118 : decode cL_bursts 118 = .ok (.iload 11, 2) := by decide +kernel
theorem dL_bursts_120 : decode cL_bursts 120 = .ok (.aload_n 0, 1) := by decide +kernel
theorem dL_bursts_121 : decode cL_bursts 121 = .ok (.iload 10, 2) := by decide +kernel
theorem dL_bursts_123 : decode cL_bursts 123 = .ok (.iconst 1, 1) := by decide +kernel
theorem dL_bursts_124 : decode cL_bursts 124 = .ok (.invokevirtual 48, 3) := by decide +kernel
theorem dL_bursts_127 : decode cL_bursts 127 = .ok (.imul, 1) := by decide +kernel
theorem dL_bursts_128 : decode cL_bursts 128 = .ok (.istore 12, 2) := by decide +kernel
theorem dL_bursts_130 : decode cL_bursts 130 = .ok (.iload 11, 2) := by decide +kernel
theorem dL_bursts_132 : decode cL_bursts 132 = .ok (.ifCond .lt 7, 3) := by decide +kernel
theorem dL_bursts_135 : decode cL_bursts 135 = .ok (.iconst 1, 1) := by decide +kernel
theorem dL_bursts_136 : decode cL_bursts 136 = .ok (.goto 4, 3) := by decide +kernel
theorem dL_bursts_139 : decode cL_bursts 139 = .ok (.iconst 0, 1) := by decide +kernel
theorem dL_bursts_140 : decode cL_bursts 140 = .ok (.istore 9, 2) := by decide +kernel
theorem dL_bursts_142 : decode cL_bursts 142 = .ok (.iload 8, 2) := by decide +kernel
theorem dL_bursts_144 : decode cL_bursts 144 = .ok (.iload 11, 2) := by decide +kernel
theorem dL_bursts_146 : decode cL_bursts 146 = .ok (.iadd, 1) := by decide +kernel
theorem dL_bursts_147 : decode cL_bursts 147 = .ok (.istore 8, 2) := by decide +kernel
theorem dL_bursts_149 : decode cL_bursts 149 = .ok (.aload_n 3, 1) := by decide +kernel
theorem dL_bursts_150 : decode cL_bursts 150 = .ok (.iconst 2, 1) := by decide +kernel
theorem dL_bursts_151 : decode cL_bursts 151 = .ok (.iload 10, 2) := by decide +kernel
theorem dL_bursts_153 : decode cL_bursts 153 = .ok (.imul, 1) := by decide +kernel
theorem dL_bursts_154 : decode cL_bursts 154 = .ok (.iconst 1, 1) := by decide +kernel
theorem dL_bursts_155 : decode cL_bursts 155 = .ok (.iadd, 1) := by decide +kernel
theorem dL_bursts_156 : decode cL_bursts 156 = .ok (.dup2, 1) := by decide +kernel
theorem dL_bursts_157 : decode cL_bursts 157 = .ok (.iaload, 1) := by decide +kernel
theorem dL_bursts_158 : decode cL_bursts 158 = .ok (.iload 11, 2) := by decide +kernel
theorem dL_bursts_160 : decode cL_bursts 160 = .ok (.ifCond .ne 7, 3) := by decide +kernel
theorem dL_bursts_163 : decode cL_bursts 163 = .ok (.iconst 0, 1) := by decide +kernel
theorem dL_bursts_164 : decode cL_bursts 164 = .ok (.goto 11, 3) := by decide +kernel
theorem dL_bursts_167 : decode cL_bursts 167 = .ok (.iload 12, 2) := by decide +kernel
theorem dL_bursts_169 : decode cL_bursts 169 = .ok (.iload 12, 2) := by decide +kernel
theorem dL_bursts_171 : decode cL_bursts 171 = .ok (.bipush 10, 2) := by decide +kernel
theorem dL_bursts_173 : decode cL_bursts 173 = .ok (.idiv, 1) := by decide +kernel
theorem dL_bursts_174 : decode cL_bursts 174 = .ok (.iadd, 1) := by decide +kernel
theorem dL_bursts_175 : decode cL_bursts 175 = .ok (.iadd, 1) := by decide +kernel
theorem dL_bursts_176 : decode cL_bursts 176 = .ok (.iastore, 1) := by decide +kernel
theorem dL_bursts_177 : decode cL_bursts 177 = .ok (.iinc 10 1, 3) := by decide +kernel
theorem dL_bursts_180 : decode cL_bursts 180 = .ok (.goto (-90), 3) := by decide +kernel
theorem dL_bursts_183 : decode cL_bursts 183 = .ok (.iload 9, 2) := by decide +kernel
theorem dL_bursts_185 : decode cL_bursts 185 = .ok (.ifCond .eq 23, 3) := by decide +kernel
theorem dL_bursts_188 : decode cL_bursts 188 = .ok (.iload 7, 2) := by decide +kernel
theorem dL_bursts_190 : decode cL_bursts 190 = .ok (.iload 8, 2) := by decide +kernel
theorem dL_bursts_192 : decode cL_bursts 192 = .ok (.if_icmp .ne 16, 3) := by decide +kernel
theorem dL_bursts_195 : decode cL_bursts 195 = .ok (.aload_n 0, 1) := by decide +kernel
theorem dL_bursts_196 : decode cL_bursts 196 = .ok (.aload_n 2, 1) := by decide +kernel
theorem dL_bursts_197 : decode cL_bursts 197 = .ok (.iconst 0, 1) := by decide +kernel
theorem dL_bursts_198 : decode cL_bursts 198 = .ok (.invokestatic 82, 3) := by decide +kernel
theorem dL_bursts_201 : decode cL_bursts 201 = .ok (.ifCond .eq 7, 3) := by decide +kernel
theorem dL_bursts_204 : decode cL_bursts 204 = .ok (.iconst 1, 1) := by decide +kernel
theorem dL_bursts_205 : decode cL_bursts 205 = .ok (.goto 4, 3) := by decide +kernel
theorem dL_bursts_208 : decode cL_bursts 208 = .ok (.iconst 0, 1) := by decide +kernel
theorem dL_bursts_209 : decode cL_bursts 209 = .ok (.ireturn, 1) := by decide +kernel
theorem dL_ends_0 : decode cL_ends 0 = .ok (.bipush 8, 2) := by decide +kernel
theorem dL_ends_2 : decode cL_ends 2 = .ok (.newarray .int, 2) := by decide +kernel
theorem dL_ends_4 : decode cL_ends 4 = .ok (.astore_n 3, 1) := by decide +kernel
theorem dL_ends_5 : decode cL_ends 5 = .ok (.bipush 8, 2) := by decide +kernel
theorem dL_ends_7 : decode cL_ends 7 = .ok (.newarray .int, 2) := by decide +kernel
theorem dL_ends_9 : decode cL_ends 9 = .ok (.astore 4, 2) := by decide +kernel
theorem dL_ends_11 : decode cL_ends 11 = .ok (.bipush 8, 2) := by decide +kernel
theorem dL_ends_13 : decode cL_ends 13 = .ok (.newarray .int, 2) := by decide +kernel
theorem dL_ends_15 : decode cL_ends 15 = .ok (.astore 5, 2) := by decide +kernel
theorem dL_ends_17 : decode cL_ends 17 = .ok (.bipush 8, 2) := by decide +kernel
theorem dL_ends_19 : decode cL_ends 19 = .ok (.newarray .int, 2) := by decide +kernel
theorem dL_ends_21 : decode cL_ends 21 = .ok (.astore 6, 2) := by decide +kernel
theorem dL_ends_23 : decode cL_ends 23 = .ok (.bipush 8, 2) := by decide +kernel
theorem dL_ends_25 : decode cL_ends 25 = .ok (.newarray .int, 2) := by decide +kernel
theorem dL_ends_27 : decode cL_ends 27 = .ok (.astore 7, 2) := by decide +kernel
theorem dL_ends_29 : decode cL_ends 29 = .ok (.iconst 0, 1) := by decide +kernel
theorem dL_ends_30 : decode cL_ends 30 = .ok (.istore 8, 2) := by decide +kernel
theorem dL_ends_32 : decode cL_ends 32 = .ok (.iload 8, 2) := by decide +kernel
theorem dL_ends_34 : decode cL_ends 34 = .ok (.aload_n 1, 1) := by decide +kernel
theorem dL_ends_35 : decode cL_ends 35 = .ok (.iconst 0, 1) := by decide +kernel
theorem dL_ends_36 : decode cL_ends 36 = .ok (.iaload, 1) := by decide +kernel
theorem dL_ends_37 : decode cL_ends 37 = .ok (.if_icmp .ge 71, 3) := by decide +kernel
theorem dL_ends_40 : decode cL_ends 40 = .ok (.aload_n 3, 1) := by decide +kernel
theorem dL_ends_41 : decode cL_ends 41 = .ok (.iload 8, 2) := by decide +kernel
theorem dL_ends_43 : decode cL_ends 43 = .ok (.aload_n 0, 1) := by decide +kernel
theorem dL_ends_44 : decode cL_ends 44 = .ok (.iload 8, 2) := by decide +kernel
theorem dL_ends_46 : decode cL_ends 46 = .ok (.iconst 0, 1) := by decide +kernel
theorem dL_ends_47 : decode cL_ends 47 = .ok (.invokevirtual 48, 3) := by decide +kernel
theorem dL_ends_50 : decode cL_ends 50 = .ok (.iastore, 1) := by decide +kernel
theorem dL_ends_51 : decode cL_ends 51 = .ok (.aload 4, 2) := by decide +kernel
theorem dL_ends_53 : decode cL_ends 53 = .ok (.iload 8, 2) := by decide +kernel
theorem dL_ends_55 : decode cL_ends 55 = .ok (.aload_n 0, 1) := by decide +kernel
theorem dL_ends_56 : decode cL_ends 56 = .ok (.iload 8, 2) := by decide +kernel
theorem dL_ends_58 : decode cL_ends 58 = .ok (.iconst 3, 1) := by decide +kernel
theorem dL_ends_59 : decode cL_ends 59 = .ok (.invokevirtual 48, 3) := by decide +kernel
theorem dL_ends_62 : decode cL_ends 62 = .ok (.iastore, 1) := by decide +kernel
theorem dL_ends_63 : decode cL_ends 63 = .ok (.aload 5, 2) := by decide +kernel
theorem dL_ends_65 : decode cL_ends 65 = .ok (.iload 8, 2) := by decide +kernel
theorem dL_ends_67 : decode cL_ends 67 = .ok (.aload_n 0, 1) := by decide +kernel
theorem dL_ends_68 : decode cL_ends 68 = .ok (.iload 8, 2) := by decide +kernel
theorem dL_ends_70 : decode cL_ends 70 = .ok (.bipush 6, 2) := by decide +kernel
theorem dL_ends_72 : decode cL_ends 72 = .ok (.invokevirtual 48, 3) := by decide +kernel
theorem dL_ends_75 : decode cL_ends 75 = .ok (.iastore, 1) := by decide +kernel
theorem dL_ends_76 : decode cL_ends 76 = .ok (.aload 6, 2) := by decide +kernel
theorem dL_ends_78 : decode cL_ends 78 = .ok (.iload 8, 2) := by decide +kernel
theorem dL_ends_80 : decode cL_ends 80 = .ok (.aload_n 0, 1) := by decide +kernel
theorem dL_ends_81 : decode cL_ends 81 = .ok (.iload 8, 2) := by decide +kernel
theorem dL_ends_83 : decode cL_ends 83 = .ok (.bipush 7, 2) := by decide +kernel
theorem dL_ends_85 : decode cL_ends 85 = .ok (.invokevirtual 48, 3) := by decide +kernel
theorem dL_ends_88 : decode cL_ends 88 = .ok (.iastore, 1) := by decide +kernel
theorem dL_ends_89 : decode cL_ends 89 = .ok (.aload 7, 2) := by decide +kernel
theorem dL_ends_91 : decode cL_ends 91 = .ok (.iload 8, 2) := by decide +kernel
theorem dL_ends_93 : decode cL_ends 93 = .ok (.aload_n 0, 1) := by decide +kernel
theorem dL_ends_94 : decode cL_ends 94 = .ok (.iload 8, 2) := by decide +kernel
theorem dL_ends_96 : decode cL_ends 96 = .ok (.bipush 8, 2) := by decide +kernel
theorem dL_ends_98 : decode cL_ends 98 = .ok (.invokevirtual 48, 3) := by decide +kernel
theorem dL_ends_101 : decode cL_ends 101 = .ok (.iastore, 1) := by decide +kernel
theorem dL_ends_102 : decode cL_ends 102 = .ok (.iinc 8 1, 3) := by decide +kernel
theorem dL_ends_105 : decode cL_ends 105 = .ok (.goto (-73), 3) := by decide +kernel
theorem dL_ends_108 : decode cL_ends 108 = .ok (.aload_n 0, 1) := by decide +kernel
theorem dL_ends_109 : decode cL_ends 109 = .ok (.bipush 7, 2) := by decide +kernel
theorem dL_ends_111 : decode cL_ends 111 = .ok (.iconst 0, 1) := by decide +kernel
theorem dL_ends_112 : decode cL_ends 112 = .ok (.iconst 0, 1) := by decide +kernel
theorem dL_ends_113 : decode cL_ends 113 = .ok (.iconst 0, 1) := by decide +kernel
theorem dL_ends_114 : decode cL_ends 114 = .ok (.invokestatic 69, 3) := by decide +kernel
theorem dL_ends_117 : decode cL_ends 117 = .ok (.istore 8, 2) := by decide +kernel
theorem dL_ends_119 : decode cL_ends 119 = .ok (.aload_n 1, 1) := by decide +kernel
theorem dL_ends_120 : decode cL_ends 120 = .ok (.iconst 3, 1) := by decide +kernel
theorem dL_ends_121 : decode cL_ends 121 = .ok (.iaload, 1) := by decide +kernel
theorem dL_ends_122 : decode cL_ends 122 = .ok (.ifCond .ne 16, 3) := by decide +kernel
theorem dL_ends_125 : decode cL_ends 125 = .ok (.iload 8, 2) := by decide +kernel
theorem dL_ends_127 : decode cL_ends 127 = .ok (.ldc 59, 2) := by decide +kernel
theorem dL_ends_129 : decode cL_ends 129 = .ok (.if_icmp .ne 7, 3) := by decide +kernel
theorem dL_ends_132 : decode cL_ends 132 = .ok (.iconst 1, 1) := by decide +kernel
theorem dL_ends_133 : decode cL_ends 133 = .ok (.goto 4, 3) := by decide +kernel
theorem dL_ends_136 : decode cL_ends 136 = .ok (.iconst 0, 1) := by decide +kernel
theorem dL_ends_137 : decode cL_ends 137 = .ok (.ireturn, 1) := by decide +kernel
theorem dL_ends_138 : decode cL_ends 138 = .ok (.aload_n 1, 1) := by decide +kernel
theorem dL_ends_139 : decode cL_ends 139 = .ok (.iconst 3, 1) := by decide +kernel
theorem dL_ends_140 : decode cL_ends 140 = .ok (.iconst 0, 1) := by decide +kernel
theorem dL_ends_141 : decode cL_ends 141 = .ok (.iastore, 1) := by decide +kernel
theorem dL_ends_142 : decode cL_ends 142 = .ok (.aload_n 1, 1) := by decide +kernel
theorem dL_ends_143 : decode cL_ends 143 = .ok (.iconst 2, 1) := by decide +kernel
theorem dL_ends_144 : decode cL_ends 144 = .ok (.dup2, 1) := by decide +kernel
theorem dL_ends_145 : decode cL_ends 145 = .ok (.iaload, 1) := by decide +kernel
theorem dL_ends_146 : decode cL_ends 146 = .ok (.iconst 1, 1) := by decide +kernel
theorem dL_ends_147 : decode cL_ends 147 = .ok (.iadd, 1) := by decide +kernel
theorem dL_ends_148 : decode cL_ends 148 = .ok (.iastore, 1) := by decide +kernel
theorem dL_ends_149 : decode cL_ends 149 = .ok (.iconst 0, 1) := by decide +kernel
theorem dL_ends_150 : decode cL_ends 150 = .ok (.istore 9, 2) := by decide +kernel
theorem dL_ends_152 : decode cL_ends 152 = .ok (.iconst 1, 1) := by decide +kernel
theorem dL_ends_153 : decode cL_ends 153 = .ok (.istore 10, 2) := by decide +kernel
theorem dL_ends_155 : decode cL_ends 155 = .ok (.iconst 0, 1) := by decide +kernel
theorem dL_ends_156 : decode cL_ends 156 = .ok (.istore 11, 2) := by decide +kernel
theorem dL_ends_158 : decode cL_ends 158 = .ok (.iload 11, 2) := by decide +kernel
theorem dL_ends_160 : decode cL_ends 160 = .ok (.aload_n 1, 1) := by decide +kernel
theorem dL_ends_161 : decode cL_ends 161 = .ok (.iconst 0, 1) := by decide +kernel
theorem dL_ends_162 : decode cL_ends 162 = .ok (.iaload, 1) := by decide +kernel
theorem dL_ends_163 : decode cL_ends 163 = .ok (.if_icmp .ge 196, 3) := by decide +kernel
theorem dL_ends_166 : decode cL_ends 166 = .ok (.iload 10, 2) := by decide +kernel
theorem dL_ends_168 : decode cL_ends 168 = .ok (.ifCond .eq 191, 3) := by decide +kernel
theorem dL_ends_171 : decode cL_ends 171 = .ok (.aload_n 0, 1) := by decide +kernel
theorem dL_ends_172 : decode cL_ends 172 = .ok (.iload 11, 2) := by decide +kernel
theorem dL_ends_174 : decode cL_ends 174 = .ok (.bipush 8, 2) := by decide +kernel
theorem dL_ends_176 : decode cL_ends 176 = .ok (.invokevirtual 48, 3) := by decide +kernel
theorem dL_ends_179 : decode cL_ends 179 = .ok (.aload 7, 2) := by decide +kernel
theorem dL_ends_181 : decode cL_ends 181 = .ok (.iload 11, 2) := by decide +kernel
theorem dL_ends_183 : decode cL_ends 183 = .ok (.iaload, 1) := by decide +kernel
theorem dL_ends_184 : decode cL_ends 184 = .ok (.isub, 1) := by decide +kernel
theorem dL_ends_185 : decode cL_ends 185 = .ok (.istore 12, 2) := by decide +kernel
theorem dL_ends_187 : decode cL_ends 187 = .ok (.aload_n 0, 1) := by decide +kernel
theorem dL_ends_188 : decode cL_ends 188 = .ok (.iload 11, 2) := by decide +kernel
theorem dL_ends_190 : decode cL_ends 190 = .ok (.bipush 6, 2) := by decide +kernel
theorem dL_ends_192 : decode cL_ends 192 = .ok (.invokevirtual 48, 3) := by decide +kernel
theorem dL_ends_195 : decode cL_ends 195 = .ok (.aload 5, 2) := by decide +kernel
theorem dL_ends_197 : decode cL_ends 197 = .ok (.iload 11, 2) := by decide +kernel
theorem dL_ends_199 : decode cL_ends 199 = .ok (.iaload, 1) := by decide +kernel
theorem dL_ends_200 : decode cL_ends 200 = .ok (.isub, 1) := by decide +kernel
theorem dL_ends_201 : decode cL_ends 201 = .ok (.istore 13, 2) := by decide +kernel
theorem dL_ends_203 : decode cL_ends 203 = .ok (.aload_n 0, 1) := by decide +kernel
theorem dL_ends_204 : decode cL_ends 204 = .ok (.iload 11, 2) := by decide +kernel
theorem dL_ends_206 : decode cL_ends 206 = .ok (.bipush 7, 2) := by decide +kernel
theorem dL_ends_208 : decode cL_ends 208 = .ok (.invokevirtual 48, 3) := by decide +kernel
theorem dL_ends_211 : decode cL_ends 211 = .ok (.aload 6, 2) := by decide +kernel
theorem dL_ends_213 : decode cL_ends 213 = .ok (.iload 11, 2) := by decide +kernel
theorem dL_ends_215 : decode cL_ends 215 = .ok (.iaload, 1) := by decide +kernel
theorem dL_ends_216 : decode cL_ends 216 = .ok (.isub, 1) := by decide +kernel
theorem dL_ends_217 : decode cL_ends 217 = .ok (.istore 14, 2) := by decide +kernel
theorem dL_ends_219 : decode cL_ends 219 = .ok (.iload 9, 2) := by decide +kernel
theorem dL_ends_221 : decode cL_ends 221 = .ok (.iload 14, 2) := by decide +kernel
theorem dL_ends_223 : decode cL_ends 223 = .ok (.ifCond .le 7, 3) := by decide +kernel
theorem dL_ends_226 : decode cL_ends 226 = .ok (.iconst 1, 1) := by decide +kernel
theorem dL_ends_227 : decode cL_ends 227 = .ok (.goto 4, 3) := by decide +kernel
theorem dL_ends_230 : decode cL_ends 230 = .ok (.iconst 0, 1) := by decide +kernel
theorem dL_ends_231 : decode cL_ends 231 = .ok (.iadd, 1) := by decide +kernel
theorem dL_ends_232 : decode cL_ends 232 = .ok (.istore 9, 2) := by decide +kernel
theorem dL_ends_234 : decode cL_ends 234 = .ok (.aload_n 1, 1) := by decide +kernel
theorem dL_ends_235 : decode cL_ends 235 = .ok (.iconst 4, 1) := by decide +kernel
theorem dL_ends_236 : decode cL_ends 236 = .ok (.dup2, 1) := by decide +kernel
theorem dL_ends_237 : decode cL_ends 237 = .ok (.iaload, 1) := by decide +kernel
theorem dL_ends_238 : decode cL_ends 238 = .ok (.aload 4, 2) := by decide +kernel
theorem dL_ends_240 : decode cL_ends 240 = .ok (.iload 11, 2) := by decide +kernel
theorem dL_ends_242 : decode cL_ends 242 = .ok (.iaload, 1) := by decide +kernel
theorem dL_ends_243 : decode cL_ends 243 = .ok (.iadd, 1) := by decide +kernel
theorem dL_ends_244 : decode cL_ends 244 = .ok (.iastore, 1) := by decide +kernel
theorem dL_ends_245 : decode cL_ends 245 = .ok (.iload 12, 2) := by decide +kernel
theorem dL_ends_247 : decode cL_ends 247 = .ok (.ifCond .lt 103, 3) := by decide +kernel
theorem dL_ends_250 : decode cL_ends 250 = .ok (.iload 13, 2) := by decide +kernel
theorem dL_ends_252 : decode cL_ends 252 = .ok (.ifCond .lt 98, 3) := by decide +kernel
theorem dL_ends_255 : decode cL_ends 255 = .ok (.iload 13, 2) := by decide +kernel
theorem dL_ends_257 : decode cL_ends 257 = .ok (.iload 14, 2) := by decide +kernel
theorem dL_ends_259 : decode cL_ends 259 = .ok (.iadd, 1) := by decide +kernel
theorem dL_ends_260 : decode cL_ends 260 = .ok (.aload_n 2, 1) := by decide +kernel
theorem dL_ends_261 : decode cL_ends 261 = .ok (.iconst 2, 1) := by decide +kernel
theorem dL_ends_262 : decode cL_ends 262 = .ok (.iload 11, 2) := by decide +kernel
theorem dL_ends_264 : decode cL_ends 264 = .ok (.imul, 1) := by decide +kernel
theorem dL_ends_265 : decode cL_ends 265 = .ok (.iconst 1, 1) := by decide +kernel
theorem dL_ends_266 : decode cL_ends 266 = .ok (.iadd, 1) := by decide +kernel
theorem dL_ends_267 : decode cL_ends 267 = .ok (.iaload, 1) := by decide +kernel
theorem dL_ends_268 : decode cL_ends 268 = .ok (.if_icmp .ne 82, 3) := by decide +kernel
theorem dL_ends_271 : decode cL_ends 271 = .ok (.aload_n 0, 1) := by decide +kernel
theorem dL_ends_272 : decode cL_ends 272 = .ok (.iload 11, 2) := by decide +kernel
theorem dL_ends_274 : decode cL_ends 274 = .ok (.iconst 0, 1) := by decide +kernel
theorem dL_ends_275 : decode cL_ends 275 = .ok (.invokevirtual 48, 3) := by decide +kernel
theorem dL_ends_278 : decode cL_ends 278 = .ok (.aload_n 3, 1) := by decide +kernel
theorem dL_ends_279 : decode cL_ends 279 = .ok (.iload 11, 2) := by decide +kernel
theorem dL_ends_281 : decode cL_ends 281 = .ok (.iaload, 1) := by decide +kernel
theorem dL_ends_282 : decode cL_ends 282 = .ok (.aload 4, 2) := by decide +kernel
theorem dL_ends_284 : decode cL_ends 284 = .ok (.iload 11, 2) := by decide +kernel
theorem dL_ends_286 : decode cL_ends 286 = .ok (.iaload, 1) := by decide +kernel
theorem dL_ends_287 : decode cL_ends 287 = .ok (.iadd, 1) := by decide +kernel
theorem dL_ends_288 : decode cL_ends 288 = .ok (.iload 12, 2) := by decide +kernel
theorem dL_ends_290 : decode cL_ends 290 = .ok (.isub, 1) := by decide +kernel
theorem dL_ends_291 : decode cL_ends 291 = .ok (.iload 13, 2) := by decide +kernel
theorem dL_ends_293 : decode cL_ends 293 = .ok (.isub, 1) := by decide +kernel
theorem dL_ends_294 : decode cL_ends 294 = .ok (.if_icmp .ne 56, 3) := by decide +kernel
theorem dL_ends_297 : decode cL_ends 297 = .ok (.iload 12, 2) := by decide +kernel
theorem dL_ends_299 : decode cL_ends 299 = .ok (.ifCond .eq 22, 3) := by decide +kernel
theorem dL_ends_302 : decode cL_ends 302 = .ok (.aload_n 0, 1) := by decide +kernel
theorem dL_ends_303 : decode cL_ends 303 = .ok (.iload 11, 2) := by decide +kernel
theorem dL_ends_305 : decode cL_ends 305 = .ok (.iconst 0, 1) := by decide +kernel
theorem dL_ends_306 : decode cL_ends 306 = .ok (.invokevirtual 48, 3) := by decide +kernel
theorem dL_ends_309 : decode cL_ends 309 = .ok (.iload 13, 2) := by decide +kernel
theorem dL_ends_311 : decode cL_ends 311 = .ok (.iadd, 1) := by decide +kernel
theorem dL_ends_312 : decode cL_ends 312 = .ok (.aload_n 2, 1) := by decide +kernel
theorem dL_ends_313 : decode cL_ends 313 = .ok (.iconst 2, 1) := by decide +kernel
theorem dL_ends_314 : decode cL_ends 314 = .ok (.iload 11, 2) := by decide +kernel
theorem dL_ends_316 : decode cL_ends 316 = .ok (.imul, 1) := by decide +kernel
theorem dL_ends_317 : decode cL_ends 317 = .ok (.iaload, 1) := by decide +kernel
theorem dL_ends_318 : decode cL_ends 318 = .ok (.if_icmp .ne 32, 3) := by decide +kernel
theorem dL_ends_321 : decode cL_ends 321 = .ok (.iload 14, 2) := by decide +kernel
theorem dL_ends_323 : decode cL_ends 323 = .ok (.ifCond .eq 13, 3) := by decide +kernel
theorem dL_ends_326 : decode cL_ends 326 = .ok (.aload_n 0, 1) := by decide +kernel
theorem dL_ends_327 : decode cL_ends 327 = .ok (.iload 11, 2) := by decide +kernel
theorem dL_ends_329 : decode cL_ends 329 = .ok (.iconst 0, 1) := by decide +kernel
theorem dL_ends_330 : decode cL_ends 330 = .ok (.invokevirtual 48, 3) := by decide +kernel
theorem dL_ends_333 : decode cL_ends 333 = .ok (.ifCond .ne 17, 3) := by decide +kernel
theorem dL_ends_336 : decode cL_ends 336 = .ok (.aload_n 0, 1) := by decide +kernel
theorem dL_ends_337 : decode cL_ends 337 = .ok (.iload 11, 2) := by decide +kernel
theorem dL_ends_339 : decode cL_ends 339 = .ok (.invokevirtual 73, 3) := by decide +kernel
theorem dL_ends_342 : decode cL_ends 342 = .ok (.iconst (-1), 1) := by decide +kernel
theorem dL_ends_343 : decode cL_ends 343 = .ok (.if_icmp .ne 7, 3) := by decide +kernel
theorem dL_ends_346 : decode cL_ends 346 = .ok (.iconst 1, 1) := by decide +kernel
theorem dL_ends_347 : decode cL_ends 347 = .ok (.goto 4, 3) := by decide +kernel
theorem dL_ends_350 : decode cL_ends 350 = .ok (.iconst 0, 1) := by decide +kernel
theorem dL_ends_351 : decode cL_ends 351 = .ok (.istore 10, 2) := by decide +kernel
theorem dL_ends_353 : decode cL_ends 353 = .ok (.iinc 11 1, 3) := by decide +kernel
theorem dL_ends_356 : decode cL_ends 356 = .ok (.goto (-198), 3) := by decide +kernel
theorem dL_ends_359 : decode cL_ends 359 = .ok (.iload 10, 2) := by decide +kernel
theorem dL_ends_361 : decode cL_ends 361 = .ok (.ifCond .eq 21, 3) := by decide +kernel
theorem dL_ends_364 : decode cL_ends 364 = .ok (.iload 8, 2) := by decide +kernel
theorem dL_ends_366 : decode cL_ends 366 = .ok (.iload 9, 2) := by decide +kernel
theorem dL_ends_368 : decode cL_ends 368 = .ok (.if_icmp .ne 14, 3) := by decide +kernel
theorem dL_ends_371 : decode cL_ends 371 = .ok (.aload_n 0, 1) := by decide +kernel
theorem dL_ends_372 : decode cL_ends 372 = .ok (.invokevirtual 63, 3) := by decide +kernel
theorem dL_ends_375 : decode cL_ends 375 = .ok (.ifCond .ne 7, 3) := by decide +kernel
theorem dL_ends_378 : decode cL_ends 378 = .ok (.iconst 1, 1) := by decide +kernel
theorem dL_ends_379 : decode cL_ends 379 = .ok (.goto 4, 3) := by decide +kernel
theorem dL_ends_382 : decode cL_ends 382 = .ok (.iconst 0, 1) := by decide +kernel
theorem dL_ends_383 : decode cL_ends 383 = .ok (.ireturn, 1) := by decide +kernel
theorem dL_others_0 : decode cL_others 0 = .ok (.iload_n 1, 1) := by decide +kernel
theorem dL_others_1 : decode cL_others 1 = .ok (.iconst 4, 1) := by decide +kernel
theorem dL_others_2 : decode cL_others 2 = .ok (.irem, 1) := by decide +kernel
theorem dL_others_3 : decode cL_others 3 = .ok (.istore 6, 2) := by decide +kernel
theorem dL_others_5 : decode cL_others 5 = .ok (.iload 6, 2) := by decide +kernel
theorem dL_others_7 : decode cL_others 7 = .ok (.ifCond .ne 99, 3) := by decide +kernel
theorem dL_others_10 : decode cL_others 10 = .ok (.aload_n 0, 1) := by decide +kernel
theorem dL_others_11 : decode cL_others 11 = .ok (.iconst 0, 1) := by decide +kernel
theorem dL_others_12 : decode cL_others 12 = .ok (.iload_n 2, 1) := by decide +kernel
theorem dL_others_13 : decode cL_others 13 = .ok (.sipush 400, 3) := by decide +kernel
theorem dL_others_16 : decode cL_others 16 = .ok (.irem, 1) := by decide +kernel
theorem dL_others_17 : decode cL_others 17 = .ok (.iload_n 2, 1) := by decide +kernel
theorem dL_others_18 : decode cL_others 18 = .ok (.sipush 400, 3) := by decide +kernel
theorem dL_others_21 : decode cL_others 21 = .ok (.idiv, 1) := by decide +kernel
theorem dL_others_22 : decode cL_others 22 = .ok (.bipush 80, 2) := by decide +kernel
theorem dL_others_24 : decode cL_others 24 = .ok (.irem, 1) := by decide +kernel
theorem dL_others_25 : decode cL_others 25 = .ok (.iconst 0, 1) := by decide +kernel
theorem dL_others_26 : decode cL_others 26 = .ok (.invokestatic 69, 3) := by decide +kernel
theorem dL_others_29 : decode cL_others 29 = .ok (.istore 7, 2) := by decide +kernel
theorem dL_others_31 : decode cL_others 31 = .ok (.aload_n 3, 1) := by decide +kernel
theorem dL_others_32 : decode cL_others 32 = .ok (.iconst 0, 1) := by decide +kernel
theorem dL_others_33 : decode cL_others 33 = .ok (.iaload, 1) := by decide +kernel
theorem dL_others_34 : decode cL_others 34 = .ok (.bipush 8, 2) := by decide +kernel
theorem dL_others_36 : decode cL_others 36 = .ok (.if_icmp .ne 16, 3) := by decide +kernel
theorem dL_others_39 : decode cL_others 39 = .ok (.iload 7, 2) := by decide +kernel
theorem dL_others_41 : decode cL_others 41 = .ok (.ldc 59, 2) := by decide +kernel
theorem dL_others_43 : decode cL_others 43 = .ok (.if_icmp .ne 7, 3) := by decide +kernel
theorem dL_others_46 : decode cL_others 46 = .ok (.iconst 1, 1) := by decide +kernel
theorem dL_others_47 : decode cL_others 47 = .ok (.goto 4, 3) := by decide +kernel
theorem dL_others_50 : decode cL_others 50 = .ok (.iconst 0, 1) := by decide +kernel
theorem dL_others_51 : decode cL_others 51 = .ok (.ireturn, 1) := by decide +kernel
theorem dL_others_52 : decode cL_others 52 = .ok (.aload 4, 2) := by decide +kernel
theorem dL_others_54 : decode cL_others 54 = .ok (.iconst 2, 1) := by decide +kernel
theorem dL_others_55 : decode cL_others 55 = .ok (.aload_n 3, 1) := by decide +kernel
theorem dL_others_56 : decode cL_others 56 = .ok (.iconst 0, 1) := by decide +kernel
theorem dL_others_57 : decode cL_others 57 = .ok (.iaload, 1) := by decide +kernel
theorem dL_others_58 : decode cL_others 58 = .ok (.imul, 1) := by decide +kernel
theorem dL_others_59 : decode cL_others 59 = .ok (.iload_n 2, 1) := by decide +kernel
theorem dL_others_60 : decode cL_others 60 = .ok (.sipush 400, 3) := by decide +kernel
theorem dL_others_63 : decode cL_others 63 = .ok (.irem, 1) := by decide +kernel
theorem dL_others_64 : decode cL_others 64 = .ok (.iastore, 1) := by decide +kernel
theorem dL_others_65 : decode cL_others 65 = .ok (.aload 4, 2) := by decide +kernel
theorem dL_others_67 : decode cL_others 67 = .ok (.iconst 2, 1) := by decide +kernel
theorem dL_others_68 : decode cL_others 68 = .ok (.aload_n 3, 1) := by decide +kernel
theorem dL_others_69 : decode cL_others 69 = .ok (.iconst 0, 1) := by decide +kernel
theorem dL_others_70 : decode cL_others 70 = .ok (.iaload, 1) := by decide +kernel
theorem dL_others_71 : decode cL_others 71 = .ok (.imul, 1) := by decide +kernel
theorem dL_others_72 : decode cL_others 72 = .ok (.iconst 1, 1) := by decide +kernel
theorem dL_others_73 : decode cL_others 73 = .ok (.iadd, 1) := by decide +kernel
theorem dL_others_74 : decode cL_others 74 = .ok (.iload_n 2, 1) := by decide +kernel
theorem dL_others_75 : decode cL_others 75 = .ok (.sipush 400, 3) := by decide +kernel
theorem dL_others_78 : decode cL_others 78 = .ok (.idiv, 1) := by decide +kernel
theorem dL_others_79 : decode cL_others 79 = .ok (.bipush 80, 2) := by decide +kernel
theorem dL_others_81 : decode cL_others 81 = .ok (.irem, 1) := by decide +kernel
theorem dL_others_82 : decode cL_others 82 = .ok (.iastore, 1) := by decide +kernel
theorem dL_others_83 : decode cL_others 83 = .ok (.aload_n 3, 1) := by decide +kernel
theorem dL_others_84 : decode cL_others 84 = .ok (.iconst 0, 1) := by decide +kernel
theorem dL_others_85 : decode cL_others 85 = .ok (.dup2, 1) := by decide +kernel
theorem dL_others_86 : decode cL_others 86 = .ok (.iaload, 1) := by decide +kernel
theorem dL_others_87 : decode cL_others 87 = .ok (.iconst 1, 1) := by decide +kernel
theorem dL_others_88 : decode cL_others 88 = .ok (.iadd, 1) := by decide +kernel
theorem dL_others_89 : decode cL_others 89 = .ok (.iastore, 1) := by decide +kernel
theorem dL_others_90 : decode cL_others 90 = .ok (.iload 7, 2) := by decide +kernel
theorem dL_others_92 : decode cL_others 92 = .ok (.aload_n 3, 1) := by decide +kernel
theorem dL_others_93 : decode cL_others 93 = .ok (.iconst 0, 1) := by decide +kernel
theorem dL_others_94 : decode cL_others 94 = .ok (.iaload, 1) := by decide +kernel
theorem dL_others_95 : decode cL_others 95 = .ok (.iconst 1, 1) := by decide +kernel
theorem dL_others_96 : decode cL_others 96 = .ok (.isub, 1) := by decide +kernel
theorem dL_others_97 : decode cL_others 97 = .ok (.if_icmp .ne 7, 3) := by decide +kernel
theorem dL_others_100 : decode cL_others 100 = .ok (.iconst 1, 1) := by decide +kernel
theorem dL_others_101 : decode cL_others 101 = .ok (.goto 4, 3) := by decide +kernel
theorem dL_others_104 : decode cL_others 104 = .ok (.iconst 0, 1) := by decide +kernel
theorem dL_others_105 : decode cL_others 105 = .ok (.ireturn, 1) := by decide +kernel
theorem dL_others_106 : decode cL_others 106 = .ok (.iload 6, 2) := by decide +kernel
theorem dL_others_108 : decode cL_others 108 = .ok (.iconst 1, 1) := by decide +kernel
theorem dL_others_109 : decode cL_others 109 = .ok (.if_icmp .ne 116, 3) := by decide +kernel
theorem dL_others_112 : decode cL_others 112 = .ok (.iload_n 2, 1) := by decide +kernel
theorem dL_others_113 : decode cL_others 113 = .ok (.aload_n 3, 1) := by decide +kernel
theorem dL_others_114 : decode cL_others 114 = .ok (.iconst 0, 1) := by decide +kernel
theorem dL_others_115 : decode cL_others 115 = .ok (.iaload, 1) := by decide +kernel
theorem dL_others_116 : decode cL_others 116 = .ok (.iconst 1, 1) := by decide +kernel
theorem dL_others_117 : decode cL_others 117 = .ok (.iadd, 1) := by decide +kernel
theorem dL_others_118 : decode cL_others 118 = .ok (.irem, 1) := by decide +kernel
theorem dL_others_119 : decode cL_others 119 = .ok (.iconst 1, 1) := by decide +kernel
theorem dL_others_120 : decode cL_others 120 = .ok (.isub, 1) := by decide +kernel
theorem dL_others_121 : decode cL_others 121 = .ok (.istore 7, 2) := by decide +kernel
theorem dL_others_123 : decode cL_others 123 = .ok (.iload_n 2, 1) := by decide +kernel
theorem dL_others_124 : decode cL_others 124 = .ok (.bipush 9, 2) := by decide +kernel
theorem dL_others_126 : decode cL_others 126 = .ok (.idiv, 1) := by decide +kernel
theorem dL_others_127 : decode cL_others 127 = .ok (.aload_n 3, 1) := by decide +kernel
theorem dL_others_128 : decode cL_others 128 = .ok (.iconst 0, 1) := by decide +kernel
theorem dL_others_129 : decode cL_others 129 = .ok (.iaload, 1) := by decide +kernel
theorem dL_others_130 : decode cL_others 130 = .ok (.irem, 1) := by decide +kernel
theorem dL_others_131 : decode cL_others 131 = .ok (.istore 8, 2) := by decide +kernel
theorem dL_others_133 : decode cL_others 133 = .ok (.aload_n 0, 1) := by decide +kernel
theorem dL_others_134 : decode cL_others 134 = .ok (.iconst 1, 1) := by decide +kernel
theorem dL_others_135 : decode cL_others 135 = .ok (.iload 7, 2) := by decide +kernel
theorem dL_others_137 : decode cL_others 137 = .ok (.iload 8, 2) := by decide +kernel
theorem dL_others_139 : decode cL_others 139 = .ok (.iconst 1, 1) := by decide +kernel
theorem dL_others_140 : decode cL_others 140 = .ok (.iload_n 2, 1) := by decide +kernel
theorem dL_others_141 : decode cL_others 141 = .ok (.bipush 81, 2) := by decide +kernel
theorem dL_others_143 : decode cL_others 143 = .ok (.idiv, 1) := by decide +kernel
theorem dL_others_144 : decode cL_others 144 = .ok (.sipush 200, 3) := by decide +kernel
theorem dL_others_147 : decode cL_others 147 = .ok (.irem, 1) := by decide +kernel
theorem dL_others_148 : decode cL_others 148 = .ok (.iadd, 1) := by decide +kernel
theorem dL_others_149 : decode cL_others 149 = .ok (.invokestatic 69, 3) := by decide +kernel
theorem dL_others_152 : decode cL_others 152 = .ok (.istore 9, 2) := by decide +kernel
theorem dL_others_154 : decode cL_others 154 = .ok (.iload 7, 2) := by decide +kernel
theorem dL_others_156 : decode cL_others 156 = .ok (.iload 8, 2) := by decide +kernel
theorem dL_others_158 : decode cL_others 158 = .ok (.if_icmp .ne 16, 3) := by decide +kernel
theorem dL_others_161 : decode cL_others 161 = .ok (.iload 9, 2) := by decide +kernel
theorem dL_others_163 : decode cL_others 163 = .ok (.ldc 56, 2) := by decide +kernel
theorem dL_others_165 : decode cL_others 165 = .ok (.if_icmp .ne 7, 3) := by decide +kernel
theorem dL_others_168 : decode cL_others 168 = .ok (.iconst 1, 1) := by decide +kernel
theorem dL_others_169 : decode cL_others 169 = .ok (.goto 4, 3) := by decide +kernel
theorem dL_others_172 : decode cL_others 172 = .ok (.iconst 0, 1) := by decide +kernel
theorem dL_others_173 : decode cL_others 173 = .ok (.ireturn, 1) := by decide +kernel
theorem dL_others_174 : decode cL_others 174 = .ok (.aload_n 3, 1) := by decide +kernel
theorem dL_others_175 : decode cL_others 175 = .ok (.iconst 1, 1) := by decide +kernel
theorem dL_others_176 : decode cL_others 176 = .ok (.iaload, 1) := by decide +kernel
theorem dL_others_177 : decode cL_others 177 = .ok (.bipush 24, 2) := by decide +kernel
theorem dL_others_179 : decode cL_others 179 = .ok (.if_icmp .eq 10, 3) := by decide +kernel
theorem dL_others_182 : decode cL_others 182 = .ok (.aload_n 3, 1) := by decide +kernel
theorem dL_others_183 : decode cL_others 183 = .ok (.iconst 3, 1) := by decide +kernel
theorem dL_others_184 : decode cL_others 184 = .ok (.iaload, 1) := by decide +kernel
theorem dL_others_185 : decode cL_others 185 = .ok (.iconst 1, 1) := by decide +kernel
theorem dL_others_186 : decode cL_others 186 = .ok (.if_icmp .ne 16, 3) := by decide +kernel
theorem dL_others_189 : decode cL_others 189 = .ok (.iload 9, 2) := by decide +kernel
theorem dL_others_191 : decode cL_others 191 = .ok (.ldc 59, 2) := by decide +kernel
theorem dL_others_193 : decode cL_others 193 = .ok (.if_icmp .ne 7, 3) := by decide +kernel
theorem dL_others_196 : decode cL_others 196 = .ok (.iconst 1, 1) := by decide +kernel
theorem dL_others_197 : decode cL_others 197 = .ok (.goto 4, 3) := by decide +kernel
theorem dL_others_200 : decode cL_others 200 = .ok (.iconst 0, 1) := by decide +kernel
theorem dL_others_201 : decode cL_others 201 = .ok (.ireturn, 1) := by decide +kernel
theorem dL_others_202 : decode cL_others 202 = .ok (.aload_n 3, 1) := by decide +kernel
theorem dL_others_203 : decode cL_others 203 = .ok (.iconst 1, 1) := by decide +kernel
theorem dL_others_204 : decode cL_others 204 = .ok (.dup2, 1) := by decide +kernel
theorem dL_others_205 : decode cL_others 205 = .ok (.iaload, 1) := by decide +kernel
theorem dL_others_206 : decode cL_others 206 = .ok (.iconst 1, 1) := by decide +kernel
theorem dL_others_207 : decode cL_others 207 = .ok (.iadd, 1) := by decide +kernel
theorem dL_others_208 : decode cL_others 208 = .ok (.iastore, 1) := by decide +kernel
theorem dL_others_209 : decode cL_others 209 = .ok (.iload 9, 2) := by decide +kernel
theorem dL_others_211 : decode cL_others 211 = .ok (.aload_n 3, 1) := by decide +kernel
theorem dL_others_212 : decode cL_others 212 = .ok (.iconst 1, 1) := by decide +kernel
theorem dL_others_213 : decode cL_others 213 = .ok (.iaload, 1) := by decide +kernel
theorem dL_others_214 : decode cL_others 214 = .ok (.iconst 1, 1) := by decide +kernel
theorem dL_others_215 : decode cL_others 215 = .ok (.isub, 1) := by decide +kernel
theorem dL_others_216 : decode cL_others 216 = .ok (.if_icmp .ne 7, 3) := by decide +kernel
theorem dL_others_219 : decode cL_others 219 = .ok (.iconst 1, 1) := by decide +kernel
theorem dL_others_220 : decode cL_others 220 = .ok (.goto 4, 3) := by decide +kernel
theorem dL_others_223 : decode cL_others 223 = .ok (.iconst 0, 1) := by decide +kernel
theorem dL_others_224 : decode cL_others 224 = .ok (.ireturn, 1) := by decide +kernel
theorem dL_others_225 : decode cL_others 225 = .ok (.iload 6, 2) := by decide +kernel
theorem dL_others_227 : decode cL_others 227 = .ok (.iconst 2, 1) := by decide +kernel
theorem dL_others_228 : decode cL_others 228 = .ok (.if_icmp .ne 85, 3) := by decide +kernel
theorem dL_others_231 : decode cL_others 231 = .ok (.iload_n 2, 1) := by decide +kernel
theorem dL_others_232 : decode cL_others 232 = .ok (.aload_n 3, 1) := by decide +kernel
theorem dL_others_233 : decode cL_others 233 = .ok (.iconst 1, 1) := by decide +kernel
theorem dL_others_234 : decode cL_others 234 = .ok (.iaload, 1) := by decide +kernel
theorem dL_others_235 : decode cL_others 235 = .ok (.irem, 1) := by decide +kernel
theorem dL_others_236 : decode cL_others 236 = .ok (.istore 7, 2) := by decide +kernel
theorem dL_others_238 : decode cL_others 238 = .ok (.aload_n 0, 1) := by decide +kernel
theorem dL_others_239 : decode cL_others 239 = .ok (.bipush 6, 2) := by decide +kernel
theorem dL_others_241 : decode cL_others 241 = .ok (.iload 7, 2) := by decide +kernel
theorem dL_others_243 : decode cL_others 243 = .ok (.iconst 0, 1) := by decide +kernel
theorem dL_others_244 : decode cL_others 244 = .ok (.iconst 0, 1) := by decide +kernel
theorem dL_others_245 : decode cL_others 245 = .ok (.invokestatic 69, 3) := by decide +kernel
theorem dL_others_248 : decode cL_others 248 = .ok (.istore 8, 2) := by decide +kernel
theorem dL_others_250 : decode cL_others 250 = .ok (.aload 5, 2) := by decide +kernel
theorem dL_others_252 : decode cL_others 252 = .ok (.iload 7, 2) := by decide +kernel
theorem dL_others_254 : decode cL_others 254 = .ok (.iaload, 1) := by decide +kernel
theorem dL_others_255 : decode cL_others 255 = .ok (.iconst 1, 1) := by decide +kernel
theorem dL_others_256 : decode cL_others 256 = .ok (.if_icmp .ne 13, 3) := by decide +kernel
theorem dL_others_259 : decode cL_others 259 = .ok (.aload_n 3, 1) := by decide +kernel
theorem dL_others_260 : decode cL_others 260 = .ok (.iconst 3, 1) := by decide +kernel
theorem dL_others_261 : decode cL_others 261 = .ok (.iaload, 1) := by decide +kernel
theorem dL_others_262 : decode cL_others 262 = .ok (.ifCond .ne 7, 3) := by decide +kernel
theorem dL_others_265 : decode cL_others 265 = .ok (.iconst 1, 1) := by decide +kernel
theorem dL_others_266 : decode cL_others 266 = .ok (.goto 4, 3) := by decide +kernel
theorem dL_others_269 : decode cL_others 269 = .ok (.iconst 0, 1) := by decide +kernel
theorem dL_others_270 : decode cL_others 270 = .ok (.istore 9, 2) := by decide +kernel
theorem dL_others_272 : decode cL_others 272 = .ok (.aload 5, 2) := by decide +kernel
theorem dL_others_274 : decode cL_others 274 = .ok (.iload 7, 2) := by decide +kernel
theorem dL_others_276 : decode cL_others 276 = .ok (.iload 9, 2) := by decide +kernel
theorem dL_others_278 : decode cL_others 278 = .ok (.ifCond .eq 7, 3) := by decide +kernel
theorem dL_others_281 : decode cL_others 281 = .ok (.iconst 0, 1) := by decide +kernel
theorem dL_others_282 : decode cL_others 282 = .ok (.goto 8, 3) := by decide +kernel
theorem dL_others_285 : decode cL_others 285 = .ok (.aload 5, 2) := by decide +kernel
theorem dL_others_287 : decode cL_others 287 = .ok (.iload 7, 2) := by decide +kernel
theorem dL_others_289 : decode cL_others 289 = .ok (.iaload, 1) := by decide +kernel
theorem dL_others_290 : decode cL_others 290 = .ok (.iastore, 1) := by decide +kernel
theorem dL_others_291 : decode cL_others 291 = .ok (.iload 8, 2) := by decide +kernel
theorem dL_others_293 : decode cL_others 293 = .ok (.iload 9, 2) := by decide +kernel
theorem dL_others_295 : decode cL_others 295 = .ok (.ifCond .eq 7, 3) := by decide +kernel
theorem dL_others_298 : decode cL_others 298 = .ok (.iconst 0, 1) := by decide +kernel
theorem dL_others_299 : decode cL_others 299 = .ok (.goto 5, 3) := by decide +kernel
theorem dL_others_302 : decode cL_others 302 = .ok (.ldc 59, 2) := by decide +kernel
theorem dL_others_304 : decode cL_others 304 = .ok (.if_icmp .ne 7, 3) := by decide +kernel
theorem dL_others_307 : decode cL_others 307 = .ok (.iconst 1, 1) := by decide +kernel
theorem dL_others_308 : decode cL_others 308 = .ok (.goto 4, 3) := by decide +kernel
theorem dL_others_311 : decode cL_others 311 = .ok (.iconst 0, 1) := by decide +kernel
theorem dL_others_312 : decode cL_others 312 = .ok (.ireturn, 1) := by decide +kernel
theorem dL_others_313 : decode cL_others 313 = .ok (.iload_n 2, 1) := by decide +kernel
theorem dL_others_314 : decode cL_others 314 = .ok (.aload_n 3, 1) := by decide +kernel
theorem dL_others_315 : decode cL_others 315 = .ok (.iconst 0, 1) := by decide +kernel
theorem dL_others_316 : decode cL_others 316 = .ok (.iaload, 1) := by decide +kernel
theorem dL_others_317 : decode cL_others 317 = .ok (.irem, 1) := by decide +kernel
theorem dL_others_318 : decode cL_others 318 = .ok (.istore 7, 2) := by decide +kernel
theorem dL_others_320 : decode cL_others 320 = .ok (.aload 4, 2) := by decide +kernel
theorem dL_others_322 : decode cL_others 322 = .ok (.iconst 2, 1) := by decide +kernel
theorem dL_others_323 : decode cL_others 323 = .ok (.iload 7, 2) := by decide +kernel
theorem dL_others_325 : decode cL_others 325 = .ok (.imul, 1) := by decide +kernel
theorem dL_others_326 : decode cL_others 326 = .ok (.iconst 1, 1) := by decide +kernel
theorem dL_others_327 : decode cL_others 327 = .ok (.iadd, 1) := by decide +kernel
theorem dL_others_328 : decode cL_others 328 = .ok (.iaload, 1) := by decide +kernel
theorem dL_others_329 : decode cL_others 329 = .ok (.istore 8, 2) := by decide +kernel
theorem dL_others_331 : decode cL_others 331 = .ok (.aload 4, 2) := by decide +kernel
theorem dL_others_333 : decode cL_others 333 = .ok (.iconst 2, 1) := by decide +kernel
theorem dL_others_334 : decode cL_others 334 = .ok (.iload 7, 2) := by decide +kernel
theorem dL_others_336 : decode cL_others 336 = .ok (.imul, 1) := by decide +kernel
theorem dL_others_337 : decode cL_others 337 = .ok (.iconst 1, 1) := by decide +kernel
theorem dL_others_338 : decode cL_others 338 = .ok (.iadd, 1) := by decide +kernel
theorem dL_others_339 : decode cL_others 339 = .ok (.iload_n 2, 1) := by decide +kernel
theorem dL_others_340 : decode cL_others 340 = .ok (.bipush 8, 2) := by decide +kernel
theorem dL_others_342 : decode cL_others 342 = .ok (.idiv, 1) := by decide +kernel
theorem dL_others_343 : decode cL_others 343 = .ok (.bipush 90, 2) := by decide +kernel
theorem dL_others_345 : decode cL_others 345 = .ok (.irem, 1) := by decide +kernel
theorem dL_others_346 : decode cL_others 346 = .ok (.iastore, 1) := by decide +kernel
theorem dL_others_347 : decode cL_others 347 = .ok (.aload_n 0, 1) := by decide +kernel
theorem dL_others_348 : decode cL_others 348 = .ok (.iload 7, 2) := by decide +kernel
theorem dL_others_350 : decode cL_others 350 = .ok (.iload_n 2, 1) := by decide +kernel
theorem dL_others_351 : decode cL_others 351 = .ok (.bipush 8, 2) := by decide +kernel
theorem dL_others_353 : decode cL_others 353 = .ok (.idiv, 1) := by decide +kernel
theorem dL_others_354 : decode cL_others 354 = .ok (.bipush 90, 2) := by decide +kernel
theorem dL_others_356 : decode cL_others 356 = .ok (.irem, 1) := by decide +kernel
theorem dL_others_357 : decode cL_others 357 = .ok (.invokevirtual 86, 3) := by decide +kernel
theorem dL_others_360 : decode cL_others 360 = .ok (.iload 8, 2) := by decide +kernel
theorem dL_others_362 : decode cL_others 362 = .ok (.if_icmp .ne 45, 3) := by decide +kernel
theorem dL_others_365 : decode cL_others 365 = .ok (.aload_n 0, 1) := by decide +kernel
theorem dL_others_366 : decode cL_others 366 = .ok (.iconst 2, 1) := by decide +kernel
theorem dL_others_367 : decode cL_others 367 = .ok (.iload_n 2, 1) := by decide +kernel
theorem dL_others_368 : decode cL_others 368 = .ok (.sipush 720, 3) := by decide +kernel
theorem dL_others_371 : decode cL_others 371 = .ok (.idiv, 1) := by decide +kernel
theorem dL_others_372 : decode cL_others 372 = .ok (.sipush 600, 3) := by decide +kernel
theorem dL_others_375 : decode cL_others 375 = .ok (.irem, 1) := by decide +kernel
theorem dL_others_376 : decode cL_others 376 = .ok (.iconst 0, 1) := by decide +kernel
theorem dL_others_377 : decode cL_others 377 = .ok (.iconst 0, 1) := by decide +kernel
theorem dL_others_378 : decode cL_others 378 = .ok (.invokestatic 69, 3) := by decide +kernel
theorem dL_others_381 : decode cL_others 381 = .ok (.ifCond .lt 7, 3) := by decide +kernel
theorem dL_others_384 : decode cL_others 384 = .ok (.iconst 1, 1) := by decide +kernel
theorem dL_others_385 : decode cL_others 385 = .ok (.goto 4, 3) := by decide +kernel
theorem dL_others_388 : decode cL_others 388 = .ok (.iconst 0, 1) := by decide +kernel
theorem dL_others_389 : decode cL_others 389 = .ok (.aload_n 3, 1) := by decide +kernel
theorem dL_others_390 : decode cL_others 390 = .ok (.iconst 3, 1) := by decide +kernel
theorem dL_others_391 : decode cL_others 391 = .ok (.iaload, 1) := by decide +kernel
theorem dL_others_392 : decode cL_others 392 = .ok (.ifCond .ne 7, 3) := by decide +kernel
theorem dL_others_395 : decode cL_others 395 = .ok (.iconst 1, 1) := by decide +kernel
theorem dL_others_396 : decode cL_others 396 = .ok (.goto 4, 3) := by decide +kernel
theorem dL_others_399 : decode cL_others 399 = .ok (.iconst 0, 1) := by decide +kernel
theorem dL_others_400 : decode cL_others 400 = .ok (.if_icmp .ne 7, 3) := by decide +kernel
theorem dL_others_403 : decode cL_others 403 = .ok (.iconst 1, 1) := by decide +kernel
theorem dL_others_404 : decode cL_others 404 = .ok (.goto 4, 3) := by decide +kernel
theorem dL_others_407 : decode cL_others 407 = .ok (.iconst 0, 1) := by decide +kernel
theorem dL_others_408 : decode cL_others 408 = .ok (.ireturn, 1) := by decide +kernel
theorem dL_exchange_0 : decode cL_exchange 0 = .ok (.new 11, 3) := by decide +kernel
theorem dL_exchange_3 : decode cL_exchange 3 = .ok (.dup, 1) := by decide +kernel
theorem dL_exchange_4 : decode cL_exchange 4 = .ok (.invokespecial 89, 3) := by decide +kernel
theorem dL_exchange_7 : decode cL_exchange 7 = .ok (.astore_n 2, 1) := by decide +kernel
theorem dL_exchange_8 : decode cL_exchange 8 = .ok (.iconst 5, 1) := by decide +kernel
theorem dL_exchange_9 : decode cL_exchange 9 = .ok (.newarray .int, 2) := by decide +kernel
theorem dL_exchange_11 : decode cL_exchange 11 = .ok (.astore_n 3, 1) := by decide +kernel
theorem dL_exchange_12 : decode cL_exchange 12 = .ok (.bipush 16, 2) := by decide +kernel
theorem dL_exchange_14 : decode cL_exchange 14 = .ok (.newarray .int, 2) := by decide +kernel
theorem dL_exchange_16 : decode cL_exchange 16 = .ok (.astore 4, 2) := by decide +kernel
theorem dL_exchange_18 : decode cL_exchange 18 = .ok (.bipush 16, 2) := by decide +kernel
theorem dL_exchange_20 : decode cL_exchange 20 = .ok (.newarray .int, 2) := by decide +kernel
theorem dL_exchange_22 : decode cL_exchange 22 = .ok (.astore 5, 2) := by decide +kernel
theorem dL_exchange_24 : decode cL_exchange 24 = .ok (.bipush 24, 2) := by decide +kernel
theorem dL_exchange_26 : decode cL_exchange 26 = .ok (.newarray .int, 2) := by decide +kernel
theorem dL_exchange_28 : decode cL_exchange 28 = .ok (.astore 6, 2) := by decide +kernel
theorem dL_exchange_30 : decode cL_exchange 30 = .ok (.aload_n 2, 1) := by decide +kernel
theorem dL_exchange_31 : decode cL_exchange 31 = .ok (.sipush 200, 3) := by decide +kernel
theorem dL_exchange_34 : decode cL_exchange 34 = .ok (.aload_n 0, 1) := by decide +kernel
theorem dL_exchange_35 : decode cL_exchange 35 = .ok (.iload_n 1, 1) := by decide +kernel
theorem dL_exchange_36 : decode cL_exchange 36 = .ok (.sipush 400, 3) := by decide +kernel
theorem dL_exchange_39 : decode cL_exchange 39 = .ok (.invokestatic 90, 3) := by decide +kernel
theorem dL_exchange_42 : decode cL_exchange 42 = .ok (.iadd, 1) := by decide +kernel
theorem dL_exchange_43 : decode cL_exchange 43 = .ok (.invokevirtual 24, 3) := by decide +kernel
theorem dL_exchange_46 : decode cL_exchange 46 = .ok (.ifCond .ne 7, 3) := by decide +kernel
theorem dL_exchange_49 : decode cL_exchange 49 = .ok (.iconst 1, 1) := by decide +kernel
theorem dL_exchange_50 : decode cL_exchange 50 = .ok (.goto 4, 3) := by decide +kernel
theorem dL_exchange_53 : decode cL_exchange 53 = .ok (.iconst 0, 1) := by decide +kernel
theorem dL_exchange_54 : decode cL_exchange 54 = .ok (.istore 7, 2) := by decide +kernel
theorem dL_exchange_56 : decode cL_exchange 56 = .ok (.iconst 0, 1) := by decide +kernel
theorem dL_exchange_57 : decode cL_exchange 57 = .ok (.istore 8, 2) := by decide +kernel
theorem dL_exchange_59 : decode cL_exchange 59 = .ok (.iload 8, 2) := by decide +kernel
theorem dL_exchange_61 : decode cL_exchange 61 = .ok (.iconst 3, 1) := by decide +kernel
theorem dL_exchange_62 : decode cL_exchange 62 = .ok (.if_icmp .ge 124, 3) := by decide +kernel
theorem dL_exchange_65 : decode cL_exchange 65 = .ok (.aload 4, 2) := by decide +kernel
theorem dL_exchange_67 : decode cL_exchange 67 = .ok (.iconst 2, 1) := by decide +kernel
theorem dL_exchange_68 : decode cL_exchange 68 = .ok (.iload 8, 2) := by decide +kernel
theorem dL_exchange_70 : decode cL_exchange 70 = .ok (.imul, 1) := by decide +kernel
theorem dL_exchange_71 : decode cL_exchange 71 = .ok (.bipush 50, 2) := by decide +kernel
theorem dL_exchange_73 : decode cL_exchange 73 = .ok (.aload_n 0, 1) := by decide +kernel
theorem dL_exchange_74 : decode cL_exchange 74 = .ok (.iload_n 1, 1) := by decide +kernel
theorem dL_exchange_75 : decode cL_exchange 75 = .ok (.iconst 1, 1) := by decide +kernel
theorem dL_exchange_76 : decode cL_exchange 76 = .ok (.iadd, 1) := by decide +kernel
theorem dL_exchange_77 : decode cL_exchange 77 = .ok (.iload 8, 2) := by decide +kernel
theorem dL_exchange_79 : decode cL_exchange 79 = .ok (.iadd, 1) := by decide +kernel
theorem dL_exchange_80 : decode cL_exchange 80 = .ok (.sipush 200, 3) := by decide +kernel
theorem dL_exchange_83 : decode cL_exchange 83 = .ok (.invokestatic 90, 3) := by decide +kernel
theorem dL_exchange_86 : decode cL_exchange 86 = .ok (.iadd, 1) := by decide +kernel
theorem dL_exchange_87 : decode cL_exchange 87 = .ok (.iastore, 1) := by decide +kernel
theorem dL_exchange_88 : decode cL_exchange 88 = .ok (.aload 4, 2) := by decide +kernel
theorem dL_exchange_90 : decode cL_exchange 90 = .ok (.iconst 2, 1) := by decide +kernel
theorem dL_exchange_91 : decode cL_exchange 91 = .ok (.iload 8, 2) := by decide +kernel
theorem dL_exchange_93 : decode cL_exchange 93 = .ok (.imul, 1) := by decide +kernel
theorem dL_exchange_94 : decode cL_exchange 94 = .ok (.iconst 1, 1) := by decide +kernel
theorem dL_exchange_95 : decode cL_exchange 95 = .ok (.iadd, 1) := by decide +kernel
theorem dL_exchange_96 : decode cL_exchange 96 = .ok (.bipush 30, 2) := by decide +kernel
theorem dL_exchange_98 : decode cL_exchange 98 = .ok (.iload 8, 2) := by decide +kernel
theorem dL_exchange_100 : decode cL_exchange 100 = .ok (.imul, 1) := by decide +kernel
theorem dL_exchange_101 : decode cL_exchange 101 = .ok (.iastore, 1) := by decide +kernel
theorem dL_exchange_102 : decode cL_exchange 102 = .ok (.iload 7, 2) := by decide +kernel
theorem dL_exchange_104 : decode cL_exchange 104 = .ok (.ifCond .eq 59, 3) := by decide +kernel
theorem dL_exchange_107 : decode cL_exchange 107 = .ok (.aload_n 2, 1) := by decide +kernel
theorem dL_exchange_108 : decode cL_exchange 108 = .ok (.aload 4, 2) := by decide +kernel
theorem dL_exchange_110 : decode cL_exchange 110 = .ok (.iconst 2, 1) := by decide +kernel
theorem dL_exchange_111 : decode cL_exchange 111 = .ok (.iload 8, 2) := by decide +kernel
theorem dL_exchange_113 : decode cL_exchange 113 = .ok (.imul, 1) := by decide +kernel
theorem dL_exchange_114 : decode cL_exchange 114 = .ok (.iaload, 1) := by decide +kernel
theorem dL_exchange_115 : decode cL_exchange 115 = .ok (.bipush 30, 2) := by decide +kernel
theorem dL_exchange_117 : decode cL_exchange 117 = .ok (.iload 8, 2) := by decide +kernel
theorem dL_exchange_119 : decode cL_exchange 119 = .ok (.imul, 1) := by decide +kernel
theorem dL_exchange_120 : decode cL_exchange 120 = .ok (.invokevirtual 16, 3) := by decide +kernel
theorem dL_exchange_123 : decode cL_exchange 123 = .ok (.iload 8, 2) := by decide +kernel
theorem dL_exchange_125 : decode cL_exchange 125 = .ok (.if_icmp .ne 38, 3) := by decide +kernel
theorem dL_exchange_128 : decode cL_exchange 128 = .ok (.aload_n 2, 1) := by decide +kernel
theorem dL_exchange_129 : decode cL_exchange 129 = .ok (.iload 8, 2) := by decide +kernel
theorem dL_exchange_131 : decode cL_exchange 131 = .ok (.iconst 1, 1) := by decide +kernel
theorem dL_exchange_132 : decode cL_exchange 132 = .ok (.isub, 1) := by decide +kernel
theorem dL_exchange_133 : decode cL_exchange 133 = .ok (.iload 8, 2) := by decide +kernel
theorem dL_exchange_135 : decode cL_exchange 135 = .ok (.bipush 60, 2) := by decide +kernel
theorem dL_exchange_137 : decode cL_exchange 137 = .ok (.aload_n 0, 1) := by decide +kernel
theorem dL_exchange_138 : decode cL_exchange 138 = .ok (.iload_n 1, 1) := by decide +kernel
theorem dL_exchange_139 : decode cL_exchange 139 = .ok (.iconst 4, 1) := by decide +kernel
theorem dL_exchange_140 : decode cL_exchange 140 = .ok (.iadd, 1) := by decide +kernel
theorem dL_exchange_141 : decode cL_exchange 141 = .ok (.iload 8, 2) := by decide +kernel
theorem dL_exchange_143 : decode cL_exchange 143 = .ok (.iadd, 1) := by decide +kernel
theorem dL_exchange_144 : decode cL_exchange 144 = .ok (.sipush 200, 3) := by decide +kernel
theorem dL_exchange_147 : decode cL_exchange 147 = .ok (.invokestatic 90, 3) := by decide +kernel
theorem dL_exchange_150 : decode cL_exchange 150 = .ok (.iadd, 1) := by decide +kernel
theorem dL_exchange_151 : decode cL_exchange 151 = .ok (.invokevirtual 20, 3) := by decide +kernel
theorem dL_exchange_154 : decode cL_exchange 154 = .ok (.iload 8, 2) := by decide +kernel
theorem dL_exchange_156 : decode cL_exchange 156 = .ok (.if_icmp .ne 7, 3) := by decide +kernel
theorem dL_exchange_159 : decode cL_exchange 159 = .ok (.iconst 1, 1) := by decide +kernel
theorem dL_exchange_160 : decode cL_exchange 160 = .ok (.goto 4, 3) := by decide +kernel
theorem dL_exchange_163 : decode cL_exchange 163 = .ok (.iconst 0, 1) := by decide +kernel
theorem dL_exchange_164 : decode cL_exchange 164 = .ok (.istore 7, 2) := by decide +kernel
theorem dL_exchange_166 : decode cL_exchange 166 = .ok (.aload_n 3, 1) := by decide +kernel
theorem dL_exchange_167 : decode cL_exchange 167 = .ok (.iconst 0, 1) := by decide +kernel
theorem dL_exchange_168 : decode cL_exchange 168 = .ok (.dup2, 1) := by decide +kernel
theorem dL_exchange_169 : decode cL_exchange 169 = .ok (.iaload, 1) := by decide +kernel
theorem dL_exchange_170 : decode cL_exchange 170 = .ok (.iconst 1, 1) := by decide +kernel
theorem dL_exchange_171 : decode cL_exchange 171 = .ok (.iadd, 1) := by decide +kernel
theorem dL_exchange_172 : decode cL_exchange 172 = .ok (.iastore, 1) := by decide +kernel
theorem dL_exchange_173 : decode cL_exchange 173 = .ok (.aload_n 3, 1) := by decide +kernel
theorem dL_exchange_174 : decode cL_exchange 174 = .ok (.iconst 1, 1) := by decide +kernel
theorem dL_exchange_175 : decode cL_exchange 175 = .ok (.dup2, 1) := by decide +kernel
theorem dL_exchange_176 : decode cL_exchange 176 = .ok (.iaload, 1) := by decide +kernel
theorem dL_exchange_177 : decode cL_exchange 177 = .ok (.iconst 1, 1) := by decide +kernel
theorem dL_exchange_178 : decode cL_exchange 178 = .ok (.iadd, 1) := by decide +kernel
theorem dL_exchange_179 : decode cL_exchange 179 = .ok (.iastore, 1) := by decide +kernel
theorem dL_exchange_180 : decode cL_exchange 180 = .ok (.iinc 8 1, 3) := by decide +kernel
theorem dL_exchange_183 : decode cL_exchange 183 = .ok (.goto (-124), 3) := by decide +kernel
theorem dL_exchange_186 : decode cL_exchange 186 = .ok (.iconst 0, 1) := by decide +kernel
theorem dL_exchange_187 : decode cL_exchange 187 = .ok (.istore 8, 2) := by decide +kernel
theorem dL_exchange_189 : decode cL_exchange 189 = .ok (.iload 8, 2) := by decide +kernel
theorem dL_exchange_191 : decode cL_exchange 191 = .ok (.bipush 100, 2) := by decide +kernel
theorem dL_exchange_193 : decode cL_exchange 193 = .ok (.if_icmp .ge 185, 3) := by decide +kernel
theorem dL_exchange_196 : decode cL_exchange 196 = .ok (.iload 7, 2) := by decide +kernel
theorem dL_exchange_198 : decode cL_exchange 198 = .ok (.ifCond .eq 180, 3) := by decide +kernel
theorem dL_exchange_201 : decode cL_exchange 201 = .ok (.aload_n 0, 1) := by decide +kernel
theorem dL_exchange_202 : decode cL_exchange 202 = .ok (.iload_n 1, 1) := by decide +kernel
theorem dL_exchange_203 : decode cL_exchange 203 = .ok (.bipush 7, 2) := by decide +kernel
theorem dL_exchange_205 : decode cL_exchange 205 = .ok (.iadd, 1) := by decide +kernel
theorem dL_exchange_206 : decode cL_exchange 206 = .ok (.iconst 2, 1) := by decide +kernel
theorem dL_exchange_207 : decode cL_exchange 207 = .ok (.iload 8, 2) := by decide +kernel
theorem dL_exchange_209 : decode cL_exchange 209 = .ok (.imul, 1) := by decide +kernel
theorem dL_exchange_210 : decode cL_exchange 210 = .ok (.iadd, 1) := by decide +kernel
theorem dL_exchange_211 : decode cL_exchange 211 = .ok (.ldc 94, 2) := by decide +kernel
theorem dL_exchange_213 : decode cL_exchange 213 = .ok (.invokestatic 90, 3) := by decide +kernel
theorem dL_exchange_216 : decode cL_exchange 216 = .ok (.istore 9, 2) := by decide +kernel
theorem dL_exchange_218 : decode cL_exchange 218 = .ok (.aload_n 0, 1) := by decide +kernel
theorem dL_exchange_219 : decode cL_exchange 219 = .ok (.iload_n 1, 1) := by decide +kernel
theorem dL_exchange_220 : decode cL_exchange 220 = .ok (.bipush 8, 2) := by decide +kernel
theorem dL_exchange_222 : decode cL_exchange 222 = .ok (.iadd, 1) := by decide +kernel
theorem dL_exchange_223 : decode cL_exchange 223 = .ok (.iconst 2, 1) := by decide +kernel
theorem dL_exchange_224 : decode cL_exchange 224 = .ok (.iload 8, 2) := by decide +kernel
theorem dL_exchange_226 : decode cL_exchange 226 = .ok (.imul, 1) := by decide +kernel
theorem dL_exchange_227 : decode cL_exchange 227 = .ok (.iadd, 1) := by decide +kernel
theorem dL_exchange_228 : decode cL_exchange 228 = .ok (.ldc 94, 2) := by decide +kernel
theorem dL_exchange_230 : decode cL_exchange 230 = .ok (.invokestatic 90, 3) := by decide +kernel
theorem dL_exchange_233 : decode cL_exchange 233 = .ok (.istore 10, 2) := by decide +kernel
theorem dL_exchange_235 : decode cL_exchange 235 = .ok (.iload 9, 2) := by decide +kernel
theorem dL_exchange_237 : decode cL_exchange 237 = .ok (.bipush 16, 2) := by decide +kernel
theorem dL_exchange_239 : decode cL_exchange 239 = .ok (.irem, 1) := by decide +kernel
theorem dL_exchange_240 : decode cL_exchange 240 = .ok (.istore 11, 2) := by decide +kernel
theorem dL_exchange_242 : decode cL_exchange 242 = .ok (.iload 9, 2) := by decide +kernel
theorem dL_exchange_244 : decode cL_exchange 244 = .ok (.bipush 16, 2) := by decide +kernel
theorem dL_exchange_246 : decode cL_exchange 246 = .ok (.idiv, 1) := by decide +kernel
theorem dL_exchange_247 : decode cL_exchange 247 = .ok (.istore 12, 2) := by decide +kernel
theorem dL_exchange_249 : decode cL_exchange 249 = .ok (.iload 11, 2) := by decide +kernel
theorem dL_exchange_251 : decode cL_exchange 251 = .ok (.bipush 6, 2) := by decide +kernel
theorem dL_exchange_253 : decode cL_exchange 253 = .ok (.if_icmp .ge 15, 3) := by decide +kernel
theorem dL_exchange_256 : decode cL_exchange 256 = .ok (.aload_n 2, 1) := by decide +kernel
theorem dL_exchange_257 : decode cL_exchange 257 = .ok (.iload 12, 2) := by decide +kernel
theorem dL_exchange_259 : decode cL_exchange 259 = .ok (.iload 10, 2) := by decide +kernel
theorem dL_exchange_261 : decode cL_exchange 261 = .ok (.aload_n 3, 1) := by decide +kernel
theorem dL_exchange_262 : decode cL_exchange 262 = .ok (.invokestatic 95, 3) := by decide +kernel
theorem dL_exchange_265 : decode cL_exchange 265 = .ok (.goto 71, 3) := by decide +kernel
theorem dL_exchange_268 : decode cL_exchange 268 = .ok (.iload 11, 2) := by decide +kernel
theorem dL_exchange_270 : decode cL_exchange 270 = .ok (.bipush 9, 2) := by decide +kernel
theorem dL_exchange_272 : decode cL_exchange 272 = .ok (.if_icmp .ge 13, 3) := by decide +kernel
theorem dL_exchange_275 : decode cL_exchange 275 = .ok (.aload_n 2, 1) := by decide +kernel
theorem dL_exchange_276 : decode cL_exchange 276 = .ok (.aload_n 3, 1) := by decide +kernel
theorem dL_exchange_277 : decode cL_exchange 277 = .ok (.aload 5, 2) := by decide +kernel
theorem dL_exchange_279 : decode cL_exchange 279 = .ok (.invokestatic 99, 3) := by decide +kernel
theorem dL_exchange_282 : decode cL_exchange 282 = .ok (.goto 54, 3) := by decide +kernel
theorem dL_exchange_285 : decode cL_exchange 285 = .ok (.iload 11, 2) := by decide +kernel
theorem dL_exchange_287 : decode cL_exchange 287 = .ok (.bipush 9, 2) := by decide +kernel
theorem dL_exchange_289 : decode cL_exchange 289 = .ok (.if_icmp .ne 17, 3) := by decide +kernel
theorem dL_exchange_292 : decode cL_exchange 292 = .ok (.aload_n 2, 1) := by decide +kernel
theorem dL_exchange_293 : decode cL_exchange 293 = .ok (.iload 12, 2) := by decide +kernel
theorem dL_exchange_295 : decode cL_exchange 295 = .ok (.aload_n 3, 1) := by decide +kernel
theorem dL_exchange_296 : decode cL_exchange 296 = .ok (.aload 5, 2) := by decide +kernel
theorem dL_exchange_298 : decode cL_exchange 298 = .ok (.aload 6, 2) := by decide +kernel
theorem dL_exchange_300 : decode cL_exchange 300 = .ok (.invokestatic 103, 3) := by decide +kernel
theorem dL_exchange_303 : decode cL_exchange 303 = .ok (.goto 33, 3) := by decide +kernel
theorem dL_exchange_306 : decode cL_exchange 306 = .ok (.iload 11, 2) := by decide +kernel
theorem dL_exchange_308 : decode cL_exchange 308 = .ok (.bipush 12, 2) := by decide +kernel
theorem dL_exchange_310 : decode cL_exchange 310 = .ok (.if_icmp .ge 13, 3) := by decide +kernel
theorem dL_exchange_313 : decode cL_exchange 313 = .ok (.aload_n 2, 1) := by decide +kernel
theorem dL_exchange_314 : decode cL_exchange 314 = .ok (.aload_n 3, 1) := by decide +kernel
theorem dL_exchange_315 : decode cL_exchange 315 = .ok (.aload 4, 2) := by decide +kernel
theorem dL_exchange_317 : decode cL_exchange 317 = .ok (.invokestatic 107, 3) := by decide +kernel
theorem dL_exchange_320 : decode cL_exchange 320 = .ok (.goto 16, 3) := by decide +kernel
theorem dL_exchange_323 : decode cL_exchange 323 = .ok (.aload_n 2, 1) := by decide +kernel
theorem dL_exchange_324 : decode cL_exchange 324 = .ok (.iload 12, 2) := by decide +kernel
theorem dL_exchange_326 : decode cL_exchange 326 = .ok (.iload 10, 2) := by decide +kernel
theorem dL_exchange_328 : decode cL_exchange 328 = .ok (.aload_n 3, 1) := by decide +kernel
theorem dL_exchange_329 : decode cL_exchange 329 = .ok (.aload 4, 2) := by decide +kernel
theorem dL_exchange_331 : decode cL_exchange 331 = .ok (.aload 6, 2) := by decide +kernel
theorem dL_exchange_333 : decode cL_exchange 333 = .ok (.invokestatic 110, 3) := by decide +kernel
theorem dL_exchange_336 : decode cL_exchange 336 = .ok (.istore 7, 2) := by decide +kernel
theorem dL_exchange_338 : decode cL_exchange 338 = .ok (.iload 7, 2) := by decide +kernel
theorem dL_exchange_340 : decode cL_exchange 340 = .ok (.ifCond .eq 29, 3) := by decide +kernel
theorem dL_exchange_343 : decode cL_exchange 343 = .ok (.iload 8, 2) := by decide +kernel
theorem dL_exchange_345 : decode cL_exchange 345 = .ok (.iconst 5, 1) := by decide +kernel
theorem dL_exchange_346 : decode cL_exchange 346 = .ok (.irem, 1) := by decide +kernel
theorem dL_exchange_347 : decode cL_exchange 347 = .ok (.iconst 4, 1) := by decide +kernel
theorem dL_exchange_348 : decode cL_exchange 348 = .ok (.if_icmp .lt 17, 3) := by decide +kernel
theorem dL_exchange_351 : decode cL_exchange 351 = .ok (.aload_n 2, 1) := by decide +kernel
theorem dL_exchange_352 : decode cL_exchange 352 = .ok (.aload_n 3, 1) := by decide +kernel
theorem dL_exchange_353 : decode cL_exchange 353 = .ok (.aload 4, 2) := by decide +kernel
theorem dL_exchange_355 : decode cL_exchange 355 = .ok (.aload 5, 2) := by decide +kernel
theorem dL_exchange_357 : decode cL_exchange 357 = .ok (.aload 6, 2) := by decide +kernel
theorem dL_exchange_359 : decode cL_exchange 359 = .ok (.invokestatic 114, 3) := by decide +kernel
theorem dL_exchange_362 : decode cL_exchange 362 = .ok (.ifCond .eq 7, 3) := by decide +kernel
theorem dL_exchange_365 : decode cL_exchange 365 = .ok (.iconst 1, 1) := by decide +kernel
theorem dL_exchange_366 : decode cL_exchange 366 = .ok (.goto 4, 3) := by decide +kernel
theorem dL_exchange_369 : decode cL_exchange 369 = .ok (.iconst 0, 1) := by decide +kernel
theorem dL_exchange_370 : decode cL_exchange 370 = .ok (.istore 7, 2) := by decide +kernel
theorem dL_exchange_372 : decode cL_exchange 372 = .ok (.iinc 8 1, 3) := by decide +kernel
theorem dL_exchange_375 : decode cL_exchange 375 = .ok (.goto (-186), 3) := by decide +kernel
theorem dL_exchange_378 : decode cL_exchange 378 = .ok (.iload 7, 2) := by decide +kernel
theorem dL_exchange_380 : decode cL_exchange 380 = .ok (.ifCond .eq 21, 3) := by decide +kernel
theorem dL_exchange_383 : decode cL_exchange 383 = .ok (.aload_n 2, 1) := by decide +kernel
theorem dL_exchange_384 : decode cL_exchange 384 = .ok (.aload_n 3, 1) := by decide +kernel
theorem dL_exchange_385 : decode cL_exchange 385 = .ok (.aload 4, 2) := by decide +kernel
theorem dL_exchange_387 : decode cL_exchange 387 = .ok (.aload 5, 2) := by decide +kernel
theorem dL_exchange_389 : decode cL_exchange 389 = .ok (.aload 6, 2) := by decide +kernel
theorem dL_exchange_391 : decode cL_exchange 391 = .ok (.invokestatic 114, 3) := by decide +kernel
theorem dL_exchange_394 : decode cL_exchange 394 = .ok (.ifCond .eq 7, 3) := by decide +kernel
theorem dL_exchange_397 : decode cL_exchange 397 = .ok (.iconst 1, 1) := by decide +kernel
theorem dL_exchange_398 : decode cL_exchange 398 = .ok (.goto 4, 3) := by decide +kernel
theorem dL_exchange_401 : decode cL_exchange 401 = .ok (.iconst 0, 1) := by decide +kernel
theorem dL_exchange_402 : decode cL_exchange 402 = .ok (.ireturn, 1) := by decide +kernel
theorem dL_law_0 : decode cL_law 0 = .ok (.aload_n 0, 1) := by decide +kernel
theorem dL_law_1 : decode cL_law 1 = .ok (.iconst 0, 1) := by decide +kernel
theorem dL_law_2 : decode cL_law 2 = .ok (.invokestatic 118, 3) := by decide +kernel
theorem dL_law_5 : decode cL_law 5 = .ok (.ifCond .eq 27, 3) := by decide +kernel
theorem dL_law_8 : decode cL_law 8 = .ok (.aload_n 0, 1) := by decide +kernel
theorem dL_law_9 : decode cL_law 9 = .ok (.sipush 207, 3) := by decide +kernel
theorem dL_law_12 : decode cL_law 12 = .ok (.invokestatic 118, 3) := by decide +kernel
theorem dL_law_15 : decode cL_law 15 = .ok (.ifCond .eq 17, 3) := by decide +kernel
theorem dL_law_18 : decode cL_law 18 = .ok (.aload_n 0, 1) := by decide +kernel
theorem dL_law_19 : decode cL_law 19 = .ok (.sipush 414, 3) := by decide +kernel
theorem dL_law_22 : decode cL_law 22 = .ok (.invokestatic 118, 3) := by decide +kernel
theorem dL_law_25 : decode cL_law 25 = .ok (.ifCond .eq 7, 3) := by decide +kernel
theorem dL_law_28 : decode cL_law 28 = .ok (.iconst 1, 1) := by decide +kernel
theorem dL_law_29 : decode cL_law 29 = .ok (.goto 4, 3) := by decide +kernel
theorem dL_law_32 : decode cL_law 32 = .ok (.iconst 0, 1) := by decide +kernel
theorem dL_law_33 : decode cL_law 33 = .ok (.ireturn, 1) := by decide +kernel
