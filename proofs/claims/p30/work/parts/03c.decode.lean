theorem dL_sound_875 : decode cL_sound 875 = .ok (.iload 5, 2) := by decide +kernel
theorem dL_sound_877 : decode cL_sound 877 = .ok (.if_icmp .ne 34, 3) := by decide +kernel
theorem dL_sound_880 : decode cL_sound 880 = .ok (.aload_n 0, 1) := by decide +kernel
theorem dL_sound_881 : decode cL_sound 881 = .ok (.iload 7, 2) := by decide +kernel
theorem dL_sound_883 : decode cL_sound 883 = .ok (.invokevirtual 37, 3) := by decide +kernel
theorem dL_sound_886 : decode cL_sound 886 = .ok (.bipush (-4), 2) := by decide +kernel
theorem dL_sound_888 : decode cL_sound 888 = .ok (.if_icmp .ne 23, 3) := by decide +kernel
theorem dL_sound_891 : decode cL_sound 891 = .ok (.iload 7, 2) := by decide +kernel
theorem dL_sound_893 : decode cL_sound 893 = .ok (.ifCond .eq 14, 3) := by decide +kernel
theorem dL_sound_896 : decode cL_sound 896 = .ok (.aload_n 0, 1) := by decide +kernel
theorem dL_sound_897 : decode cL_sound 897 = .ok (.iload 7, 2) := by decide +kernel
theorem dL_sound_899 : decode cL_sound 899 = .ok (.iconst 1, 1) := by decide +kernel
theorem dL_sound_900 : decode cL_sound 900 = .ok (.isub, 1) := by decide +kernel
theorem dL_sound_901 : decode cL_sound 901 = .ok (.invokevirtual 37, 3) := by decide +kernel
theorem dL_sound_904 : decode cL_sound 904 = .ok (.ifCond .lt 7, 3) := by decide +kernel
theorem dL_sound_907 : decode cL_sound 907 = .ok (.iconst 1, 1) := by decide +kernel
theorem dL_sound_908 : decode cL_sound 908 = .ok (.goto 4, 3) := by decide +kernel
theorem dL_sound_911 : decode cL_sound 911 = .ok (.iconst 0, 1) := by decide +kernel
theorem dL_sound_912 : decode cL_sound 912 = .ok (.ireturn, 1) := by decide +kernel
theorem dL_journal_0 : decode cL_journal 0 = .ok (.aload_n 0, 1) := by decide +kernel
theorem dL_journal_1 : decode cL_journal 1 = .ok (.bipush 13, 2) := by decide +kernel
theorem dL_journal_3 : decode cL_journal 3 = .ok (.invokevirtual 9, 3) := by decide +kernel
theorem dL_journal_6 : decode cL_journal 6 = .ok (.istore_n 1, 1) := by decide +kernel
theorem dL_journal_7 : decode cL_journal 7 = .ok (.iconst 0, 1) := by decide +kernel
theorem dL_journal_8 : decode cL_journal 8 = .ok (.istore_n 2, 1) := by decide +kernel
theorem dL_journal_9 : decode cL_journal 9 = .ok (.iload_n 2, 1) := by decide +kernel
theorem dL_journal_10 : decode cL_journal 10 = .ok (.iload_n 1, 1) := by decide +kernel
theorem dL_journal_11 : decode cL_journal 11 = .ok (.if_icmp .ge 134, 3) := by decide +kernel
theorem dL_journal_14 : decode cL_journal 14 = .ok (.aload_n 0, 1) := by decide +kernel
theorem dL_journal_15 : decode cL_journal 15 = .ok (.iload_n 2, 1) := by decide +kernel
theorem dL_journal_16 : decode cL_journal 16 = .ok (.iconst 2, 1) := by decide +kernel
theorem dL_journal_17 : decode cL_journal 17 = .ok (.invokevirtual 40, 3) := by decide +kernel
theorem dL_journal_20 : decode cL_journal 20 = .ok (.istore_n 3, 1) := by decide +kernel
theorem dL_journal_21 : decode cL_journal 21 = .ok (.aload_n 0, 1) := by decide +kernel
theorem dL_journal_22 : decode cL_journal 22 = .ok (.iload_n 2, 1) := by decide +kernel
theorem dL_journal_23 : decode cL_journal 23 = .ok (.iconst 1, 1) := by decide +kernel
theorem dL_journal_24 : decode cL_journal 24 = .ok (.invokevirtual 40, 3) := by decide +kernel
theorem dL_journal_27 : decode cL_journal 27 = .ok (.istore 4, 2) := by decide +kernel
theorem dL_journal_29 : decode cL_journal 29 = .ok (.iload_n 2, 1) := by decide +kernel
theorem dL_journal_30 : decode cL_journal 30 = .ok (.ifCond .le 24, 3) := by decide +kernel
theorem dL_journal_33 : decode cL_journal 33 = .ok (.aload_n 0, 1) := by decide +kernel
theorem dL_journal_34 : decode cL_journal 34 = .ok (.iload_n 2, 1) := by decide +kernel
theorem dL_journal_35 : decode cL_journal 35 = .ok (.iconst 0, 1) := by decide +kernel
theorem dL_journal_36 : decode cL_journal 36 = .ok (.invokevirtual 40, 3) := by decide +kernel
theorem dL_journal_39 : decode cL_journal 39 = .ok (.aload_n 0, 1) := by decide +kernel
theorem dL_journal_40 : decode cL_journal 40 = .ok (.iload_n 2, 1) := by decide +kernel
theorem dL_journal_41 : decode cL_journal 41 = .ok (.iconst 1, 1) := by decide +kernel
theorem dL_journal_42 : decode cL_journal 42 = .ok (.isub, 1) := by decide +kernel
theorem dL_journal_43 : decode cL_journal 43 = .ok (.iconst 0, 1) := by decide +kernel
theorem dL_journal_44 : decode cL_journal 44 = .ok (.invokevirtual 40, 3) := by decide +kernel
theorem dL_journal_47 : decode cL_journal 47 = .ok (.if_icmp .le 7, 3) := by decide +kernel
theorem dL_journal_50 : decode cL_journal 50 = .ok (.iconst 1, 1) := by decide +kernel
theorem dL_journal_51 : decode cL_journal 51 = .ok (.goto 4, 3) := by decide +kernel
theorem dL_journal_54 : decode cL_journal 54 = .ok (.iconst 0, 1) := by decide +kernel
theorem dL_journal_55 : decode cL_journal 55 = .ok (.istore 5, 2) := by decide +kernel
theorem dL_journal_57 : decode cL_journal 57 = .ok (.iload 5, 2) := by decide +kernel
theorem dL_journal_59 : decode cL_journal 59 = .ok (.ifCond .ne 78, 3) := by decide +kernel
theorem dL_journal_62 : decode cL_journal 62 = .ok (.aload_n 0, 1) := by decide +kernel
theorem dL_journal_63 : decode cL_journal 63 = .ok (.iload_n 2, 1) := by decide +kernel
theorem dL_journal_64 : decode cL_journal 64 = .ok (.iconst 0, 1) := by decide +kernel
theorem dL_journal_65 : decode cL_journal 65 = .ok (.invokevirtual 40, 3) := by decide +kernel
theorem dL_journal_68 : decode cL_journal 68 = .ok (.aload_n 0, 1) := by decide +kernel
theorem dL_journal_69 : decode cL_journal 69 = .ok (.bipush 11, 2) := by decide +kernel
theorem dL_journal_71 : decode cL_journal 71 = .ok (.invokevirtual 9, 3) := by decide +kernel
theorem dL_journal_74 : decode cL_journal 74 = .ok (.if_icmp .gt 63, 3) := by decide +kernel
theorem dL_journal_77 : decode cL_journal 77 = .ok (.iload 4, 2) := by decide +kernel
theorem dL_journal_79 : decode cL_journal 79 = .ok (.ifCond .lt 58, 3) := by decide +kernel
theorem dL_journal_82 : decode cL_journal 82 = .ok (.iload 4, 2) := by decide +kernel
theorem dL_journal_84 : decode cL_journal 84 = .ok (.aload_n 0, 1) := by decide +kernel
theorem dL_journal_85 : decode cL_journal 85 = .ok (.iconst 3, 1) := by decide +kernel
theorem dL_journal_86 : decode cL_journal 86 = .ok (.invokevirtual 9, 3) := by decide +kernel
theorem dL_journal_89 : decode cL_journal 89 = .ok (.if_icmp .ge 48, 3) := by decide +kernel
theorem dL_journal_92 : decode cL_journal 92 = .ok (.iload_n 3, 1) := by decide +kernel
theorem dL_journal_93 : decode cL_journal 93 = .ok (.ifCond .lt 44, 3) := by decide +kernel
theorem dL_journal_96 : decode cL_journal 96 = .ok (.iload_n 3, 1) := by decide +kernel
theorem dL_journal_97 : decode cL_journal 97 = .ok (.bipush 6, 2) := by decide +kernel
theorem dL_journal_99 : decode cL_journal 99 = .ok (.if_icmp .gt 38, 3) := by decide +kernel
theorem dL_journal_102 : decode cL_journal 102 = .ok (.iload_n 2, 1) := by decide +kernel
theorem dL_journal_103 : decode cL_journal 103 = .ok (.ifCond .le 36, 3) := by decide +kernel
theorem dL_journal_106 : decode cL_journal 106 = .ok (.aload_n 0, 1) := by decide +kernel
theorem dL_journal_107 : decode cL_journal 107 = .ok (.iload_n 2, 1) := by decide +kernel
theorem dL_journal_108 : decode cL_journal 108 = .ok (.iconst 1, 1) := by decide +kernel
theorem dL_journal_109 : decode cL_journal 109 = .ok (.isub, 1) := by decide +kernel
theorem dL_journal_110 : decode cL_journal 110 = .ok (.iconst 2, 1) := by decide +kernel
theorem dL_journal_111 : decode cL_journal 111 = .ok (.invokevirtual 40, 3) := by decide +kernel
theorem dL_journal_114 : decode cL_journal 114 = .ok (.bipush 6, 2) := by decide +kernel
theorem dL_journal_116 : decode cL_journal 116 = .ok (.if_icmp .ne 23, 3) := by decide +kernel
theorem dL_journal_119 : decode cL_journal 119 = .ok (.iload_n 3, 1) := by decide +kernel
theorem dL_journal_120 : decode cL_journal 120 = .ok (.iconst 1, 1) := by decide +kernel
theorem dL_journal_121 : decode cL_journal 121 = .ok (.if_icmp .ne 16, 3) := by decide +kernel
theorem dL_journal_124 : decode cL_journal 124 = .ok (.aload_n 0, 1) := by decide +kernel
theorem dL_journal_125 : decode cL_journal 125 = .ok (.iload_n 2, 1) := by decide +kernel
theorem dL_journal_126 : decode cL_journal 126 = .ok (.iconst 1, 1) := by decide +kernel
theorem dL_journal_127 : decode cL_journal 127 = .ok (.isub, 1) := by decide +kernel
theorem dL_journal_128 : decode cL_journal 128 = .ok (.iconst 1, 1) := by decide +kernel
theorem dL_journal_129 : decode cL_journal 129 = .ok (.invokevirtual 40, 3) := by decide +kernel
theorem dL_journal_132 : decode cL_journal 132 = .ok (.iload 4, 2) := by decide +kernel
theorem dL_journal_134 : decode cL_journal 134 = .ok (.if_icmp .eq 5, 3) := by decide +kernel
theorem dL_journal_137 : decode cL_journal 137 = .ok (.iconst 0, 1) := by decide +kernel
theorem dL_journal_138 : decode cL_journal 138 = .ok (.ireturn, 1) := by decide +kernel
theorem dL_journal_139 : decode cL_journal 139 = .ok (.iinc 2 1, 3) := by decide +kernel
theorem dL_journal_142 : decode cL_journal 142 = .ok (.goto (-133), 3) := by decide +kernel
theorem dL_journal_145 : decode cL_journal 145 = .ok (.iconst 1, 1) := by decide +kernel
theorem dL_journal_146 : decode cL_journal 146 = .ok (.istore_n 2, 1) := by decide +kernel
theorem dL_journal_147 : decode cL_journal 147 = .ok (.iload_n 2, 1) := by decide +kernel
theorem dL_journal_148 : decode cL_journal 148 = .ok (.aload_n 0, 1) := by decide +kernel
theorem dL_journal_149 : decode cL_journal 149 = .ok (.iconst 3, 1) := by decide +kernel
theorem dL_journal_150 : decode cL_journal 150 = .ok (.invokevirtual 9, 3) := by decide +kernel
theorem dL_journal_153 : decode cL_journal 153 = .ok (.if_icmp .ge 71, 3) := by decide +kernel
theorem dL_journal_156 : decode cL_journal 156 = .ok (.aload_n 0, 1) := by decide +kernel
theorem dL_journal_157 : decode cL_journal 157 = .ok (.iload_n 2, 1) := by decide +kernel
theorem dL_journal_158 : decode cL_journal 158 = .ok (.iconst 1, 1) := by decide +kernel
theorem dL_journal_159 : decode cL_journal 159 = .ok (.isub, 1) := by decide +kernel
theorem dL_journal_160 : decode cL_journal 160 = .ok (.invokevirtual 37, 3) := by decide +kernel
theorem dL_journal_163 : decode cL_journal 163 = .ok (.istore_n 3, 1) := by decide +kernel
theorem dL_journal_164 : decode cL_journal 164 = .ok (.aload_n 0, 1) := by decide +kernel
theorem dL_journal_165 : decode cL_journal 165 = .ok (.iload_n 2, 1) := by decide +kernel
theorem dL_journal_166 : decode cL_journal 166 = .ok (.invokevirtual 37, 3) := by decide +kernel
theorem dL_journal_169 : decode cL_journal 169 = .ok (.istore 4, 2) := by decide +kernel
theorem dL_journal_171 : decode cL_journal 171 = .ok (.iload 4, 2) := by decide +kernel
theorem dL_journal_173 : decode cL_journal 173 = .ok (.bipush (-4), 2) := by decide +kernel
theorem dL_journal_175 : decode cL_journal 175 = .ok (.if_icmp .eq 43, 3) := by decide +kernel
theorem dL_journal_178 : decode cL_journal 178 = .ok (.aload_n 0, 1) := by decide +kernel
theorem dL_journal_179 : decode cL_journal 179 = .ok (.iload_n 3, 1) := by decide +kernel
theorem dL_journal_180 : decode cL_journal 180 = .ok (.iconst 3, 1) := by decide +kernel
theorem dL_journal_181 : decode cL_journal 181 = .ok (.invokevirtual 21, 3) := by decide +kernel
theorem dL_journal_184 : decode cL_journal 184 = .ok (.aload_n 0, 1) := by decide +kernel
theorem dL_journal_185 : decode cL_journal 185 = .ok (.iload 4, 2) := by decide +kernel
theorem dL_journal_187 : decode cL_journal 187 = .ok (.iconst 3, 1) := by decide +kernel
theorem dL_journal_188 : decode cL_journal 188 = .ok (.invokevirtual 21, 3) := by decide +kernel
theorem dL_journal_191 : decode cL_journal 191 = .ok (.if_icmp .lt 25, 3) := by decide +kernel
theorem dL_journal_194 : decode cL_journal 194 = .ok (.aload_n 0, 1) := by decide +kernel
theorem dL_journal_195 : decode cL_journal 195 = .ok (.iload_n 3, 1) := by decide +kernel
theorem dL_journal_196 : decode cL_journal 196 = .ok (.iconst 3, 1) := by decide +kernel
theorem dL_journal_197 : decode cL_journal 197 = .ok (.invokevirtual 21, 3) := by decide +kernel
theorem dL_journal_200 : decode cL_journal 200 = .ok (.aload_n 0, 1) := by decide +kernel
theorem dL_journal_201 : decode cL_journal 201 = .ok (.iload 4, 2) := by decide +kernel
theorem dL_journal_203 : decode cL_journal 203 = .ok (.iconst 3, 1) := by decide +kernel
theorem dL_journal_204 : decode cL_journal 204 = .ok (.invokevirtual 21, 3) := by decide +kernel
theorem dL_journal_207 : decode cL_journal 207 = .ok (.if_icmp .ne 11, 3) := by decide +kernel
theorem dL_journal_210 : decode cL_journal 210 = .ok (.iload_n 3, 1) := by decide +kernel
theorem dL_journal_211 : decode cL_journal 211 = .ok (.iload 4, 2) := by decide +kernel
theorem dL_journal_213 : decode cL_journal 213 = .ok (.if_icmp .lt 5, 3) := by decide +kernel
theorem dL_journal_216 : decode cL_journal 216 = .ok (.iconst 0, 1) := by decide +kernel
theorem dL_journal_217 : decode cL_journal 217 = .ok (.ireturn, 1) := by decide +kernel
theorem dL_journal_218 : decode cL_journal 218 = .ok (.iinc 2 1, 3) := by decide +kernel
theorem dL_journal_221 : decode cL_journal 221 = .ok (.goto (-74), 3) := by decide +kernel
theorem dL_journal_224 : decode cL_journal 224 = .ok (.iload_n 1, 1) := by decide +kernel
theorem dL_journal_225 : decode cL_journal 225 = .ok (.bipush 40, 2) := by decide +kernel
theorem dL_journal_227 : decode cL_journal 227 = .ok (.if_icmp .gt 18, 3) := by decide +kernel
theorem dL_journal_230 : decode cL_journal 230 = .ok (.aload_n 0, 1) := by decide +kernel
theorem dL_journal_231 : decode cL_journal 231 = .ok (.iload_n 1, 1) := by decide +kernel
theorem dL_journal_232 : decode cL_journal 232 = .ok (.iconst 0, 1) := by decide +kernel
theorem dL_journal_233 : decode cL_journal 233 = .ok (.invokevirtual 40, 3) := by decide +kernel
theorem dL_journal_236 : decode cL_journal 236 = .ok (.bipush (-4), 2) := by decide +kernel
theorem dL_journal_238 : decode cL_journal 238 = .ok (.if_icmp .ne 7, 3) := by decide +kernel
theorem dL_journal_241 : decode cL_journal 241 = .ok (.iconst 1, 1) := by decide +kernel
theorem dL_journal_242 : decode cL_journal 242 = .ok (.goto 4, 3) := by decide +kernel
theorem dL_journal_245 : decode cL_journal 245 = .ok (.iconst 0, 1) := by decide +kernel
theorem dL_journal_246 : decode cL_journal 246 = .ok (.ireturn, 1) := by decide +kernel
theorem dL_put_0 : decode cL_put 0 = .ok (.aload_n 0, 1) := by decide +kernel
theorem dL_put_1 : decode cL_put 1 = .ok (.iload_n 1, 1) := by decide +kernel
theorem dL_put_2 : decode cL_put 2 = .ok (.invokevirtual 43, 3) := by decide +kernel
theorem dL_put_5 : decode cL_put 5 = .ok (.ifCond .le 7, 3) := by decide +kernel
theorem dL_put_8 : decode cL_put 8 = .ok (.iconst 1, 1) := by decide +kernel
theorem dL_put_9 : decode cL_put 9 = .ok (.goto 6, 3) := by decide +kernel
theorem dL_put_12 : decode cL_put 12 = .ok (.sipush 1000, 3) := by decide +kernel
theorem dL_put_15 : decode cL_put 15 = .ok (.ireturn, 1) := by decide +kernel
theorem dL_writes_0 : decode cL_writes 0 = .ok (.aload_n 0, 1) := by decide +kernel
theorem dL_writes_1 : decode cL_writes 1 = .ok (.iload_n 1, 1) := by decide +kernel
theorem dL_writes_2 : decode cL_writes 2 = .ok (.invokevirtual 24, 3) := by decide +kernel
theorem dL_writes_5 : decode cL_writes 5 = .ok (.istore_n 3, 1) := by decide +kernel
theorem dL_writes_6 : decode cL_writes 6 = .ok (.aload_n 0, 1) := by decide +kernel
theorem dL_writes_7 : decode cL_writes 7 = .ok (.invokevirtual 46, 3) := by decide +kernel
theorem dL_writes_10 : decode cL_writes 10 = .ok (.iconst 0, 1) := by decide +kernel
theorem dL_writes_11 : decode cL_writes 11 = .ok (.imul, 1) := by decide +kernel
theorem dL_writes_12 : decode cL_writes 12 = .ok (.istore 4, 2) := by decide +kernel
theorem dL_writes_14 : decode cL_writes 14 = .ok (.iconst 1, 1) := by decide +kernel
theorem dL_writes_15 : decode cL_writes 15 = .ok (.iload_n 2, 1) := by decide +kernel
theorem dL_writes_16 : decode cL_writes 16 = .ok (.iconst 4, 1) := by decide +kernel
theorem dL_writes_17 : decode cL_writes 17 = .ok (.invokestatic 50, 3) := by decide +kernel
theorem dL_writes_20 : decode cL_writes 20 = .ok (.iadd, 1) := by decide +kernel
theorem dL_writes_21 : decode cL_writes 21 = .ok (.istore 5, 2) := by decide +kernel
theorem dL_writes_23 : decode cL_writes 23 = .ok (.iconst 0, 1) := by decide +kernel
theorem dL_writes_24 : decode cL_writes 24 = .ok (.istore 6, 2) := by decide +kernel
theorem dL_writes_26 : decode cL_writes 26 = .ok (.iload 6, 2) := by decide +kernel
theorem dL_writes_28 : decode cL_writes 28 = .ok (.iload 5, 2) := by decide +kernel
theorem dL_writes_30 : decode cL_writes 30 = .ok (.if_icmp .ge 208, 3) := by decide +kernel
theorem dL_writes_33 : decode cL_writes 33 = .ok (.iload_n 2, 1) := by decide +kernel
theorem dL_writes_34 : decode cL_writes 34 = .ok (.iconst 2, 1) := by decide +kernel
theorem dL_writes_35 : decode cL_writes 35 = .ok (.iconst 5, 1) := by decide +kernel
theorem dL_writes_36 : decode cL_writes 36 = .ok (.iload 6, 2) := by decide +kernel
theorem dL_writes_38 : decode cL_writes 38 = .ok (.imul, 1) := by decide +kernel
theorem dL_writes_39 : decode cL_writes 39 = .ok (.iadd, 1) := by decide +kernel
theorem dL_writes_40 : decode cL_writes 40 = .ok (.ishr, 1) := by decide +kernel
theorem dL_writes_41 : decode cL_writes 41 = .ok (.istore 7, 2) := by decide +kernel
theorem dL_writes_43 : decode cL_writes 43 = .ok (.iload 4, 2) := by decide +kernel
theorem dL_writes_45 : decode cL_writes 45 = .ok (.aload_n 0, 1) := by decide +kernel
theorem dL_writes_46 : decode cL_writes 46 = .ok (.iload 7, 2) := by decide +kernel
theorem dL_writes_48 : decode cL_writes 48 = .ok (.iconst 3, 1) := by decide +kernel
theorem dL_writes_49 : decode cL_writes 49 = .ok (.invokestatic 50, 3) := by decide +kernel
theorem dL_writes_52 : decode cL_writes 52 = .ok (.ifCond .ne 8, 3) := by decide +kernel
theorem dL_writes_55 : decode cL_writes 55 = .ok (.bipush 114, 2) := by decide +kernel
theorem dL_writes_57 : decode cL_writes 57 = .ok (.goto 20, 3) := by decide +kernel
theorem dL_writes_60 : decode cL_writes 60 = .ok (.iload 7, 2) := by decide +kernel
theorem dL_writes_62 : decode cL_writes 62 = .ok (.iconst 3, 1) := by decide +kernel
theorem dL_writes_63 : decode cL_writes 63 = .ok (.invokestatic 50, 3) := by decide +kernel
theorem dL_writes_66 : decode cL_writes 66 = .ok (.iconst 1, 1) := by decide +kernel
theorem dL_writes_67 : decode cL_writes 67 = .ok (.if_icmp .ne 8, 3) := by decide +kernel
theorem dL_writes_70 : decode cL_writes 70 = .ok (.bipush 109, 2) := by decide +kernel
theorem dL_writes_72 : decode cL_writes 72 = .ok (.goto 5, 3) := by decide +kernel
theorem dL_writes_75 : decode cL_writes 75 = .ok (.bipush 102, 2) := by decide +kernel
theorem dL_writes_77 : decode cL_writes 77 = .ok (.invokestatic 53, 3) := by decide +kernel
theorem dL_writes_80 : decode cL_writes 80 = .ok (.aload_n 0, 1) := by decide +kernel
theorem dL_writes_81 : decode cL_writes 81 = .ok (.bipush 49, 2) := by decide +kernel
theorem dL_writes_83 : decode cL_writes 83 = .ok (.iload 7, 2) := by decide +kernel
theorem dL_writes_85 : decode cL_writes 85 = .ok (.iconst 1, 1) := by decide +kernel
theorem dL_writes_86 : decode cL_writes 86 = .ok (.ishr, 1) := by decide +kernel
theorem dL_writes_87 : decode cL_writes 87 = .ok (.iconst 5, 1) := by decide +kernel
theorem dL_writes_88 : decode cL_writes 88 = .ok (.invokestatic 50, 3) := by decide +kernel
theorem dL_writes_91 : decode cL_writes 91 = .ok (.iadd, 1) := by decide +kernel
theorem dL_writes_92 : decode cL_writes 92 = .ok (.invokestatic 53, 3) := by decide +kernel
theorem dL_writes_95 : decode cL_writes 95 = .ok (.iadd, 1) := by decide +kernel
theorem dL_writes_96 : decode cL_writes 96 = .ok (.iadd, 1) := by decide +kernel
theorem dL_writes_97 : decode cL_writes 97 = .ok (.istore 4, 2) := by decide +kernel
theorem dL_writes_99 : decode cL_writes 99 = .ok (.iload 4, 2) := by decide +kernel
theorem dL_writes_101 : decode cL_writes 101 = .ok (.iload 7, 2) := by decide +kernel
theorem dL_writes_103 : decode cL_writes 103 = .ok (.iconst 2, 1) := by decide +kernel
theorem dL_writes_104 : decode cL_writes 104 = .ok (.ishr, 1) := by decide +kernel
theorem dL_writes_105 : decode cL_writes 105 = .ok (.iconst 3, 1) := by decide +kernel
theorem dL_writes_106 : decode cL_writes 106 = .ok (.invokestatic 50, 3) := by decide +kernel
theorem dL_writes_109 : decode cL_writes 109 = .ok (.ifCond .ne 28, 3) := by decide +kernel
theorem dL_writes_112 : decode cL_writes 112 = .ok (.aload_n 0, 1) := by decide +kernel
theorem dL_writes_113 : decode cL_writes 113 = .ok (.bipush 115, 2) := by decide +kernel
theorem dL_writes_115 : decode cL_writes 115 = .ok (.invokestatic 53, 3) := by decide +kernel
theorem dL_writes_118 : decode cL_writes 118 = .ok (.aload_n 0, 1) := by decide +kernel
theorem dL_writes_119 : decode cL_writes 119 = .ok (.bipush 48, 2) := by decide +kernel
theorem dL_writes_121 : decode cL_writes 121 = .ok (.iload 7, 2) := by decide +kernel
theorem dL_writes_123 : decode cL_writes 123 = .ok (.iconst 3, 1) := by decide +kernel
theorem dL_writes_124 : decode cL_writes 124 = .ok (.ishr, 1) := by decide +kernel
theorem dL_writes_125 : decode cL_writes 125 = .ok (.iconst 3, 1) := by decide +kernel
theorem dL_writes_126 : decode cL_writes 126 = .ok (.invokestatic 50, 3) := by decide +kernel
theorem dL_writes_129 : decode cL_writes 129 = .ok (.iadd, 1) := by decide +kernel
theorem dL_writes_130 : decode cL_writes 130 = .ok (.invokestatic 53, 3) := by decide +kernel
theorem dL_writes_133 : decode cL_writes 133 = .ok (.iadd, 1) := by decide +kernel
theorem dL_writes_134 : decode cL_writes 134 = .ok (.goto 4, 3) := by decide +kernel
theorem dL_writes_137 : decode cL_writes 137 = .ok (.iconst 0, 1) := by decide +kernel
theorem dL_writes_138 : decode cL_writes 138 = .ok (.iadd, 1) := by decide +kernel
theorem dL_writes_139 : decode cL_writes 139 = .ok (.istore 4, 2) := by decide +kernel
theorem dL_writes_141 : decode cL_writes 141 = .ok (.iload 4, 2) := by decide +kernel
theorem dL_writes_143 : decode cL_writes 143 = .ok (.iload 7, 2) := by decide +kernel
theorem dL_writes_145 : decode cL_writes 145 = .ok (.iconst 3, 1) := by decide +kernel
theorem dL_writes_146 : decode cL_writes 146 = .ok (.ishr, 1) := by decide +kernel
theorem dL_writes_147 : decode cL_writes 147 = .ok (.iconst 2, 1) := by decide +kernel
theorem dL_writes_148 : decode cL_writes 148 = .ok (.invokestatic 50, 3) := by decide +kernel
theorem dL_writes_151 : decode cL_writes 151 = .ok (.ifCond .ne 44, 3) := by decide +kernel
theorem dL_writes_154 : decode cL_writes 154 = .ok (.aload_n 0, 1) := by decide +kernel
theorem dL_writes_155 : decode cL_writes 155 = .ok (.bipush 121, 2) := by decide +kernel
theorem dL_writes_157 : decode cL_writes 157 = .ok (.invokestatic 53, 3) := by decide +kernel
theorem dL_writes_160 : decode cL_writes 160 = .ok (.aload_n 0, 1) := by decide +kernel
theorem dL_writes_161 : decode cL_writes 161 = .ok (.bipush 49, 2) := by decide +kernel
theorem dL_writes_163 : decode cL_writes 163 = .ok (.iload 7, 2) := by decide +kernel
theorem dL_writes_165 : decode cL_writes 165 = .ok (.iconst 2, 1) := by decide +kernel
theorem dL_writes_166 : decode cL_writes 166 = .ok (.ishr, 1) := by decide +kernel
theorem dL_writes_167 : decode cL_writes 167 = .ok (.bipush 9, 2) := by decide +kernel
theorem dL_writes_169 : decode cL_writes 169 = .ok (.invokestatic 50, 3) := by decide +kernel
theorem dL_writes_172 : decode cL_writes 172 = .ok (.iadd, 1) := by decide +kernel
theorem dL_writes_173 : decode cL_writes 173 = .ok (.invokestatic 53, 3) := by decide +kernel
theorem dL_writes_176 : decode cL_writes 176 = .ok (.iadd, 1) := by decide +kernel
theorem dL_writes_177 : decode cL_writes 177 = .ok (.aload_n 0, 1) := by decide +kernel
theorem dL_writes_178 : decode cL_writes 178 = .ok (.bipush 48, 2) := by decide +kernel
theorem dL_writes_180 : decode cL_writes 180 = .ok (.iload 7, 2) := by decide +kernel
theorem dL_writes_182 : decode cL_writes 182 = .ok (.bipush 10, 2) := by decide +kernel
theorem dL_writes_184 : decode cL_writes 184 = .ok (.invokestatic 50, 3) := by decide +kernel
theorem dL_writes_187 : decode cL_writes 187 = .ok (.iadd, 1) := by decide +kernel
theorem dL_writes_188 : decode cL_writes 188 = .ok (.invokestatic 53, 3) := by decide +kernel
theorem dL_writes_191 : decode cL_writes 191 = .ok (.iadd, 1) := by decide +kernel
theorem dL_writes_192 : decode cL_writes 192 = .ok (.goto 4, 3) := by decide +kernel
theorem dL_writes_195 : decode cL_writes 195 = .ok (.iconst 0, 1) := by decide +kernel
theorem dL_writes_196 : decode cL_writes 196 = .ok (.iadd, 1) := by decide +kernel
theorem dL_writes_197 : decode cL_writes 197 = .ok (.istore 4, 2) := by decide +kernel
theorem dL_writes_199 : decode cL_writes 199 = .ok (.iload 4, 2) := by decide +kernel
theorem dL_writes_201 : decode cL_writes 201 = .ok (.iload 7, 2) := by decide +kernel
theorem dL_writes_203 : decode cL_writes 203 = .ok (.iconst 4, 1) := by decide +kernel
theorem dL_writes_204 : decode cL_writes 204 = .ok (.ishr, 1) := by decide +kernel
theorem dL_writes_205 : decode cL_writes 205 = .ok (.iconst 2, 1) := by decide +kernel
theorem dL_writes_206 : decode cL_writes 206 = .ok (.invokestatic 50, 3) := by decide +kernel
theorem dL_writes_209 : decode cL_writes 209 = .ok (.ifCond .ne 12, 3) := by decide +kernel
theorem dL_writes_212 : decode cL_writes 212 = .ok (.aload_n 0, 1) := by decide +kernel
theorem dL_writes_213 : decode cL_writes 213 = .ok (.bipush 97, 2) := by decide +kernel
theorem dL_writes_215 : decode cL_writes 215 = .ok (.invokestatic 53, 3) := by decide +kernel
theorem dL_writes_218 : decode cL_writes 218 = .ok (.goto 4, 3) := by decide +kernel
theorem dL_writes_221 : decode cL_writes 221 = .ok (.iconst 0, 1) := by decide +kernel
theorem dL_writes_222 : decode cL_writes 222 = .ok (.aload_n 0, 1) := by decide +kernel
theorem dL_writes_223 : decode cL_writes 223 = .ok (.bipush 59, 2) := by decide +kernel
theorem dL_writes_225 : decode cL_writes 225 = .ok (.invokestatic 53, 3) := by decide +kernel
theorem dL_writes_228 : decode cL_writes 228 = .ok (.iadd, 1) := by decide +kernel
theorem dL_writes_229 : decode cL_writes 229 = .ok (.iadd, 1) := by decide +kernel
theorem dL_writes_230 : decode cL_writes 230 = .ok (.istore 4, 2) := by decide +kernel
theorem dL_writes_232 : decode cL_writes 232 = .ok (.iinc 6 1, 3) := by decide +kernel
theorem dL_writes_235 : decode cL_writes 235 = .ok (.goto (-209), 3) := by decide +kernel
theorem dL_writes_238 : decode cL_writes 238 = .ok (.aload_n 0, 1) := by decide +kernel
theorem dL_writes_239 : decode cL_writes 239 = .ok (.iload_n 1, 1) := by decide +kernel
theorem dL_writes_240 : decode cL_writes 240 = .ok (.invokevirtual 57, 3) := by decide +kernel
theorem dL_writes_243 : decode cL_writes 243 = .ok (.istore 6, 2) := by decide +kernel
theorem dL_writes_245 : decode cL_writes 245 = .ok (.aload_n 0, 1) := by decide +kernel
theorem dL_writes_246 : decode cL_writes 246 = .ok (.iconst 0, 1) := by decide +kernel
theorem dL_writes_247 : decode cL_writes 247 = .ok (.invokevirtual 60, 3) := by decide +kernel
theorem dL_writes_250 : decode cL_writes 250 = .ok (.bipush (-4), 2) := by decide +kernel
theorem dL_writes_252 : decode cL_writes 252 = .ok (.if_icmp .ne 95, 3) := by decide +kernel
theorem dL_writes_255 : decode cL_writes 255 = .ok (.aload_n 0, 1) := by decide +kernel
theorem dL_writes_256 : decode cL_writes 256 = .ok (.bipush 15, 2) := by decide +kernel
theorem dL_writes_258 : decode cL_writes 258 = .ok (.invokevirtual 9, 3) := by decide +kernel
theorem dL_writes_261 : decode cL_writes 261 = .ok (.iload 4, 2) := by decide +kernel
theorem dL_writes_263 : decode cL_writes 263 = .ok (.if_icmp .ne 84, 3) := by decide +kernel
theorem dL_writes_266 : decode cL_writes 266 = .ok (.iload 6, 2) := by decide +kernel
theorem dL_writes_268 : decode cL_writes 268 = .ok (.iload_n 3, 1) := by decide +kernel
theorem dL_writes_269 : decode cL_writes 269 = .ok (.bipush 9, 2) := by decide +kernel
theorem dL_writes_271 : decode cL_writes 271 = .ok (.if_icmp .ne 8, 3) := by decide +kernel
theorem dL_writes_274 : decode cL_writes 274 = .ok (.bipush (-3), 2) := by decide +kernel
theorem dL_writes_276 : decode cL_writes 276 = .ok (.goto 6, 3) := by decide +kernel
theorem dL_writes_279 : decode cL_writes 279 = .ok (.iload_n 3, 1) := by decide +kernel
theorem dL_writes_280 : decode cL_writes 280 = .ok (.iconst 1, 1) := by decide +kernel
theorem dL_writes_281 : decode cL_writes 281 = .ok (.iadd, 1) := by decide +kernel
theorem dL_writes_282 : decode cL_writes 282 = .ok (.if_icmp .ne 65, 3) := by decide +kernel
theorem dL_writes_285 : decode cL_writes 285 = .ok (.aload_n 0, 1) := by decide +kernel
theorem dL_writes_286 : decode cL_writes 286 = .ok (.iload_n 1, 1) := by decide +kernel
theorem dL_writes_287 : decode cL_writes 287 = .ok (.invokevirtual 24, 3) := by decide +kernel
theorem dL_writes_290 : decode cL_writes 290 = .ok (.iload_n 3, 1) := by decide +kernel
theorem dL_writes_291 : decode cL_writes 291 = .ok (.bipush 9, 2) := by decide +kernel
theorem dL_writes_293 : decode cL_writes 293 = .ok (.if_icmp .ne 8, 3) := by decide +kernel
theorem dL_writes_296 : decode cL_writes 296 = .ok (.bipush 9, 2) := by decide +kernel
theorem dL_writes_298 : decode cL_writes 298 = .ok (.goto 6, 3) := by decide +kernel
theorem dL_writes_301 : decode cL_writes 301 = .ok (.iload_n 3, 1) := by decide +kernel
theorem dL_writes_302 : decode cL_writes 302 = .ok (.iconst 1, 1) := by decide +kernel
theorem dL_writes_303 : decode cL_writes 303 = .ok (.iadd, 1) := by decide +kernel
theorem dL_writes_304 : decode cL_writes 304 = .ok (.if_icmp .ne 43, 3) := by decide +kernel
theorem dL_writes_307 : decode cL_writes 307 = .ok (.iload_n 3, 1) := by decide +kernel
theorem dL_writes_308 : decode cL_writes 308 = .ok (.bipush 9, 2) := by decide +kernel
theorem dL_writes_310 : decode cL_writes 310 = .ok (.if_icmp .eq 33, 3) := by decide +kernel
theorem dL_writes_313 : decode cL_writes 313 = .ok (.aload_n 0, 1) := by decide +kernel
theorem dL_writes_314 : decode cL_writes 314 = .ok (.iload_n 1, 1) := by decide +kernel
theorem dL_writes_315 : decode cL_writes 315 = .ok (.iload 6, 2) := by decide +kernel
theorem dL_writes_317 : decode cL_writes 317 = .ok (.iload 5, 2) := by decide +kernel
theorem dL_writes_319 : decode cL_writes 319 = .ok (.iconst 1, 1) := by decide +kernel
theorem dL_writes_320 : decode cL_writes 320 = .ok (.isub, 1) := by decide +kernel
theorem dL_writes_321 : decode cL_writes 321 = .ok (.iconst 1, 1) := by decide +kernel
theorem dL_writes_322 : decode cL_writes 322 = .ok (.invokevirtual 30, 3) := by decide +kernel
theorem dL_writes_325 : decode cL_writes 325 = .ok (.ifCond .le 22, 3) := by decide +kernel
theorem dL_writes_328 : decode cL_writes 328 = .ok (.aload_n 0, 1) := by decide +kernel
theorem dL_writes_329 : decode cL_writes 329 = .ok (.iload_n 1, 1) := by decide +kernel
theorem dL_writes_330 : decode cL_writes 330 = .ok (.iload 6, 2) := by decide +kernel
theorem dL_writes_332 : decode cL_writes 332 = .ok (.iload 5, 2) := by decide +kernel
theorem dL_writes_334 : decode cL_writes 334 = .ok (.iconst 0, 1) := by decide +kernel
theorem dL_writes_335 : decode cL_writes 335 = .ok (.invokevirtual 30, 3) := by decide +kernel
theorem dL_writes_338 : decode cL_writes 338 = .ok (.bipush (-4), 2) := by decide +kernel
theorem dL_writes_340 : decode cL_writes 340 = .ok (.if_icmp .ne 7, 3) := by decide +kernel
theorem dL_writes_343 : decode cL_writes 343 = .ok (.iconst 1, 1) := by decide +kernel
theorem dL_writes_344 : decode cL_writes 344 = .ok (.goto 4, 3) := by decide +kernel
theorem dL_writes_347 : decode cL_writes 347 = .ok (.iconst 0, 1) := by decide +kernel
theorem dL_writes_348 : decode cL_writes 348 = .ok (.ireturn, 1) := by decide +kernel
theorem dL_commands_0 : decode cL_commands 0 = .ok (.aload_n 0, 1) := by decide +kernel
theorem dL_commands_1 : decode cL_commands 1 = .ok (.iload_n 1, 1) := by decide +kernel
theorem dL_commands_2 : decode cL_commands 2 = .ok (.iconst 5, 1) := by decide +kernel
theorem dL_commands_3 : decode cL_commands 3 = .ok (.invokevirtual 21, 3) := by decide +kernel
theorem dL_commands_6 : decode cL_commands 6 = .ok (.istore_n 3, 1) := by decide +kernel
theorem dL_commands_7 : decode cL_commands 7 = .ok (.aload_n 0, 1) := by decide +kernel
theorem dL_commands_8 : decode cL_commands 8 = .ok (.iload_n 1, 1) := by decide +kernel
theorem dL_commands_9 : decode cL_commands 9 = .ok (.bipush 9, 2) := by decide +kernel
theorem dL_commands_11 : decode cL_commands 11 = .ok (.invokevirtual 21, 3) := by decide +kernel
theorem dL_commands_14 : decode cL_commands 14 = .ok (.istore 4, 2) := by decide +kernel
theorem dL_commands_16 : decode cL_commands 16 = .ok (.aload_n 0, 1) := by decide +kernel
theorem dL_commands_17 : decode cL_commands 17 = .ok (.iload_n 1, 1) := by decide +kernel
theorem dL_commands_18 : decode cL_commands 18 = .ok (.bipush 8, 2) := by decide +kernel
theorem dL_commands_20 : decode cL_commands 20 = .ok (.invokevirtual 21, 3) := by decide +kernel
theorem dL_commands_23 : decode cL_commands 23 = .ok (.istore 5, 2) := by decide +kernel
theorem dL_commands_25 : decode cL_commands 25 = .ok (.iload_n 2, 1) := by decide +kernel
theorem dL_commands_26 : decode cL_commands 26 = .ok (.bipush 9, 2) := by decide +kernel
theorem dL_commands_28 : decode cL_commands 28 = .ok (.invokestatic 50, 3) := by decide +kernel
theorem dL_commands_31 : decode cL_commands 31 = .ok (.istore 6, 2) := by decide +kernel
theorem dL_commands_33 : decode cL_commands 33 = .ok (.iload 6, 2) := by decide +kernel
theorem dL_commands_35 : decode cL_commands 35 = .ok (.iconst 3, 1) := by decide +kernel
theorem dL_commands_36 : decode cL_commands 36 = .ok (.if_icmp .ge 71, 3) := by decide +kernel
theorem dL_commands_39 : decode cL_commands 39 = .ok (.aload_n 0, 1) := by decide +kernel
theorem dL_commands_40 : decode cL_commands 40 = .ok (.iconst 5, 1) := by decide +kernel
theorem dL_commands_41 : decode cL_commands 41 = .ok (.invokevirtual 9, 3) := by decide +kernel
theorem dL_commands_44 : decode cL_commands 44 = .ok (.istore 7, 2) := by decide +kernel
theorem dL_commands_46 : decode cL_commands 46 = .ok (.aload_n 0, 1) := by decide +kernel
theorem dL_commands_47 : decode cL_commands 47 = .ok (.iload_n 1, 1) := by decide +kernel
theorem dL_commands_48 : decode cL_commands 48 = .ok (.invokevirtual 63, 3) := by decide +kernel
theorem dL_commands_51 : decode cL_commands 51 = .ok (.istore 8, 2) := by decide +kernel
theorem dL_commands_53 : decode cL_commands 53 = .ok (.iload_n 3, 1) := by decide +kernel
theorem dL_commands_54 : decode cL_commands 54 = .ok (.ifCond .ne 30, 3) := by decide +kernel
theorem dL_commands_57 : decode cL_commands 57 = .ok (.iload 8, 2) := by decide +kernel
theorem dL_commands_59 : decode cL_commands 59 = .ok (.iload 7, 2) := by decide +kernel
theorem dL_commands_61 : decode cL_commands 61 = .ok (.iconst 1, 1) := by decide +kernel
theorem dL_commands_62 : decode cL_commands 62 = .ok (.iadd, 1) := by decide +kernel
theorem dL_commands_63 : decode cL_commands 63 = .ok (.if_icmp .ne 17, 3) := by decide +kernel
theorem dL_commands_66 : decode cL_commands 66 = .ok (.aload_n 0, 1) := by decide +kernel
theorem dL_commands_67 : decode cL_commands 67 = .ok (.iload_n 1, 1) := by decide +kernel
theorem dL_commands_68 : decode cL_commands 68 = .ok (.iconst 5, 1) := by decide +kernel
theorem dL_commands_69 : decode cL_commands 69 = .ok (.invokevirtual 21, 3) := by decide +kernel
theorem dL_commands_72 : decode cL_commands 72 = .ok (.iconst 1, 1) := by decide +kernel
theorem dL_commands_73 : decode cL_commands 73 = .ok (.if_icmp .ne 7, 3) := by decide +kernel
theorem dL_commands_76 : decode cL_commands 76 = .ok (.iconst 1, 1) := by decide +kernel
theorem dL_commands_77 : decode cL_commands 77 = .ok (.goto 29, 3) := by decide +kernel
theorem dL_commands_80 : decode cL_commands 80 = .ok (.iconst 0, 1) := by decide +kernel
theorem dL_commands_81 : decode cL_commands 81 = .ok (.goto 25, 3) := by decide +kernel
theorem dL_commands_84 : decode cL_commands 84 = .ok (.iload 8, 2) := by decide +kernel
theorem dL_commands_86 : decode cL_commands 86 = .ok (.bipush (-2), 2) := by decide +kernel
theorem dL_commands_88 : decode cL_commands 88 = .ok (.if_icmp .ne 17, 3) := by decide +kernel
theorem dL_commands_91 : decode cL_commands 91 = .ok (.aload_n 0, 1) := by decide +kernel
theorem dL_commands_92 : decode cL_commands 92 = .ok (.iload_n 1, 1) := by decide +kernel
theorem dL_commands_93 : decode cL_commands 93 = .ok (.iconst 5, 1) := by decide +kernel
theorem dL_commands_94 : decode cL_commands 94 = .ok (.invokevirtual 21, 3) := by decide +kernel
theorem dL_commands_97 : decode cL_commands 97 = .ok (.iload_n 3, 1) := by decide +kernel
theorem dL_commands_98 : decode cL_commands 98 = .ok (.if_icmp .ne 7, 3) := by decide +kernel
theorem dL_commands_101 : decode cL_commands 101 = .ok (.iconst 1, 1) := by decide +kernel
theorem dL_commands_102 : decode cL_commands 102 = .ok (.goto 4, 3) := by decide +kernel
theorem dL_commands_105 : decode cL_commands 105 = .ok (.iconst 0, 1) := by decide +kernel
theorem dL_commands_106 : decode cL_commands 106 = .ok (.ireturn, 1) := by decide +kernel
theorem dL_commands_107 : decode cL_commands 107 = .ok (.iload 6, 2) := by decide +kernel
theorem dL_commands_109 : decode cL_commands 109 = .ok (.iconst 3, 1) := by decide +kernel
theorem dL_commands_110 : decode cL_commands 110 = .ok (.if_icmp .ne 127, 3) := by decide +kernel
theorem dL_commands_113 : decode cL_commands 113 = .ok (.aload_n 0, 1) := by decide +kernel
theorem dL_commands_114 : decode cL_commands 114 = .ok (.bipush 6, 2) := by decide +kernel
theorem dL_commands_116 : decode cL_commands 116 = .ok (.invokevirtual 9, 3) := by decide +kernel
theorem dL_commands_119 : decode cL_commands 119 = .ok (.istore 7, 2) := by decide +kernel
theorem dL_commands_121 : decode cL_commands 121 = .ok (.aload_n 0, 1) := by decide +kernel
theorem dL_commands_122 : decode cL_commands 122 = .ok (.iload_n 1, 1) := by decide +kernel
theorem dL_commands_123 : decode cL_commands 123 = .ok (.invokevirtual 66, 3) := by decide +kernel
theorem dL_commands_126 : decode cL_commands 126 = .ok (.istore 8, 2) := by decide +kernel
theorem dL_commands_128 : decode cL_commands 128 = .ok (.iload_n 3, 1) := by decide +kernel
theorem dL_commands_129 : decode cL_commands 129 = .ok (.iconst 1, 1) := by decide +kernel
theorem dL_commands_130 : decode cL_commands 130 = .ok (.if_icmp .eq 8, 3) := by decide +kernel
theorem dL_commands_133 : decode cL_commands 133 = .ok (.iload_n 3, 1) := by decide +kernel
theorem dL_commands_134 : decode cL_commands 134 = .ok (.iconst 3, 1) := by decide +kernel
theorem dL_commands_135 : decode cL_commands 135 = .ok (.if_icmp .ne 89, 3) := by decide +kernel
theorem dL_commands_138 : decode cL_commands 138 = .ok (.iload 8, 2) := by decide +kernel
theorem dL_commands_140 : decode cL_commands 140 = .ok (.iload 7, 2) := by decide +kernel
theorem dL_commands_142 : decode cL_commands 142 = .ok (.iconst 1, 1) := by decide +kernel
theorem dL_commands_143 : decode cL_commands 143 = .ok (.iadd, 1) := by decide +kernel
theorem dL_commands_144 : decode cL_commands 144 = .ok (.if_icmp .ne 76, 3) := by decide +kernel
theorem dL_commands_147 : decode cL_commands 147 = .ok (.aload_n 0, 1) := by decide +kernel
theorem dL_commands_148 : decode cL_commands 148 = .ok (.iload_n 1, 1) := by decide +kernel
theorem dL_commands_149 : decode cL_commands 149 = .ok (.iconst 5, 1) := by decide +kernel
theorem dL_commands_150 : decode cL_commands 150 = .ok (.invokevirtual 21, 3) := by decide +kernel
theorem dL_commands_153 : decode cL_commands 153 = .ok (.iconst 2, 1) := by decide +kernel
theorem dL_commands_154 : decode cL_commands 154 = .ok (.if_icmp .ne 66, 3) := by decide +kernel
theorem dL_commands_157 : decode cL_commands 157 = .ok (.aload_n 0, 1) := by decide +kernel
theorem dL_commands_158 : decode cL_commands 158 = .ok (.iload_n 1, 1) := by decide +kernel
theorem dL_commands_159 : decode cL_commands 159 = .ok (.bipush 8, 2) := by decide +kernel
theorem dL_commands_161 : decode cL_commands 161 = .ok (.invokevirtual 21, 3) := by decide +kernel
theorem dL_commands_164 : decode cL_commands 164 = .ok (.iload 5, 2) := by decide +kernel
theorem dL_commands_166 : decode cL_commands 166 = .ok (.if_icmp .ne 54, 3) := by decide +kernel
theorem dL_commands_169 : decode cL_commands 169 = .ok (.aload_n 0, 1) := by decide +kernel
theorem dL_commands_170 : decode cL_commands 170 = .ok (.iconst 0, 1) := by decide +kernel
theorem dL_commands_171 : decode cL_commands 171 = .ok (.iconst 2, 1) := by decide +kernel
theorem dL_commands_172 : decode cL_commands 172 = .ok (.invokevirtual 40, 3) := by decide +kernel
theorem dL_commands_175 : decode cL_commands 175 = .ok (.iconst 2, 1) := by decide +kernel
theorem dL_commands_176 : decode cL_commands 176 = .ok (.if_icmp .ne 44, 3) := by decide +kernel
theorem dL_commands_179 : decode cL_commands 179 = .ok (.aload_n 0, 1) := by decide +kernel
theorem dL_commands_180 : decode cL_commands 180 = .ok (.iconst 0, 1) := by decide +kernel
theorem dL_commands_181 : decode cL_commands 181 = .ok (.iconst 1, 1) := by decide +kernel
theorem dL_commands_182 : decode cL_commands 182 = .ok (.invokevirtual 40, 3) := by decide +kernel
theorem dL_commands_185 : decode cL_commands 185 = .ok (.iload_n 1, 1) := by decide +kernel
theorem dL_commands_186 : decode cL_commands 186 = .ok (.if_icmp .ne 34, 3) := by decide +kernel
theorem dL_commands_189 : decode cL_commands 189 = .ok (.iload_n 2, 1) := by decide +kernel
theorem dL_commands_190 : decode cL_commands 190 = .ok (.iconst 4, 1) := by decide +kernel
theorem dL_commands_191 : decode cL_commands 191 = .ok (.ishr, 1) := by decide +kernel
theorem dL_commands_192 : decode cL_commands 192 = .ok (.iconst 2, 1) := by decide +kernel
theorem dL_commands_193 : decode cL_commands 193 = .ok (.invokestatic 50, 3) := by decide +kernel
theorem dL_commands_196 : decode cL_commands 196 = .ok (.ifCond .eq 20, 3) := by decide +kernel
theorem dL_commands_199 : decode cL_commands 199 = .ok (.aload_n 0, 1) := by decide +kernel
theorem dL_commands_200 : decode cL_commands 200 = .ok (.invokevirtual 69, 3) := by decide +kernel
theorem dL_commands_203 : decode cL_commands 203 = .ok (.ifCond .lt 17, 3) := by decide +kernel
theorem dL_commands_206 : decode cL_commands 206 = .ok (.aload_n 0, 1) := by decide +kernel
theorem dL_commands_207 : decode cL_commands 207 = .ok (.iload_n 1, 1) := by decide +kernel
theorem dL_commands_208 : decode cL_commands 208 = .ok (.iconst 5, 1) := by decide +kernel
theorem dL_commands_209 : decode cL_commands 209 = .ok (.invokevirtual 21, 3) := by decide +kernel
theorem dL_commands_212 : decode cL_commands 212 = .ok (.iload_n 3, 1) := by decide +kernel
theorem dL_commands_213 : decode cL_commands 213 = .ok (.if_icmp .ne 7, 3) := by decide +kernel
theorem dL_commands_216 : decode cL_commands 216 = .ok (.iconst 1, 1) := by decide +kernel
theorem dL_commands_217 : decode cL_commands 217 = .ok (.goto 19, 3) := by decide +kernel
theorem dL_commands_220 : decode cL_commands 220 = .ok (.iconst 0, 1) := by decide +kernel
theorem dL_commands_221 : decode cL_commands 221 = .ok (.goto 15, 3) := by decide +kernel
theorem dL_commands_224 : decode cL_commands 224 = .ok (.iload 8, 2) := by decide +kernel
theorem dL_commands_226 : decode cL_commands 226 = .ok (.bipush (-2), 2) := by decide +kernel
theorem dL_commands_228 : decode cL_commands 228 = .ok (.if_icmp .ne 7, 3) := by decide +kernel
theorem dL_commands_231 : decode cL_commands 231 = .ok (.iconst 1, 1) := by decide +kernel
theorem dL_commands_232 : decode cL_commands 232 = .ok (.goto 4, 3) := by decide +kernel
theorem dL_commands_235 : decode cL_commands 235 = .ok (.iconst 0, 1) := by decide +kernel
theorem dL_commands_236 : decode cL_commands 236 = .ok (.ireturn, 1) := by decide +kernel
theorem dL_commands_237 : decode cL_commands 237 = .ok (.iload 6, 2) := by decide +kernel
theorem dL_commands_239 : decode cL_commands 239 = .ok (.bipush 6, 2) := by decide +kernel
theorem dL_commands_241 : decode cL_commands 241 = .ok (.if_icmp .ge 123, 3) := by decide +kernel
theorem dL_commands_244 : decode cL_commands 244 = .ok (.aload_n 0, 1) := by decide +kernel
theorem dL_commands_245 : decode cL_commands 245 = .ok (.iload_n 1, 1) := by decide +kernel
theorem dL_commands_246 : decode cL_commands 246 = .ok (.bipush 7, 2) := by decide +kernel
theorem dL_commands_248 : decode cL_commands 248 = .ok (.invokevirtual 21, 3) := by decide +kernel
theorem dL_commands_251 : decode cL_commands 251 = .ok (.istore 7, 2) := by decide +kernel
theorem dL_commands_253 : decode cL_commands 253 = .ok (.aload_n 0, 1) := by decide +kernel
theorem dL_commands_254 : decode cL_commands 254 = .ok (.iload_n 1, 1) := by decide +kernel
theorem dL_commands_255 : decode cL_commands 255 = .ok (.invokevirtual 72, 3) := by decide +kernel
theorem dL_commands_258 : decode cL_commands 258 = .ok (.istore 8, 2) := by decide +kernel
theorem dL_commands_260 : decode cL_commands 260 = .ok (.iload_n 3, 1) := by decide +kernel
theorem dL_commands_261 : decode cL_commands 261 = .ok (.iconst 2, 1) := by decide +kernel
theorem dL_commands_262 : decode cL_commands 262 = .ok (.if_icmp .ne 24, 3) := by decide +kernel
theorem dL_commands_265 : decode cL_commands 265 = .ok (.iload 5, 2) := by decide +kernel
theorem dL_commands_267 : decode cL_commands 267 = .ok (.bipush (-4), 2) := by decide +kernel
theorem dL_commands_269 : decode cL_commands 269 = .ok (.if_icmp .eq 13, 3) := by decide +kernel
theorem dL_commands_272 : decode cL_commands 272 = .ok (.aload_n 0, 1) := by decide +kernel
theorem dL_commands_273 : decode cL_commands 273 = .ok (.iload 5, 2) := by decide +kernel
theorem dL_commands_275 : decode cL_commands 275 = .ok (.iconst 3, 1) := by decide +kernel
theorem dL_commands_276 : decode cL_commands 276 = .ok (.invokevirtual 15, 3) := by decide +kernel
theorem dL_commands_279 : decode cL_commands 279 = .ok (.ifCond .ne 7, 3) := by decide +kernel
theorem dL_commands_282 : decode cL_commands 282 = .ok (.iconst 1, 1) := by decide +kernel
theorem dL_commands_283 : decode cL_commands 283 = .ok (.goto 4, 3) := by decide +kernel
theorem dL_commands_286 : decode cL_commands 286 = .ok (.iconst 0, 1) := by decide +kernel
theorem dL_commands_287 : decode cL_commands 287 = .ok (.istore 9, 2) := by decide +kernel
theorem dL_commands_289 : decode cL_commands 289 = .ok (.iload 9, 2) := by decide +kernel
theorem dL_commands_291 : decode cL_commands 291 = .ok (.ifCond .eq 50, 3) := by decide +kernel
theorem dL_commands_294 : decode cL_commands 294 = .ok (.iload 8, 2) := by decide +kernel
theorem dL_commands_296 : decode cL_commands 296 = .ok (.iload 7, 2) := by decide +kernel
theorem dL_commands_298 : decode cL_commands 298 = .ok (.if_icmp .lt 39, 3) := by decide +kernel
theorem dL_commands_301 : decode cL_commands 301 = .ok (.aload_n 0, 1) := by decide +kernel
theorem dL_commands_302 : decode cL_commands 302 = .ok (.iload_n 1, 1) := by decide +kernel
theorem dL_commands_303 : decode cL_commands 303 = .ok (.iconst 5, 1) := by decide +kernel
theorem dL_commands_304 : decode cL_commands 304 = .ok (.invokevirtual 21, 3) := by decide +kernel
theorem dL_commands_307 : decode cL_commands 307 = .ok (.iconst 1, 1) := by decide +kernel
theorem dL_commands_308 : decode cL_commands 308 = .ok (.if_icmp .ne 29, 3) := by decide +kernel
theorem dL_commands_311 : decode cL_commands 311 = .ok (.aload_n 0, 1) := by decide +kernel
theorem dL_commands_312 : decode cL_commands 312 = .ok (.iload_n 1, 1) := by decide +kernel
theorem dL_commands_313 : decode cL_commands 313 = .ok (.bipush 7, 2) := by decide +kernel
theorem dL_commands_315 : decode cL_commands 315 = .ok (.invokevirtual 21, 3) := by decide +kernel
theorem dL_commands_318 : decode cL_commands 318 = .ok (.iload 8, 2) := by decide +kernel
theorem dL_commands_320 : decode cL_commands 320 = .ok (.if_icmp .ne 17, 3) := by decide +kernel
theorem dL_commands_323 : decode cL_commands 323 = .ok (.aload_n 0, 1) := by decide +kernel
theorem dL_commands_324 : decode cL_commands 324 = .ok (.iconst 0, 1) := by decide +kernel
theorem dL_commands_325 : decode cL_commands 325 = .ok (.iconst 2, 1) := by decide +kernel
theorem dL_commands_326 : decode cL_commands 326 = .ok (.invokevirtual 40, 3) := by decide +kernel
theorem dL_commands_329 : decode cL_commands 329 = .ok (.iconst 3, 1) := by decide +kernel
theorem dL_commands_330 : decode cL_commands 330 = .ok (.if_icmp .ne 7, 3) := by decide +kernel
theorem dL_commands_333 : decode cL_commands 333 = .ok (.iconst 1, 1) := by decide +kernel
theorem dL_commands_334 : decode cL_commands 334 = .ok (.goto 29, 3) := by decide +kernel
theorem dL_commands_337 : decode cL_commands 337 = .ok (.iconst 0, 1) := by decide +kernel
theorem dL_commands_338 : decode cL_commands 338 = .ok (.goto 25, 3) := by decide +kernel
theorem dL_commands_341 : decode cL_commands 341 = .ok (.iload 8, 2) := by decide +kernel
theorem dL_commands_343 : decode cL_commands 343 = .ok (.bipush (-2), 2) := by decide +kernel
theorem dL_commands_345 : decode cL_commands 345 = .ok (.if_icmp .ne 17, 3) := by decide +kernel
theorem dL_commands_348 : decode cL_commands 348 = .ok (.aload_n 0, 1) := by decide +kernel
theorem dL_commands_349 : decode cL_commands 349 = .ok (.iload_n 1, 1) := by decide +kernel
theorem dL_commands_350 : decode cL_commands 350 = .ok (.iconst 5, 1) := by decide +kernel
theorem dL_commands_351 : decode cL_commands 351 = .ok (.invokevirtual 21, 3) := by decide +kernel
theorem dL_commands_354 : decode cL_commands 354 = .ok (.iload_n 3, 1) := by decide +kernel
theorem dL_commands_355 : decode cL_commands 355 = .ok (.if_icmp .ne 7, 3) := by decide +kernel
theorem dL_commands_358 : decode cL_commands 358 = .ok (.iconst 1, 1) := by decide +kernel
theorem dL_commands_359 : decode cL_commands 359 = .ok (.goto 4, 3) := by decide +kernel
theorem dL_commands_362 : decode cL_commands 362 = .ok (.iconst 0, 1) := by decide +kernel
theorem dL_commands_363 : decode cL_commands 363 = .ok (.ireturn, 1) := by decide +kernel
theorem dL_commands_364 : decode cL_commands 364 = .ok (.iload 6, 2) := by decide +kernel
theorem dL_commands_366 : decode cL_commands 366 = .ok (.bipush 6, 2) := by decide +kernel
theorem dL_commands_368 : decode cL_commands 368 = .ok (.if_icmp .ne 129, 3) := by decide +kernel
theorem dL_commands_371 : decode cL_commands 371 = .ok (.aload_n 0, 1) := by decide +kernel
theorem dL_commands_372 : decode cL_commands 372 = .ok (.iload_n 1, 1) := by decide +kernel
theorem dL_commands_373 : decode cL_commands 373 = .ok (.invokevirtual 75, 3) := by decide +kernel
theorem dL_commands_376 : decode cL_commands 376 = .ok (.istore 7, 2) := by decide +kernel
theorem dL_commands_378 : decode cL_commands 378 = .ok (.iload_n 3, 1) := by decide +kernel
theorem dL_commands_379 : decode cL_commands 379 = .ok (.iconst 1, 1) := by decide +kernel
theorem dL_commands_380 : decode cL_commands 380 = .ok (.if_icmp .eq 23, 3) := by decide +kernel
theorem dL_commands_383 : decode cL_commands 383 = .ok (.iload_n 3, 1) := by decide +kernel
theorem dL_commands_384 : decode cL_commands 384 = .ok (.iconst 2, 1) := by decide +kernel
theorem dL_commands_385 : decode cL_commands 385 = .ok (.if_icmp .eq 18, 3) := by decide +kernel
theorem dL_commands_388 : decode cL_commands 388 = .ok (.iload 7, 2) := by decide +kernel
theorem dL_commands_390 : decode cL_commands 390 = .ok (.bipush (-2), 2) := by decide +kernel
theorem dL_commands_392 : decode cL_commands 392 = .ok (.if_icmp .ne 7, 3) := by decide +kernel
theorem dL_commands_395 : decode cL_commands 395 = .ok (.iconst 1, 1) := by decide +kernel
theorem dL_commands_396 : decode cL_commands 396 = .ok (.goto 100, 3) := by decide +kernel
theorem dL_commands_399 : decode cL_commands 399 = .ok (.iconst 0, 1) := by decide +kernel
theorem dL_commands_400 : decode cL_commands 400 = .ok (.goto 96, 3) := by decide +kernel
theorem dL_commands_403 : decode cL_commands 403 = .ok (.iload 7, 2) := by decide +kernel
theorem dL_commands_405 : decode cL_commands 405 = .ok (.iload_n 3, 1) := by decide +kernel
theorem dL_commands_406 : decode cL_commands 406 = .ok (.iconst 1, 1) := by decide +kernel
theorem dL_commands_407 : decode cL_commands 407 = .ok (.if_icmp .ne 13, 3) := by decide +kernel
theorem dL_commands_410 : decode cL_commands 410 = .ok (.iload 4, 2) := by decide +kernel
theorem dL_commands_412 : decode cL_commands 412 = .ok (.iconst 1, 1) := by decide +kernel
theorem dL_commands_413 : decode cL_commands 413 = .ok (.if_icmp .ne 7, 3) := by decide +kernel
theorem dL_commands_416 : decode cL_commands 416 = .ok (.iconst 3, 1) := by decide +kernel
theorem dL_commands_417 : decode cL_commands 417 = .ok (.goto 4, 3) := by decide +kernel
theorem dL_commands_420 : decode cL_commands 420 = .ok (.iconst 4, 1) := by decide +kernel
theorem dL_commands_421 : decode cL_commands 421 = .ok (.if_icmp .ne 74, 3) := by decide +kernel
theorem dL_commands_424 : decode cL_commands 424 = .ok (.aload_n 0, 1) := by decide +kernel
theorem dL_commands_425 : decode cL_commands 425 = .ok (.iload_n 1, 1) := by decide +kernel
theorem dL_commands_426 : decode cL_commands 426 = .ok (.iconst 5, 1) := by decide +kernel
theorem dL_commands_427 : decode cL_commands 427 = .ok (.invokevirtual 21, 3) := by decide +kernel
theorem dL_commands_430 : decode cL_commands 430 = .ok (.iload 7, 2) := by decide +kernel
theorem dL_commands_432 : decode cL_commands 432 = .ok (.if_icmp .ne 63, 3) := by decide +kernel
theorem dL_commands_435 : decode cL_commands 435 = .ok (.iload 7, 2) := by decide +kernel
theorem dL_commands_437 : decode cL_commands 437 = .ok (.iconst 3, 1) := by decide +kernel
theorem dL_commands_438 : decode cL_commands 438 = .ok (.if_icmp .ne 18, 3) := by decide +kernel
theorem dL_commands_441 : decode cL_commands 441 = .ok (.aload_n 0, 1) := by decide +kernel
theorem dL_commands_442 : decode cL_commands 442 = .ok (.iload_n 1, 1) := by decide +kernel
theorem dL_commands_443 : decode cL_commands 443 = .ok (.bipush 8, 2) := by decide +kernel
theorem dL_commands_445 : decode cL_commands 445 = .ok (.invokevirtual 21, 3) := by decide +kernel
theorem dL_commands_448 : decode cL_commands 448 = .ok (.iload 5, 2) := by decide +kernel
theorem dL_commands_450 : decode cL_commands 450 = .ok (.if_icmp .ne 45, 3) := by decide +kernel
theorem dL_commands_453 : decode cL_commands 453 = .ok (.goto 38, 3) := by decide +kernel
theorem dL_commands_456 : decode cL_commands 456 = .ok (.aload_n 0, 1) := by decide +kernel
theorem dL_commands_457 : decode cL_commands 457 = .ok (.iload_n 1, 1) := by decide +kernel
theorem dL_commands_458 : decode cL_commands 458 = .ok (.bipush 8, 2) := by decide +kernel
theorem dL_commands_460 : decode cL_commands 460 = .ok (.invokevirtual 21, 3) := by decide +kernel
theorem dL_commands_463 : decode cL_commands 463 = .ok (.bipush (-4), 2) := by decide +kernel
theorem dL_commands_465 : decode cL_commands 465 = .ok (.if_icmp .ne 30, 3) := by decide +kernel
theorem dL_commands_468 : decode cL_commands 468 = .ok (.iload 5, 2) := by decide +kernel
theorem dL_commands_470 : decode cL_commands 470 = .ok (.bipush (-4), 2) := by decide +kernel
theorem dL_commands_472 : decode cL_commands 472 = .ok (.if_icmp .eq 19, 3) := by decide +kernel
theorem dL_commands_475 : decode cL_commands 475 = .ok (.aload_n 0, 1) := by decide +kernel
theorem dL_commands_476 : decode cL_commands 476 = .ok (.iload 5, 2) := by decide +kernel
theorem dL_commands_478 : decode cL_commands 478 = .ok (.iconst 4, 1) := by decide +kernel
theorem dL_commands_479 : decode cL_commands 479 = .ok (.invokevirtual 15, 3) := by decide +kernel
theorem dL_commands_482 : decode cL_commands 482 = .ok (.aload_n 0, 1) := by decide +kernel
theorem dL_commands_483 : decode cL_commands 483 = .ok (.bipush 12, 2) := by decide +kernel
theorem dL_commands_485 : decode cL_commands 485 = .ok (.invokevirtual 9, 3) := by decide +kernel
theorem dL_commands_488 : decode cL_commands 488 = .ok (.if_icmp .ne 7, 3) := by decide +kernel
theorem dL_commands_491 : decode cL_commands 491 = .ok (.iconst 1, 1) := by decide +kernel
theorem dL_commands_492 : decode cL_commands 492 = .ok (.goto 4, 3) := by decide +kernel
theorem dL_commands_495 : decode cL_commands 495 = .ok (.iconst 0, 1) := by decide +kernel
theorem dL_commands_496 : decode cL_commands 496 = .ok (.ireturn, 1) := by decide +kernel
theorem dL_commands_497 : decode cL_commands 497 = .ok (.iload 6, 2) := by decide +kernel
theorem dL_commands_499 : decode cL_commands 499 = .ok (.bipush 7, 2) := by decide +kernel
theorem dL_commands_501 : decode cL_commands 501 = .ok (.if_icmp .ne 50, 3) := by decide +kernel
theorem dL_commands_504 : decode cL_commands 504 = .ok (.aload_n 0, 1) := by decide +kernel
theorem dL_commands_505 : decode cL_commands 505 = .ok (.iload_n 1, 1) := by decide +kernel
theorem dL_commands_506 : decode cL_commands 506 = .ok (.iconst 3, 1) := by decide +kernel
theorem dL_commands_507 : decode cL_commands 507 = .ok (.invokevirtual 21, 3) := by decide +kernel
theorem dL_commands_510 : decode cL_commands 510 = .ok (.istore 7, 2) := by decide +kernel
theorem dL_commands_512 : decode cL_commands 512 = .ok (.iload_n 2, 1) := by decide +kernel
theorem dL_commands_513 : decode cL_commands 513 = .ok (.iconst 4, 1) := by decide +kernel
theorem dL_commands_514 : decode cL_commands 514 = .ok (.ishr, 1) := by decide +kernel
theorem dL_commands_515 : decode cL_commands 515 = .ok (.bipush 10, 2) := by decide +kernel
theorem dL_commands_517 : decode cL_commands 517 = .ok (.invokestatic 50, 3) := by decide +kernel
theorem dL_commands_520 : decode cL_commands 520 = .ok (.istore 8, 2) := by decide +kernel
theorem dL_commands_522 : decode cL_commands 522 = .ok (.aload_n 0, 1) := by decide +kernel
theorem dL_commands_523 : decode cL_commands 523 = .ok (.iload_n 1, 1) := by decide +kernel
theorem dL_commands_524 : decode cL_commands 524 = .ok (.iload 8, 2) := by decide +kernel
theorem dL_commands_526 : decode cL_commands 526 = .ok (.invokevirtual 78, 3) := by decide +kernel
theorem dL_commands_529 : decode cL_commands 529 = .ok (.iload 7, 2) := by decide +kernel
theorem dL_commands_531 : decode cL_commands 531 = .ok (.if_icmp .ne 18, 3) := by decide +kernel
theorem dL_commands_534 : decode cL_commands 534 = .ok (.aload_n 0, 1) := by decide +kernel
theorem dL_commands_535 : decode cL_commands 535 = .ok (.iload_n 1, 1) := by decide +kernel
theorem dL_commands_536 : decode cL_commands 536 = .ok (.iconst 3, 1) := by decide +kernel
theorem dL_commands_537 : decode cL_commands 537 = .ok (.invokevirtual 21, 3) := by decide +kernel
theorem dL_commands_540 : decode cL_commands 540 = .ok (.iload 8, 2) := by decide +kernel
theorem dL_commands_542 : decode cL_commands 542 = .ok (.if_icmp .ne 7, 3) := by decide +kernel
theorem dL_commands_545 : decode cL_commands 545 = .ok (.iconst 1, 1) := by decide +kernel
theorem dL_commands_546 : decode cL_commands 546 = .ok (.goto 4, 3) := by decide +kernel
theorem dL_commands_549 : decode cL_commands 549 = .ok (.iconst 0, 1) := by decide +kernel
theorem dL_commands_550 : decode cL_commands 550 = .ok (.ireturn, 1) := by decide +kernel
theorem dL_commands_551 : decode cL_commands 551 = .ok (.iload_n 2, 1) := by decide +kernel
theorem dL_commands_552 : decode cL_commands 552 = .ok (.iconst 4, 1) := by decide +kernel
theorem dL_commands_553 : decode cL_commands 553 = .ok (.ishr, 1) := by decide +kernel
theorem dL_commands_554 : decode cL_commands 554 = .ok (.iconst 4, 1) := by decide +kernel
theorem dL_commands_555 : decode cL_commands 555 = .ok (.invokestatic 50, 3) := by decide +kernel
theorem dL_commands_558 : decode cL_commands 558 = .ok (.ifCond .le 5, 3) := by decide +kernel
theorem dL_commands_561 : decode cL_commands 561 = .ok (.iconst 1, 1) := by decide +kernel
theorem dL_commands_562 : decode cL_commands 562 = .ok (.ireturn, 1) := by decide +kernel
theorem dL_commands_563 : decode cL_commands 563 = .ok (.aload_n 0, 1) := by decide +kernel
theorem dL_commands_564 : decode cL_commands 564 = .ok (.bipush 9, 2) := by decide +kernel
theorem dL_commands_566 : decode cL_commands 566 = .ok (.invokevirtual 9, 3) := by decide +kernel
theorem dL_commands_569 : decode cL_commands 569 = .ok (.istore 7, 2) := by decide +kernel
theorem dL_commands_571 : decode cL_commands 571 = .ok (.aload_n 0, 1) := by decide +kernel
theorem dL_commands_572 : decode cL_commands 572 = .ok (.iload_n 1, 1) := by decide +kernel
theorem dL_commands_573 : decode cL_commands 573 = .ok (.invokevirtual 81, 3) := by decide +kernel
theorem dL_commands_576 : decode cL_commands 576 = .ok (.istore 8, 2) := by decide +kernel
theorem dL_commands_578 : decode cL_commands 578 = .ok (.iload_n 3, 1) := by decide +kernel
theorem dL_commands_579 : decode cL_commands 579 = .ok (.iconst 3, 1) := by decide +kernel
theorem dL_commands_580 : decode cL_commands 580 = .ok (.if_icmp .le 27, 3) := by decide +kernel
theorem dL_commands_583 : decode cL_commands 583 = .ok (.iload 8, 2) := by decide +kernel
theorem dL_commands_585 : decode cL_commands 585 = .ok (.bipush (-2), 2) := by decide +kernel
theorem dL_commands_587 : decode cL_commands 587 = .ok (.if_icmp .ne 18, 3) := by decide +kernel
theorem dL_commands_590 : decode cL_commands 590 = .ok (.aload_n 0, 1) := by decide +kernel
theorem dL_commands_591 : decode cL_commands 591 = .ok (.bipush 9, 2) := by decide +kernel
theorem dL_commands_593 : decode cL_commands 593 = .ok (.invokevirtual 9, 3) := by decide +kernel
theorem dL_commands_596 : decode cL_commands 596 = .ok (.iload 7, 2) := by decide +kernel
theorem dL_commands_598 : decode cL_commands 598 = .ok (.if_icmp .ne 7, 3) := by decide +kernel
theorem dL_commands_601 : decode cL_commands 601 = .ok (.iconst 1, 1) := by decide +kernel
theorem dL_commands_602 : decode cL_commands 602 = .ok (.goto 4, 3) := by decide +kernel
theorem dL_commands_605 : decode cL_commands 605 = .ok (.iconst 0, 1) := by decide +kernel
theorem dL_commands_606 : decode cL_commands 606 = .ok (.ireturn, 1) := by decide +kernel
theorem dL_commands_607 : decode cL_commands 607 = .ok (.iload_n 1, 1) := by decide +kernel
theorem dL_commands_608 : decode cL_commands 608 = .ok (.iconst 1, 1) := by decide +kernel
theorem dL_commands_609 : decode cL_commands 609 = .ok (.iadd, 1) := by decide +kernel
theorem dL_commands_610 : decode cL_commands 610 = .ok (.istore 9, 2) := by decide +kernel
theorem dL_commands_612 : decode cL_commands 612 = .ok (.iload 9, 2) := by decide +kernel
theorem dL_commands_614 : decode cL_commands 614 = .ok (.aload_n 0, 1) := by decide +kernel
theorem dL_commands_615 : decode cL_commands 615 = .ok (.iconst 3, 1) := by decide +kernel
theorem dL_commands_616 : decode cL_commands 616 = .ok (.invokevirtual 9, 3) := by decide +kernel
theorem dL_commands_619 : decode cL_commands 619 = .ok (.if_icmp .ge 49, 3) := by decide +kernel
theorem dL_commands_622 : decode cL_commands 622 = .ok (.aload_n 0, 1) := by decide +kernel
theorem dL_commands_623 : decode cL_commands 623 = .ok (.iload 9, 2) := by decide +kernel
theorem dL_commands_625 : decode cL_commands 625 = .ok (.iconst 4, 1) := by decide +kernel
theorem dL_commands_626 : decode cL_commands 626 = .ok (.invokevirtual 21, 3) := by decide +kernel
theorem dL_commands_629 : decode cL_commands 629 = .ok (.istore 10, 2) := by decide +kernel
theorem dL_commands_631 : decode cL_commands 631 = .ok (.iload 10, 2) := by decide +kernel
theorem dL_commands_633 : decode cL_commands 633 = .ok (.bipush (-4), 2) := by decide +kernel
theorem dL_commands_635 : decode cL_commands 635 = .ok (.if_icmp .eq 27, 3) := by decide +kernel
theorem dL_commands_638 : decode cL_commands 638 = .ok (.aload_n 0, 1) := by decide +kernel
theorem dL_commands_639 : decode cL_commands 639 = .ok (.iload 10, 2) := by decide +kernel
theorem dL_commands_641 : decode cL_commands 641 = .ok (.iconst 5, 1) := by decide +kernel
theorem dL_commands_642 : decode cL_commands 642 = .ok (.invokevirtual 21, 3) := by decide +kernel
theorem dL_commands_645 : decode cL_commands 645 = .ok (.iconst 5, 1) := by decide +kernel
theorem dL_commands_646 : decode cL_commands 646 = .ok (.if_icmp .ne 16, 3) := by decide +kernel
theorem dL_commands_649 : decode cL_commands 649 = .ok (.aload_n 0, 1) := by decide +kernel
theorem dL_commands_650 : decode cL_commands 650 = .ok (.iload 9, 2) := by decide +kernel
theorem dL_commands_652 : decode cL_commands 652 = .ok (.iconst 5, 1) := by decide +kernel
theorem dL_commands_653 : decode cL_commands 653 = .ok (.invokevirtual 21, 3) := by decide +kernel
theorem dL_commands_656 : decode cL_commands 656 = .ok (.iconst 4, 1) := by decide +kernel
theorem dL_commands_657 : decode cL_commands 657 = .ok (.if_icmp .ge 5, 3) := by decide +kernel
theorem dL_commands_660 : decode cL_commands 660 = .ok (.iconst 0, 1) := by decide +kernel
theorem dL_commands_661 : decode cL_commands 661 = .ok (.ireturn, 1) := by decide +kernel
theorem dL_commands_662 : decode cL_commands 662 = .ok (.iinc 9 1, 3) := by decide +kernel
theorem dL_commands_665 : decode cL_commands 665 = .ok (.goto (-53), 3) := by decide +kernel
theorem dL_commands_668 : decode cL_commands 668 = .ok (.iload 8, 2) := by decide +kernel
theorem dL_commands_670 : decode cL_commands 670 = .ok (.ifCond .le 92, 3) := by decide +kernel
theorem dL_commands_673 : decode cL_commands 673 = .ok (.aload_n 0, 1) := by decide +kernel
theorem dL_commands_674 : decode cL_commands 674 = .ok (.bipush 9, 2) := by decide +kernel
theorem dL_commands_676 : decode cL_commands 676 = .ok (.invokevirtual 9, 3) := by decide +kernel
theorem dL_commands_679 : decode cL_commands 679 = .ok (.iload 7, 2) := by decide +kernel
theorem dL_commands_681 : decode cL_commands 681 = .ok (.iload 8, 2) := by decide +kernel
theorem dL_commands_683 : decode cL_commands 683 = .ok (.iadd, 1) := by decide +kernel
theorem dL_commands_684 : decode cL_commands 684 = .ok (.if_icmp .ne 78, 3) := by decide +kernel
theorem dL_commands_687 : decode cL_commands 687 = .ok (.aload_n 0, 1) := by decide +kernel
theorem dL_commands_688 : decode cL_commands 688 = .ok (.iload_n 1, 1) := by decide +kernel
theorem dL_commands_689 : decode cL_commands 689 = .ok (.iconst 5, 1) := by decide +kernel
theorem dL_commands_690 : decode cL_commands 690 = .ok (.invokevirtual 21, 3) := by decide +kernel
theorem dL_commands_693 : decode cL_commands 693 = .ok (.iconst 5, 1) := by decide +kernel
theorem dL_commands_694 : decode cL_commands 694 = .ok (.if_icmp .ne 68, 3) := by decide +kernel
theorem dL_commands_697 : decode cL_commands 697 = .ok (.aload_n 0, 1) := by decide +kernel
theorem dL_commands_698 : decode cL_commands 698 = .ok (.iload_n 1, 1) := by decide +kernel
theorem dL_commands_699 : decode cL_commands 699 = .ok (.bipush 8, 2) := by decide +kernel
theorem dL_commands_701 : decode cL_commands 701 = .ok (.invokevirtual 21, 3) := by decide +kernel
theorem dL_commands_704 : decode cL_commands 704 = .ok (.bipush (-4), 2) := by decide +kernel
theorem dL_commands_706 : decode cL_commands 706 = .ok (.if_icmp .ne 56, 3) := by decide +kernel
theorem dL_commands_709 : decode cL_commands 709 = .ok (.aload_n 0, 1) := by decide +kernel
theorem dL_commands_710 : decode cL_commands 710 = .ok (.iconst 0, 1) := by decide +kernel
theorem dL_commands_711 : decode cL_commands 711 = .ok (.iconst 2, 1) := by decide +kernel
theorem dL_commands_712 : decode cL_commands 712 = .ok (.invokevirtual 40, 3) := by decide +kernel
theorem dL_commands_715 : decode cL_commands 715 = .ok (.iconst 5, 1) := by decide +kernel
theorem dL_commands_716 : decode cL_commands 716 = .ok (.if_icmp .ne 46, 3) := by decide +kernel
theorem dL_commands_719 : decode cL_commands 719 = .ok (.iload_n 2, 1) := by decide +kernel
theorem dL_commands_720 : decode cL_commands 720 = .ok (.bipush 6, 2) := by decide +kernel
theorem dL_commands_722 : decode cL_commands 722 = .ok (.ishr, 1) := by decide +kernel
theorem dL_commands_723 : decode cL_commands 723 = .ok (.iconst 3, 1) := by decide +kernel
theorem dL_commands_724 : decode cL_commands 724 = .ok (.invokestatic 50, 3) := by decide +kernel
theorem dL_commands_727 : decode cL_commands 727 = .ok (.ifCond .gt 31, 3) := by decide +kernel
theorem dL_commands_730 : decode cL_commands 730 = .ok (.aload_n 0, 1) := by decide +kernel
theorem dL_commands_731 : decode cL_commands 731 = .ok (.invokevirtual 69, 3) := by decide +kernel
theorem dL_commands_734 : decode cL_commands 734 = .ok (.ifCond .lt 28, 3) := by decide +kernel
theorem dL_commands_737 : decode cL_commands 737 = .ok (.aload_n 0, 1) := by decide +kernel
theorem dL_commands_738 : decode cL_commands 738 = .ok (.bipush 9, 2) := by decide +kernel
theorem dL_commands_740 : decode cL_commands 740 = .ok (.invokevirtual 9, 3) := by decide +kernel
theorem dL_commands_743 : decode cL_commands 743 = .ok (.iload 7, 2) := by decide +kernel
theorem dL_commands_745 : decode cL_commands 745 = .ok (.if_icmp .ne 17, 3) := by decide +kernel
theorem dL_commands_748 : decode cL_commands 748 = .ok (.aload_n 0, 1) := by decide +kernel
theorem dL_commands_749 : decode cL_commands 749 = .ok (.iload_n 1, 1) := by decide +kernel
theorem dL_commands_750 : decode cL_commands 750 = .ok (.iconst 5, 1) := by decide +kernel
theorem dL_commands_751 : decode cL_commands 751 = .ok (.invokevirtual 21, 3) := by decide +kernel
theorem dL_commands_754 : decode cL_commands 754 = .ok (.iload_n 3, 1) := by decide +kernel
theorem dL_commands_755 : decode cL_commands 755 = .ok (.if_icmp .ne 7, 3) := by decide +kernel
theorem dL_commands_758 : decode cL_commands 758 = .ok (.iconst 1, 1) := by decide +kernel
theorem dL_commands_759 : decode cL_commands 759 = .ok (.goto 4, 3) := by decide +kernel
theorem dL_commands_762 : decode cL_commands 762 = .ok (.iconst 0, 1) := by decide +kernel
theorem dL_commands_763 : decode cL_commands 763 = .ok (.ireturn, 1) := by decide +kernel
theorem dL_units_0 : decode cL_units 0 = .ok (.aload_n 0, 1) := by decide +kernel
theorem dL_units_1 : decode cL_units 1 = .ok (.iload_n 1, 1) := by decide +kernel
theorem dL_units_2 : decode cL_units 2 = .ok (.iconst 2, 1) := by decide +kernel
theorem dL_units_3 : decode cL_units 3 = .ok (.invokevirtual 15, 3) := by decide +kernel
theorem dL_units_6 : decode cL_units 6 = .ok (.istore_n 3, 1) := by decide +kernel
theorem dL_units_7 : decode cL_units 7 = .ok (.iload_n 3, 1) := by decide +kernel
theorem dL_units_8 : decode cL_units 8 = .ok (.bipush (-4), 2) := by decide +kernel
theorem dL_units_10 : decode cL_units 10 = .ok (.if_icmp .ne 7, 3) := by decide +kernel
theorem dL_units_13 : decode cL_units 13 = .ok (.iconst 0, 1) := by decide +kernel
theorem dL_units_14 : decode cL_units 14 = .ok (.goto 9, 3) := by decide +kernel
theorem dL_units_17 : decode cL_units 17 = .ok (.aload_n 0, 1) := by decide +kernel
theorem dL_units_18 : decode cL_units 18 = .ok (.iload_n 3, 1) := by decide +kernel
theorem dL_units_19 : decode cL_units 19 = .ok (.iconst 5, 1) := by decide +kernel
theorem dL_units_20 : decode cL_units 20 = .ok (.invokevirtual 21, 3) := by decide +kernel
theorem dL_units_23 : decode cL_units 23 = .ok (.istore 4, 2) := by decide +kernel
theorem dL_units_25 : decode cL_units 25 = .ok (.aload_n 0, 1) := by decide +kernel
theorem dL_units_26 : decode cL_units 26 = .ok (.iconst 1, 1) := by decide +kernel
theorem dL_units_27 : decode cL_units 27 = .ok (.invokevirtual 9, 3) := by decide +kernel
theorem dL_units_30 : decode cL_units 30 = .ok (.istore 5, 2) := by decide +kernel
theorem dL_units_32 : decode cL_units 32 = .ok (.iload_n 2, 1) := by decide +kernel
theorem dL_units_33 : decode cL_units 33 = .ok (.iconst 2, 1) := by decide +kernel
theorem dL_units_34 : decode cL_units 34 = .ok (.invokestatic 50, 3) := by decide +kernel
theorem dL_units_37 : decode cL_units 37 = .ok (.ifCond .ne 153, 3) := by decide +kernel
theorem dL_units_40 : decode cL_units 40 = .ok (.aload_n 0, 1) := by decide +kernel
theorem dL_units_41 : decode cL_units 41 = .ok (.iload_n 1, 1) := by decide +kernel
theorem dL_units_42 : decode cL_units 42 = .ok (.iconst 3, 1) := by decide +kernel
theorem dL_units_43 : decode cL_units 43 = .ok (.invokevirtual 15, 3) := by decide +kernel
theorem dL_units_46 : decode cL_units 46 = .ok (.iconst 1, 1) := by decide +kernel
theorem dL_units_47 : decode cL_units 47 = .ok (.if_icmp .ne 7, 3) := by decide +kernel
theorem dL_units_50 : decode cL_units 50 = .ok (.iconst 1, 1) := by decide +kernel
theorem dL_units_51 : decode cL_units 51 = .ok (.goto 4, 3) := by decide +kernel
theorem dL_units_54 : decode cL_units 54 = .ok (.iconst 0, 1) := by decide +kernel
theorem dL_units_55 : decode cL_units 55 = .ok (.istore 6, 2) := by decide +kernel
theorem dL_units_57 : decode cL_units 57 = .ok (.aload_n 0, 1) := by decide +kernel
theorem dL_units_58 : decode cL_units 58 = .ok (.iload_n 1, 1) := by decide +kernel
theorem dL_units_59 : decode cL_units 59 = .ok (.invokevirtual 84, 3) := by decide +kernel
theorem dL_units_62 : decode cL_units 62 = .ok (.istore 7, 2) := by decide +kernel
theorem dL_units_64 : decode cL_units 64 = .ok (.iload 6, 2) := by decide +kernel
theorem dL_units_66 : decode cL_units 66 = .ok (.ifCond .eq 26, 3) := by decide +kernel
theorem dL_units_69 : decode cL_units 69 = .ok (.iload 7, 2) := by decide +kernel
theorem dL_units_71 : decode cL_units 71 = .ok (.bipush (-2), 2) := by decide +kernel
theorem dL_units_73 : decode cL_units 73 = .ok (.if_icmp .ne 17, 3) := by decide +kernel
theorem dL_units_76 : decode cL_units 76 = .ok (.aload_n 0, 1) := by decide +kernel
theorem dL_units_77 : decode cL_units 77 = .ok (.iconst 1, 1) := by decide +kernel
theorem dL_units_78 : decode cL_units 78 = .ok (.invokevirtual 9, 3) := by decide +kernel
theorem dL_units_81 : decode cL_units 81 = .ok (.iload 5, 2) := by decide +kernel
theorem dL_units_83 : decode cL_units 83 = .ok (.if_icmp .ne 7, 3) := by decide +kernel
theorem dL_units_86 : decode cL_units 86 = .ok (.iconst 1, 1) := by decide +kernel
theorem dL_units_87 : decode cL_units 87 = .ok (.goto 4, 3) := by decide +kernel
theorem dL_units_90 : decode cL_units 90 = .ok (.iconst 0, 1) := by decide +kernel
theorem dL_units_91 : decode cL_units 91 = .ok (.ireturn, 1) := by decide +kernel
theorem dL_units_92 : decode cL_units 92 = .ok (.iload 7, 2) := by decide +kernel
theorem dL_units_94 : decode cL_units 94 = .ok (.iload 4, 2) := by decide +kernel
theorem dL_units_96 : decode cL_units 96 = .ok (.iconst 1, 1) := by decide +kernel
theorem dL_units_97 : decode cL_units 97 = .ok (.if_icmp .eq 9, 3) := by decide +kernel
theorem dL_units_100 : decode cL_units 100 = .ok (.iload 4, 2) := by decide +kernel
theorem dL_units_102 : decode cL_units 102 = .ok (.iconst 3, 1) := by decide +kernel
theorem dL_units_103 : decode cL_units 103 = .ok (.if_icmp .ne 7, 3) := by decide +kernel
theorem dL_units_106 : decode cL_units 106 = .ok (.iload_n 3, 1) := by decide +kernel
theorem dL_units_107 : decode cL_units 107 = .ok (.goto 5, 3) := by decide +kernel
theorem dL_units_110 : decode cL_units 110 = .ok (.bipush (-4), 2) := by decide +kernel
theorem dL_units_112 : decode cL_units 112 = .ok (.if_icmp .ne 76, 3) := by decide +kernel
theorem dL_units_115 : decode cL_units 115 = .ok (.aload_n 0, 1) := by decide +kernel
theorem dL_units_116 : decode cL_units 116 = .ok (.iconst 1, 1) := by decide +kernel
theorem dL_units_117 : decode cL_units 117 = .ok (.invokevirtual 9, 3) := by decide +kernel
theorem dL_units_120 : decode cL_units 120 = .ok (.iload 5, 2) := by decide +kernel
theorem dL_units_122 : decode cL_units 122 = .ok (.iconst 1, 1) := by decide +kernel
theorem dL_units_123 : decode cL_units 123 = .ok (.iadd, 1) := by decide +kernel
theorem dL_units_124 : decode cL_units 124 = .ok (.if_icmp .ne 64, 3) := by decide +kernel
theorem dL_units_127 : decode cL_units 127 = .ok (.aload_n 0, 1) := by decide +kernel
theorem dL_units_128 : decode cL_units 128 = .ok (.iload_n 1, 1) := by decide +kernel
theorem dL_units_129 : decode cL_units 129 = .ok (.iconst 3, 1) := by decide +kernel
theorem dL_units_130 : decode cL_units 130 = .ok (.invokevirtual 15, 3) := by decide +kernel
theorem dL_units_133 : decode cL_units 133 = .ok (.iconst 1, 1) := by decide +kernel
theorem dL_units_134 : decode cL_units 134 = .ok (.if_icmp .ne 54, 3) := by decide +kernel
theorem dL_units_137 : decode cL_units 137 = .ok (.aload_n 0, 1) := by decide +kernel
theorem dL_units_138 : decode cL_units 138 = .ok (.iload_n 1, 1) := by decide +kernel
theorem dL_units_139 : decode cL_units 139 = .ok (.bipush 6, 2) := by decide +kernel
theorem dL_units_141 : decode cL_units 141 = .ok (.invokevirtual 15, 3) := by decide +kernel
theorem dL_units_144 : decode cL_units 144 = .ok (.ifCond .ne 44, 3) := by decide +kernel
theorem dL_units_147 : decode cL_units 147 = .ok (.aload_n 0, 1) := by decide +kernel
theorem dL_units_148 : decode cL_units 148 = .ok (.iload_n 1, 1) := by decide +kernel
theorem dL_units_149 : decode cL_units 149 = .ok (.iconst 2, 1) := by decide +kernel
theorem dL_units_150 : decode cL_units 150 = .ok (.invokevirtual 15, 3) := by decide +kernel
theorem dL_units_153 : decode cL_units 153 = .ok (.iload_n 3, 1) := by decide +kernel
theorem dL_units_154 : decode cL_units 154 = .ok (.if_icmp .ne 34, 3) := by decide +kernel
theorem dL_units_157 : decode cL_units 157 = .ok (.iload 7, 2) := by decide +kernel
theorem dL_units_159 : decode cL_units 159 = .ok (.bipush (-4), 2) := by decide +kernel
theorem dL_units_161 : decode cL_units 161 = .ok (.if_icmp .eq 23, 3) := by decide +kernel
theorem dL_units_164 : decode cL_units 164 = .ok (.aload_n 0, 1) := by decide +kernel
theorem dL_units_165 : decode cL_units 165 = .ok (.iload_n 3, 1) := by decide +kernel
theorem dL_units_166 : decode cL_units 166 = .ok (.iconst 5, 1) := by decide +kernel
theorem dL_units_167 : decode cL_units 167 = .ok (.invokevirtual 21, 3) := by decide +kernel
theorem dL_units_170 : decode cL_units 170 = .ok (.iconst 2, 1) := by decide +kernel
theorem dL_units_171 : decode cL_units 171 = .ok (.if_icmp .ne 17, 3) := by decide +kernel
theorem dL_units_174 : decode cL_units 174 = .ok (.aload_n 0, 1) := by decide +kernel
theorem dL_units_175 : decode cL_units 175 = .ok (.iload_n 3, 1) := by decide +kernel
theorem dL_units_176 : decode cL_units 176 = .ok (.invokevirtual 72, 3) := by decide +kernel
theorem dL_units_179 : decode cL_units 179 = .ok (.bipush (-2), 2) := by decide +kernel
theorem dL_units_181 : decode cL_units 181 = .ok (.if_icmp .ne 7, 3) := by decide +kernel
theorem dL_units_184 : decode cL_units 184 = .ok (.iconst 1, 1) := by decide +kernel
theorem dL_units_185 : decode cL_units 185 = .ok (.goto 4, 3) := by decide +kernel
theorem dL_units_188 : decode cL_units 188 = .ok (.iconst 0, 1) := by decide +kernel
theorem dL_units_189 : decode cL_units 189 = .ok (.ireturn, 1) := by decide +kernel
theorem dL_units_190 : decode cL_units 190 = .ok (.aload_n 0, 1) := by decide +kernel
theorem dL_units_191 : decode cL_units 191 = .ok (.iload_n 1, 1) := by decide +kernel
theorem dL_units_192 : decode cL_units 192 = .ok (.iconst 3, 1) := by decide +kernel
theorem dL_units_193 : decode cL_units 193 = .ok (.invokevirtual 15, 3) := by decide +kernel
theorem dL_units_196 : decode cL_units 196 = .ok (.iconst 1, 1) := by decide +kernel
theorem dL_units_197 : decode cL_units 197 = .ok (.if_icmp .ne 7, 3) := by decide +kernel
theorem dL_units_200 : decode cL_units 200 = .ok (.iconst 1, 1) := by decide +kernel
theorem dL_units_201 : decode cL_units 201 = .ok (.goto 4, 3) := by decide +kernel
theorem dL_units_204 : decode cL_units 204 = .ok (.iconst 0, 1) := by decide +kernel
theorem dL_units_205 : decode cL_units 205 = .ok (.istore 6, 2) := by decide +kernel
theorem dL_units_207 : decode cL_units 207 = .ok (.aload_n 0, 1) := by decide +kernel
theorem dL_units_208 : decode cL_units 208 = .ok (.iload_n 1, 1) := by decide +kernel
theorem dL_units_209 : decode cL_units 209 = .ok (.invokevirtual 87, 3) := by decide +kernel
theorem dL_units_212 : decode cL_units 212 = .ok (.istore 7, 2) := by decide +kernel
theorem dL_units_214 : decode cL_units 214 = .ok (.iload 6, 2) := by decide +kernel
theorem dL_units_216 : decode cL_units 216 = .ok (.ifCond .eq 29, 3) := by decide +kernel
theorem dL_units_219 : decode cL_units 219 = .ok (.iload 7, 2) := by decide +kernel
theorem dL_units_221 : decode cL_units 221 = .ok (.iload 5, 2) := by decide +kernel
theorem dL_units_223 : decode cL_units 223 = .ok (.iconst 1, 1) := by decide +kernel
theorem dL_units_224 : decode cL_units 224 = .ok (.isub, 1) := by decide +kernel
theorem dL_units_225 : decode cL_units 225 = .ok (.if_icmp .ne 16, 3) := by decide +kernel
theorem dL_units_228 : decode cL_units 228 = .ok (.aload_n 0, 1) := by decide +kernel
theorem dL_units_229 : decode cL_units 229 = .ok (.iload_n 1, 1) := by decide +kernel
theorem dL_units_230 : decode cL_units 230 = .ok (.iconst 3, 1) := by decide +kernel
theorem dL_units_231 : decode cL_units 231 = .ok (.invokevirtual 15, 3) := by decide +kernel
theorem dL_units_234 : decode cL_units 234 = .ok (.ifCond .ne 7, 3) := by decide +kernel
theorem dL_units_237 : decode cL_units 237 = .ok (.iconst 1, 1) := by decide +kernel
theorem dL_units_238 : decode cL_units 238 = .ok (.goto 29, 3) := by decide +kernel
theorem dL_units_241 : decode cL_units 241 = .ok (.iconst 0, 1) := by decide +kernel
theorem dL_units_242 : decode cL_units 242 = .ok (.goto 25, 3) := by decide +kernel
theorem dL_units_245 : decode cL_units 245 = .ok (.iload 7, 2) := by decide +kernel
theorem dL_units_247 : decode cL_units 247 = .ok (.bipush (-2), 2) := by decide +kernel
theorem dL_units_249 : decode cL_units 249 = .ok (.if_icmp .ne 17, 3) := by decide +kernel
theorem dL_units_252 : decode cL_units 252 = .ok (.aload_n 0, 1) := by decide +kernel
theorem dL_units_253 : decode cL_units 253 = .ok (.iconst 1, 1) := by decide +kernel
theorem dL_units_254 : decode cL_units 254 = .ok (.invokevirtual 9, 3) := by decide +kernel
theorem dL_units_257 : decode cL_units 257 = .ok (.iload 5, 2) := by decide +kernel
theorem dL_units_259 : decode cL_units 259 = .ok (.if_icmp .ne 7, 3) := by decide +kernel
theorem dL_units_262 : decode cL_units 262 = .ok (.iconst 1, 1) := by decide +kernel
theorem dL_units_263 : decode cL_units 263 = .ok (.goto 4, 3) := by decide +kernel
theorem dL_units_266 : decode cL_units 266 = .ok (.iconst 0, 1) := by decide +kernel
theorem dL_units_267 : decode cL_units 267 = .ok (.ireturn, 1) := by decide +kernel
theorem dL_ticks_0 : decode cL_ticks 0 = .ok (.aload_n 0, 1) := by decide +kernel
theorem dL_ticks_1 : decode cL_ticks 1 = .ok (.bipush 11, 2) := by decide +kernel
theorem dL_ticks_3 : decode cL_ticks 3 = .ok (.invokevirtual 9, 3) := by decide +kernel
theorem dL_ticks_6 : decode cL_ticks 6 = .ok (.istore_n 3, 1) := by decide +kernel
theorem dL_ticks_7 : decode cL_ticks 7 = .ok (.aload_n 0, 1) := by decide +kernel
theorem dL_ticks_8 : decode cL_ticks 8 = .ok (.bipush 10, 2) := by decide +kernel
theorem dL_ticks_10 : decode cL_ticks 10 = .ok (.invokevirtual 9, 3) := by decide +kernel
theorem dL_ticks_13 : decode cL_ticks 13 = .ok (.istore 4, 2) := by decide +kernel
theorem dL_ticks_15 : decode cL_ticks 15 = .ok (.aload_n 0, 1) := by decide +kernel
theorem dL_ticks_16 : decode cL_ticks 16 = .ok (.iconst 0, 1) := by decide +kernel
theorem dL_ticks_17 : decode cL_ticks 17 = .ok (.invokevirtual 37, 3) := by decide +kernel
theorem dL_ticks_20 : decode cL_ticks 20 = .ok (.istore 5, 2) := by decide +kernel
theorem dL_ticks_22 : decode cL_ticks 22 = .ok (.iload 5, 2) := by decide +kernel
theorem dL_ticks_24 : decode cL_ticks 24 = .ok (.bipush (-4), 2) := by decide +kernel
theorem dL_ticks_26 : decode cL_ticks 26 = .ok (.if_icmp .ne 7, 3) := by decide +kernel
theorem dL_ticks_29 : decode cL_ticks 29 = .ok (.iconst 1, 1) := by decide +kernel
theorem dL_ticks_30 : decode cL_ticks 30 = .ok (.goto 9, 3) := by decide +kernel
theorem dL_ticks_33 : decode cL_ticks 33 = .ok (.aload_n 0, 1) := by decide +kernel
theorem dL_ticks_34 : decode cL_ticks 34 = .ok (.iload 5, 2) := by decide +kernel
theorem dL_ticks_36 : decode cL_ticks 36 = .ok (.invokevirtual 27, 3) := by decide +kernel
theorem dL_ticks_39 : decode cL_ticks 39 = .ok (.istore 6, 2) := by decide +kernel
theorem dL_ticks_41 : decode cL_ticks 41 = .ok (.aload_n 0, 1) := by decide +kernel
theorem dL_ticks_42 : decode cL_ticks 42 = .ok (.bipush 16, 2) := by decide +kernel
theorem dL_ticks_44 : decode cL_ticks 44 = .ok (.invokevirtual 9, 3) := by decide +kernel
theorem dL_ticks_47 : decode cL_ticks 47 = .ok (.istore 7, 2) := by decide +kernel
theorem dL_ticks_49 : decode cL_ticks 49 = .ok (.iload_n 2, 1) := by decide +kernel
theorem dL_ticks_50 : decode cL_ticks 50 = .ok (.aload_n 0, 1) := by decide +kernel
theorem dL_ticks_51 : decode cL_ticks 51 = .ok (.iconst 3, 1) := by decide +kernel
theorem dL_ticks_52 : decode cL_ticks 52 = .ok (.invokevirtual 9, 3) := by decide +kernel
theorem dL_ticks_55 : decode cL_ticks 55 = .ok (.invokestatic 50, 3) := by decide +kernel
theorem dL_ticks_58 : decode cL_ticks 58 = .ok (.istore 8, 2) := by decide +kernel
theorem dL_ticks_60 : decode cL_ticks 60 = .ok (.aload_n 0, 1) := by decide +kernel
theorem dL_ticks_61 : decode cL_ticks 61 = .ok (.iload 8, 2) := by decide +kernel
theorem dL_ticks_63 : decode cL_ticks 63 = .ok (.invokevirtual 90, 3) := by decide +kernel
theorem dL_ticks_66 : decode cL_ticks 66 = .ok (.istore 9, 2) := by decide +kernel
theorem dL_ticks_68 : decode cL_ticks 68 = .ok (.aload_n 0, 1) := by decide +kernel
theorem dL_ticks_69 : decode cL_ticks 69 = .ok (.iload_n 1, 1) := by decide +kernel
theorem dL_ticks_70 : decode cL_ticks 70 = .ok (.invokevirtual 93, 3) := by decide +kernel
theorem dL_ticks_73 : decode cL_ticks 73 = .ok (.istore 10, 2) := by decide +kernel
theorem dL_ticks_75 : decode cL_ticks 75 = .ok (.iload 10, 2) := by decide +kernel
theorem dL_ticks_77 : decode cL_ticks 77 = .ok (.ifCond .lt 102, 3) := by decide +kernel
theorem dL_ticks_80 : decode cL_ticks 80 = .ok (.aload_n 0, 1) := by decide +kernel
theorem dL_ticks_81 : decode cL_ticks 81 = .ok (.bipush 11, 2) := by decide +kernel
theorem dL_ticks_83 : decode cL_ticks 83 = .ok (.invokevirtual 9, 3) := by decide +kernel
theorem dL_ticks_86 : decode cL_ticks 86 = .ok (.iload_n 3, 1) := by decide +kernel
theorem dL_ticks_87 : decode cL_ticks 87 = .ok (.iload_n 1, 1) := by decide +kernel
theorem dL_ticks_88 : decode cL_ticks 88 = .ok (.iadd, 1) := by decide +kernel
theorem dL_ticks_89 : decode cL_ticks 89 = .ok (.if_icmp .ne 90, 3) := by decide +kernel
theorem dL_ticks_92 : decode cL_ticks 92 = .ok (.aload_n 0, 1) := by decide +kernel
theorem dL_ticks_93 : decode cL_ticks 93 = .ok (.bipush 10, 2) := by decide +kernel
theorem dL_ticks_95 : decode cL_ticks 95 = .ok (.invokevirtual 9, 3) := by decide +kernel
theorem dL_ticks_98 : decode cL_ticks 98 = .ok (.iload 4, 2) := by decide +kernel
theorem dL_ticks_100 : decode cL_ticks 100 = .ok (.iload 10, 2) := by decide +kernel
theorem dL_ticks_102 : decode cL_ticks 102 = .ok (.iadd, 1) := by decide +kernel
theorem dL_ticks_103 : decode cL_ticks 103 = .ok (.if_icmp .ne 76, 3) := by decide +kernel
theorem dL_ticks_106 : decode cL_ticks 106 = .ok (.iload 9, 2) := by decide +kernel
theorem dL_ticks_108 : decode cL_ticks 108 = .ok (.bipush (-4), 2) := by decide +kernel
theorem dL_ticks_110 : decode cL_ticks 110 = .ok (.if_icmp .eq 13, 3) := by decide +kernel
theorem dL_ticks_113 : decode cL_ticks 113 = .ok (.iload 9, 2) := by decide +kernel
theorem dL_ticks_115 : decode cL_ticks 115 = .ok (.iload_n 1, 1) := by decide +kernel
theorem dL_ticks_116 : decode cL_ticks 116 = .ok (.if_icmp .gt 7, 3) := by decide +kernel
theorem dL_ticks_119 : decode cL_ticks 119 = .ok (.iconst 1, 1) := by decide +kernel
theorem dL_ticks_120 : decode cL_ticks 120 = .ok (.goto 4, 3) := by decide +kernel
theorem dL_ticks_123 : decode cL_ticks 123 = .ok (.iconst 0, 1) := by decide +kernel
theorem dL_ticks_124 : decode cL_ticks 124 = .ok (.aload_n 0, 1) := by decide +kernel
theorem dL_ticks_125 : decode cL_ticks 125 = .ok (.iload 8, 2) := by decide +kernel
theorem dL_ticks_127 : decode cL_ticks 127 = .ok (.iconst 5, 1) := by decide +kernel
theorem dL_ticks_128 : decode cL_ticks 128 = .ok (.invokevirtual 21, 3) := by decide +kernel
theorem dL_ticks_131 : decode cL_ticks 131 = .ok (.bipush 6, 2) := by decide +kernel
theorem dL_ticks_133 : decode cL_ticks 133 = .ok (.if_icmp .ne 7, 3) := by decide +kernel
theorem dL_ticks_136 : decode cL_ticks 136 = .ok (.iconst 1, 1) := by decide +kernel
theorem dL_ticks_137 : decode cL_ticks 137 = .ok (.goto 4, 3) := by decide +kernel
theorem dL_ticks_140 : decode cL_ticks 140 = .ok (.iconst 0, 1) := by decide +kernel
theorem dL_ticks_141 : decode cL_ticks 141 = .ok (.if_icmp .ne 38, 3) := by decide +kernel
theorem dL_ticks_144 : decode cL_ticks 144 = .ok (.iload 6, 2) := by decide +kernel
theorem dL_ticks_146 : decode cL_ticks 146 = .ok (.ifCond .ne 14, 3) := by decide +kernel
theorem dL_ticks_149 : decode cL_ticks 149 = .ok (.aload_n 0, 1) := by decide +kernel
theorem dL_ticks_150 : decode cL_ticks 150 = .ok (.bipush 16, 2) := by decide +kernel
theorem dL_ticks_152 : decode cL_ticks 152 = .ok (.invokevirtual 9, 3) := by decide +kernel
theorem dL_ticks_155 : decode cL_ticks 155 = .ok (.iload 7, 2) := by decide +kernel
theorem dL_ticks_157 : decode cL_ticks 157 = .ok (.if_icmp .eq 22, 3) := by decide +kernel
theorem dL_ticks_160 : decode cL_ticks 160 = .ok (.aload_n 0, 1) := by decide +kernel
theorem dL_ticks_161 : decode cL_ticks 161 = .ok (.bipush 16, 2) := by decide +kernel
theorem dL_ticks_163 : decode cL_ticks 163 = .ok (.invokevirtual 9, 3) := by decide +kernel
theorem dL_ticks_166 : decode cL_ticks 166 = .ok (.iload 7, 2) := by decide +kernel
theorem dL_ticks_168 : decode cL_ticks 168 = .ok (.iload_n 1, 1) := by decide +kernel
theorem dL_ticks_169 : decode cL_ticks 169 = .ok (.aload_n 0, 1) := by decide +kernel
theorem dL_ticks_170 : decode cL_ticks 170 = .ok (.iconst 3, 1) := by decide +kernel
theorem dL_ticks_171 : decode cL_ticks 171 = .ok (.invokevirtual 9, 3) := by decide +kernel
theorem dL_ticks_174 : decode cL_ticks 174 = .ok (.imul, 1) := by decide +kernel
theorem dL_ticks_175 : decode cL_ticks 175 = .ok (.iadd, 1) := by decide +kernel
theorem dL_ticks_176 : decode cL_ticks 176 = .ok (.if_icmp .le 5, 3) := by decide +kernel
theorem dL_ticks_179 : decode cL_ticks 179 = .ok (.iconst 0, 1) := by decide +kernel
theorem dL_ticks_180 : decode cL_ticks 180 = .ok (.ireturn, 1) := by decide +kernel
theorem dL_ticks_181 : decode cL_ticks 181 = .ok (.iload_n 2, 1) := by decide +kernel
theorem dL_ticks_182 : decode cL_ticks 182 = .ok (.iconst 4, 1) := by decide +kernel
theorem dL_ticks_183 : decode cL_ticks 183 = .ok (.ishr, 1) := by decide +kernel
theorem dL_ticks_184 : decode cL_ticks 184 = .ok (.iconst 4, 1) := by decide +kernel
theorem dL_ticks_185 : decode cL_ticks 185 = .ok (.invokestatic 50, 3) := by decide +kernel
theorem dL_ticks_188 : decode cL_ticks 188 = .ok (.ifCond .gt 52, 3) := by decide +kernel
theorem dL_ticks_191 : decode cL_ticks 191 = .ok (.aload_n 0, 1) := by decide +kernel
theorem dL_ticks_192 : decode cL_ticks 192 = .ok (.invokevirtual 69, 3) := by decide +kernel
theorem dL_ticks_195 : decode cL_ticks 195 = .ok (.ifCond .lt 49, 3) := by decide +kernel
theorem dL_ticks_198 : decode cL_ticks 198 = .ok (.aload_n 0, 1) := by decide +kernel
theorem dL_ticks_199 : decode cL_ticks 199 = .ok (.bipush 11, 2) := by decide +kernel
theorem dL_ticks_201 : decode cL_ticks 201 = .ok (.invokevirtual 9, 3) := by decide +kernel
theorem dL_ticks_204 : decode cL_ticks 204 = .ok (.iload_n 3, 1) := by decide +kernel
theorem dL_ticks_205 : decode cL_ticks 205 = .ok (.if_icmp .ne 39, 3) := by decide +kernel
theorem dL_ticks_208 : decode cL_ticks 208 = .ok (.aload_n 0, 1) := by decide +kernel
theorem dL_ticks_209 : decode cL_ticks 209 = .ok (.bipush 16, 2) := by decide +kernel
theorem dL_ticks_211 : decode cL_ticks 211 = .ok (.invokevirtual 9, 3) := by decide +kernel
theorem dL_ticks_214 : decode cL_ticks 214 = .ok (.iload 7, 2) := by decide +kernel
theorem dL_ticks_216 : decode cL_ticks 216 = .ok (.if_icmp .ne 28, 3) := by decide +kernel
theorem dL_ticks_219 : decode cL_ticks 219 = .ok (.aload_n 0, 1) := by decide +kernel
theorem dL_ticks_220 : decode cL_ticks 220 = .ok (.bipush 10, 2) := by decide +kernel
theorem dL_ticks_222 : decode cL_ticks 222 = .ok (.invokevirtual 9, 3) := by decide +kernel
theorem dL_ticks_225 : decode cL_ticks 225 = .ok (.iload 4, 2) := by decide +kernel
theorem dL_ticks_227 : decode cL_ticks 227 = .ok (.if_icmp .ne 17, 3) := by decide +kernel
theorem dL_ticks_230 : decode cL_ticks 230 = .ok (.aload_n 0, 1) := by decide +kernel
theorem dL_ticks_231 : decode cL_ticks 231 = .ok (.iload_n 1, 1) := by decide +kernel
theorem dL_ticks_232 : decode cL_ticks 232 = .ok (.invokevirtual 93, 3) := by decide +kernel
theorem dL_ticks_235 : decode cL_ticks 235 = .ok (.iload 10, 2) := by decide +kernel
theorem dL_ticks_237 : decode cL_ticks 237 = .ok (.if_icmp .ne 7, 3) := by decide +kernel
theorem dL_ticks_240 : decode cL_ticks 240 = .ok (.iconst 1, 1) := by decide +kernel
theorem dL_ticks_241 : decode cL_ticks 241 = .ok (.goto 4, 3) := by decide +kernel
theorem dL_ticks_244 : decode cL_ticks 244 = .ok (.iconst 0, 1) := by decide +kernel
theorem dL_ticks_245 : decode cL_ticks 245 = .ok (.ireturn, 1) := by decide +kernel
theorem dL_refuses_0 : decode cL_refuses 0 = .ok (.aload_n 0, 1) := by decide +kernel
theorem dL_refuses_1 : decode cL_refuses 1 = .ok (.bipush 14, 2) := by decide +kernel
theorem dL_refuses_3 : decode cL_refuses 3 = .ok (.invokevirtual 9, 3) := by decide +kernel
theorem dL_refuses_6 : decode cL_refuses 6 = .ok (.istore_n 1, 1) := by decide +kernel
theorem dL_refuses_7 : decode cL_refuses 7 = .ok (.aload_n 0, 1) := by decide +kernel
theorem dL_refuses_8 : decode cL_refuses 8 = .ok (.iconst 3, 1) := by decide +kernel
theorem dL_refuses_9 : decode cL_refuses 9 = .ok (.invokevirtual 9, 3) := by decide +kernel
theorem dL_refuses_12 : decode cL_refuses 12 = .ok (.istore_n 2, 1) := by decide +kernel
theorem dL_refuses_13 : decode cL_refuses 13 = .ok (.aload_n 0, 1) := by decide +kernel
theorem dL_refuses_14 : decode cL_refuses 14 = .ok (.iconst 0, 1) := by decide +kernel
theorem dL_refuses_15 : decode cL_refuses 15 = .ok (.invokevirtual 9, 3) := by decide +kernel
theorem dL_refuses_18 : decode cL_refuses 18 = .ok (.istore_n 3, 1) := by decide +kernel
theorem dL_refuses_19 : decode cL_refuses 19 = .ok (.aload_n 0, 1) := by decide +kernel
theorem dL_refuses_20 : decode cL_refuses 20 = .ok (.iconst 4, 1) := by decide +kernel
theorem dL_refuses_21 : decode cL_refuses 21 = .ok (.iconst 1, 1) := by decide +kernel
theorem dL_refuses_22 : decode cL_refuses 22 = .ok (.invokevirtual 96, 3) := by decide +kernel
theorem dL_refuses_25 : decode cL_refuses 25 = .ok (.iconst (-1), 1) := by decide +kernel
theorem dL_refuses_26 : decode cL_refuses 26 = .ok (.if_icmp .ne 160, 3) := by decide +kernel
theorem dL_refuses_29 : decode cL_refuses 29 = .ok (.aload_n 0, 1) := by decide +kernel
theorem dL_refuses_30 : decode cL_refuses 30 = .ok (.iconst 0, 1) := by decide +kernel
theorem dL_refuses_31 : decode cL_refuses 31 = .ok (.sipush 10001, 3) := by decide +kernel
theorem dL_refuses_34 : decode cL_refuses 34 = .ok (.invokevirtual 96, 3) := by decide +kernel
theorem dL_refuses_37 : decode cL_refuses 37 = .ok (.iconst (-1), 1) := by decide +kernel
theorem dL_refuses_38 : decode cL_refuses 38 = .ok (.if_icmp .ne 148, 3) := by decide +kernel
theorem dL_refuses_41 : decode cL_refuses 41 = .ok (.aload_n 0, 1) := by decide +kernel
theorem dL_refuses_42 : decode cL_refuses 42 = .ok (.iload_n 3, 1) := by decide +kernel
theorem dL_refuses_43 : decode cL_refuses 43 = .ok (.invokevirtual 84, 3) := by decide +kernel
theorem dL_refuses_46 : decode cL_refuses 46 = .ok (.iconst (-1), 1) := by decide +kernel
theorem dL_refuses_47 : decode cL_refuses 47 = .ok (.if_icmp .ne 139, 3) := by decide +kernel
theorem dL_refuses_50 : decode cL_refuses 50 = .ok (.aload_n 0, 1) := by decide +kernel
theorem dL_refuses_51 : decode cL_refuses 51 = .ok (.iconst (-1), 1) := by decide +kernel
theorem dL_refuses_52 : decode cL_refuses 52 = .ok (.invokevirtual 87, 3) := by decide +kernel
theorem dL_refuses_55 : decode cL_refuses 55 = .ok (.iconst (-1), 1) := by decide +kernel
theorem dL_refuses_56 : decode cL_refuses 56 = .ok (.if_icmp .ne 130, 3) := by decide +kernel
theorem dL_refuses_59 : decode cL_refuses 59 = .ok (.aload_n 0, 1) := by decide +kernel
theorem dL_refuses_60 : decode cL_refuses 60 = .ok (.iload_n 3, 1) := by decide +kernel
theorem dL_refuses_61 : decode cL_refuses 61 = .ok (.iconst 0, 1) := by decide +kernel
theorem dL_refuses_62 : decode cL_refuses 62 = .ok (.invokevirtual 15, 3) := by decide +kernel
theorem dL_refuses_65 : decode cL_refuses 65 = .ok (.iconst (-1), 1) := by decide +kernel
theorem dL_refuses_66 : decode cL_refuses 66 = .ok (.if_icmp .ne 120, 3) := by decide +kernel
theorem dL_refuses_69 : decode cL_refuses 69 = .ok (.aload_n 0, 1) := by decide +kernel
theorem dL_refuses_70 : decode cL_refuses 70 = .ok (.iconst 3, 1) := by decide +kernel
theorem dL_refuses_71 : decode cL_refuses 71 = .ok (.invokevirtual 34, 3) := by decide +kernel
theorem dL_refuses_74 : decode cL_refuses 74 = .ok (.iconst (-1), 1) := by decide +kernel
theorem dL_refuses_75 : decode cL_refuses 75 = .ok (.if_icmp .ne 111, 3) := by decide +kernel
theorem dL_refuses_78 : decode cL_refuses 78 = .ok (.aload_n 0, 1) := by decide +kernel
theorem dL_refuses_79 : decode cL_refuses 79 = .ok (.bipush 31, 2) := by decide +kernel
theorem dL_refuses_81 : decode cL_refuses 81 = .ok (.invokevirtual 99, 3) := by decide +kernel
theorem dL_refuses_84 : decode cL_refuses 84 = .ok (.iconst (-1), 1) := by decide +kernel
theorem dL_refuses_85 : decode cL_refuses 85 = .ok (.if_icmp .ne 101, 3) := by decide +kernel
theorem dL_refuses_88 : decode cL_refuses 88 = .ok (.aload_n 0, 1) := by decide +kernel
theorem dL_refuses_89 : decode cL_refuses 89 = .ok (.bipush 6, 2) := by decide +kernel
theorem dL_refuses_91 : decode cL_refuses 91 = .ok (.invokevirtual 57, 3) := by decide +kernel
theorem dL_refuses_94 : decode cL_refuses 94 = .ok (.iconst (-1), 1) := by decide +kernel
theorem dL_refuses_95 : decode cL_refuses 95 = .ok (.if_icmp .ne 91, 3) := by decide +kernel
theorem dL_refuses_98 : decode cL_refuses 98 = .ok (.aload_n 0, 1) := by decide +kernel
theorem dL_refuses_99 : decode cL_refuses 99 = .ok (.iconst (-1), 1) := by decide +kernel
theorem dL_refuses_100 : decode cL_refuses 100 = .ok (.invokevirtual 24, 3) := by decide +kernel
theorem dL_refuses_103 : decode cL_refuses 103 = .ok (.iconst (-1), 1) := by decide +kernel
theorem dL_refuses_104 : decode cL_refuses 104 = .ok (.if_icmp .ne 82, 3) := by decide +kernel
theorem dL_refuses_107 : decode cL_refuses 107 = .ok (.aload_n 0, 1) := by decide +kernel
theorem dL_refuses_108 : decode cL_refuses 108 = .ok (.iconst 0, 1) := by decide +kernel
theorem dL_refuses_109 : decode cL_refuses 109 = .ok (.iconst 0, 1) := by decide +kernel
theorem dL_refuses_110 : decode cL_refuses 110 = .ok (.iconst 0, 1) := by decide +kernel
theorem dL_refuses_111 : decode cL_refuses 111 = .ok (.iconst 0, 1) := by decide +kernel
theorem dL_refuses_112 : decode cL_refuses 112 = .ok (.invokevirtual 30, 3) := by decide +kernel
theorem dL_refuses_115 : decode cL_refuses 115 = .ok (.iconst (-1), 1) := by decide +kernel
theorem dL_refuses_116 : decode cL_refuses 116 = .ok (.if_icmp .ne 70, 3) := by decide +kernel
theorem dL_refuses_119 : decode cL_refuses 119 = .ok (.aload_n 0, 1) := by decide +kernel
theorem dL_refuses_120 : decode cL_refuses 120 = .ok (.bipush 6, 2) := by decide +kernel
theorem dL_refuses_122 : decode cL_refuses 122 = .ok (.iconst 1, 1) := by decide +kernel
theorem dL_refuses_123 : decode cL_refuses 123 = .ok (.iconst 0, 1) := by decide +kernel
theorem dL_refuses_124 : decode cL_refuses 124 = .ok (.iconst 0, 1) := by decide +kernel
theorem dL_refuses_125 : decode cL_refuses 125 = .ok (.invokevirtual 30, 3) := by decide +kernel
theorem dL_refuses_128 : decode cL_refuses 128 = .ok (.iconst (-1), 1) := by decide +kernel
theorem dL_refuses_129 : decode cL_refuses 129 = .ok (.if_icmp .ne 57, 3) := by decide +kernel
theorem dL_refuses_132 : decode cL_refuses 132 = .ok (.aload_n 0, 1) := by decide +kernel
theorem dL_refuses_133 : decode cL_refuses 133 = .ok (.iconst 0, 1) := by decide +kernel
theorem dL_refuses_134 : decode cL_refuses 134 = .ok (.iconst 0, 1) := by decide +kernel
theorem dL_refuses_135 : decode cL_refuses 135 = .ok (.iconst 0, 1) := by decide +kernel
theorem dL_refuses_136 : decode cL_refuses 136 = .ok (.iconst (-1), 1) := by decide +kernel
theorem dL_refuses_137 : decode cL_refuses 137 = .ok (.invokevirtual 102, 3) := by decide +kernel
theorem dL_refuses_140 : decode cL_refuses 140 = .ok (.iconst (-1), 1) := by decide +kernel
theorem dL_refuses_141 : decode cL_refuses 141 = .ok (.if_icmp .ne 45, 3) := by decide +kernel
theorem dL_refuses_144 : decode cL_refuses 144 = .ok (.aload_n 0, 1) := by decide +kernel
theorem dL_refuses_145 : decode cL_refuses 145 = .ok (.iconst 0, 1) := by decide +kernel
theorem dL_refuses_146 : decode cL_refuses 146 = .ok (.iconst 1, 1) := by decide +kernel
theorem dL_refuses_147 : decode cL_refuses 147 = .ok (.iconst 0, 1) := by decide +kernel
theorem dL_refuses_148 : decode cL_refuses 148 = .ok (.iload_n 2, 1) := by decide +kernel
theorem dL_refuses_149 : decode cL_refuses 149 = .ok (.invokevirtual 102, 3) := by decide +kernel
theorem dL_refuses_152 : decode cL_refuses 152 = .ok (.iconst (-1), 1) := by decide +kernel
theorem dL_refuses_153 : decode cL_refuses 153 = .ok (.if_icmp .ne 33, 3) := by decide +kernel
theorem dL_refuses_156 : decode cL_refuses 156 = .ok (.aload_n 0, 1) := by decide +kernel
theorem dL_refuses_157 : decode cL_refuses 157 = .ok (.iconst 0, 1) := by decide +kernel
theorem dL_refuses_158 : decode cL_refuses 158 = .ok (.iconst 1, 1) := by decide +kernel
theorem dL_refuses_159 : decode cL_refuses 159 = .ok (.iconst 0, 1) := by decide +kernel
theorem dL_refuses_160 : decode cL_refuses 160 = .ok (.bipush (-2), 2) := by decide +kernel
theorem dL_refuses_162 : decode cL_refuses 162 = .ok (.invokevirtual 102, 3) := by decide +kernel
theorem dL_refuses_165 : decode cL_refuses 165 = .ok (.iconst (-1), 1) := by decide +kernel
theorem dL_refuses_166 : decode cL_refuses 166 = .ok (.if_icmp .ne 20, 3) := by decide +kernel
theorem dL_refuses_169 : decode cL_refuses 169 = .ok (.aload_n 0, 1) := by decide +kernel
theorem dL_refuses_170 : decode cL_refuses 170 = .ok (.iconst 5, 1) := by decide +kernel
theorem dL_refuses_171 : decode cL_refuses 171 = .ok (.iconst 1, 1) := by decide +kernel
theorem dL_refuses_172 : decode cL_refuses 172 = .ok (.iconst 0, 1) := by decide +kernel
theorem dL_refuses_173 : decode cL_refuses 173 = .ok (.iconst (-1), 1) := by decide +kernel
theorem dL_refuses_174 : decode cL_refuses 174 = .ok (.invokevirtual 102, 3) := by decide +kernel
theorem dL_refuses_177 : decode cL_refuses 177 = .ok (.bipush (-2), 2) := by decide +kernel
theorem dL_refuses_179 : decode cL_refuses 179 = .ok (.if_icmp .ne 7, 3) := by decide +kernel
theorem dL_refuses_182 : decode cL_refuses 182 = .ok (.iconst 1, 1) := by decide +kernel
theorem dL_refuses_183 : decode cL_refuses 183 = .ok (.goto 4, 3) := by decide +kernel
theorem dL_refuses_186 : decode cL_refuses 186 = .ok (.iconst 0, 1) := by decide +kernel
theorem dL_refuses_187 : decode cL_refuses 187 = .ok (.istore 4, 2) := by decide +kernel
theorem dL_refuses_189 : decode cL_refuses 189 = .ok (.iload 4, 2) := by decide +kernel
theorem dL_refuses_191 : decode cL_refuses 191 = .ok (.ifCond .eq 168, 3) := by decide +kernel
theorem dL_refuses_194 : decode cL_refuses 194 = .ok (.aload_n 0, 1) := by decide +kernel
theorem dL_refuses_195 : decode cL_refuses 195 = .ok (.iload_n 2, 1) := by decide +kernel
theorem dL_refuses_196 : decode cL_refuses 196 = .ok (.invokevirtual 63, 3) := by decide +kernel
theorem dL_refuses_199 : decode cL_refuses 199 = .ok (.iconst (-1), 1) := by decide +kernel
theorem dL_refuses_200 : decode cL_refuses 200 = .ok (.if_icmp .ne 159, 3) := by decide +kernel
theorem dL_refuses_203 : decode cL_refuses 203 = .ok (.aload_n 0, 1) := by decide +kernel
theorem dL_refuses_204 : decode cL_refuses 204 = .ok (.iconst (-1), 1) := by decide +kernel
theorem dL_refuses_205 : decode cL_refuses 205 = .ok (.invokevirtual 66, 3) := by decide +kernel
theorem dL_refuses_208 : decode cL_refuses 208 = .ok (.iconst (-1), 1) := by decide +kernel
theorem dL_refuses_209 : decode cL_refuses 209 = .ok (.if_icmp .ne 150, 3) := by decide +kernel
theorem dL_refuses_212 : decode cL_refuses 212 = .ok (.aload_n 0, 1) := by decide +kernel
theorem dL_refuses_213 : decode cL_refuses 213 = .ok (.iload_n 2, 1) := by decide +kernel
theorem dL_refuses_214 : decode cL_refuses 214 = .ok (.invokevirtual 72, 3) := by decide +kernel
theorem dL_refuses_217 : decode cL_refuses 217 = .ok (.iconst (-1), 1) := by decide +kernel
theorem dL_refuses_218 : decode cL_refuses 218 = .ok (.if_icmp .ne 141, 3) := by decide +kernel
theorem dL_refuses_221 : decode cL_refuses 221 = .ok (.aload_n 0, 1) := by decide +kernel
theorem dL_refuses_222 : decode cL_refuses 222 = .ok (.iload_n 2, 1) := by decide +kernel
theorem dL_refuses_223 : decode cL_refuses 223 = .ok (.invokevirtual 75, 3) := by decide +kernel
theorem dL_refuses_226 : decode cL_refuses 226 = .ok (.iconst (-1), 1) := by decide +kernel
theorem dL_refuses_227 : decode cL_refuses 227 = .ok (.if_icmp .ne 132, 3) := by decide +kernel
theorem dL_refuses_230 : decode cL_refuses 230 = .ok (.aload_n 0, 1) := by decide +kernel
theorem dL_refuses_231 : decode cL_refuses 231 = .ok (.iload_n 2, 1) := by decide +kernel
theorem dL_refuses_232 : decode cL_refuses 232 = .ok (.invokevirtual 81, 3) := by decide +kernel
theorem dL_refuses_235 : decode cL_refuses 235 = .ok (.iconst (-1), 1) := by decide +kernel
theorem dL_refuses_236 : decode cL_refuses 236 = .ok (.if_icmp .ne 123, 3) := by decide +kernel
theorem dL_refuses_239 : decode cL_refuses 239 = .ok (.aload_n 0, 1) := by decide +kernel
theorem dL_refuses_240 : decode cL_refuses 240 = .ok (.iload_n 2, 1) := by decide +kernel
theorem dL_refuses_241 : decode cL_refuses 241 = .ok (.iconst 0, 1) := by decide +kernel
theorem dL_refuses_242 : decode cL_refuses 242 = .ok (.invokevirtual 78, 3) := by decide +kernel
theorem dL_refuses_245 : decode cL_refuses 245 = .ok (.iconst (-1), 1) := by decide +kernel
theorem dL_refuses_246 : decode cL_refuses 246 = .ok (.if_icmp .ne 113, 3) := by decide +kernel
theorem dL_refuses_249 : decode cL_refuses 249 = .ok (.aload_n 0, 1) := by decide +kernel
theorem dL_refuses_250 : decode cL_refuses 250 = .ok (.iload_n 2, 1) := by decide +kernel
theorem dL_refuses_251 : decode cL_refuses 251 = .ok (.iconst 0, 1) := by decide +kernel
theorem dL_refuses_252 : decode cL_refuses 252 = .ok (.invokevirtual 21, 3) := by decide +kernel
theorem dL_refuses_255 : decode cL_refuses 255 = .ok (.iconst (-1), 1) := by decide +kernel
theorem dL_refuses_256 : decode cL_refuses 256 = .ok (.if_icmp .ne 103, 3) := by decide +kernel
theorem dL_refuses_259 : decode cL_refuses 259 = .ok (.aload_n 0, 1) := by decide +kernel
theorem dL_refuses_260 : decode cL_refuses 260 = .ok (.iload_n 2, 1) := by decide +kernel
theorem dL_refuses_261 : decode cL_refuses 261 = .ok (.invokevirtual 27, 3) := by decide +kernel
theorem dL_refuses_264 : decode cL_refuses 264 = .ok (.iconst (-1), 1) := by decide +kernel
theorem dL_refuses_265 : decode cL_refuses 265 = .ok (.if_icmp .ne 94, 3) := by decide +kernel
theorem dL_refuses_268 : decode cL_refuses 268 = .ok (.aload_n 0, 1) := by decide +kernel
theorem dL_refuses_269 : decode cL_refuses 269 = .ok (.iconst (-1), 1) := by decide +kernel
theorem dL_refuses_270 : decode cL_refuses 270 = .ok (.invokevirtual 37, 3) := by decide +kernel
theorem dL_refuses_273 : decode cL_refuses 273 = .ok (.iconst (-1), 1) := by decide +kernel
theorem dL_refuses_274 : decode cL_refuses 274 = .ok (.if_icmp .ne 85, 3) := by decide +kernel
theorem dL_refuses_277 : decode cL_refuses 277 = .ok (.aload_n 0, 1) := by decide +kernel
theorem dL_refuses_278 : decode cL_refuses 278 = .ok (.iconst 0, 1) := by decide +kernel
theorem dL_refuses_279 : decode cL_refuses 279 = .ok (.invokevirtual 93, 3) := by decide +kernel
theorem dL_refuses_282 : decode cL_refuses 282 = .ok (.iconst (-1), 1) := by decide +kernel
theorem dL_refuses_283 : decode cL_refuses 283 = .ok (.if_icmp .ne 76, 3) := by decide +kernel
theorem dL_refuses_286 : decode cL_refuses 286 = .ok (.aload_n 0, 1) := by decide +kernel
theorem dL_refuses_287 : decode cL_refuses 287 = .ok (.sipush 501, 3) := by decide +kernel
theorem dL_refuses_290 : decode cL_refuses 290 = .ok (.invokevirtual 93, 3) := by decide +kernel
theorem dL_refuses_293 : decode cL_refuses 293 = .ok (.iconst (-1), 1) := by decide +kernel
theorem dL_refuses_294 : decode cL_refuses 294 = .ok (.if_icmp .ne 65, 3) := by decide +kernel
theorem dL_refuses_297 : decode cL_refuses 297 = .ok (.aload_n 0, 1) := by decide +kernel
theorem dL_refuses_298 : decode cL_refuses 298 = .ok (.iload_n 2, 1) := by decide +kernel
theorem dL_refuses_299 : decode cL_refuses 299 = .ok (.invokevirtual 90, 3) := by decide +kernel
theorem dL_refuses_302 : decode cL_refuses 302 = .ok (.iconst (-1), 1) := by decide +kernel
theorem dL_refuses_303 : decode cL_refuses 303 = .ok (.if_icmp .ne 56, 3) := by decide +kernel
theorem dL_refuses_306 : decode cL_refuses 306 = .ok (.aload_n 0, 1) := by decide +kernel
theorem dL_refuses_307 : decode cL_refuses 307 = .ok (.bipush 18, 2) := by decide +kernel
theorem dL_refuses_309 : decode cL_refuses 309 = .ok (.invokevirtual 9, 3) := by decide +kernel
theorem dL_refuses_312 : decode cL_refuses 312 = .ok (.iconst (-1), 1) := by decide +kernel
theorem dL_refuses_313 : decode cL_refuses 313 = .ok (.if_icmp .ne 46, 3) := by decide +kernel
theorem dL_refuses_316 : decode cL_refuses 316 = .ok (.aload_n 0, 1) := by decide +kernel
theorem dL_refuses_317 : decode cL_refuses 317 = .ok (.iconst (-1), 1) := by decide +kernel
theorem dL_refuses_318 : decode cL_refuses 318 = .ok (.iconst 0, 1) := by decide +kernel
theorem dL_refuses_319 : decode cL_refuses 319 = .ok (.invokevirtual 40, 3) := by decide +kernel
theorem dL_refuses_322 : decode cL_refuses 322 = .ok (.iconst (-1), 1) := by decide +kernel
theorem dL_refuses_323 : decode cL_refuses 323 = .ok (.if_icmp .ne 36, 3) := by decide +kernel
theorem dL_refuses_326 : decode cL_refuses 326 = .ok (.aload_n 0, 1) := by decide +kernel
theorem dL_refuses_327 : decode cL_refuses 327 = .ok (.iconst 0, 1) := by decide +kernel
theorem dL_refuses_328 : decode cL_refuses 328 = .ok (.iconst 3, 1) := by decide +kernel
theorem dL_refuses_329 : decode cL_refuses 329 = .ok (.invokevirtual 40, 3) := by decide +kernel
theorem dL_refuses_332 : decode cL_refuses 332 = .ok (.iconst (-1), 1) := by decide +kernel
theorem dL_refuses_333 : decode cL_refuses 333 = .ok (.if_icmp .ne 26, 3) := by decide +kernel
theorem dL_refuses_336 : decode cL_refuses 336 = .ok (.aload_n 0, 1) := by decide +kernel
theorem dL_refuses_337 : decode cL_refuses 337 = .ok (.bipush 31, 2) := by decide +kernel
theorem dL_refuses_339 : decode cL_refuses 339 = .ok (.invokevirtual 43, 3) := by decide +kernel
theorem dL_refuses_342 : decode cL_refuses 342 = .ok (.iconst (-1), 1) := by decide +kernel
theorem dL_refuses_343 : decode cL_refuses 343 = .ok (.if_icmp .ne 16, 3) := by decide +kernel
theorem dL_refuses_346 : decode cL_refuses 346 = .ok (.aload_n 0, 1) := by decide +kernel
theorem dL_refuses_347 : decode cL_refuses 347 = .ok (.iconst 2, 1) := by decide +kernel
theorem dL_refuses_348 : decode cL_refuses 348 = .ok (.invokevirtual 60, 3) := by decide +kernel
theorem dL_refuses_351 : decode cL_refuses 351 = .ok (.iconst (-1), 1) := by decide +kernel
theorem dL_refuses_352 : decode cL_refuses 352 = .ok (.if_icmp .ne 7, 3) := by decide +kernel
theorem dL_refuses_355 : decode cL_refuses 355 = .ok (.iconst 1, 1) := by decide +kernel
theorem dL_refuses_356 : decode cL_refuses 356 = .ok (.goto 4, 3) := by decide +kernel
theorem dL_refuses_359 : decode cL_refuses 359 = .ok (.iconst 0, 1) := by decide +kernel
theorem dL_refuses_360 : decode cL_refuses 360 = .ok (.istore 4, 2) := by decide +kernel
theorem dL_refuses_362 : decode cL_refuses 362 = .ok (.iload 4, 2) := by decide +kernel
theorem dL_refuses_364 : decode cL_refuses 364 = .ok (.ifCond .eq 26, 3) := by decide +kernel
theorem dL_refuses_367 : decode cL_refuses 367 = .ok (.aload_n 0, 1) := by decide +kernel
theorem dL_refuses_368 : decode cL_refuses 368 = .ok (.bipush 14, 2) := by decide +kernel
theorem dL_refuses_370 : decode cL_refuses 370 = .ok (.invokevirtual 9, 3) := by decide +kernel
theorem dL_refuses_373 : decode cL_refuses 373 = .ok (.iload_n 1, 1) := by decide +kernel
theorem dL_refuses_374 : decode cL_refuses 374 = .ok (.if_icmp .ne 16, 3) := by decide +kernel
theorem dL_refuses_377 : decode cL_refuses 377 = .ok (.aload_n 0, 1) := by decide +kernel
theorem dL_refuses_378 : decode cL_refuses 378 = .ok (.iconst 3, 1) := by decide +kernel
theorem dL_refuses_379 : decode cL_refuses 379 = .ok (.invokevirtual 9, 3) := by decide +kernel
theorem dL_refuses_382 : decode cL_refuses 382 = .ok (.iload_n 2, 1) := by decide +kernel
theorem dL_refuses_383 : decode cL_refuses 383 = .ok (.if_icmp .ne 7, 3) := by decide +kernel
theorem dL_refuses_386 : decode cL_refuses 386 = .ok (.iconst 1, 1) := by decide +kernel
theorem dL_refuses_387 : decode cL_refuses 387 = .ok (.goto 4, 3) := by decide +kernel
theorem dL_refuses_390 : decode cL_refuses 390 = .ok (.iconst 0, 1) := by decide +kernel
theorem dL_refuses_391 : decode cL_refuses 391 = .ok (.ireturn, 1) := by decide +kernel
theorem dL_law_0 : decode cL_law 0 = .ok (.new 10, 3) := by decide +kernel
theorem dL_law_3 : decode cL_law 3 = .ok (.dup, 1) := by decide +kernel
theorem dL_law_4 : decode cL_law 4 = .ok (.invokespecial 105, 3) := by decide +kernel
theorem dL_law_7 : decode cL_law 7 = .ok (.astore_n 1, 1) := by decide +kernel
theorem dL_law_8 : decode cL_law 8 = .ok (.aload_n 1, 1) := by decide +kernel
theorem dL_law_9 : decode cL_law 9 = .ok (.invokestatic 106, 3) := by decide +kernel
theorem dL_law_12 : decode cL_law 12 = .ok (.ifCond .eq 43, 3) := by decide +kernel
theorem dL_law_15 : decode cL_law 15 = .ok (.aload_n 1, 1) := by decide +kernel
theorem dL_law_16 : decode cL_law 16 = .ok (.invokevirtual 69, 3) := by decide +kernel
theorem dL_law_19 : decode cL_law 19 = .ok (.bipush (-2), 2) := by decide +kernel
theorem dL_law_21 : decode cL_law 21 = .ok (.if_icmp .ne 34, 3) := by decide +kernel
theorem dL_law_24 : decode cL_law 24 = .ok (.aload_n 1, 1) := by decide +kernel
theorem dL_law_25 : decode cL_law 25 = .ok (.invokestatic 110, 3) := by decide +kernel
theorem dL_law_28 : decode cL_law 28 = .ok (.ifCond .eq 27, 3) := by decide +kernel
theorem dL_law_31 : decode cL_law 31 = .ok (.aload_n 1, 1) := by decide +kernel
theorem dL_law_32 : decode cL_law 32 = .ok (.invokestatic 113, 3) := by decide +kernel
theorem dL_law_35 : decode cL_law 35 = .ok (.ifCond .eq 20, 3) := by decide +kernel
theorem dL_law_38 : decode cL_law 38 = .ok (.aload_n 1, 1) := by decide +kernel
theorem dL_law_39 : decode cL_law 39 = .ok (.iconst 0, 1) := by decide +kernel
theorem dL_law_40 : decode cL_law 40 = .ok (.invokevirtual 60, 3) := by decide +kernel
theorem dL_law_43 : decode cL_law 43 = .ok (.ifCond .ne 12, 3) := by decide +kernel
theorem dL_law_46 : decode cL_law 46 = .ok (.aload_n 1, 1) := by decide +kernel
theorem dL_law_47 : decode cL_law 47 = .ok (.iconst 1, 1) := by decide +kernel
theorem dL_law_48 : decode cL_law 48 = .ok (.invokevirtual 60, 3) := by decide +kernel
theorem dL_law_51 : decode cL_law 51 = .ok (.iconst 3, 1) := by decide +kernel
theorem dL_law_52 : decode cL_law 52 = .ok (.if_icmp .eq 5, 3) := by decide +kernel
theorem dL_law_55 : decode cL_law 55 = .ok (.iconst 0, 1) := by decide +kernel
theorem dL_law_56 : decode cL_law 56 = .ok (.ireturn, 1) := by decide +kernel
theorem dL_law_57 : decode cL_law 57 = .ok (.iconst 0, 1) := by decide +kernel
theorem dL_law_58 : decode cL_law 58 = .ok (.istore_n 2, 1) := by decide +kernel
theorem dL_law_59 : decode cL_law 59 = .ok (.iload_n 2, 1) := by decide +kernel
theorem dL_law_60 : decode cL_law 60 = .ok (.bipush 80, 2) := by decide +kernel
theorem dL_law_62 : decode cL_law 62 = .ok (.if_icmp .ge 604, 3) := by decide +kernel
theorem dL_law_65 : decode cL_law 65 = .ok (.aload_n 0, 1) := by decide +kernel
theorem dL_law_66 : decode cL_law 66 = .ok (.iconst 2, 1) := by decide +kernel
theorem dL_law_67 : decode cL_law 67 = .ok (.iload_n 2, 1) := by decide +kernel
theorem dL_law_68 : decode cL_law 68 = .ok (.imul, 1) := by decide +kernel
theorem dL_law_69 : decode cL_law 69 = .ok (.invokestatic 116, 3) := by decide +kernel
theorem dL_law_72 : decode cL_law 72 = .ok (.istore_n 3, 1) := by decide +kernel
theorem dL_law_73 : decode cL_law 73 = .ok (.aload_n 0, 1) := by decide +kernel
theorem dL_law_74 : decode cL_law 74 = .ok (.iconst 2, 1) := by decide +kernel
theorem dL_law_75 : decode cL_law 75 = .ok (.iload_n 2, 1) := by decide +kernel
theorem dL_law_76 : decode cL_law 76 = .ok (.imul, 1) := by decide +kernel
theorem dL_law_77 : decode cL_law 77 = .ok (.iconst 1, 1) := by decide +kernel
theorem dL_law_78 : decode cL_law 78 = .ok (.iadd, 1) := by decide +kernel
theorem dL_law_79 : decode cL_law 79 = .ok (.invokestatic 116, 3) := by decide +kernel
theorem dL_law_82 : decode cL_law 82 = .ok (.istore 4, 2) := by decide +kernel
theorem dL_law_84 : decode cL_law 84 = .ok (.aload_n 1, 1) := by decide +kernel
theorem dL_law_85 : decode cL_law 85 = .ok (.iconst 0, 1) := by decide +kernel
theorem dL_law_86 : decode cL_law 86 = .ok (.invokevirtual 9, 3) := by decide +kernel
theorem dL_law_89 : decode cL_law 89 = .ok (.istore 5, 2) := by decide +kernel
theorem dL_law_91 : decode cL_law 91 = .ok (.aload_n 1, 1) := by decide +kernel
theorem dL_law_92 : decode cL_law 92 = .ok (.iconst 3, 1) := by decide +kernel
theorem dL_law_93 : decode cL_law 93 = .ok (.invokevirtual 9, 3) := by decide +kernel
theorem dL_law_96 : decode cL_law 96 = .ok (.istore 6, 2) := by decide +kernel
theorem dL_law_98 : decode cL_law 98 = .ok (.iload_n 2, 1) := by decide +kernel
theorem dL_law_99 : decode cL_law 99 = .ok (.iconst 4, 1) := by decide +kernel
theorem dL_law_100 : decode cL_law 100 = .ok (.if_icmp .ge 7, 3) := by decide +kernel
theorem dL_law_103 : decode cL_law 103 = .ok (.iconst 0, 1) := by decide +kernel
theorem dL_law_104 : decode cL_law 104 = .ok (.goto 29, 3) := by decide +kernel
theorem dL_law_107 : decode cL_law 107 = .ok (.iload_n 2, 1) := by decide +kernel
theorem dL_law_108 : decode cL_law 108 = .ok (.bipush 6, 2) := by decide +kernel
theorem dL_law_110 : decode cL_law 110 = .ok (.if_icmp .ge 7, 3) := by decide +kernel
theorem dL_law_113 : decode cL_law 113 = .ok (.iconst 1, 1) := by decide +kernel
theorem dL_law_114 : decode cL_law 114 = .ok (.goto 19, 3) := by decide +kernel
theorem dL_law_117 : decode cL_law 117 = .ok (.iload_n 2, 1) := by decide +kernel
theorem dL_law_118 : decode cL_law 118 = .ok (.bipush 11, 2) := by decide +kernel
theorem dL_law_120 : decode cL_law 120 = .ok (.if_icmp .ge 7, 3) := by decide +kernel
theorem dL_law_123 : decode cL_law 123 = .ok (.iconst 2, 1) := by decide +kernel
theorem dL_law_124 : decode cL_law 124 = .ok (.goto 9, 3) := by decide +kernel
theorem dL_law_127 : decode cL_law 127 = .ok (.iload_n 3, 1) := by decide +kernel
theorem dL_law_128 : decode cL_law 128 = .ok (.bipush 18, 2) := by decide +kernel
theorem dL_law_130 : decode cL_law 130 = .ok (.invokestatic 50, 3) := by decide +kernel
theorem dL_law_133 : decode cL_law 133 = .ok (.istore 7, 2) := by decide +kernel
theorem dL_law_135 : decode cL_law 135 = .ok (.iload 7, 2) := by decide +kernel
theorem dL_law_137 : decode cL_law 137 = .ok (.ifCond .ne 97, 3) := by decide +kernel
theorem dL_law_140 : decode cL_law 140 = .ok (.aload_n 1, 1) := by decide +kernel
theorem dL_law_141 : decode cL_law 141 = .ok (.iload 4, 2) := by decide +kernel
theorem dL_law_143 : decode cL_law 143 = .ok (.iconst 3, 1) := by decide +kernel
theorem dL_law_144 : decode cL_law 144 = .ok (.invokestatic 50, 3) := by decide +kernel
theorem dL_law_147 : decode cL_law 147 = .ok (.iload 4, 2) := by decide +kernel
theorem dL_law_149 : decode cL_law 149 = .ok (.iconst 2, 1) := by decide +kernel
theorem dL_law_150 : decode cL_law 150 = .ok (.ishr, 1) := by decide +kernel
theorem dL_law_151 : decode cL_law 151 = .ok (.iconst 4, 1) := by decide +kernel
theorem dL_law_152 : decode cL_law 152 = .ok (.invokestatic 50, 3) := by decide +kernel
theorem dL_law_155 : decode cL_law 155 = .ok (.ifCond .ne 8, 3) := by decide +kernel
theorem dL_law_158 : decode cL_law 158 = .ok (.bipush 60, 2) := by decide +kernel
theorem dL_law_160 : decode cL_law 160 = .ok (.goto 6, 3) := by decide +kernel
theorem dL_law_163 : decode cL_law 163 = .ok (.sipush 9999, 3) := by decide +kernel
theorem dL_law_166 : decode cL_law 166 = .ok (.invokevirtual 96, 3) := by decide +kernel
theorem dL_law_169 : decode cL_law 169 = .ok (.istore 8, 2) := by decide +kernel
theorem dL_law_171 : decode cL_law 171 = .ok (.iload 8, 2) := by decide +kernel
theorem dL_law_173 : decode cL_law 173 = .ok (.iload 5, 2) := by decide +kernel
theorem dL_law_175 : decode cL_law 175 = .ok (.bipush 8, 2) := by decide +kernel
theorem dL_law_177 : decode cL_law 177 = .ok (.if_icmp .ne 8, 3) := by decide +kernel
theorem dL_law_180 : decode cL_law 180 = .ok (.bipush (-3), 2) := by decide +kernel
theorem dL_law_182 : decode cL_law 182 = .ok (.goto 5, 3) := by decide +kernel
theorem dL_law_185 : decode cL_law 185 = .ok (.iload 5, 2) := by decide +kernel
theorem dL_law_187 : decode cL_law 187 = .ok (.if_icmp .ne 42, 3) := by decide +kernel
theorem dL_law_190 : decode cL_law 190 = .ok (.iload 8, 2) := by decide +kernel
theorem dL_law_192 : decode cL_law 192 = .ok (.ifCond .lt 39, 3) := by decide +kernel
theorem dL_law_195 : decode cL_law 195 = .ok (.aload_n 1, 1) := by decide +kernel
theorem dL_law_196 : decode cL_law 196 = .ok (.iload 8, 2) := by decide +kernel
theorem dL_law_198 : decode cL_law 198 = .ok (.bipush 6, 2) := by decide +kernel
theorem dL_law_200 : decode cL_law 200 = .ok (.invokevirtual 15, 3) := by decide +kernel
theorem dL_law_203 : decode cL_law 203 = .ok (.iconst 1, 1) := by decide +kernel
theorem dL_law_204 : decode cL_law 204 = .ok (.if_icmp .ne 25, 3) := by decide +kernel
theorem dL_law_207 : decode cL_law 207 = .ok (.aload_n 1, 1) := by decide +kernel
theorem dL_law_208 : decode cL_law 208 = .ok (.iload 8, 2) := by decide +kernel
theorem dL_law_210 : decode cL_law 210 = .ok (.iconst 2, 1) := by decide +kernel
theorem dL_law_211 : decode cL_law 211 = .ok (.invokevirtual 15, 3) := by decide +kernel
theorem dL_law_214 : decode cL_law 214 = .ok (.bipush (-4), 2) := by decide +kernel
theorem dL_law_216 : decode cL_law 216 = .ok (.if_icmp .ne 13, 3) := by decide +kernel
theorem dL_law_219 : decode cL_law 219 = .ok (.aload_n 1, 1) := by decide +kernel
theorem dL_law_220 : decode cL_law 220 = .ok (.iload 8, 2) := by decide +kernel
theorem dL_law_222 : decode cL_law 222 = .ok (.iconst 5, 1) := by decide +kernel
theorem dL_law_223 : decode cL_law 223 = .ok (.invokevirtual 15, 3) := by decide +kernel
theorem dL_law_226 : decode cL_law 226 = .ok (.ifCond .eq 5, 3) := by decide +kernel
theorem dL_law_229 : decode cL_law 229 = .ok (.iconst 0, 1) := by decide +kernel
theorem dL_law_230 : decode cL_law 230 = .ok (.ireturn, 1) := by decide +kernel
theorem dL_law_231 : decode cL_law 231 = .ok (.goto 406, 3) := by decide +kernel
theorem dL_law_234 : decode cL_law 234 = .ok (.iload 7, 2) := by decide +kernel
theorem dL_law_236 : decode cL_law 236 = .ok (.iconst 1, 1) := by decide +kernel
theorem dL_law_237 : decode cL_law 237 = .ok (.if_icmp .ne 22, 3) := by decide +kernel
theorem dL_law_240 : decode cL_law 240 = .ok (.aload_n 1, 1) := by decide +kernel
theorem dL_law_241 : decode cL_law 241 = .ok (.iload 4, 2) := by decide +kernel
theorem dL_law_243 : decode cL_law 243 = .ok (.iconst 2, 1) := by decide +kernel
theorem dL_law_244 : decode cL_law 244 = .ok (.invokestatic 50, 3) := by decide +kernel
theorem dL_law_247 : decode cL_law 247 = .ok (.iload 4, 2) := by decide +kernel
theorem dL_law_249 : decode cL_law 249 = .ok (.iconst 1, 1) := by decide +kernel
theorem dL_law_250 : decode cL_law 250 = .ok (.ishr, 1) := by decide +kernel
theorem dL_law_251 : decode cL_law 251 = .ok (.invokestatic 120, 3) := by decide +kernel
theorem dL_law_254 : decode cL_law 254 = .ok (.ifCond .ne 383, 3) := by decide +kernel
theorem dL_law_257 : decode cL_law 257 = .ok (.iconst 0, 1) := by decide +kernel
theorem dL_law_258 : decode cL_law 258 = .ok (.ireturn, 1) := by decide +kernel
theorem dL_law_259 : decode cL_law 259 = .ok (.iload 7, 2) := by decide +kernel
theorem dL_law_261 : decode cL_law 261 = .ok (.iconst 2, 1) := by decide +kernel
theorem dL_law_262 : decode cL_law 262 = .ok (.if_icmp .ne 222, 3) := by decide +kernel
theorem dL_law_265 : decode cL_law 265 = .ok (.iload 4, 2) := by decide +kernel
theorem dL_law_267 : decode cL_law 267 = .ok (.iconst 2, 1) := by decide +kernel
theorem dL_law_268 : decode cL_law 268 = .ok (.invokestatic 50, 3) := by decide +kernel
theorem dL_law_271 : decode cL_law 271 = .ok (.istore 8, 2) := by decide +kernel
theorem dL_law_273 : decode cL_law 273 = .ok (.iconst 1, 1) := by decide +kernel
theorem dL_law_274 : decode cL_law 274 = .ok (.iload 4, 2) := by decide +kernel
theorem dL_law_276 : decode cL_law 276 = .ok (.iconst 1, 1) := by decide +kernel
theorem dL_law_277 : decode cL_law 277 = .ok (.ishr, 1) := by decide +kernel
theorem dL_law_278 : decode cL_law 278 = .ok (.bipush 100, 2) := by decide +kernel
theorem dL_law_280 : decode cL_law 280 = .ok (.invokestatic 50, 3) := by decide +kernel
theorem dL_law_283 : decode cL_law 283 = .ok (.iadd, 1) := by decide +kernel
theorem dL_law_284 : decode cL_law 284 = .ok (.istore 9, 2) := by decide +kernel
theorem dL_law_286 : decode cL_law 286 = .ok (.iload 4, 2) := by decide +kernel
theorem dL_law_288 : decode cL_law 288 = .ok (.bipush 8, 2) := by decide +kernel
theorem dL_law_290 : decode cL_law 290 = .ok (.ishr, 1) := by decide +kernel
theorem dL_law_291 : decode cL_law 291 = .ok (.iconst 2, 1) := by decide +kernel
theorem dL_law_292 : decode cL_law 292 = .ok (.invokestatic 50, 3) := by decide +kernel
theorem dL_law_295 : decode cL_law 295 = .ok (.ifCond .eq 8, 3) := by decide +kernel
theorem dL_law_298 : decode cL_law 298 = .ok (.iload 6, 2) := by decide +kernel
theorem dL_law_300 : decode cL_law 300 = .ok (.ifCond .ne 7, 3) := by decide +kernel
theorem dL_law_303 : decode cL_law 303 = .ok (.iconst (-1), 1) := by decide +kernel
theorem dL_law_304 : decode cL_law 304 = .ok (.goto 13, 3) := by decide +kernel
theorem dL_law_307 : decode cL_law 307 = .ok (.iload 4, 2) := by decide +kernel
theorem dL_law_309 : decode cL_law 309 = .ok (.bipush 9, 2) := by decide +kernel
theorem dL_law_311 : decode cL_law 311 = .ok (.ishr, 1) := by decide +kernel
theorem dL_law_312 : decode cL_law 312 = .ok (.iload 6, 2) := by decide +kernel
theorem dL_law_314 : decode cL_law 314 = .ok (.invokestatic 50, 3) := by decide +kernel
theorem dL_law_317 : decode cL_law 317 = .ok (.istore 10, 2) := by decide +kernel
theorem dL_law_319 : decode cL_law 319 = .ok (.aload_n 1, 1) := by decide +kernel
theorem dL_law_320 : decode cL_law 320 = .ok (.iload 8, 2) := by decide +kernel
theorem dL_law_322 : decode cL_law 322 = .ok (.invokevirtual 24, 3) := by decide +kernel
theorem dL_law_325 : decode cL_law 325 = .ok (.ifCond .eq 30, 3) := by decide +kernel
theorem dL_law_328 : decode cL_law 328 = .ok (.iload 10, 2) := by decide +kernel
theorem dL_law_330 : decode cL_law 330 = .ok (.ifCond .lt 29, 3) := by decide +kernel
theorem dL_law_333 : decode cL_law 333 = .ok (.aload_n 1, 1) := by decide +kernel
theorem dL_law_334 : decode cL_law 334 = .ok (.iload 10, 2) := by decide +kernel
theorem dL_law_336 : decode cL_law 336 = .ok (.iconst 5, 1) := by decide +kernel
theorem dL_law_337 : decode cL_law 337 = .ok (.invokevirtual 21, 3) := by decide +kernel
theorem dL_law_340 : decode cL_law 340 = .ok (.iconst 4, 1) := by decide +kernel
theorem dL_law_341 : decode cL_law 341 = .ok (.if_icmp .eq 14, 3) := by decide +kernel
theorem dL_law_344 : decode cL_law 344 = .ok (.aload_n 1, 1) := by decide +kernel
theorem dL_law_345 : decode cL_law 345 = .ok (.iload 10, 2) := by decide +kernel
theorem dL_law_347 : decode cL_law 347 = .ok (.iconst 5, 1) := by decide +kernel
theorem dL_law_348 : decode cL_law 348 = .ok (.invokevirtual 21, 3) := by decide +kernel
theorem dL_law_351 : decode cL_law 351 = .ok (.iconst 5, 1) := by decide +kernel
theorem dL_law_352 : decode cL_law 352 = .ok (.if_icmp .ne 7, 3) := by decide +kernel
theorem dL_law_355 : decode cL_law 355 = .ok (.iconst 1, 1) := by decide +kernel
theorem dL_law_356 : decode cL_law 356 = .ok (.goto 4, 3) := by decide +kernel
theorem dL_law_359 : decode cL_law 359 = .ok (.iconst 0, 1) := by decide +kernel
theorem dL_law_360 : decode cL_law 360 = .ok (.istore 11, 2) := by decide +kernel
theorem dL_law_362 : decode cL_law 362 = .ok (.aload_n 1, 1) := by decide +kernel
theorem dL_law_363 : decode cL_law 363 = .ok (.iload 8, 2) := by decide +kernel
theorem dL_law_365 : decode cL_law 365 = .ok (.iload 9, 2) := by decide +kernel
theorem dL_law_367 : decode cL_law 367 = .ok (.iload 4, 2) := by decide +kernel
theorem dL_law_369 : decode cL_law 369 = .ok (.bipush 14, 2) := by decide +kernel
theorem dL_law_371 : decode cL_law 371 = .ok (.ishr, 1) := by decide +kernel
theorem dL_law_372 : decode cL_law 372 = .ok (.bipush 10, 2) := by decide +kernel
theorem dL_law_374 : decode cL_law 374 = .ok (.invokestatic 50, 3) := by decide +kernel
theorem dL_law_377 : decode cL_law 377 = .ok (.iload 10, 2) := by decide +kernel
theorem dL_law_379 : decode cL_law 379 = .ok (.invokevirtual 102, 3) := by decide +kernel
theorem dL_law_382 : decode cL_law 382 = .ok (.istore 12, 2) := by decide +kernel
theorem dL_law_384 : decode cL_law 384 = .ok (.iload 12, 2) := by decide +kernel
theorem dL_law_386 : decode cL_law 386 = .ok (.iload 11, 2) := by decide +kernel
theorem dL_law_388 : decode cL_law 388 = .ok (.ifCond .eq 8, 3) := by decide +kernel
theorem dL_law_391 : decode cL_law 391 = .ok (.bipush (-2), 2) := by decide +kernel
theorem dL_law_393 : decode cL_law 393 = .ok (.goto 17, 3) := by decide +kernel
theorem dL_law_396 : decode cL_law 396 = .ok (.iload 6, 2) := by decide +kernel
theorem dL_law_398 : decode cL_law 398 = .ok (.bipush 12, 2) := by decide +kernel
theorem dL_law_400 : decode cL_law 400 = .ok (.if_icmp .ne 8, 3) := by decide +kernel
theorem dL_law_403 : decode cL_law 403 = .ok (.bipush (-3), 2) := by decide +kernel
theorem dL_law_405 : decode cL_law 405 = .ok (.goto 5, 3) := by decide +kernel
theorem dL_law_408 : decode cL_law 408 = .ok (.iload 6, 2) := by decide +kernel
theorem dL_law_410 : decode cL_law 410 = .ok (.if_icmp .ne 69, 3) := by decide +kernel
theorem dL_law_413 : decode cL_law 413 = .ok (.iload 12, 2) := by decide +kernel
theorem dL_law_415 : decode cL_law 415 = .ok (.ifCond .lt 66, 3) := by decide +kernel
theorem dL_law_418 : decode cL_law 418 = .ok (.aload_n 1, 1) := by decide +kernel
theorem dL_law_419 : decode cL_law 419 = .ok (.iload 12, 2) := by decide +kernel
theorem dL_law_421 : decode cL_law 421 = .ok (.iconst 1, 1) := by decide +kernel
theorem dL_law_422 : decode cL_law 422 = .ok (.invokevirtual 21, 3) := by decide +kernel
theorem dL_law_425 : decode cL_law 425 = .ok (.aload_n 1, 1) := by decide +kernel
theorem dL_law_426 : decode cL_law 426 = .ok (.iload 8, 2) := by decide +kernel
theorem dL_law_428 : decode cL_law 428 = .ok (.invokevirtual 24, 3) := by decide +kernel
theorem dL_law_431 : decode cL_law 431 = .ok (.if_icmp .ne 48, 3) := by decide +kernel
theorem dL_law_434 : decode cL_law 434 = .ok (.aload_n 1, 1) := by decide +kernel
theorem dL_law_435 : decode cL_law 435 = .ok (.iload 12, 2) := by decide +kernel
theorem dL_law_437 : decode cL_law 437 = .ok (.bipush 11, 2) := by decide +kernel
theorem dL_law_439 : decode cL_law 439 = .ok (.invokevirtual 21, 3) := by decide +kernel
theorem dL_law_442 : decode cL_law 442 = .ok (.iload 9, 2) := by decide +kernel
theorem dL_law_444 : decode cL_law 444 = .ok (.if_icmp .ne 35, 3) := by decide +kernel
theorem dL_law_447 : decode cL_law 447 = .ok (.aload_n 1, 1) := by decide +kernel
theorem dL_law_448 : decode cL_law 448 = .ok (.iload 12, 2) := by decide +kernel
theorem dL_law_450 : decode cL_law 450 = .ok (.iconst 4, 1) := by decide +kernel
theorem dL_law_451 : decode cL_law 451 = .ok (.invokevirtual 21, 3) := by decide +kernel
theorem dL_law_454 : decode cL_law 454 = .ok (.iload 10, 2) := by decide +kernel
theorem dL_law_456 : decode cL_law 456 = .ok (.ifCond .ge 8, 3) := by decide +kernel
theorem dL_law_459 : decode cL_law 459 = .ok (.bipush (-4), 2) := by decide +kernel
theorem dL_law_461 : decode cL_law 461 = .ok (.goto 5, 3) := by decide +kernel
theorem dL_law_464 : decode cL_law 464 = .ok (.iload 10, 2) := by decide +kernel
theorem dL_law_466 : decode cL_law 466 = .ok (.if_icmp .ne 13, 3) := by decide +kernel
theorem dL_law_469 : decode cL_law 469 = .ok (.aload_n 1, 1) := by decide +kernel
theorem dL_law_470 : decode cL_law 470 = .ok (.iload 12, 2) := by decide +kernel
theorem dL_law_472 : decode cL_law 472 = .ok (.iconst 5, 1) := by decide +kernel
theorem dL_law_473 : decode cL_law 473 = .ok (.invokevirtual 21, 3) := by decide +kernel
theorem dL_law_476 : decode cL_law 476 = .ok (.ifCond .eq 5, 3) := by decide +kernel
theorem dL_law_479 : decode cL_law 479 = .ok (.iconst 0, 1) := by decide +kernel
theorem dL_law_480 : decode cL_law 480 = .ok (.ireturn, 1) := by decide +kernel
theorem dL_law_481 : decode cL_law 481 = .ok (.goto 156, 3) := by decide +kernel
theorem dL_law_484 : decode cL_law 484 = .ok (.iload 7, 2) := by decide +kernel
theorem dL_law_486 : decode cL_law 486 = .ok (.bipush 10, 2) := by decide +kernel
theorem dL_law_488 : decode cL_law 488 = .ok (.if_icmp .ge 28, 3) := by decide +kernel
theorem dL_law_491 : decode cL_law 491 = .ok (.iload 6, 2) := by decide +kernel
theorem dL_law_493 : decode cL_law 493 = .ok (.ifCond .le 23, 3) := by decide +kernel
theorem dL_law_496 : decode cL_law 496 = .ok (.aload_n 1, 1) := by decide +kernel
theorem dL_law_497 : decode cL_law 497 = .ok (.iload 4, 2) := by decide +kernel
theorem dL_law_499 : decode cL_law 499 = .ok (.iload 6, 2) := by decide +kernel
theorem dL_law_501 : decode cL_law 501 = .ok (.invokestatic 50, 3) := by decide +kernel
theorem dL_law_504 : decode cL_law 504 = .ok (.iload 4, 2) := by decide +kernel
theorem dL_law_506 : decode cL_law 506 = .ok (.iconst 4, 1) := by decide +kernel
theorem dL_law_507 : decode cL_law 507 = .ok (.ishr, 1) := by decide +kernel
theorem dL_law_508 : decode cL_law 508 = .ok (.invokestatic 124, 3) := by decide +kernel
theorem dL_law_511 : decode cL_law 511 = .ok (.ifCond .ne 126, 3) := by decide +kernel
theorem dL_law_514 : decode cL_law 514 = .ok (.iconst 0, 1) := by decide +kernel
theorem dL_law_515 : decode cL_law 515 = .ok (.ireturn, 1) := by decide +kernel
theorem dL_law_516 : decode cL_law 516 = .ok (.iload 7, 2) := by decide +kernel
theorem dL_law_518 : decode cL_law 518 = .ok (.bipush 10, 2) := by decide +kernel
theorem dL_law_520 : decode cL_law 520 = .ok (.if_icmp .ne 23, 3) := by decide +kernel
theorem dL_law_523 : decode cL_law 523 = .ok (.aload_n 1, 1) := by decide +kernel
theorem dL_law_524 : decode cL_law 524 = .ok (.iload 4, 2) := by decide +kernel
theorem dL_law_526 : decode cL_law 526 = .ok (.iload 5, 2) := by decide +kernel
theorem dL_law_528 : decode cL_law 528 = .ok (.invokestatic 50, 3) := by decide +kernel
theorem dL_law_531 : decode cL_law 531 = .ok (.iload 4, 2) := by decide +kernel
theorem dL_law_533 : decode cL_law 533 = .ok (.iconst 4, 1) := by decide +kernel
theorem dL_law_534 : decode cL_law 534 = .ok (.ishr, 1) := by decide +kernel
theorem dL_law_535 : decode cL_law 535 = .ok (.invokestatic 127, 3) := by decide +kernel
theorem dL_law_538 : decode cL_law 538 = .ok (.ifCond .ne 99, 3) := by decide +kernel
theorem dL_law_541 : decode cL_law 541 = .ok (.iconst 0, 1) := by decide +kernel
theorem dL_law_542 : decode cL_law 542 = .ok (.ireturn, 1) := by decide +kernel
theorem dL_law_543 : decode cL_law 543 = .ok (.iload 7, 2) := by decide +kernel
theorem dL_law_545 : decode cL_law 545 = .ok (.bipush 11, 2) := by decide +kernel
theorem dL_law_547 : decode cL_law 547 = .ok (.if_icmp .ne 46, 3) := by decide +kernel
theorem dL_law_550 : decode cL_law 550 = .ok (.aload_n 1, 1) := by decide +kernel
theorem dL_law_551 : decode cL_law 551 = .ok (.bipush 12, 2) := by decide +kernel
theorem dL_law_553 : decode cL_law 553 = .ok (.invokevirtual 9, 3) := by decide +kernel
theorem dL_law_556 : decode cL_law 556 = .ok (.istore 8, 2) := by decide +kernel
theorem dL_law_558 : decode cL_law 558 = .ok (.aload_n 1, 1) := by decide +kernel
theorem dL_law_559 : decode cL_law 559 = .ok (.iload 4, 2) := by decide +kernel
theorem dL_law_561 : decode cL_law 561 = .ok (.iconst 5, 1) := by decide +kernel
theorem dL_law_562 : decode cL_law 562 = .ok (.invokestatic 50, 3) := by decide +kernel
theorem dL_law_565 : decode cL_law 565 = .ok (.invokevirtual 99, 3) := by decide +kernel
theorem dL_law_568 : decode cL_law 568 = .ok (.iload 8, 2) := by decide +kernel
theorem dL_law_570 : decode cL_law 570 = .ok (.if_icmp .ne 18, 3) := by decide +kernel
theorem dL_law_573 : decode cL_law 573 = .ok (.aload_n 1, 1) := by decide +kernel
theorem dL_law_574 : decode cL_law 574 = .ok (.bipush 12, 2) := by decide +kernel
theorem dL_law_576 : decode cL_law 576 = .ok (.invokevirtual 9, 3) := by decide +kernel
theorem dL_law_579 : decode cL_law 579 = .ok (.iload 4, 2) := by decide +kernel
theorem dL_law_581 : decode cL_law 581 = .ok (.iconst 5, 1) := by decide +kernel
theorem dL_law_582 : decode cL_law 582 = .ok (.invokestatic 50, 3) := by decide +kernel
theorem dL_law_585 : decode cL_law 585 = .ok (.if_icmp .eq 5, 3) := by decide +kernel
theorem dL_law_588 : decode cL_law 588 = .ok (.iconst 0, 1) := by decide +kernel
theorem dL_law_589 : decode cL_law 589 = .ok (.ireturn, 1) := by decide +kernel
theorem dL_law_590 : decode cL_law 590 = .ok (.goto 47, 3) := by decide +kernel
theorem dL_law_593 : decode cL_law 593 = .ok (.iload 6, 2) := by decide +kernel
theorem dL_law_595 : decode cL_law 595 = .ok (.ifCond .le 42, 3) := by decide +kernel
theorem dL_law_598 : decode cL_law 598 = .ok (.aload_n 1, 1) := by decide +kernel
theorem dL_law_599 : decode cL_law 599 = .ok (.iconst 1, 1) := by decide +kernel
theorem dL_law_600 : decode cL_law 600 = .ok (.iload 4, 2) := by decide +kernel
theorem dL_law_602 : decode cL_law 602 = .ok (.bipush 8, 2) := by decide +kernel
theorem dL_law_604 : decode cL_law 604 = .ok (.ishr, 1) := by decide +kernel
theorem dL_law_605 : decode cL_law 605 = .ok (.iload 4, 2) := by decide +kernel
theorem dL_law_607 : decode cL_law 607 = .ok (.bipush 20, 2) := by decide +kernel
theorem dL_law_609 : decode cL_law 609 = .ok (.ishr, 1) := by decide +kernel
theorem dL_law_610 : decode cL_law 610 = .ok (.iconst 4, 1) := by decide +kernel
theorem dL_law_611 : decode cL_law 611 = .ok (.invokestatic 50, 3) := by decide +kernel
theorem dL_law_614 : decode cL_law 614 = .ok (.ifCond .ne 8, 3) := by decide +kernel
theorem dL_law_617 : decode cL_law 617 = .ok (.bipush 40, 2) := by decide +kernel
theorem dL_law_619 : decode cL_law 619 = .ok (.goto 4, 3) := by decide +kernel
theorem dL_law_622 : decode cL_law 622 = .ok (.iconst 3, 1) := by decide +kernel
theorem dL_law_623 : decode cL_law 623 = .ok (.invokestatic 50, 3) := by decide +kernel
theorem dL_law_626 : decode cL_law 626 = .ok (.iadd, 1) := by decide +kernel
theorem dL_law_627 : decode cL_law 627 = .ok (.iload 4, 2) := by decide +kernel
theorem dL_law_629 : decode cL_law 629 = .ok (.invokestatic 130, 3) := by decide +kernel
theorem dL_law_632 : decode cL_law 632 = .ok (.ifCond .ne 5, 3) := by decide +kernel
theorem dL_law_635 : decode cL_law 635 = .ok (.iconst 0, 1) := by decide +kernel
theorem dL_law_636 : decode cL_law 636 = .ok (.ireturn, 1) := by decide +kernel
theorem dL_law_637 : decode cL_law 637 = .ok (.aload_n 1, 1) := by decide +kernel
theorem dL_law_638 : decode cL_law 638 = .ok (.invokestatic 110, 3) := by decide +kernel
theorem dL_law_641 : decode cL_law 641 = .ok (.ifCond .eq 17, 3) := by decide +kernel
theorem dL_law_644 : decode cL_law 644 = .ok (.iload_n 2, 1) := by decide +kernel
theorem dL_law_645 : decode cL_law 645 = .ok (.iconst 4, 1) := by decide +kernel
theorem dL_law_646 : decode cL_law 646 = .ok (.irem, 1) := by decide +kernel
theorem dL_law_647 : decode cL_law 647 = .ok (.iconst 3, 1) := by decide +kernel
theorem dL_law_648 : decode cL_law 648 = .ok (.if_icmp .ne 12, 3) := by decide +kernel
theorem dL_law_651 : decode cL_law 651 = .ok (.aload_n 1, 1) := by decide +kernel
theorem dL_law_652 : decode cL_law 652 = .ok (.invokestatic 113, 3) := by decide +kernel
theorem dL_law_655 : decode cL_law 655 = .ok (.ifCond .ne 5, 3) := by decide +kernel
theorem dL_law_658 : decode cL_law 658 = .ok (.iconst 0, 1) := by decide +kernel
theorem dL_law_659 : decode cL_law 659 = .ok (.ireturn, 1) := by decide +kernel
theorem dL_law_660 : decode cL_law 660 = .ok (.iinc 2 1, 3) := by decide +kernel
theorem dL_law_663 : decode cL_law 663 = .ok (.goto (-604), 3) := by decide +kernel
theorem dL_law_666 : decode cL_law 666 = .ok (.aload_n 1, 1) := by decide +kernel
theorem dL_law_667 : decode cL_law 667 = .ok (.invokestatic 106, 3) := by decide +kernel
theorem dL_law_670 : decode cL_law 670 = .ok (.ireturn, 1) := by decide +kernel
