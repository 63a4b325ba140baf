theorem dX7_partOf_42 : decode cX7_partOf 42 = .ok (.iload_n 0, 1) := by decide +kernel
theorem dX7_partOf_43 : decode cX7_partOf 43 = .ok (.invokestatic 137, 3) := by decide +kernel
theorem dX7_partOf_46 : decode cX7_partOf 46 = .ok (.iconst (-1), 1) := by decide +kernel
theorem dX7_partOf_47 : decode cX7_partOf 47 = .ok (.if_icmp .ne 8, 3) := by decide +kernel
theorem dX7_partOf_50 : decode cX7_partOf 50 = .ok (.bipush (-4), 2) := by decide +kernel
theorem dX7_partOf_52 : decode cX7_partOf 52 = .ok (.goto 7, 3) := by decide +kernel
theorem dX7_partOf_55 : decode cX7_partOf 55 = .ok (.iload_n 0, 1) := by decide +kernel
theorem dX7_partOf_56 : decode cX7_partOf 56 = .ok (.invokestatic 137, 3) := by decide +kernel
theorem dX7_partOf_59 : decode cX7_partOf 59 = .ok (.ireturn, 1) := by decide +kernel
theorem dX7_partOf_60 : decode cX7_partOf 60 = .ok (.iload_n 0, 1) := by decide +kernel
theorem dX7_partOf_61 : decode cX7_partOf 61 = .ok (.invokestatic 140, 3) := by decide +kernel
theorem dX7_partOf_64 : decode cX7_partOf 64 = .ok (.ireturn, 1) := by decide +kernel
theorem dX7_partOf_65 : decode cX7_partOf 65 = .ok (.iload_n 0, 1) := by decide +kernel
theorem dX7_partOf_66 : decode cX7_partOf 66 = .ok (.invokestatic 143, 3) := by decide +kernel
theorem dX7_partOf_69 : decode cX7_partOf 69 = .ok (.ireturn, 1) := by decide +kernel
theorem dX7_phase_0 : decode cX7_phase 0 = .ok (.iload_n 1, 1) := by decide +kernel
theorem dX7_phase_1 : decode cX7_phase 1 = .ok (.invokestatic 125, 3) := by decide +kernel
theorem dX7_phase_4 : decode cX7_phase 4 = .ok (.ifCond .eq 34, 3) := by decide +kernel
theorem dX7_phase_7 : decode cX7_phase 7 = .ok (.iload_n 2, 1) := by decide +kernel
theorem dX7_phase_8 : decode cX7_phase 8 = .ok (.iconst 1, 1) := by decide +kernel
theorem dX7_phase_9 : decode cX7_phase 9 = .ok (.aload_n 0, 1) := by decide +kernel
theorem dX7_phase_10 : decode cX7_phase 10 = .ok (.getfield 7, 3) := by decide +kernel
theorem dX7_phase_13 : decode cX7_phase 13 = .ok (.bipush 56, 2) := by decide +kernel
theorem dX7_phase_15 : decode cX7_phase 15 = .ok (.iload_n 1, 1) := by decide +kernel
theorem dX7_phase_16 : decode cX7_phase 16 = .ok (.iadd, 1) := by decide +kernel
theorem dX7_phase_17 : decode cX7_phase 17 = .ok (.iaload, 1) := by decide +kernel
theorem dX7_phase_18 : decode cX7_phase 18 = .ok (.invokestatic 36, 3) := by decide +kernel
theorem dX7_phase_21 : decode cX7_phase 21 = .ok (.ifCond .eq 17, 3) := by decide +kernel
theorem dX7_phase_24 : decode cX7_phase 24 = .ok (.iload_n 3, 1) := by decide +kernel
theorem dX7_phase_25 : decode cX7_phase 25 = .ok (.ifCond .lt 13, 3) := by decide +kernel
theorem dX7_phase_28 : decode cX7_phase 28 = .ok (.iload 4, 2) := by decide +kernel
theorem dX7_phase_30 : decode cX7_phase 30 = .ok (.iconst 0, 1) := by decide +kernel
theorem dX7_phase_31 : decode cX7_phase 31 = .ok (.iconst 4, 1) := by decide +kernel
theorem dX7_phase_32 : decode cX7_phase 32 = .ok (.invokestatic 36, 3) := by decide +kernel
theorem dX7_phase_35 : decode cX7_phase 35 = .ok (.ifCond .ne 5, 3) := by decide +kernel
theorem dX7_phase_38 : decode cX7_phase 38 = .ok (.iconst (-1), 1) := by decide +kernel
theorem dX7_phase_39 : decode cX7_phase 39 = .ok (.ireturn, 1) := by decide +kernel
theorem dX7_phase_40 : decode cX7_phase 40 = .ok (.iload_n 3, 1) := by decide +kernel
theorem dX7_phase_41 : decode cX7_phase 41 = .ok (.aload_n 0, 1) := by decide +kernel
theorem dX7_phase_42 : decode cX7_phase 42 = .ok (.iload_n 1, 1) := by decide +kernel
theorem dX7_phase_43 : decode cX7_phase 43 = .ok (.iload_n 2, 1) := by decide +kernel
theorem dX7_phase_44 : decode cX7_phase 44 = .ok (.invokevirtual 146, 3) := by decide +kernel
theorem dX7_phase_47 : decode cX7_phase 47 = .ok (.if_icmp .ge 18, 3) := by decide +kernel
theorem dX7_phase_50 : decode cX7_phase 50 = .ok (.aload_n 0, 1) := by decide +kernel
theorem dX7_phase_51 : decode cX7_phase 51 = .ok (.iload_n 1, 1) := by decide +kernel
theorem dX7_phase_52 : decode cX7_phase 52 = .ok (.iload_n 2, 1) := by decide +kernel
theorem dX7_phase_53 : decode cX7_phase 53 = .ok (.iload_n 3, 1) := by decide +kernel
theorem dX7_phase_54 : decode cX7_phase 54 = .ok (.invokevirtual 85, 3) := by decide +kernel
theorem dX7_phase_57 : decode cX7_phase 57 = .ok (.iload 4, 2) := by decide +kernel
theorem dX7_phase_59 : decode cX7_phase 59 = .ok (.invokestatic 149, 3) := by decide +kernel
theorem dX7_phase_62 : decode cX7_phase 62 = .ok (.goto 5, 3) := by decide +kernel
theorem dX7_phase_65 : decode cX7_phase 65 = .ok (.bipush (-4), 2) := by decide +kernel
theorem dX7_phase_67 : decode cX7_phase 67 = .ok (.ireturn, 1) := by decide +kernel
theorem dX7_batch_0 : decode cX7_batch 0 = .ok (.iload_n 1, 1) := by decide +kernel
theorem dX7_batch_1 : decode cX7_batch 1 = .ok (.invokestatic 125, 3) := by decide +kernel
theorem dX7_batch_4 : decode cX7_batch 4 = .ok (.ifCond .eq 39, 3) := by decide +kernel
theorem dX7_batch_7 : decode cX7_batch 7 = .ok (.iload_n 2, 1) := by decide +kernel
theorem dX7_batch_8 : decode cX7_batch 8 = .ok (.iconst 1, 1) := by decide +kernel
theorem dX7_batch_9 : decode cX7_batch 9 = .ok (.sipush 10000, 3) := by decide +kernel
theorem dX7_batch_12 : decode cX7_batch 12 = .ok (.invokestatic 36, 3) := by decide +kernel
theorem dX7_batch_15 : decode cX7_batch 15 = .ok (.ifCond .eq 28, 3) := by decide +kernel
theorem dX7_batch_18 : decode cX7_batch 18 = .ok (.iload_n 3, 1) := by decide +kernel
theorem dX7_batch_19 : decode cX7_batch 19 = .ok (.iconst 0, 1) := by decide +kernel
theorem dX7_batch_20 : decode cX7_batch 20 = .ok (.bipush 9, 2) := by decide +kernel
theorem dX7_batch_22 : decode cX7_batch 22 = .ok (.invokestatic 36, 3) := by decide +kernel
theorem dX7_batch_25 : decode cX7_batch 25 = .ok (.ifCond .eq 18, 3) := by decide +kernel
theorem dX7_batch_28 : decode cX7_batch 28 = .ok (.iload 4, 2) := by decide +kernel
theorem dX7_batch_30 : decode cX7_batch 30 = .ok (.iconst (-1), 1) := by decide +kernel
theorem dX7_batch_31 : decode cX7_batch 31 = .ok (.if_icmp .eq 14, 3) := by decide +kernel
theorem dX7_batch_34 : decode cX7_batch 34 = .ok (.aload_n 0, 1) := by decide +kernel
theorem dX7_batch_35 : decode cX7_batch 35 = .ok (.iload 4, 2) := by decide +kernel
theorem dX7_batch_37 : decode cX7_batch 37 = .ok (.invokevirtual 152, 3) := by decide +kernel
theorem dX7_batch_40 : decode cX7_batch 40 = .ok (.ifCond .ne 5, 3) := by decide +kernel
theorem dX7_batch_43 : decode cX7_batch 43 = .ok (.iconst (-1), 1) := by decide +kernel
theorem dX7_batch_44 : decode cX7_batch 44 = .ok (.ireturn, 1) := by decide +kernel
theorem dX7_batch_45 : decode cX7_batch 45 = .ok (.iload 4, 2) := by decide +kernel
theorem dX7_batch_47 : decode cX7_batch 47 = .ok (.iconst (-1), 1) := by decide +kernel
theorem dX7_batch_48 : decode cX7_batch 48 = .ok (.if_icmp .eq 29, 3) := by decide +kernel
theorem dX7_batch_51 : decode cX7_batch 51 = .ok (.aload_n 0, 1) := by decide +kernel
theorem dX7_batch_52 : decode cX7_batch 52 = .ok (.iload 4, 2) := by decide +kernel
theorem dX7_batch_54 : decode cX7_batch 54 = .ok (.iconst 5, 1) := by decide +kernel
theorem dX7_batch_55 : decode cX7_batch 55 = .ok (.invokevirtual 40, 3) := by decide +kernel
theorem dX7_batch_58 : decode cX7_batch 58 = .ok (.iconst 4, 1) := by decide +kernel
theorem dX7_batch_59 : decode cX7_batch 59 = .ok (.if_icmp .eq 14, 3) := by decide +kernel
theorem dX7_batch_62 : decode cX7_batch 62 = .ok (.aload_n 0, 1) := by decide +kernel
theorem dX7_batch_63 : decode cX7_batch 63 = .ok (.iload 4, 2) := by decide +kernel
theorem dX7_batch_65 : decode cX7_batch 65 = .ok (.iconst 5, 1) := by decide +kernel
theorem dX7_batch_66 : decode cX7_batch 66 = .ok (.invokevirtual 40, 3) := by decide +kernel
theorem dX7_batch_69 : decode cX7_batch 69 = .ok (.iconst 5, 1) := by decide +kernel
theorem dX7_batch_70 : decode cX7_batch 70 = .ok (.if_icmp .ne 7, 3) := by decide +kernel
theorem dX7_batch_73 : decode cX7_batch 73 = .ok (.iconst 1, 1) := by decide +kernel
theorem dX7_batch_74 : decode cX7_batch 74 = .ok (.goto 4, 3) := by decide +kernel
theorem dX7_batch_77 : decode cX7_batch 77 = .ok (.iconst 0, 1) := by decide +kernel
theorem dX7_batch_78 : decode cX7_batch 78 = .ok (.istore 5, 2) := by decide +kernel
theorem dX7_batch_80 : decode cX7_batch 80 = .ok (.aload_n 0, 1) := by decide +kernel
theorem dX7_batch_81 : decode cX7_batch 81 = .ok (.getfield 7, 3) := by decide +kernel
theorem dX7_batch_84 : decode cX7_batch 84 = .ok (.bipush 56, 2) := by decide +kernel
theorem dX7_batch_86 : decode cX7_batch 86 = .ok (.iload_n 1, 1) := by decide +kernel
theorem dX7_batch_87 : decode cX7_batch 87 = .ok (.iadd, 1) := by decide +kernel
theorem dX7_batch_88 : decode cX7_batch 88 = .ok (.iaload, 1) := by decide +kernel
theorem dX7_batch_89 : decode cX7_batch 89 = .ok (.ifCond .eq 8, 3) := by decide +kernel
theorem dX7_batch_92 : decode cX7_batch 92 = .ok (.iload 5, 2) := by decide +kernel
theorem dX7_batch_94 : decode cX7_batch 94 = .ok (.ifCond .eq 6, 3) := by decide +kernel
theorem dX7_batch_97 : decode cX7_batch 97 = .ok (.bipush (-2), 2) := by decide +kernel
theorem dX7_batch_99 : decode cX7_batch 99 = .ok (.ireturn, 1) := by decide +kernel
theorem dX7_batch_100 : decode cX7_batch 100 = .ok (.aload_n 0, 1) := by decide +kernel
theorem dX7_batch_101 : decode cX7_batch 101 = .ok (.getfield 7, 3) := by decide +kernel
theorem dX7_batch_104 : decode cX7_batch 104 = .ok (.iconst 3, 1) := by decide +kernel
theorem dX7_batch_105 : decode cX7_batch 105 = .ok (.iaload, 1) := by decide +kernel
theorem dX7_batch_106 : decode cX7_batch 106 = .ok (.bipush 12, 2) := by decide +kernel
theorem dX7_batch_108 : decode cX7_batch 108 = .ok (.if_icmp .ne 6, 3) := by decide +kernel
theorem dX7_batch_111 : decode cX7_batch 111 = .ok (.bipush (-3), 2) := by decide +kernel
theorem dX7_batch_113 : decode cX7_batch 113 = .ok (.ireturn, 1) := by decide +kernel
theorem dX7_batch_114 : decode cX7_batch 114 = .ok (.aload_n 0, 1) := by decide +kernel
theorem dX7_batch_115 : decode cX7_batch 115 = .ok (.invokevirtual 44, 3) := by decide +kernel
theorem dX7_batch_118 : decode cX7_batch 118 = .ok (.aload_n 0, 1) := by decide +kernel
theorem dX7_batch_119 : decode cX7_batch 119 = .ok (.getfield 7, 3) := by decide +kernel
theorem dX7_batch_122 : decode cX7_batch 122 = .ok (.iconst 3, 1) := by decide +kernel
theorem dX7_batch_123 : decode cX7_batch 123 = .ok (.iaload, 1) := by decide +kernel
theorem dX7_batch_124 : decode cX7_batch 124 = .ok (.istore 6, 2) := by decide +kernel
theorem dX7_batch_126 : decode cX7_batch 126 = .ok (.aload_n 0, 1) := by decide +kernel
theorem dX7_batch_127 : decode cX7_batch 127 = .ok (.getfield 7, 3) := by decide +kernel
theorem dX7_batch_130 : decode cX7_batch 130 = .ok (.iconst 3, 1) := by decide +kernel
theorem dX7_batch_131 : decode cX7_batch 131 = .ok (.dup2, 1) := by decide +kernel
theorem dX7_batch_132 : decode cX7_batch 132 = .ok (.iaload, 1) := by decide +kernel
theorem dX7_batch_133 : decode cX7_batch 133 = .ok (.iconst 1, 1) := by decide +kernel
theorem dX7_batch_134 : decode cX7_batch 134 = .ok (.iadd, 1) := by decide +kernel
theorem dX7_batch_135 : decode cX7_batch 135 = .ok (.iastore, 1) := by decide +kernel
theorem dX7_batch_136 : decode cX7_batch 136 = .ok (.aload_n 0, 1) := by decide +kernel
theorem dX7_batch_137 : decode cX7_batch 137 = .ok (.iload 6, 2) := by decide +kernel
theorem dX7_batch_139 : decode cX7_batch 139 = .ok (.iconst 0, 1) := by decide +kernel
theorem dX7_batch_140 : decode cX7_batch 140 = .ok (.iload_n 1, 1) := by decide +kernel
theorem dX7_batch_141 : decode cX7_batch 141 = .ok (.invokevirtual 54, 3) := by decide +kernel
theorem dX7_batch_144 : decode cX7_batch 144 = .ok (.aload_n 0, 1) := by decide +kernel
theorem dX7_batch_145 : decode cX7_batch 145 = .ok (.iload 6, 2) := by decide +kernel
theorem dX7_batch_147 : decode cX7_batch 147 = .ok (.iconst 1, 1) := by decide +kernel
theorem dX7_batch_148 : decode cX7_batch 148 = .ok (.aload_n 0, 1) := by decide +kernel
theorem dX7_batch_149 : decode cX7_batch 149 = .ok (.getfield 7, 3) := by decide +kernel
theorem dX7_batch_152 : decode cX7_batch 152 = .ok (.bipush 56, 2) := by decide +kernel
theorem dX7_batch_154 : decode cX7_batch 154 = .ok (.iload_n 1, 1) := by decide +kernel
theorem dX7_batch_155 : decode cX7_batch 155 = .ok (.iadd, 1) := by decide +kernel
theorem dX7_batch_156 : decode cX7_batch 156 = .ok (.iaload, 1) := by decide +kernel
theorem dX7_batch_157 : decode cX7_batch 157 = .ok (.invokevirtual 54, 3) := by decide +kernel
theorem dX7_batch_160 : decode cX7_batch 160 = .ok (.aload_n 0, 1) := by decide +kernel
theorem dX7_batch_161 : decode cX7_batch 161 = .ok (.iload 6, 2) := by decide +kernel
theorem dX7_batch_163 : decode cX7_batch 163 = .ok (.iconst 2, 1) := by decide +kernel
theorem dX7_batch_164 : decode cX7_batch 164 = .ok (.iload_n 2, 1) := by decide +kernel
theorem dX7_batch_165 : decode cX7_batch 165 = .ok (.invokevirtual 54, 3) := by decide +kernel
theorem dX7_batch_168 : decode cX7_batch 168 = .ok (.aload_n 0, 1) := by decide +kernel
theorem dX7_batch_169 : decode cX7_batch 169 = .ok (.iload 6, 2) := by decide +kernel
theorem dX7_batch_171 : decode cX7_batch 171 = .ok (.iconst 3, 1) := by decide +kernel
theorem dX7_batch_172 : decode cX7_batch 172 = .ok (.iload_n 3, 1) := by decide +kernel
theorem dX7_batch_173 : decode cX7_batch 173 = .ok (.invokevirtual 54, 3) := by decide +kernel
theorem dX7_batch_176 : decode cX7_batch 176 = .ok (.aload_n 0, 1) := by decide +kernel
theorem dX7_batch_177 : decode cX7_batch 177 = .ok (.iload 6, 2) := by decide +kernel
theorem dX7_batch_179 : decode cX7_batch 179 = .ok (.iconst 4, 1) := by decide +kernel
theorem dX7_batch_180 : decode cX7_batch 180 = .ok (.iload 4, 2) := by decide +kernel
theorem dX7_batch_182 : decode cX7_batch 182 = .ok (.invokevirtual 54, 3) := by decide +kernel
theorem dX7_batch_185 : decode cX7_batch 185 = .ok (.aload_n 0, 1) := by decide +kernel
theorem dX7_batch_186 : decode cX7_batch 186 = .ok (.iload 6, 2) := by decide +kernel
theorem dX7_batch_188 : decode cX7_batch 188 = .ok (.iconst 5, 1) := by decide +kernel
theorem dX7_batch_189 : decode cX7_batch 189 = .ok (.iconst 0, 1) := by decide +kernel
theorem dX7_batch_190 : decode cX7_batch 190 = .ok (.invokevirtual 54, 3) := by decide +kernel
theorem dX7_batch_193 : decode cX7_batch 193 = .ok (.aload_n 0, 1) := by decide +kernel
theorem dX7_batch_194 : decode cX7_batch 194 = .ok (.iload 6, 2) := by decide +kernel
theorem dX7_batch_196 : decode cX7_batch 196 = .ok (.bipush 6, 2) := by decide +kernel
theorem dX7_batch_198 : decode cX7_batch 198 = .ok (.iconst 0, 1) := by decide +kernel
theorem dX7_batch_199 : decode cX7_batch 199 = .ok (.invokevirtual 54, 3) := by decide +kernel
theorem dX7_batch_202 : decode cX7_batch 202 = .ok (.aload_n 0, 1) := by decide +kernel
theorem dX7_batch_203 : decode cX7_batch 203 = .ok (.iload 6, 2) := by decide +kernel
theorem dX7_batch_205 : decode cX7_batch 205 = .ok (.bipush 7, 2) := by decide +kernel
theorem dX7_batch_207 : decode cX7_batch 207 = .ok (.iconst 0, 1) := by decide +kernel
theorem dX7_batch_208 : decode cX7_batch 208 = .ok (.invokevirtual 54, 3) := by decide +kernel
theorem dX7_batch_211 : decode cX7_batch 211 = .ok (.aload_n 0, 1) := by decide +kernel
theorem dX7_batch_212 : decode cX7_batch 212 = .ok (.iload 6, 2) := by decide +kernel
theorem dX7_batch_214 : decode cX7_batch 214 = .ok (.bipush 8, 2) := by decide +kernel
theorem dX7_batch_216 : decode cX7_batch 216 = .ok (.iconst (-1), 1) := by decide +kernel
theorem dX7_batch_217 : decode cX7_batch 217 = .ok (.invokevirtual 54, 3) := by decide +kernel
theorem dX7_batch_220 : decode cX7_batch 220 = .ok (.aload_n 0, 1) := by decide +kernel
theorem dX7_batch_221 : decode cX7_batch 221 = .ok (.iload 6, 2) := by decide +kernel
theorem dX7_batch_223 : decode cX7_batch 223 = .ok (.bipush 9, 2) := by decide +kernel
theorem dX7_batch_225 : decode cX7_batch 225 = .ok (.iload_n 2, 1) := by decide +kernel
theorem dX7_batch_226 : decode cX7_batch 226 = .ok (.i2f, 1) := by decide +kernel
theorem dX7_batch_227 : decode cX7_batch 227 = .ok (.invokestatic 155, 3) := by decide +kernel
theorem dX7_batch_230 : decode cX7_batch 230 = .ok (.invokevirtual 54, 3) := by decide +kernel
theorem dX7_batch_233 : decode cX7_batch 233 = .ok (.iload 6, 2) := by decide +kernel
theorem dX7_batch_235 : decode cX7_batch 235 = .ok (.ireturn, 1) := by decide +kernel
theorem dX7_start_0 : decode cX7_start 0 = .ok (.aload_n 0, 1) := by decide +kernel
theorem dX7_start_1 : decode cX7_start 1 = .ok (.iload_n 1, 1) := by decide +kernel
theorem dX7_start_2 : decode cX7_start 2 = .ok (.invokevirtual 152, 3) := by decide +kernel
theorem dX7_start_5 : decode cX7_start 5 = .ok (.ifCond .ne 5, 3) := by decide +kernel
theorem dX7_start_8 : decode cX7_start 8 = .ok (.iconst (-1), 1) := by decide +kernel
theorem dX7_start_9 : decode cX7_start 9 = .ok (.ireturn, 1) := by decide +kernel
theorem dX7_start_10 : decode cX7_start 10 = .ok (.aload_n 0, 1) := by decide +kernel
theorem dX7_start_11 : decode cX7_start 11 = .ok (.iload_n 1, 1) := by decide +kernel
theorem dX7_start_12 : decode cX7_start 12 = .ok (.iconst 5, 1) := by decide +kernel
theorem dX7_start_13 : decode cX7_start 13 = .ok (.invokevirtual 40, 3) := by decide +kernel
theorem dX7_start_16 : decode cX7_start 16 = .ok (.ifCond .eq 6, 3) := by decide +kernel
theorem dX7_start_19 : decode cX7_start 19 = .ok (.bipush (-2), 2) := by decide +kernel
theorem dX7_start_21 : decode cX7_start 21 = .ok (.ireturn, 1) := by decide +kernel
theorem dX7_start_22 : decode cX7_start 22 = .ok (.aload_n 0, 1) := by decide +kernel
theorem dX7_start_23 : decode cX7_start 23 = .ok (.invokevirtual 44, 3) := by decide +kernel
theorem dX7_start_26 : decode cX7_start 26 = .ok (.aload_n 0, 1) := by decide +kernel
theorem dX7_start_27 : decode cX7_start 27 = .ok (.iload_n 1, 1) := by decide +kernel
theorem dX7_start_28 : decode cX7_start 28 = .ok (.iconst 5, 1) := by decide +kernel
theorem dX7_start_29 : decode cX7_start 29 = .ok (.iconst 1, 1) := by decide +kernel
theorem dX7_start_30 : decode cX7_start 30 = .ok (.invokevirtual 54, 3) := by decide +kernel
theorem dX7_start_33 : decode cX7_start 33 = .ok (.aload_n 0, 1) := by decide +kernel
theorem dX7_start_34 : decode cX7_start 34 = .ok (.iconst 1, 1) := by decide +kernel
theorem dX7_start_35 : decode cX7_start 35 = .ok (.invokevirtual 161, 3) := by decide +kernel
theorem dX7_start_38 : decode cX7_start 38 = .ok (.ireturn, 1) := by decide +kernel
theorem dX7_hold_0 : decode cX7_hold 0 = .ok (.aload_n 0, 1) := by decide +kernel
theorem dX7_hold_1 : decode cX7_hold 1 = .ok (.iload_n 1, 1) := by decide +kernel
theorem dX7_hold_2 : decode cX7_hold 2 = .ok (.invokevirtual 152, 3) := by decide +kernel
theorem dX7_hold_5 : decode cX7_hold 5 = .ok (.ifCond .ne 5, 3) := by decide +kernel
theorem dX7_hold_8 : decode cX7_hold 8 = .ok (.iconst (-1), 1) := by decide +kernel
theorem dX7_hold_9 : decode cX7_hold 9 = .ok (.ireturn, 1) := by decide +kernel
theorem dX7_hold_10 : decode cX7_hold 10 = .ok (.aload_n 0, 1) := by decide +kernel
theorem dX7_hold_11 : decode cX7_hold 11 = .ok (.iload_n 1, 1) := by decide +kernel
theorem dX7_hold_12 : decode cX7_hold 12 = .ok (.invokevirtual 72, 3) := by decide +kernel
theorem dX7_hold_15 : decode cX7_hold 15 = .ok (.ifCond .ne 6, 3) := by decide +kernel
theorem dX7_hold_18 : decode cX7_hold 18 = .ok (.bipush (-2), 2) := by decide +kernel
theorem dX7_hold_20 : decode cX7_hold 20 = .ok (.ireturn, 1) := by decide +kernel
theorem dX7_hold_21 : decode cX7_hold 21 = .ok (.aload_n 0, 1) := by decide +kernel
theorem dX7_hold_22 : decode cX7_hold 22 = .ok (.invokevirtual 44, 3) := by decide +kernel
theorem dX7_hold_25 : decode cX7_hold 25 = .ok (.aload_n 0, 1) := by decide +kernel
theorem dX7_hold_26 : decode cX7_hold 26 = .ok (.iload_n 1, 1) := by decide +kernel
theorem dX7_hold_27 : decode cX7_hold 27 = .ok (.invokevirtual 75, 3) := by decide +kernel
theorem dX7_hold_30 : decode cX7_hold 30 = .ok (.aload_n 0, 1) := by decide +kernel
theorem dX7_hold_31 : decode cX7_hold 31 = .ok (.iconst 2, 1) := by decide +kernel
theorem dX7_hold_32 : decode cX7_hold 32 = .ok (.invokevirtual 161, 3) := by decide +kernel
theorem dX7_hold_35 : decode cX7_hold 35 = .ok (.ireturn, 1) := by decide +kernel
theorem dX7_left_0 : decode cX7_left 0 = .ok (.aload_n 0, 1) := by decide +kernel
theorem dX7_left_1 : decode cX7_left 1 = .ok (.iload_n 1, 1) := by decide +kernel
theorem dX7_left_2 : decode cX7_left 2 = .ok (.invokevirtual 164, 3) := by decide +kernel
theorem dX7_left_5 : decode cX7_left 5 = .ok (.invokestatic 134, 3) := by decide +kernel
theorem dX7_left_8 : decode cX7_left 8 = .ok (.aload_n 0, 1) := by decide +kernel
theorem dX7_left_9 : decode cX7_left 9 = .ok (.iload_n 1, 1) := by decide +kernel
theorem dX7_left_10 : decode cX7_left 10 = .ok (.bipush 7, 2) := by decide +kernel
theorem dX7_left_12 : decode cX7_left 12 = .ok (.invokevirtual 40, 3) := by decide +kernel
theorem dX7_left_15 : decode cX7_left 15 = .ok (.isub, 1) := by decide +kernel
theorem dX7_left_16 : decode cX7_left 16 = .ok (.ireturn, 1) := by decide +kernel
theorem dX7_restart_0 : decode cX7_restart 0 = .ok (.aload_n 0, 1) := by decide +kernel
theorem dX7_restart_1 : decode cX7_restart 1 = .ok (.iload_n 1, 1) := by decide +kernel
theorem dX7_restart_2 : decode cX7_restart 2 = .ok (.invokevirtual 152, 3) := by decide +kernel
theorem dX7_restart_5 : decode cX7_restart 5 = .ok (.ifCond .ne 5, 3) := by decide +kernel
theorem dX7_restart_8 : decode cX7_restart 8 = .ok (.iconst (-1), 1) := by decide +kernel
theorem dX7_restart_9 : decode cX7_restart 9 = .ok (.ireturn, 1) := by decide +kernel
theorem dX7_restart_10 : decode cX7_restart 10 = .ok (.aload_n 0, 1) := by decide +kernel
theorem dX7_restart_11 : decode cX7_restart 11 = .ok (.iload_n 1, 1) := by decide +kernel
theorem dX7_restart_12 : decode cX7_restart 12 = .ok (.bipush 8, 2) := by decide +kernel
theorem dX7_restart_14 : decode cX7_restart 14 = .ok (.invokevirtual 40, 3) := by decide +kernel
theorem dX7_restart_17 : decode cX7_restart 17 = .ok (.istore_n 2, 1) := by decide +kernel
theorem dX7_restart_18 : decode cX7_restart 18 = .ok (.aload_n 0, 1) := by decide +kernel
theorem dX7_restart_19 : decode cX7_restart 19 = .ok (.iload_n 1, 1) := by decide +kernel
theorem dX7_restart_20 : decode cX7_restart 20 = .ok (.iconst 5, 1) := by decide +kernel
theorem dX7_restart_21 : decode cX7_restart 21 = .ok (.invokevirtual 40, 3) := by decide +kernel
theorem dX7_restart_24 : decode cX7_restart 24 = .ok (.iconst 2, 1) := by decide +kernel
theorem dX7_restart_25 : decode cX7_restart 25 = .ok (.if_icmp .ne 18, 3) := by decide +kernel
theorem dX7_restart_28 : decode cX7_restart 28 = .ok (.iload_n 2, 1) := by decide +kernel
theorem dX7_restart_29 : decode cX7_restart 29 = .ok (.iconst (-1), 1) := by decide +kernel
theorem dX7_restart_30 : decode cX7_restart 30 = .ok (.if_icmp .eq 16, 3) := by decide +kernel
theorem dX7_restart_33 : decode cX7_restart 33 = .ok (.aload_n 0, 1) := by decide +kernel
theorem dX7_restart_34 : decode cX7_restart 34 = .ok (.iload_n 2, 1) := by decide +kernel
theorem dX7_restart_35 : decode cX7_restart 35 = .ok (.iconst 3, 1) := by decide +kernel
theorem dX7_restart_36 : decode cX7_restart 36 = .ok (.invokevirtual 51, 3) := by decide +kernel
theorem dX7_restart_39 : decode cX7_restart 39 = .ok (.iconst 1, 1) := by decide +kernel
theorem dX7_restart_40 : decode cX7_restart 40 = .ok (.if_icmp .ne 6, 3) := by decide +kernel
theorem dX7_restart_43 : decode cX7_restart 43 = .ok (.bipush (-2), 2) := by decide +kernel
theorem dX7_restart_45 : decode cX7_restart 45 = .ok (.ireturn, 1) := by decide +kernel
theorem dX7_restart_46 : decode cX7_restart 46 = .ok (.aload_n 0, 1) := by decide +kernel
theorem dX7_restart_47 : decode cX7_restart 47 = .ok (.invokevirtual 44, 3) := by decide +kernel
theorem dX7_restart_50 : decode cX7_restart 50 = .ok (.aload_n 0, 1) := by decide +kernel
theorem dX7_restart_51 : decode cX7_restart 51 = .ok (.iload_n 1, 1) := by decide +kernel
theorem dX7_restart_52 : decode cX7_restart 52 = .ok (.iconst 5, 1) := by decide +kernel
theorem dX7_restart_53 : decode cX7_restart 53 = .ok (.iconst 1, 1) := by decide +kernel
theorem dX7_restart_54 : decode cX7_restart 54 = .ok (.invokevirtual 54, 3) := by decide +kernel
theorem dX7_restart_57 : decode cX7_restart 57 = .ok (.aload_n 0, 1) := by decide +kernel
theorem dX7_restart_58 : decode cX7_restart 58 = .ok (.iload_n 1, 1) := by decide +kernel
theorem dX7_restart_59 : decode cX7_restart 59 = .ok (.bipush 7, 2) := by decide +kernel
theorem dX7_restart_61 : decode cX7_restart 61 = .ok (.aload_n 0, 1) := by decide +kernel
theorem dX7_restart_62 : decode cX7_restart 62 = .ok (.iload_n 1, 1) := by decide +kernel
theorem dX7_restart_63 : decode cX7_restart 63 = .ok (.invokevirtual 164, 3) := by decide +kernel
theorem dX7_restart_66 : decode cX7_restart 66 = .ok (.invokestatic 143, 3) := by decide +kernel
theorem dX7_restart_69 : decode cX7_restart 69 = .ok (.iconst 1, 1) := by decide +kernel
theorem dX7_restart_70 : decode cX7_restart 70 = .ok (.if_icmp .ne 7, 3) := by decide +kernel
theorem dX7_restart_73 : decode cX7_restart 73 = .ok (.iconst 0, 1) := by decide +kernel
theorem dX7_restart_74 : decode cX7_restart 74 = .ok (.goto 10, 3) := by decide +kernel
theorem dX7_restart_77 : decode cX7_restart 77 = .ok (.aload_n 0, 1) := by decide +kernel
theorem dX7_restart_78 : decode cX7_restart 78 = .ok (.iload_n 1, 1) := by decide +kernel
theorem dX7_restart_79 : decode cX7_restart 79 = .ok (.bipush 7, 2) := by decide +kernel
theorem dX7_restart_81 : decode cX7_restart 81 = .ok (.invokevirtual 40, 3) := by decide +kernel
theorem dX7_restart_84 : decode cX7_restart 84 = .ok (.invokevirtual 54, 3) := by decide +kernel
theorem dX7_restart_87 : decode cX7_restart 87 = .ok (.aload_n 0, 1) := by decide +kernel
theorem dX7_restart_88 : decode cX7_restart 88 = .ok (.iload_n 1, 1) := by decide +kernel
theorem dX7_restart_89 : decode cX7_restart 89 = .ok (.iconst 3, 1) := by decide +kernel
theorem dX7_restart_90 : decode cX7_restart 90 = .ok (.invokevirtual 64, 3) := by decide +kernel
theorem dX7_restart_93 : decode cX7_restart 93 = .ok (.aload_n 0, 1) := by decide +kernel
theorem dX7_restart_94 : decode cX7_restart 94 = .ok (.iload_n 1, 1) := by decide +kernel
theorem dX7_restart_95 : decode cX7_restart 95 = .ok (.invokevirtual 167, 3) := by decide +kernel
theorem dX7_restart_98 : decode cX7_restart 98 = .ok (.ireturn, 1) := by decide +kernel
theorem dX7_stop_0 : decode cX7_stop 0 = .ok (.aload_n 0, 1) := by decide +kernel
theorem dX7_stop_1 : decode cX7_stop 1 = .ok (.iload_n 1, 1) := by decide +kernel
theorem dX7_stop_2 : decode cX7_stop 2 = .ok (.invokevirtual 152, 3) := by decide +kernel
theorem dX7_stop_5 : decode cX7_stop 5 = .ok (.ifCond .ne 5, 3) := by decide +kernel
theorem dX7_stop_8 : decode cX7_stop 8 = .ok (.iconst (-1), 1) := by decide +kernel
theorem dX7_stop_9 : decode cX7_stop 9 = .ok (.ireturn, 1) := by decide +kernel
theorem dX7_stop_10 : decode cX7_stop 10 = .ok (.aload_n 0, 1) := by decide +kernel
theorem dX7_stop_11 : decode cX7_stop 11 = .ok (.iload_n 1, 1) := by decide +kernel
theorem dX7_stop_12 : decode cX7_stop 12 = .ok (.iconst 5, 1) := by decide +kernel
theorem dX7_stop_13 : decode cX7_stop 13 = .ok (.invokevirtual 40, 3) := by decide +kernel
theorem dX7_stop_16 : decode cX7_stop 16 = .ok (.iconst 1, 1) := by decide +kernel
theorem dX7_stop_17 : decode cX7_stop 17 = .ok (.if_icmp .eq 16, 3) := by decide +kernel
theorem dX7_stop_20 : decode cX7_stop 20 = .ok (.aload_n 0, 1) := by decide +kernel
theorem dX7_stop_21 : decode cX7_stop 21 = .ok (.iload_n 1, 1) := by decide +kernel
theorem dX7_stop_22 : decode cX7_stop 22 = .ok (.iconst 5, 1) := by decide +kernel
theorem dX7_stop_23 : decode cX7_stop 23 = .ok (.invokevirtual 40, 3) := by decide +kernel
theorem dX7_stop_26 : decode cX7_stop 26 = .ok (.iconst 2, 1) := by decide +kernel
theorem dX7_stop_27 : decode cX7_stop 27 = .ok (.if_icmp .eq 6, 3) := by decide +kernel
theorem dX7_stop_30 : decode cX7_stop 30 = .ok (.bipush (-2), 2) := by decide +kernel
theorem dX7_stop_32 : decode cX7_stop 32 = .ok (.ireturn, 1) := by decide +kernel
theorem dX7_stop_33 : decode cX7_stop 33 = .ok (.aload_n 0, 1) := by decide +kernel
theorem dX7_stop_34 : decode cX7_stop 34 = .ok (.invokevirtual 44, 3) := by decide +kernel
theorem dX7_stop_37 : decode cX7_stop 37 = .ok (.aload_n 0, 1) := by decide +kernel
theorem dX7_stop_38 : decode cX7_stop 38 = .ok (.iload_n 1, 1) := by decide +kernel
theorem dX7_stop_39 : decode cX7_stop 39 = .ok (.iconst 5, 1) := by decide +kernel
theorem dX7_stop_40 : decode cX7_stop 40 = .ok (.invokevirtual 40, 3) := by decide +kernel
theorem dX7_stop_43 : decode cX7_stop 43 = .ok (.iconst 1, 1) := by decide +kernel
theorem dX7_stop_44 : decode cX7_stop 44 = .ok (.if_icmp .ne 23, 3) := by decide +kernel
theorem dX7_stop_47 : decode cX7_stop 47 = .ok (.aload_n 0, 1) := by decide +kernel
theorem dX7_stop_48 : decode cX7_stop 48 = .ok (.iload_n 1, 1) := by decide +kernel
theorem dX7_stop_49 : decode cX7_stop 49 = .ok (.bipush 7, 2) := by decide +kernel
theorem dX7_stop_51 : decode cX7_stop 51 = .ok (.invokevirtual 40, 3) := by decide +kernel
theorem dX7_stop_54 : decode cX7_stop 54 = .ok (.ifCond .le 13, 3) := by decide +kernel
theorem dX7_stop_57 : decode cX7_stop 57 = .ok (.aload_n 0, 1) := by decide +kernel
theorem dX7_stop_58 : decode cX7_stop 58 = .ok (.iload_n 1, 1) := by decide +kernel
theorem dX7_stop_59 : decode cX7_stop 59 = .ok (.iconst 5, 1) := by decide +kernel
theorem dX7_stop_60 : decode cX7_stop 60 = .ok (.iconst 3, 1) := by decide +kernel
theorem dX7_stop_61 : decode cX7_stop 61 = .ok (.invokevirtual 54, 3) := by decide +kernel
theorem dX7_stop_64 : decode cX7_stop 64 = .ok (.goto 10, 3) := by decide +kernel
theorem dX7_stop_67 : decode cX7_stop 67 = .ok (.aload_n 0, 1) := by decide +kernel
theorem dX7_stop_68 : decode cX7_stop 68 = .ok (.iload_n 1, 1) := by decide +kernel
theorem dX7_stop_69 : decode cX7_stop 69 = .ok (.iconst 4, 1) := by decide +kernel
theorem dX7_stop_70 : decode cX7_stop 70 = .ok (.iconst 4, 1) := by decide +kernel
theorem dX7_stop_71 : decode cX7_stop 71 = .ok (.invokevirtual 170, 3) := by decide +kernel
theorem dX7_stop_74 : decode cX7_stop 74 = .ok (.aload_n 0, 1) := by decide +kernel
theorem dX7_stop_75 : decode cX7_stop 75 = .ok (.iload_n 1, 1) := by decide +kernel
theorem dX7_stop_76 : decode cX7_stop 76 = .ok (.iconst 5, 1) := by decide +kernel
theorem dX7_stop_77 : decode cX7_stop 77 = .ok (.invokevirtual 40, 3) := by decide +kernel
theorem dX7_stop_80 : decode cX7_stop 80 = .ok (.ireturn, 1) := by decide +kernel
theorem dX7_abort_0 : decode cX7_abort 0 = .ok (.aload_n 0, 1) := by decide +kernel
theorem dX7_abort_1 : decode cX7_abort 1 = .ok (.iload_n 1, 1) := by decide +kernel
theorem dX7_abort_2 : decode cX7_abort 2 = .ok (.invokevirtual 152, 3) := by decide +kernel
theorem dX7_abort_5 : decode cX7_abort 5 = .ok (.ifCond .ne 5, 3) := by decide +kernel
theorem dX7_abort_8 : decode cX7_abort 8 = .ok (.iconst (-1), 1) := by decide +kernel
theorem dX7_abort_9 : decode cX7_abort 9 = .ok (.ireturn, 1) := by decide +kernel
theorem dX7_abort_10 : decode cX7_abort 10 = .ok (.aload_n 0, 1) := by decide +kernel
theorem dX7_abort_11 : decode cX7_abort 11 = .ok (.iload_n 1, 1) := by decide +kernel
theorem dX7_abort_12 : decode cX7_abort 12 = .ok (.iconst 5, 1) := by decide +kernel
theorem dX7_abort_13 : decode cX7_abort 13 = .ok (.invokevirtual 40, 3) := by decide +kernel
theorem dX7_abort_16 : decode cX7_abort 16 = .ok (.iconst 4, 1) := by decide +kernel
theorem dX7_abort_17 : decode cX7_abort 17 = .ok (.if_icmp .lt 6, 3) := by decide +kernel
theorem dX7_abort_20 : decode cX7_abort 20 = .ok (.bipush (-2), 2) := by decide +kernel
theorem dX7_abort_22 : decode cX7_abort 22 = .ok (.ireturn, 1) := by decide +kernel
theorem dX7_abort_23 : decode cX7_abort 23 = .ok (.aload_n 0, 1) := by decide +kernel
theorem dX7_abort_24 : decode cX7_abort 24 = .ok (.invokevirtual 44, 3) := by decide +kernel
theorem dX7_abort_27 : decode cX7_abort 27 = .ok (.iconst 0, 1) := by decide +kernel
theorem dX7_abort_28 : decode cX7_abort 28 = .ok (.istore_n 2, 1) := by decide +kernel
theorem dX7_abort_29 : decode cX7_abort 29 = .ok (.iconst 0, 1) := by decide +kernel
theorem dX7_abort_30 : decode cX7_abort 30 = .ok (.istore_n 3, 1) := by decide +kernel
theorem dX7_abort_31 : decode cX7_abort 31 = .ok (.iload_n 1, 1) := by decide +kernel
theorem dX7_abort_32 : decode cX7_abort 32 = .ok (.istore 4, 2) := by decide +kernel
theorem dX7_abort_34 : decode cX7_abort 34 = .ok (.iload 4, 2) := by decide +kernel
theorem dX7_abort_36 : decode cX7_abort 36 = .ok (.aload_n 0, 1) := by decide +kernel
theorem dX7_abort_37 : decode cX7_abort 37 = .ok (.getfield 7, 3) := by decide +kernel
theorem dX7_abort_40 : decode cX7_abort 40 = .ok (.iconst 3, 1) := by decide +kernel
theorem dX7_abort_41 : decode cX7_abort 41 = .ok (.iaload, 1) := by decide +kernel
theorem dX7_abort_42 : decode cX7_abort 42 = .ok (.if_icmp .ge 82, 3) := by decide +kernel
theorem dX7_abort_45 : decode cX7_abort 45 = .ok (.aload_n 0, 1) := by decide +kernel
theorem dX7_abort_46 : decode cX7_abort 46 = .ok (.iload 4, 2) := by decide +kernel
theorem dX7_abort_48 : decode cX7_abort 48 = .ok (.iconst 4, 1) := by decide +kernel
theorem dX7_abort_49 : decode cX7_abort 49 = .ok (.invokevirtual 40, 3) := by decide +kernel
theorem dX7_abort_52 : decode cX7_abort 52 = .ok (.iconst (-1), 1) := by decide +kernel
theorem dX7_abort_53 : decode cX7_abort 53 = .ok (.if_icmp .eq 22, 3) := by decide +kernel
theorem dX7_abort_56 : decode cX7_abort 56 = .ok (.iload_n 2, 1) := by decide +kernel
theorem dX7_abort_57 : decode cX7_abort 57 = .ok (.aload_n 0, 1) := by decide +kernel
theorem dX7_abort_58 : decode cX7_abort 58 = .ok (.iload 4, 2) := by decide +kernel
theorem dX7_abort_60 : decode cX7_abort 60 = .ok (.iconst 4, 1) := by decide +kernel
theorem dX7_abort_61 : decode cX7_abort 61 = .ok (.invokevirtual 40, 3) := by decide +kernel
theorem dX7_abort_64 : decode cX7_abort 64 = .ok (.ishr, 1) := by decide +kernel
theorem dX7_abort_65 : decode cX7_abort 65 = .ok (.iconst 1, 1) := by decide +kernel
theorem dX7_abort_66 : decode cX7_abort 66 = .ok (.iand, 1) := by decide +kernel
theorem dX7_abort_67 : decode cX7_abort 67 = .ok (.iconst 1, 1) := by decide +kernel
theorem dX7_abort_68 : decode cX7_abort 68 = .ok (.if_icmp .ne 7, 3) := by decide +kernel
theorem dX7_abort_71 : decode cX7_abort 71 = .ok (.iconst 1, 1) := by decide +kernel
theorem dX7_abort_72 : decode cX7_abort 72 = .ok (.goto 4, 3) := by decide +kernel
theorem dX7_abort_75 : decode cX7_abort 75 = .ok (.iconst 0, 1) := by decide +kernel
theorem dX7_abort_76 : decode cX7_abort 76 = .ok (.istore 5, 2) := by decide +kernel
theorem dX7_abort_78 : decode cX7_abort 78 = .ok (.iload 4, 2) := by decide +kernel
theorem dX7_abort_80 : decode cX7_abort 80 = .ok (.iload_n 1, 1) := by decide +kernel
theorem dX7_abort_81 : decode cX7_abort 81 = .ok (.if_icmp .eq 19, 3) := by decide +kernel
theorem dX7_abort_84 : decode cX7_abort 84 = .ok (.iload 5, 2) := by decide +kernel
theorem dX7_abort_86 : decode cX7_abort 86 = .ok (.ifCond .eq 32, 3) := by decide +kernel
theorem dX7_abort_89 : decode cX7_abort 89 = .ok (.aload_n 0, 1) := by decide +kernel
theorem dX7_abort_90 : decode cX7_abort 90 = .ok (.iload 4, 2) := by decide +kernel
theorem dX7_abort_92 : decode cX7_abort 92 = .ok (.iconst 5, 1) := by decide +kernel
theorem dX7_abort_93 : decode cX7_abort 93 = .ok (.invokevirtual 40, 3) := by decide +kernel
theorem dX7_abort_96 : decode cX7_abort 96 = .ok (.iconst 4, 1) := by decide +kernel
theorem dX7_abort_97 : decode cX7_abort 97 = .ok (.if_icmp .ge 21, 3) := by decide +kernel
theorem dX7_abort_100 : decode cX7_abort 100 = .ok (.aload_n 0, 1) := by decide +kernel
theorem dX7_abort_101 : decode cX7_abort 101 = .ok (.iload 4, 2) := by decide +kernel
theorem dX7_abort_103 : decode cX7_abort 103 = .ok (.iconst 5, 1) := by decide +kernel
theorem dX7_abort_104 : decode cX7_abort 104 = .ok (.iconst 5, 1) := by decide +kernel
theorem dX7_abort_105 : decode cX7_abort 105 = .ok (.invokevirtual 170, 3) := by decide +kernel
theorem dX7_abort_108 : decode cX7_abort 108 = .ok (.iload_n 2, 1) := by decide +kernel
theorem dX7_abort_109 : decode cX7_abort 109 = .ok (.iconst 1, 1) := by decide +kernel
theorem dX7_abort_110 : decode cX7_abort 110 = .ok (.iload 4, 2) := by decide +kernel
theorem dX7_abort_112 : decode cX7_abort 112 = .ok (.ishl, 1) := by decide +kernel
theorem dX7_abort_113 : decode cX7_abort 113 = .ok (.ior, 1) := by decide +kernel
theorem dX7_abort_114 : decode cX7_abort 114 = .ok (.istore_n 2, 1) := by decide +kernel
theorem dX7_abort_115 : decode cX7_abort 115 = .ok (.iinc 3 1, 3) := by decide +kernel
theorem dX7_abort_118 : decode cX7_abort 118 = .ok (.iinc 4 1, 3) := by decide +kernel
theorem dX7_abort_121 : decode cX7_abort 121 = .ok (.goto (-87), 3) := by decide +kernel
theorem dX7_abort_124 : decode cX7_abort 124 = .ok (.iload_n 3, 1) := by decide +kernel
theorem dX7_abort_125 : decode cX7_abort 125 = .ok (.ireturn, 1) := by decide +kernel
theorem dX7_priority_0 : decode cX7_priority 0 = .ok (.aload_n 0, 1) := by decide +kernel
theorem dX7_priority_1 : decode cX7_priority 1 = .ok (.iload_n 1, 1) := by decide +kernel
theorem dX7_priority_2 : decode cX7_priority 2 = .ok (.invokevirtual 152, 3) := by decide +kernel
theorem dX7_priority_5 : decode cX7_priority 5 = .ok (.ifCond .eq 13, 3) := by decide +kernel
theorem dX7_priority_8 : decode cX7_priority 8 = .ok (.iload_n 2, 1) := by decide +kernel
theorem dX7_priority_9 : decode cX7_priority 9 = .ok (.iconst 0, 1) := by decide +kernel
theorem dX7_priority_10 : decode cX7_priority 10 = .ok (.bipush 9, 2) := by decide +kernel
theorem dX7_priority_12 : decode cX7_priority 12 = .ok (.invokestatic 36, 3) := by decide +kernel
theorem dX7_priority_15 : decode cX7_priority 15 = .ok (.ifCond .ne 5, 3) := by decide +kernel
theorem dX7_priority_18 : decode cX7_priority 18 = .ok (.iconst (-1), 1) := by decide +kernel
theorem dX7_priority_19 : decode cX7_priority 19 = .ok (.ireturn, 1) := by decide +kernel
theorem dX7_priority_20 : decode cX7_priority 20 = .ok (.aload_n 0, 1) := by decide +kernel
theorem dX7_priority_21 : decode cX7_priority 21 = .ok (.invokevirtual 44, 3) := by decide +kernel
theorem dX7_priority_24 : decode cX7_priority 24 = .ok (.aload_n 0, 1) := by decide +kernel
theorem dX7_priority_25 : decode cX7_priority 25 = .ok (.iload_n 1, 1) := by decide +kernel
theorem dX7_priority_26 : decode cX7_priority 26 = .ok (.iconst 3, 1) := by decide +kernel
theorem dX7_priority_27 : decode cX7_priority 27 = .ok (.invokevirtual 40, 3) := by decide +kernel
theorem dX7_priority_30 : decode cX7_priority 30 = .ok (.istore_n 3, 1) := by decide +kernel
theorem dX7_priority_31 : decode cX7_priority 31 = .ok (.aload_n 0, 1) := by decide +kernel
theorem dX7_priority_32 : decode cX7_priority 32 = .ok (.iload_n 1, 1) := by decide +kernel
theorem dX7_priority_33 : decode cX7_priority 33 = .ok (.iconst 3, 1) := by decide +kernel
theorem dX7_priority_34 : decode cX7_priority 34 = .ok (.iload_n 2, 1) := by decide +kernel
theorem dX7_priority_35 : decode cX7_priority 35 = .ok (.invokevirtual 54, 3) := by decide +kernel
theorem dX7_priority_38 : decode cX7_priority 38 = .ok (.iload_n 3, 1) := by decide +kernel
theorem dX7_priority_39 : decode cX7_priority 39 = .ok (.ireturn, 1) := by decide +kernel
theorem dX7_batchOf_0 : decode cX7_batchOf 0 = .ok (.iload_n 2, 1) := by decide +kernel
theorem dX7_batchOf_1 : decode cX7_batchOf 1 = .ok (.tableswitch 175 4 11 #[47, 175, 69, 93, 115, 139, 155, 163], 47) := by decide +kernel
theorem dX7_batchOf_48 : decode cX7_batchOf 48 = .ok (.aload_n 0, 1) := by decide +kernel
theorem dX7_batchOf_49 : decode cX7_batchOf 49 = .ok (.iload_n 1, 1) := by decide +kernel
theorem dX7_batchOf_50 : decode cX7_batchOf 50 = .ok (.iconst 4, 1) := by decide +kernel
theorem dX7_batchOf_51 : decode cX7_batchOf 51 = .ok (.invokevirtual 40, 3) := by decide +kernel
theorem dX7_batchOf_54 : decode cX7_batchOf 54 = .ok (.iconst (-1), 1) := by decide +kernel
theorem dX7_batchOf_55 : decode cX7_batchOf 55 = .ok (.if_icmp .ne 8, 3) := by decide +kernel
theorem dX7_batchOf_58 : decode cX7_batchOf 58 = .ok (.bipush (-4), 2) := by decide +kernel
theorem dX7_batchOf_60 : decode cX7_batchOf 60 = .ok (.goto 9, 3) := by decide +kernel
theorem dX7_batchOf_63 : decode cX7_batchOf 63 = .ok (.aload_n 0, 1) := by decide +kernel
theorem dX7_batchOf_64 : decode cX7_batchOf 64 = .ok (.iload_n 1, 1) := by decide +kernel
theorem dX7_batchOf_65 : decode cX7_batchOf 65 = .ok (.iconst 4, 1) := by decide +kernel
theorem dX7_batchOf_66 : decode cX7_batchOf 66 = .ok (.invokevirtual 40, 3) := by decide +kernel
theorem dX7_batchOf_69 : decode cX7_batchOf 69 = .ok (.ireturn, 1) := by decide +kernel
theorem dX7_batchOf_70 : decode cX7_batchOf 70 = .ok (.aload_n 0, 1) := by decide +kernel
theorem dX7_batchOf_71 : decode cX7_batchOf 71 = .ok (.iload_n 1, 1) := by decide +kernel
theorem dX7_batchOf_72 : decode cX7_batchOf 72 = .ok (.iconst 5, 1) := by decide +kernel
theorem dX7_batchOf_73 : decode cX7_batchOf 73 = .ok (.invokevirtual 40, 3) := by decide +kernel
theorem dX7_batchOf_76 : decode cX7_batchOf 76 = .ok (.bipush 6, 2) := by decide +kernel
theorem dX7_batchOf_78 : decode cX7_batchOf 78 = .ok (.if_icmp .ne 8, 3) := by decide +kernel
theorem dX7_batchOf_81 : decode cX7_batchOf 81 = .ok (.bipush (-4), 2) := by decide +kernel
theorem dX7_batchOf_83 : decode cX7_batchOf 83 = .ok (.goto 10, 3) := by decide +kernel
theorem dX7_batchOf_86 : decode cX7_batchOf 86 = .ok (.aload_n 0, 1) := by decide +kernel
theorem dX7_batchOf_87 : decode cX7_batchOf 87 = .ok (.iload_n 1, 1) := by decide +kernel
theorem dX7_batchOf_88 : decode cX7_batchOf 88 = .ok (.bipush 6, 2) := by decide +kernel
theorem dX7_batchOf_90 : decode cX7_batchOf 90 = .ok (.invokevirtual 40, 3) := by decide +kernel
theorem dX7_batchOf_93 : decode cX7_batchOf 93 = .ok (.ireturn, 1) := by decide +kernel
theorem dX7_batchOf_94 : decode cX7_batchOf 94 = .ok (.aload_n 0, 1) := by decide +kernel
theorem dX7_batchOf_95 : decode cX7_batchOf 95 = .ok (.iload_n 1, 1) := by decide +kernel
theorem dX7_batchOf_96 : decode cX7_batchOf 96 = .ok (.iconst 5, 1) := by decide +kernel
theorem dX7_batchOf_97 : decode cX7_batchOf 97 = .ok (.invokevirtual 40, 3) := by decide +kernel
theorem dX7_batchOf_100 : decode cX7_batchOf 100 = .ok (.bipush 6, 2) := by decide +kernel
theorem dX7_batchOf_102 : decode cX7_batchOf 102 = .ok (.if_icmp .ne 8, 3) := by decide +kernel
theorem dX7_batchOf_105 : decode cX7_batchOf 105 = .ok (.bipush (-4), 2) := by decide +kernel
theorem dX7_batchOf_107 : decode cX7_batchOf 107 = .ok (.goto 8, 3) := by decide +kernel
theorem dX7_batchOf_110 : decode cX7_batchOf 110 = .ok (.aload_n 0, 1) := by decide +kernel
theorem dX7_batchOf_111 : decode cX7_batchOf 111 = .ok (.iload_n 1, 1) := by decide +kernel
theorem dX7_batchOf_112 : decode cX7_batchOf 112 = .ok (.invokevirtual 167, 3) := by decide +kernel
theorem dX7_batchOf_115 : decode cX7_batchOf 115 = .ok (.ireturn, 1) := by decide +kernel
theorem dX7_batchOf_116 : decode cX7_batchOf 116 = .ok (.aload_n 0, 1) := by decide +kernel
theorem dX7_batchOf_117 : decode cX7_batchOf 117 = .ok (.iload_n 1, 1) := by decide +kernel
theorem dX7_batchOf_118 : decode cX7_batchOf 118 = .ok (.bipush 8, 2) := by decide +kernel
theorem dX7_batchOf_120 : decode cX7_batchOf 120 = .ok (.invokevirtual 40, 3) := by decide +kernel
theorem dX7_batchOf_123 : decode cX7_batchOf 123 = .ok (.iconst (-1), 1) := by decide +kernel
theorem dX7_batchOf_124 : decode cX7_batchOf 124 = .ok (.if_icmp .ne 8, 3) := by decide +kernel
theorem dX7_batchOf_127 : decode cX7_batchOf 127 = .ok (.bipush (-4), 2) := by decide +kernel
theorem dX7_batchOf_129 : decode cX7_batchOf 129 = .ok (.goto 10, 3) := by decide +kernel
theorem dX7_batchOf_132 : decode cX7_batchOf 132 = .ok (.aload_n 0, 1) := by decide +kernel
theorem dX7_batchOf_133 : decode cX7_batchOf 133 = .ok (.iload_n 1, 1) := by decide +kernel
theorem dX7_batchOf_134 : decode cX7_batchOf 134 = .ok (.bipush 8, 2) := by decide +kernel
theorem dX7_batchOf_136 : decode cX7_batchOf 136 = .ok (.invokevirtual 40, 3) := by decide +kernel
theorem dX7_batchOf_139 : decode cX7_batchOf 139 = .ok (.ireturn, 1) := by decide +kernel
theorem dX7_batchOf_140 : decode cX7_batchOf 140 = .ok (.aload_n 0, 1) := by decide +kernel
theorem dX7_batchOf_141 : decode cX7_batchOf 141 = .ok (.iload_n 1, 1) := by decide +kernel
theorem dX7_batchOf_142 : decode cX7_batchOf 142 = .ok (.bipush 7, 2) := by decide +kernel
theorem dX7_batchOf_144 : decode cX7_batchOf 144 = .ok (.invokevirtual 40, 3) := by decide +kernel
theorem dX7_batchOf_147 : decode cX7_batchOf 147 = .ok (.ifCond .le 7, 3) := by decide +kernel
theorem dX7_batchOf_150 : decode cX7_batchOf 150 = .ok (.iconst 1, 1) := by decide +kernel
theorem dX7_batchOf_151 : decode cX7_batchOf 151 = .ok (.goto 4, 3) := by decide +kernel
theorem dX7_batchOf_154 : decode cX7_batchOf 154 = .ok (.iconst 0, 1) := by decide +kernel
theorem dX7_batchOf_155 : decode cX7_batchOf 155 = .ok (.ireturn, 1) := by decide +kernel
theorem dX7_batchOf_156 : decode cX7_batchOf 156 = .ok (.aload_n 0, 1) := by decide +kernel
theorem dX7_batchOf_157 : decode cX7_batchOf 157 = .ok (.iload_n 1, 1) := by decide +kernel
theorem dX7_batchOf_158 : decode cX7_batchOf 158 = .ok (.bipush 9, 2) := by decide +kernel
theorem dX7_batchOf_160 : decode cX7_batchOf 160 = .ok (.invokevirtual 40, 3) := by decide +kernel
theorem dX7_batchOf_163 : decode cX7_batchOf 163 = .ok (.ireturn, 1) := by decide +kernel
theorem dX7_batchOf_164 : decode cX7_batchOf 164 = .ok (.aload_n 0, 1) := by decide +kernel
theorem dX7_batchOf_165 : decode cX7_batchOf 165 = .ok (.iload_n 1, 1) := by decide +kernel
theorem dX7_batchOf_166 : decode cX7_batchOf 166 = .ok (.bipush 9, 2) := by decide +kernel
theorem dX7_batchOf_168 : decode cX7_batchOf 168 = .ok (.invokevirtual 40, 3) := by decide +kernel
theorem dX7_batchOf_171 : decode cX7_batchOf 171 = .ok (.invokestatic 173, 3) := by decide +kernel
theorem dX7_batchOf_174 : decode cX7_batchOf 174 = .ok (.f2i, 1) := by decide +kernel
theorem dX7_batchOf_175 : decode cX7_batchOf 175 = .ok (.ireturn, 1) := by decide +kernel
theorem dX7_batchOf_176 : decode cX7_batchOf 176 = .ok (.aload_n 0, 1) := by decide +kernel
theorem dX7_batchOf_177 : decode cX7_batchOf 177 = .ok (.iload_n 1, 1) := by decide +kernel
theorem dX7_batchOf_178 : decode cX7_batchOf 178 = .ok (.iload_n 2, 1) := by decide +kernel
theorem dX7_batchOf_179 : decode cX7_batchOf 179 = .ok (.invokevirtual 40, 3) := by decide +kernel
theorem dX7_batchOf_182 : decode cX7_batchOf 182 = .ok (.ireturn, 1) := by decide +kernel
theorem dX7_batchInfo_0 : decode cX7_batchInfo 0 = .ok (.aload_n 0, 1) := by decide +kernel
theorem dX7_batchInfo_1 : decode cX7_batchInfo 1 = .ok (.iload_n 1, 1) := by decide +kernel
theorem dX7_batchInfo_2 : decode cX7_batchInfo 2 = .ok (.invokevirtual 152, 3) := by decide +kernel
theorem dX7_batchInfo_5 : decode cX7_batchInfo 5 = .ok (.ifCond .eq 22, 3) := by decide +kernel
theorem dX7_batchInfo_8 : decode cX7_batchInfo 8 = .ok (.iload_n 2, 1) := by decide +kernel
theorem dX7_batchInfo_9 : decode cX7_batchInfo 9 = .ok (.iconst 0, 1) := by decide +kernel
theorem dX7_batchInfo_10 : decode cX7_batchInfo 10 = .ok (.bipush 11, 2) := by decide +kernel
theorem dX7_batchInfo_12 : decode cX7_batchInfo 12 = .ok (.invokestatic 36, 3) := by decide +kernel
theorem dX7_batchInfo_15 : decode cX7_batchInfo 15 = .ok (.ifCond .eq 12, 3) := by decide +kernel
theorem dX7_batchInfo_18 : decode cX7_batchInfo 18 = .ok (.aload_n 0, 1) := by decide +kernel
theorem dX7_batchInfo_19 : decode cX7_batchInfo 19 = .ok (.iload_n 1, 1) := by decide +kernel
theorem dX7_batchInfo_20 : decode cX7_batchInfo 20 = .ok (.iload_n 2, 1) := by decide +kernel
theorem dX7_batchInfo_21 : decode cX7_batchInfo 21 = .ok (.invokevirtual 177, 3) := by decide +kernel
theorem dX7_batchInfo_24 : decode cX7_batchInfo 24 = .ok (.goto 4, 3) := by decide +kernel
theorem dX7_batchInfo_27 : decode cX7_batchInfo 27 = .ok (.iconst (-1), 1) := by decide +kernel
theorem dX7_batchInfo_28 : decode cX7_batchInfo 28 = .ok (.ireturn, 1) := by decide +kernel
theorem dX7_unitFor_0 : decode cX7_unitFor 0 = .ok (.iconst 0, 1) := by decide +kernel
theorem dX7_unitFor_1 : decode cX7_unitFor 1 = .ok (.istore_n 3, 1) := by decide +kernel
theorem dX7_unitFor_2 : decode cX7_unitFor 2 = .ok (.iload_n 3, 1) := by decide +kernel
theorem dX7_unitFor_3 : decode cX7_unitFor 3 = .ok (.aload_n 0, 1) := by decide +kernel
theorem dX7_unitFor_4 : decode cX7_unitFor 4 = .ok (.getfield 7, 3) := by decide +kernel
theorem dX7_unitFor_7 : decode cX7_unitFor 7 = .ok (.iconst 2, 1) := by decide +kernel
theorem dX7_unitFor_8 : decode cX7_unitFor 8 = .ok (.iaload, 1) := by decide +kernel
theorem dX7_unitFor_9 : decode cX7_unitFor 9 = .ok (.if_icmp .ge 44, 3) := by decide +kernel
theorem dX7_unitFor_12 : decode cX7_unitFor 12 = .ok (.aload_n 0, 1) := by decide +kernel
theorem dX7_unitFor_13 : decode cX7_unitFor 13 = .ok (.iload_n 3, 1) := by decide +kernel
theorem dX7_unitFor_14 : decode cX7_unitFor 14 = .ok (.invokevirtual 82, 3) := by decide +kernel
theorem dX7_unitFor_17 : decode cX7_unitFor 17 = .ok (.ifCond .eq 30, 3) := by decide +kernel
theorem dX7_unitFor_20 : decode cX7_unitFor 20 = .ok (.aload_n 0, 1) := by decide +kernel
theorem dX7_unitFor_21 : decode cX7_unitFor 21 = .ok (.iload_n 3, 1) := by decide +kernel
theorem dX7_unitFor_22 : decode cX7_unitFor 22 = .ok (.iconst 0, 1) := by decide +kernel
theorem dX7_unitFor_23 : decode cX7_unitFor 23 = .ok (.invokevirtual 51, 3) := by decide +kernel
theorem dX7_unitFor_26 : decode cX7_unitFor 26 = .ok (.iload_n 2, 1) := by decide +kernel
theorem dX7_unitFor_27 : decode cX7_unitFor 27 = .ok (.if_icmp .ne 20, 3) := by decide +kernel
theorem dX7_unitFor_30 : decode cX7_unitFor 30 = .ok (.aload_n 0, 1) := by decide +kernel
theorem dX7_unitFor_31 : decode cX7_unitFor 31 = .ok (.iload_n 3, 1) := by decide +kernel
theorem dX7_unitFor_32 : decode cX7_unitFor 32 = .ok (.iconst 1, 1) := by decide +kernel
theorem dX7_unitFor_33 : decode cX7_unitFor 33 = .ok (.invokevirtual 51, 3) := by decide +kernel
theorem dX7_unitFor_36 : decode cX7_unitFor 36 = .ok (.aload_n 0, 1) := by decide +kernel
theorem dX7_unitFor_37 : decode cX7_unitFor 37 = .ok (.iload_n 1, 1) := by decide +kernel
theorem dX7_unitFor_38 : decode cX7_unitFor 38 = .ok (.iconst 2, 1) := by decide +kernel
theorem dX7_unitFor_39 : decode cX7_unitFor 39 = .ok (.invokevirtual 40, 3) := by decide +kernel
theorem dX7_unitFor_42 : decode cX7_unitFor 42 = .ok (.if_icmp .lt 5, 3) := by decide +kernel
theorem dX7_unitFor_45 : decode cX7_unitFor 45 = .ok (.iload_n 3, 1) := by decide +kernel
theorem dX7_unitFor_46 : decode cX7_unitFor 46 = .ok (.ireturn, 1) := by decide +kernel
theorem dX7_unitFor_47 : decode cX7_unitFor 47 = .ok (.iinc 3 1, 3) := by decide +kernel
theorem dX7_unitFor_50 : decode cX7_unitFor 50 = .ok (.goto (-48), 3) := by decide +kernel
theorem dX7_unitFor_53 : decode cX7_unitFor 53 = .ok (.iconst (-1), 1) := by decide +kernel
theorem dX7_unitFor_54 : decode cX7_unitFor 54 = .ok (.ireturn, 1) := by decide +kernel
theorem dX7_waitsForOther_0 : decode cX7_waitsForOther 0 = .ok (.aload_n 0, 1) := by decide +kernel
theorem dX7_waitsForOther_1 : decode cX7_waitsForOther 1 = .ok (.iload_n 1, 1) := by decide +kernel
theorem dX7_waitsForOther_2 : decode cX7_waitsForOther 2 = .ok (.iconst 4, 1) := by decide +kernel
theorem dX7_waitsForOther_3 : decode cX7_waitsForOther 3 = .ok (.invokevirtual 40, 3) := by decide +kernel
theorem dX7_waitsForOther_6 : decode cX7_waitsForOther 6 = .ok (.istore_n 2, 1) := by decide +kernel
theorem dX7_waitsForOther_7 : decode cX7_waitsForOther 7 = .ok (.aload_n 0, 1) := by decide +kernel
theorem dX7_waitsForOther_8 : decode cX7_waitsForOther 8 = .ok (.iload_n 1, 1) := by decide +kernel
theorem dX7_waitsForOther_9 : decode cX7_waitsForOther 9 = .ok (.bipush 6, 2) := by decide +kernel
theorem dX7_waitsForOther_11 : decode cX7_waitsForOther 11 = .ok (.invokevirtual 40, 3) := by decide +kernel
theorem dX7_waitsForOther_14 : decode cX7_waitsForOther 14 = .ok (.ifCond .ne 33, 3) := by decide +kernel
theorem dX7_waitsForOther_17 : decode cX7_waitsForOther 17 = .ok (.aload_n 0, 1) := by decide +kernel
theorem dX7_waitsForOther_18 : decode cX7_waitsForOther 18 = .ok (.iload_n 1, 1) := by decide +kernel
theorem dX7_waitsForOther_19 : decode cX7_waitsForOther 19 = .ok (.bipush 7, 2) := by decide +kernel
theorem dX7_waitsForOther_21 : decode cX7_waitsForOther 21 = .ok (.invokevirtual 40, 3) := by decide +kernel
theorem dX7_waitsForOther_24 : decode cX7_waitsForOther 24 = .ok (.ifCond .ne 23, 3) := by decide +kernel
theorem dX7_waitsForOther_27 : decode cX7_waitsForOther 27 = .ok (.iload_n 2, 1) := by decide +kernel
theorem dX7_waitsForOther_28 : decode cX7_waitsForOther 28 = .ok (.iconst (-1), 1) := by decide +kernel
theorem dX7_waitsForOther_29 : decode cX7_waitsForOther 29 = .ok (.if_icmp .eq 18, 3) := by decide +kernel
theorem dX7_waitsForOther_32 : decode cX7_waitsForOther 32 = .ok (.aload_n 0, 1) := by decide +kernel
theorem dX7_waitsForOther_33 : decode cX7_waitsForOther 33 = .ok (.iload_n 2, 1) := by decide +kernel
theorem dX7_waitsForOther_34 : decode cX7_waitsForOther 34 = .ok (.iconst 5, 1) := by decide +kernel
theorem dX7_waitsForOther_35 : decode cX7_waitsForOther 35 = .ok (.invokevirtual 40, 3) := by decide +kernel
theorem dX7_waitsForOther_38 : decode cX7_waitsForOther 38 = .ok (.bipush 6, 2) := by decide +kernel
theorem dX7_waitsForOther_40 : decode cX7_waitsForOther 40 = .ok (.if_icmp .eq 7, 3) := by decide +kernel
theorem dX7_waitsForOther_43 : decode cX7_waitsForOther 43 = .ok (.iconst 1, 1) := by decide +kernel
theorem dX7_waitsForOther_44 : decode cX7_waitsForOther 44 = .ok (.goto 4, 3) := by decide +kernel
theorem dX7_waitsForOther_47 : decode cX7_waitsForOther 47 = .ok (.iconst 0, 1) := by decide +kernel
theorem dX7_waitsForOther_48 : decode cX7_waitsForOther 48 = .ok (.ireturn, 1) := by decide +kernel
theorem dX7_waitsForShared_0 : decode cX7_waitsForShared 0 = .ok (.aload_n 0, 1) := by decide +kernel
theorem dX7_waitsForShared_1 : decode cX7_waitsForShared 1 = .ok (.iload_n 1, 1) := by decide +kernel
theorem dX7_waitsForShared_2 : decode cX7_waitsForShared 2 = .ok (.invokevirtual 164, 3) := by decide +kernel
theorem dX7_waitsForShared_5 : decode cX7_waitsForShared 5 = .ok (.invokestatic 137, 3) := by decide +kernel
theorem dX7_waitsForShared_8 : decode cX7_waitsForShared 8 = .ok (.istore_n 2, 1) := by decide +kernel
theorem dX7_waitsForShared_9 : decode cX7_waitsForShared 9 = .ok (.iload_n 2, 1) := by decide +kernel
theorem dX7_waitsForShared_10 : decode cX7_waitsForShared 10 = .ok (.iconst (-1), 1) := by decide +kernel
theorem dX7_waitsForShared_11 : decode cX7_waitsForShared 11 = .ok (.if_icmp .eq 33, 3) := by decide +kernel
theorem dX7_waitsForShared_14 : decode cX7_waitsForShared 14 = .ok (.aload_n 0, 1) := by decide +kernel
theorem dX7_waitsForShared_15 : decode cX7_waitsForShared 15 = .ok (.getfield 7, 3) := by decide +kernel
theorem dX7_waitsForShared_18 : decode cX7_waitsForShared 18 = .ok (.bipush 53, 2) := by decide +kernel
theorem dX7_waitsForShared_20 : decode cX7_waitsForShared 20 = .ok (.iload_n 2, 1) := by decide +kernel
theorem dX7_waitsForShared_21 : decode cX7_waitsForShared 21 = .ok (.iadd, 1) := by decide +kernel
theorem dX7_waitsForShared_22 : decode cX7_waitsForShared 22 = .ok (.iaload, 1) := by decide +kernel
theorem dX7_waitsForShared_23 : decode cX7_waitsForShared 23 = .ok (.iconst (-1), 1) := by decide +kernel
theorem dX7_waitsForShared_24 : decode cX7_waitsForShared 24 = .ok (.if_icmp .eq 20, 3) := by decide +kernel
theorem dX7_waitsForShared_27 : decode cX7_waitsForShared 27 = .ok (.aload_n 0, 1) := by decide +kernel
theorem dX7_waitsForShared_28 : decode cX7_waitsForShared 28 = .ok (.getfield 7, 3) := by decide +kernel
theorem dX7_waitsForShared_31 : decode cX7_waitsForShared 31 = .ok (.bipush 53, 2) := by decide +kernel
theorem dX7_waitsForShared_33 : decode cX7_waitsForShared 33 = .ok (.iload_n 2, 1) := by decide +kernel
theorem dX7_waitsForShared_34 : decode cX7_waitsForShared 34 = .ok (.iadd, 1) := by decide +kernel
theorem dX7_waitsForShared_35 : decode cX7_waitsForShared 35 = .ok (.iaload, 1) := by decide +kernel
theorem dX7_waitsForShared_36 : decode cX7_waitsForShared 36 = .ok (.iload_n 1, 1) := by decide +kernel
theorem dX7_waitsForShared_37 : decode cX7_waitsForShared 37 = .ok (.if_icmp .eq 7, 3) := by decide +kernel
theorem dX7_waitsForShared_40 : decode cX7_waitsForShared 40 = .ok (.iconst 1, 1) := by decide +kernel
theorem dX7_waitsForShared_41 : decode cX7_waitsForShared 41 = .ok (.goto 4, 3) := by decide +kernel
theorem dX7_waitsForShared_44 : decode cX7_waitsForShared 44 = .ok (.iconst 0, 1) := by decide +kernel
theorem dX7_waitsForShared_45 : decode cX7_waitsForShared 45 = .ok (.ireturn, 1) := by decide +kernel
theorem dX7_clean_0 : decode cX7_clean 0 = .ok (.iconst 0, 1) := by decide +kernel
theorem dX7_clean_1 : decode cX7_clean 1 = .ok (.istore_n 1, 1) := by decide +kernel
theorem dX7_clean_2 : decode cX7_clean 2 = .ok (.iload_n 1, 1) := by decide +kernel
theorem dX7_clean_3 : decode cX7_clean 3 = .ok (.aload_n 0, 1) := by decide +kernel
theorem dX7_clean_4 : decode cX7_clean 4 = .ok (.getfield 7, 3) := by decide +kernel
theorem dX7_clean_7 : decode cX7_clean 7 = .ok (.iconst 2, 1) := by decide +kernel
theorem dX7_clean_8 : decode cX7_clean 8 = .ok (.iaload, 1) := by decide +kernel
theorem dX7_clean_9 : decode cX7_clean 9 = .ok (.if_icmp .ge 36, 3) := by decide +kernel
theorem dX7_clean_12 : decode cX7_clean 12 = .ok (.aload_n 0, 1) := by decide +kernel
theorem dX7_clean_13 : decode cX7_clean 13 = .ok (.iload_n 1, 1) := by decide +kernel
theorem dX7_clean_14 : decode cX7_clean 14 = .ok (.iconst 4, 1) := by decide +kernel
theorem dX7_clean_15 : decode cX7_clean 15 = .ok (.aload_n 0, 1) := by decide +kernel
theorem dX7_clean_16 : decode cX7_clean 16 = .ok (.iload_n 1, 1) := by decide +kernel
theorem dX7_clean_17 : decode cX7_clean 17 = .ok (.iconst 4, 1) := by decide +kernel
theorem dX7_clean_18 : decode cX7_clean 18 = .ok (.invokevirtual 51, 3) := by decide +kernel
theorem dX7_clean_21 : decode cX7_clean 21 = .ok (.ifCond .le 14, 3) := by decide +kernel
theorem dX7_clean_24 : decode cX7_clean 24 = .ok (.aload_n 0, 1) := by decide +kernel
theorem dX7_clean_25 : decode cX7_clean 25 = .ok (.iload_n 1, 1) := by decide +kernel
theorem dX7_clean_26 : decode cX7_clean 26 = .ok (.iconst 4, 1) := by decide +kernel
theorem dX7_clean_27 : decode cX7_clean 27 = .ok (.invokevirtual 51, 3) := by decide +kernel
theorem dX7_clean_30 : decode cX7_clean 30 = .ok (.iconst 1, 1) := by decide +kernel
theorem dX7_clean_31 : decode cX7_clean 31 = .ok (.isub, 1) := by decide +kernel
theorem dX7_clean_32 : decode cX7_clean 32 = .ok (.goto 4, 3) := by decide +kernel
theorem dX7_clean_35 : decode cX7_clean 35 = .ok (.iconst 0, 1) := by decide +kernel
theorem dX7_clean_36 : decode cX7_clean 36 = .ok (.invokevirtual 47, 3) := by decide +kernel
theorem dX7_clean_39 : decode cX7_clean 39 = .ok (.iinc 1 1, 3) := by decide +kernel
theorem dX7_clean_42 : decode cX7_clean 42 = .ok (.goto (-40), 3) := by decide +kernel
theorem dX7_clean_45 : decode cX7_clean 45 = .ok (.return_, 1) := by decide +kernel
theorem dX7_reason_0 : decode cX7_reason 0 = .ok (.aload_n 0, 1) := by decide +kernel
theorem dX7_reason_1 : decode cX7_reason 1 = .ok (.iload_n 1, 1) := by decide +kernel
theorem dX7_reason_2 : decode cX7_reason 2 = .ok (.invokevirtual 180, 3) := by decide +kernel
theorem dX7_reason_5 : decode cX7_reason 5 = .ok (.ifCond .eq 5, 3) := by decide +kernel
theorem dX7_reason_8 : decode cX7_reason 8 = .ok (.iconst 1, 1) := by decide +kernel
theorem dX7_reason_9 : decode cX7_reason 9 = .ok (.ireturn, 1) := by decide +kernel
theorem dX7_reason_10 : decode cX7_reason 10 = .ok (.aload_n 0, 1) := by decide +kernel
theorem dX7_reason_11 : decode cX7_reason 11 = .ok (.iload_n 1, 1) := by decide +kernel
theorem dX7_reason_12 : decode cX7_reason 12 = .ok (.bipush 8, 2) := by decide +kernel
theorem dX7_reason_14 : decode cX7_reason 14 = .ok (.invokevirtual 40, 3) := by decide +kernel
theorem dX7_reason_17 : decode cX7_reason 17 = .ok (.iconst (-1), 1) := by decide +kernel
theorem dX7_reason_18 : decode cX7_reason 18 = .ok (.if_icmp .ne 22, 3) := by decide +kernel
theorem dX7_reason_21 : decode cX7_reason 21 = .ok (.aload_n 0, 1) := by decide +kernel
theorem dX7_reason_22 : decode cX7_reason 22 = .ok (.iload_n 1, 1) := by decide +kernel
theorem dX7_reason_23 : decode cX7_reason 23 = .ok (.aload_n 0, 1) := by decide +kernel
theorem dX7_reason_24 : decode cX7_reason 24 = .ok (.iload_n 1, 1) := by decide +kernel
theorem dX7_reason_25 : decode cX7_reason 25 = .ok (.invokevirtual 164, 3) := by decide +kernel
theorem dX7_reason_28 : decode cX7_reason 28 = .ok (.invokestatic 131, 3) := by decide +kernel
theorem dX7_reason_31 : decode cX7_reason 31 = .ok (.invokevirtual 183, 3) := by decide +kernel
theorem dX7_reason_34 : decode cX7_reason 34 = .ok (.iconst (-1), 1) := by decide +kernel
theorem dX7_reason_35 : decode cX7_reason 35 = .ok (.if_icmp .ne 5, 3) := by decide +kernel
theorem dX7_reason_38 : decode cX7_reason 38 = .ok (.iconst 2, 1) := by decide +kernel
theorem dX7_reason_39 : decode cX7_reason 39 = .ok (.ireturn, 1) := by decide +kernel
theorem dX7_reason_40 : decode cX7_reason 40 = .ok (.aload_n 0, 1) := by decide +kernel
theorem dX7_reason_41 : decode cX7_reason 41 = .ok (.iload_n 1, 1) := by decide +kernel
theorem dX7_reason_42 : decode cX7_reason 42 = .ok (.invokevirtual 186, 3) := by decide +kernel
theorem dX7_reason_45 : decode cX7_reason 45 = .ok (.ifCond .eq 7, 3) := by decide +kernel
theorem dX7_reason_48 : decode cX7_reason 48 = .ok (.iconst 3, 1) := by decide +kernel
theorem dX7_reason_49 : decode cX7_reason 49 = .ok (.goto 4, 3) := by decide +kernel
theorem dX7_reason_52 : decode cX7_reason 52 = .ok (.iconst 0, 1) := by decide +kernel
theorem dX7_reason_53 : decode cX7_reason 53 = .ok (.ireturn, 1) := by decide +kernel
theorem dX7_waits_0 : decode cX7_waits 0 = .ok (.aload_n 0, 1) := by decide +kernel
theorem dX7_waits_1 : decode cX7_waits 1 = .ok (.iload_n 1, 1) := by decide +kernel
theorem dX7_waits_2 : decode cX7_waits 2 = .ok (.invokevirtual 152, 3) := by decide +kernel
theorem dX7_waits_5 : decode cX7_waits 5 = .ok (.ifCond .ne 5, 3) := by decide +kernel
theorem dX7_waits_8 : decode cX7_waits 8 = .ok (.iconst (-1), 1) := by decide +kernel
theorem dX7_waits_9 : decode cX7_waits 9 = .ok (.ireturn, 1) := by decide +kernel
theorem dX7_waits_10 : decode cX7_waits 10 = .ok (.aload_n 0, 1) := by decide +kernel
theorem dX7_waits_11 : decode cX7_waits 11 = .ok (.iload_n 1, 1) := by decide +kernel
theorem dX7_waits_12 : decode cX7_waits 12 = .ok (.invokevirtual 72, 3) := by decide +kernel
theorem dX7_waits_15 : decode cX7_waits 15 = .ok (.ifCond .ne 6, 3) := by decide +kernel
theorem dX7_waits_18 : decode cX7_waits 18 = .ok (.bipush (-4), 2) := by decide +kernel
theorem dX7_waits_20 : decode cX7_waits 20 = .ok (.ireturn, 1) := by decide +kernel
theorem dX7_waits_21 : decode cX7_waits 21 = .ok (.aload_n 0, 1) := by decide +kernel
theorem dX7_waits_22 : decode cX7_waits 22 = .ok (.getfield 7, 3) := by decide +kernel
theorem dX7_waits_25 : decode cX7_waits 25 = .ok (.iconst 0, 1) := by decide +kernel
theorem dX7_waits_26 : decode cX7_waits 26 = .ok (.aload_n 0, 1) := by decide +kernel
theorem dX7_waits_27 : decode cX7_waits 27 = .ok (.getfield 13, 3) := by decide +kernel
theorem dX7_waits_30 : decode cX7_waits 30 = .ok (.iconst 0, 1) := by decide +kernel
theorem dX7_waits_31 : decode cX7_waits 31 = .ok (.invokestatic 32, 3) := by decide +kernel
theorem dX7_waits_34 : decode cX7_waits 34 = .ok (.aload_n 0, 1) := by decide +kernel
theorem dX7_waits_35 : decode cX7_waits 35 = .ok (.invokevirtual 189, 3) := by decide +kernel
theorem dX7_waits_38 : decode cX7_waits 38 = .ok (.aload_n 0, 1) := by decide +kernel
theorem dX7_waits_39 : decode cX7_waits 39 = .ok (.iload_n 1, 1) := by decide +kernel
theorem dX7_waits_40 : decode cX7_waits 40 = .ok (.invokevirtual 192, 3) := by decide +kernel
theorem dX7_waits_43 : decode cX7_waits 43 = .ok (.istore_n 2, 1) := by decide +kernel
theorem dX7_waits_44 : decode cX7_waits 44 = .ok (.aload_n 0, 1) := by decide +kernel
theorem dX7_waits_45 : decode cX7_waits 45 = .ok (.getfield 13, 3) := by decide +kernel
theorem dX7_waits_48 : decode cX7_waits 48 = .ok (.iconst 0, 1) := by decide +kernel
theorem dX7_waits_49 : decode cX7_waits 49 = .ok (.aload_n 0, 1) := by decide +kernel
theorem dX7_waits_50 : decode cX7_waits 50 = .ok (.getfield 7, 3) := by decide +kernel
theorem dX7_waits_53 : decode cX7_waits 53 = .ok (.iconst 0, 1) := by decide +kernel
theorem dX7_waits_54 : decode cX7_waits 54 = .ok (.invokestatic 32, 3) := by decide +kernel
theorem dX7_waits_57 : decode cX7_waits 57 = .ok (.iload_n 2, 1) := by decide +kernel
theorem dX7_waits_58 : decode cX7_waits 58 = .ok (.ireturn, 1) := by decide +kernel
theorem dX7_sort_0 : decode cX7_sort 0 = .ok (.iconst 0, 1) := by decide +kernel
theorem dX7_sort_1 : decode cX7_sort 1 = .ok (.istore_n 1, 1) := by decide +kernel
theorem dX7_sort_2 : decode cX7_sort 2 = .ok (.iconst 0, 1) := by decide +kernel
theorem dX7_sort_3 : decode cX7_sort 3 = .ok (.istore_n 2, 1) := by decide +kernel
theorem dX7_sort_4 : decode cX7_sort 4 = .ok (.iload_n 2, 1) := by decide +kernel
theorem dX7_sort_5 : decode cX7_sort 5 = .ok (.aload_n 0, 1) := by decide +kernel
theorem dX7_sort_6 : decode cX7_sort 6 = .ok (.getfield 7, 3) := by decide +kernel
theorem dX7_sort_9 : decode cX7_sort 9 = .ok (.iconst 3, 1) := by decide +kernel
theorem dX7_sort_10 : decode cX7_sort 10 = .ok (.iaload, 1) := by decide +kernel
theorem dX7_sort_11 : decode cX7_sort 11 = .ok (.if_icmp .ge 83, 3) := by decide +kernel
theorem dX7_sort_14 : decode cX7_sort 14 = .ok (.iload_n 1, 1) := by decide +kernel
theorem dX7_sort_15 : decode cX7_sort 15 = .ok (.istore_n 3, 1) := by decide +kernel
theorem dX7_sort_16 : decode cX7_sort 16 = .ok (.aload_n 0, 1) := by decide +kernel
theorem dX7_sort_17 : decode cX7_sort 17 = .ok (.iload_n 2, 1) := by decide +kernel
theorem dX7_sort_18 : decode cX7_sort 18 = .ok (.invokevirtual 72, 3) := by decide +kernel
theorem dX7_sort_21 : decode cX7_sort 21 = .ok (.ifCond .eq 49, 3) := by decide +kernel
theorem dX7_sort_24 : decode cX7_sort 24 = .ok (.iload_n 3, 1) := by decide +kernel
theorem dX7_sort_25 : decode cX7_sort 25 = .ok (.ifCond .le 45, 3) := by decide +kernel
theorem dX7_sort_28 : decode cX7_sort 28 = .ok (.aload_n 0, 1) := by decide +kernel
theorem dX7_sort_29 : decode cX7_sort 29 = .ok (.aload_n 0, 1) := by decide +kernel
theorem dX7_sort_30 : decode cX7_sort 30 = .ok (.getfield 25, 3) := by decide +kernel
theorem dX7_sort_33 : decode cX7_sort 33 = .ok (.iload_n 3, 1) := by decide +kernel
theorem dX7_sort_34 : decode cX7_sort 34 = .ok (.iconst 1, 1) := by decide +kernel
theorem dX7_sort_35 : decode cX7_sort 35 = .ok (.isub, 1) := by decide +kernel
theorem dX7_sort_36 : decode cX7_sort 36 = .ok (.iaload, 1) := by decide +kernel
theorem dX7_sort_37 : decode cX7_sort 37 = .ok (.iconst 3, 1) := by decide +kernel
theorem dX7_sort_38 : decode cX7_sort 38 = .ok (.invokevirtual 40, 3) := by decide +kernel
theorem dX7_sort_41 : decode cX7_sort 41 = .ok (.aload_n 0, 1) := by decide +kernel
theorem dX7_sort_42 : decode cX7_sort 42 = .ok (.iload_n 2, 1) := by decide +kernel
theorem dX7_sort_43 : decode cX7_sort 43 = .ok (.iconst 3, 1) := by decide +kernel
theorem dX7_sort_44 : decode cX7_sort 44 = .ok (.invokevirtual 40, 3) := by decide +kernel
theorem dX7_sort_47 : decode cX7_sort 47 = .ok (.if_icmp .ge 23, 3) := by decide +kernel
theorem dX7_sort_50 : decode cX7_sort 50 = .ok (.aload_n 0, 1) := by decide +kernel
theorem dX7_sort_51 : decode cX7_sort 51 = .ok (.getfield 25, 3) := by decide +kernel
theorem dX7_sort_54 : decode cX7_sort 54 = .ok (.iload_n 3, 1) := by decide +kernel
theorem dX7_sort_55 : decode cX7_sort 55 = .ok (.aload_n 0, 1) := by decide +kernel
theorem dX7_sort_56 : decode cX7_sort 56 = .ok (.getfield 25, 3) := by decide +kernel
theorem dX7_sort_59 : decode cX7_sort 59 = .ok (.iload_n 3, 1) := by decide +kernel
theorem dX7_sort_60 : decode cX7_sort 60 = .ok (.iconst 1, 1) := by decide +kernel
theorem dX7_sort_61 : decode cX7_sort 61 = .ok (.isub, 1) := by decide +kernel
theorem dX7_sort_62 : decode cX7_sort 62 = .ok (.iaload, 1) := by decide +kernel
theorem dX7_sort_63 : decode cX7_sort 63 = .ok (.iastore, 1) := by decide +kernel
theorem dX7_sort_64 : decode cX7_sort 64 = .ok (.iinc 3 (-1), 3) := by decide +kernel
theorem dX7_sort_67 : decode cX7_sort 67 = .ok (.goto (-51), 3) := by decide +kernel
theorem dX7_sort_70 : decode cX7_sort 70 = .ok (.aload_n 0, 1) := by decide +kernel
theorem dX7_sort_71 : decode cX7_sort 71 = .ok (.iload_n 2, 1) := by decide +kernel
theorem dX7_sort_72 : decode cX7_sort 72 = .ok (.invokevirtual 72, 3) := by decide +kernel
theorem dX7_sort_75 : decode cX7_sort 75 = .ok (.ifCond .eq 13, 3) := by decide +kernel
theorem dX7_sort_78 : decode cX7_sort 78 = .ok (.aload_n 0, 1) := by decide +kernel
theorem dX7_sort_79 : decode cX7_sort 79 = .ok (.getfield 25, 3) := by decide +kernel
theorem dX7_sort_82 : decode cX7_sort 82 = .ok (.iload_n 3, 1) := by decide +kernel
theorem dX7_sort_83 : decode cX7_sort 83 = .ok (.iload_n 2, 1) := by decide +kernel
theorem dX7_sort_84 : decode cX7_sort 84 = .ok (.iastore, 1) := by decide +kernel
theorem dX7_sort_85 : decode cX7_sort 85 = .ok (.iinc 1 1, 3) := by decide +kernel
theorem dX7_sort_88 : decode cX7_sort 88 = .ok (.iinc 2 1, 3) := by decide +kernel
theorem dX7_sort_91 : decode cX7_sort 91 = .ok (.goto (-87), 3) := by decide +kernel
theorem dX7_sort_94 : decode cX7_sort 94 = .ok (.iload_n 1, 1) := by decide +kernel
theorem dX7_sort_95 : decode cX7_sort 95 = .ok (.ireturn, 1) := by decide +kernel
theorem dX7_inOrder_0 : decode cX7_inOrder 0 = .ok (.iload_n 1, 1) := by decide +kernel
theorem dX7_inOrder_1 : decode cX7_inOrder 1 = .ok (.ifCond .ge 5, 3) := by decide +kernel
theorem dX7_inOrder_4 : decode cX7_inOrder 4 = .ok (.iconst (-1), 1) := by decide +kernel
theorem dX7_inOrder_5 : decode cX7_inOrder 5 = .ok (.ireturn, 1) := by decide +kernel
theorem dX7_inOrder_6 : decode cX7_inOrder 6 = .ok (.iload_n 1, 1) := by decide +kernel
theorem dX7_inOrder_7 : decode cX7_inOrder 7 = .ok (.aload_n 0, 1) := by decide +kernel
theorem dX7_inOrder_8 : decode cX7_inOrder 8 = .ok (.invokevirtual 195, 3) := by decide +kernel
theorem dX7_inOrder_11 : decode cX7_inOrder 11 = .ok (.if_icmp .ge 12, 3) := by decide +kernel
theorem dX7_inOrder_14 : decode cX7_inOrder 14 = .ok (.aload_n 0, 1) := by decide +kernel
theorem dX7_inOrder_15 : decode cX7_inOrder 15 = .ok (.getfield 25, 3) := by decide +kernel
theorem dX7_inOrder_18 : decode cX7_inOrder 18 = .ok (.iload_n 1, 1) := by decide +kernel
theorem dX7_inOrder_19 : decode cX7_inOrder 19 = .ok (.iaload, 1) := by decide +kernel
theorem dX7_inOrder_20 : decode cX7_inOrder 20 = .ok (.goto 5, 3) := by decide +kernel
theorem dX7_inOrder_23 : decode cX7_inOrder 23 = .ok (.bipush (-4), 2) := by decide +kernel
theorem dX7_inOrder_25 : decode cX7_inOrder 25 = .ok (.ireturn, 1) := by decide +kernel
theorem dX7_ends_0 : decode cX7_ends 0 = .ok (.aload_n 0, 1) := by decide +kernel
theorem dX7_ends_1 : decode cX7_ends 1 = .ok (.iload_n 1, 1) := by decide +kernel
theorem dX7_ends_2 : decode cX7_ends 2 = .ok (.invokevirtual 164, 3) := by decide +kernel
theorem dX7_ends_5 : decode cX7_ends 5 = .ok (.istore_n 2, 1) := by decide +kernel
theorem dX7_ends_6 : decode cX7_ends 6 = .ok (.aload_n 0, 1) := by decide +kernel
theorem dX7_ends_7 : decode cX7_ends 7 = .ok (.iload_n 1, 1) := by decide +kernel
theorem dX7_ends_8 : decode cX7_ends 8 = .ok (.bipush 9, 2) := by decide +kernel
theorem dX7_ends_10 : decode cX7_ends 10 = .ok (.invokevirtual 40, 3) := by decide +kernel
theorem dX7_ends_13 : decode cX7_ends 13 = .ok (.invokestatic 173, 3) := by decide +kernel
theorem dX7_ends_16 : decode cX7_ends 16 = .ok (.fstore_n 3, 1) := by decide +kernel
theorem dX7_ends_17 : decode cX7_ends 17 = .ok (.aload_n 0, 1) := by decide +kernel
theorem dX7_ends_18 : decode cX7_ends 18 = .ok (.iload_n 1, 1) := by decide +kernel
theorem dX7_ends_19 : decode cX7_ends 19 = .ok (.invokevirtual 57, 3) := by decide +kernel
theorem dX7_ends_22 : decode cX7_ends 22 = .ok (.aload_n 0, 1) := by decide +kernel
theorem dX7_ends_23 : decode cX7_ends 23 = .ok (.iload_n 1, 1) := by decide +kernel
theorem dX7_ends_24 : decode cX7_ends 24 = .ok (.bipush 9, 2) := by decide +kernel
theorem dX7_ends_26 : decode cX7_ends 26 = .ok (.fload_n 3, 1) := by decide +kernel
theorem dX7_ends_27 : decode cX7_ends 27 = .ok (.iload_n 2, 1) := by decide +kernel
theorem dX7_ends_28 : decode cX7_ends 28 = .ok (.invokestatic 140, 3) := by decide +kernel
theorem dX7_ends_31 : decode cX7_ends 31 = .ok (.i2f, 1) := by decide +kernel
theorem dX7_ends_32 : decode cX7_ends 32 = .ok (.fmul, 1) := by decide +kernel
theorem dX7_ends_33 : decode cX7_ends 33 = .ok (.ldc 198, 2) := by decide +kernel
theorem dX7_ends_35 : decode cX7_ends 35 = .ok (.fdiv, 1) := by decide +kernel
theorem dX7_ends_36 : decode cX7_ends 36 = .ok (.invokestatic 155, 3) := by decide +kernel
theorem dX7_ends_39 : decode cX7_ends 39 = .ok (.invokevirtual 54, 3) := by decide +kernel
theorem dX7_ends_42 : decode cX7_ends 42 = .ok (.aload_n 0, 1) := by decide +kernel
theorem dX7_ends_43 : decode cX7_ends 43 = .ok (.iload_n 1, 1) := by decide +kernel
theorem dX7_ends_44 : decode cX7_ends 44 = .ok (.bipush 6, 2) := by decide +kernel
theorem dX7_ends_46 : decode cX7_ends 46 = .ok (.aload_n 0, 1) := by decide +kernel
theorem dX7_ends_47 : decode cX7_ends 47 = .ok (.iload_n 1, 1) := by decide +kernel
theorem dX7_ends_48 : decode cX7_ends 48 = .ok (.bipush 6, 2) := by decide +kernel
theorem dX7_ends_50 : decode cX7_ends 50 = .ok (.invokevirtual 40, 3) := by decide +kernel
theorem dX7_ends_53 : decode cX7_ends 53 = .ok (.iconst 1, 1) := by decide +kernel
theorem dX7_ends_54 : decode cX7_ends 54 = .ok (.iadd, 1) := by decide +kernel
theorem dX7_ends_55 : decode cX7_ends 55 = .ok (.invokevirtual 54, 3) := by decide +kernel
theorem dX7_ends_58 : decode cX7_ends 58 = .ok (.aload_n 0, 1) := by decide +kernel
theorem dX7_ends_59 : decode cX7_ends 59 = .ok (.iload_n 1, 1) := by decide +kernel
theorem dX7_ends_60 : decode cX7_ends 60 = .ok (.bipush 7, 2) := by decide +kernel
theorem dX7_ends_62 : decode cX7_ends 62 = .ok (.iconst 0, 1) := by decide +kernel
theorem dX7_ends_63 : decode cX7_ends 63 = .ok (.invokevirtual 54, 3) := by decide +kernel
theorem dX7_ends_66 : decode cX7_ends 66 = .ok (.aload_n 0, 1) := by decide +kernel
theorem dX7_ends_67 : decode cX7_ends 67 = .ok (.iload_n 1, 1) := by decide +kernel
theorem dX7_ends_68 : decode cX7_ends 68 = .ok (.iconst 1, 1) := by decide +kernel
theorem dX7_ends_69 : decode cX7_ends 69 = .ok (.invokevirtual 64, 3) := by decide +kernel
theorem dX7_ends_72 : decode cX7_ends 72 = .ok (.aload_n 0, 1) := by decide +kernel
theorem dX7_ends_73 : decode cX7_ends 73 = .ok (.iload_n 1, 1) := by decide +kernel
theorem dX7_ends_74 : decode cX7_ends 74 = .ok (.bipush 6, 2) := by decide +kernel
theorem dX7_ends_76 : decode cX7_ends 76 = .ok (.invokevirtual 40, 3) := by decide +kernel
theorem dX7_ends_79 : decode cX7_ends 79 = .ok (.aload_n 0, 1) := by decide +kernel
theorem dX7_ends_80 : decode cX7_ends 80 = .ok (.aload_n 0, 1) := by decide +kernel
theorem dX7_ends_81 : decode cX7_ends 81 = .ok (.iload_n 1, 1) := by decide +kernel
theorem dX7_ends_82 : decode cX7_ends 82 = .ok (.iconst 0, 1) := by decide +kernel
theorem dX7_ends_83 : decode cX7_ends 83 = .ok (.invokevirtual 40, 3) := by decide +kernel
theorem dX7_ends_86 : decode cX7_ends 86 = .ok (.aload_n 0, 1) := by decide +kernel
theorem dX7_ends_87 : decode cX7_ends 87 = .ok (.iload_n 1, 1) := by decide +kernel
theorem dX7_ends_88 : decode cX7_ends 88 = .ok (.iconst 1, 1) := by decide +kernel
theorem dX7_ends_89 : decode cX7_ends 89 = .ok (.invokevirtual 40, 3) := by decide +kernel
theorem dX7_ends_92 : decode cX7_ends 92 = .ok (.invokevirtual 146, 3) := by decide +kernel
theorem dX7_ends_95 : decode cX7_ends 95 = .ok (.if_icmp .ne 7, 3) := by decide +kernel
theorem dX7_ends_98 : decode cX7_ends 98 = .ok (.iconst 1, 1) := by decide +kernel
theorem dX7_ends_99 : decode cX7_ends 99 = .ok (.goto 4, 3) := by decide +kernel
theorem dX7_ends_102 : decode cX7_ends 102 = .ok (.iconst 0, 1) := by decide +kernel
theorem dX7_ends_103 : decode cX7_ends 103 = .ok (.istore 4, 2) := by decide +kernel
theorem dX7_ends_105 : decode cX7_ends 105 = .ok (.iload 4, 2) := by decide +kernel
theorem dX7_ends_107 : decode cX7_ends 107 = .ok (.ifCond .eq 15, 3) := by decide +kernel
theorem dX7_ends_110 : decode cX7_ends 110 = .ok (.aload_n 0, 1) := by decide +kernel
theorem dX7_ends_111 : decode cX7_ends 111 = .ok (.iload_n 1, 1) := by decide +kernel
theorem dX7_ends_112 : decode cX7_ends 112 = .ok (.bipush 6, 2) := by decide +kernel
theorem dX7_ends_114 : decode cX7_ends 114 = .ok (.bipush 6, 2) := by decide +kernel
theorem dX7_ends_116 : decode cX7_ends 116 = .ok (.invokevirtual 170, 3) := by decide +kernel
theorem dX7_ends_119 : decode cX7_ends 119 = .ok (.goto 43, 3) := by decide +kernel
theorem dX7_ends_122 : decode cX7_ends 122 = .ok (.aload_n 0, 1) := by decide +kernel
theorem dX7_ends_123 : decode cX7_ends 123 = .ok (.iload_n 1, 1) := by decide +kernel
theorem dX7_ends_124 : decode cX7_ends 124 = .ok (.iconst 5, 1) := by decide +kernel
theorem dX7_ends_125 : decode cX7_ends 125 = .ok (.invokevirtual 40, 3) := by decide +kernel
theorem dX7_ends_128 : decode cX7_ends 128 = .ok (.iconst 3, 1) := by decide +kernel
theorem dX7_ends_129 : decode cX7_ends 129 = .ok (.if_icmp .ne 13, 3) := by decide +kernel
theorem dX7_ends_132 : decode cX7_ends 132 = .ok (.aload_n 0, 1) := by decide +kernel
theorem dX7_ends_133 : decode cX7_ends 133 = .ok (.iload_n 1, 1) := by decide +kernel
theorem dX7_ends_134 : decode cX7_ends 134 = .ok (.iconst 4, 1) := by decide +kernel
theorem dX7_ends_135 : decode cX7_ends 135 = .ok (.iconst 4, 1) := by decide +kernel
theorem dX7_ends_136 : decode cX7_ends 136 = .ok (.invokevirtual 170, 3) := by decide +kernel
theorem dX7_ends_139 : decode cX7_ends 139 = .ok (.goto 23, 3) := by decide +kernel
theorem dX7_ends_142 : decode cX7_ends 142 = .ok (.aload_n 0, 1) := by decide +kernel
theorem dX7_ends_143 : decode cX7_ends 143 = .ok (.iload_n 1, 1) := by decide +kernel
theorem dX7_ends_144 : decode cX7_ends 144 = .ok (.invokevirtual 164, 3) := by decide +kernel
theorem dX7_ends_147 : decode cX7_ends 147 = .ok (.invokestatic 131, 3) := by decide +kernel
theorem dX7_ends_150 : decode cX7_ends 150 = .ok (.iload_n 2, 1) := by decide +kernel
theorem dX7_ends_151 : decode cX7_ends 151 = .ok (.invokestatic 131, 3) := by decide +kernel
theorem dX7_ends_154 : decode cX7_ends 154 = .ok (.if_icmp .eq 8, 3) := by decide +kernel
theorem dX7_ends_157 : decode cX7_ends 157 = .ok (.aload_n 0, 1) := by decide +kernel
theorem dX7_ends_158 : decode cX7_ends 158 = .ok (.iload_n 1, 1) := by decide +kernel
theorem dX7_ends_159 : decode cX7_ends 159 = .ok (.invokevirtual 61, 3) := by decide +kernel
theorem dX7_ends_162 : decode cX7_ends 162 = .ok (.return_, 1) := by decide +kernel
theorem dX7_work_0 : decode cX7_work 0 = .ok (.aload_n 0, 1) := by decide +kernel
theorem dX7_work_1 : decode cX7_work 1 = .ok (.iload_n 1, 1) := by decide +kernel
theorem dX7_work_2 : decode cX7_work 2 = .ok (.invokevirtual 164, 3) := by decide +kernel
theorem dX7_work_5 : decode cX7_work 5 = .ok (.istore_n 2, 1) := by decide +kernel
theorem dX7_work_6 : decode cX7_work 6 = .ok (.aload_n 0, 1) := by decide +kernel
theorem dX7_work_7 : decode cX7_work 7 = .ok (.iload_n 1, 1) := by decide +kernel
theorem dX7_work_8 : decode cX7_work 8 = .ok (.invokevirtual 180, 3) := by decide +kernel
theorem dX7_work_11 : decode cX7_work 11 = .ok (.ifCond .eq 4, 3) := by decide +kernel
theorem dX7_work_14 : decode cX7_work 14 = .ok (.return_, 1) := by decide +kernel
theorem dX7_work_15 : decode cX7_work 15 = .ok (.aload_n 0, 1) := by decide +kernel
theorem dX7_work_16 : decode cX7_work 16 = .ok (.iload_n 1, 1) := by decide +kernel
theorem dX7_work_17 : decode cX7_work 17 = .ok (.bipush 8, 2) := by decide +kernel
theorem dX7_work_19 : decode cX7_work 19 = .ok (.invokevirtual 40, 3) := by decide +kernel
theorem dX7_work_22 : decode cX7_work 22 = .ok (.iconst (-1), 1) := by decide +kernel
theorem dX7_work_23 : decode cX7_work 23 = .ok (.if_icmp .ne 40, 3) := by decide +kernel
theorem dX7_work_26 : decode cX7_work 26 = .ok (.aload_n 0, 1) := by decide +kernel
theorem dX7_work_27 : decode cX7_work 27 = .ok (.iload_n 1, 1) := by decide +kernel
theorem dX7_work_28 : decode cX7_work 28 = .ok (.iload_n 2, 1) := by decide +kernel
theorem dX7_work_29 : decode cX7_work 29 = .ok (.invokestatic 131, 3) := by decide +kernel
theorem dX7_work_32 : decode cX7_work 32 = .ok (.invokevirtual 183, 3) := by decide +kernel
theorem dX7_work_35 : decode cX7_work 35 = .ok (.istore_n 3, 1) := by decide +kernel
theorem dX7_work_36 : decode cX7_work 36 = .ok (.iload_n 3, 1) := by decide +kernel
theorem dX7_work_37 : decode cX7_work 37 = .ok (.iconst (-1), 1) := by decide +kernel
theorem dX7_work_38 : decode cX7_work 38 = .ok (.if_icmp .ne 4, 3) := by decide +kernel
theorem dX7_work_41 : decode cX7_work 41 = .ok (.return_, 1) := by decide +kernel
theorem dX7_work_42 : decode cX7_work 42 = .ok (.aload_n 0, 1) := by decide +kernel
theorem dX7_work_43 : decode cX7_work 43 = .ok (.iload_n 1, 1) := by decide +kernel
theorem dX7_work_44 : decode cX7_work 44 = .ok (.bipush 8, 2) := by decide +kernel
theorem dX7_work_46 : decode cX7_work 46 = .ok (.iload_n 3, 1) := by decide +kernel
theorem dX7_work_47 : decode cX7_work 47 = .ok (.invokevirtual 54, 3) := by decide +kernel
theorem dX7_work_50 : decode cX7_work 50 = .ok (.aload_n 0, 1) := by decide +kernel
theorem dX7_work_51 : decode cX7_work 51 = .ok (.iload_n 3, 1) := by decide +kernel
theorem dX7_work_52 : decode cX7_work 52 = .ok (.iconst 2, 1) := by decide +kernel
theorem dX7_work_53 : decode cX7_work 53 = .ok (.iload_n 1, 1) := by decide +kernel
theorem dX7_work_54 : decode cX7_work 54 = .ok (.invokevirtual 47, 3) := by decide +kernel
theorem dX7_work_57 : decode cX7_work 57 = .ok (.aload_n 0, 1) := by decide +kernel
theorem dX7_work_58 : decode cX7_work 58 = .ok (.iload_n 1, 1) := by decide +kernel
theorem dX7_work_59 : decode cX7_work 59 = .ok (.iconst 0, 1) := by decide +kernel
theorem dX7_work_60 : decode cX7_work 60 = .ok (.invokevirtual 64, 3) := by decide +kernel
theorem dX7_work_63 : decode cX7_work 63 = .ok (.aload_n 0, 1) := by decide +kernel
theorem dX7_work_64 : decode cX7_work 64 = .ok (.iload_n 1, 1) := by decide +kernel
theorem dX7_work_65 : decode cX7_work 65 = .ok (.invokevirtual 186, 3) := by decide +kernel
theorem dX7_work_68 : decode cX7_work 68 = .ok (.ifCond .eq 4, 3) := by decide +kernel
theorem dX7_work_71 : decode cX7_work 71 = .ok (.return_, 1) := by decide +kernel
theorem dX7_work_72 : decode cX7_work 72 = .ok (.iload_n 2, 1) := by decide +kernel
theorem dX7_work_73 : decode cX7_work 73 = .ok (.invokestatic 137, 3) := by decide +kernel
theorem dX7_work_76 : decode cX7_work 76 = .ok (.iconst (-1), 1) := by decide +kernel
theorem dX7_work_77 : decode cX7_work 77 = .ok (.if_icmp .eq 16, 3) := by decide +kernel
theorem dX7_work_80 : decode cX7_work 80 = .ok (.aload_n 0, 1) := by decide +kernel
theorem dX7_work_81 : decode cX7_work 81 = .ok (.getfield 7, 3) := by decide +kernel
theorem dX7_work_84 : decode cX7_work 84 = .ok (.bipush 53, 2) := by decide +kernel
theorem dX7_work_86 : decode cX7_work 86 = .ok (.iload_n 2, 1) := by decide +kernel
theorem dX7_work_87 : decode cX7_work 87 = .ok (.invokestatic 137, 3) := by decide +kernel
theorem dX7_work_90 : decode cX7_work 90 = .ok (.iadd, 1) := by decide +kernel
theorem dX7_work_91 : decode cX7_work 91 = .ok (.iload_n 1, 1) := by decide +kernel
theorem dX7_work_92 : decode cX7_work 92 = .ok (.iastore, 1) := by decide +kernel
theorem dX7_work_93 : decode cX7_work 93 = .ok (.aload_n 0, 1) := by decide +kernel
theorem dX7_work_94 : decode cX7_work 94 = .ok (.iload_n 1, 1) := by decide +kernel
theorem dX7_work_95 : decode cX7_work 95 = .ok (.bipush 7, 2) := by decide +kernel
theorem dX7_work_97 : decode cX7_work 97 = .ok (.aload_n 0, 1) := by decide +kernel
theorem dX7_work_98 : decode cX7_work 98 = .ok (.iload_n 1, 1) := by decide +kernel
theorem dX7_work_99 : decode cX7_work 99 = .ok (.bipush 7, 2) := by decide +kernel
theorem dX7_work_101 : decode cX7_work 101 = .ok (.invokevirtual 40, 3) := by decide +kernel
theorem dX7_work_104 : decode cX7_work 104 = .ok (.iconst 1, 1) := by decide +kernel
theorem dX7_work_105 : decode cX7_work 105 = .ok (.iadd, 1) := by decide +kernel
theorem dX7_work_106 : decode cX7_work 106 = .ok (.invokevirtual 54, 3) := by decide +kernel
theorem dX7_work_109 : decode cX7_work 109 = .ok (.aload_n 0, 1) := by decide +kernel
theorem dX7_work_110 : decode cX7_work 110 = .ok (.aload_n 0, 1) := by decide +kernel
theorem dX7_work_111 : decode cX7_work 111 = .ok (.iload_n 1, 1) := by decide +kernel
theorem dX7_work_112 : decode cX7_work 112 = .ok (.bipush 8, 2) := by decide +kernel
theorem dX7_work_114 : decode cX7_work 114 = .ok (.invokevirtual 40, 3) := by decide +kernel
theorem dX7_work_117 : decode cX7_work 117 = .ok (.iconst 5, 1) := by decide +kernel
theorem dX7_work_118 : decode cX7_work 118 = .ok (.aload_n 0, 1) := by decide +kernel
theorem dX7_work_119 : decode cX7_work 119 = .ok (.aload_n 0, 1) := by decide +kernel
theorem dX7_work_120 : decode cX7_work 120 = .ok (.iload_n 1, 1) := by decide +kernel
theorem dX7_work_121 : decode cX7_work 121 = .ok (.bipush 8, 2) := by decide +kernel
theorem dX7_work_123 : decode cX7_work 123 = .ok (.invokevirtual 40, 3) := by decide +kernel
theorem dX7_work_126 : decode cX7_work 126 = .ok (.iconst 5, 1) := by decide +kernel
theorem dX7_work_127 : decode cX7_work 127 = .ok (.invokevirtual 51, 3) := by decide +kernel
theorem dX7_work_130 : decode cX7_work 130 = .ok (.iconst 1, 1) := by decide +kernel
theorem dX7_work_131 : decode cX7_work 131 = .ok (.iadd, 1) := by decide +kernel
theorem dX7_work_132 : decode cX7_work 132 = .ok (.invokevirtual 47, 3) := by decide +kernel
theorem dX7_work_135 : decode cX7_work 135 = .ok (.aload_n 0, 1) := by decide +kernel
theorem dX7_work_136 : decode cX7_work 136 = .ok (.iload_n 1, 1) := by decide +kernel
theorem dX7_work_137 : decode cX7_work 137 = .ok (.invokevirtual 167, 3) := by decide +kernel
theorem dX7_work_140 : decode cX7_work 140 = .ok (.ifCond .ne 8, 3) := by decide +kernel
theorem dX7_work_143 : decode cX7_work 143 = .ok (.aload_n 0, 1) := by decide +kernel
theorem dX7_work_144 : decode cX7_work 144 = .ok (.iload_n 1, 1) := by decide +kernel
theorem dX7_work_145 : decode cX7_work 145 = .ok (.invokevirtual 199, 3) := by decide +kernel
theorem dX7_work_148 : decode cX7_work 148 = .ok (.return_, 1) := by decide +kernel
theorem dX7_tick_0 : decode cX7_tick 0 = .ok (.aload_n 0, 1) := by decide +kernel
theorem dX7_tick_1 : decode cX7_tick 1 = .ok (.invokevirtual 189, 3) := by decide +kernel
theorem dX7_tick_4 : decode cX7_tick 4 = .ok (.aload_n 0, 1) := by decide +kernel
theorem dX7_tick_5 : decode cX7_tick 5 = .ok (.invokevirtual 195, 3) := by decide +kernel
theorem dX7_tick_8 : decode cX7_tick 8 = .ok (.istore_n 1, 1) := by decide +kernel
theorem dX7_tick_9 : decode cX7_tick 9 = .ok (.iconst 0, 1) := by decide +kernel
theorem dX7_tick_10 : decode cX7_tick 10 = .ok (.istore_n 2, 1) := by decide +kernel
theorem dX7_tick_11 : decode cX7_tick 11 = .ok (.iload_n 2, 1) := by decide +kernel
theorem dX7_tick_12 : decode cX7_tick 12 = .ok (.iload_n 1, 1) := by decide +kernel
theorem dX7_tick_13 : decode cX7_tick 13 = .ok (.if_icmp .ge 19, 3) := by decide +kernel
theorem dX7_tick_16 : decode cX7_tick 16 = .ok (.aload_n 0, 1) := by decide +kernel
theorem dX7_tick_17 : decode cX7_tick 17 = .ok (.aload_n 0, 1) := by decide +kernel
theorem dX7_tick_18 : decode cX7_tick 18 = .ok (.getfield 25, 3) := by decide +kernel
theorem dX7_tick_21 : decode cX7_tick 21 = .ok (.iload_n 2, 1) := by decide +kernel
theorem dX7_tick_22 : decode cX7_tick 22 = .ok (.iaload, 1) := by decide +kernel
theorem dX7_tick_23 : decode cX7_tick 23 = .ok (.invokevirtual 202, 3) := by decide +kernel
theorem dX7_tick_26 : decode cX7_tick 26 = .ok (.iinc 2 1, 3) := by decide +kernel
theorem dX7_tick_29 : decode cX7_tick 29 = .ok (.goto (-18), 3) := by decide +kernel
theorem dX7_tick_32 : decode cX7_tick 32 = .ok (.aload_n 0, 1) := by decide +kernel
theorem dX7_tick_33 : decode cX7_tick 33 = .ok (.getfield 7, 3) := by decide +kernel
theorem dX7_tick_36 : decode cX7_tick 36 = .ok (.iconst 1, 1) := by decide +kernel
theorem dX7_tick_37 : decode cX7_tick 37 = .ok (.dup2, 1) := by decide +kernel
theorem dX7_tick_38 : decode cX7_tick 38 = .ok (.iaload, 1) := by decide +kernel
theorem dX7_tick_39 : decode cX7_tick 39 = .ok (.iconst 1, 1) := by decide +kernel
theorem dX7_tick_40 : decode cX7_tick 40 = .ok (.iadd, 1) := by decide +kernel
theorem dX7_tick_41 : decode cX7_tick 41 = .ok (.iastore, 1) := by decide +kernel
theorem dX7_tick_42 : decode cX7_tick 42 = .ok (.return_, 1) := by decide +kernel
theorem dX7_run_0 : decode cX7_run 0 = .ok (.iload_n 1, 1) := by decide +kernel
theorem dX7_run_1 : decode cX7_run 1 = .ok (.iconst 1, 1) := by decide +kernel
theorem dX7_run_2 : decode cX7_run 2 = .ok (.sipush 500, 3) := by decide +kernel
theorem dX7_run_5 : decode cX7_run 5 = .ok (.invokestatic 36, 3) := by decide +kernel
theorem dX7_run_8 : decode cX7_run 8 = .ok (.ifCond .ne 5, 3) := by decide +kernel
theorem dX7_run_11 : decode cX7_run 11 = .ok (.iconst (-1), 1) := by decide +kernel
theorem dX7_run_12 : decode cX7_run 12 = .ok (.ireturn, 1) := by decide +kernel
theorem dX7_run_13 : decode cX7_run 13 = .ok (.aload_n 0, 1) := by decide +kernel
theorem dX7_run_14 : decode cX7_run 14 = .ok (.getfield 7, 3) := by decide +kernel
theorem dX7_run_17 : decode cX7_run 17 = .ok (.iconst 1, 1) := by decide +kernel
theorem dX7_run_18 : decode cX7_run 18 = .ok (.iaload, 1) := by decide +kernel
theorem dX7_run_19 : decode cX7_run 19 = .ok (.iload_n 1, 1) := by decide +kernel
theorem dX7_run_20 : decode cX7_run 20 = .ok (.iadd, 1) := by decide +kernel
theorem dX7_run_21 : decode cX7_run 21 = .ok (.ldc 205, 2) := by decide +kernel
theorem dX7_run_23 : decode cX7_run 23 = .ok (.if_icmp .le 6, 3) := by decide +kernel
theorem dX7_run_26 : decode cX7_run 26 = .ok (.bipush (-3), 2) := by decide +kernel
theorem dX7_run_28 : decode cX7_run 28 = .ok (.ireturn, 1) := by decide +kernel
theorem dX7_run_29 : decode cX7_run 29 = .ok (.aload_n 0, 1) := by decide +kernel
theorem dX7_run_30 : decode cX7_run 30 = .ok (.invokevirtual 44, 3) := by decide +kernel
theorem dX7_run_33 : decode cX7_run 33 = .ok (.aload_n 0, 1) := by decide +kernel
theorem dX7_run_34 : decode cX7_run 34 = .ok (.bipush 6, 2) := by decide +kernel
theorem dX7_run_36 : decode cX7_run 36 = .ok (.invokevirtual 161, 3) := by decide +kernel
theorem dX7_run_39 : decode cX7_run 39 = .ok (.istore_n 2, 1) := by decide +kernel
theorem dX7_run_40 : decode cX7_run 40 = .ok (.iconst 0, 1) := by decide +kernel
theorem dX7_run_41 : decode cX7_run 41 = .ok (.istore_n 3, 1) := by decide +kernel
theorem dX7_run_42 : decode cX7_run 42 = .ok (.iload_n 3, 1) := by decide +kernel
theorem dX7_run_43 : decode cX7_run 43 = .ok (.iload_n 1, 1) := by decide +kernel
theorem dX7_run_44 : decode cX7_run 44 = .ok (.if_icmp .ge 13, 3) := by decide +kernel
theorem dX7_run_47 : decode cX7_run 47 = .ok (.aload_n 0, 1) := by decide +kernel
theorem dX7_run_48 : decode cX7_run 48 = .ok (.invokevirtual 206, 3) := by decide +kernel
theorem dX7_run_51 : decode cX7_run 51 = .ok (.iinc 3 1, 3) := by decide +kernel
theorem dX7_run_54 : decode cX7_run 54 = .ok (.goto (-12), 3) := by decide +kernel
theorem dX7_run_57 : decode cX7_run 57 = .ok (.aload_n 0, 1) := by decide +kernel
theorem dX7_run_58 : decode cX7_run 58 = .ok (.bipush 6, 2) := by decide +kernel
theorem dX7_run_60 : decode cX7_run 60 = .ok (.invokevirtual 161, 3) := by decide +kernel
theorem dX7_run_63 : decode cX7_run 63 = .ok (.iload_n 2, 1) := by decide +kernel
theorem dX7_run_64 : decode cX7_run 64 = .ok (.isub, 1) := by decide +kernel
theorem dX7_run_65 : decode cX7_run 65 = .ok (.ireturn, 1) := by decide +kernel
theorem dX7_ticksTo_0 : decode cX7_ticksTo 0 = .ok (.aload_n 0, 1) := by decide +kernel
theorem dX7_ticksTo_1 : decode cX7_ticksTo 1 = .ok (.iload_n 1, 1) := by decide +kernel
theorem dX7_ticksTo_2 : decode cX7_ticksTo 2 = .ok (.invokevirtual 152, 3) := by decide +kernel
theorem dX7_ticksTo_5 : decode cX7_ticksTo 5 = .ok (.ifCond .ne 5, 3) := by decide +kernel
theorem dX7_ticksTo_8 : decode cX7_ticksTo 8 = .ok (.iconst (-1), 1) := by decide +kernel
theorem dX7_ticksTo_9 : decode cX7_ticksTo 9 = .ok (.ireturn, 1) := by decide +kernel
theorem dX7_ticksTo_10 : decode cX7_ticksTo 10 = .ok (.aload_n 0, 1) := by decide +kernel
theorem dX7_ticksTo_11 : decode cX7_ticksTo 11 = .ok (.getfield 7, 3) := by decide +kernel
theorem dX7_ticksTo_14 : decode cX7_ticksTo 14 = .ok (.iconst 0, 1) := by decide +kernel
theorem dX7_ticksTo_15 : decode cX7_ticksTo 15 = .ok (.aload_n 0, 1) := by decide +kernel
theorem dX7_ticksTo_16 : decode cX7_ticksTo 16 = .ok (.getfield 13, 3) := by decide +kernel
theorem dX7_ticksTo_19 : decode cX7_ticksTo 19 = .ok (.iconst 0, 1) := by decide +kernel
theorem dX7_ticksTo_20 : decode cX7_ticksTo 20 = .ok (.invokestatic 32, 3) := by decide +kernel
theorem dX7_ticksTo_23 : decode cX7_ticksTo 23 = .ok (.iconst 0, 1) := by decide +kernel
theorem dX7_ticksTo_24 : decode cX7_ticksTo 24 = .ok (.istore_n 2, 1) := by decide +kernel
theorem dX7_ticksTo_25 : decode cX7_ticksTo 25 = .ok (.iload_n 2, 1) := by decide +kernel
theorem dX7_ticksTo_26 : decode cX7_ticksTo 26 = .ok (.sipush 2000, 3) := by decide +kernel
theorem dX7_ticksTo_29 : decode cX7_ticksTo 29 = .ok (.if_icmp .ge 24, 3) := by decide +kernel
theorem dX7_ticksTo_32 : decode cX7_ticksTo 32 = .ok (.aload_n 0, 1) := by decide +kernel
theorem dX7_ticksTo_33 : decode cX7_ticksTo 33 = .ok (.iload_n 1, 1) := by decide +kernel
theorem dX7_ticksTo_34 : decode cX7_ticksTo 34 = .ok (.iconst 5, 1) := by decide +kernel
theorem dX7_ticksTo_35 : decode cX7_ticksTo 35 = .ok (.invokevirtual 40, 3) := by decide +kernel
theorem dX7_ticksTo_38 : decode cX7_ticksTo 38 = .ok (.bipush 6, 2) := by decide +kernel
theorem dX7_ticksTo_40 : decode cX7_ticksTo 40 = .ok (.if_icmp .eq 13, 3) := by decide +kernel
theorem dX7_ticksTo_43 : decode cX7_ticksTo 43 = .ok (.aload_n 0, 1) := by decide +kernel
theorem dX7_ticksTo_44 : decode cX7_ticksTo 44 = .ok (.invokevirtual 206, 3) := by decide +kernel
theorem dX7_ticksTo_47 : decode cX7_ticksTo 47 = .ok (.iinc 2 1, 3) := by decide +kernel
theorem dX7_ticksTo_50 : decode cX7_ticksTo 50 = .ok (.goto (-25), 3) := by decide +kernel
theorem dX7_ticksTo_53 : decode cX7_ticksTo 53 = .ok (.aload_n 0, 1) := by decide +kernel
theorem dX7_ticksTo_54 : decode cX7_ticksTo 54 = .ok (.iload_n 1, 1) := by decide +kernel
theorem dX7_ticksTo_55 : decode cX7_ticksTo 55 = .ok (.iconst 5, 1) := by decide +kernel
theorem dX7_ticksTo_56 : decode cX7_ticksTo 56 = .ok (.invokevirtual 40, 3) := by decide +kernel
theorem dX7_ticksTo_59 : decode cX7_ticksTo 59 = .ok (.bipush 6, 2) := by decide +kernel
theorem dX7_ticksTo_61 : decode cX7_ticksTo 61 = .ok (.if_icmp .ne 7, 3) := by decide +kernel
theorem dX7_ticksTo_64 : decode cX7_ticksTo 64 = .ok (.iconst 1, 1) := by decide +kernel
theorem dX7_ticksTo_65 : decode cX7_ticksTo 65 = .ok (.goto 4, 3) := by decide +kernel
theorem dX7_ticksTo_68 : decode cX7_ticksTo 68 = .ok (.iconst 0, 1) := by decide +kernel
theorem dX7_ticksTo_69 : decode cX7_ticksTo 69 = .ok (.istore_n 3, 1) := by decide +kernel
theorem dX7_ticksTo_70 : decode cX7_ticksTo 70 = .ok (.aload_n 0, 1) := by decide +kernel
theorem dX7_ticksTo_71 : decode cX7_ticksTo 71 = .ok (.getfield 13, 3) := by decide +kernel
theorem dX7_ticksTo_74 : decode cX7_ticksTo 74 = .ok (.iconst 0, 1) := by decide +kernel
theorem dX7_ticksTo_75 : decode cX7_ticksTo 75 = .ok (.aload_n 0, 1) := by decide +kernel
theorem dX7_ticksTo_76 : decode cX7_ticksTo 76 = .ok (.getfield 7, 3) := by decide +kernel
theorem dX7_ticksTo_79 : decode cX7_ticksTo 79 = .ok (.iconst 0, 1) := by decide +kernel
theorem dX7_ticksTo_80 : decode cX7_ticksTo 80 = .ok (.invokestatic 32, 3) := by decide +kernel
theorem dX7_ticksTo_83 : decode cX7_ticksTo 83 = .ok (.iload_n 3, 1) := by decide +kernel
theorem dX7_ticksTo_84 : decode cX7_ticksTo 84 = .ok (.ifCond .eq 7, 3) := by decide +kernel
theorem dX7_ticksTo_87 : decode cX7_ticksTo 87 = .ok (.iload_n 2, 1) := by decide +kernel
theorem dX7_ticksTo_88 : decode cX7_ticksTo 88 = .ok (.goto 5, 3) := by decide +kernel
theorem dX7_ticksTo_91 : decode cX7_ticksTo 91 = .ok (.bipush (-4), 2) := by decide +kernel
theorem dX7_ticksTo_93 : decode cX7_ticksTo 93 = .ok (.ireturn, 1) := by decide +kernel
theorem dX7_freeUnits_0 : decode cX7_freeUnits 0 = .ok (.iconst 0, 1) := by decide +kernel
theorem dX7_freeUnits_1 : decode cX7_freeUnits 1 = .ok (.istore_n 1, 1) := by decide +kernel
theorem dX7_freeUnits_2 : decode cX7_freeUnits 2 = .ok (.iconst 0, 1) := by decide +kernel
theorem dX7_freeUnits_3 : decode cX7_freeUnits 3 = .ok (.istore_n 2, 1) := by decide +kernel
theorem dX7_freeUnits_4 : decode cX7_freeUnits 4 = .ok (.iload_n 2, 1) := by decide +kernel
theorem dX7_freeUnits_5 : decode cX7_freeUnits 5 = .ok (.aload_n 0, 1) := by decide +kernel
theorem dX7_freeUnits_6 : decode cX7_freeUnits 6 = .ok (.getfield 7, 3) := by decide +kernel
theorem dX7_freeUnits_9 : decode cX7_freeUnits 9 = .ok (.iconst 2, 1) := by decide +kernel
theorem dX7_freeUnits_10 : decode cX7_freeUnits 10 = .ok (.iaload, 1) := by decide +kernel
theorem dX7_freeUnits_11 : decode cX7_freeUnits 11 = .ok (.if_icmp .ge 25, 3) := by decide +kernel
theorem dX7_freeUnits_14 : decode cX7_freeUnits 14 = .ok (.iload_n 1, 1) := by decide +kernel
theorem dX7_freeUnits_15 : decode cX7_freeUnits 15 = .ok (.aload_n 0, 1) := by decide +kernel
theorem dX7_freeUnits_16 : decode cX7_freeUnits 16 = .ok (.iload_n 2, 1) := by decide +kernel
theorem dX7_freeUnits_17 : decode cX7_freeUnits 17 = .ok (.invokevirtual 82, 3) := by decide +kernel
theorem dX7_freeUnits_20 : decode cX7_freeUnits 20 = .ok (.ifCond .eq 7, 3) := by decide +kernel
theorem dX7_freeUnits_23 : decode cX7_freeUnits 23 = .ok (.iconst 1, 1) := by decide +kernel
theorem dX7_freeUnits_24 : decode cX7_freeUnits 24 = .ok (.goto 4, 3) := by decide +kernel
theorem dX7_freeUnits_27 : decode cX7_freeUnits 27 = .ok (.iconst 0, 1) := by decide +kernel
theorem dX7_freeUnits_28 : decode cX7_freeUnits 28 = .ok (.iadd, 1) := by decide +kernel
theorem dX7_freeUnits_29 : decode cX7_freeUnits 29 = .ok (.istore_n 1, 1) := by decide +kernel
theorem dX7_freeUnits_30 : decode cX7_freeUnits 30 = .ok (.iinc 2 1, 3) := by decide +kernel
theorem dX7_freeUnits_33 : decode cX7_freeUnits 33 = .ok (.goto (-29), 3) := by decide +kernel
theorem dX7_freeUnits_36 : decode cX7_freeUnits 36 = .ok (.iload_n 1, 1) := by decide +kernel
theorem dX7_freeUnits_37 : decode cX7_freeUnits 37 = .ok (.ireturn, 1) := by decide +kernel
theorem dX7_worked_0 : decode cX7_worked 0 = .ok (.iconst 0, 1) := by decide +kernel
theorem dX7_worked_1 : decode cX7_worked 1 = .ok (.istore_n 1, 1) := by decide +kernel
theorem dX7_worked_2 : decode cX7_worked 2 = .ok (.iconst 0, 1) := by decide +kernel
theorem dX7_worked_3 : decode cX7_worked 3 = .ok (.istore_n 2, 1) := by decide +kernel
theorem dX7_worked_4 : decode cX7_worked 4 = .ok (.iload_n 2, 1) := by decide +kernel
theorem dX7_worked_5 : decode cX7_worked 5 = .ok (.aload_n 0, 1) := by decide +kernel
theorem dX7_worked_6 : decode cX7_worked 6 = .ok (.getfield 7, 3) := by decide +kernel
theorem dX7_worked_9 : decode cX7_worked 9 = .ok (.iconst 2, 1) := by decide +kernel
theorem dX7_worked_10 : decode cX7_worked 10 = .ok (.iaload, 1) := by decide +kernel
theorem dX7_worked_11 : decode cX7_worked 11 = .ok (.if_icmp .ge 18, 3) := by decide +kernel
theorem dX7_worked_14 : decode cX7_worked 14 = .ok (.iload_n 1, 1) := by decide +kernel
theorem dX7_worked_15 : decode cX7_worked 15 = .ok (.aload_n 0, 1) := by decide +kernel
theorem dX7_worked_16 : decode cX7_worked 16 = .ok (.iload_n 2, 1) := by decide +kernel
theorem dX7_worked_17 : decode cX7_worked 17 = .ok (.iconst 5, 1) := by decide +kernel
theorem dX7_worked_18 : decode cX7_worked 18 = .ok (.invokevirtual 51, 3) := by decide +kernel
theorem dX7_worked_21 : decode cX7_worked 21 = .ok (.iadd, 1) := by decide +kernel
theorem dX7_worked_22 : decode cX7_worked 22 = .ok (.istore_n 1, 1) := by decide +kernel
theorem dX7_worked_23 : decode cX7_worked 23 = .ok (.iinc 2 1, 3) := by decide +kernel
theorem dX7_worked_26 : decode cX7_worked 26 = .ok (.goto (-22), 3) := by decide +kernel
theorem dX7_worked_29 : decode cX7_worked 29 = .ok (.iload_n 1, 1) := by decide +kernel
theorem dX7_worked_30 : decode cX7_worked 30 = .ok (.ireturn, 1) := by decide +kernel
theorem dX7_freeShared_0 : decode cX7_freeShared 0 = .ok (.iconst 0, 1) := by decide +kernel
theorem dX7_freeShared_1 : decode cX7_freeShared 1 = .ok (.istore_n 1, 1) := by decide +kernel
theorem dX7_freeShared_2 : decode cX7_freeShared 2 = .ok (.iconst 0, 1) := by decide +kernel
theorem dX7_freeShared_3 : decode cX7_freeShared 3 = .ok (.istore_n 2, 1) := by decide +kernel
theorem dX7_freeShared_4 : decode cX7_freeShared 4 = .ok (.iload_n 2, 1) := by decide +kernel
theorem dX7_freeShared_5 : decode cX7_freeShared 5 = .ok (.iconst 3, 1) := by decide +kernel
theorem dX7_freeShared_6 : decode cX7_freeShared 6 = .ok (.if_icmp .ge 30, 3) := by decide +kernel
theorem dX7_freeShared_9 : decode cX7_freeShared 9 = .ok (.iload_n 1, 1) := by decide +kernel
theorem dX7_freeShared_10 : decode cX7_freeShared 10 = .ok (.aload_n 0, 1) := by decide +kernel
theorem dX7_freeShared_11 : decode cX7_freeShared 11 = .ok (.getfield 7, 3) := by decide +kernel
theorem dX7_freeShared_14 : decode cX7_freeShared 14 = .ok (.bipush 53, 2) := by decide +kernel
theorem dX7_freeShared_16 : decode cX7_freeShared 16 = .ok (.iload_n 2, 1) := by decide +kernel
theorem dX7_freeShared_17 : decode cX7_freeShared 17 = .ok (.iadd, 1) := by decide +kernel
theorem dX7_freeShared_18 : decode cX7_freeShared 18 = .ok (.iaload, 1) := by decide +kernel
theorem dX7_freeShared_19 : decode cX7_freeShared 19 = .ok (.iconst (-1), 1) := by decide +kernel
theorem dX7_freeShared_20 : decode cX7_freeShared 20 = .ok (.if_icmp .ne 7, 3) := by decide +kernel
theorem dX7_freeShared_23 : decode cX7_freeShared 23 = .ok (.iconst 1, 1) := by decide +kernel
theorem dX7_freeShared_24 : decode cX7_freeShared 24 = .ok (.goto 4, 3) := by decide +kernel
theorem dX7_freeShared_27 : decode cX7_freeShared 27 = .ok (.iconst 0, 1) := by decide +kernel
theorem dX7_freeShared_28 : decode cX7_freeShared 28 = .ok (.iadd, 1) := by decide +kernel
theorem dX7_freeShared_29 : decode cX7_freeShared 29 = .ok (.istore_n 1, 1) := by decide +kernel
theorem dX7_freeShared_30 : decode cX7_freeShared 30 = .ok (.iinc 2 1, 3) := by decide +kernel
theorem dX7_freeShared_33 : decode cX7_freeShared 33 = .ok (.goto (-29), 3) := by decide +kernel
theorem dX7_freeShared_36 : decode cX7_freeShared 36 = .ok (.iload_n 1, 1) := by decide +kernel
theorem dX7_freeShared_37 : decode cX7_freeShared 37 = .ok (.ireturn, 1) := by decide +kernel
theorem dX7_count_0 : decode cX7_count 0 = .ok (.iload_n 1, 1) := by decide +kernel
theorem dX7_count_1 : decode cX7_count 1 = .ok (.tableswitch 160 0 17 #[87, 94, 99, 104, 111, 111, 111, 111, 111, 111, 111, 119, 126, 133, 140, 145, 150, 155], 87) := by decide +kernel
theorem dX7_count_88 : decode cX7_count 88 = .ok (.aload_n 0, 1) := by decide +kernel
theorem dX7_count_89 : decode cX7_count 89 = .ok (.getfield 7, 3) := by decide +kernel
theorem dX7_count_92 : decode cX7_count 92 = .ok (.iconst 2, 1) := by decide +kernel
theorem dX7_count_93 : decode cX7_count 93 = .ok (.iaload, 1) := by decide +kernel
theorem dX7_count_94 : decode cX7_count 94 = .ok (.ireturn, 1) := by decide +kernel
theorem dX7_count_95 : decode cX7_count 95 = .ok (.aload_n 0, 1) := by decide +kernel
theorem dX7_count_96 : decode cX7_count 96 = .ok (.invokevirtual 78, 3) := by decide +kernel
theorem dX7_count_99 : decode cX7_count 99 = .ok (.ireturn, 1) := by decide +kernel
theorem dX7_count_100 : decode cX7_count 100 = .ok (.aload_n 0, 1) := by decide +kernel
theorem dX7_count_101 : decode cX7_count 101 = .ok (.invokevirtual 209, 3) := by decide +kernel
theorem dX7_count_104 : decode cX7_count 104 = .ok (.ireturn, 1) := by decide +kernel
theorem dX7_count_105 : decode cX7_count 105 = .ok (.aload_n 0, 1) := by decide +kernel
theorem dX7_count_106 : decode cX7_count 106 = .ok (.getfield 7, 3) := by decide +kernel
theorem dX7_count_109 : decode cX7_count 109 = .ok (.iconst 3, 1) := by decide +kernel
theorem dX7_count_110 : decode cX7_count 110 = .ok (.iaload, 1) := by decide +kernel
theorem dX7_count_111 : decode cX7_count 111 = .ok (.ireturn, 1) := by decide +kernel
theorem dX7_count_112 : decode cX7_count 112 = .ok (.aload_n 0, 1) := by decide +kernel
theorem dX7_count_113 : decode cX7_count 113 = .ok (.iload_n 1, 1) := by decide +kernel
theorem dX7_count_114 : decode cX7_count 114 = .ok (.iconst 4, 1) := by decide +kernel
theorem dX7_count_115 : decode cX7_count 115 = .ok (.isub, 1) := by decide +kernel
theorem dX7_count_116 : decode cX7_count 116 = .ok (.invokevirtual 161, 3) := by decide +kernel
theorem dX7_count_119 : decode cX7_count 119 = .ok (.ireturn, 1) := by decide +kernel
theorem dX7_count_120 : decode cX7_count 120 = .ok (.aload_n 0, 1) := by decide +kernel
theorem dX7_count_121 : decode cX7_count 121 = .ok (.getfield 7, 3) := by decide +kernel
theorem dX7_count_124 : decode cX7_count 124 = .ok (.iconst 1, 1) := by decide +kernel
theorem dX7_count_125 : decode cX7_count 125 = .ok (.iaload, 1) := by decide +kernel
theorem dX7_count_126 : decode cX7_count 126 = .ok (.ireturn, 1) := by decide +kernel
theorem dX7_count_127 : decode cX7_count 127 = .ok (.aload_n 0, 1) := by decide +kernel
theorem dX7_count_128 : decode cX7_count 128 = .ok (.getfield 7, 3) := by decide +kernel
theorem dX7_count_131 : decode cX7_count 131 = .ok (.iconst 0, 1) := by decide +kernel
theorem dX7_count_132 : decode cX7_count 132 = .ok (.iaload, 1) := by decide +kernel
theorem dX7_count_133 : decode cX7_count 133 = .ok (.ireturn, 1) := by decide +kernel
theorem dX7_count_134 : decode cX7_count 134 = .ok (.aload_n 0, 1) := by decide +kernel
theorem dX7_count_135 : decode cX7_count 135 = .ok (.getfield 7, 3) := by decide +kernel
theorem dX7_count_138 : decode cX7_count 138 = .ok (.iconst 4, 1) := by decide +kernel
theorem dX7_count_139 : decode cX7_count 139 = .ok (.iaload, 1) := by decide +kernel
theorem dX7_count_140 : decode cX7_count 140 = .ok (.ireturn, 1) := by decide +kernel
theorem dX7_count_141 : decode cX7_count 141 = .ok (.aload_n 0, 1) := by decide +kernel
theorem dX7_count_142 : decode cX7_count 142 = .ok (.getfield 28, 3) := by decide +kernel
theorem dX7_count_145 : decode cX7_count 145 = .ok (.ireturn, 1) := by decide +kernel
theorem dX7_count_146 : decode cX7_count 146 = .ok (.aload_n 0, 1) := by decide +kernel
theorem dX7_count_147 : decode cX7_count 147 = .ok (.getfield 95, 3) := by decide +kernel
theorem dX7_count_150 : decode cX7_count 150 = .ok (.ireturn, 1) := by decide +kernel
theorem dX7_count_151 : decode cX7_count 151 = .ok (.aload_n 0, 1) := by decide +kernel
theorem dX7_count_152 : decode cX7_count 152 = .ok (.invokevirtual 212, 3) := by decide +kernel
theorem dX7_count_155 : decode cX7_count 155 = .ok (.ireturn, 1) := by decide +kernel
theorem dX7_count_156 : decode cX7_count 156 = .ok (.aload_n 0, 1) := by decide +kernel
theorem dX7_count_157 : decode cX7_count 157 = .ok (.invokevirtual 215, 3) := by decide +kernel
theorem dX7_count_160 : decode cX7_count 160 = .ok (.ireturn, 1) := by decide +kernel
theorem dX7_count_161 : decode cX7_count 161 = .ok (.iconst (-1), 1) := by decide +kernel
theorem dX7_count_162 : decode cX7_count 162 = .ok (.ireturn, 1) := by decide +kernel
theorem dX7_event_0 : decode cX7_event 0 = .ok (.iload_n 1, 1) := by decide +kernel
theorem dX7_event_1 : decode cX7_event 1 = .ok (.ifCond .lt 12, 3) := by decide +kernel
theorem dX7_event_4 : decode cX7_event 4 = .ok (.iload_n 2, 1) := by decide +kernel
theorem dX7_event_5 : decode cX7_event 5 = .ok (.iconst 0, 1) := by decide +kernel
theorem dX7_event_6 : decode cX7_event 6 = .ok (.iconst 2, 1) := by decide +kernel
theorem dX7_event_7 : decode cX7_event 7 = .ok (.invokestatic 36, 3) := by decide +kernel
theorem dX7_event_10 : decode cX7_event 10 = .ok (.ifCond .ne 5, 3) := by decide +kernel
theorem dX7_event_13 : decode cX7_event 13 = .ok (.iconst (-1), 1) := by decide +kernel
theorem dX7_event_14 : decode cX7_event 14 = .ok (.ireturn, 1) := by decide +kernel
theorem dX7_event_15 : decode cX7_event 15 = .ok (.iload_n 1, 1) := by decide +kernel
theorem dX7_event_16 : decode cX7_event 16 = .ok (.aload_n 0, 1) := by decide +kernel
theorem dX7_event_17 : decode cX7_event 17 = .ok (.getfield 7, 3) := by decide +kernel
theorem dX7_event_20 : decode cX7_event 20 = .ok (.iconst 4, 1) := by decide +kernel
theorem dX7_event_21 : decode cX7_event 21 = .ok (.iaload, 1) := by decide +kernel
theorem dX7_event_22 : decode cX7_event 22 = .ok (.if_icmp .ge 20, 3) := by decide +kernel
theorem dX7_event_25 : decode cX7_event 25 = .ok (.aload_n 0, 1) := by decide +kernel
theorem dX7_event_26 : decode cX7_event 26 = .ok (.getfield 7, 3) := by decide +kernel
theorem dX7_event_29 : decode cX7_event 29 = .ok (.sipush 668, 3) := by decide +kernel
theorem dX7_event_32 : decode cX7_event 32 = .ok (.iconst 3, 1) := by decide +kernel
theorem dX7_event_33 : decode cX7_event 33 = .ok (.iload_n 1, 1) := by decide +kernel
theorem dX7_event_34 : decode cX7_event 34 = .ok (.imul, 1) := by decide +kernel
theorem dX7_event_35 : decode cX7_event 35 = .ok (.iadd, 1) := by decide +kernel
theorem dX7_event_36 : decode cX7_event 36 = .ok (.iload_n 2, 1) := by decide +kernel
theorem dX7_event_37 : decode cX7_event 37 = .ok (.iadd, 1) := by decide +kernel
theorem dX7_event_38 : decode cX7_event 38 = .ok (.iaload, 1) := by decide +kernel
theorem dX7_event_39 : decode cX7_event 39 = .ok (.goto 5, 3) := by decide +kernel
theorem dX7_event_42 : decode cX7_event 42 = .ok (.bipush (-4), 2) := by decide +kernel
theorem dX7_event_44 : decode cX7_event 44 = .ok (.ireturn, 1) := by decide +kernel
theorem dX7_undo_0 : decode cX7_undo 0 = .ok (.aload_n 0, 1) := by decide +kernel
theorem dX7_undo_1 : decode cX7_undo 1 = .ok (.getfield 28, 3) := by decide +kernel
theorem dX7_undo_4 : decode cX7_undo 4 = .ok (.ifCond .ne 6, 3) := by decide +kernel
theorem dX7_undo_7 : decode cX7_undo 7 = .ok (.bipush (-2), 2) := by decide +kernel
theorem dX7_undo_9 : decode cX7_undo 9 = .ok (.ireturn, 1) := by decide +kernel
theorem dX7_undo_10 : decode cX7_undo 10 = .ok (.aload_n 0, 1) := by decide +kernel
theorem dX7_undo_11 : decode cX7_undo 11 = .ok (.dup, 1) := by decide +kernel
theorem dX7_undo_12 : decode cX7_undo 12 = .ok (.getfield 28, 3) := by decide +kernel
theorem dX7_undo_15 : decode cX7_undo 15 = .ok (.iconst 1, 1) := by decide +kernel
theorem dX7_undo_16 : decode cX7_undo 16 = .ok (.isub, 1) := by decide +kernel
theorem dX7_undo_17 : decode cX7_undo 17 = .ok (.putfield 28, 3) := by decide +kernel
theorem dX7_undo_20 : decode cX7_undo 20 = .ok (.aload_n 0, 1) := by decide +kernel
theorem dX7_undo_21 : decode cX7_undo 21 = .ok (.getfield 16, 3) := by decide +kernel
theorem dX7_undo_24 : decode cX7_undo 24 = .ok (.sipush 788, 3) := by decide +kernel
theorem dX7_undo_27 : decode cX7_undo 27 = .ok (.aload_n 0, 1) := by decide +kernel
theorem dX7_undo_28 : decode cX7_undo 28 = .ok (.getfield 28, 3) := by decide +kernel
theorem dX7_undo_31 : decode cX7_undo 31 = .ok (.imul, 1) := by decide +kernel
theorem dX7_undo_32 : decode cX7_undo 32 = .ok (.aload_n 0, 1) := by decide +kernel
theorem dX7_undo_33 : decode cX7_undo 33 = .ok (.getfield 7, 3) := by decide +kernel
theorem dX7_undo_36 : decode cX7_undo 36 = .ok (.iconst 0, 1) := by decide +kernel
theorem dX7_undo_37 : decode cX7_undo 37 = .ok (.invokestatic 32, 3) := by decide +kernel
theorem dX7_undo_40 : decode cX7_undo 40 = .ok (.aload_n 0, 1) := by decide +kernel
theorem dX7_undo_41 : decode cX7_undo 41 = .ok (.getfield 28, 3) := by decide +kernel
theorem dX7_undo_44 : decode cX7_undo 44 = .ok (.ireturn, 1) := by decide +kernel
theorem dX7_type_0 : decode cX7_type 0 = .ok (.iload_n 1, 1) := by decide +kernel
theorem dX7_type_1 : decode cX7_type 1 = .ok (.bipush 32, 2) := by decide +kernel
theorem dX7_type_3 : decode cX7_type 3 = .ok (.bipush 126, 2) := by decide +kernel
theorem dX7_type_5 : decode cX7_type 5 = .ok (.invokestatic 36, 3) := by decide +kernel
theorem dX7_type_8 : decode cX7_type 8 = .ok (.ifCond .ne 5, 3) := by decide +kernel
theorem dX7_type_11 : decode cX7_type 11 = .ok (.iconst (-1), 1) := by decide +kernel
theorem dX7_type_12 : decode cX7_type 12 = .ok (.ireturn, 1) := by decide +kernel
theorem dX7_type_13 : decode cX7_type 13 = .ok (.aload_n 0, 1) := by decide +kernel
theorem dX7_type_14 : decode cX7_type 14 = .ok (.getfield 95, 3) := by decide +kernel
theorem dX7_type_17 : decode cX7_type 17 = .ok (.bipush 100, 2) := by decide +kernel
theorem dX7_type_19 : decode cX7_type 19 = .ok (.if_icmp .ne 6, 3) := by decide +kernel
theorem dX7_type_22 : decode cX7_type 22 = .ok (.bipush (-3), 2) := by decide +kernel
theorem dX7_type_24 : decode cX7_type 24 = .ok (.ireturn, 1) := by decide +kernel
theorem dX7_type_25 : decode cX7_type 25 = .ok (.aload_n 0, 1) := by decide +kernel
theorem dX7_type_26 : decode cX7_type 26 = .ok (.getfield 19, 3) := by decide +kernel
theorem dX7_type_29 : decode cX7_type 29 = .ok (.aload_n 0, 1) := by decide +kernel
theorem dX7_type_30 : decode cX7_type 30 = .ok (.getfield 95, 3) := by decide +kernel
theorem dX7_type_33 : decode cX7_type 33 = .ok (.iload_n 1, 1) := by decide +kernel
theorem dX7_type_34 : decode cX7_type 34 = .ok (.iastore, 1) := by decide +kernel
theorem dX7_type_35 : decode cX7_type 35 = .ok (.aload_n 0, 1) := by decide +kernel
theorem dX7_type_36 : decode cX7_type 36 = .ok (.dup, 1) := by decide +kernel
theorem dX7_type_37 : decode cX7_type 37 = .ok (.getfield 95, 3) := by decide +kernel
theorem dX7_type_40 : decode cX7_type 40 = .ok (.iconst 1, 1) := by decide +kernel
theorem dX7_type_41 : decode cX7_type 41 = .ok (.iadd, 1) := by decide +kernel
theorem dX7_type_42 : decode cX7_type 42 = .ok (.putfield 95, 3) := by decide +kernel
theorem dX7_type_45 : decode cX7_type 45 = .ok (.aload_n 0, 1) := by decide +kernel
theorem dX7_type_46 : decode cX7_type 46 = .ok (.getfield 95, 3) := by decide +kernel
theorem dX7_type_49 : decode cX7_type 49 = .ok (.ireturn, 1) := by decide +kernel
theorem dX7_clearText_0 : decode cX7_clearText 0 = .ok (.aload_n 0, 1) := by decide +kernel
theorem dX7_clearText_1 : decode cX7_clearText 1 = .ok (.getfield 95, 3) := by decide +kernel
theorem dX7_clearText_4 : decode cX7_clearText 4 = .ok (.istore_n 1, 1) := by decide +kernel
theorem dX7_clearText_5 : decode cX7_clearText 5 = .ok (.aload_n 0, 1) := by decide +kernel
theorem dX7_clearText_6 : decode cX7_clearText 6 = .ok (.iconst 0, 1) := by decide +kernel
theorem dX7_clearText_7 : decode cX7_clearText 7 = .ok (.putfield 95, 3) := by decide +kernel
theorem dX7_clearText_10 : decode cX7_clearText 10 = .ok (.iload_n 1, 1) := by decide +kernel
theorem dX7_clearText_11 : decode cX7_clearText 11 = .ok (.ireturn, 1) := by decide +kernel
theorem dX7_fault_0 : decode cX7_fault 0 = .ok (.iload_n 1, 1) := by decide +kernel
theorem dX7_fault_1 : decode cX7_fault 1 = .ok (.iconst 0, 1) := by decide +kernel
theorem dX7_fault_2 : decode cX7_fault 2 = .ok (.iconst 1, 1) := by decide +kernel
theorem dX7_fault_3 : decode cX7_fault 3 = .ok (.invokestatic 36, 3) := by decide +kernel
theorem dX7_fault_6 : decode cX7_fault 6 = .ok (.ifCond .ne 5, 3) := by decide +kernel
theorem dX7_fault_9 : decode cX7_fault 9 = .ok (.iconst (-1), 1) := by decide +kernel
theorem dX7_fault_10 : decode cX7_fault 10 = .ok (.ireturn, 1) := by decide +kernel
theorem dX7_fault_11 : decode cX7_fault 11 = .ok (.aload_n 0, 1) := by decide +kernel
theorem dX7_fault_12 : decode cX7_fault 12 = .ok (.invokevirtual 128, 3) := by decide +kernel
theorem dX7_fault_15 : decode cX7_fault 15 = .ok (.iconst (-1), 1) := by decide +kernel
theorem dX7_fault_16 : decode cX7_fault 16 = .ok (.if_icmp .eq 8, 3) := by decide +kernel
theorem dX7_fault_19 : decode cX7_fault 19 = .ok (.bipush (-4), 2) := by decide +kernel
theorem dX7_fault_21 : decode cX7_fault 21 = .ok (.goto 18, 3) := by decide +kernel
theorem dX7_fault_24 : decode cX7_fault 24 = .ok (.iload_n 1, 1) := by decide +kernel
theorem dX7_fault_25 : decode cX7_fault 25 = .ok (.ifCond .ne 10, 3) := by decide +kernel
theorem dX7_fault_28 : decode cX7_fault 28 = .ok (.aload_n 0, 1) := by decide +kernel
theorem dX7_fault_29 : decode cX7_fault 29 = .ok (.getfield 92, 3) := by decide +kernel
theorem dX7_fault_32 : decode cX7_fault 32 = .ok (.goto 7, 3) := by decide +kernel
theorem dX7_fault_35 : decode cX7_fault 35 = .ok (.aload_n 0, 1) := by decide +kernel
theorem dX7_fault_36 : decode cX7_fault 36 = .ok (.getfield 98, 3) := by decide +kernel
theorem dX7_fault_39 : decode cX7_fault 39 = .ok (.ireturn, 1) := by decide +kernel
theorem dJxf58ca_isNaN_12338_0 : decode cJxf58ca_isNaN_12338 0 = .ok (.fload_n 0, 1) := by decide +kernel
theorem dJxf58ca_isNaN_12338_1 : decode cJxf58ca_isNaN_12338 1 = .ok (.fload_n 0, 1) := by decide +kernel
theorem dJxf58ca_isNaN_12338_2 : decode cJxf58ca_isNaN_12338 2 = .ok (.fcmp .l, 1) := by decide +kernel
theorem dJxf58ca_isNaN_12338_3 : decode cJxf58ca_isNaN_12338 3 = .ok (.ifCond .eq 7, 3) := by decide +kernel
theorem dJxf58ca_isNaN_12338_6 : decode cJxf58ca_isNaN_12338 6 = .ok (.iconst 1, 1) := by decide +kernel
theorem dJxf58ca_isNaN_12338_7 : decode cJxf58ca_isNaN_12338 7 = .ok (.goto 4, 3) := by decide +kernel
theorem dJxf58ca_isNaN_12338_10 : decode cJxf58ca_isNaN_12338 10 = .ok (.iconst 0, 1) := by decide +kernel
theorem dJxf58ca_isNaN_12338_11 : decode cJxf58ca_isNaN_12338 11 = .ok (.ireturn, 1) := by decide +kernel
theorem dJxf58ca_floatToIntBits_5c35a_0 : decode cJxf58ca_floatToIntBits_5c35a 0 = .ok (.fload_n 0, 1) := by decide +kernel
theorem dJxf58ca_floatToIntBits_5c35a_1 : decode cJxf58ca_floatToIntBits_5c35a 1 = .ok (.invokestatic 59, 3) := by decide +kernel
theorem dJxf58ca_floatToIntBits_5c35a_4 : decode cJxf58ca_floatToIntBits_5c35a 4 = .ok (.ifCond .ne 8, 3) := by decide +kernel
theorem dJxf58ca_floatToIntBits_5c35a_7 : decode cJxf58ca_floatToIntBits_5c35a 7 = .ok (.fload_n 0, 1) := by decide +kernel
theorem dJxf58ca_floatToIntBits_5c35a_8 : decode cJxf58ca_floatToIntBits_5c35a 8 = .ok (.invokestatic 74, 3) := by decide +kernel
theorem dJxf58ca_floatToIntBits_5c35a_11 : decode cJxf58ca_floatToIntBits_5c35a 11 = .ok (.ireturn, 1) := by decide +kernel
theorem dJxf58ca_floatToIntBits_5c35a_12 : decode cJxf58ca_floatToIntBits_5c35a 12 = .ok (.ldc 77, 2) := by decide +kernel
theorem dJxf58ca_floatToIntBits_5c35a_14 : decode cJxf58ca_floatToIntBits_5c35a 14 = .ok (.ireturn, 1) := by decide +kernel
theorem dL_law_0 : decode cL_law 0 = .ok (.new 7, 3) := by decide +kernel
theorem dL_law_3 : decode cL_law 3 = .ok (.dup, 1) := by decide +kernel
theorem dL_law_4 : decode cL_law 4 = .ok (.invokespecial 9, 3) := by decide +kernel
theorem dL_law_7 : decode cL_law 7 = .ok (.astore_n 1, 1) := by decide +kernel
theorem dL_law_8 : decode cL_law 8 = .ok (.new 10, 3) := by decide +kernel
theorem dL_law_11 : decode cL_law 11 = .ok (.dup, 1) := by decide +kernel
theorem dL_law_12 : decode cL_law 12 = .ok (.invokespecial 12, 3) := by decide +kernel
theorem dL_law_15 : decode cL_law 15 = .ok (.astore_n 2, 1) := by decide +kernel
theorem dL_law_16 : decode cL_law 16 = .ok (.iconst 0, 1) := by decide +kernel
theorem dL_law_17 : decode cL_law 17 = .ok (.istore_n 3, 1) := by decide +kernel
theorem dL_law_18 : decode cL_law 18 = .ok (.iload_n 3, 1) := by decide +kernel
theorem dL_law_19 : decode cL_law 19 = .ok (.aload_n 0, 1) := by decide +kernel
theorem dL_law_20 : decode cL_law 20 = .ok (.arraylength, 1) := by decide +kernel
theorem dL_law_21 : decode cL_law 21 = .ok (.iconst 5, 1) := by decide +kernel
theorem dL_law_22 : decode cL_law 22 = .ok (.isub, 1) := by decide +kernel
theorem dL_law_23 : decode cL_law 23 = .ok (.if_icmp .gt 850, 3) := by decide +kernel
theorem dL_law_26 : decode cL_law 26 = .ok (.aload_n 0, 1) := by decide +kernel
theorem dL_law_27 : decode cL_law 27 = .ok (.iload_n 3, 1) := by decide +kernel
theorem dL_law_28 : decode cL_law 28 = .ok (.iaload, 1) := by decide +kernel
theorem dL_law_29 : decode cL_law 29 = .ok (.bipush 31, 2) := by decide +kernel
theorem dL_law_31 : decode cL_law 31 = .ok (.iand, 1) := by decide +kernel
theorem dL_law_32 : decode cL_law 32 = .ok (.tableswitch 835 0 26 #[124, 157, 180, 203, 236, 259, 282, 305, 328, 381, 434, 457, 480, 503, 526, 549, 582, 615, 638, 661, 684, 707, 730, 763, 776, 799, 812], 124) := by decide +kernel
theorem dL_law_156 : decode cL_law 156 = .ok (.aload_n 1, 1) := by decide +kernel
theorem dL_law_157 : decode cL_law 157 = .ok (.aload_n 0, 1) := by decide +kernel
theorem dL_law_158 : decode cL_law 158 = .ok (.iload_n 3, 1) := by decide +kernel
theorem dL_law_159 : decode cL_law 159 = .ok (.iconst 1, 1) := by decide +kernel
theorem dL_law_160 : decode cL_law 160 = .ok (.iadd, 1) := by decide +kernel
theorem dL_law_161 : decode cL_law 161 = .ok (.iaload, 1) := by decide +kernel
theorem dL_law_162 : decode cL_law 162 = .ok (.aload_n 0, 1) := by decide +kernel
theorem dL_law_163 : decode cL_law 163 = .ok (.iload_n 3, 1) := by decide +kernel
theorem dL_law_164 : decode cL_law 164 = .ok (.iconst 2, 1) := by decide +kernel
theorem dL_law_165 : decode cL_law 165 = .ok (.iadd, 1) := by decide +kernel
theorem dL_law_166 : decode cL_law 166 = .ok (.iaload, 1) := by decide +kernel
theorem dL_law_167 : decode cL_law 167 = .ok (.invokevirtual 13, 3) := by decide +kernel
theorem dL_law_170 : decode cL_law 170 = .ok (.aload_n 2, 1) := by decide +kernel
theorem dL_law_171 : decode cL_law 171 = .ok (.aload_n 0, 1) := by decide +kernel
theorem dL_law_172 : decode cL_law 172 = .ok (.iload_n 3, 1) := by decide +kernel
theorem dL_law_173 : decode cL_law 173 = .ok (.iconst 1, 1) := by decide +kernel
theorem dL_law_174 : decode cL_law 174 = .ok (.iadd, 1) := by decide +kernel
theorem dL_law_175 : decode cL_law 175 = .ok (.iaload, 1) := by decide +kernel
theorem dL_law_176 : decode cL_law 176 = .ok (.aload_n 0, 1) := by decide +kernel
theorem dL_law_177 : decode cL_law 177 = .ok (.iload_n 3, 1) := by decide +kernel
theorem dL_law_178 : decode cL_law 178 = .ok (.iconst 2, 1) := by decide +kernel
theorem dL_law_179 : decode cL_law 179 = .ok (.iadd, 1) := by decide +kernel
theorem dL_law_180 : decode cL_law 180 = .ok (.iaload, 1) := by decide +kernel
theorem dL_law_181 : decode cL_law 181 = .ok (.invokevirtual 17, 3) := by decide +kernel
theorem dL_law_184 : decode cL_law 184 = .ok (.if_icmp .eq 683, 3) := by decide +kernel
theorem dL_law_187 : decode cL_law 187 = .ok (.iconst 0, 1) := by decide +kernel
theorem dL_law_188 : decode cL_law 188 = .ok (.ireturn, 1) := by decide +kernel
theorem dL_law_189 : decode cL_law 189 = .ok (.aload_n 1, 1) := by decide +kernel
theorem dL_law_190 : decode cL_law 190 = .ok (.aload_n 0, 1) := by decide +kernel
theorem dL_law_191 : decode cL_law 191 = .ok (.iload_n 3, 1) := by decide +kernel
theorem dL_law_192 : decode cL_law 192 = .ok (.iconst 1, 1) := by decide +kernel
theorem dL_law_193 : decode cL_law 193 = .ok (.iadd, 1) := by decide +kernel
theorem dL_law_194 : decode cL_law 194 = .ok (.iaload, 1) := by decide +kernel
theorem dL_law_195 : decode cL_law 195 = .ok (.invokevirtual 18, 3) := by decide +kernel
theorem dL_law_198 : decode cL_law 198 = .ok (.aload_n 2, 1) := by decide +kernel
theorem dL_law_199 : decode cL_law 199 = .ok (.aload_n 0, 1) := by decide +kernel
theorem dL_law_200 : decode cL_law 200 = .ok (.iload_n 3, 1) := by decide +kernel
theorem dL_law_201 : decode cL_law 201 = .ok (.iconst 1, 1) := by decide +kernel
theorem dL_law_202 : decode cL_law 202 = .ok (.iadd, 1) := by decide +kernel
theorem dL_law_203 : decode cL_law 203 = .ok (.iaload, 1) := by decide +kernel
theorem dL_law_204 : decode cL_law 204 = .ok (.invokevirtual 22, 3) := by decide +kernel
theorem dL_law_207 : decode cL_law 207 = .ok (.if_icmp .eq 660, 3) := by decide +kernel
theorem dL_law_210 : decode cL_law 210 = .ok (.iconst 0, 1) := by decide +kernel
theorem dL_law_211 : decode cL_law 211 = .ok (.ireturn, 1) := by decide +kernel
theorem dL_law_212 : decode cL_law 212 = .ok (.aload_n 1, 1) := by decide +kernel
theorem dL_law_213 : decode cL_law 213 = .ok (.aload_n 0, 1) := by decide +kernel
theorem dL_law_214 : decode cL_law 214 = .ok (.iload_n 3, 1) := by decide +kernel
theorem dL_law_215 : decode cL_law 215 = .ok (.iconst 1, 1) := by decide +kernel
theorem dL_law_216 : decode cL_law 216 = .ok (.iadd, 1) := by decide +kernel
theorem dL_law_217 : decode cL_law 217 = .ok (.iaload, 1) := by decide +kernel
theorem dL_law_218 : decode cL_law 218 = .ok (.invokevirtual 23, 3) := by decide +kernel
theorem dL_law_221 : decode cL_law 221 = .ok (.aload_n 2, 1) := by decide +kernel
theorem dL_law_222 : decode cL_law 222 = .ok (.aload_n 0, 1) := by decide +kernel
theorem dL_law_223 : decode cL_law 223 = .ok (.iload_n 3, 1) := by decide +kernel
theorem dL_law_224 : decode cL_law 224 = .ok (.iconst 1, 1) := by decide +kernel
theorem dL_law_225 : decode cL_law 225 = .ok (.iadd, 1) := by decide +kernel
theorem dL_law_226 : decode cL_law 226 = .ok (.iaload, 1) := by decide +kernel
theorem dL_law_227 : decode cL_law 227 = .ok (.invokevirtual 26, 3) := by decide +kernel
theorem dL_law_230 : decode cL_law 230 = .ok (.if_icmp .eq 637, 3) := by decide +kernel
theorem dL_law_233 : decode cL_law 233 = .ok (.iconst 0, 1) := by decide +kernel
theorem dL_law_234 : decode cL_law 234 = .ok (.ireturn, 1) := by decide +kernel
theorem dL_law_235 : decode cL_law 235 = .ok (.aload_n 1, 1) := by decide +kernel
theorem dL_law_236 : decode cL_law 236 = .ok (.aload_n 0, 1) := by decide +kernel
theorem dL_law_237 : decode cL_law 237 = .ok (.iload_n 3, 1) := by decide +kernel
theorem dL_law_238 : decode cL_law 238 = .ok (.iconst 1, 1) := by decide +kernel
theorem dL_law_239 : decode cL_law 239 = .ok (.iadd, 1) := by decide +kernel
theorem dL_law_240 : decode cL_law 240 = .ok (.iaload, 1) := by decide +kernel
theorem dL_law_241 : decode cL_law 241 = .ok (.aload_n 0, 1) := by decide +kernel
theorem dL_law_242 : decode cL_law 242 = .ok (.iload_n 3, 1) := by decide +kernel
theorem dL_law_243 : decode cL_law 243 = .ok (.iconst 2, 1) := by decide +kernel
theorem dL_law_244 : decode cL_law 244 = .ok (.iadd, 1) := by decide +kernel
theorem dL_law_245 : decode cL_law 245 = .ok (.iaload, 1) := by decide +kernel
theorem dL_law_246 : decode cL_law 246 = .ok (.invokevirtual 27, 3) := by decide +kernel
theorem dL_law_249 : decode cL_law 249 = .ok (.aload_n 2, 1) := by decide +kernel
theorem dL_law_250 : decode cL_law 250 = .ok (.aload_n 0, 1) := by decide +kernel
theorem dL_law_251 : decode cL_law 251 = .ok (.iload_n 3, 1) := by decide +kernel
theorem dL_law_252 : decode cL_law 252 = .ok (.iconst 1, 1) := by decide +kernel
theorem dL_law_253 : decode cL_law 253 = .ok (.iadd, 1) := by decide +kernel
theorem dL_law_254 : decode cL_law 254 = .ok (.iaload, 1) := by decide +kernel
theorem dL_law_255 : decode cL_law 255 = .ok (.aload_n 0, 1) := by decide +kernel
theorem dL_law_256 : decode cL_law 256 = .ok (.iload_n 3, 1) := by decide +kernel
theorem dL_law_257 : decode cL_law 257 = .ok (.iconst 2, 1) := by decide +kernel
theorem dL_law_258 : decode cL_law 258 = .ok (.iadd, 1) := by decide +kernel
theorem dL_law_259 : decode cL_law 259 = .ok (.iaload, 1) := by decide +kernel
theorem dL_law_260 : decode cL_law 260 = .ok (.invokevirtual 30, 3) := by decide +kernel
theorem dL_law_263 : decode cL_law 263 = .ok (.if_icmp .eq 604, 3) := by decide +kernel
theorem dL_law_266 : decode cL_law 266 = .ok (.iconst 0, 1) := by decide +kernel
theorem dL_law_267 : decode cL_law 267 = .ok (.ireturn, 1) := by decide +kernel
theorem dL_law_268 : decode cL_law 268 = .ok (.aload_n 1, 1) := by decide +kernel
theorem dL_law_269 : decode cL_law 269 = .ok (.aload_n 0, 1) := by decide +kernel
theorem dL_law_270 : decode cL_law 270 = .ok (.iload_n 3, 1) := by decide +kernel
theorem dL_law_271 : decode cL_law 271 = .ok (.iconst 1, 1) := by decide +kernel
theorem dL_law_272 : decode cL_law 272 = .ok (.iadd, 1) := by decide +kernel
theorem dL_law_273 : decode cL_law 273 = .ok (.iaload, 1) := by decide +kernel
theorem dL_law_274 : decode cL_law 274 = .ok (.invokevirtual 31, 3) := by decide +kernel
theorem dL_law_277 : decode cL_law 277 = .ok (.aload_n 2, 1) := by decide +kernel
theorem dL_law_278 : decode cL_law 278 = .ok (.aload_n 0, 1) := by decide +kernel
theorem dL_law_279 : decode cL_law 279 = .ok (.iload_n 3, 1) := by decide +kernel
theorem dL_law_280 : decode cL_law 280 = .ok (.iconst 1, 1) := by decide +kernel
theorem dL_law_281 : decode cL_law 281 = .ok (.iadd, 1) := by decide +kernel
theorem dL_law_282 : decode cL_law 282 = .ok (.iaload, 1) := by decide +kernel
theorem dL_law_283 : decode cL_law 283 = .ok (.invokevirtual 34, 3) := by decide +kernel
theorem dL_law_286 : decode cL_law 286 = .ok (.if_icmp .eq 581, 3) := by decide +kernel
theorem dL_law_289 : decode cL_law 289 = .ok (.iconst 0, 1) := by decide +kernel
theorem dL_law_290 : decode cL_law 290 = .ok (.ireturn, 1) := by decide +kernel
theorem dL_law_291 : decode cL_law 291 = .ok (.aload_n 1, 1) := by decide +kernel
theorem dL_law_292 : decode cL_law 292 = .ok (.aload_n 0, 1) := by decide +kernel
theorem dL_law_293 : decode cL_law 293 = .ok (.iload_n 3, 1) := by decide +kernel
theorem dL_law_294 : decode cL_law 294 = .ok (.iconst 1, 1) := by decide +kernel
theorem dL_law_295 : decode cL_law 295 = .ok (.iadd, 1) := by decide +kernel
theorem dL_law_296 : decode cL_law 296 = .ok (.iaload, 1) := by decide +kernel
theorem dL_law_297 : decode cL_law 297 = .ok (.invokevirtual 35, 3) := by decide +kernel
theorem dL_law_300 : decode cL_law 300 = .ok (.aload_n 2, 1) := by decide +kernel
theorem dL_law_301 : decode cL_law 301 = .ok (.aload_n 0, 1) := by decide +kernel
theorem dL_law_302 : decode cL_law 302 = .ok (.iload_n 3, 1) := by decide +kernel
theorem dL_law_303 : decode cL_law 303 = .ok (.iconst 1, 1) := by decide +kernel
theorem dL_law_304 : decode cL_law 304 = .ok (.iadd, 1) := by decide +kernel
theorem dL_law_305 : decode cL_law 305 = .ok (.iaload, 1) := by decide +kernel
theorem dL_law_306 : decode cL_law 306 = .ok (.invokevirtual 38, 3) := by decide +kernel
theorem dL_law_309 : decode cL_law 309 = .ok (.if_icmp .eq 558, 3) := by decide +kernel
theorem dL_law_312 : decode cL_law 312 = .ok (.iconst 0, 1) := by decide +kernel
theorem dL_law_313 : decode cL_law 313 = .ok (.ireturn, 1) := by decide +kernel
theorem dL_law_314 : decode cL_law 314 = .ok (.aload_n 1, 1) := by decide +kernel
theorem dL_law_315 : decode cL_law 315 = .ok (.aload_n 0, 1) := by decide +kernel
theorem dL_law_316 : decode cL_law 316 = .ok (.iload_n 3, 1) := by decide +kernel
theorem dL_law_317 : decode cL_law 317 = .ok (.iconst 1, 1) := by decide +kernel
theorem dL_law_318 : decode cL_law 318 = .ok (.iadd, 1) := by decide +kernel
theorem dL_law_319 : decode cL_law 319 = .ok (.iaload, 1) := by decide +kernel
theorem dL_law_320 : decode cL_law 320 = .ok (.invokevirtual 39, 3) := by decide +kernel
theorem dL_law_323 : decode cL_law 323 = .ok (.aload_n 2, 1) := by decide +kernel
theorem dL_law_324 : decode cL_law 324 = .ok (.aload_n 0, 1) := by decide +kernel
theorem dL_law_325 : decode cL_law 325 = .ok (.iload_n 3, 1) := by decide +kernel
theorem dL_law_326 : decode cL_law 326 = .ok (.iconst 1, 1) := by decide +kernel
theorem dL_law_327 : decode cL_law 327 = .ok (.iadd, 1) := by decide +kernel
theorem dL_law_328 : decode cL_law 328 = .ok (.iaload, 1) := by decide +kernel
theorem dL_law_329 : decode cL_law 329 = .ok (.invokevirtual 42, 3) := by decide +kernel
theorem dL_law_332 : decode cL_law 332 = .ok (.if_icmp .eq 535, 3) := by decide +kernel
theorem dL_law_335 : decode cL_law 335 = .ok (.iconst 0, 1) := by decide +kernel
theorem dL_law_336 : decode cL_law 336 = .ok (.ireturn, 1) := by decide +kernel
theorem dL_law_337 : decode cL_law 337 = .ok (.aload_n 1, 1) := by decide +kernel
theorem dL_law_338 : decode cL_law 338 = .ok (.aload_n 0, 1) := by decide +kernel
theorem dL_law_339 : decode cL_law 339 = .ok (.iload_n 3, 1) := by decide +kernel
theorem dL_law_340 : decode cL_law 340 = .ok (.iconst 1, 1) := by decide +kernel
theorem dL_law_341 : decode cL_law 341 = .ok (.iadd, 1) := by decide +kernel
theorem dL_law_342 : decode cL_law 342 = .ok (.iaload, 1) := by decide +kernel
theorem dL_law_343 : decode cL_law 343 = .ok (.invokevirtual 43, 3) := by decide +kernel
theorem dL_law_346 : decode cL_law 346 = .ok (.aload_n 2, 1) := by decide +kernel
theorem dL_law_347 : decode cL_law 347 = .ok (.aload_n 0, 1) := by decide +kernel
theorem dL_law_348 : decode cL_law 348 = .ok (.iload_n 3, 1) := by decide +kernel
theorem dL_law_349 : decode cL_law 349 = .ok (.iconst 1, 1) := by decide +kernel
theorem dL_law_350 : decode cL_law 350 = .ok (.iadd, 1) := by decide +kernel
theorem dL_law_351 : decode cL_law 351 = .ok (.iaload, 1) := by decide +kernel
theorem dL_law_352 : decode cL_law 352 = .ok (.invokevirtual 46, 3) := by decide +kernel
theorem dL_law_355 : decode cL_law 355 = .ok (.if_icmp .eq 512, 3) := by decide +kernel
theorem dL_law_358 : decode cL_law 358 = .ok (.iconst 0, 1) := by decide +kernel
theorem dL_law_359 : decode cL_law 359 = .ok (.ireturn, 1) := by decide +kernel
theorem dL_law_360 : decode cL_law 360 = .ok (.aload_n 1, 1) := by decide +kernel
theorem dL_law_361 : decode cL_law 361 = .ok (.aload_n 0, 1) := by decide +kernel
theorem dL_law_362 : decode cL_law 362 = .ok (.iload_n 3, 1) := by decide +kernel
theorem dL_law_363 : decode cL_law 363 = .ok (.iconst 1, 1) := by decide +kernel
theorem dL_law_364 : decode cL_law 364 = .ok (.iadd, 1) := by decide +kernel
theorem dL_law_365 : decode cL_law 365 = .ok (.iaload, 1) := by decide +kernel
theorem dL_law_366 : decode cL_law 366 = .ok (.aload_n 0, 1) := by decide +kernel
theorem dL_law_367 : decode cL_law 367 = .ok (.iload_n 3, 1) := by decide +kernel
theorem dL_law_368 : decode cL_law 368 = .ok (.iconst 2, 1) := by decide +kernel
theorem dL_law_369 : decode cL_law 369 = .ok (.iadd, 1) := by decide +kernel
theorem dL_law_370 : decode cL_law 370 = .ok (.iaload, 1) := by decide +kernel
theorem dL_law_371 : decode cL_law 371 = .ok (.aload_n 0, 1) := by decide +kernel
theorem dL_law_372 : decode cL_law 372 = .ok (.iload_n 3, 1) := by decide +kernel
theorem dL_law_373 : decode cL_law 373 = .ok (.iconst 3, 1) := by decide +kernel
theorem dL_law_374 : decode cL_law 374 = .ok (.iadd, 1) := by decide +kernel
theorem dL_law_375 : decode cL_law 375 = .ok (.iaload, 1) := by decide +kernel
theorem dL_law_376 : decode cL_law 376 = .ok (.aload_n 0, 1) := by decide +kernel
theorem dL_law_377 : decode cL_law 377 = .ok (.iload_n 3, 1) := by decide +kernel
theorem dL_law_378 : decode cL_law 378 = .ok (.iconst 4, 1) := by decide +kernel
theorem dL_law_379 : decode cL_law 379 = .ok (.iadd, 1) := by decide +kernel
theorem dL_law_380 : decode cL_law 380 = .ok (.iaload, 1) := by decide +kernel
theorem dL_law_381 : decode cL_law 381 = .ok (.invokevirtual 47, 3) := by decide +kernel
theorem dL_law_384 : decode cL_law 384 = .ok (.aload_n 2, 1) := by decide +kernel
theorem dL_law_385 : decode cL_law 385 = .ok (.aload_n 0, 1) := by decide +kernel
theorem dL_law_386 : decode cL_law 386 = .ok (.iload_n 3, 1) := by decide +kernel
theorem dL_law_387 : decode cL_law 387 = .ok (.iconst 1, 1) := by decide +kernel
theorem dL_law_388 : decode cL_law 388 = .ok (.iadd, 1) := by decide +kernel
theorem dL_law_389 : decode cL_law 389 = .ok (.iaload, 1) := by decide +kernel
theorem dL_law_390 : decode cL_law 390 = .ok (.aload_n 0, 1) := by decide +kernel
theorem dL_law_391 : decode cL_law 391 = .ok (.iload_n 3, 1) := by decide +kernel
theorem dL_law_392 : decode cL_law 392 = .ok (.iconst 2, 1) := by decide +kernel
theorem dL_law_393 : decode cL_law 393 = .ok (.iadd, 1) := by decide +kernel
theorem dL_law_394 : decode cL_law 394 = .ok (.iaload, 1) := by decide +kernel
theorem dL_law_395 : decode cL_law 395 = .ok (.aload_n 0, 1) := by decide +kernel
theorem dL_law_396 : decode cL_law 396 = .ok (.iload_n 3, 1) := by decide +kernel
theorem dL_law_397 : decode cL_law 397 = .ok (.iconst 3, 1) := by decide +kernel
theorem dL_law_398 : decode cL_law 398 = .ok (.iadd, 1) := by decide +kernel
theorem dL_law_399 : decode cL_law 399 = .ok (.iaload, 1) := by decide +kernel
theorem dL_law_400 : decode cL_law 400 = .ok (.aload_n 0, 1) := by decide +kernel
theorem dL_law_401 : decode cL_law 401 = .ok (.iload_n 3, 1) := by decide +kernel
theorem dL_law_402 : decode cL_law 402 = .ok (.iconst 4, 1) := by decide +kernel
theorem dL_law_403 : decode cL_law 403 = .ok (.iadd, 1) := by decide +kernel
theorem dL_law_404 : decode cL_law 404 = .ok (.iaload, 1) := by decide +kernel
theorem dL_law_405 : decode cL_law 405 = .ok (.invokevirtual 51, 3) := by decide +kernel
theorem dL_law_408 : decode cL_law 408 = .ok (.if_icmp .eq 459, 3) := by decide +kernel
theorem dL_law_411 : decode cL_law 411 = .ok (.iconst 0, 1) := by decide +kernel
theorem dL_law_412 : decode cL_law 412 = .ok (.ireturn, 1) := by decide +kernel
theorem dL_law_413 : decode cL_law 413 = .ok (.aload_n 1, 1) := by decide +kernel
theorem dL_law_414 : decode cL_law 414 = .ok (.aload_n 0, 1) := by decide +kernel
theorem dL_law_415 : decode cL_law 415 = .ok (.iload_n 3, 1) := by decide +kernel
theorem dL_law_416 : decode cL_law 416 = .ok (.iconst 1, 1) := by decide +kernel
theorem dL_law_417 : decode cL_law 417 = .ok (.iadd, 1) := by decide +kernel
theorem dL_law_418 : decode cL_law 418 = .ok (.iaload, 1) := by decide +kernel
theorem dL_law_419 : decode cL_law 419 = .ok (.aload_n 0, 1) := by decide +kernel
theorem dL_law_420 : decode cL_law 420 = .ok (.iload_n 3, 1) := by decide +kernel
theorem dL_law_421 : decode cL_law 421 = .ok (.iconst 2, 1) := by decide +kernel
theorem dL_law_422 : decode cL_law 422 = .ok (.iadd, 1) := by decide +kernel
theorem dL_law_423 : decode cL_law 423 = .ok (.iaload, 1) := by decide +kernel
theorem dL_law_424 : decode cL_law 424 = .ok (.aload_n 0, 1) := by decide +kernel
theorem dL_law_425 : decode cL_law 425 = .ok (.iload_n 3, 1) := by decide +kernel
theorem dL_law_426 : decode cL_law 426 = .ok (.iconst 3, 1) := by decide +kernel
theorem dL_law_427 : decode cL_law 427 = .ok (.iadd, 1) := by decide +kernel
theorem dL_law_428 : decode cL_law 428 = .ok (.iaload, 1) := by decide +kernel
theorem dL_law_429 : decode cL_law 429 = .ok (.aload_n 0, 1) := by decide +kernel
theorem dL_law_430 : decode cL_law 430 = .ok (.iload_n 3, 1) := by decide +kernel
theorem dL_law_431 : decode cL_law 431 = .ok (.iconst 4, 1) := by decide +kernel
theorem dL_law_432 : decode cL_law 432 = .ok (.iadd, 1) := by decide +kernel
theorem dL_law_433 : decode cL_law 433 = .ok (.iaload, 1) := by decide +kernel
theorem dL_law_434 : decode cL_law 434 = .ok (.invokevirtual 52, 3) := by decide +kernel
theorem dL_law_437 : decode cL_law 437 = .ok (.aload_n 2, 1) := by decide +kernel
theorem dL_law_438 : decode cL_law 438 = .ok (.aload_n 0, 1) := by decide +kernel
theorem dL_law_439 : decode cL_law 439 = .ok (.iload_n 3, 1) := by decide +kernel
theorem dL_law_440 : decode cL_law 440 = .ok (.iconst 1, 1) := by decide +kernel
theorem dL_law_441 : decode cL_law 441 = .ok (.iadd, 1) := by decide +kernel
theorem dL_law_442 : decode cL_law 442 = .ok (.iaload, 1) := by decide +kernel
theorem dL_law_443 : decode cL_law 443 = .ok (.aload_n 0, 1) := by decide +kernel
theorem dL_law_444 : decode cL_law 444 = .ok (.iload_n 3, 1) := by decide +kernel
theorem dL_law_445 : decode cL_law 445 = .ok (.iconst 2, 1) := by decide +kernel
theorem dL_law_446 : decode cL_law 446 = .ok (.iadd, 1) := by decide +kernel
theorem dL_law_447 : decode cL_law 447 = .ok (.iaload, 1) := by decide +kernel
theorem dL_law_448 : decode cL_law 448 = .ok (.aload_n 0, 1) := by decide +kernel
theorem dL_law_449 : decode cL_law 449 = .ok (.iload_n 3, 1) := by decide +kernel
theorem dL_law_450 : decode cL_law 450 = .ok (.iconst 3, 1) := by decide +kernel
theorem dL_law_451 : decode cL_law 451 = .ok (.iadd, 1) := by decide +kernel
theorem dL_law_452 : decode cL_law 452 = .ok (.iaload, 1) := by decide +kernel
theorem dL_law_453 : decode cL_law 453 = .ok (.aload_n 0, 1) := by decide +kernel
theorem dL_law_454 : decode cL_law 454 = .ok (.iload_n 3, 1) := by decide +kernel
theorem dL_law_455 : decode cL_law 455 = .ok (.iconst 4, 1) := by decide +kernel
theorem dL_law_456 : decode cL_law 456 = .ok (.iadd, 1) := by decide +kernel
theorem dL_law_457 : decode cL_law 457 = .ok (.iaload, 1) := by decide +kernel
theorem dL_law_458 : decode cL_law 458 = .ok (.invokevirtual 55, 3) := by decide +kernel
theorem dL_law_461 : decode cL_law 461 = .ok (.if_icmp .eq 406, 3) := by decide +kernel
theorem dL_law_464 : decode cL_law 464 = .ok (.iconst 0, 1) := by decide +kernel
theorem dL_law_465 : decode cL_law 465 = .ok (.ireturn, 1) := by decide +kernel
theorem dL_law_466 : decode cL_law 466 = .ok (.aload_n 1, 1) := by decide +kernel
theorem dL_law_467 : decode cL_law 467 = .ok (.aload_n 0, 1) := by decide +kernel
theorem dL_law_468 : decode cL_law 468 = .ok (.iload_n 3, 1) := by decide +kernel
theorem dL_law_469 : decode cL_law 469 = .ok (.iconst 1, 1) := by decide +kernel
theorem dL_law_470 : decode cL_law 470 = .ok (.iadd, 1) := by decide +kernel
theorem dL_law_471 : decode cL_law 471 = .ok (.iaload, 1) := by decide +kernel
theorem dL_law_472 : decode cL_law 472 = .ok (.invokevirtual 56, 3) := by decide +kernel
theorem dL_law_475 : decode cL_law 475 = .ok (.aload_n 2, 1) := by decide +kernel
theorem dL_law_476 : decode cL_law 476 = .ok (.aload_n 0, 1) := by decide +kernel
theorem dL_law_477 : decode cL_law 477 = .ok (.iload_n 3, 1) := by decide +kernel
theorem dL_law_478 : decode cL_law 478 = .ok (.iconst 1, 1) := by decide +kernel
theorem dL_law_479 : decode cL_law 479 = .ok (.iadd, 1) := by decide +kernel
theorem dL_law_480 : decode cL_law 480 = .ok (.iaload, 1) := by decide +kernel
theorem dL_law_481 : decode cL_law 481 = .ok (.invokevirtual 59, 3) := by decide +kernel
theorem dL_law_484 : decode cL_law 484 = .ok (.if_icmp .eq 383, 3) := by decide +kernel
theorem dL_law_487 : decode cL_law 487 = .ok (.iconst 0, 1) := by decide +kernel
theorem dL_law_488 : decode cL_law 488 = .ok (.ireturn, 1) := by decide +kernel
theorem dL_law_489 : decode cL_law 489 = .ok (.aload_n 1, 1) := by decide +kernel
theorem dL_law_490 : decode cL_law 490 = .ok (.aload_n 0, 1) := by decide +kernel
theorem dL_law_491 : decode cL_law 491 = .ok (.iload_n 3, 1) := by decide +kernel
theorem dL_law_492 : decode cL_law 492 = .ok (.iconst 1, 1) := by decide +kernel
theorem dL_law_493 : decode cL_law 493 = .ok (.iadd, 1) := by decide +kernel
theorem dL_law_494 : decode cL_law 494 = .ok (.iaload, 1) := by decide +kernel
theorem dL_law_495 : decode cL_law 495 = .ok (.invokevirtual 60, 3) := by decide +kernel
theorem dL_law_498 : decode cL_law 498 = .ok (.aload_n 2, 1) := by decide +kernel
theorem dL_law_499 : decode cL_law 499 = .ok (.aload_n 0, 1) := by decide +kernel
theorem dL_law_500 : decode cL_law 500 = .ok (.iload_n 3, 1) := by decide +kernel
theorem dL_law_501 : decode cL_law 501 = .ok (.iconst 1, 1) := by decide +kernel
theorem dL_law_502 : decode cL_law 502 = .ok (.iadd, 1) := by decide +kernel
theorem dL_law_503 : decode cL_law 503 = .ok (.iaload, 1) := by decide +kernel
theorem dL_law_504 : decode cL_law 504 = .ok (.invokevirtual 63, 3) := by decide +kernel
theorem dL_law_507 : decode cL_law 507 = .ok (.if_icmp .eq 360, 3) := by decide +kernel
theorem dL_law_510 : decode cL_law 510 = .ok (.iconst 0, 1) := by decide +kernel
theorem dL_law_511 : decode cL_law 511 = .ok (.ireturn, 1) := by decide +kernel
theorem dL_law_512 : decode cL_law 512 = .ok (.aload_n 1, 1) := by decide +kernel
theorem dL_law_513 : decode cL_law 513 = .ok (.aload_n 0, 1) := by decide +kernel
theorem dL_law_514 : decode cL_law 514 = .ok (.iload_n 3, 1) := by decide +kernel
theorem dL_law_515 : decode cL_law 515 = .ok (.iconst 1, 1) := by decide +kernel
theorem dL_law_516 : decode cL_law 516 = .ok (.iadd, 1) := by decide +kernel
theorem dL_law_517 : decode cL_law 517 = .ok (.iaload, 1) := by decide +kernel
theorem dL_law_518 : decode cL_law 518 = .ok (.invokevirtual 64, 3) := by decide +kernel
theorem dL_law_521 : decode cL_law 521 = .ok (.aload_n 2, 1) := by decide +kernel
theorem dL_law_522 : decode cL_law 522 = .ok (.aload_n 0, 1) := by decide +kernel
theorem dL_law_523 : decode cL_law 523 = .ok (.iload_n 3, 1) := by decide +kernel
theorem dL_law_524 : decode cL_law 524 = .ok (.iconst 1, 1) := by decide +kernel
theorem dL_law_525 : decode cL_law 525 = .ok (.iadd, 1) := by decide +kernel
theorem dL_law_526 : decode cL_law 526 = .ok (.iaload, 1) := by decide +kernel
theorem dL_law_527 : decode cL_law 527 = .ok (.invokevirtual 67, 3) := by decide +kernel
theorem dL_law_530 : decode cL_law 530 = .ok (.if_icmp .eq 337, 3) := by decide +kernel
theorem dL_law_533 : decode cL_law 533 = .ok (.iconst 0, 1) := by decide +kernel
theorem dL_law_534 : decode cL_law 534 = .ok (.ireturn, 1) := by decide +kernel
theorem dL_law_535 : decode cL_law 535 = .ok (.aload_n 1, 1) := by decide +kernel
theorem dL_law_536 : decode cL_law 536 = .ok (.aload_n 0, 1) := by decide +kernel
theorem dL_law_537 : decode cL_law 537 = .ok (.iload_n 3, 1) := by decide +kernel
theorem dL_law_538 : decode cL_law 538 = .ok (.iconst 1, 1) := by decide +kernel
theorem dL_law_539 : decode cL_law 539 = .ok (.iadd, 1) := by decide +kernel
theorem dL_law_540 : decode cL_law 540 = .ok (.iaload, 1) := by decide +kernel
theorem dL_law_541 : decode cL_law 541 = .ok (.invokevirtual 68, 3) := by decide +kernel
theorem dL_law_544 : decode cL_law 544 = .ok (.aload_n 2, 1) := by decide +kernel
theorem dL_law_545 : decode cL_law 545 = .ok (.aload_n 0, 1) := by decide +kernel
theorem dL_law_546 : decode cL_law 546 = .ok (.iload_n 3, 1) := by decide +kernel
theorem dL_law_547 : decode cL_law 547 = .ok (.iconst 1, 1) := by decide +kernel
theorem dL_law_548 : decode cL_law 548 = .ok (.iadd, 1) := by decide +kernel
theorem dL_law_549 : decode cL_law 549 = .ok (.iaload, 1) := by decide +kernel
theorem dL_law_550 : decode cL_law 550 = .ok (.invokevirtual 71, 3) := by decide +kernel
theorem dL_law_553 : decode cL_law 553 = .ok (.if_icmp .eq 314, 3) := by decide +kernel
theorem dL_law_556 : decode cL_law 556 = .ok (.iconst 0, 1) := by decide +kernel
theorem dL_law_557 : decode cL_law 557 = .ok (.ireturn, 1) := by decide +kernel
theorem dL_law_558 : decode cL_law 558 = .ok (.aload_n 1, 1) := by decide +kernel
theorem dL_law_559 : decode cL_law 559 = .ok (.aload_n 0, 1) := by decide +kernel
theorem dL_law_560 : decode cL_law 560 = .ok (.iload_n 3, 1) := by decide +kernel
theorem dL_law_561 : decode cL_law 561 = .ok (.iconst 1, 1) := by decide +kernel
theorem dL_law_562 : decode cL_law 562 = .ok (.iadd, 1) := by decide +kernel
theorem dL_law_563 : decode cL_law 563 = .ok (.iaload, 1) := by decide +kernel
theorem dL_law_564 : decode cL_law 564 = .ok (.invokevirtual 72, 3) := by decide +kernel
theorem dL_law_567 : decode cL_law 567 = .ok (.aload_n 2, 1) := by decide +kernel
theorem dL_law_568 : decode cL_law 568 = .ok (.aload_n 0, 1) := by decide +kernel
theorem dL_law_569 : decode cL_law 569 = .ok (.iload_n 3, 1) := by decide +kernel
theorem dL_law_570 : decode cL_law 570 = .ok (.iconst 1, 1) := by decide +kernel
theorem dL_law_571 : decode cL_law 571 = .ok (.iadd, 1) := by decide +kernel
theorem dL_law_572 : decode cL_law 572 = .ok (.iaload, 1) := by decide +kernel
theorem dL_law_573 : decode cL_law 573 = .ok (.invokevirtual 75, 3) := by decide +kernel
theorem dL_law_576 : decode cL_law 576 = .ok (.if_icmp .eq 291, 3) := by decide +kernel
theorem dL_law_579 : decode cL_law 579 = .ok (.iconst 0, 1) := by decide +kernel
theorem dL_law_580 : decode cL_law 580 = .ok (.ireturn, 1) := by decide +kernel
theorem dL_law_581 : decode cL_law 581 = .ok (.aload_n 1, 1) := by decide +kernel
theorem dL_law_582 : decode cL_law 582 = .ok (.aload_n 0, 1) := by decide +kernel
theorem dL_law_583 : decode cL_law 583 = .ok (.iload_n 3, 1) := by decide +kernel
theorem dL_law_584 : decode cL_law 584 = .ok (.iconst 1, 1) := by decide +kernel
theorem dL_law_585 : decode cL_law 585 = .ok (.iadd, 1) := by decide +kernel
theorem dL_law_586 : decode cL_law 586 = .ok (.iaload, 1) := by decide +kernel
theorem dL_law_587 : decode cL_law 587 = .ok (.aload_n 0, 1) := by decide +kernel
theorem dL_law_588 : decode cL_law 588 = .ok (.iload_n 3, 1) := by decide +kernel
theorem dL_law_589 : decode cL_law 589 = .ok (.iconst 2, 1) := by decide +kernel
theorem dL_law_590 : decode cL_law 590 = .ok (.iadd, 1) := by decide +kernel
theorem dL_law_591 : decode cL_law 591 = .ok (.iaload, 1) := by decide +kernel
theorem dL_law_592 : decode cL_law 592 = .ok (.invokevirtual 76, 3) := by decide +kernel
theorem dL_law_595 : decode cL_law 595 = .ok (.aload_n 2, 1) := by decide +kernel
theorem dL_law_596 : decode cL_law 596 = .ok (.aload_n 0, 1) := by decide +kernel
theorem dL_law_597 : decode cL_law 597 = .ok (.iload_n 3, 1) := by decide +kernel
theorem dL_law_598 : decode cL_law 598 = .ok (.iconst 1, 1) := by decide +kernel
theorem dL_law_599 : decode cL_law 599 = .ok (.iadd, 1) := by decide +kernel
theorem dL_law_600 : decode cL_law 600 = .ok (.iaload, 1) := by decide +kernel
theorem dL_law_601 : decode cL_law 601 = .ok (.aload_n 0, 1) := by decide +kernel
theorem dL_law_602 : decode cL_law 602 = .ok (.iload_n 3, 1) := by decide +kernel
theorem dL_law_603 : decode cL_law 603 = .ok (.iconst 2, 1) := by decide +kernel
theorem dL_law_604 : decode cL_law 604 = .ok (.iadd, 1) := by decide +kernel
theorem dL_law_605 : decode cL_law 605 = .ok (.iaload, 1) := by decide +kernel
theorem dL_law_606 : decode cL_law 606 = .ok (.invokevirtual 79, 3) := by decide +kernel
theorem dL_law_609 : decode cL_law 609 = .ok (.if_icmp .eq 258, 3) := by decide +kernel
theorem dL_law_612 : decode cL_law 612 = .ok (.iconst 0, 1) := by decide +kernel
theorem dL_law_613 : decode cL_law 613 = .ok (.ireturn, 1) := by decide +kernel
theorem dL_law_614 : decode cL_law 614 = .ok (.aload_n 1, 1) := by decide +kernel
theorem dL_law_615 : decode cL_law 615 = .ok (.aload_n 0, 1) := by decide +kernel
theorem dL_law_616 : decode cL_law 616 = .ok (.iload_n 3, 1) := by decide +kernel
theorem dL_law_617 : decode cL_law 617 = .ok (.iconst 1, 1) := by decide +kernel
theorem dL_law_618 : decode cL_law 618 = .ok (.iadd, 1) := by decide +kernel
theorem dL_law_619 : decode cL_law 619 = .ok (.iaload, 1) := by decide +kernel
theorem dL_law_620 : decode cL_law 620 = .ok (.aload_n 0, 1) := by decide +kernel
theorem dL_law_621 : decode cL_law 621 = .ok (.iload_n 3, 1) := by decide +kernel
theorem dL_law_622 : decode cL_law 622 = .ok (.iconst 2, 1) := by decide +kernel
theorem dL_law_623 : decode cL_law 623 = .ok (.iadd, 1) := by decide +kernel
theorem dL_law_624 : decode cL_law 624 = .ok (.iaload, 1) := by decide +kernel
theorem dL_law_625 : decode cL_law 625 = .ok (.invokevirtual 80, 3) := by decide +kernel
theorem dL_law_628 : decode cL_law 628 = .ok (.aload_n 2, 1) := by decide +kernel
theorem dL_law_629 : decode cL_law 629 = .ok (.aload_n 0, 1) := by decide +kernel
theorem dL_law_630 : decode cL_law 630 = .ok (.iload_n 3, 1) := by decide +kernel
theorem dL_law_631 : decode cL_law 631 = .ok (.iconst 1, 1) := by decide +kernel
theorem dL_law_632 : decode cL_law 632 = .ok (.iadd, 1) := by decide +kernel
theorem dL_law_633 : decode cL_law 633 = .ok (.iaload, 1) := by decide +kernel
theorem dL_law_634 : decode cL_law 634 = .ok (.aload_n 0, 1) := by decide +kernel
theorem dL_law_635 : decode cL_law 635 = .ok (.iload_n 3, 1) := by decide +kernel
theorem dL_law_636 : decode cL_law 636 = .ok (.iconst 2, 1) := by decide +kernel
theorem dL_law_637 : decode cL_law 637 = .ok (.iadd, 1) := by decide +kernel
theorem dL_law_638 : decode cL_law 638 = .ok (.iaload, 1) := by decide +kernel
theorem dL_law_639 : decode cL_law 639 = .ok (.invokevirtual 83, 3) := by decide +kernel
theorem dL_law_642 : decode cL_law 642 = .ok (.if_icmp .eq 225, 3) := by decide +kernel
theorem dL_law_645 : decode cL_law 645 = .ok (.iconst 0, 1) := by decide +kernel
theorem dL_law_646 : decode cL_law 646 = .ok (.ireturn, 1) := by decide +kernel
theorem dL_law_647 : decode cL_law 647 = .ok (.aload_n 1, 1) := by decide +kernel
theorem dL_law_648 : decode cL_law 648 = .ok (.aload_n 0, 1) := by decide +kernel
theorem dL_law_649 : decode cL_law 649 = .ok (.iload_n 3, 1) := by decide +kernel
theorem dL_law_650 : decode cL_law 650 = .ok (.iconst 1, 1) := by decide +kernel
theorem dL_law_651 : decode cL_law 651 = .ok (.iadd, 1) := by decide +kernel
theorem dL_law_652 : decode cL_law 652 = .ok (.iaload, 1) := by decide +kernel
theorem dL_law_653 : decode cL_law 653 = .ok (.invokevirtual 84, 3) := by decide +kernel
theorem dL_law_656 : decode cL_law 656 = .ok (.aload_n 2, 1) := by decide +kernel
theorem dL_law_657 : decode cL_law 657 = .ok (.aload_n 0, 1) := by decide +kernel
theorem dL_law_658 : decode cL_law 658 = .ok (.iload_n 3, 1) := by decide +kernel
theorem dL_law_659 : decode cL_law 659 = .ok (.iconst 1, 1) := by decide +kernel
theorem dL_law_660 : decode cL_law 660 = .ok (.iadd, 1) := by decide +kernel
theorem dL_law_661 : decode cL_law 661 = .ok (.iaload, 1) := by decide +kernel
theorem dL_law_662 : decode cL_law 662 = .ok (.invokevirtual 87, 3) := by decide +kernel
theorem dL_law_665 : decode cL_law 665 = .ok (.if_icmp .eq 202, 3) := by decide +kernel
theorem dL_law_668 : decode cL_law 668 = .ok (.iconst 0, 1) := by decide +kernel
theorem dL_law_669 : decode cL_law 669 = .ok (.ireturn, 1) := by decide +kernel
theorem dL_law_670 : decode cL_law 670 = .ok (.aload_n 1, 1) := by decide +kernel
theorem dL_law_671 : decode cL_law 671 = .ok (.aload_n 0, 1) := by decide +kernel
theorem dL_law_672 : decode cL_law 672 = .ok (.iload_n 3, 1) := by decide +kernel
theorem dL_law_673 : decode cL_law 673 = .ok (.iconst 1, 1) := by decide +kernel
theorem dL_law_674 : decode cL_law 674 = .ok (.iadd, 1) := by decide +kernel
theorem dL_law_675 : decode cL_law 675 = .ok (.iaload, 1) := by decide +kernel
theorem dL_law_676 : decode cL_law 676 = .ok (.invokevirtual 88, 3) := by decide +kernel
theorem dL_law_679 : decode cL_law 679 = .ok (.aload_n 2, 1) := by decide +kernel
theorem dL_law_680 : decode cL_law 680 = .ok (.aload_n 0, 1) := by decide +kernel
theorem dL_law_681 : decode cL_law 681 = .ok (.iload_n 3, 1) := by decide +kernel
theorem dL_law_682 : decode cL_law 682 = .ok (.iconst 1, 1) := by decide +kernel
theorem dL_law_683 : decode cL_law 683 = .ok (.iadd, 1) := by decide +kernel
theorem dL_law_684 : decode cL_law 684 = .ok (.iaload, 1) := by decide +kernel
theorem dL_law_685 : decode cL_law 685 = .ok (.invokevirtual 91, 3) := by decide +kernel
theorem dL_law_688 : decode cL_law 688 = .ok (.if_icmp .eq 179, 3) := by decide +kernel
theorem dL_law_691 : decode cL_law 691 = .ok (.iconst 0, 1) := by decide +kernel
theorem dL_law_692 : decode cL_law 692 = .ok (.ireturn, 1) := by decide +kernel
theorem dL_law_693 : decode cL_law 693 = .ok (.aload_n 1, 1) := by decide +kernel
theorem dL_law_694 : decode cL_law 694 = .ok (.aload_n 0, 1) := by decide +kernel
theorem dL_law_695 : decode cL_law 695 = .ok (.iload_n 3, 1) := by decide +kernel
theorem dL_law_696 : decode cL_law 696 = .ok (.iconst 1, 1) := by decide +kernel
theorem dL_law_697 : decode cL_law 697 = .ok (.iadd, 1) := by decide +kernel
theorem dL_law_698 : decode cL_law 698 = .ok (.iaload, 1) := by decide +kernel
theorem dL_law_699 : decode cL_law 699 = .ok (.invokevirtual 92, 3) := by decide +kernel
theorem dL_law_702 : decode cL_law 702 = .ok (.aload_n 2, 1) := by decide +kernel
theorem dL_law_703 : decode cL_law 703 = .ok (.aload_n 0, 1) := by decide +kernel
theorem dL_law_704 : decode cL_law 704 = .ok (.iload_n 3, 1) := by decide +kernel
theorem dL_law_705 : decode cL_law 705 = .ok (.iconst 1, 1) := by decide +kernel
theorem dL_law_706 : decode cL_law 706 = .ok (.iadd, 1) := by decide +kernel
theorem dL_law_707 : decode cL_law 707 = .ok (.iaload, 1) := by decide +kernel
theorem dL_law_708 : decode cL_law 708 = .ok (.invokevirtual 95, 3) := by decide +kernel
theorem dL_law_711 : decode cL_law 711 = .ok (.if_icmp .eq 156, 3) := by decide +kernel
theorem dL_law_714 : decode cL_law 714 = .ok (.iconst 0, 1) := by decide +kernel
theorem dL_law_715 : decode cL_law 715 = .ok (.ireturn, 1) := by decide +kernel
theorem dL_law_716 : decode cL_law 716 = .ok (.aload_n 1, 1) := by decide +kernel
theorem dL_law_717 : decode cL_law 717 = .ok (.aload_n 0, 1) := by decide +kernel
theorem dL_law_718 : decode cL_law 718 = .ok (.iload_n 3, 1) := by decide +kernel
theorem dL_law_719 : decode cL_law 719 = .ok (.iconst 1, 1) := by decide +kernel
theorem dL_law_720 : decode cL_law 720 = .ok (.iadd, 1) := by decide +kernel
theorem dL_law_721 : decode cL_law 721 = .ok (.iaload, 1) := by decide +kernel
theorem dL_law_722 : decode cL_law 722 = .ok (.invokevirtual 96, 3) := by decide +kernel
theorem dL_law_725 : decode cL_law 725 = .ok (.aload_n 2, 1) := by decide +kernel
theorem dL_law_726 : decode cL_law 726 = .ok (.aload_n 0, 1) := by decide +kernel
theorem dL_law_727 : decode cL_law 727 = .ok (.iload_n 3, 1) := by decide +kernel
theorem dL_law_728 : decode cL_law 728 = .ok (.iconst 1, 1) := by decide +kernel
theorem dL_law_729 : decode cL_law 729 = .ok (.iadd, 1) := by decide +kernel
theorem dL_law_730 : decode cL_law 730 = .ok (.iaload, 1) := by decide +kernel
theorem dL_law_731 : decode cL_law 731 = .ok (.invokevirtual 99, 3) := by decide +kernel
theorem dL_law_734 : decode cL_law 734 = .ok (.if_icmp .eq 133, 3) := by decide +kernel
theorem dL_law_737 : decode cL_law 737 = .ok (.iconst 0, 1) := by decide +kernel
theorem dL_law_738 : decode cL_law 738 = .ok (.ireturn, 1) := by decide +kernel
theorem dL_law_739 : decode cL_law 739 = .ok (.aload_n 1, 1) := by decide +kernel
theorem dL_law_740 : decode cL_law 740 = .ok (.aload_n 0, 1) := by decide +kernel
theorem dL_law_741 : decode cL_law 741 = .ok (.iload_n 3, 1) := by decide +kernel
theorem dL_law_742 : decode cL_law 742 = .ok (.iconst 1, 1) := by decide +kernel
theorem dL_law_743 : decode cL_law 743 = .ok (.iadd, 1) := by decide +kernel
theorem dL_law_744 : decode cL_law 744 = .ok (.iaload, 1) := by decide +kernel
theorem dL_law_745 : decode cL_law 745 = .ok (.invokevirtual 100, 3) := by decide +kernel
theorem dL_law_748 : decode cL_law 748 = .ok (.aload_n 2, 1) := by decide +kernel
theorem dL_law_749 : decode cL_law 749 = .ok (.aload_n 0, 1) := by decide +kernel
theorem dL_law_750 : decode cL_law 750 = .ok (.iload_n 3, 1) := by decide +kernel
theorem dL_law_751 : decode cL_law 751 = .ok (.iconst 1, 1) := by decide +kernel
theorem dL_law_752 : decode cL_law 752 = .ok (.iadd, 1) := by decide +kernel
theorem dL_law_753 : decode cL_law 753 = .ok (.iaload, 1) := by decide +kernel
theorem dL_law_754 : decode cL_law 754 = .ok (.invokevirtual 103, 3) := by decide +kernel
theorem dL_law_757 : decode cL_law 757 = .ok (.if_icmp .eq 110, 3) := by decide +kernel
theorem dL_law_760 : decode cL_law 760 = .ok (.iconst 0, 1) := by decide +kernel
theorem dL_law_761 : decode cL_law 761 = .ok (.ireturn, 1) := by decide +kernel
theorem dL_law_762 : decode cL_law 762 = .ok (.aload_n 1, 1) := by decide +kernel
theorem dL_law_763 : decode cL_law 763 = .ok (.aload_n 0, 1) := by decide +kernel
theorem dL_law_764 : decode cL_law 764 = .ok (.iload_n 3, 1) := by decide +kernel
theorem dL_law_765 : decode cL_law 765 = .ok (.iconst 1, 1) := by decide +kernel
theorem dL_law_766 : decode cL_law 766 = .ok (.iadd, 1) := by decide +kernel
theorem dL_law_767 : decode cL_law 767 = .ok (.iaload, 1) := by decide +kernel
theorem dL_law_768 : decode cL_law 768 = .ok (.aload_n 0, 1) := by decide +kernel
theorem dL_law_769 : decode cL_law 769 = .ok (.iload_n 3, 1) := by decide +kernel
theorem dL_law_770 : decode cL_law 770 = .ok (.iconst 2, 1) := by decide +kernel
theorem dL_law_771 : decode cL_law 771 = .ok (.iadd, 1) := by decide +kernel
theorem dL_law_772 : decode cL_law 772 = .ok (.iaload, 1) := by decide +kernel
theorem dL_law_773 : decode cL_law 773 = .ok (.invokevirtual 104, 3) := by decide +kernel
theorem dL_law_776 : decode cL_law 776 = .ok (.aload_n 2, 1) := by decide +kernel
theorem dL_law_777 : decode cL_law 777 = .ok (.aload_n 0, 1) := by decide +kernel
theorem dL_law_778 : decode cL_law 778 = .ok (.iload_n 3, 1) := by decide +kernel
theorem dL_law_779 : decode cL_law 779 = .ok (.iconst 1, 1) := by decide +kernel
theorem dL_law_780 : decode cL_law 780 = .ok (.iadd, 1) := by decide +kernel
theorem dL_law_781 : decode cL_law 781 = .ok (.iaload, 1) := by decide +kernel
theorem dL_law_782 : decode cL_law 782 = .ok (.aload_n 0, 1) := by decide +kernel
theorem dL_law_783 : decode cL_law 783 = .ok (.iload_n 3, 1) := by decide +kernel
theorem dL_law_784 : decode cL_law 784 = .ok (.iconst 2, 1) := by decide +kernel
theorem dL_law_785 : decode cL_law 785 = .ok (.iadd, 1) := by decide +kernel
theorem dL_law_786 : decode cL_law 786 = .ok (.iaload, 1) := by decide +kernel
theorem dL_law_787 : decode cL_law 787 = .ok (.invokevirtual 107, 3) := by decide +kernel
theorem dL_law_790 : decode cL_law 790 = .ok (.if_icmp .eq 77, 3) := by decide +kernel
theorem dL_law_793 : decode cL_law 793 = .ok (.iconst 0, 1) := by decide +kernel
theorem dL_law_794 : decode cL_law 794 = .ok (.ireturn, 1) := by decide +kernel
theorem dL_law_795 : decode cL_law 795 = .ok (.aload_n 1, 1) := by decide +kernel
theorem dL_law_796 : decode cL_law 796 = .ok (.invokevirtual 108, 3) := by decide +kernel
theorem dL_law_799 : decode cL_law 799 = .ok (.aload_n 2, 1) := by decide +kernel
theorem dL_law_800 : decode cL_law 800 = .ok (.invokevirtual 112, 3) := by decide +kernel
theorem dL_law_803 : decode cL_law 803 = .ok (.if_icmp .eq 64, 3) := by decide +kernel
theorem dL_law_806 : decode cL_law 806 = .ok (.iconst 0, 1) := by decide +kernel
theorem dL_law_807 : decode cL_law 807 = .ok (.ireturn, 1) := by decide +kernel
theorem dL_law_808 : decode cL_law 808 = .ok (.aload_n 1, 1) := by decide +kernel
theorem dL_law_809 : decode cL_law 809 = .ok (.aload_n 0, 1) := by decide +kernel
theorem dL_law_810 : decode cL_law 810 = .ok (.iload_n 3, 1) := by decide +kernel
theorem dL_law_811 : decode cL_law 811 = .ok (.iconst 1, 1) := by decide +kernel
theorem dL_law_812 : decode cL_law 812 = .ok (.iadd, 1) := by decide +kernel
theorem dL_law_813 : decode cL_law 813 = .ok (.iaload, 1) := by decide +kernel
theorem dL_law_814 : decode cL_law 814 = .ok (.invokevirtual 113, 3) := by decide +kernel
theorem dL_law_817 : decode cL_law 817 = .ok (.aload_n 2, 1) := by decide +kernel
theorem dL_law_818 : decode cL_law 818 = .ok (.aload_n 0, 1) := by decide +kernel
theorem dL_law_819 : decode cL_law 819 = .ok (.iload_n 3, 1) := by decide +kernel
theorem dL_law_820 : decode cL_law 820 = .ok (.iconst 1, 1) := by decide +kernel
theorem dL_law_821 : decode cL_law 821 = .ok (.iadd, 1) := by decide +kernel
theorem dL_law_822 : decode cL_law 822 = .ok (.iaload, 1) := by decide +kernel
theorem dL_law_823 : decode cL_law 823 = .ok (.invokevirtual 116, 3) := by decide +kernel
theorem dL_law_826 : decode cL_law 826 = .ok (.if_icmp .eq 41, 3) := by decide +kernel
theorem dL_law_829 : decode cL_law 829 = .ok (.iconst 0, 1) := by decide +kernel
theorem dL_law_830 : decode cL_law 830 = .ok (.ireturn, 1) := by decide +kernel
theorem dL_law_831 : decode cL_law 831 = .ok (.aload_n 1, 1) := by decide +kernel
theorem dL_law_832 : decode cL_law 832 = .ok (.invokevirtual 117, 3) := by decide +kernel
theorem dL_law_835 : decode cL_law 835 = .ok (.aload_n 2, 1) := by decide +kernel
theorem dL_law_836 : decode cL_law 836 = .ok (.invokevirtual 120, 3) := by decide +kernel
theorem dL_law_839 : decode cL_law 839 = .ok (.if_icmp .eq 28, 3) := by decide +kernel
theorem dL_law_842 : decode cL_law 842 = .ok (.iconst 0, 1) := by decide +kernel
theorem dL_law_843 : decode cL_law 843 = .ok (.ireturn, 1) := by decide +kernel
theorem dL_law_844 : decode cL_law 844 = .ok (.aload_n 1, 1) := by decide +kernel
theorem dL_law_845 : decode cL_law 845 = .ok (.aload_n 0, 1) := by decide +kernel
theorem dL_law_846 : decode cL_law 846 = .ok (.iload_n 3, 1) := by decide +kernel
theorem dL_law_847 : decode cL_law 847 = .ok (.iconst 1, 1) := by decide +kernel
theorem dL_law_848 : decode cL_law 848 = .ok (.iadd, 1) := by decide +kernel
theorem dL_law_849 : decode cL_law 849 = .ok (.iaload, 1) := by decide +kernel
theorem dL_law_850 : decode cL_law 850 = .ok (.invokevirtual 121, 3) := by decide +kernel
theorem dL_law_853 : decode cL_law 853 = .ok (.aload_n 2, 1) := by decide +kernel
theorem dL_law_854 : decode cL_law 854 = .ok (.aload_n 0, 1) := by decide +kernel
theorem dL_law_855 : decode cL_law 855 = .ok (.iload_n 3, 1) := by decide +kernel
theorem dL_law_856 : decode cL_law 856 = .ok (.iconst 1, 1) := by decide +kernel
theorem dL_law_857 : decode cL_law 857 = .ok (.iadd, 1) := by decide +kernel
theorem dL_law_858 : decode cL_law 858 = .ok (.iaload, 1) := by decide +kernel
theorem dL_law_859 : decode cL_law 859 = .ok (.invokevirtual 124, 3) := by decide +kernel
theorem dL_law_862 : decode cL_law 862 = .ok (.if_icmp .eq 5, 3) := by decide +kernel
theorem dL_law_865 : decode cL_law 865 = .ok (.iconst 0, 1) := by decide +kernel
theorem dL_law_866 : decode cL_law 866 = .ok (.ireturn, 1) := by decide +kernel
theorem dL_law_867 : decode cL_law 867 = .ok (.iinc 3 5, 3) := by decide +kernel
theorem dL_law_870 : decode cL_law 870 = .ok (.goto (-852), 3) := by decide +kernel
theorem dL_law_873 : decode cL_law 873 = .ok (.iconst 1, 1) := by decide +kernel
theorem dL_law_874 : decode cL_law 874 = .ok (.ireturn, 1) := by decide +kernel
