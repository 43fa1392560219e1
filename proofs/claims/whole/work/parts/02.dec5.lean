theorem dX11_minute_118 : decode cX11_minute 118 = .ok (.iload_n 2, 1) := by decide +kernel
theorem dX11_minute_119 : decode cX11_minute 119 = .ok (.invokevirtual 156, 3) := by decide +kernel
theorem dX11_minute_122 : decode cX11_minute 122 = .ok (.iinc 2 1, 3) := by decide +kernel
theorem dX11_minute_125 : decode cX11_minute 125 = .ok (.goto (-18), 3) := by decide +kernel
theorem dX11_minute_128 : decode cX11_minute 128 = .ok (.iinc 1 1, 3) := by decide +kernel
theorem dX11_minute_131 : decode cX11_minute 131 = .ok (.goto (-34), 3) := by decide +kernel
theorem dX11_minute_134 : decode cX11_minute 134 = .ok (.iconst 0, 1) := by decide +kernel
theorem dX11_minute_135 : decode cX11_minute 135 = .ok (.istore_n 1, 1) := by decide +kernel
theorem dX11_minute_136 : decode cX11_minute 136 = .ok (.iload_n 1, 1) := by decide +kernel
theorem dX11_minute_137 : decode cX11_minute 137 = .ok (.aload_n 0, 1) := by decide +kernel
theorem dX11_minute_138 : decode cX11_minute 138 = .ok (.getfield 93, 3) := by decide +kernel
theorem dX11_minute_141 : decode cX11_minute 141 = .ok (.if_icmp .ge 81, 3) := by decide +kernel
theorem dX11_minute_144 : decode cX11_minute 144 = .ok (.aload_n 0, 1) := by decide +kernel
theorem dX11_minute_145 : decode cX11_minute 145 = .ok (.getfield 9, 3) := by decide +kernel
theorem dX11_minute_148 : decode cX11_minute 148 = .ok (.iload_n 1, 1) := by decide +kernel
theorem dX11_minute_149 : decode cX11_minute 149 = .ok (.iaload, 1) := by decide +kernel
theorem dX11_minute_150 : decode cX11_minute 150 = .ok (.ifCond .ne 66, 3) := by decide +kernel
theorem dX11_minute_153 : decode cX11_minute 153 = .ok (.aload_n 0, 1) := by decide +kernel
theorem dX11_minute_154 : decode cX11_minute 154 = .ok (.getfield 37, 3) := by decide +kernel
theorem dX11_minute_157 : decode cX11_minute 157 = .ok (.iload_n 1, 1) := by decide +kernel
theorem dX11_minute_158 : decode cX11_minute 158 = .ok (.iaload, 1) := by decide +kernel
theorem dX11_minute_159 : decode cX11_minute 159 = .ok (.ifCond .ge 6, 3) := by decide +kernel
theorem dX11_minute_162 : decode cX11_minute 162 = .ok (.goto 54, 3) := by decide +kernel
theorem dX11_minute_165 : decode cX11_minute 165 = .ok (.aload_n 0, 1) := by decide +kernel
theorem dX11_minute_166 : decode cX11_minute 166 = .ok (.aload_n 0, 1) := by decide +kernel
theorem dX11_minute_167 : decode cX11_minute 167 = .ok (.getfield 37, 3) := by decide +kernel
theorem dX11_minute_170 : decode cX11_minute 170 = .ok (.iload_n 1, 1) := by decide +kernel
theorem dX11_minute_171 : decode cX11_minute 171 = .ok (.iaload, 1) := by decide +kernel
theorem dX11_minute_172 : decode cX11_minute 172 = .ok (.invokevirtual 159, 3) := by decide +kernel
theorem dX11_minute_175 : decode cX11_minute 175 = .ok (.istore_n 2, 1) := by decide +kernel
theorem dX11_minute_176 : decode cX11_minute 176 = .ok (.aload_n 0, 1) := by decide +kernel
theorem dX11_minute_177 : decode cX11_minute 177 = .ok (.getfield 46, 3) := by decide +kernel
theorem dX11_minute_180 : decode cX11_minute 180 = .ok (.iload_n 1, 1) := by decide +kernel
theorem dX11_minute_181 : decode cX11_minute 181 = .ok (.iload_n 2, 1) := by decide +kernel
theorem dX11_minute_182 : decode cX11_minute 182 = .ok (.aload_n 0, 1) := by decide +kernel
theorem dX11_minute_183 : decode cX11_minute 183 = .ok (.getfield 40, 3) := by decide +kernel
theorem dX11_minute_186 : decode cX11_minute 186 = .ok (.iload_n 1, 1) := by decide +kernel
theorem dX11_minute_187 : decode cX11_minute 187 = .ok (.iaload, 1) := by decide +kernel
theorem dX11_minute_188 : decode cX11_minute 188 = .ok (.if_icmp .gt 26, 3) := by decide +kernel
theorem dX11_minute_191 : decode cX11_minute 191 = .ok (.iload_n 2, 1) := by decide +kernel
theorem dX11_minute_192 : decode cX11_minute 192 = .ok (.aload_n 0, 1) := by decide +kernel
theorem dX11_minute_193 : decode cX11_minute 193 = .ok (.getfield 43, 3) := by decide +kernel
theorem dX11_minute_196 : decode cX11_minute 196 = .ok (.iload_n 1, 1) := by decide +kernel
theorem dX11_minute_197 : decode cX11_minute 197 = .ok (.iaload, 1) := by decide +kernel
theorem dX11_minute_198 : decode cX11_minute 198 = .ok (.if_icmp .lt 12, 3) := by decide +kernel
theorem dX11_minute_201 : decode cX11_minute 201 = .ok (.aload_n 0, 1) := by decide +kernel
theorem dX11_minute_202 : decode cX11_minute 202 = .ok (.getfield 46, 3) := by decide +kernel
theorem dX11_minute_205 : decode cX11_minute 205 = .ok (.iload_n 1, 1) := by decide +kernel
theorem dX11_minute_206 : decode cX11_minute 206 = .ok (.baload, 1) := by decide +kernel
theorem dX11_minute_207 : decode cX11_minute 207 = .ok (.ifCond .eq 7, 3) := by decide +kernel
theorem dX11_minute_210 : decode cX11_minute 210 = .ok (.iconst 1, 1) := by decide +kernel
theorem dX11_minute_211 : decode cX11_minute 211 = .ok (.goto 4, 3) := by decide +kernel
theorem dX11_minute_214 : decode cX11_minute 214 = .ok (.iconst 0, 1) := by decide +kernel
theorem dX11_minute_215 : decode cX11_minute 215 = .ok (.bastore, 1) := by decide +kernel
theorem dX11_minute_216 : decode cX11_minute 216 = .ok (.iinc 1 1, 3) := by decide +kernel
theorem dX11_minute_219 : decode cX11_minute 219 = .ok (.goto (-83), 3) := by decide +kernel
theorem dX11_minute_222 : decode cX11_minute 222 = .ok (.aload_n 0, 1) := by decide +kernel
theorem dX11_minute_223 : decode cX11_minute 223 = .ok (.dup, 1) := by decide +kernel
theorem dX11_minute_224 : decode cX11_minute 224 = .ok (.getfield 162, 3) := by decide +kernel
theorem dX11_minute_227 : decode cX11_minute 227 = .ok (.iconst 1, 1) := by decide +kernel
theorem dX11_minute_228 : decode cX11_minute 228 = .ok (.iadd, 1) := by decide +kernel
theorem dX11_minute_229 : decode cX11_minute 229 = .ok (.putfield 162, 3) := by decide +kernel
theorem dX11_minute_232 : decode cX11_minute 232 = .ok (.return_, 1) := by decide +kernel
theorem dX11_run_0 : decode cX11_run 0 = .ok (.iload_n 1, 1) := by decide +kernel
theorem dX11_run_1 : decode cX11_run 1 = .ok (.iconst 1, 1) := by decide +kernel
theorem dX11_run_2 : decode cX11_run 2 = .ok (.bipush 60, 2) := by decide +kernel
theorem dX11_run_4 : decode cX11_run 4 = .ok (.invokestatic 97, 3) := by decide +kernel
theorem dX11_run_7 : decode cX11_run 7 = .ok (.ifCond .ne 6, 3) := by decide +kernel
theorem dX11_run_10 : decode cX11_run 10 = .ok (.bipush (-2), 2) := by decide +kernel
theorem dX11_run_12 : decode cX11_run 12 = .ok (.ireturn, 1) := by decide +kernel
theorem dX11_run_13 : decode cX11_run 13 = .ok (.aload_n 0, 1) := by decide +kernel
theorem dX11_run_14 : decode cX11_run 14 = .ok (.getfield 162, 3) := by decide +kernel
theorem dX11_run_17 : decode cX11_run 17 = .ok (.iload_n 1, 1) := by decide +kernel
theorem dX11_run_18 : decode cX11_run 18 = .ok (.iadd, 1) := by decide +kernel
theorem dX11_run_19 : decode cX11_run 19 = .ok (.sipush 3000, 3) := by decide +kernel
theorem dX11_run_22 : decode cX11_run 22 = .ok (.if_icmp .le 6, 3) := by decide +kernel
theorem dX11_run_25 : decode cX11_run 25 = .ok (.bipush (-4), 2) := by decide +kernel
theorem dX11_run_27 : decode cX11_run 27 = .ok (.ireturn, 1) := by decide +kernel
theorem dX11_run_28 : decode cX11_run 28 = .ok (.iconst 0, 1) := by decide +kernel
theorem dX11_run_29 : decode cX11_run 29 = .ok (.istore_n 2, 1) := by decide +kernel
theorem dX11_run_30 : decode cX11_run 30 = .ok (.iload_n 2, 1) := by decide +kernel
theorem dX11_run_31 : decode cX11_run 31 = .ok (.iload_n 1, 1) := by decide +kernel
theorem dX11_run_32 : decode cX11_run 32 = .ok (.if_icmp .ge 13, 3) := by decide +kernel
theorem dX11_run_35 : decode cX11_run 35 = .ok (.aload_n 0, 1) := by decide +kernel
theorem dX11_run_36 : decode cX11_run 36 = .ok (.invokevirtual 165, 3) := by decide +kernel
theorem dX11_run_39 : decode cX11_run 39 = .ok (.iinc 2 1, 3) := by decide +kernel
theorem dX11_run_42 : decode cX11_run 42 = .ok (.goto (-12), 3) := by decide +kernel
theorem dX11_run_45 : decode cX11_run 45 = .ok (.aload_n 0, 1) := by decide +kernel
theorem dX11_run_46 : decode cX11_run 46 = .ok (.getfield 162, 3) := by decide +kernel
theorem dX11_run_49 : decode cX11_run 49 = .ok (.ireturn, 1) := by decide +kernel
theorem dX11_hold_0 : decode cX11_hold 0 = .ok (.aload_n 0, 1) := by decide +kernel
theorem dX11_hold_1 : decode cX11_hold 1 = .ok (.iload_n 1, 1) := by decide +kernel
theorem dX11_hold_2 : decode cX11_hold 2 = .ok (.invokevirtual 101, 3) := by decide +kernel
theorem dX11_hold_5 : decode cX11_hold 5 = .ok (.ifCond .eq 26, 3) := by decide +kernel
theorem dX11_hold_8 : decode cX11_hold 8 = .ok (.iload_n 2, 1) := by decide +kernel
theorem dX11_hold_9 : decode cX11_hold 9 = .ok (.iconst 0, 1) := by decide +kernel
theorem dX11_hold_10 : decode cX11_hold 10 = .ok (.bipush 7, 2) := by decide +kernel
theorem dX11_hold_12 : decode cX11_hold 12 = .ok (.invokestatic 97, 3) := by decide +kernel
theorem dX11_hold_15 : decode cX11_hold 15 = .ok (.ifCond .eq 16, 3) := by decide +kernel
theorem dX11_hold_18 : decode cX11_hold 18 = .ok (.aload_n 0, 1) := by decide +kernel
theorem dX11_hold_19 : decode cX11_hold 19 = .ok (.getfield 16, 3) := by decide +kernel
theorem dX11_hold_22 : decode cX11_hold 22 = .ok (.iload_n 1, 1) := by decide +kernel
theorem dX11_hold_23 : decode cX11_hold 23 = .ok (.iload_n 2, 1) := by decide +kernel
theorem dX11_hold_24 : decode cX11_hold 24 = .ok (.invokestatic 121, 3) := by decide +kernel
theorem dX11_hold_27 : decode cX11_hold 27 = .ok (.iaload, 1) := by decide +kernel
theorem dX11_hold_28 : decode cX11_hold 28 = .ok (.goto 4, 3) := by decide +kernel
theorem dX11_hold_31 : decode cX11_hold 31 = .ok (.iconst (-1), 1) := by decide +kernel
theorem dX11_hold_32 : decode cX11_hold 32 = .ok (.ireturn, 1) := by decide +kernel
theorem dX11_gave_0 : decode cX11_gave 0 = .ok (.iconst 0, 1) := by decide +kernel
theorem dX11_gave_1 : decode cX11_gave 1 = .ok (.istore_n 3, 1) := by decide +kernel
theorem dX11_gave_2 : decode cX11_gave 2 = .ok (.iconst 0, 1) := by decide +kernel
theorem dX11_gave_3 : decode cX11_gave 3 = .ok (.istore 4, 2) := by decide +kernel
theorem dX11_gave_5 : decode cX11_gave 5 = .ok (.iload 4, 2) := by decide +kernel
theorem dX11_gave_7 : decode cX11_gave 7 = .ok (.bipush 8, 2) := by decide +kernel
theorem dX11_gave_9 : decode cX11_gave 9 = .ok (.if_icmp .ge 25, 3) := by decide +kernel
theorem dX11_gave_12 : decode cX11_gave 12 = .ok (.iload_n 3, 1) := by decide +kernel
theorem dX11_gave_13 : decode cX11_gave 13 = .ok (.aload_n 0, 1) := by decide +kernel
theorem dX11_gave_14 : decode cX11_gave 14 = .ok (.getfield 65, 3) := by decide +kernel
theorem dX11_gave_17 : decode cX11_gave 17 = .ok (.aload_n 0, 1) := by decide +kernel
theorem dX11_gave_18 : decode cX11_gave 18 = .ok (.iload_n 1, 1) := by decide +kernel
theorem dX11_gave_19 : decode cX11_gave 19 = .ok (.iload_n 2, 1) := by decide +kernel
theorem dX11_gave_20 : decode cX11_gave 20 = .ok (.iload 4, 2) := by decide +kernel
theorem dX11_gave_22 : decode cX11_gave 22 = .ok (.invokevirtual 117, 3) := by decide +kernel
theorem dX11_gave_25 : decode cX11_gave 25 = .ok (.iaload, 1) := by decide +kernel
theorem dX11_gave_26 : decode cX11_gave 26 = .ok (.iadd, 1) := by decide +kernel
theorem dX11_gave_27 : decode cX11_gave 27 = .ok (.istore_n 3, 1) := by decide +kernel
theorem dX11_gave_28 : decode cX11_gave 28 = .ok (.iinc 4 1, 3) := by decide +kernel
theorem dX11_gave_31 : decode cX11_gave 31 = .ok (.goto (-26), 3) := by decide +kernel
theorem dX11_gave_34 : decode cX11_gave 34 = .ok (.iload_n 3, 1) := by decide +kernel
theorem dX11_gave_35 : decode cX11_gave 35 = .ok (.ireturn, 1) := by decide +kernel
theorem dX11_lotSums_0 : decode cX11_lotSums 0 = .ok (.iconst 0, 1) := by decide +kernel
theorem dX11_lotSums_1 : decode cX11_lotSums 1 = .ok (.istore_n 2, 1) := by decide +kernel
theorem dX11_lotSums_2 : decode cX11_lotSums 2 = .ok (.iconst 0, 1) := by decide +kernel
theorem dX11_lotSums_3 : decode cX11_lotSums 3 = .ok (.istore_n 3, 1) := by decide +kernel
theorem dX11_lotSums_4 : decode cX11_lotSums 4 = .ok (.iload_n 3, 1) := by decide +kernel
theorem dX11_lotSums_5 : decode cX11_lotSums 5 = .ok (.aload_n 0, 1) := by decide +kernel
theorem dX11_lotSums_6 : decode cX11_lotSums 6 = .ok (.getfield 59, 3) := by decide +kernel
theorem dX11_lotSums_9 : decode cX11_lotSums 9 = .ok (.iload_n 1, 1) := by decide +kernel
theorem dX11_lotSums_10 : decode cX11_lotSums 10 = .ok (.iaload, 1) := by decide +kernel
theorem dX11_lotSums_11 : decode cX11_lotSums 11 = .ok (.if_icmp .ge 18, 3) := by decide +kernel
theorem dX11_lotSums_14 : decode cX11_lotSums 14 = .ok (.iload_n 2, 1) := by decide +kernel
theorem dX11_lotSums_15 : decode cX11_lotSums 15 = .ok (.aload_n 0, 1) := by decide +kernel
theorem dX11_lotSums_16 : decode cX11_lotSums 16 = .ok (.iload_n 1, 1) := by decide +kernel
theorem dX11_lotSums_17 : decode cX11_lotSums 17 = .ok (.iload_n 3, 1) := by decide +kernel
theorem dX11_lotSums_18 : decode cX11_lotSums 18 = .ok (.invokevirtual 150, 3) := by decide +kernel
theorem dX11_lotSums_21 : decode cX11_lotSums 21 = .ok (.iadd, 1) := by decide +kernel
theorem dX11_lotSums_22 : decode cX11_lotSums 22 = .ok (.istore_n 2, 1) := by decide +kernel
theorem dX11_lotSums_23 : decode cX11_lotSums 23 = .ok (.iinc 3 1, 3) := by decide +kernel
theorem dX11_lotSums_26 : decode cX11_lotSums 26 = .ok (.goto (-22), 3) := by decide +kernel
theorem dX11_lotSums_29 : decode cX11_lotSums 29 = .ok (.iload_n 2, 1) := by decide +kernel
theorem dX11_lotSums_30 : decode cX11_lotSums 30 = .ok (.ireturn, 1) := by decide +kernel
theorem dX11_about_0 : decode cX11_about 0 = .ok (.aload_n 0, 1) := by decide +kernel
theorem dX11_about_1 : decode cX11_about 1 = .ok (.iload_n 1, 1) := by decide +kernel
theorem dX11_about_2 : decode cX11_about 2 = .ok (.invokevirtual 101, 3) := by decide +kernel
theorem dX11_about_5 : decode cX11_about 5 = .ok (.ifCond .ne 5, 3) := by decide +kernel
theorem dX11_about_8 : decode cX11_about 8 = .ok (.iconst (-1), 1) := by decide +kernel
theorem dX11_about_9 : decode cX11_about 9 = .ok (.ireturn, 1) := by decide +kernel
theorem dX11_about_10 : decode cX11_about 10 = .ok (.iload_n 2, 1) := by decide +kernel
theorem dX11_about_11 : decode cX11_about 11 = .ok (.tableswitch 157 0 10 #[57, 64, 70, 88, 94, 101, 110, 121, 136, 143, 150], 57) := by decide +kernel
theorem dX11_about_68 : decode cX11_about 68 = .ok (.aload_n 0, 1) := by decide +kernel
theorem dX11_about_69 : decode cX11_about 69 = .ok (.getfield 9, 3) := by decide +kernel
theorem dX11_about_72 : decode cX11_about 72 = .ok (.iload_n 1, 1) := by decide +kernel
theorem dX11_about_73 : decode cX11_about 73 = .ok (.iaload, 1) := by decide +kernel
theorem dX11_about_74 : decode cX11_about 74 = .ok (.ireturn, 1) := by decide +kernel
theorem dX11_about_75 : decode cX11_about 75 = .ok (.aload_n 0, 1) := by decide +kernel
theorem dX11_about_76 : decode cX11_about 76 = .ok (.iload_n 1, 1) := by decide +kernel
theorem dX11_about_77 : decode cX11_about 77 = .ok (.invokevirtual 147, 3) := by decide +kernel
theorem dX11_about_80 : decode cX11_about 80 = .ok (.ireturn, 1) := by decide +kernel
theorem dX11_about_81 : decode cX11_about 81 = .ok (.aload_n 0, 1) := by decide +kernel
theorem dX11_about_82 : decode cX11_about 82 = .ok (.iload_n 1, 1) := by decide +kernel
theorem dX11_about_83 : decode cX11_about 83 = .ok (.invokevirtual 159, 3) := by decide +kernel
theorem dX11_about_86 : decode cX11_about 86 = .ok (.aload_n 0, 1) := by decide +kernel
theorem dX11_about_87 : decode cX11_about 87 = .ok (.iload_n 1, 1) := by decide +kernel
theorem dX11_about_88 : decode cX11_about 88 = .ok (.invokevirtual 147, 3) := by decide +kernel
theorem dX11_about_91 : decode cX11_about 91 = .ok (.isub, 1) := by decide +kernel
theorem dX11_about_92 : decode cX11_about 92 = .ok (.aload_n 0, 1) := by decide +kernel
theorem dX11_about_93 : decode cX11_about 93 = .ok (.iload_n 1, 1) := by decide +kernel
theorem dX11_about_94 : decode cX11_about 94 = .ok (.invokevirtual 168, 3) := by decide +kernel
theorem dX11_about_97 : decode cX11_about 97 = .ok (.isub, 1) := by decide +kernel
theorem dX11_about_98 : decode cX11_about 98 = .ok (.ireturn, 1) := by decide +kernel
theorem dX11_about_99 : decode cX11_about 99 = .ok (.aload_n 0, 1) := by decide +kernel
theorem dX11_about_100 : decode cX11_about 100 = .ok (.iload_n 1, 1) := by decide +kernel
theorem dX11_about_101 : decode cX11_about 101 = .ok (.invokevirtual 168, 3) := by decide +kernel
theorem dX11_about_104 : decode cX11_about 104 = .ok (.ireturn, 1) := by decide +kernel
theorem dX11_about_105 : decode cX11_about 105 = .ok (.aload_n 0, 1) := by decide +kernel
theorem dX11_about_106 : decode cX11_about 106 = .ok (.getfield 59, 3) := by decide +kernel
theorem dX11_about_109 : decode cX11_about 109 = .ok (.iload_n 1, 1) := by decide +kernel
theorem dX11_about_110 : decode cX11_about 110 = .ok (.iaload, 1) := by decide +kernel
theorem dX11_about_111 : decode cX11_about 111 = .ok (.ireturn, 1) := by decide +kernel
theorem dX11_about_112 : decode cX11_about 112 = .ok (.aload_n 0, 1) := by decide +kernel
theorem dX11_about_113 : decode cX11_about 113 = .ok (.getfield 13, 3) := by decide +kernel
theorem dX11_about_116 : decode cX11_about 116 = .ok (.iconst 2, 1) := by decide +kernel
theorem dX11_about_117 : decode cX11_about 117 = .ok (.iload_n 1, 1) := by decide +kernel
theorem dX11_about_118 : decode cX11_about 118 = .ok (.imul, 1) := by decide +kernel
theorem dX11_about_119 : decode cX11_about 119 = .ok (.iaload, 1) := by decide +kernel
theorem dX11_about_120 : decode cX11_about 120 = .ok (.ireturn, 1) := by decide +kernel
theorem dX11_about_121 : decode cX11_about 121 = .ok (.aload_n 0, 1) := by decide +kernel
theorem dX11_about_122 : decode cX11_about 122 = .ok (.getfield 13, 3) := by decide +kernel
theorem dX11_about_125 : decode cX11_about 125 = .ok (.iconst 2, 1) := by decide +kernel
theorem dX11_about_126 : decode cX11_about 126 = .ok (.iload_n 1, 1) := by decide +kernel
theorem dX11_about_127 : decode cX11_about 127 = .ok (.imul, 1) := by decide +kernel
theorem dX11_about_128 : decode cX11_about 128 = .ok (.iconst 1, 1) := by decide +kernel
theorem dX11_about_129 : decode cX11_about 129 = .ok (.iadd, 1) := by decide +kernel
theorem dX11_about_130 : decode cX11_about 130 = .ok (.iaload, 1) := by decide +kernel
theorem dX11_about_131 : decode cX11_about 131 = .ok (.ireturn, 1) := by decide +kernel
theorem dX11_about_132 : decode cX11_about 132 = .ok (.aload_n 0, 1) := by decide +kernel
theorem dX11_about_133 : decode cX11_about 133 = .ok (.getfield 46, 3) := by decide +kernel
theorem dX11_about_136 : decode cX11_about 136 = .ok (.iload_n 1, 1) := by decide +kernel
theorem dX11_about_137 : decode cX11_about 137 = .ok (.baload, 1) := by decide +kernel
theorem dX11_about_138 : decode cX11_about 138 = .ok (.ifCond .eq 7, 3) := by decide +kernel
theorem dX11_about_141 : decode cX11_about 141 = .ok (.iconst 1, 1) := by decide +kernel
theorem dX11_about_142 : decode cX11_about 142 = .ok (.goto 4, 3) := by decide +kernel
theorem dX11_about_145 : decode cX11_about 145 = .ok (.iconst 0, 1) := by decide +kernel
theorem dX11_about_146 : decode cX11_about 146 = .ok (.ireturn, 1) := by decide +kernel
theorem dX11_about_147 : decode cX11_about 147 = .ok (.aload_n 0, 1) := by decide +kernel
theorem dX11_about_148 : decode cX11_about 148 = .ok (.iload_n 1, 1) := by decide +kernel
theorem dX11_about_149 : decode cX11_about 149 = .ok (.invokevirtual 171, 3) := by decide +kernel
theorem dX11_about_152 : decode cX11_about 152 = .ok (.l2i, 1) := by decide +kernel
theorem dX11_about_153 : decode cX11_about 153 = .ok (.ireturn, 1) := by decide +kernel
theorem dX11_about_154 : decode cX11_about 154 = .ok (.aload_n 0, 1) := by decide +kernel
theorem dX11_about_155 : decode cX11_about 155 = .ok (.iload_n 1, 1) := by decide +kernel
theorem dX11_about_156 : decode cX11_about 156 = .ok (.iconst 0, 1) := by decide +kernel
theorem dX11_about_157 : decode cX11_about 157 = .ok (.invokevirtual 175, 3) := by decide +kernel
theorem dX11_about_160 : decode cX11_about 160 = .ok (.ireturn, 1) := by decide +kernel
theorem dX11_about_161 : decode cX11_about 161 = .ok (.aload_n 0, 1) := by decide +kernel
theorem dX11_about_162 : decode cX11_about 162 = .ok (.iload_n 1, 1) := by decide +kernel
theorem dX11_about_163 : decode cX11_about 163 = .ok (.iconst 1, 1) := by decide +kernel
theorem dX11_about_164 : decode cX11_about 164 = .ok (.invokevirtual 175, 3) := by decide +kernel
theorem dX11_about_167 : decode cX11_about 167 = .ok (.ireturn, 1) := by decide +kernel
theorem dX11_about_168 : decode cX11_about 168 = .ok (.iconst (-1), 1) := by decide +kernel
theorem dX11_about_169 : decode cX11_about 169 = .ok (.ireturn, 1) := by decide +kernel
theorem dX11_spiltOf_0 : decode cX11_spiltOf 0 = .ok (.lconst 0, 1) := by decide +kernel
theorem dX11_spiltOf_1 : decode cX11_spiltOf 1 = .ok (.lstore_n 2, 1) := by decide +kernel
theorem dX11_spiltOf_2 : decode cX11_spiltOf 2 = .ok (.iconst 0, 1) := by decide +kernel
theorem dX11_spiltOf_3 : decode cX11_spiltOf 3 = .ok (.istore 4, 2) := by decide +kernel
theorem dX11_spiltOf_5 : decode cX11_spiltOf 5 = .ok (.iload 4, 2) := by decide +kernel
theorem dX11_spiltOf_7 : decode cX11_spiltOf 7 = .ok (.bipush 8, 2) := by decide +kernel
theorem dX11_spiltOf_9 : decode cX11_spiltOf 9 = .ok (.if_icmp .ge 23, 3) := by decide +kernel
theorem dX11_spiltOf_12 : decode cX11_spiltOf 12 = .ok (.lload_n 2, 1) := by decide +kernel
theorem dX11_spiltOf_13 : decode cX11_spiltOf 13 = .ok (.aload_n 0, 1) := by decide +kernel
theorem dX11_spiltOf_14 : decode cX11_spiltOf 14 = .ok (.getfield 72, 3) := by decide +kernel
theorem dX11_spiltOf_17 : decode cX11_spiltOf 17 = .ok (.iload_n 1, 1) := by decide +kernel
theorem dX11_spiltOf_18 : decode cX11_spiltOf 18 = .ok (.iload 4, 2) := by decide +kernel
theorem dX11_spiltOf_20 : decode cX11_spiltOf 20 = .ok (.invokestatic 121, 3) := by decide +kernel
theorem dX11_spiltOf_23 : decode cX11_spiltOf 23 = .ok (.laload, 1) := by decide +kernel
theorem dX11_spiltOf_24 : decode cX11_spiltOf 24 = .ok (.ladd, 1) := by decide +kernel
theorem dX11_spiltOf_25 : decode cX11_spiltOf 25 = .ok (.lstore_n 2, 1) := by decide +kernel
theorem dX11_spiltOf_26 : decode cX11_spiltOf 26 = .ok (.iinc 4 1, 3) := by decide +kernel
theorem dX11_spiltOf_29 : decode cX11_spiltOf 29 = .ok (.goto (-24), 3) := by decide +kernel
theorem dX11_spiltOf_32 : decode cX11_spiltOf 32 = .ok (.lload_n 2, 1) := by decide +kernel
theorem dX11_spiltOf_33 : decode cX11_spiltOf 33 = .ok (.lreturn, 1) := by decide +kernel
theorem dX11_told_0 : decode cX11_told 0 = .ok (.aload_n 0, 1) := by decide +kernel
theorem dX11_told_1 : decode cX11_told 1 = .ok (.iload_n 1, 1) := by decide +kernel
theorem dX11_told_2 : decode cX11_told 2 = .ok (.invokevirtual 101, 3) := by decide +kernel
theorem dX11_told_5 : decode cX11_told 5 = .ok (.ifCond .ne 5, 3) := by decide +kernel
theorem dX11_told_8 : decode cX11_told 8 = .ok (.iconst (-1), 1) := by decide +kernel
theorem dX11_told_9 : decode cX11_told 9 = .ok (.ireturn, 1) := by decide +kernel
theorem dX11_told_10 : decode cX11_told 10 = .ok (.aload_n 0, 1) := by decide +kernel
theorem dX11_told_11 : decode cX11_told 11 = .ok (.getfield 9, 3) := by decide +kernel
theorem dX11_told_14 : decode cX11_told 14 = .ok (.iload_n 1, 1) := by decide +kernel
theorem dX11_told_15 : decode cX11_told 15 = .ok (.iaload, 1) := by decide +kernel
theorem dX11_told_16 : decode cX11_told 16 = .ok (.ifCond .ne 28, 3) := by decide +kernel
theorem dX11_told_19 : decode cX11_told 19 = .ok (.iload_n 2, 1) := by decide +kernel
theorem dX11_told_20 : decode cX11_told 20 = .ok (.iconst 0, 1) := by decide +kernel
theorem dX11_told_21 : decode cX11_told 21 = .ok (.bipush 7, 2) := by decide +kernel
theorem dX11_told_23 : decode cX11_told 23 = .ok (.invokestatic 97, 3) := by decide +kernel
theorem dX11_told_26 : decode cX11_told 26 = .ok (.ifCond .eq 16, 3) := by decide +kernel
theorem dX11_told_29 : decode cX11_told 29 = .ok (.aload_n 0, 1) := by decide +kernel
theorem dX11_told_30 : decode cX11_told 30 = .ok (.getfield 19, 3) := by decide +kernel
theorem dX11_told_33 : decode cX11_told 33 = .ok (.iload_n 1, 1) := by decide +kernel
theorem dX11_told_34 : decode cX11_told 34 = .ok (.iload_n 2, 1) := by decide +kernel
theorem dX11_told_35 : decode cX11_told 35 = .ok (.invokestatic 121, 3) := by decide +kernel
theorem dX11_told_38 : decode cX11_told 38 = .ok (.iaload, 1) := by decide +kernel
theorem dX11_told_39 : decode cX11_told 39 = .ok (.goto 4, 3) := by decide +kernel
theorem dX11_told_42 : decode cX11_told 42 = .ok (.iconst (-1), 1) := by decide +kernel
theorem dX11_told_43 : decode cX11_told 43 = .ok (.ireturn, 1) := by decide +kernel
theorem dX11_told_44 : decode cX11_told 44 = .ok (.aload_n 0, 1) := by decide +kernel
theorem dX11_told_45 : decode cX11_told 45 = .ok (.getfield 9, 3) := by decide +kernel
theorem dX11_told_48 : decode cX11_told 48 = .ok (.iload_n 1, 1) := by decide +kernel
theorem dX11_told_49 : decode cX11_told 49 = .ok (.iaload, 1) := by decide +kernel
theorem dX11_told_50 : decode cX11_told 50 = .ok (.iconst 2, 1) := by decide +kernel
theorem dX11_told_51 : decode cX11_told 51 = .ok (.if_icmp .ne 29, 3) := by decide +kernel
theorem dX11_told_54 : decode cX11_told 54 = .ok (.iload_n 2, 1) := by decide +kernel
theorem dX11_told_55 : decode cX11_told 55 = .ok (.iconst 0, 1) := by decide +kernel
theorem dX11_told_56 : decode cX11_told 56 = .ok (.bipush 15, 2) := by decide +kernel
theorem dX11_told_58 : decode cX11_told 58 = .ok (.invokestatic 97, 3) := by decide +kernel
theorem dX11_told_61 : decode cX11_told 61 = .ok (.ifCond .eq 17, 3) := by decide +kernel
theorem dX11_told_64 : decode cX11_told 64 = .ok (.aload_n 0, 1) := by decide +kernel
theorem dX11_told_65 : decode cX11_told 65 = .ok (.getfield 22, 3) := by decide +kernel
theorem dX11_told_68 : decode cX11_told 68 = .ok (.bipush 16, 2) := by decide +kernel
theorem dX11_told_70 : decode cX11_told 70 = .ok (.iload_n 1, 1) := by decide +kernel
theorem dX11_told_71 : decode cX11_told 71 = .ok (.imul, 1) := by decide +kernel
theorem dX11_told_72 : decode cX11_told 72 = .ok (.iload_n 2, 1) := by decide +kernel
theorem dX11_told_73 : decode cX11_told 73 = .ok (.iadd, 1) := by decide +kernel
theorem dX11_told_74 : decode cX11_told 74 = .ok (.iaload, 1) := by decide +kernel
theorem dX11_told_75 : decode cX11_told 75 = .ok (.goto 4, 3) := by decide +kernel
theorem dX11_told_78 : decode cX11_told 78 = .ok (.iconst (-1), 1) := by decide +kernel
theorem dX11_told_79 : decode cX11_told 79 = .ok (.ireturn, 1) := by decide +kernel
theorem dX11_told_80 : decode cX11_told 80 = .ok (.iload_n 2, 1) := by decide +kernel
theorem dX11_told_81 : decode cX11_told 81 = .ok (.iconst 0, 1) := by decide +kernel
theorem dX11_told_82 : decode cX11_told 82 = .ok (.aload_n 0, 1) := by decide +kernel
theorem dX11_told_83 : decode cX11_told 83 = .ok (.iload_n 1, 1) := by decide +kernel
theorem dX11_told_84 : decode cX11_told 84 = .ok (.invokevirtual 109, 3) := by decide +kernel
theorem dX11_told_87 : decode cX11_told 87 = .ok (.iconst 1, 1) := by decide +kernel
theorem dX11_told_88 : decode cX11_told 88 = .ok (.isub, 1) := by decide +kernel
theorem dX11_told_89 : decode cX11_told 89 = .ok (.invokestatic 97, 3) := by decide +kernel
theorem dX11_told_92 : decode cX11_told 92 = .ok (.ifCond .ne 5, 3) := by decide +kernel
theorem dX11_told_95 : decode cX11_told 95 = .ok (.iconst (-1), 1) := by decide +kernel
theorem dX11_told_96 : decode cX11_told 96 = .ok (.ireturn, 1) := by decide +kernel
theorem dX11_told_97 : decode cX11_told 97 = .ok (.aload_n 0, 1) := by decide +kernel
theorem dX11_told_98 : decode cX11_told 98 = .ok (.getfield 9, 3) := by decide +kernel
theorem dX11_told_101 : decode cX11_told 101 = .ok (.iload_n 1, 1) := by decide +kernel
theorem dX11_told_102 : decode cX11_told 102 = .ok (.iaload, 1) := by decide +kernel
theorem dX11_told_103 : decode cX11_told 103 = .ok (.iconst 5, 1) := by decide +kernel
theorem dX11_told_104 : decode cX11_told 104 = .ok (.if_icmp .ne 12, 3) := by decide +kernel
theorem dX11_told_107 : decode cX11_told 107 = .ok (.aload_n 0, 1) := by decide +kernel
theorem dX11_told_108 : decode cX11_told 108 = .ok (.getfield 31, 3) := by decide +kernel
theorem dX11_told_111 : decode cX11_told 111 = .ok (.iload_n 1, 1) := by decide +kernel
theorem dX11_told_112 : decode cX11_told 112 = .ok (.iaload, 1) := by decide +kernel
theorem dX11_told_113 : decode cX11_told 113 = .ok (.goto 33, 3) := by decide +kernel
theorem dX11_told_116 : decode cX11_told 116 = .ok (.aload_n 0, 1) := by decide +kernel
theorem dX11_told_117 : decode cX11_told 117 = .ok (.getfield 9, 3) := by decide +kernel
theorem dX11_told_120 : decode cX11_told 120 = .ok (.iload_n 1, 1) := by decide +kernel
theorem dX11_told_121 : decode cX11_told 121 = .ok (.iaload, 1) := by decide +kernel
theorem dX11_told_122 : decode cX11_told 122 = .ok (.bipush 6, 2) := by decide +kernel
theorem dX11_told_124 : decode cX11_told 124 = .ok (.if_icmp .ne 12, 3) := by decide +kernel
theorem dX11_told_127 : decode cX11_told 127 = .ok (.aload_n 0, 1) := by decide +kernel
theorem dX11_told_128 : decode cX11_told 128 = .ok (.getfield 34, 3) := by decide +kernel
theorem dX11_told_131 : decode cX11_told 131 = .ok (.iload_n 1, 1) := by decide +kernel
theorem dX11_told_132 : decode cX11_told 132 = .ok (.iaload, 1) := by decide +kernel
theorem dX11_told_133 : decode cX11_told 133 = .ok (.goto 13, 3) := by decide +kernel
theorem dX11_told_136 : decode cX11_told 136 = .ok (.aload_n 0, 1) := by decide +kernel
theorem dX11_told_137 : decode cX11_told 137 = .ok (.getfield 25, 3) := by decide +kernel
theorem dX11_told_140 : decode cX11_told 140 = .ok (.iconst 4, 1) := by decide +kernel
theorem dX11_told_141 : decode cX11_told 141 = .ok (.iload_n 1, 1) := by decide +kernel
theorem dX11_told_142 : decode cX11_told 142 = .ok (.imul, 1) := by decide +kernel
theorem dX11_told_143 : decode cX11_told 143 = .ok (.iload_n 2, 1) := by decide +kernel
theorem dX11_told_144 : decode cX11_told 144 = .ok (.iadd, 1) := by decide +kernel
theorem dX11_told_145 : decode cX11_told 145 = .ok (.iaload, 1) := by decide +kernel
theorem dX11_told_146 : decode cX11_told 146 = .ok (.ireturn, 1) := by decide +kernel
theorem dX11_within_0 : decode cX11_within 0 = .ok (.lconst 0, 1) := by decide +kernel
theorem dX11_within_1 : decode cX11_within 1 = .ok (.lstore_n 3, 1) := by decide +kernel
theorem dX11_within_2 : decode cX11_within 2 = .ok (.iload_n 2, 1) := by decide +kernel
theorem dX11_within_3 : decode cX11_within 3 = .ok (.istore 5, 2) := by decide +kernel
theorem dX11_within_5 : decode cX11_within 5 = .ok (.iload 5, 2) := by decide +kernel
theorem dX11_within_7 : decode cX11_within 7 = .ok (.bipush 8, 2) := by decide +kernel
theorem dX11_within_9 : decode cX11_within 9 = .ok (.if_icmp .ge 100, 3) := by decide +kernel
theorem dX11_within_12 : decode cX11_within 12 = .ok (.lload_n 3, 1) := by decide +kernel
theorem dX11_within_13 : decode cX11_within 13 = .ok (.aload_n 0, 1) := by decide +kernel
theorem dX11_within_14 : decode cX11_within 14 = .ok (.getfield 16, 3) := by decide +kernel
theorem dX11_within_17 : decode cX11_within 17 = .ok (.iload_n 1, 1) := by decide +kernel
theorem dX11_within_18 : decode cX11_within 18 = .ok (.iload 5, 2) := by decide +kernel
theorem dX11_within_20 : decode cX11_within 20 = .ok (.invokestatic 121, 3) := by decide +kernel
theorem dX11_within_23 : decode cX11_within 23 = .ok (.iaload, 1) := by decide +kernel
theorem dX11_within_24 : decode cX11_within 24 = .ok (.i2l, 1) := by decide +kernel
theorem dX11_within_25 : decode cX11_within 25 = .ok (.ladd, 1) := by decide +kernel
theorem dX11_within_26 : decode cX11_within 26 = .ok (.lstore_n 3, 1) := by decide +kernel
theorem dX11_within_27 : decode cX11_within 27 = .ok (.iconst 0, 1) := by decide +kernel
theorem dX11_within_28 : decode cX11_within 28 = .ok (.istore 6, 2) := by decide +kernel
theorem dX11_within_30 : decode cX11_within 30 = .ok (.iload 6, 2) := by decide +kernel
theorem dX11_within_32 : decode cX11_within 32 = .ok (.aload_n 0, 1) := by decide +kernel
theorem dX11_within_33 : decode cX11_within 33 = .ok (.getfield 50, 3) := by decide +kernel
theorem dX11_within_36 : decode cX11_within 36 = .ok (.iload_n 1, 1) := by decide +kernel
theorem dX11_within_37 : decode cX11_within 37 = .ok (.iaload, 1) := by decide +kernel
theorem dX11_within_38 : decode cX11_within 38 = .ok (.if_icmp .ge 27, 3) := by decide +kernel
theorem dX11_within_41 : decode cX11_within 41 = .ok (.lload_n 3, 1) := by decide +kernel
theorem dX11_within_42 : decode cX11_within 42 = .ok (.aload_n 0, 1) := by decide +kernel
theorem dX11_within_43 : decode cX11_within 43 = .ok (.getfield 53, 3) := by decide +kernel
theorem dX11_within_46 : decode cX11_within 46 = .ok (.aload_n 0, 1) := by decide +kernel
theorem dX11_within_47 : decode cX11_within 47 = .ok (.iload_n 1, 1) := by decide +kernel
theorem dX11_within_48 : decode cX11_within 48 = .ok (.iload 6, 2) := by decide +kernel
theorem dX11_within_50 : decode cX11_within 50 = .ok (.iload 5, 2) := by decide +kernel
theorem dX11_within_52 : decode cX11_within 52 = .ok (.invokevirtual 141, 3) := by decide +kernel
theorem dX11_within_55 : decode cX11_within 55 = .ok (.iaload, 1) := by decide +kernel
theorem dX11_within_56 : decode cX11_within 56 = .ok (.i2l, 1) := by decide +kernel
theorem dX11_within_57 : decode cX11_within 57 = .ok (.ladd, 1) := by decide +kernel
theorem dX11_within_58 : decode cX11_within 58 = .ok (.lstore_n 3, 1) := by decide +kernel
theorem dX11_within_59 : decode cX11_within 59 = .ok (.iinc 6 1, 3) := by decide +kernel
theorem dX11_within_62 : decode cX11_within 62 = .ok (.goto (-32), 3) := by decide +kernel
theorem dX11_within_65 : decode cX11_within 65 = .ok (.iconst 0, 1) := by decide +kernel
theorem dX11_within_66 : decode cX11_within 66 = .ok (.istore 6, 2) := by decide +kernel
theorem dX11_within_68 : decode cX11_within 68 = .ok (.iload 6, 2) := by decide +kernel
theorem dX11_within_70 : decode cX11_within 70 = .ok (.aload_n 0, 1) := by decide +kernel
theorem dX11_within_71 : decode cX11_within 71 = .ok (.getfield 59, 3) := by decide +kernel
theorem dX11_within_74 : decode cX11_within 74 = .ok (.iload_n 1, 1) := by decide +kernel
theorem dX11_within_75 : decode cX11_within 75 = .ok (.iaload, 1) := by decide +kernel
theorem dX11_within_76 : decode cX11_within 76 = .ok (.if_icmp .ge 27, 3) := by decide +kernel
theorem dX11_within_79 : decode cX11_within 79 = .ok (.lload_n 3, 1) := by decide +kernel
theorem dX11_within_80 : decode cX11_within 80 = .ok (.aload_n 0, 1) := by decide +kernel
theorem dX11_within_81 : decode cX11_within 81 = .ok (.getfield 62, 3) := by decide +kernel
theorem dX11_within_84 : decode cX11_within 84 = .ok (.aload_n 0, 1) := by decide +kernel
theorem dX11_within_85 : decode cX11_within 85 = .ok (.iload_n 1, 1) := by decide +kernel
theorem dX11_within_86 : decode cX11_within 86 = .ok (.iload 6, 2) := by decide +kernel
theorem dX11_within_88 : decode cX11_within 88 = .ok (.iload 5, 2) := by decide +kernel
theorem dX11_within_90 : decode cX11_within 90 = .ok (.invokevirtual 144, 3) := by decide +kernel
theorem dX11_within_93 : decode cX11_within 93 = .ok (.iaload, 1) := by decide +kernel
theorem dX11_within_94 : decode cX11_within 94 = .ok (.i2l, 1) := by decide +kernel
theorem dX11_within_95 : decode cX11_within 95 = .ok (.ladd, 1) := by decide +kernel
theorem dX11_within_96 : decode cX11_within 96 = .ok (.lstore_n 3, 1) := by decide +kernel
theorem dX11_within_97 : decode cX11_within 97 = .ok (.iinc 6 1, 3) := by decide +kernel
theorem dX11_within_100 : decode cX11_within 100 = .ok (.goto (-32), 3) := by decide +kernel
theorem dX11_within_103 : decode cX11_within 103 = .ok (.iinc 5 2, 3) := by decide +kernel
theorem dX11_within_106 : decode cX11_within 106 = .ok (.goto (-101), 3) := by decide +kernel
theorem dX11_within_109 : decode cX11_within 109 = .ok (.lload_n 3, 1) := by decide +kernel
theorem dX11_within_110 : decode cX11_within 110 = .ok (.lreturn, 1) := by decide +kernel
theorem dX11_sum_0 : decode cX11_sum 0 = .ok (.iload_n 1, 1) := by decide +kernel
theorem dX11_sum_1 : decode cX11_sum 1 = .ok (.iconst 0, 1) := by decide +kernel
theorem dX11_sum_2 : decode cX11_sum 2 = .ok (.iconst 1, 1) := by decide +kernel
theorem dX11_sum_3 : decode cX11_sum 3 = .ok (.invokestatic 97, 3) := by decide +kernel
theorem dX11_sum_6 : decode cX11_sum 6 = .ok (.ifCond .eq 12, 3) := by decide +kernel
theorem dX11_sum_9 : decode cX11_sum 9 = .ok (.iload_n 2, 1) := by decide +kernel
theorem dX11_sum_10 : decode cX11_sum 10 = .ok (.iconst 0, 1) := by decide +kernel
theorem dX11_sum_11 : decode cX11_sum 11 = .ok (.iconst 3, 1) := by decide +kernel
theorem dX11_sum_12 : decode cX11_sum 12 = .ok (.invokestatic 97, 3) := by decide +kernel
theorem dX11_sum_15 : decode cX11_sum 15 = .ok (.ifCond .ne 7, 3) := by decide +kernel
theorem dX11_sum_18 : decode cX11_sum 18 = .ok (.ldc2_w 178, 3) := by decide +kernel
theorem dX11_sum_21 : decode cX11_sum 21 = .ok (.lreturn, 1) := by decide +kernel
theorem dX11_sum_22 : decode cX11_sum 22 = .ok (.iload_n 2, 1) := by decide +kernel
theorem dX11_sum_23 : decode cX11_sum 23 = .ok (.ifCond .ne 10, 3) := by decide +kernel
theorem dX11_sum_26 : decode cX11_sum 26 = .ok (.aload_n 0, 1) := by decide +kernel
theorem dX11_sum_27 : decode cX11_sum 27 = .ok (.getfield 68, 3) := by decide +kernel
theorem dX11_sum_30 : decode cX11_sum 30 = .ok (.iload_n 1, 1) := by decide +kernel
theorem dX11_sum_31 : decode cX11_sum 31 = .ok (.laload, 1) := by decide +kernel
theorem dX11_sum_32 : decode cX11_sum 32 = .ok (.lreturn, 1) := by decide +kernel
theorem dX11_sum_33 : decode cX11_sum 33 = .ok (.lconst 0, 1) := by decide +kernel
theorem dX11_sum_34 : decode cX11_sum 34 = .ok (.lstore_n 3, 1) := by decide +kernel
theorem dX11_sum_35 : decode cX11_sum 35 = .ok (.iconst 0, 1) := by decide +kernel
theorem dX11_sum_36 : decode cX11_sum 36 = .ok (.istore 5, 2) := by decide +kernel
theorem dX11_sum_38 : decode cX11_sum 38 = .ok (.iload 5, 2) := by decide +kernel
theorem dX11_sum_40 : decode cX11_sum 40 = .ok (.aload_n 0, 1) := by decide +kernel
theorem dX11_sum_41 : decode cX11_sum 41 = .ok (.getfield 93, 3) := by decide +kernel
theorem dX11_sum_44 : decode cX11_sum 44 = .ok (.if_icmp .ge 76, 3) := by decide +kernel
theorem dX11_sum_47 : decode cX11_sum 47 = .ok (.iload_n 1, 1) := by decide +kernel
theorem dX11_sum_48 : decode cX11_sum 48 = .ok (.istore 6, 2) := by decide +kernel
theorem dX11_sum_50 : decode cX11_sum 50 = .ok (.iload 6, 2) := by decide +kernel
theorem dX11_sum_52 : decode cX11_sum 52 = .ok (.bipush 8, 2) := by decide +kernel
theorem dX11_sum_54 : decode cX11_sum 54 = .ok (.if_icmp .ge 29, 3) := by decide +kernel
theorem dX11_sum_57 : decode cX11_sum 57 = .ok (.iload_n 2, 1) := by decide +kernel
theorem dX11_sum_58 : decode cX11_sum 58 = .ok (.iconst 2, 1) := by decide +kernel
theorem dX11_sum_59 : decode cX11_sum 59 = .ok (.if_icmp .ne 24, 3) := by decide +kernel
theorem dX11_sum_62 : decode cX11_sum 62 = .ok (.lload_n 3, 1) := by decide +kernel
theorem dX11_sum_63 : decode cX11_sum 63 = .ok (.aload_n 0, 1) := by decide +kernel
theorem dX11_sum_64 : decode cX11_sum 64 = .ok (.getfield 72, 3) := by decide +kernel
theorem dX11_sum_67 : decode cX11_sum 67 = .ok (.iload 5, 2) := by decide +kernel
theorem dX11_sum_69 : decode cX11_sum 69 = .ok (.iload 6, 2) := by decide +kernel
theorem dX11_sum_71 : decode cX11_sum 71 = .ok (.invokestatic 121, 3) := by decide +kernel
theorem dX11_sum_74 : decode cX11_sum 74 = .ok (.laload, 1) := by decide +kernel
theorem dX11_sum_75 : decode cX11_sum 75 = .ok (.ladd, 1) := by decide +kernel
theorem dX11_sum_76 : decode cX11_sum 76 = .ok (.lstore_n 3, 1) := by decide +kernel
theorem dX11_sum_77 : decode cX11_sum 77 = .ok (.iinc 6 2, 3) := by decide +kernel
theorem dX11_sum_80 : decode cX11_sum 80 = .ok (.goto (-30), 3) := by decide +kernel
theorem dX11_sum_83 : decode cX11_sum 83 = .ok (.iload_n 2, 1) := by decide +kernel
theorem dX11_sum_84 : decode cX11_sum 84 = .ok (.aload_n 0, 1) := by decide +kernel
theorem dX11_sum_85 : decode cX11_sum 85 = .ok (.getfield 9, 3) := by decide +kernel
theorem dX11_sum_88 : decode cX11_sum 88 = .ok (.iload 5, 2) := by decide +kernel
theorem dX11_sum_90 : decode cX11_sum 90 = .ok (.iaload, 1) := by decide +kernel
theorem dX11_sum_91 : decode cX11_sum 91 = .ok (.bipush 7, 2) := by decide +kernel
theorem dX11_sum_93 : decode cX11_sum 93 = .ok (.if_icmp .ne 7, 3) := by decide +kernel
theorem dX11_sum_96 : decode cX11_sum 96 = .ok (.iconst 1, 1) := by decide +kernel
theorem dX11_sum_97 : decode cX11_sum 97 = .ok (.goto 4, 3) := by decide +kernel
theorem dX11_sum_100 : decode cX11_sum 100 = .ok (.iconst 3, 1) := by decide +kernel
theorem dX11_sum_101 : decode cX11_sum 101 = .ok (.if_icmp .ne 13, 3) := by decide +kernel
theorem dX11_sum_104 : decode cX11_sum 104 = .ok (.lload_n 3, 1) := by decide +kernel
theorem dX11_sum_105 : decode cX11_sum 105 = .ok (.aload_n 0, 1) := by decide +kernel
theorem dX11_sum_106 : decode cX11_sum 106 = .ok (.iload 5, 2) := by decide +kernel
theorem dX11_sum_108 : decode cX11_sum 108 = .ok (.iload_n 1, 1) := by decide +kernel
theorem dX11_sum_109 : decode cX11_sum 109 = .ok (.invokevirtual 180, 3) := by decide +kernel
theorem dX11_sum_112 : decode cX11_sum 112 = .ok (.ladd, 1) := by decide +kernel
theorem dX11_sum_113 : decode cX11_sum 113 = .ok (.lstore_n 3, 1) := by decide +kernel
theorem dX11_sum_114 : decode cX11_sum 114 = .ok (.iinc 5 1, 3) := by decide +kernel
theorem dX11_sum_117 : decode cX11_sum 117 = .ok (.goto (-79), 3) := by decide +kernel
theorem dX11_sum_120 : decode cX11_sum 120 = .ok (.lload_n 3, 1) := by decide +kernel
theorem dX11_sum_121 : decode cX11_sum 121 = .ok (.lreturn, 1) := by decide +kernel
theorem dX11_ledBack_0 : decode cX11_ledBack 0 = .ok (.aload_n 0, 1) := by decide +kernel
theorem dX11_ledBack_1 : decode cX11_ledBack 1 = .ok (.iload_n 1, 1) := by decide +kernel
theorem dX11_ledBack_2 : decode cX11_ledBack 2 = .ok (.invokevirtual 101, 3) := by decide +kernel
theorem dX11_ledBack_5 : decode cX11_ledBack 5 = .ok (.ifCond .eq 41, 3) := by decide +kernel
theorem dX11_ledBack_8 : decode cX11_ledBack 8 = .ok (.aload_n 0, 1) := by decide +kernel
theorem dX11_ledBack_9 : decode cX11_ledBack 9 = .ok (.iload_n 2, 1) := by decide +kernel
theorem dX11_ledBack_10 : decode cX11_ledBack 10 = .ok (.invokevirtual 101, 3) := by decide +kernel
theorem dX11_ledBack_13 : decode cX11_ledBack 13 = .ok (.ifCond .eq 33, 3) := by decide +kernel
theorem dX11_ledBack_16 : decode cX11_ledBack 16 = .ok (.aload_n 0, 1) := by decide +kernel
theorem dX11_ledBack_17 : decode cX11_ledBack 17 = .ok (.getfield 9, 3) := by decide +kernel
theorem dX11_ledBack_20 : decode cX11_ledBack 20 = .ok (.iload_n 1, 1) := by decide +kernel
theorem dX11_ledBack_21 : decode cX11_ledBack 21 = .ok (.iaload, 1) := by decide +kernel
theorem dX11_ledBack_22 : decode cX11_ledBack 22 = .ok (.bipush 7, 2) := by decide +kernel
theorem dX11_ledBack_24 : decode cX11_ledBack 24 = .ok (.if_icmp .ne 22, 3) := by decide +kernel
theorem dX11_ledBack_27 : decode cX11_ledBack 27 = .ok (.iload_n 3, 1) := by decide +kernel
theorem dX11_ledBack_28 : decode cX11_ledBack 28 = .ok (.iconst 0, 1) := by decide +kernel
theorem dX11_ledBack_29 : decode cX11_ledBack 29 = .ok (.iconst 3, 1) := by decide +kernel
theorem dX11_ledBack_30 : decode cX11_ledBack 30 = .ok (.invokestatic 97, 3) := by decide +kernel
theorem dX11_ledBack_33 : decode cX11_ledBack 33 = .ok (.ifCond .eq 13, 3) := by decide +kernel
theorem dX11_ledBack_36 : decode cX11_ledBack 36 = .ok (.iload 4, 2) := by decide +kernel
theorem dX11_ledBack_38 : decode cX11_ledBack 38 = .ok (.iconst 0, 1) := by decide +kernel
theorem dX11_ledBack_39 : decode cX11_ledBack 39 = .ok (.iconst 1, 1) := by decide +kernel
theorem dX11_ledBack_40 : decode cX11_ledBack 40 = .ok (.invokestatic 97, 3) := by decide +kernel
theorem dX11_ledBack_43 : decode cX11_ledBack 43 = .ok (.ifCond .ne 7, 3) := by decide +kernel
theorem dX11_ledBack_46 : decode cX11_ledBack 46 = .ok (.ldc2_w 178, 3) := by decide +kernel
theorem dX11_ledBack_49 : decode cX11_ledBack 49 = .ok (.lreturn, 1) := by decide +kernel
theorem dX11_ledBack_50 : decode cX11_ledBack 50 = .ok (.aload_n 0, 1) := by decide +kernel
theorem dX11_ledBack_51 : decode cX11_ledBack 51 = .ok (.getfield 75, 3) := by decide +kernel
theorem dX11_ledBack_54 : decode cX11_ledBack 54 = .ok (.bipush 10, 2) := by decide +kernel
theorem dX11_ledBack_56 : decode cX11_ledBack 56 = .ok (.iload_n 1, 1) := by decide +kernel
theorem dX11_ledBack_57 : decode cX11_ledBack 57 = .ok (.imul, 1) := by decide +kernel
theorem dX11_ledBack_58 : decode cX11_ledBack 58 = .ok (.iload_n 2, 1) := by decide +kernel
theorem dX11_ledBack_59 : decode cX11_ledBack 59 = .ok (.iadd, 1) := by decide +kernel
theorem dX11_ledBack_60 : decode cX11_ledBack 60 = .ok (.bipush 8, 2) := by decide +kernel
theorem dX11_ledBack_62 : decode cX11_ledBack 62 = .ok (.imul, 1) := by decide +kernel
theorem dX11_ledBack_63 : decode cX11_ledBack 63 = .ok (.iconst 2, 1) := by decide +kernel
theorem dX11_ledBack_64 : decode cX11_ledBack 64 = .ok (.iload_n 3, 1) := by decide +kernel
theorem dX11_ledBack_65 : decode cX11_ledBack 65 = .ok (.imul, 1) := by decide +kernel
theorem dX11_ledBack_66 : decode cX11_ledBack 66 = .ok (.iadd, 1) := by decide +kernel
theorem dX11_ledBack_67 : decode cX11_ledBack 67 = .ok (.iload 4, 2) := by decide +kernel
theorem dX11_ledBack_69 : decode cX11_ledBack 69 = .ok (.iadd, 1) := by decide +kernel
theorem dX11_ledBack_70 : decode cX11_ledBack 70 = .ok (.laload, 1) := by decide +kernel
theorem dX11_ledBack_71 : decode cX11_ledBack 71 = .ok (.lreturn, 1) := by decide +kernel
theorem dX11_isRead_0 : decode cX11_isRead 0 = .ok (.aload_n 0, 1) := by decide +kernel
theorem dX11_isRead_1 : decode cX11_isRead 1 = .ok (.getfield 9, 3) := by decide +kernel
theorem dX11_isRead_4 : decode cX11_isRead 4 = .ok (.iload_n 1, 1) := by decide +kernel
theorem dX11_isRead_5 : decode cX11_isRead 5 = .ok (.iaload, 1) := by decide +kernel
theorem dX11_isRead_6 : decode cX11_isRead 6 = .ok (.ifCond .eq 18, 3) := by decide +kernel
theorem dX11_isRead_9 : decode cX11_isRead 9 = .ok (.aload_n 0, 1) := by decide +kernel
theorem dX11_isRead_10 : decode cX11_isRead 10 = .ok (.getfield 9, 3) := by decide +kernel
theorem dX11_isRead_13 : decode cX11_isRead 13 = .ok (.iload_n 1, 1) := by decide +kernel
theorem dX11_isRead_14 : decode cX11_isRead 14 = .ok (.iaload, 1) := by decide +kernel
theorem dX11_isRead_15 : decode cX11_isRead 15 = .ok (.bipush 7, 2) := by decide +kernel
theorem dX11_isRead_17 : decode cX11_isRead 17 = .ok (.if_icmp .eq 7, 3) := by decide +kernel
theorem dX11_isRead_20 : decode cX11_isRead 20 = .ok (.iconst 1, 1) := by decide +kernel
theorem dX11_isRead_21 : decode cX11_isRead 21 = .ok (.goto 4, 3) := by decide +kernel
theorem dX11_isRead_24 : decode cX11_isRead 24 = .ok (.iconst 0, 1) := by decide +kernel
theorem dX11_isRead_25 : decode cX11_isRead 25 = .ok (.ireturn, 1) := by decide +kernel
theorem dX11_reading_0 : decode cX11_reading 0 = .ok (.aload_n 0, 1) := by decide +kernel
theorem dX11_reading_1 : decode cX11_reading 1 = .ok (.iload_n 1, 1) := by decide +kernel
theorem dX11_reading_2 : decode cX11_reading 2 = .ok (.invokevirtual 101, 3) := by decide +kernel
theorem dX11_reading_5 : decode cX11_reading 5 = .ok (.ifCond .eq 12, 3) := by decide +kernel
theorem dX11_reading_8 : decode cX11_reading 8 = .ok (.iload_n 2, 1) := by decide +kernel
theorem dX11_reading_9 : decode cX11_reading 9 = .ok (.iconst 0, 1) := by decide +kernel
theorem dX11_reading_10 : decode cX11_reading 10 = .ok (.iconst 2, 1) := by decide +kernel
theorem dX11_reading_11 : decode cX11_reading 11 = .ok (.invokestatic 97, 3) := by decide +kernel
theorem dX11_reading_14 : decode cX11_reading 14 = .ok (.ifCond .ne 5, 3) := by decide +kernel
theorem dX11_reading_17 : decode cX11_reading 17 = .ok (.iconst (-1), 1) := by decide +kernel
theorem dX11_reading_18 : decode cX11_reading 18 = .ok (.ireturn, 1) := by decide +kernel
theorem dX11_reading_19 : decode cX11_reading 19 = .ok (.aload_n 0, 1) := by decide +kernel
theorem dX11_reading_20 : decode cX11_reading 20 = .ok (.iload_n 1, 1) := by decide +kernel
theorem dX11_reading_21 : decode cX11_reading 21 = .ok (.invokevirtual 184, 3) := by decide +kernel
theorem dX11_reading_24 : decode cX11_reading 24 = .ok (.ifCond .ne 6, 3) := by decide +kernel
theorem dX11_reading_27 : decode cX11_reading 27 = .ok (.bipush (-3), 2) := by decide +kernel
theorem dX11_reading_29 : decode cX11_reading 29 = .ok (.ireturn, 1) := by decide +kernel
theorem dX11_reading_30 : decode cX11_reading 30 = .ok (.iload_n 2, 1) := by decide +kernel
theorem dX11_reading_31 : decode cX11_reading 31 = .ok (.aload_n 0, 1) := by decide +kernel
theorem dX11_reading_32 : decode cX11_reading 32 = .ok (.iload_n 1, 1) := by decide +kernel
theorem dX11_reading_33 : decode cX11_reading 33 = .ok (.invokevirtual 105, 3) := by decide +kernel
theorem dX11_reading_36 : decode cX11_reading 36 = .ok (.if_icmp .le 5, 3) := by decide +kernel
theorem dX11_reading_39 : decode cX11_reading 39 = .ok (.iconst (-1), 1) := by decide +kernel
theorem dX11_reading_40 : decode cX11_reading 40 = .ok (.ireturn, 1) := by decide +kernel
theorem dX11_reading_41 : decode cX11_reading 41 = .ok (.iload_n 3, 1) := by decide +kernel
theorem dX11_reading_42 : decode cX11_reading 42 = .ok (.iconst 0, 1) := by decide +kernel
theorem dX11_reading_43 : decode cX11_reading 43 = .ok (.ldc 116, 2) := by decide +kernel
theorem dX11_reading_45 : decode cX11_reading 45 = .ok (.invokestatic 97, 3) := by decide +kernel
theorem dX11_reading_48 : decode cX11_reading 48 = .ok (.ifCond .eq 14, 3) := by decide +kernel
theorem dX11_reading_51 : decode cX11_reading 51 = .ok (.iload 4, 2) := by decide +kernel
theorem dX11_reading_53 : decode cX11_reading 53 = .ok (.iconst 1, 1) := by decide +kernel
theorem dX11_reading_54 : decode cX11_reading 54 = .ok (.bipush 100, 2) := by decide +kernel
theorem dX11_reading_56 : decode cX11_reading 56 = .ok (.invokestatic 97, 3) := by decide +kernel
theorem dX11_reading_59 : decode cX11_reading 59 = .ok (.ifCond .ne 6, 3) := by decide +kernel
theorem dX11_reading_62 : decode cX11_reading 62 = .ok (.bipush (-2), 2) := by decide +kernel
theorem dX11_reading_64 : decode cX11_reading 64 = .ok (.ireturn, 1) := by decide +kernel
theorem dX11_reading_65 : decode cX11_reading 65 = .ok (.aload_n 0, 1) := by decide +kernel
theorem dX11_reading_66 : decode cX11_reading 66 = .ok (.getfield 78, 3) := by decide +kernel
theorem dX11_reading_69 : decode cX11_reading 69 = .ok (.iconst 3, 1) := by decide +kernel
theorem dX11_reading_70 : decode cX11_reading 70 = .ok (.iload_n 1, 1) := by decide +kernel
theorem dX11_reading_71 : decode cX11_reading 71 = .ok (.imul, 1) := by decide +kernel
theorem dX11_reading_72 : decode cX11_reading 72 = .ok (.iload_n 2, 1) := by decide +kernel
theorem dX11_reading_73 : decode cX11_reading 73 = .ok (.iadd, 1) := by decide +kernel
theorem dX11_reading_74 : decode cX11_reading 74 = .ok (.iload_n 3, 1) := by decide +kernel
theorem dX11_reading_75 : decode cX11_reading 75 = .ok (.iastore, 1) := by decide +kernel
theorem dX11_reading_76 : decode cX11_reading 76 = .ok (.aload_n 0, 1) := by decide +kernel
theorem dX11_reading_77 : decode cX11_reading 77 = .ok (.getfield 81, 3) := by decide +kernel
theorem dX11_reading_80 : decode cX11_reading 80 = .ok (.iconst 3, 1) := by decide +kernel
theorem dX11_reading_81 : decode cX11_reading 81 = .ok (.iload_n 1, 1) := by decide +kernel
theorem dX11_reading_82 : decode cX11_reading 82 = .ok (.imul, 1) := by decide +kernel
theorem dX11_reading_83 : decode cX11_reading 83 = .ok (.iload_n 2, 1) := by decide +kernel
theorem dX11_reading_84 : decode cX11_reading 84 = .ok (.iadd, 1) := by decide +kernel
theorem dX11_reading_85 : decode cX11_reading 85 = .ok (.iload 4, 2) := by decide +kernel
theorem dX11_reading_87 : decode cX11_reading 87 = .ok (.iastore, 1) := by decide +kernel
theorem dX11_reading_88 : decode cX11_reading 88 = .ok (.iconst 0, 1) := by decide +kernel
theorem dX11_reading_89 : decode cX11_reading 89 = .ok (.ireturn, 1) := by decide +kernel
theorem dX11_close_0 : decode cX11_close 0 = .ok (.aload_n 0, 1) := by decide +kernel
theorem dX11_close_1 : decode cX11_close 1 = .ok (.iload_n 1, 1) := by decide +kernel
theorem dX11_close_2 : decode cX11_close 2 = .ok (.invokevirtual 101, 3) := by decide +kernel
theorem dX11_close_5 : decode cX11_close 5 = .ok (.ifCond .eq 33, 3) := by decide +kernel
theorem dX11_close_8 : decode cX11_close 8 = .ok (.aload_n 0, 1) := by decide +kernel
theorem dX11_close_9 : decode cX11_close 9 = .ok (.iload_n 1, 1) := by decide +kernel
theorem dX11_close_10 : decode cX11_close 10 = .ok (.invokevirtual 184, 3) := by decide +kernel
theorem dX11_close_13 : decode cX11_close 13 = .ok (.ifCond .eq 25, 3) := by decide +kernel
theorem dX11_close_16 : decode cX11_close 16 = .ok (.iload_n 2, 1) := by decide +kernel
theorem dX11_close_17 : decode cX11_close 17 = .ok (.iconst 0, 1) := by decide +kernel
theorem dX11_close_18 : decode cX11_close 18 = .ok (.aload_n 0, 1) := by decide +kernel
theorem dX11_close_19 : decode cX11_close 19 = .ok (.iload_n 1, 1) := by decide +kernel
theorem dX11_close_20 : decode cX11_close 20 = .ok (.invokevirtual 105, 3) := by decide +kernel
theorem dX11_close_23 : decode cX11_close 23 = .ok (.invokestatic 97, 3) := by decide +kernel
theorem dX11_close_26 : decode cX11_close 26 = .ok (.ifCond .eq 12, 3) := by decide +kernel
theorem dX11_close_29 : decode cX11_close 29 = .ok (.iload_n 3, 1) := by decide +kernel
theorem dX11_close_30 : decode cX11_close 30 = .ok (.iconst 0, 1) := by decide +kernel
theorem dX11_close_31 : decode cX11_close 31 = .ok (.iconst 1, 1) := by decide +kernel
theorem dX11_close_32 : decode cX11_close 32 = .ok (.invokestatic 97, 3) := by decide +kernel
theorem dX11_close_35 : decode cX11_close 35 = .ok (.ifCond .ne 7, 3) := by decide +kernel
theorem dX11_close_38 : decode cX11_close 38 = .ok (.ldc2_w 178, 3) := by decide +kernel
theorem dX11_close_41 : decode cX11_close 41 = .ok (.lreturn, 1) := by decide +kernel
theorem dX11_close_42 : decode cX11_close 42 = .ok (.lconst 0, 1) := by decide +kernel
theorem dX11_close_43 : decode cX11_close 43 = .ok (.lstore 4, 2) := by decide +kernel
theorem dX11_close_45 : decode cX11_close 45 = .ok (.aload_n 0, 1) := by decide +kernel
theorem dX11_close_46 : decode cX11_close 46 = .ok (.getfield 78, 3) := by decide +kernel
theorem dX11_close_49 : decode cX11_close 49 = .ok (.iconst 3, 1) := by decide +kernel
theorem dX11_close_50 : decode cX11_close 50 = .ok (.iload_n 1, 1) := by decide +kernel
theorem dX11_close_51 : decode cX11_close 51 = .ok (.imul, 1) := by decide +kernel
theorem dX11_close_52 : decode cX11_close 52 = .ok (.iaload, 1) := by decide +kernel
theorem dX11_close_53 : decode cX11_close 53 = .ok (.i2l, 1) := by decide +kernel
theorem dX11_close_54 : decode cX11_close 54 = .ok (.lstore 6, 2) := by decide +kernel
theorem dX11_close_56 : decode cX11_close 56 = .ok (.iconst 0, 1) := by decide +kernel
theorem dX11_close_57 : decode cX11_close 57 = .ok (.istore 8, 2) := by decide +kernel
theorem dX11_close_59 : decode cX11_close 59 = .ok (.iload 8, 2) := by decide +kernel
theorem dX11_close_61 : decode cX11_close 61 = .ok (.aload_n 0, 1) := by decide +kernel
theorem dX11_close_62 : decode cX11_close 62 = .ok (.iload_n 1, 1) := by decide +kernel
theorem dX11_close_63 : decode cX11_close 63 = .ok (.invokevirtual 105, 3) := by decide +kernel
theorem dX11_close_66 : decode cX11_close 66 = .ok (.if_icmp .gt 52, 3) := by decide +kernel
theorem dX11_close_69 : decode cX11_close 69 = .ok (.lload 4, 2) := by decide +kernel
theorem dX11_close_71 : decode cX11_close 71 = .ok (.aload_n 0, 1) := by decide +kernel
theorem dX11_close_72 : decode cX11_close 72 = .ok (.getfield 81, 3) := by decide +kernel
theorem dX11_close_75 : decode cX11_close 75 = .ok (.iconst 3, 1) := by decide +kernel
theorem dX11_close_76 : decode cX11_close 76 = .ok (.iload_n 1, 1) := by decide +kernel
theorem dX11_close_77 : decode cX11_close 77 = .ok (.imul, 1) := by decide +kernel
theorem dX11_close_78 : decode cX11_close 78 = .ok (.iload 8, 2) := by decide +kernel
theorem dX11_close_80 : decode cX11_close 80 = .ok (.iadd, 1) := by decide +kernel
theorem dX11_close_81 : decode cX11_close 81 = .ok (.iaload, 1) := by decide +kernel
theorem dX11_close_82 : decode cX11_close 82 = .ok (.i2l, 1) := by decide +kernel
theorem dX11_close_83 : decode cX11_close 83 = .ok (.ladd, 1) := by decide +kernel
theorem dX11_close_84 : decode cX11_close 84 = .ok (.lstore 4, 2) := by decide +kernel
theorem dX11_close_86 : decode cX11_close 86 = .ok (.lload 6, 2) := by decide +kernel
theorem dX11_close_88 : decode cX11_close 88 = .ok (.iload 8, 2) := by decide +kernel
theorem dX11_close_90 : decode cX11_close 90 = .ok (.ifCond .ne 7, 3) := by decide +kernel
theorem dX11_close_93 : decode cX11_close 93 = .ok (.lconst 0, 1) := by decide +kernel
theorem dX11_close_94 : decode cX11_close 94 = .ok (.goto 15, 3) := by decide +kernel
theorem dX11_close_97 : decode cX11_close 97 = .ok (.aload_n 0, 1) := by decide +kernel
theorem dX11_close_98 : decode cX11_close 98 = .ok (.getfield 78, 3) := by decide +kernel
theorem dX11_close_101 : decode cX11_close 101 = .ok (.iconst 3, 1) := by decide +kernel
theorem dX11_close_102 : decode cX11_close 102 = .ok (.iload_n 1, 1) := by decide +kernel
theorem dX11_close_103 : decode cX11_close 103 = .ok (.imul, 1) := by decide +kernel
theorem dX11_close_104 : decode cX11_close 104 = .ok (.iload 8, 2) := by decide +kernel
theorem dX11_close_106 : decode cX11_close 106 = .ok (.iadd, 1) := by decide +kernel
theorem dX11_close_107 : decode cX11_close 107 = .ok (.iaload, 1) := by decide +kernel
theorem dX11_close_108 : decode cX11_close 108 = .ok (.i2l, 1) := by decide +kernel
theorem dX11_close_109 : decode cX11_close 109 = .ok (.lsub, 1) := by decide +kernel
theorem dX11_close_110 : decode cX11_close 110 = .ok (.lstore 6, 2) := by decide +kernel
theorem dX11_close_112 : decode cX11_close 112 = .ok (.iinc 8 1, 3) := by decide +kernel
theorem dX11_close_115 : decode cX11_close 115 = .ok (.goto (-56), 3) := by decide +kernel
theorem dX11_close_118 : decode cX11_close 118 = .ok (.aload_n 0, 1) := by decide +kernel
theorem dX11_close_119 : decode cX11_close 119 = .ok (.getfield 78, 3) := by decide +kernel
theorem dX11_close_122 : decode cX11_close 122 = .ok (.iconst 3, 1) := by decide +kernel
theorem dX11_close_123 : decode cX11_close 123 = .ok (.iload_n 1, 1) := by decide +kernel
theorem dX11_close_124 : decode cX11_close 124 = .ok (.imul, 1) := by decide +kernel
theorem dX11_close_125 : decode cX11_close 125 = .ok (.iload_n 2, 1) := by decide +kernel
theorem dX11_close_126 : decode cX11_close 126 = .ok (.iadd, 1) := by decide +kernel
theorem dX11_close_127 : decode cX11_close 127 = .ok (.iaload, 1) := by decide +kernel
theorem dX11_close_128 : decode cX11_close 128 = .ok (.i2l, 1) := by decide +kernel
theorem dX11_close_129 : decode cX11_close 129 = .ok (.lload 4, 2) := by decide +kernel
theorem dX11_close_131 : decode cX11_close 131 = .ok (.lmul, 1) := by decide +kernel
theorem dX11_close_132 : decode cX11_close 132 = .ok (.iload_n 2, 1) := by decide +kernel
theorem dX11_close_133 : decode cX11_close 133 = .ok (.ifCond .ne 9, 3) := by decide +kernel
theorem dX11_close_136 : decode cX11_close 136 = .ok (.ldc2_w 187, 3) := by decide +kernel
theorem dX11_close_139 : decode cX11_close 139 = .ok (.goto 4, 3) := by decide +kernel
theorem dX11_close_142 : decode cX11_close 142 = .ok (.lconst 1, 1) := by decide +kernel
theorem dX11_close_143 : decode cX11_close 143 = .ok (.aload_n 0, 1) := by decide +kernel
theorem dX11_close_144 : decode cX11_close 144 = .ok (.getfield 81, 3) := by decide +kernel
theorem dX11_close_147 : decode cX11_close 147 = .ok (.iconst 3, 1) := by decide +kernel
theorem dX11_close_148 : decode cX11_close 148 = .ok (.iload_n 1, 1) := by decide +kernel
theorem dX11_close_149 : decode cX11_close 149 = .ok (.imul, 1) := by decide +kernel
theorem dX11_close_150 : decode cX11_close 150 = .ok (.iload_n 2, 1) := by decide +kernel
theorem dX11_close_151 : decode cX11_close 151 = .ok (.iadd, 1) := by decide +kernel
theorem dX11_close_152 : decode cX11_close 152 = .ok (.iaload, 1) := by decide +kernel
theorem dX11_close_153 : decode cX11_close 153 = .ok (.i2l, 1) := by decide +kernel
theorem dX11_close_154 : decode cX11_close 154 = .ok (.lmul, 1) := by decide +kernel
theorem dX11_close_155 : decode cX11_close 155 = .ok (.lload 6, 2) := by decide +kernel
theorem dX11_close_157 : decode cX11_close 157 = .ok (.lmul, 1) := by decide +kernel
theorem dX11_close_158 : decode cX11_close 158 = .ok (.ladd, 1) := by decide +kernel
theorem dX11_close_159 : decode cX11_close 159 = .ok (.lstore 8, 2) := by decide +kernel
theorem dX11_close_161 : decode cX11_close 161 = .ok (.lload 8, 2) := by decide +kernel
theorem dX11_close_163 : decode cX11_close 163 = .ok (.lconst 0, 1) := by decide +kernel
theorem dX11_close_164 : decode cX11_close 164 = .ok (.lcmp, 1) := by decide +kernel
theorem dX11_close_165 : decode cX11_close 165 = .ok (.ifCond .ge 9, 3) := by decide +kernel
theorem dX11_close_168 : decode cX11_close 168 = .ok (.lload 8, 2) := by decide +kernel
theorem dX11_close_170 : decode cX11_close 170 = .ok (.lneg, 1) := by decide +kernel
theorem dX11_close_171 : decode cX11_close 171 = .ok (.goto 5, 3) := by decide +kernel
theorem dX11_close_174 : decode cX11_close 174 = .ok (.lload 8, 2) := by decide +kernel
theorem dX11_close_176 : decode cX11_close 176 = .ok (.lstore 10, 2) := by decide +kernel
theorem dX11_close_178 : decode cX11_close 178 = .ok (.lload 4, 2) := by decide +kernel
theorem dX11_close_180 : decode cX11_close 180 = .ok (.lstore 12, 2) := by decide +kernel
theorem dX11_close_182 : decode cX11_close 182 = .ok (.lload 12, 2) := by decide +kernel
theorem dX11_close_184 : decode cX11_close 184 = .ok (.lconst 0, 1) := by decide +kernel
theorem dX11_close_185 : decode cX11_close 185 = .ok (.lcmp, 1) := by decide +kernel
theorem dX11_close_186 : decode cX11_close 186 = .ok (.ifCond .eq 21, 3) := by decide +kernel
theorem dX11_close_189 : decode cX11_close 189 = .ok (.lload 10, 2) := by decide +kernel
theorem dX11_close_191 : decode cX11_close 191 = .ok (.lload 12, 2) := by decide +kernel
theorem dX11_close_193 : decode cX11_close 193 = .ok (.lrem, 1) := by decide +kernel
theorem dX11_close_194 : decode cX11_close 194 = .ok (.lstore 14, 2) := by decide +kernel
theorem dX11_close_196 : decode cX11_close 196 = .ok (.lload 12, 2) := by decide +kernel
theorem dX11_close_198 : decode cX11_close 198 = .ok (.lstore 10, 2) := by decide +kernel
theorem dX11_close_200 : decode cX11_close 200 = .ok (.lload 14, 2) := by decide +kernel
theorem dX11_close_202 : decode cX11_close 202 = .ok (.lstore 12, 2) := by decide +kernel
theorem dX11_close_204 : decode cX11_close 204 = .ok (.goto (-22), 3) := by decide +kernel
theorem dX11_close_207 : decode cX11_close 207 = .ok (.iload_n 3, 1) := by decide +kernel
theorem dX11_close_208 : decode cX11_close 208 = .ok (.ifCond .ne 11, 3) := by decide +kernel
theorem dX11_close_211 : decode cX11_close 211 = .ok (.lload 8, 2) := by decide +kernel
theorem dX11_close_213 : decode cX11_close 213 = .ok (.lload 10, 2) := by decide +kernel
theorem dX11_close_215 : decode cX11_close 215 = .ok (.ldiv, 1) := by decide +kernel
theorem dX11_close_216 : decode cX11_close 216 = .ok (.goto 8, 3) := by decide +kernel
theorem dX11_close_219 : decode cX11_close 219 = .ok (.lload 4, 2) := by decide +kernel
theorem dX11_close_221 : decode cX11_close 221 = .ok (.lload 10, 2) := by decide +kernel
theorem dX11_close_223 : decode cX11_close 223 = .ok (.ldiv, 1) := by decide +kernel
theorem dX11_close_224 : decode cX11_close 224 = .ok (.lreturn, 1) := by decide +kernel
theorem dX11_load_0 : decode cX11_load 0 = .ok (.iload_n 1, 1) := by decide +kernel
theorem dX11_load_1 : decode cX11_load 1 = .ok (.iconst 1, 1) := by decide +kernel
theorem dX11_load_2 : decode cX11_load 2 = .ok (.sipush 1000, 3) := by decide +kernel
theorem dX11_load_5 : decode cX11_load 5 = .ok (.invokestatic 97, 3) := by decide +kernel
theorem dX11_load_8 : decode cX11_load 8 = .ok (.ifCond .eq 24, 3) := by decide +kernel
theorem dX11_load_11 : decode cX11_load 11 = .ok (.iload_n 2, 1) := by decide +kernel
theorem dX11_load_12 : decode cX11_load 12 = .ok (.iconst 0, 1) := by decide +kernel
theorem dX11_load_13 : decode cX11_load 13 = .ok (.bipush 100, 2) := by decide +kernel
theorem dX11_load_15 : decode cX11_load 15 = .ok (.invokestatic 97, 3) := by decide +kernel
theorem dX11_load_18 : decode cX11_load 18 = .ok (.ifCond .eq 14, 3) := by decide +kernel
theorem dX11_load_21 : decode cX11_load 21 = .ok (.iload_n 3, 1) := by decide +kernel
theorem dX11_load_22 : decode cX11_load 22 = .ok (.iconst 0, 1) := by decide +kernel
theorem dX11_load_23 : decode cX11_load 23 = .ok (.sipush 1000, 3) := by decide +kernel
theorem dX11_load_26 : decode cX11_load 26 = .ok (.invokestatic 97, 3) := by decide +kernel
theorem dX11_load_29 : decode cX11_load 29 = .ok (.ifCond .ne 6, 3) := by decide +kernel
theorem dX11_load_32 : decode cX11_load 32 = .ok (.bipush (-2), 2) := by decide +kernel
theorem dX11_load_34 : decode cX11_load 34 = .ok (.ireturn, 1) := by decide +kernel
theorem dX11_load_35 : decode cX11_load 35 = .ok (.aload_n 0, 1) := by decide +kernel
theorem dX11_load_36 : decode cX11_load 36 = .ok (.getfield 189, 3) := by decide +kernel
theorem dX11_load_39 : decode cX11_load 39 = .ok (.bipush 10, 2) := by decide +kernel
theorem dX11_load_41 : decode cX11_load 41 = .ok (.if_icmp .ne 6, 3) := by decide +kernel
theorem dX11_load_44 : decode cX11_load 44 = .ok (.bipush (-4), 2) := by decide +kernel
theorem dX11_load_46 : decode cX11_load 46 = .ok (.ireturn, 1) := by decide +kernel
theorem dX11_load_47 : decode cX11_load 47 = .ok (.aload_n 0, 1) := by decide +kernel
theorem dX11_load_48 : decode cX11_load 48 = .ok (.getfield 84, 3) := by decide +kernel
theorem dX11_load_51 : decode cX11_load 51 = .ok (.aload_n 0, 1) := by decide +kernel
theorem dX11_load_52 : decode cX11_load 52 = .ok (.getfield 189, 3) := by decide +kernel
theorem dX11_load_55 : decode cX11_load 55 = .ok (.iload_n 1, 1) := by decide +kernel
theorem dX11_load_56 : decode cX11_load 56 = .ok (.iastore, 1) := by decide +kernel
theorem dX11_load_57 : decode cX11_load 57 = .ok (.aload_n 0, 1) := by decide +kernel
theorem dX11_load_58 : decode cX11_load 58 = .ok (.getfield 87, 3) := by decide +kernel
theorem dX11_load_61 : decode cX11_load 61 = .ok (.aload_n 0, 1) := by decide +kernel
theorem dX11_load_62 : decode cX11_load 62 = .ok (.getfield 189, 3) := by decide +kernel
theorem dX11_load_65 : decode cX11_load 65 = .ok (.iload_n 2, 1) := by decide +kernel
theorem dX11_load_66 : decode cX11_load 66 = .ok (.iastore, 1) := by decide +kernel
theorem dX11_load_67 : decode cX11_load 67 = .ok (.aload_n 0, 1) := by decide +kernel
theorem dX11_load_68 : decode cX11_load 68 = .ok (.getfield 90, 3) := by decide +kernel
theorem dX11_load_71 : decode cX11_load 71 = .ok (.aload_n 0, 1) := by decide +kernel
theorem dX11_load_72 : decode cX11_load 72 = .ok (.getfield 189, 3) := by decide +kernel
theorem dX11_load_75 : decode cX11_load 75 = .ok (.iload_n 3, 1) := by decide +kernel
theorem dX11_load_76 : decode cX11_load 76 = .ok (.iastore, 1) := by decide +kernel
theorem dX11_load_77 : decode cX11_load 77 = .ok (.aload_n 0, 1) := by decide +kernel
theorem dX11_load_78 : decode cX11_load 78 = .ok (.dup, 1) := by decide +kernel
theorem dX11_load_79 : decode cX11_load 79 = .ok (.getfield 189, 3) := by decide +kernel
theorem dX11_load_82 : decode cX11_load 82 = .ok (.iconst 1, 1) := by decide +kernel
theorem dX11_load_83 : decode cX11_load 83 = .ok (.iadd, 1) := by decide +kernel
theorem dX11_load_84 : decode cX11_load 84 = .ok (.putfield 189, 3) := by decide +kernel
theorem dX11_load_87 : decode cX11_load 87 = .ok (.aload_n 0, 1) := by decide +kernel
theorem dX11_load_88 : decode cX11_load 88 = .ok (.getfield 189, 3) := by decide +kernel
theorem dX11_load_91 : decode cX11_load 91 = .ok (.iconst 1, 1) := by decide +kernel
theorem dX11_load_92 : decode cX11_load 92 = .ok (.isub, 1) := by decide +kernel
theorem dX11_load_93 : decode cX11_load 93 = .ok (.ireturn, 1) := by decide +kernel
theorem dX11_unload_0 : decode cX11_unload 0 = .ok (.aload_n 0, 1) := by decide +kernel
theorem dX11_unload_1 : decode cX11_unload 1 = .ok (.getfield 189, 3) := by decide +kernel
theorem dX11_unload_4 : decode cX11_unload 4 = .ok (.istore_n 1, 1) := by decide +kernel
theorem dX11_unload_5 : decode cX11_unload 5 = .ok (.aload_n 0, 1) := by decide +kernel
theorem dX11_unload_6 : decode cX11_unload 6 = .ok (.iconst 0, 1) := by decide +kernel
theorem dX11_unload_7 : decode cX11_unload 7 = .ok (.putfield 189, 3) := by decide +kernel
theorem dX11_unload_10 : decode cX11_unload 10 = .ok (.iload_n 1, 1) := by decide +kernel
theorem dX11_unload_11 : decode cX11_unload 11 = .ok (.ireturn, 1) := by decide +kernel
theorem dX11_blend_0 : decode cX11_blend 0 = .ok (.iload_n 1, 1) := by decide +kernel
theorem dX11_blend_1 : decode cX11_blend 1 = .ok (.ifCond .lt 18, 3) := by decide +kernel
theorem dX11_blend_4 : decode cX11_blend 4 = .ok (.iload_n 1, 1) := by decide +kernel
theorem dX11_blend_5 : decode cX11_blend 5 = .ok (.iload_n 2, 1) := by decide +kernel
theorem dX11_blend_6 : decode cX11_blend 6 = .ok (.if_icmp .gt 13, 3) := by decide +kernel
theorem dX11_blend_9 : decode cX11_blend 9 = .ok (.iload_n 3, 1) := by decide +kernel
theorem dX11_blend_10 : decode cX11_blend 10 = .ok (.iconst 0, 1) := by decide +kernel
theorem dX11_blend_11 : decode cX11_blend 11 = .ok (.bipush 100, 2) := by decide +kernel
theorem dX11_blend_13 : decode cX11_blend 13 = .ok (.invokestatic 97, 3) := by decide +kernel
theorem dX11_blend_16 : decode cX11_blend 16 = .ok (.ifCond .ne 6, 3) := by decide +kernel
theorem dX11_blend_19 : decode cX11_blend 19 = .ok (.bipush (-2), 2) := by decide +kernel
theorem dX11_blend_21 : decode cX11_blend 21 = .ok (.ireturn, 1) := by decide +kernel
theorem dX11_blend_22 : decode cX11_blend 22 = .ok (.iconst (-1), 1) := by decide +kernel
theorem dX11_blend_23 : decode cX11_blend 23 = .ok (.istore 4, 2) := by decide +kernel
theorem dX11_blend_25 : decode cX11_blend 25 = .ok (.iconst 0, 1) := by decide +kernel
theorem dX11_blend_26 : decode cX11_blend 26 = .ok (.istore 5, 2) := by decide +kernel
theorem dX11_blend_28 : decode cX11_blend 28 = .ok (.iconst 0, 1) := by decide +kernel
theorem dX11_blend_29 : decode cX11_blend 29 = .ok (.istore 6, 2) := by decide +kernel
theorem dX11_blend_31 : decode cX11_blend 31 = .ok (.iload 6, 2) := by decide +kernel
theorem dX11_blend_33 : decode cX11_blend 33 = .ok (.iconst 1, 1) := by decide +kernel
theorem dX11_blend_34 : decode cX11_blend 34 = .ok (.aload_n 0, 1) := by decide +kernel
theorem dX11_blend_35 : decode cX11_blend 35 = .ok (.getfield 189, 3) := by decide +kernel
theorem dX11_blend_38 : decode cX11_blend 38 = .ok (.ishl, 1) := by decide +kernel
theorem dX11_blend_39 : decode cX11_blend 39 = .ok (.if_icmp .ge 138, 3) := by decide +kernel
theorem dX11_blend_42 : decode cX11_blend 42 = .ok (.iconst 0, 1) := by decide +kernel
theorem dX11_blend_43 : decode cX11_blend 43 = .ok (.istore 7, 2) := by decide +kernel
theorem dX11_blend_45 : decode cX11_blend 45 = .ok (.iconst 0, 1) := by decide +kernel
theorem dX11_blend_46 : decode cX11_blend 46 = .ok (.istore 8, 2) := by decide +kernel
theorem dX11_blend_48 : decode cX11_blend 48 = .ok (.iconst 0, 1) := by decide +kernel
theorem dX11_blend_49 : decode cX11_blend 49 = .ok (.istore 9, 2) := by decide +kernel
theorem dX11_blend_51 : decode cX11_blend 51 = .ok (.iconst 0, 1) := by decide +kernel
theorem dX11_blend_52 : decode cX11_blend 52 = .ok (.istore 10, 2) := by decide +kernel
theorem dX11_blend_54 : decode cX11_blend 54 = .ok (.iload 10, 2) := by decide +kernel
theorem dX11_blend_56 : decode cX11_blend 56 = .ok (.aload_n 0, 1) := by decide +kernel
theorem dX11_blend_57 : decode cX11_blend 57 = .ok (.getfield 189, 3) := by decide +kernel
theorem dX11_blend_60 : decode cX11_blend 60 = .ok (.if_icmp .ge 66, 3) := by decide +kernel
theorem dX11_blend_63 : decode cX11_blend 63 = .ok (.iload 6, 2) := by decide +kernel
theorem dX11_blend_65 : decode cX11_blend 65 = .ok (.iload 10, 2) := by decide +kernel
theorem dX11_blend_67 : decode cX11_blend 67 = .ok (.ishr, 1) := by decide +kernel
theorem dX11_blend_68 : decode cX11_blend 68 = .ok (.iconst 1, 1) := by decide +kernel
theorem dX11_blend_69 : decode cX11_blend 69 = .ok (.iand, 1) := by decide +kernel
theorem dX11_blend_70 : decode cX11_blend 70 = .ok (.ifCond .ne 6, 3) := by decide +kernel
theorem dX11_blend_73 : decode cX11_blend 73 = .ok (.goto 47, 3) := by decide +kernel
theorem dX11_blend_76 : decode cX11_blend 76 = .ok (.iload 7, 2) := by decide +kernel
theorem dX11_blend_78 : decode cX11_blend 78 = .ok (.aload_n 0, 1) := by decide +kernel
theorem dX11_blend_79 : decode cX11_blend 79 = .ok (.getfield 84, 3) := by decide +kernel
theorem dX11_blend_82 : decode cX11_blend 82 = .ok (.iload 10, 2) := by decide +kernel
theorem dX11_blend_84 : decode cX11_blend 84 = .ok (.iaload, 1) := by decide +kernel
theorem dX11_blend_85 : decode cX11_blend 85 = .ok (.iadd, 1) := by decide +kernel
theorem dX11_blend_86 : decode cX11_blend 86 = .ok (.istore 7, 2) := by decide +kernel
theorem dX11_blend_88 : decode cX11_blend 88 = .ok (.iload 8, 2) := by decide +kernel
theorem dX11_blend_90 : decode cX11_blend 90 = .ok (.aload_n 0, 1) := by decide +kernel
theorem dX11_blend_91 : decode cX11_blend 91 = .ok (.getfield 87, 3) := by decide +kernel
theorem dX11_blend_94 : decode cX11_blend 94 = .ok (.iload 10, 2) := by decide +kernel
theorem dX11_blend_96 : decode cX11_blend 96 = .ok (.iaload, 1) := by decide +kernel
theorem dX11_blend_97 : decode cX11_blend 97 = .ok (.aload_n 0, 1) := by decide +kernel
theorem dX11_blend_98 : decode cX11_blend 98 = .ok (.getfield 84, 3) := by decide +kernel
theorem dX11_blend_101 : decode cX11_blend 101 = .ok (.iload 10, 2) := by decide +kernel
theorem dX11_blend_103 : decode cX11_blend 103 = .ok (.iaload, 1) := by decide +kernel
theorem dX11_blend_104 : decode cX11_blend 104 = .ok (.imul, 1) := by decide +kernel
theorem dX11_blend_105 : decode cX11_blend 105 = .ok (.iadd, 1) := by decide +kernel
theorem dX11_blend_106 : decode cX11_blend 106 = .ok (.istore 8, 2) := by decide +kernel
theorem dX11_blend_108 : decode cX11_blend 108 = .ok (.iload 9, 2) := by decide +kernel
theorem dX11_blend_110 : decode cX11_blend 110 = .ok (.aload_n 0, 1) := by decide +kernel
theorem dX11_blend_111 : decode cX11_blend 111 = .ok (.getfield 90, 3) := by decide +kernel
theorem dX11_blend_114 : decode cX11_blend 114 = .ok (.iload 10, 2) := by decide +kernel
theorem dX11_blend_116 : decode cX11_blend 116 = .ok (.iaload, 1) := by decide +kernel
theorem dX11_blend_117 : decode cX11_blend 117 = .ok (.iadd, 1) := by decide +kernel
theorem dX11_blend_118 : decode cX11_blend 118 = .ok (.istore 9, 2) := by decide +kernel
theorem dX11_blend_120 : decode cX11_blend 120 = .ok (.iinc 10 1, 3) := by decide +kernel
theorem dX11_blend_123 : decode cX11_blend 123 = .ok (.goto (-69), 3) := by decide +kernel
theorem dX11_blend_126 : decode cX11_blend 126 = .ok (.iload 7, 2) := by decide +kernel
theorem dX11_blend_128 : decode cX11_blend 128 = .ok (.iload_n 1, 1) := by decide +kernel
theorem dX11_blend_129 : decode cX11_blend 129 = .ok (.if_icmp .lt 42, 3) := by decide +kernel
theorem dX11_blend_132 : decode cX11_blend 132 = .ok (.iload 7, 2) := by decide +kernel
theorem dX11_blend_134 : decode cX11_blend 134 = .ok (.iload_n 2, 1) := by decide +kernel
theorem dX11_blend_135 : decode cX11_blend 135 = .ok (.if_icmp .gt 36, 3) := by decide +kernel
theorem dX11_blend_138 : decode cX11_blend 138 = .ok (.iload 8, 2) := by decide +kernel
theorem dX11_blend_140 : decode cX11_blend 140 = .ok (.iload_n 3, 1) := by decide +kernel
theorem dX11_blend_141 : decode cX11_blend 141 = .ok (.iload 7, 2) := by decide +kernel
theorem dX11_blend_143 : decode cX11_blend 143 = .ok (.imul, 1) := by decide +kernel
theorem dX11_blend_144 : decode cX11_blend 144 = .ok (.if_icmp .lt 27, 3) := by decide +kernel
theorem dX11_blend_147 : decode cX11_blend 147 = .ok (.iload 4, 2) := by decide +kernel
theorem dX11_blend_149 : decode cX11_blend 149 = .ok (.iconst (-1), 1) := by decide +kernel
theorem dX11_blend_150 : decode cX11_blend 150 = .ok (.if_icmp .eq 13, 3) := by decide +kernel
theorem dX11_blend_153 : decode cX11_blend 153 = .ok (.iload 9, 2) := by decide +kernel
theorem dX11_blend_155 : decode cX11_blend 155 = .ok (.iload 5, 2) := by decide +kernel
theorem dX11_blend_157 : decode cX11_blend 157 = .ok (.if_icmp .lt 6, 3) := by decide +kernel
theorem dX11_blend_160 : decode cX11_blend 160 = .ok (.goto 11, 3) := by decide +kernel
theorem dX11_blend_163 : decode cX11_blend 163 = .ok (.iload 6, 2) := by decide +kernel
theorem dX11_blend_165 : decode cX11_blend 165 = .ok (.istore 4, 2) := by decide +kernel
theorem dX11_blend_167 : decode cX11_blend 167 = .ok (.iload 9, 2) := by decide +kernel
theorem dX11_blend_169 : decode cX11_blend 169 = .ok (.istore 5, 2) := by decide +kernel
theorem dX11_blend_171 : decode cX11_blend 171 = .ok (.iinc 6 1, 3) := by decide +kernel
theorem dX11_blend_174 : decode cX11_blend 174 = .ok (.goto (-143), 3) := by decide +kernel
theorem dX11_blend_177 : decode cX11_blend 177 = .ok (.iload 4, 2) := by decide +kernel
theorem dX11_blend_179 : decode cX11_blend 179 = .ok (.ireturn, 1) := by decide +kernel
theorem dX11_count_0 : decode cX11_count 0 = .ok (.iconst 0, 1) := by decide +kernel
theorem dX11_count_1 : decode cX11_count 1 = .ok (.istore_n 2, 1) := by decide +kernel
theorem dX11_count_2 : decode cX11_count 2 = .ok (.iload_n 1, 1) := by decide +kernel
theorem dX11_count_3 : decode cX11_count 3 = .ok (.tableswitch 79 0 3 #[29, 34, 39, 44], 29) := by decide +kernel
theorem dX11_count_32 : decode cX11_count 32 = .ok (.aload_n 0, 1) := by decide +kernel
theorem dX11_count_33 : decode cX11_count 33 = .ok (.getfield 93, 3) := by decide +kernel
theorem dX11_count_36 : decode cX11_count 36 = .ok (.ireturn, 1) := by decide +kernel
theorem dX11_count_37 : decode cX11_count 37 = .ok (.aload_n 0, 1) := by decide +kernel
theorem dX11_count_38 : decode cX11_count 38 = .ok (.getfield 162, 3) := by decide +kernel
theorem dX11_count_41 : decode cX11_count 41 = .ok (.ireturn, 1) := by decide +kernel
theorem dX11_count_42 : decode cX11_count 42 = .ok (.aload_n 0, 1) := by decide +kernel
theorem dX11_count_43 : decode cX11_count 43 = .ok (.getfield 189, 3) := by decide +kernel
theorem dX11_count_46 : decode cX11_count 46 = .ok (.ireturn, 1) := by decide +kernel
theorem dX11_count_47 : decode cX11_count 47 = .ok (.iconst 0, 1) := by decide +kernel
theorem dX11_count_48 : decode cX11_count 48 = .ok (.istore_n 3, 1) := by decide +kernel
theorem dX11_count_49 : decode cX11_count 49 = .ok (.iload_n 3, 1) := by decide +kernel
theorem dX11_count_50 : decode cX11_count 50 = .ok (.aload_n 0, 1) := by decide +kernel
theorem dX11_count_51 : decode cX11_count 51 = .ok (.getfield 93, 3) := by decide +kernel
theorem dX11_count_54 : decode cX11_count 54 = .ok (.if_icmp .ge 26, 3) := by decide +kernel
theorem dX11_count_57 : decode cX11_count 57 = .ok (.iload_n 2, 1) := by decide +kernel
theorem dX11_count_58 : decode cX11_count 58 = .ok (.aload_n 0, 1) := by decide +kernel
theorem dX11_count_59 : decode cX11_count 59 = .ok (.getfield 46, 3) := by decide +kernel
theorem dX11_count_62 : decode cX11_count 62 = .ok (.iload_n 3, 1) := by decide +kernel
