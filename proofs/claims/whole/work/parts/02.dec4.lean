theorem dX11_control_54 : decode cX11_control 54 = .ok (.if_icmp .le 6, 3) := by decide +kernel
theorem dX11_control_57 : decode cX11_control 57 = .ok (.bipush (-2), 2) := by decide +kernel
theorem dX11_control_59 : decode cX11_control 59 = .ok (.ireturn, 1) := by decide +kernel
theorem dX11_control_60 : decode cX11_control 60 = .ok (.aload_n 0, 1) := by decide +kernel
theorem dX11_control_61 : decode cX11_control 61 = .ok (.getfield 37, 3) := by decide +kernel
theorem dX11_control_64 : decode cX11_control 64 = .ok (.iload_n 1, 1) := by decide +kernel
theorem dX11_control_65 : decode cX11_control 65 = .ok (.iload_n 2, 1) := by decide +kernel
theorem dX11_control_66 : decode cX11_control 66 = .ok (.iastore, 1) := by decide +kernel
theorem dX11_control_67 : decode cX11_control 67 = .ok (.aload_n 0, 1) := by decide +kernel
theorem dX11_control_68 : decode cX11_control 68 = .ok (.getfield 40, 3) := by decide +kernel
theorem dX11_control_71 : decode cX11_control 71 = .ok (.iload_n 1, 1) := by decide +kernel
theorem dX11_control_72 : decode cX11_control 72 = .ok (.iload_n 3, 1) := by decide +kernel
theorem dX11_control_73 : decode cX11_control 73 = .ok (.iastore, 1) := by decide +kernel
theorem dX11_control_74 : decode cX11_control 74 = .ok (.aload_n 0, 1) := by decide +kernel
theorem dX11_control_75 : decode cX11_control 75 = .ok (.getfield 43, 3) := by decide +kernel
theorem dX11_control_78 : decode cX11_control 78 = .ok (.iload_n 1, 1) := by decide +kernel
theorem dX11_control_79 : decode cX11_control 79 = .ok (.iload 4, 2) := by decide +kernel
theorem dX11_control_81 : decode cX11_control 81 = .ok (.iastore, 1) := by decide +kernel
theorem dX11_control_82 : decode cX11_control 82 = .ok (.iconst 0, 1) := by decide +kernel
theorem dX11_control_83 : decode cX11_control 83 = .ok (.ireturn, 1) := by decide +kernel
theorem dX11_turn_0 : decode cX11_turn 0 = .ok (.aload_n 0, 1) := by decide +kernel
theorem dX11_turn_1 : decode cX11_turn 1 = .ok (.iload_n 1, 1) := by decide +kernel
theorem dX11_turn_2 : decode cX11_turn 2 = .ok (.invokevirtual 101, 3) := by decide +kernel
theorem dX11_turn_5 : decode cX11_turn 5 = .ok (.ifCond .ne 5, 3) := by decide +kernel
theorem dX11_turn_8 : decode cX11_turn 8 = .ok (.iconst (-1), 1) := by decide +kernel
theorem dX11_turn_9 : decode cX11_turn 9 = .ok (.ireturn, 1) := by decide +kernel
theorem dX11_turn_10 : decode cX11_turn 10 = .ok (.aload_n 0, 1) := by decide +kernel
theorem dX11_turn_11 : decode cX11_turn 11 = .ok (.getfield 9, 3) := by decide +kernel
theorem dX11_turn_14 : decode cX11_turn 14 = .ok (.iload_n 1, 1) := by decide +kernel
theorem dX11_turn_15 : decode cX11_turn 15 = .ok (.iaload, 1) := by decide +kernel
theorem dX11_turn_16 : decode cX11_turn 16 = .ok (.ifCond .eq 6, 3) := by decide +kernel
theorem dX11_turn_19 : decode cX11_turn 19 = .ok (.bipush (-3), 2) := by decide +kernel
theorem dX11_turn_21 : decode cX11_turn 21 = .ok (.ireturn, 1) := by decide +kernel
theorem dX11_turn_22 : decode cX11_turn 22 = .ok (.iload_n 2, 1) := by decide +kernel
theorem dX11_turn_23 : decode cX11_turn 23 = .ok (.iconst 0, 1) := by decide +kernel
theorem dX11_turn_24 : decode cX11_turn 24 = .ok (.iconst 1, 1) := by decide +kernel
theorem dX11_turn_25 : decode cX11_turn 25 = .ok (.invokestatic 97, 3) := by decide +kernel
theorem dX11_turn_28 : decode cX11_turn 28 = .ok (.ifCond .ne 6, 3) := by decide +kernel
theorem dX11_turn_31 : decode cX11_turn 31 = .ok (.bipush (-2), 2) := by decide +kernel
theorem dX11_turn_33 : decode cX11_turn 33 = .ok (.ireturn, 1) := by decide +kernel
theorem dX11_turn_34 : decode cX11_turn 34 = .ok (.aload_n 0, 1) := by decide +kernel
theorem dX11_turn_35 : decode cX11_turn 35 = .ok (.getfield 46, 3) := by decide +kernel
theorem dX11_turn_38 : decode cX11_turn 38 = .ok (.iload_n 1, 1) := by decide +kernel
theorem dX11_turn_39 : decode cX11_turn 39 = .ok (.baload, 1) := by decide +kernel
theorem dX11_turn_40 : decode cX11_turn 40 = .ok (.ifCond .eq 7, 3) := by decide +kernel
theorem dX11_turn_43 : decode cX11_turn 43 = .ok (.iconst 1, 1) := by decide +kernel
theorem dX11_turn_44 : decode cX11_turn 44 = .ok (.goto 4, 3) := by decide +kernel
theorem dX11_turn_47 : decode cX11_turn 47 = .ok (.iconst 0, 1) := by decide +kernel
theorem dX11_turn_48 : decode cX11_turn 48 = .ok (.istore_n 3, 1) := by decide +kernel
theorem dX11_turn_49 : decode cX11_turn 49 = .ok (.aload_n 0, 1) := by decide +kernel
theorem dX11_turn_50 : decode cX11_turn 50 = .ok (.getfield 46, 3) := by decide +kernel
theorem dX11_turn_53 : decode cX11_turn 53 = .ok (.iload_n 1, 1) := by decide +kernel
theorem dX11_turn_54 : decode cX11_turn 54 = .ok (.iload_n 2, 1) := by decide +kernel
theorem dX11_turn_55 : decode cX11_turn 55 = .ok (.iconst 1, 1) := by decide +kernel
theorem dX11_turn_56 : decode cX11_turn 56 = .ok (.if_icmp .ne 7, 3) := by decide +kernel
theorem dX11_turn_59 : decode cX11_turn 59 = .ok (.iconst 1, 1) := by decide +kernel
theorem dX11_turn_60 : decode cX11_turn 60 = .ok (.goto 4, 3) := by decide +kernel
theorem dX11_turn_63 : decode cX11_turn 63 = .ok (.iconst 0, 1) := by decide +kernel
theorem dX11_turn_64 : decode cX11_turn 64 = .ok (.bastore, 1) := by decide +kernel
theorem dX11_turn_65 : decode cX11_turn 65 = .ok (.iload_n 3, 1) := by decide +kernel
theorem dX11_turn_66 : decode cX11_turn 66 = .ok (.ireturn, 1) := by decide +kernel
theorem dX11_spot_0 : decode cX11_spot 0 = .ok (.bipush 8, 2) := by decide +kernel
theorem dX11_spot_2 : decode cX11_spot 2 = .ok (.iload_n 0, 1) := by decide +kernel
theorem dX11_spot_3 : decode cX11_spot 3 = .ok (.imul, 1) := by decide +kernel
theorem dX11_spot_4 : decode cX11_spot 4 = .ok (.iload_n 1, 1) := by decide +kernel
theorem dX11_spot_5 : decode cX11_spot 5 = .ok (.iadd, 1) := by decide +kernel
theorem dX11_spot_6 : decode cX11_spot 6 = .ok (.ireturn, 1) := by decide +kernel
theorem dX11_outAt_0 : decode cX11_outAt 0 = .ok (.iconst 2, 1) := by decide +kernel
theorem dX11_outAt_1 : decode cX11_outAt 1 = .ok (.iload_n 1, 1) := by decide +kernel
theorem dX11_outAt_2 : decode cX11_outAt 2 = .ok (.imul, 1) := by decide +kernel
theorem dX11_outAt_3 : decode cX11_outAt 3 = .ok (.iload_n 2, 1) := by decide +kernel
theorem dX11_outAt_4 : decode cX11_outAt 4 = .ok (.iadd, 1) := by decide +kernel
theorem dX11_outAt_5 : decode cX11_outAt 5 = .ok (.bipush 8, 2) := by decide +kernel
theorem dX11_outAt_7 : decode cX11_outAt 7 = .ok (.imul, 1) := by decide +kernel
theorem dX11_outAt_8 : decode cX11_outAt 8 = .ok (.iload_n 3, 1) := by decide +kernel
theorem dX11_outAt_9 : decode cX11_outAt 9 = .ok (.iadd, 1) := by decide +kernel
theorem dX11_outAt_10 : decode cX11_outAt 10 = .ok (.ireturn, 1) := by decide +kernel
theorem dX11_gives_0 : decode cX11_gives 0 = .ok (.aload_n 0, 1) := by decide +kernel
theorem dX11_gives_1 : decode cX11_gives 1 = .ok (.getfield 9, 3) := by decide +kernel
theorem dX11_gives_4 : decode cX11_gives 4 = .ok (.iload_n 1, 1) := by decide +kernel
theorem dX11_gives_5 : decode cX11_gives 5 = .ok (.iaload, 1) := by decide +kernel
theorem dX11_gives_6 : decode cX11_gives 6 = .ok (.tableswitch 206 0 6 #[42, 110, 147, 173, 173, 194, 200], 42) := by decide +kernel
theorem dX11_gives_48 : decode cX11_gives 48 = .ok (.iconst 0, 1) := by decide +kernel
theorem dX11_gives_49 : decode cX11_gives 49 = .ok (.istore_n 2, 1) := by decide +kernel
theorem dX11_gives_50 : decode cX11_gives 50 = .ok (.iload_n 2, 1) := by decide +kernel
theorem dX11_gives_51 : decode cX11_gives 51 = .ok (.bipush 8, 2) := by decide +kernel
theorem dX11_gives_53 : decode cX11_gives 53 = .ok (.if_icmp .ge 62, 3) := by decide +kernel
theorem dX11_gives_56 : decode cX11_gives 56 = .ok (.aload_n 0, 1) := by decide +kernel
theorem dX11_gives_57 : decode cX11_gives 57 = .ok (.getfield 46, 3) := by decide +kernel
theorem dX11_gives_60 : decode cX11_gives 60 = .ok (.iload_n 1, 1) := by decide +kernel
theorem dX11_gives_61 : decode cX11_gives 61 = .ok (.baload, 1) := by decide +kernel
theorem dX11_gives_62 : decode cX11_gives 62 = .ok (.ifCond .eq 53, 3) := by decide +kernel
theorem dX11_gives_65 : decode cX11_gives 65 = .ok (.aload_n 0, 1) := by decide +kernel
theorem dX11_gives_66 : decode cX11_gives 66 = .ok (.getfield 65, 3) := by decide +kernel
theorem dX11_gives_69 : decode cX11_gives 69 = .ok (.aload_n 0, 1) := by decide +kernel
theorem dX11_gives_70 : decode cX11_gives 70 = .ok (.iload_n 1, 1) := by decide +kernel
theorem dX11_gives_71 : decode cX11_gives 71 = .ok (.iconst 0, 1) := by decide +kernel
theorem dX11_gives_72 : decode cX11_gives 72 = .ok (.iload_n 2, 1) := by decide +kernel
theorem dX11_gives_73 : decode cX11_gives 73 = .ok (.invokevirtual 117, 3) := by decide +kernel
theorem dX11_gives_76 : decode cX11_gives 76 = .ok (.aload_n 0, 1) := by decide +kernel
theorem dX11_gives_77 : decode cX11_gives 77 = .ok (.getfield 19, 3) := by decide +kernel
theorem dX11_gives_80 : decode cX11_gives 80 = .ok (.iload_n 1, 1) := by decide +kernel
theorem dX11_gives_81 : decode cX11_gives 81 = .ok (.iload_n 2, 1) := by decide +kernel
theorem dX11_gives_82 : decode cX11_gives 82 = .ok (.invokestatic 121, 3) := by decide +kernel
theorem dX11_gives_85 : decode cX11_gives 85 = .ok (.iaload, 1) := by decide +kernel
theorem dX11_gives_86 : decode cX11_gives 86 = .ok (.iastore, 1) := by decide +kernel
theorem dX11_gives_87 : decode cX11_gives 87 = .ok (.aload_n 0, 1) := by decide +kernel
theorem dX11_gives_88 : decode cX11_gives 88 = .ok (.getfield 68, 3) := by decide +kernel
theorem dX11_gives_91 : decode cX11_gives 91 = .ok (.iload_n 2, 1) := by decide +kernel
theorem dX11_gives_92 : decode cX11_gives 92 = .ok (.iconst 2, 1) := by decide +kernel
theorem dX11_gives_93 : decode cX11_gives 93 = .ok (.irem, 1) := by decide +kernel
theorem dX11_gives_94 : decode cX11_gives 94 = .ok (.dup2, 1) := by decide +kernel
theorem dX11_gives_95 : decode cX11_gives 95 = .ok (.laload, 1) := by decide +kernel
theorem dX11_gives_96 : decode cX11_gives 96 = .ok (.aload_n 0, 1) := by decide +kernel
theorem dX11_gives_97 : decode cX11_gives 97 = .ok (.getfield 19, 3) := by decide +kernel
theorem dX11_gives_100 : decode cX11_gives 100 = .ok (.iload_n 1, 1) := by decide +kernel
theorem dX11_gives_101 : decode cX11_gives 101 = .ok (.iload_n 2, 1) := by decide +kernel
theorem dX11_gives_102 : decode cX11_gives 102 = .ok (.invokestatic 121, 3) := by decide +kernel
theorem dX11_gives_105 : decode cX11_gives 105 = .ok (.iaload, 1) := by decide +kernel
theorem dX11_gives_106 : decode cX11_gives 106 = .ok (.i2l, 1) := by decide +kernel
theorem dX11_gives_107 : decode cX11_gives 107 = .ok (.ladd, 1) := by decide +kernel
theorem dX11_gives_108 : decode cX11_gives 108 = .ok (.lastore, 1) := by decide +kernel
theorem dX11_gives_109 : decode cX11_gives 109 = .ok (.iinc 2 1, 3) := by decide +kernel
theorem dX11_gives_112 : decode cX11_gives 112 = .ok (.goto (-62), 3) := by decide +kernel
theorem dX11_gives_115 : decode cX11_gives 115 = .ok (.return_, 1) := by decide +kernel
theorem dX11_gives_116 : decode cX11_gives 116 = .ok (.iconst 0, 1) := by decide +kernel
theorem dX11_gives_117 : decode cX11_gives 117 = .ok (.istore_n 2, 1) := by decide +kernel
theorem dX11_gives_118 : decode cX11_gives 118 = .ok (.iload_n 2, 1) := by decide +kernel
theorem dX11_gives_119 : decode cX11_gives 119 = .ok (.bipush 8, 2) := by decide +kernel
theorem dX11_gives_121 : decode cX11_gives 121 = .ok (.if_icmp .ge 31, 3) := by decide +kernel
theorem dX11_gives_124 : decode cX11_gives 124 = .ok (.aload_n 0, 1) := by decide +kernel
theorem dX11_gives_125 : decode cX11_gives 125 = .ok (.getfield 65, 3) := by decide +kernel
theorem dX11_gives_128 : decode cX11_gives 128 = .ok (.aload_n 0, 1) := by decide +kernel
theorem dX11_gives_129 : decode cX11_gives 129 = .ok (.iload_n 1, 1) := by decide +kernel
theorem dX11_gives_130 : decode cX11_gives 130 = .ok (.iconst 0, 1) := by decide +kernel
theorem dX11_gives_131 : decode cX11_gives 131 = .ok (.iload_n 2, 1) := by decide +kernel
theorem dX11_gives_132 : decode cX11_gives 132 = .ok (.invokevirtual 117, 3) := by decide +kernel
theorem dX11_gives_135 : decode cX11_gives 135 = .ok (.aload_n 0, 1) := by decide +kernel
theorem dX11_gives_136 : decode cX11_gives 136 = .ok (.getfield 16, 3) := by decide +kernel
theorem dX11_gives_139 : decode cX11_gives 139 = .ok (.iload_n 1, 1) := by decide +kernel
theorem dX11_gives_140 : decode cX11_gives 140 = .ok (.iload_n 2, 1) := by decide +kernel
theorem dX11_gives_141 : decode cX11_gives 141 = .ok (.invokestatic 121, 3) := by decide +kernel
theorem dX11_gives_144 : decode cX11_gives 144 = .ok (.iaload, 1) := by decide +kernel
theorem dX11_gives_145 : decode cX11_gives 145 = .ok (.iastore, 1) := by decide +kernel
theorem dX11_gives_146 : decode cX11_gives 146 = .ok (.iinc 2 1, 3) := by decide +kernel
theorem dX11_gives_149 : decode cX11_gives 149 = .ok (.goto (-31), 3) := by decide +kernel
theorem dX11_gives_152 : decode cX11_gives 152 = .ok (.return_, 1) := by decide +kernel
theorem dX11_gives_153 : decode cX11_gives 153 = .ok (.iconst 0, 1) := by decide +kernel
theorem dX11_gives_154 : decode cX11_gives 154 = .ok (.istore_n 2, 1) := by decide +kernel
theorem dX11_gives_155 : decode cX11_gives 155 = .ok (.iload_n 2, 1) := by decide +kernel
theorem dX11_gives_156 : decode cX11_gives 156 = .ok (.bipush 8, 2) := by decide +kernel
theorem dX11_gives_158 : decode cX11_gives 158 = .ok (.if_icmp .ge 20, 3) := by decide +kernel
theorem dX11_gives_161 : decode cX11_gives 161 = .ok (.aload_n 0, 1) := by decide +kernel
theorem dX11_gives_162 : decode cX11_gives 162 = .ok (.iload_n 1, 1) := by decide +kernel
theorem dX11_gives_163 : decode cX11_gives 163 = .ok (.iload_n 2, 1) := by decide +kernel
theorem dX11_gives_164 : decode cX11_gives 164 = .ok (.iconst 2, 1) := by decide +kernel
theorem dX11_gives_165 : decode cX11_gives 165 = .ok (.idiv, 1) := by decide +kernel
theorem dX11_gives_166 : decode cX11_gives 166 = .ok (.iload_n 2, 1) := by decide +kernel
theorem dX11_gives_167 : decode cX11_gives 167 = .ok (.iconst 2, 1) := by decide +kernel
theorem dX11_gives_168 : decode cX11_gives 168 = .ok (.irem, 1) := by decide +kernel
theorem dX11_gives_169 : decode cX11_gives 169 = .ok (.invokevirtual 124, 3) := by decide +kernel
theorem dX11_gives_172 : decode cX11_gives 172 = .ok (.iinc 2 1, 3) := by decide +kernel
theorem dX11_gives_175 : decode cX11_gives 175 = .ok (.goto (-20), 3) := by decide +kernel
theorem dX11_gives_178 : decode cX11_gives 178 = .ok (.return_, 1) := by decide +kernel
theorem dX11_gives_179 : decode cX11_gives 179 = .ok (.iconst 0, 1) := by decide +kernel
theorem dX11_gives_180 : decode cX11_gives 180 = .ok (.istore_n 2, 1) := by decide +kernel
theorem dX11_gives_181 : decode cX11_gives 181 = .ok (.iload_n 2, 1) := by decide +kernel
theorem dX11_gives_182 : decode cX11_gives 182 = .ok (.bipush 8, 2) := by decide +kernel
theorem dX11_gives_184 : decode cX11_gives 184 = .ok (.if_icmp .ge 15, 3) := by decide +kernel
theorem dX11_gives_187 : decode cX11_gives 187 = .ok (.aload_n 0, 1) := by decide +kernel
theorem dX11_gives_188 : decode cX11_gives 188 = .ok (.iload_n 1, 1) := by decide +kernel
theorem dX11_gives_189 : decode cX11_gives 189 = .ok (.iload_n 2, 1) := by decide +kernel
theorem dX11_gives_190 : decode cX11_gives 190 = .ok (.invokevirtual 128, 3) := by decide +kernel
theorem dX11_gives_193 : decode cX11_gives 193 = .ok (.iinc 2 1, 3) := by decide +kernel
theorem dX11_gives_196 : decode cX11_gives 196 = .ok (.goto (-15), 3) := by decide +kernel
theorem dX11_gives_199 : decode cX11_gives 199 = .ok (.return_, 1) := by decide +kernel
theorem dX11_gives_200 : decode cX11_gives 200 = .ok (.aload_n 0, 1) := by decide +kernel
theorem dX11_gives_201 : decode cX11_gives 201 = .ok (.iload_n 1, 1) := by decide +kernel
theorem dX11_gives_202 : decode cX11_gives 202 = .ok (.invokevirtual 132, 3) := by decide +kernel
theorem dX11_gives_205 : decode cX11_gives 205 = .ok (.return_, 1) := by decide +kernel
theorem dX11_gives_206 : decode cX11_gives 206 = .ok (.aload_n 0, 1) := by decide +kernel
theorem dX11_gives_207 : decode cX11_gives 207 = .ok (.iload_n 1, 1) := by decide +kernel
theorem dX11_gives_208 : decode cX11_gives 208 = .ok (.invokevirtual 136, 3) := by decide +kernel
theorem dX11_gives_211 : decode cX11_gives 211 = .ok (.return_, 1) := by decide +kernel
theorem dX11_gives_212 : decode cX11_gives 212 = .ok (.return_, 1) := by decide +kernel
theorem dX11_mills_0 : decode cX11_mills 0 = .ok (.aload_n 0, 1) := by decide +kernel
theorem dX11_mills_1 : decode cX11_mills 1 = .ok (.getfield 16, 3) := by decide +kernel
theorem dX11_mills_4 : decode cX11_mills 4 = .ok (.iload_n 1, 1) := by decide +kernel
theorem dX11_mills_5 : decode cX11_mills 5 = .ok (.iconst 2, 1) := by decide +kernel
theorem dX11_mills_6 : decode cX11_mills 6 = .ok (.iload_n 2, 1) := by decide +kernel
theorem dX11_mills_7 : decode cX11_mills 7 = .ok (.imul, 1) := by decide +kernel
theorem dX11_mills_8 : decode cX11_mills 8 = .ok (.iload_n 3, 1) := by decide +kernel
theorem dX11_mills_9 : decode cX11_mills 9 = .ok (.iadd, 1) := by decide +kernel
theorem dX11_mills_10 : decode cX11_mills 10 = .ok (.invokestatic 121, 3) := by decide +kernel
theorem dX11_mills_13 : decode cX11_mills 13 = .ok (.iaload, 1) := by decide +kernel
theorem dX11_mills_14 : decode cX11_mills 14 = .ok (.istore 4, 2) := by decide +kernel
theorem dX11_mills_16 : decode cX11_mills 16 = .ok (.iload 4, 2) := by decide +kernel
theorem dX11_mills_18 : decode cX11_mills 18 = .ok (.istore 5, 2) := by decide +kernel
theorem dX11_mills_20 : decode cX11_mills 20 = .ok (.iload_n 2, 1) := by decide +kernel
theorem dX11_mills_21 : decode cX11_mills 21 = .ok (.iconst 1, 1) := by decide +kernel
theorem dX11_mills_22 : decode cX11_mills 22 = .ok (.iadd, 1) := by decide +kernel
theorem dX11_mills_23 : decode cX11_mills 23 = .ok (.istore 6, 2) := by decide +kernel
theorem dX11_mills_25 : decode cX11_mills 25 = .ok (.iload 6, 2) := by decide +kernel
theorem dX11_mills_27 : decode cX11_mills 27 = .ok (.iconst 4, 1) := by decide +kernel
theorem dX11_mills_28 : decode cX11_mills 28 = .ok (.if_icmp .ge 66, 3) := by decide +kernel
theorem dX11_mills_31 : decode cX11_mills 31 = .ok (.iload 4, 2) := by decide +kernel
theorem dX11_mills_33 : decode cX11_mills 33 = .ok (.i2l, 1) := by decide +kernel
theorem dX11_mills_34 : decode cX11_mills 34 = .ok (.aload_n 0, 1) := by decide +kernel
theorem dX11_mills_35 : decode cX11_mills 35 = .ok (.getfield 22, 3) := by decide +kernel
theorem dX11_mills_38 : decode cX11_mills 38 = .ok (.bipush 16, 2) := by decide +kernel
theorem dX11_mills_40 : decode cX11_mills 40 = .ok (.iload_n 1, 1) := by decide +kernel
theorem dX11_mills_41 : decode cX11_mills 41 = .ok (.imul, 1) := by decide +kernel
theorem dX11_mills_42 : decode cX11_mills 42 = .ok (.iconst 4, 1) := by decide +kernel
theorem dX11_mills_43 : decode cX11_mills 43 = .ok (.iload_n 2, 1) := by decide +kernel
theorem dX11_mills_44 : decode cX11_mills 44 = .ok (.imul, 1) := by decide +kernel
theorem dX11_mills_45 : decode cX11_mills 45 = .ok (.iadd, 1) := by decide +kernel
theorem dX11_mills_46 : decode cX11_mills 46 = .ok (.iload 6, 2) := by decide +kernel
theorem dX11_mills_48 : decode cX11_mills 48 = .ok (.iadd, 1) := by decide +kernel
theorem dX11_mills_49 : decode cX11_mills 49 = .ok (.iaload, 1) := by decide +kernel
theorem dX11_mills_50 : decode cX11_mills 50 = .ok (.i2l, 1) := by decide +kernel
theorem dX11_mills_51 : decode cX11_mills 51 = .ok (.lmul, 1) := by decide +kernel
theorem dX11_mills_52 : decode cX11_mills 52 = .ok (.ldc2_w 139, 3) := by decide +kernel
theorem dX11_mills_55 : decode cX11_mills 55 = .ok (.ldiv, 1) := by decide +kernel
theorem dX11_mills_56 : decode cX11_mills 56 = .ok (.l2i, 1) := by decide +kernel
theorem dX11_mills_57 : decode cX11_mills 57 = .ok (.istore 7, 2) := by decide +kernel
theorem dX11_mills_59 : decode cX11_mills 59 = .ok (.aload_n 0, 1) := by decide +kernel
theorem dX11_mills_60 : decode cX11_mills 60 = .ok (.getfield 65, 3) := by decide +kernel
theorem dX11_mills_63 : decode cX11_mills 63 = .ok (.aload_n 0, 1) := by decide +kernel
theorem dX11_mills_64 : decode cX11_mills 64 = .ok (.iload_n 1, 1) := by decide +kernel
theorem dX11_mills_65 : decode cX11_mills 65 = .ok (.iconst 0, 1) := by decide +kernel
theorem dX11_mills_66 : decode cX11_mills 66 = .ok (.iconst 2, 1) := by decide +kernel
theorem dX11_mills_67 : decode cX11_mills 67 = .ok (.iload 6, 2) := by decide +kernel
theorem dX11_mills_69 : decode cX11_mills 69 = .ok (.imul, 1) := by decide +kernel
theorem dX11_mills_70 : decode cX11_mills 70 = .ok (.iload_n 3, 1) := by decide +kernel
theorem dX11_mills_71 : decode cX11_mills 71 = .ok (.iadd, 1) := by decide +kernel
theorem dX11_mills_72 : decode cX11_mills 72 = .ok (.invokevirtual 117, 3) := by decide +kernel
theorem dX11_mills_75 : decode cX11_mills 75 = .ok (.dup2, 1) := by decide +kernel
theorem dX11_mills_76 : decode cX11_mills 76 = .ok (.iaload, 1) := by decide +kernel
theorem dX11_mills_77 : decode cX11_mills 77 = .ok (.iload 7, 2) := by decide +kernel
theorem dX11_mills_79 : decode cX11_mills 79 = .ok (.iadd, 1) := by decide +kernel
theorem dX11_mills_80 : decode cX11_mills 80 = .ok (.iastore, 1) := by decide +kernel
theorem dX11_mills_81 : decode cX11_mills 81 = .ok (.iload 5, 2) := by decide +kernel
theorem dX11_mills_83 : decode cX11_mills 83 = .ok (.iload 7, 2) := by decide +kernel
theorem dX11_mills_85 : decode cX11_mills 85 = .ok (.isub, 1) := by decide +kernel
theorem dX11_mills_86 : decode cX11_mills 86 = .ok (.istore 5, 2) := by decide +kernel
theorem dX11_mills_88 : decode cX11_mills 88 = .ok (.iinc 6 1, 3) := by decide +kernel
theorem dX11_mills_91 : decode cX11_mills 91 = .ok (.goto (-66), 3) := by decide +kernel
theorem dX11_mills_94 : decode cX11_mills 94 = .ok (.aload_n 0, 1) := by decide +kernel
theorem dX11_mills_95 : decode cX11_mills 95 = .ok (.getfield 65, 3) := by decide +kernel
theorem dX11_mills_98 : decode cX11_mills 98 = .ok (.aload_n 0, 1) := by decide +kernel
theorem dX11_mills_99 : decode cX11_mills 99 = .ok (.iload_n 1, 1) := by decide +kernel
theorem dX11_mills_100 : decode cX11_mills 100 = .ok (.iconst 0, 1) := by decide +kernel
theorem dX11_mills_101 : decode cX11_mills 101 = .ok (.iconst 2, 1) := by decide +kernel
theorem dX11_mills_102 : decode cX11_mills 102 = .ok (.iload_n 2, 1) := by decide +kernel
theorem dX11_mills_103 : decode cX11_mills 103 = .ok (.imul, 1) := by decide +kernel
theorem dX11_mills_104 : decode cX11_mills 104 = .ok (.iload_n 3, 1) := by decide +kernel
theorem dX11_mills_105 : decode cX11_mills 105 = .ok (.iadd, 1) := by decide +kernel
theorem dX11_mills_106 : decode cX11_mills 106 = .ok (.invokevirtual 117, 3) := by decide +kernel
theorem dX11_mills_109 : decode cX11_mills 109 = .ok (.dup2, 1) := by decide +kernel
theorem dX11_mills_110 : decode cX11_mills 110 = .ok (.iaload, 1) := by decide +kernel
theorem dX11_mills_111 : decode cX11_mills 111 = .ok (.iload 5, 2) := by decide +kernel
theorem dX11_mills_113 : decode cX11_mills 113 = .ok (.iadd, 1) := by decide +kernel
theorem dX11_mills_114 : decode cX11_mills 114 = .ok (.iastore, 1) := by decide +kernel
theorem dX11_mills_115 : decode cX11_mills 115 = .ok (.return_, 1) := by decide +kernel
theorem dX11_parts_0 : decode cX11_parts 0 = .ok (.aload_n 0, 1) := by decide +kernel
theorem dX11_parts_1 : decode cX11_parts 1 = .ok (.getfield 16, 3) := by decide +kernel
theorem dX11_parts_4 : decode cX11_parts 4 = .ok (.iload_n 1, 1) := by decide +kernel
theorem dX11_parts_5 : decode cX11_parts 5 = .ok (.iload_n 2, 1) := by decide +kernel
theorem dX11_parts_6 : decode cX11_parts 6 = .ok (.invokestatic 121, 3) := by decide +kernel
theorem dX11_parts_9 : decode cX11_parts 9 = .ok (.iaload, 1) := by decide +kernel
theorem dX11_parts_10 : decode cX11_parts 10 = .ok (.istore_n 3, 1) := by decide +kernel
theorem dX11_parts_11 : decode cX11_parts 11 = .ok (.iload_n 3, 1) := by decide +kernel
theorem dX11_parts_12 : decode cX11_parts 12 = .ok (.i2l, 1) := by decide +kernel
theorem dX11_parts_13 : decode cX11_parts 13 = .ok (.aload_n 0, 1) := by decide +kernel
theorem dX11_parts_14 : decode cX11_parts 14 = .ok (.getfield 25, 3) := by decide +kernel
theorem dX11_parts_17 : decode cX11_parts 17 = .ok (.iconst 4, 1) := by decide +kernel
theorem dX11_parts_18 : decode cX11_parts 18 = .ok (.iload_n 1, 1) := by decide +kernel
theorem dX11_parts_19 : decode cX11_parts 19 = .ok (.imul, 1) := by decide +kernel
theorem dX11_parts_20 : decode cX11_parts 20 = .ok (.aload_n 0, 1) := by decide +kernel
theorem dX11_parts_21 : decode cX11_parts 21 = .ok (.getfield 9, 3) := by decide +kernel
theorem dX11_parts_24 : decode cX11_parts 24 = .ok (.iload_n 1, 1) := by decide +kernel
theorem dX11_parts_25 : decode cX11_parts 25 = .ok (.iaload, 1) := by decide +kernel
theorem dX11_parts_26 : decode cX11_parts 26 = .ok (.iconst 3, 1) := by decide +kernel
theorem dX11_parts_27 : decode cX11_parts 27 = .ok (.if_icmp .ne 9, 3) := by decide +kernel
theorem dX11_parts_30 : decode cX11_parts 30 = .ok (.iload_n 2, 1) := by decide +kernel
theorem dX11_parts_31 : decode cX11_parts 31 = .ok (.iconst 2, 1) := by decide +kernel
theorem dX11_parts_32 : decode cX11_parts 32 = .ok (.idiv, 1) := by decide +kernel
theorem dX11_parts_33 : decode cX11_parts 33 = .ok (.goto 6, 3) := by decide +kernel
theorem dX11_parts_36 : decode cX11_parts 36 = .ok (.iload_n 2, 1) := by decide +kernel
theorem dX11_parts_37 : decode cX11_parts 37 = .ok (.iconst 2, 1) := by decide +kernel
theorem dX11_parts_38 : decode cX11_parts 38 = .ok (.irem, 1) := by decide +kernel
theorem dX11_parts_39 : decode cX11_parts 39 = .ok (.iadd, 1) := by decide +kernel
theorem dX11_parts_40 : decode cX11_parts 40 = .ok (.iaload, 1) := by decide +kernel
theorem dX11_parts_41 : decode cX11_parts 41 = .ok (.i2l, 1) := by decide +kernel
theorem dX11_parts_42 : decode cX11_parts 42 = .ok (.lmul, 1) := by decide +kernel
theorem dX11_parts_43 : decode cX11_parts 43 = .ok (.aload_n 0, 1) := by decide +kernel
theorem dX11_parts_44 : decode cX11_parts 44 = .ok (.getfield 28, 3) := by decide +kernel
theorem dX11_parts_47 : decode cX11_parts 47 = .ok (.iload_n 1, 1) := by decide +kernel
theorem dX11_parts_48 : decode cX11_parts 48 = .ok (.iload_n 2, 1) := by decide +kernel
theorem dX11_parts_49 : decode cX11_parts 49 = .ok (.invokestatic 121, 3) := by decide +kernel
theorem dX11_parts_52 : decode cX11_parts 52 = .ok (.iaload, 1) := by decide +kernel
theorem dX11_parts_53 : decode cX11_parts 53 = .ok (.i2l, 1) := by decide +kernel
theorem dX11_parts_54 : decode cX11_parts 54 = .ok (.ladd, 1) := by decide +kernel
theorem dX11_parts_55 : decode cX11_parts 55 = .ok (.lstore 4, 2) := by decide +kernel
theorem dX11_parts_57 : decode cX11_parts 57 = .ok (.lload 4, 2) := by decide +kernel
theorem dX11_parts_59 : decode cX11_parts 59 = .ok (.ldc2_w 139, 3) := by decide +kernel
theorem dX11_parts_62 : decode cX11_parts 62 = .ok (.ldiv, 1) := by decide +kernel
theorem dX11_parts_63 : decode cX11_parts 63 = .ok (.l2i, 1) := by decide +kernel
theorem dX11_parts_64 : decode cX11_parts 64 = .ok (.istore 6, 2) := by decide +kernel
theorem dX11_parts_66 : decode cX11_parts 66 = .ok (.aload_n 0, 1) := by decide +kernel
theorem dX11_parts_67 : decode cX11_parts 67 = .ok (.getfield 28, 3) := by decide +kernel
theorem dX11_parts_70 : decode cX11_parts 70 = .ok (.iload_n 1, 1) := by decide +kernel
theorem dX11_parts_71 : decode cX11_parts 71 = .ok (.iload_n 2, 1) := by decide +kernel
theorem dX11_parts_72 : decode cX11_parts 72 = .ok (.invokestatic 121, 3) := by decide +kernel
theorem dX11_parts_75 : decode cX11_parts 75 = .ok (.lload 4, 2) := by decide +kernel
theorem dX11_parts_77 : decode cX11_parts 77 = .ok (.ldc2_w 139, 3) := by decide +kernel
theorem dX11_parts_80 : decode cX11_parts 80 = .ok (.lrem, 1) := by decide +kernel
theorem dX11_parts_81 : decode cX11_parts 81 = .ok (.l2i, 1) := by decide +kernel
theorem dX11_parts_82 : decode cX11_parts 82 = .ok (.iastore, 1) := by decide +kernel
theorem dX11_parts_83 : decode cX11_parts 83 = .ok (.aload_n 0, 1) := by decide +kernel
theorem dX11_parts_84 : decode cX11_parts 84 = .ok (.getfield 65, 3) := by decide +kernel
theorem dX11_parts_87 : decode cX11_parts 87 = .ok (.aload_n 0, 1) := by decide +kernel
theorem dX11_parts_88 : decode cX11_parts 88 = .ok (.iload_n 1, 1) := by decide +kernel
theorem dX11_parts_89 : decode cX11_parts 89 = .ok (.iconst 0, 1) := by decide +kernel
theorem dX11_parts_90 : decode cX11_parts 90 = .ok (.iload_n 2, 1) := by decide +kernel
theorem dX11_parts_91 : decode cX11_parts 91 = .ok (.invokevirtual 117, 3) := by decide +kernel
theorem dX11_parts_94 : decode cX11_parts 94 = .ok (.iload 6, 2) := by decide +kernel
theorem dX11_parts_96 : decode cX11_parts 96 = .ok (.iastore, 1) := by decide +kernel
theorem dX11_parts_97 : decode cX11_parts 97 = .ok (.aload_n 0, 1) := by decide +kernel
theorem dX11_parts_98 : decode cX11_parts 98 = .ok (.getfield 65, 3) := by decide +kernel
theorem dX11_parts_101 : decode cX11_parts 101 = .ok (.aload_n 0, 1) := by decide +kernel
theorem dX11_parts_102 : decode cX11_parts 102 = .ok (.iload_n 1, 1) := by decide +kernel
theorem dX11_parts_103 : decode cX11_parts 103 = .ok (.iconst 1, 1) := by decide +kernel
theorem dX11_parts_104 : decode cX11_parts 104 = .ok (.iload_n 2, 1) := by decide +kernel
theorem dX11_parts_105 : decode cX11_parts 105 = .ok (.invokevirtual 117, 3) := by decide +kernel
theorem dX11_parts_108 : decode cX11_parts 108 = .ok (.iload_n 3, 1) := by decide +kernel
theorem dX11_parts_109 : decode cX11_parts 109 = .ok (.iload 6, 2) := by decide +kernel
theorem dX11_parts_111 : decode cX11_parts 111 = .ok (.isub, 1) := by decide +kernel
theorem dX11_parts_112 : decode cX11_parts 112 = .ok (.iastore, 1) := by decide +kernel
theorem dX11_parts_113 : decode cX11_parts 113 = .ok (.return_, 1) := by decide +kernel
theorem dX11_slotAt_0 : decode cX11_slotAt 0 = .ok (.bipush 7, 2) := by decide +kernel
theorem dX11_slotAt_2 : decode cX11_slotAt 2 = .ok (.iload_n 1, 1) := by decide +kernel
theorem dX11_slotAt_3 : decode cX11_slotAt 3 = .ok (.imul, 1) := by decide +kernel
theorem dX11_slotAt_4 : decode cX11_slotAt 4 = .ok (.iload_n 2, 1) := by decide +kernel
theorem dX11_slotAt_5 : decode cX11_slotAt 5 = .ok (.iadd, 1) := by decide +kernel
theorem dX11_slotAt_6 : decode cX11_slotAt 6 = .ok (.bipush 8, 2) := by decide +kernel
theorem dX11_slotAt_8 : decode cX11_slotAt 8 = .ok (.imul, 1) := by decide +kernel
theorem dX11_slotAt_9 : decode cX11_slotAt 9 = .ok (.iload_n 3, 1) := by decide +kernel
theorem dX11_slotAt_10 : decode cX11_slotAt 10 = .ok (.iadd, 1) := by decide +kernel
theorem dX11_slotAt_11 : decode cX11_slotAt 11 = .ok (.ireturn, 1) := by decide +kernel
theorem dX11_tanks_0 : decode cX11_tanks 0 = .ok (.aload_n 0, 1) := by decide +kernel
theorem dX11_tanks_1 : decode cX11_tanks 1 = .ok (.getfield 50, 3) := by decide +kernel
theorem dX11_tanks_4 : decode cX11_tanks 4 = .ok (.iload_n 1, 1) := by decide +kernel
theorem dX11_tanks_5 : decode cX11_tanks 5 = .ok (.iaload, 1) := by decide +kernel
theorem dX11_tanks_6 : decode cX11_tanks 6 = .ok (.istore_n 2, 1) := by decide +kernel
theorem dX11_tanks_7 : decode cX11_tanks 7 = .ok (.iconst 0, 1) := by decide +kernel
theorem dX11_tanks_8 : decode cX11_tanks 8 = .ok (.istore_n 3, 1) := by decide +kernel
theorem dX11_tanks_9 : decode cX11_tanks 9 = .ok (.iload_n 3, 1) := by decide +kernel
theorem dX11_tanks_10 : decode cX11_tanks 10 = .ok (.bipush 8, 2) := by decide +kernel
theorem dX11_tanks_12 : decode cX11_tanks 12 = .ok (.if_icmp .ge 31, 3) := by decide +kernel
theorem dX11_tanks_15 : decode cX11_tanks 15 = .ok (.aload_n 0, 1) := by decide +kernel
theorem dX11_tanks_16 : decode cX11_tanks 16 = .ok (.getfield 53, 3) := by decide +kernel
theorem dX11_tanks_19 : decode cX11_tanks 19 = .ok (.aload_n 0, 1) := by decide +kernel
theorem dX11_tanks_20 : decode cX11_tanks 20 = .ok (.iload_n 1, 1) := by decide +kernel
theorem dX11_tanks_21 : decode cX11_tanks 21 = .ok (.iload_n 2, 1) := by decide +kernel
theorem dX11_tanks_22 : decode cX11_tanks 22 = .ok (.iload_n 3, 1) := by decide +kernel
theorem dX11_tanks_23 : decode cX11_tanks 23 = .ok (.invokevirtual 141, 3) := by decide +kernel
theorem dX11_tanks_26 : decode cX11_tanks 26 = .ok (.aload_n 0, 1) := by decide +kernel
theorem dX11_tanks_27 : decode cX11_tanks 27 = .ok (.getfield 16, 3) := by decide +kernel
theorem dX11_tanks_30 : decode cX11_tanks 30 = .ok (.iload_n 1, 1) := by decide +kernel
theorem dX11_tanks_31 : decode cX11_tanks 31 = .ok (.iload_n 3, 1) := by decide +kernel
theorem dX11_tanks_32 : decode cX11_tanks 32 = .ok (.invokestatic 121, 3) := by decide +kernel
theorem dX11_tanks_35 : decode cX11_tanks 35 = .ok (.iaload, 1) := by decide +kernel
theorem dX11_tanks_36 : decode cX11_tanks 36 = .ok (.iastore, 1) := by decide +kernel
theorem dX11_tanks_37 : decode cX11_tanks 37 = .ok (.iinc 3 1, 3) := by decide +kernel
theorem dX11_tanks_40 : decode cX11_tanks 40 = .ok (.goto (-31), 3) := by decide +kernel
theorem dX11_tanks_43 : decode cX11_tanks 43 = .ok (.aload_n 0, 1) := by decide +kernel
theorem dX11_tanks_44 : decode cX11_tanks 44 = .ok (.getfield 56, 3) := by decide +kernel
theorem dX11_tanks_47 : decode cX11_tanks 47 = .ok (.bipush 7, 2) := by decide +kernel
theorem dX11_tanks_49 : decode cX11_tanks 49 = .ok (.iload_n 1, 1) := by decide +kernel
theorem dX11_tanks_50 : decode cX11_tanks 50 = .ok (.imul, 1) := by decide +kernel
theorem dX11_tanks_51 : decode cX11_tanks 51 = .ok (.iload_n 2, 1) := by decide +kernel
theorem dX11_tanks_52 : decode cX11_tanks 52 = .ok (.iadd, 1) := by decide +kernel
theorem dX11_tanks_53 : decode cX11_tanks 53 = .ok (.iconst 0, 1) := by decide +kernel
theorem dX11_tanks_54 : decode cX11_tanks 54 = .ok (.iastore, 1) := by decide +kernel
theorem dX11_tanks_55 : decode cX11_tanks 55 = .ok (.aload_n 0, 1) := by decide +kernel
theorem dX11_tanks_56 : decode cX11_tanks 56 = .ok (.getfield 50, 3) := by decide +kernel
theorem dX11_tanks_59 : decode cX11_tanks 59 = .ok (.iload_n 1, 1) := by decide +kernel
theorem dX11_tanks_60 : decode cX11_tanks 60 = .ok (.dup2, 1) := by decide +kernel
theorem dX11_tanks_61 : decode cX11_tanks 61 = .ok (.iaload, 1) := by decide +kernel
theorem dX11_tanks_62 : decode cX11_tanks 62 = .ok (.iconst 1, 1) := by decide +kernel
theorem dX11_tanks_63 : decode cX11_tanks 63 = .ok (.iadd, 1) := by decide +kernel
theorem dX11_tanks_64 : decode cX11_tanks 64 = .ok (.iastore, 1) := by decide +kernel
theorem dX11_tanks_65 : decode cX11_tanks 65 = .ok (.iconst 0, 1) := by decide +kernel
theorem dX11_tanks_66 : decode cX11_tanks 66 = .ok (.istore_n 3, 1) := by decide +kernel
theorem dX11_tanks_67 : decode cX11_tanks 67 = .ok (.iconst 0, 1) := by decide +kernel
theorem dX11_tanks_68 : decode cX11_tanks 68 = .ok (.istore 4, 2) := by decide +kernel
theorem dX11_tanks_70 : decode cX11_tanks 70 = .ok (.iload 4, 2) := by decide +kernel
theorem dX11_tanks_72 : decode cX11_tanks 72 = .ok (.aload_n 0, 1) := by decide +kernel
theorem dX11_tanks_73 : decode cX11_tanks 73 = .ok (.getfield 50, 3) := by decide +kernel
theorem dX11_tanks_76 : decode cX11_tanks 76 = .ok (.iload_n 1, 1) := by decide +kernel
theorem dX11_tanks_77 : decode cX11_tanks 77 = .ok (.iaload, 1) := by decide +kernel
theorem dX11_tanks_78 : decode cX11_tanks 78 = .ok (.if_icmp .ge 140, 3) := by decide +kernel
theorem dX11_tanks_81 : decode cX11_tanks 81 = .ok (.aload_n 0, 1) := by decide +kernel
theorem dX11_tanks_82 : decode cX11_tanks 82 = .ok (.getfield 56, 3) := by decide +kernel
theorem dX11_tanks_85 : decode cX11_tanks 85 = .ok (.bipush 7, 2) := by decide +kernel
theorem dX11_tanks_87 : decode cX11_tanks 87 = .ok (.iload_n 1, 1) := by decide +kernel
theorem dX11_tanks_88 : decode cX11_tanks 88 = .ok (.imul, 1) := by decide +kernel
theorem dX11_tanks_89 : decode cX11_tanks 89 = .ok (.iload 4, 2) := by decide +kernel
theorem dX11_tanks_91 : decode cX11_tanks 91 = .ok (.iadd, 1) := by decide +kernel
theorem dX11_tanks_92 : decode cX11_tanks 92 = .ok (.iaload, 1) := by decide +kernel
theorem dX11_tanks_93 : decode cX11_tanks 93 = .ok (.iconst 1, 1) := by decide +kernel
theorem dX11_tanks_94 : decode cX11_tanks 94 = .ok (.iadd, 1) := by decide +kernel
theorem dX11_tanks_95 : decode cX11_tanks 95 = .ok (.istore 5, 2) := by decide +kernel
theorem dX11_tanks_97 : decode cX11_tanks 97 = .ok (.iload 5, 2) := by decide +kernel
theorem dX11_tanks_99 : decode cX11_tanks 99 = .ok (.aload_n 0, 1) := by decide +kernel
theorem dX11_tanks_100 : decode cX11_tanks 100 = .ok (.getfield 31, 3) := by decide +kernel
theorem dX11_tanks_103 : decode cX11_tanks 103 = .ok (.iload_n 1, 1) := by decide +kernel
theorem dX11_tanks_104 : decode cX11_tanks 104 = .ok (.iaload, 1) := by decide +kernel
theorem dX11_tanks_105 : decode cX11_tanks 105 = .ok (.if_icmp .lt 7, 3) := by decide +kernel
theorem dX11_tanks_108 : decode cX11_tanks 108 = .ok (.iconst 1, 1) := by decide +kernel
theorem dX11_tanks_109 : decode cX11_tanks 109 = .ok (.goto 4, 3) := by decide +kernel
theorem dX11_tanks_112 : decode cX11_tanks 112 = .ok (.iconst 0, 1) := by decide +kernel
theorem dX11_tanks_113 : decode cX11_tanks 113 = .ok (.istore 6, 2) := by decide +kernel
theorem dX11_tanks_115 : decode cX11_tanks 115 = .ok (.iconst 0, 1) := by decide +kernel
theorem dX11_tanks_116 : decode cX11_tanks 116 = .ok (.istore 7, 2) := by decide +kernel
theorem dX11_tanks_118 : decode cX11_tanks 118 = .ok (.iload 7, 2) := by decide +kernel
theorem dX11_tanks_120 : decode cX11_tanks 120 = .ok (.bipush 8, 2) := by decide +kernel
theorem dX11_tanks_122 : decode cX11_tanks 122 = .ok (.if_icmp .ge 66, 3) := by decide +kernel
theorem dX11_tanks_125 : decode cX11_tanks 125 = .ok (.aload_n 0, 1) := by decide +kernel
theorem dX11_tanks_126 : decode cX11_tanks 126 = .ok (.getfield 53, 3) := by decide +kernel
theorem dX11_tanks_129 : decode cX11_tanks 129 = .ok (.aload_n 0, 1) := by decide +kernel
theorem dX11_tanks_130 : decode cX11_tanks 130 = .ok (.iload_n 1, 1) := by decide +kernel
theorem dX11_tanks_131 : decode cX11_tanks 131 = .ok (.iload 4, 2) := by decide +kernel
theorem dX11_tanks_133 : decode cX11_tanks 133 = .ok (.iload 7, 2) := by decide +kernel
theorem dX11_tanks_135 : decode cX11_tanks 135 = .ok (.invokevirtual 141, 3) := by decide +kernel
theorem dX11_tanks_138 : decode cX11_tanks 138 = .ok (.iaload, 1) := by decide +kernel
theorem dX11_tanks_139 : decode cX11_tanks 139 = .ok (.istore 8, 2) := by decide +kernel
theorem dX11_tanks_141 : decode cX11_tanks 141 = .ok (.iload 6, 2) := by decide +kernel
theorem dX11_tanks_143 : decode cX11_tanks 143 = .ok (.ifCond .eq 24, 3) := by decide +kernel
theorem dX11_tanks_146 : decode cX11_tanks 146 = .ok (.aload_n 0, 1) := by decide +kernel
theorem dX11_tanks_147 : decode cX11_tanks 147 = .ok (.getfield 65, 3) := by decide +kernel
theorem dX11_tanks_150 : decode cX11_tanks 150 = .ok (.aload_n 0, 1) := by decide +kernel
theorem dX11_tanks_151 : decode cX11_tanks 151 = .ok (.iload_n 1, 1) := by decide +kernel
theorem dX11_tanks_152 : decode cX11_tanks 152 = .ok (.iconst 0, 1) := by decide +kernel
theorem dX11_tanks_153 : decode cX11_tanks 153 = .ok (.iload 7, 2) := by decide +kernel
theorem dX11_tanks_155 : decode cX11_tanks 155 = .ok (.invokevirtual 117, 3) := by decide +kernel
theorem dX11_tanks_158 : decode cX11_tanks 158 = .ok (.dup2, 1) := by decide +kernel
theorem dX11_tanks_159 : decode cX11_tanks 159 = .ok (.iaload, 1) := by decide +kernel
theorem dX11_tanks_160 : decode cX11_tanks 160 = .ok (.iload 8, 2) := by decide +kernel
theorem dX11_tanks_162 : decode cX11_tanks 162 = .ok (.iadd, 1) := by decide +kernel
theorem dX11_tanks_163 : decode cX11_tanks 163 = .ok (.iastore, 1) := by decide +kernel
theorem dX11_tanks_164 : decode cX11_tanks 164 = .ok (.goto 18, 3) := by decide +kernel
theorem dX11_tanks_167 : decode cX11_tanks 167 = .ok (.aload_n 0, 1) := by decide +kernel
theorem dX11_tanks_168 : decode cX11_tanks 168 = .ok (.getfield 53, 3) := by decide +kernel
theorem dX11_tanks_171 : decode cX11_tanks 171 = .ok (.aload_n 0, 1) := by decide +kernel
theorem dX11_tanks_172 : decode cX11_tanks 172 = .ok (.iload_n 1, 1) := by decide +kernel
theorem dX11_tanks_173 : decode cX11_tanks 173 = .ok (.iload_n 3, 1) := by decide +kernel
theorem dX11_tanks_174 : decode cX11_tanks 174 = .ok (.iload 7, 2) := by decide +kernel
theorem dX11_tanks_176 : decode cX11_tanks 176 = .ok (.invokevirtual 141, 3) := by decide +kernel
theorem dX11_tanks_179 : decode cX11_tanks 179 = .ok (.iload 8, 2) := by decide +kernel
theorem dX11_tanks_181 : decode cX11_tanks 181 = .ok (.iastore, 1) := by decide +kernel
theorem dX11_tanks_182 : decode cX11_tanks 182 = .ok (.iinc 7 1, 3) := by decide +kernel
theorem dX11_tanks_185 : decode cX11_tanks 185 = .ok (.goto (-67), 3) := by decide +kernel
theorem dX11_tanks_188 : decode cX11_tanks 188 = .ok (.iload 6, 2) := by decide +kernel
theorem dX11_tanks_190 : decode cX11_tanks 190 = .ok (.ifCond .eq 6, 3) := by decide +kernel
theorem dX11_tanks_193 : decode cX11_tanks 193 = .ok (.goto 19, 3) := by decide +kernel
theorem dX11_tanks_196 : decode cX11_tanks 196 = .ok (.aload_n 0, 1) := by decide +kernel
theorem dX11_tanks_197 : decode cX11_tanks 197 = .ok (.getfield 56, 3) := by decide +kernel
theorem dX11_tanks_200 : decode cX11_tanks 200 = .ok (.bipush 7, 2) := by decide +kernel
theorem dX11_tanks_202 : decode cX11_tanks 202 = .ok (.iload_n 1, 1) := by decide +kernel
theorem dX11_tanks_203 : decode cX11_tanks 203 = .ok (.imul, 1) := by decide +kernel
theorem dX11_tanks_204 : decode cX11_tanks 204 = .ok (.iload_n 3, 1) := by decide +kernel
theorem dX11_tanks_205 : decode cX11_tanks 205 = .ok (.iadd, 1) := by decide +kernel
theorem dX11_tanks_206 : decode cX11_tanks 206 = .ok (.iload 5, 2) := by decide +kernel
theorem dX11_tanks_208 : decode cX11_tanks 208 = .ok (.iastore, 1) := by decide +kernel
theorem dX11_tanks_209 : decode cX11_tanks 209 = .ok (.iinc 3 1, 3) := by decide +kernel
theorem dX11_tanks_212 : decode cX11_tanks 212 = .ok (.iinc 4 1, 3) := by decide +kernel
theorem dX11_tanks_215 : decode cX11_tanks 215 = .ok (.goto (-145), 3) := by decide +kernel
theorem dX11_tanks_218 : decode cX11_tanks 218 = .ok (.aload_n 0, 1) := by decide +kernel
theorem dX11_tanks_219 : decode cX11_tanks 219 = .ok (.getfield 50, 3) := by decide +kernel
theorem dX11_tanks_222 : decode cX11_tanks 222 = .ok (.iload_n 1, 1) := by decide +kernel
theorem dX11_tanks_223 : decode cX11_tanks 223 = .ok (.iload_n 3, 1) := by decide +kernel
theorem dX11_tanks_224 : decode cX11_tanks 224 = .ok (.iastore, 1) := by decide +kernel
theorem dX11_tanks_225 : decode cX11_tanks 225 = .ok (.return_, 1) := by decide +kernel
theorem dX11_lotAt_0 : decode cX11_lotAt 0 = .ok (.bipush 20, 2) := by decide +kernel
theorem dX11_lotAt_2 : decode cX11_lotAt 2 = .ok (.iload_n 1, 1) := by decide +kernel
theorem dX11_lotAt_3 : decode cX11_lotAt 3 = .ok (.imul, 1) := by decide +kernel
theorem dX11_lotAt_4 : decode cX11_lotAt 4 = .ok (.iload_n 2, 1) := by decide +kernel
theorem dX11_lotAt_5 : decode cX11_lotAt 5 = .ok (.iadd, 1) := by decide +kernel
theorem dX11_lotAt_6 : decode cX11_lotAt 6 = .ok (.bipush 8, 2) := by decide +kernel
theorem dX11_lotAt_8 : decode cX11_lotAt 8 = .ok (.imul, 1) := by decide +kernel
theorem dX11_lotAt_9 : decode cX11_lotAt 9 = .ok (.iload_n 3, 1) := by decide +kernel
theorem dX11_lotAt_10 : decode cX11_lotAt 10 = .ok (.iadd, 1) := by decide +kernel
theorem dX11_lotAt_11 : decode cX11_lotAt 11 = .ok (.ireturn, 1) := by decide +kernel
theorem dX11_lotSum_0 : decode cX11_lotSum 0 = .ok (.iconst 0, 1) := by decide +kernel
theorem dX11_lotSum_1 : decode cX11_lotSum 1 = .ok (.istore_n 3, 1) := by decide +kernel
theorem dX11_lotSum_2 : decode cX11_lotSum 2 = .ok (.iconst 0, 1) := by decide +kernel
theorem dX11_lotSum_3 : decode cX11_lotSum 3 = .ok (.istore 4, 2) := by decide +kernel
theorem dX11_lotSum_5 : decode cX11_lotSum 5 = .ok (.iload 4, 2) := by decide +kernel
theorem dX11_lotSum_7 : decode cX11_lotSum 7 = .ok (.bipush 8, 2) := by decide +kernel
theorem dX11_lotSum_9 : decode cX11_lotSum 9 = .ok (.if_icmp .ge 25, 3) := by decide +kernel
theorem dX11_lotSum_12 : decode cX11_lotSum 12 = .ok (.iload_n 3, 1) := by decide +kernel
theorem dX11_lotSum_13 : decode cX11_lotSum 13 = .ok (.aload_n 0, 1) := by decide +kernel
theorem dX11_lotSum_14 : decode cX11_lotSum 14 = .ok (.getfield 62, 3) := by decide +kernel
theorem dX11_lotSum_17 : decode cX11_lotSum 17 = .ok (.aload_n 0, 1) := by decide +kernel
theorem dX11_lotSum_18 : decode cX11_lotSum 18 = .ok (.iload_n 1, 1) := by decide +kernel
theorem dX11_lotSum_19 : decode cX11_lotSum 19 = .ok (.iload_n 2, 1) := by decide +kernel
theorem dX11_lotSum_20 : decode cX11_lotSum 20 = .ok (.iload 4, 2) := by decide +kernel
theorem dX11_lotSum_22 : decode cX11_lotSum 22 = .ok (.invokevirtual 144, 3) := by decide +kernel
theorem dX11_lotSum_25 : decode cX11_lotSum 25 = .ok (.iaload, 1) := by decide +kernel
theorem dX11_lotSum_26 : decode cX11_lotSum 26 = .ok (.iadd, 1) := by decide +kernel
theorem dX11_lotSum_27 : decode cX11_lotSum 27 = .ok (.istore_n 3, 1) := by decide +kernel
theorem dX11_lotSum_28 : decode cX11_lotSum 28 = .ok (.iinc 4 1, 3) := by decide +kernel
theorem dX11_lotSum_31 : decode cX11_lotSum 31 = .ok (.goto (-26), 3) := by decide +kernel
theorem dX11_lotSum_34 : decode cX11_lotSum 34 = .ok (.iload_n 3, 1) := by decide +kernel
theorem dX11_lotSum_35 : decode cX11_lotSum 35 = .ok (.ireturn, 1) := by decide +kernel
theorem dX11_piles_0 : decode cX11_piles 0 = .ok (.aload_n 0, 1) := by decide +kernel
theorem dX11_piles_1 : decode cX11_piles 1 = .ok (.iload_n 1, 1) := by decide +kernel
theorem dX11_piles_2 : decode cX11_piles 2 = .ok (.invokevirtual 147, 3) := by decide +kernel
theorem dX11_piles_5 : decode cX11_piles 5 = .ok (.ifCond .le 116, 3) := by decide +kernel
theorem dX11_piles_8 : decode cX11_piles 8 = .ok (.aload_n 0, 1) := by decide +kernel
theorem dX11_piles_9 : decode cX11_piles 9 = .ok (.getfield 59, 3) := by decide +kernel
theorem dX11_piles_12 : decode cX11_piles 12 = .ok (.iload_n 1, 1) := by decide +kernel
theorem dX11_piles_13 : decode cX11_piles 13 = .ok (.iaload, 1) := by decide +kernel
theorem dX11_piles_14 : decode cX11_piles 14 = .ok (.bipush 20, 2) := by decide +kernel
theorem dX11_piles_16 : decode cX11_piles 16 = .ok (.if_icmp .ne 7, 3) := by decide +kernel
theorem dX11_piles_19 : decode cX11_piles 19 = .ok (.iconst 1, 1) := by decide +kernel
theorem dX11_piles_20 : decode cX11_piles 20 = .ok (.goto 4, 3) := by decide +kernel
theorem dX11_piles_23 : decode cX11_piles 23 = .ok (.iconst 0, 1) := by decide +kernel
theorem dX11_piles_24 : decode cX11_piles 24 = .ok (.istore_n 2, 1) := by decide +kernel
theorem dX11_piles_25 : decode cX11_piles 25 = .ok (.iload_n 2, 1) := by decide +kernel
theorem dX11_piles_26 : decode cX11_piles 26 = .ok (.ifCond .eq 8, 3) := by decide +kernel
theorem dX11_piles_29 : decode cX11_piles 29 = .ok (.bipush 19, 2) := by decide +kernel
theorem dX11_piles_31 : decode cX11_piles 31 = .ok (.goto 9, 3) := by decide +kernel
theorem dX11_piles_34 : decode cX11_piles 34 = .ok (.aload_n 0, 1) := by decide +kernel
theorem dX11_piles_35 : decode cX11_piles 35 = .ok (.getfield 59, 3) := by decide +kernel
theorem dX11_piles_38 : decode cX11_piles 38 = .ok (.iload_n 1, 1) := by decide +kernel
theorem dX11_piles_39 : decode cX11_piles 39 = .ok (.iaload, 1) := by decide +kernel
theorem dX11_piles_40 : decode cX11_piles 40 = .ok (.istore_n 3, 1) := by decide +kernel
theorem dX11_piles_41 : decode cX11_piles 41 = .ok (.iconst 0, 1) := by decide +kernel
theorem dX11_piles_42 : decode cX11_piles 42 = .ok (.istore 4, 2) := by decide +kernel
theorem dX11_piles_44 : decode cX11_piles 44 = .ok (.iload 4, 2) := by decide +kernel
theorem dX11_piles_46 : decode cX11_piles 46 = .ok (.bipush 8, 2) := by decide +kernel
theorem dX11_piles_48 : decode cX11_piles 48 = .ok (.if_icmp .ge 55, 3) := by decide +kernel
theorem dX11_piles_51 : decode cX11_piles 51 = .ok (.aload_n 0, 1) := by decide +kernel
theorem dX11_piles_52 : decode cX11_piles 52 = .ok (.getfield 62, 3) := by decide +kernel
theorem dX11_piles_55 : decode cX11_piles 55 = .ok (.aload_n 0, 1) := by decide +kernel
theorem dX11_piles_56 : decode cX11_piles 56 = .ok (.iload_n 1, 1) := by decide +kernel
theorem dX11_piles_57 : decode cX11_piles 57 = .ok (.iload_n 3, 1) := by decide +kernel
theorem dX11_piles_58 : decode cX11_piles 58 = .ok (.iload 4, 2) := by decide +kernel
theorem dX11_piles_60 : decode cX11_piles 60 = .ok (.invokevirtual 144, 3) := by decide +kernel
theorem dX11_piles_63 : decode cX11_piles 63 = .ok (.aload_n 0, 1) := by decide +kernel
theorem dX11_piles_64 : decode cX11_piles 64 = .ok (.getfield 16, 3) := by decide +kernel
theorem dX11_piles_67 : decode cX11_piles 67 = .ok (.iload_n 1, 1) := by decide +kernel
theorem dX11_piles_68 : decode cX11_piles 68 = .ok (.iload 4, 2) := by decide +kernel
theorem dX11_piles_70 : decode cX11_piles 70 = .ok (.invokestatic 121, 3) := by decide +kernel
theorem dX11_piles_73 : decode cX11_piles 73 = .ok (.iaload, 1) := by decide +kernel
theorem dX11_piles_74 : decode cX11_piles 74 = .ok (.iload_n 2, 1) := by decide +kernel
theorem dX11_piles_75 : decode cX11_piles 75 = .ok (.ifCond .eq 19, 3) := by decide +kernel
theorem dX11_piles_78 : decode cX11_piles 78 = .ok (.aload_n 0, 1) := by decide +kernel
theorem dX11_piles_79 : decode cX11_piles 79 = .ok (.getfield 62, 3) := by decide +kernel
theorem dX11_piles_82 : decode cX11_piles 82 = .ok (.aload_n 0, 1) := by decide +kernel
theorem dX11_piles_83 : decode cX11_piles 83 = .ok (.iload_n 1, 1) := by decide +kernel
theorem dX11_piles_84 : decode cX11_piles 84 = .ok (.iload_n 3, 1) := by decide +kernel
theorem dX11_piles_85 : decode cX11_piles 85 = .ok (.iload 4, 2) := by decide +kernel
theorem dX11_piles_87 : decode cX11_piles 87 = .ok (.invokevirtual 144, 3) := by decide +kernel
theorem dX11_piles_90 : decode cX11_piles 90 = .ok (.iaload, 1) := by decide +kernel
theorem dX11_piles_91 : decode cX11_piles 91 = .ok (.goto 4, 3) := by decide +kernel
theorem dX11_piles_94 : decode cX11_piles 94 = .ok (.iconst 0, 1) := by decide +kernel
theorem dX11_piles_95 : decode cX11_piles 95 = .ok (.iadd, 1) := by decide +kernel
theorem dX11_piles_96 : decode cX11_piles 96 = .ok (.iastore, 1) := by decide +kernel
theorem dX11_piles_97 : decode cX11_piles 97 = .ok (.iinc 4 1, 3) := by decide +kernel
theorem dX11_piles_100 : decode cX11_piles 100 = .ok (.goto (-56), 3) := by decide +kernel
theorem dX11_piles_103 : decode cX11_piles 103 = .ok (.aload_n 0, 1) := by decide +kernel
theorem dX11_piles_104 : decode cX11_piles 104 = .ok (.getfield 59, 3) := by decide +kernel
theorem dX11_piles_107 : decode cX11_piles 107 = .ok (.iload_n 1, 1) := by decide +kernel
theorem dX11_piles_108 : decode cX11_piles 108 = .ok (.dup2, 1) := by decide +kernel
theorem dX11_piles_109 : decode cX11_piles 109 = .ok (.iaload, 1) := by decide +kernel
theorem dX11_piles_110 : decode cX11_piles 110 = .ok (.iload_n 2, 1) := by decide +kernel
theorem dX11_piles_111 : decode cX11_piles 111 = .ok (.ifCond .eq 7, 3) := by decide +kernel
theorem dX11_piles_114 : decode cX11_piles 114 = .ok (.iconst 0, 1) := by decide +kernel
theorem dX11_piles_115 : decode cX11_piles 115 = .ok (.goto 4, 3) := by decide +kernel
theorem dX11_piles_118 : decode cX11_piles 118 = .ok (.iconst 1, 1) := by decide +kernel
theorem dX11_piles_119 : decode cX11_piles 119 = .ok (.iadd, 1) := by decide +kernel
theorem dX11_piles_120 : decode cX11_piles 120 = .ok (.iastore, 1) := by decide +kernel
theorem dX11_piles_121 : decode cX11_piles 121 = .ok (.iconst 0, 1) := by decide +kernel
theorem dX11_piles_122 : decode cX11_piles 122 = .ok (.istore_n 2, 1) := by decide +kernel
theorem dX11_piles_123 : decode cX11_piles 123 = .ok (.lconst 0, 1) := by decide +kernel
theorem dX11_piles_124 : decode cX11_piles 124 = .ok (.lstore_n 3, 1) := by decide +kernel
theorem dX11_piles_125 : decode cX11_piles 125 = .ok (.iload_n 2, 1) := by decide +kernel
theorem dX11_piles_126 : decode cX11_piles 126 = .ok (.aload_n 0, 1) := by decide +kernel
theorem dX11_piles_127 : decode cX11_piles 127 = .ok (.getfield 59, 3) := by decide +kernel
theorem dX11_piles_130 : decode cX11_piles 130 = .ok (.iload_n 1, 1) := by decide +kernel
theorem dX11_piles_131 : decode cX11_piles 131 = .ok (.iaload, 1) := by decide +kernel
theorem dX11_piles_132 : decode cX11_piles 132 = .ok (.if_icmp .ge 84, 3) := by decide +kernel
theorem dX11_piles_135 : decode cX11_piles 135 = .ok (.lload_n 3, 1) := by decide +kernel
theorem dX11_piles_136 : decode cX11_piles 136 = .ok (.aload_n 0, 1) := by decide +kernel
theorem dX11_piles_137 : decode cX11_piles 137 = .ok (.iload_n 1, 1) := by decide +kernel
theorem dX11_piles_138 : decode cX11_piles 138 = .ok (.iload_n 2, 1) := by decide +kernel
theorem dX11_piles_139 : decode cX11_piles 139 = .ok (.invokevirtual 150, 3) := by decide +kernel
theorem dX11_piles_142 : decode cX11_piles 142 = .ok (.i2l, 1) := by decide +kernel
theorem dX11_piles_143 : decode cX11_piles 143 = .ok (.ladd, 1) := by decide +kernel
theorem dX11_piles_144 : decode cX11_piles 144 = .ok (.aload_n 0, 1) := by decide +kernel
theorem dX11_piles_145 : decode cX11_piles 145 = .ok (.getfield 34, 3) := by decide +kernel
theorem dX11_piles_148 : decode cX11_piles 148 = .ok (.iload_n 1, 1) := by decide +kernel
theorem dX11_piles_149 : decode cX11_piles 149 = .ok (.iaload, 1) := by decide +kernel
theorem dX11_piles_150 : decode cX11_piles 150 = .ok (.i2l, 1) := by decide +kernel
theorem dX11_piles_151 : decode cX11_piles 151 = .ok (.lcmp, 1) := by decide +kernel
theorem dX11_piles_152 : decode cX11_piles 152 = .ok (.ifCond .gt 64, 3) := by decide +kernel
theorem dX11_piles_155 : decode cX11_piles 155 = .ok (.lload_n 3, 1) := by decide +kernel
theorem dX11_piles_156 : decode cX11_piles 156 = .ok (.aload_n 0, 1) := by decide +kernel
theorem dX11_piles_157 : decode cX11_piles 157 = .ok (.iload_n 1, 1) := by decide +kernel
theorem dX11_piles_158 : decode cX11_piles 158 = .ok (.iload_n 2, 1) := by decide +kernel
theorem dX11_piles_159 : decode cX11_piles 159 = .ok (.invokevirtual 150, 3) := by decide +kernel
theorem dX11_piles_162 : decode cX11_piles 162 = .ok (.i2l, 1) := by decide +kernel
theorem dX11_piles_163 : decode cX11_piles 163 = .ok (.ladd, 1) := by decide +kernel
theorem dX11_piles_164 : decode cX11_piles 164 = .ok (.lstore_n 3, 1) := by decide +kernel
theorem dX11_piles_165 : decode cX11_piles 165 = .ok (.iconst 0, 1) := by decide +kernel
theorem dX11_piles_166 : decode cX11_piles 166 = .ok (.istore 5, 2) := by decide +kernel
theorem dX11_piles_168 : decode cX11_piles 168 = .ok (.iload 5, 2) := by decide +kernel
theorem dX11_piles_170 : decode cX11_piles 170 = .ok (.bipush 8, 2) := by decide +kernel
theorem dX11_piles_172 : decode cX11_piles 172 = .ok (.if_icmp .ge 38, 3) := by decide +kernel
theorem dX11_piles_175 : decode cX11_piles 175 = .ok (.aload_n 0, 1) := by decide +kernel
theorem dX11_piles_176 : decode cX11_piles 176 = .ok (.getfield 65, 3) := by decide +kernel
theorem dX11_piles_179 : decode cX11_piles 179 = .ok (.aload_n 0, 1) := by decide +kernel
theorem dX11_piles_180 : decode cX11_piles 180 = .ok (.iload_n 1, 1) := by decide +kernel
theorem dX11_piles_181 : decode cX11_piles 181 = .ok (.iconst 0, 1) := by decide +kernel
theorem dX11_piles_182 : decode cX11_piles 182 = .ok (.iload 5, 2) := by decide +kernel
theorem dX11_piles_184 : decode cX11_piles 184 = .ok (.invokevirtual 117, 3) := by decide +kernel
theorem dX11_piles_187 : decode cX11_piles 187 = .ok (.dup2, 1) := by decide +kernel
theorem dX11_piles_188 : decode cX11_piles 188 = .ok (.iaload, 1) := by decide +kernel
theorem dX11_piles_189 : decode cX11_piles 189 = .ok (.aload_n 0, 1) := by decide +kernel
theorem dX11_piles_190 : decode cX11_piles 190 = .ok (.getfield 62, 3) := by decide +kernel
theorem dX11_piles_193 : decode cX11_piles 193 = .ok (.aload_n 0, 1) := by decide +kernel
theorem dX11_piles_194 : decode cX11_piles 194 = .ok (.iload_n 1, 1) := by decide +kernel
theorem dX11_piles_195 : decode cX11_piles 195 = .ok (.iload_n 2, 1) := by decide +kernel
theorem dX11_piles_196 : decode cX11_piles 196 = .ok (.iload 5, 2) := by decide +kernel
theorem dX11_piles_198 : decode cX11_piles 198 = .ok (.invokevirtual 144, 3) := by decide +kernel
theorem dX11_piles_201 : decode cX11_piles 201 = .ok (.iaload, 1) := by decide +kernel
theorem dX11_piles_202 : decode cX11_piles 202 = .ok (.iadd, 1) := by decide +kernel
theorem dX11_piles_203 : decode cX11_piles 203 = .ok (.iastore, 1) := by decide +kernel
theorem dX11_piles_204 : decode cX11_piles 204 = .ok (.iinc 5 1, 3) := by decide +kernel
theorem dX11_piles_207 : decode cX11_piles 207 = .ok (.goto (-39), 3) := by decide +kernel
theorem dX11_piles_210 : decode cX11_piles 210 = .ok (.iinc 2 1, 3) := by decide +kernel
theorem dX11_piles_213 : decode cX11_piles 213 = .ok (.goto (-88), 3) := by decide +kernel
theorem dX11_piles_216 : decode cX11_piles 216 = .ok (.aload_n 0, 1) := by decide +kernel
theorem dX11_piles_217 : decode cX11_piles 217 = .ok (.getfield 59, 3) := by decide +kernel
theorem dX11_piles_220 : decode cX11_piles 220 = .ok (.iload_n 1, 1) := by decide +kernel
theorem dX11_piles_221 : decode cX11_piles 221 = .ok (.dup2, 1) := by decide +kernel
theorem dX11_piles_222 : decode cX11_piles 222 = .ok (.iaload, 1) := by decide +kernel
theorem dX11_piles_223 : decode cX11_piles 223 = .ok (.iload_n 2, 1) := by decide +kernel
theorem dX11_piles_224 : decode cX11_piles 224 = .ok (.isub, 1) := by decide +kernel
theorem dX11_piles_225 : decode cX11_piles 225 = .ok (.iastore, 1) := by decide +kernel
theorem dX11_piles_226 : decode cX11_piles 226 = .ok (.iconst 0, 1) := by decide +kernel
theorem dX11_piles_227 : decode cX11_piles 227 = .ok (.istore 5, 2) := by decide +kernel
theorem dX11_piles_229 : decode cX11_piles 229 = .ok (.iload 5, 2) := by decide +kernel
theorem dX11_piles_231 : decode cX11_piles 231 = .ok (.aload_n 0, 1) := by decide +kernel
theorem dX11_piles_232 : decode cX11_piles 232 = .ok (.getfield 59, 3) := by decide +kernel
theorem dX11_piles_235 : decode cX11_piles 235 = .ok (.iload_n 1, 1) := by decide +kernel
theorem dX11_piles_236 : decode cX11_piles 236 = .ok (.iaload, 1) := by decide +kernel
theorem dX11_piles_237 : decode cX11_piles 237 = .ok (.if_icmp .ge 55, 3) := by decide +kernel
theorem dX11_piles_240 : decode cX11_piles 240 = .ok (.iconst 0, 1) := by decide +kernel
theorem dX11_piles_241 : decode cX11_piles 241 = .ok (.istore 6, 2) := by decide +kernel
theorem dX11_piles_243 : decode cX11_piles 243 = .ok (.iload 6, 2) := by decide +kernel
theorem dX11_piles_245 : decode cX11_piles 245 = .ok (.bipush 8, 2) := by decide +kernel
theorem dX11_piles_247 : decode cX11_piles 247 = .ok (.if_icmp .ge 39, 3) := by decide +kernel
theorem dX11_piles_250 : decode cX11_piles 250 = .ok (.aload_n 0, 1) := by decide +kernel
theorem dX11_piles_251 : decode cX11_piles 251 = .ok (.getfield 62, 3) := by decide +kernel
theorem dX11_piles_254 : decode cX11_piles 254 = .ok (.aload_n 0, 1) := by decide +kernel
theorem dX11_piles_255 : decode cX11_piles 255 = .ok (.iload_n 1, 1) := by decide +kernel
theorem dX11_piles_256 : decode cX11_piles 256 = .ok (.iload 5, 2) := by decide +kernel
theorem dX11_piles_258 : decode cX11_piles 258 = .ok (.iload 6, 2) := by decide +kernel
theorem dX11_piles_260 : decode cX11_piles 260 = .ok (.invokevirtual 144, 3) := by decide +kernel
theorem dX11_piles_263 : decode cX11_piles 263 = .ok (.aload_n 0, 1) := by decide +kernel
theorem dX11_piles_264 : decode cX11_piles 264 = .ok (.getfield 62, 3) := by decide +kernel
theorem dX11_piles_267 : decode cX11_piles 267 = .ok (.aload_n 0, 1) := by decide +kernel
theorem dX11_piles_268 : decode cX11_piles 268 = .ok (.iload_n 1, 1) := by decide +kernel
theorem dX11_piles_269 : decode cX11_piles 269 = .ok (.iload 5, 2) := by decide +kernel
theorem dX11_piles_271 : decode cX11_piles 271 = .ok (.iload_n 2, 1) := by decide +kernel
theorem dX11_piles_272 : decode cX11_piles 272 = .ok (.iadd, 1) := by decide +kernel
theorem dX11_piles_273 : decode cX11_piles 273 = .ok (.iload 6, 2) := by decide +kernel
theorem dX11_piles_275 : decode cX11_piles 275 = .ok (.invokevirtual 144, 3) := by decide +kernel
theorem dX11_piles_278 : decode cX11_piles 278 = .ok (.iaload, 1) := by decide +kernel
theorem dX11_piles_279 : decode cX11_piles 279 = .ok (.iastore, 1) := by decide +kernel
theorem dX11_piles_280 : decode cX11_piles 280 = .ok (.iinc 6 1, 3) := by decide +kernel
theorem dX11_piles_283 : decode cX11_piles 283 = .ok (.goto (-40), 3) := by decide +kernel
theorem dX11_piles_286 : decode cX11_piles 286 = .ok (.iinc 5 1, 3) := by decide +kernel
theorem dX11_piles_289 : decode cX11_piles 289 = .ok (.goto (-60), 3) := by decide +kernel
theorem dX11_piles_292 : decode cX11_piles 292 = .ok (.return_, 1) := by decide +kernel
theorem dX11_sumOf_0 : decode cX11_sumOf 0 = .ok (.iconst 0, 1) := by decide +kernel
theorem dX11_sumOf_1 : decode cX11_sumOf 1 = .ok (.istore_n 2, 1) := by decide +kernel
theorem dX11_sumOf_2 : decode cX11_sumOf 2 = .ok (.iconst 0, 1) := by decide +kernel
theorem dX11_sumOf_3 : decode cX11_sumOf 3 = .ok (.istore_n 3, 1) := by decide +kernel
theorem dX11_sumOf_4 : decode cX11_sumOf 4 = .ok (.iload_n 3, 1) := by decide +kernel
theorem dX11_sumOf_5 : decode cX11_sumOf 5 = .ok (.bipush 8, 2) := by decide +kernel
theorem dX11_sumOf_7 : decode cX11_sumOf 7 = .ok (.if_icmp .ge 22, 3) := by decide +kernel
theorem dX11_sumOf_10 : decode cX11_sumOf 10 = .ok (.iload_n 2, 1) := by decide +kernel
theorem dX11_sumOf_11 : decode cX11_sumOf 11 = .ok (.aload_n 0, 1) := by decide +kernel
theorem dX11_sumOf_12 : decode cX11_sumOf 12 = .ok (.getfield 16, 3) := by decide +kernel
theorem dX11_sumOf_15 : decode cX11_sumOf 15 = .ok (.iload_n 1, 1) := by decide +kernel
theorem dX11_sumOf_16 : decode cX11_sumOf 16 = .ok (.iload_n 3, 1) := by decide +kernel
theorem dX11_sumOf_17 : decode cX11_sumOf 17 = .ok (.invokestatic 121, 3) := by decide +kernel
theorem dX11_sumOf_20 : decode cX11_sumOf 20 = .ok (.iaload, 1) := by decide +kernel
theorem dX11_sumOf_21 : decode cX11_sumOf 21 = .ok (.iadd, 1) := by decide +kernel
theorem dX11_sumOf_22 : decode cX11_sumOf 22 = .ok (.istore_n 2, 1) := by decide +kernel
theorem dX11_sumOf_23 : decode cX11_sumOf 23 = .ok (.iinc 3 1, 3) := by decide +kernel
theorem dX11_sumOf_26 : decode cX11_sumOf 26 = .ok (.goto (-22), 3) := by decide +kernel
theorem dX11_sumOf_29 : decode cX11_sumOf 29 = .ok (.iload_n 2, 1) := by decide +kernel
theorem dX11_sumOf_30 : decode cX11_sumOf 30 = .ok (.ireturn, 1) := by decide +kernel
theorem dX11_comes_0 : decode cX11_comes 0 = .ok (.aload_n 0, 1) := by decide +kernel
theorem dX11_comes_1 : decode cX11_comes 1 = .ok (.getfield 13, 3) := by decide +kernel
theorem dX11_comes_4 : decode cX11_comes 4 = .ok (.iconst 2, 1) := by decide +kernel
theorem dX11_comes_5 : decode cX11_comes 5 = .ok (.iload_n 1, 1) := by decide +kernel
theorem dX11_comes_6 : decode cX11_comes 6 = .ok (.imul, 1) := by decide +kernel
theorem dX11_comes_7 : decode cX11_comes 7 = .ok (.iload_n 2, 1) := by decide +kernel
theorem dX11_comes_8 : decode cX11_comes 8 = .ok (.iadd, 1) := by decide +kernel
theorem dX11_comes_9 : decode cX11_comes 9 = .ok (.iaload, 1) := by decide +kernel
theorem dX11_comes_10 : decode cX11_comes 10 = .ok (.istore_n 3, 1) := by decide +kernel
theorem dX11_comes_11 : decode cX11_comes 11 = .ok (.iconst 0, 1) := by decide +kernel
theorem dX11_comes_12 : decode cX11_comes 12 = .ok (.istore 4, 2) := by decide +kernel
theorem dX11_comes_14 : decode cX11_comes 14 = .ok (.iload 4, 2) := by decide +kernel
theorem dX11_comes_16 : decode cX11_comes 16 = .ok (.bipush 8, 2) := by decide +kernel
theorem dX11_comes_18 : decode cX11_comes 18 = .ok (.if_icmp .ge 98, 3) := by decide +kernel
theorem dX11_comes_21 : decode cX11_comes 21 = .ok (.aload_n 0, 1) := by decide +kernel
theorem dX11_comes_22 : decode cX11_comes 22 = .ok (.getfield 65, 3) := by decide +kernel
theorem dX11_comes_25 : decode cX11_comes 25 = .ok (.aload_n 0, 1) := by decide +kernel
theorem dX11_comes_26 : decode cX11_comes 26 = .ok (.iload_n 1, 1) := by decide +kernel
theorem dX11_comes_27 : decode cX11_comes 27 = .ok (.iload_n 2, 1) := by decide +kernel
theorem dX11_comes_28 : decode cX11_comes 28 = .ok (.iload 4, 2) := by decide +kernel
theorem dX11_comes_30 : decode cX11_comes 30 = .ok (.invokevirtual 117, 3) := by decide +kernel
theorem dX11_comes_33 : decode cX11_comes 33 = .ok (.iaload, 1) := by decide +kernel
theorem dX11_comes_34 : decode cX11_comes 34 = .ok (.istore 5, 2) := by decide +kernel
theorem dX11_comes_36 : decode cX11_comes 36 = .ok (.iload_n 3, 1) := by decide +kernel
theorem dX11_comes_37 : decode cX11_comes 37 = .ok (.ifCond .ge 23, 3) := by decide +kernel
theorem dX11_comes_40 : decode cX11_comes 40 = .ok (.aload_n 0, 1) := by decide +kernel
theorem dX11_comes_41 : decode cX11_comes 41 = .ok (.getfield 72, 3) := by decide +kernel
theorem dX11_comes_44 : decode cX11_comes 44 = .ok (.iload_n 1, 1) := by decide +kernel
theorem dX11_comes_45 : decode cX11_comes 45 = .ok (.iload 4, 2) := by decide +kernel
theorem dX11_comes_47 : decode cX11_comes 47 = .ok (.invokestatic 121, 3) := by decide +kernel
theorem dX11_comes_50 : decode cX11_comes 50 = .ok (.dup2, 1) := by decide +kernel
theorem dX11_comes_51 : decode cX11_comes 51 = .ok (.laload, 1) := by decide +kernel
theorem dX11_comes_52 : decode cX11_comes 52 = .ok (.iload 5, 2) := by decide +kernel
theorem dX11_comes_54 : decode cX11_comes 54 = .ok (.i2l, 1) := by decide +kernel
theorem dX11_comes_55 : decode cX11_comes 55 = .ok (.ladd, 1) := by decide +kernel
theorem dX11_comes_56 : decode cX11_comes 56 = .ok (.lastore, 1) := by decide +kernel
theorem dX11_comes_57 : decode cX11_comes 57 = .ok (.goto 53, 3) := by decide +kernel
theorem dX11_comes_60 : decode cX11_comes 60 = .ok (.aload_n 0, 1) := by decide +kernel
theorem dX11_comes_61 : decode cX11_comes 61 = .ok (.getfield 16, 3) := by decide +kernel
theorem dX11_comes_64 : decode cX11_comes 64 = .ok (.iload_n 3, 1) := by decide +kernel
theorem dX11_comes_65 : decode cX11_comes 65 = .ok (.iload 4, 2) := by decide +kernel
theorem dX11_comes_67 : decode cX11_comes 67 = .ok (.invokestatic 121, 3) := by decide +kernel
theorem dX11_comes_70 : decode cX11_comes 70 = .ok (.dup2, 1) := by decide +kernel
theorem dX11_comes_71 : decode cX11_comes 71 = .ok (.iaload, 1) := by decide +kernel
theorem dX11_comes_72 : decode cX11_comes 72 = .ok (.iload 5, 2) := by decide +kernel
theorem dX11_comes_74 : decode cX11_comes 74 = .ok (.iadd, 1) := by decide +kernel
theorem dX11_comes_75 : decode cX11_comes 75 = .ok (.iastore, 1) := by decide +kernel
theorem dX11_comes_76 : decode cX11_comes 76 = .ok (.aload_n 0, 1) := by decide +kernel
theorem dX11_comes_77 : decode cX11_comes 77 = .ok (.getfield 9, 3) := by decide +kernel
theorem dX11_comes_80 : decode cX11_comes 80 = .ok (.iload_n 3, 1) := by decide +kernel
theorem dX11_comes_81 : decode cX11_comes 81 = .ok (.iaload, 1) := by decide +kernel
theorem dX11_comes_82 : decode cX11_comes 82 = .ok (.bipush 7, 2) := by decide +kernel
theorem dX11_comes_84 : decode cX11_comes 84 = .ok (.if_icmp .ne 26, 3) := by decide +kernel
theorem dX11_comes_87 : decode cX11_comes 87 = .ok (.aload_n 0, 1) := by decide +kernel
theorem dX11_comes_88 : decode cX11_comes 88 = .ok (.getfield 75, 3) := by decide +kernel
theorem dX11_comes_91 : decode cX11_comes 91 = .ok (.bipush 10, 2) := by decide +kernel
theorem dX11_comes_93 : decode cX11_comes 93 = .ok (.iload_n 3, 1) := by decide +kernel
theorem dX11_comes_94 : decode cX11_comes 94 = .ok (.imul, 1) := by decide +kernel
theorem dX11_comes_95 : decode cX11_comes 95 = .ok (.iload_n 1, 1) := by decide +kernel
theorem dX11_comes_96 : decode cX11_comes 96 = .ok (.iadd, 1) := by decide +kernel
theorem dX11_comes_97 : decode cX11_comes 97 = .ok (.bipush 8, 2) := by decide +kernel
theorem dX11_comes_99 : decode cX11_comes 99 = .ok (.imul, 1) := by decide +kernel
theorem dX11_comes_100 : decode cX11_comes 100 = .ok (.iload 4, 2) := by decide +kernel
theorem dX11_comes_102 : decode cX11_comes 102 = .ok (.iadd, 1) := by decide +kernel
theorem dX11_comes_103 : decode cX11_comes 103 = .ok (.dup2, 1) := by decide +kernel
theorem dX11_comes_104 : decode cX11_comes 104 = .ok (.laload, 1) := by decide +kernel
theorem dX11_comes_105 : decode cX11_comes 105 = .ok (.iload 5, 2) := by decide +kernel
theorem dX11_comes_107 : decode cX11_comes 107 = .ok (.i2l, 1) := by decide +kernel
theorem dX11_comes_108 : decode cX11_comes 108 = .ok (.ladd, 1) := by decide +kernel
theorem dX11_comes_109 : decode cX11_comes 109 = .ok (.lastore, 1) := by decide +kernel
theorem dX11_comes_110 : decode cX11_comes 110 = .ok (.iinc 4 1, 3) := by decide +kernel
theorem dX11_comes_113 : decode cX11_comes 113 = .ok (.goto (-99), 3) := by decide +kernel
theorem dX11_comes_116 : decode cX11_comes 116 = .ok (.return_, 1) := by decide +kernel
theorem dX11_levelOf_0 : decode cX11_levelOf 0 = .ok (.aload_n 0, 1) := by decide +kernel
theorem dX11_levelOf_1 : decode cX11_levelOf 1 = .ok (.iload_n 1, 1) := by decide +kernel
theorem dX11_levelOf_2 : decode cX11_levelOf 2 = .ok (.invokevirtual 147, 3) := by decide +kernel
theorem dX11_levelOf_5 : decode cX11_levelOf 5 = .ok (.istore_n 2, 1) := by decide +kernel
theorem dX11_levelOf_6 : decode cX11_levelOf 6 = .ok (.iconst 0, 1) := by decide +kernel
theorem dX11_levelOf_7 : decode cX11_levelOf 7 = .ok (.istore_n 3, 1) := by decide +kernel
theorem dX11_levelOf_8 : decode cX11_levelOf 8 = .ok (.iload_n 3, 1) := by decide +kernel
theorem dX11_levelOf_9 : decode cX11_levelOf 9 = .ok (.aload_n 0, 1) := by decide +kernel
theorem dX11_levelOf_10 : decode cX11_levelOf 10 = .ok (.getfield 50, 3) := by decide +kernel
theorem dX11_levelOf_13 : decode cX11_levelOf 13 = .ok (.iload_n 1, 1) := by decide +kernel
theorem dX11_levelOf_14 : decode cX11_levelOf 14 = .ok (.iaload, 1) := by decide +kernel
theorem dX11_levelOf_15 : decode cX11_levelOf 15 = .ok (.if_icmp .ge 41, 3) := by decide +kernel
theorem dX11_levelOf_18 : decode cX11_levelOf 18 = .ok (.iconst 0, 1) := by decide +kernel
theorem dX11_levelOf_19 : decode cX11_levelOf 19 = .ok (.istore 4, 2) := by decide +kernel
theorem dX11_levelOf_21 : decode cX11_levelOf 21 = .ok (.iload 4, 2) := by decide +kernel
theorem dX11_levelOf_23 : decode cX11_levelOf 23 = .ok (.bipush 8, 2) := by decide +kernel
theorem dX11_levelOf_25 : decode cX11_levelOf 25 = .ok (.if_icmp .ge 25, 3) := by decide +kernel
theorem dX11_levelOf_28 : decode cX11_levelOf 28 = .ok (.iload_n 2, 1) := by decide +kernel
theorem dX11_levelOf_29 : decode cX11_levelOf 29 = .ok (.aload_n 0, 1) := by decide +kernel
theorem dX11_levelOf_30 : decode cX11_levelOf 30 = .ok (.getfield 53, 3) := by decide +kernel
theorem dX11_levelOf_33 : decode cX11_levelOf 33 = .ok (.aload_n 0, 1) := by decide +kernel
theorem dX11_levelOf_34 : decode cX11_levelOf 34 = .ok (.iload_n 1, 1) := by decide +kernel
theorem dX11_levelOf_35 : decode cX11_levelOf 35 = .ok (.iload_n 3, 1) := by decide +kernel
theorem dX11_levelOf_36 : decode cX11_levelOf 36 = .ok (.iload 4, 2) := by decide +kernel
theorem dX11_levelOf_38 : decode cX11_levelOf 38 = .ok (.invokevirtual 141, 3) := by decide +kernel
theorem dX11_levelOf_41 : decode cX11_levelOf 41 = .ok (.iaload, 1) := by decide +kernel
theorem dX11_levelOf_42 : decode cX11_levelOf 42 = .ok (.iadd, 1) := by decide +kernel
theorem dX11_levelOf_43 : decode cX11_levelOf 43 = .ok (.istore_n 2, 1) := by decide +kernel
theorem dX11_levelOf_44 : decode cX11_levelOf 44 = .ok (.iinc 4 1, 3) := by decide +kernel
theorem dX11_levelOf_47 : decode cX11_levelOf 47 = .ok (.goto (-26), 3) := by decide +kernel
theorem dX11_levelOf_50 : decode cX11_levelOf 50 = .ok (.iinc 3 1, 3) := by decide +kernel
theorem dX11_levelOf_53 : decode cX11_levelOf 53 = .ok (.goto (-45), 3) := by decide +kernel
theorem dX11_levelOf_56 : decode cX11_levelOf 56 = .ok (.iconst 0, 1) := by decide +kernel
theorem dX11_levelOf_57 : decode cX11_levelOf 57 = .ok (.istore_n 3, 1) := by decide +kernel
theorem dX11_levelOf_58 : decode cX11_levelOf 58 = .ok (.iload_n 3, 1) := by decide +kernel
theorem dX11_levelOf_59 : decode cX11_levelOf 59 = .ok (.aload_n 0, 1) := by decide +kernel
theorem dX11_levelOf_60 : decode cX11_levelOf 60 = .ok (.getfield 59, 3) := by decide +kernel
theorem dX11_levelOf_63 : decode cX11_levelOf 63 = .ok (.iload_n 1, 1) := by decide +kernel
theorem dX11_levelOf_64 : decode cX11_levelOf 64 = .ok (.iaload, 1) := by decide +kernel
theorem dX11_levelOf_65 : decode cX11_levelOf 65 = .ok (.if_icmp .ge 18, 3) := by decide +kernel
theorem dX11_levelOf_68 : decode cX11_levelOf 68 = .ok (.iload_n 2, 1) := by decide +kernel
theorem dX11_levelOf_69 : decode cX11_levelOf 69 = .ok (.aload_n 0, 1) := by decide +kernel
theorem dX11_levelOf_70 : decode cX11_levelOf 70 = .ok (.iload_n 1, 1) := by decide +kernel
theorem dX11_levelOf_71 : decode cX11_levelOf 71 = .ok (.iload_n 3, 1) := by decide +kernel
theorem dX11_levelOf_72 : decode cX11_levelOf 72 = .ok (.invokevirtual 150, 3) := by decide +kernel
theorem dX11_levelOf_75 : decode cX11_levelOf 75 = .ok (.iadd, 1) := by decide +kernel
theorem dX11_levelOf_76 : decode cX11_levelOf 76 = .ok (.istore_n 2, 1) := by decide +kernel
theorem dX11_levelOf_77 : decode cX11_levelOf 77 = .ok (.iinc 3 1, 3) := by decide +kernel
theorem dX11_levelOf_80 : decode cX11_levelOf 80 = .ok (.goto (-22), 3) := by decide +kernel
theorem dX11_levelOf_83 : decode cX11_levelOf 83 = .ok (.iload_n 2, 1) := by decide +kernel
theorem dX11_levelOf_84 : decode cX11_levelOf 84 = .ok (.ireturn, 1) := by decide +kernel
theorem dX11_minute_0 : decode cX11_minute 0 = .ok (.iconst 0, 1) := by decide +kernel
theorem dX11_minute_1 : decode cX11_minute 1 = .ok (.istore_n 1, 1) := by decide +kernel
theorem dX11_minute_2 : decode cX11_minute 2 = .ok (.iload_n 1, 1) := by decide +kernel
theorem dX11_minute_3 : decode cX11_minute 3 = .ok (.sipush 160, 3) := by decide +kernel
theorem dX11_minute_6 : decode cX11_minute 6 = .ok (.if_icmp .ge 16, 3) := by decide +kernel
theorem dX11_minute_9 : decode cX11_minute 9 = .ok (.aload_n 0, 1) := by decide +kernel
theorem dX11_minute_10 : decode cX11_minute 10 = .ok (.getfield 65, 3) := by decide +kernel
theorem dX11_minute_13 : decode cX11_minute 13 = .ok (.iload_n 1, 1) := by decide +kernel
theorem dX11_minute_14 : decode cX11_minute 14 = .ok (.iconst 0, 1) := by decide +kernel
theorem dX11_minute_15 : decode cX11_minute 15 = .ok (.iastore, 1) := by decide +kernel
theorem dX11_minute_16 : decode cX11_minute 16 = .ok (.iinc 1 1, 3) := by decide +kernel
theorem dX11_minute_19 : decode cX11_minute 19 = .ok (.goto (-17), 3) := by decide +kernel
theorem dX11_minute_22 : decode cX11_minute 22 = .ok (.iconst 0, 1) := by decide +kernel
theorem dX11_minute_23 : decode cX11_minute 23 = .ok (.istore_n 1, 1) := by decide +kernel
theorem dX11_minute_24 : decode cX11_minute 24 = .ok (.iload_n 1, 1) := by decide +kernel
theorem dX11_minute_25 : decode cX11_minute 25 = .ok (.aload_n 0, 1) := by decide +kernel
theorem dX11_minute_26 : decode cX11_minute 26 = .ok (.getfield 93, 3) := by decide +kernel
theorem dX11_minute_29 : decode cX11_minute 29 = .ok (.if_icmp .ge 14, 3) := by decide +kernel
theorem dX11_minute_32 : decode cX11_minute 32 = .ok (.aload_n 0, 1) := by decide +kernel
theorem dX11_minute_33 : decode cX11_minute 33 = .ok (.iload_n 1, 1) := by decide +kernel
theorem dX11_minute_34 : decode cX11_minute 34 = .ok (.invokevirtual 153, 3) := by decide +kernel
theorem dX11_minute_37 : decode cX11_minute 37 = .ok (.iinc 1 1, 3) := by decide +kernel
theorem dX11_minute_40 : decode cX11_minute 40 = .ok (.goto (-16), 3) := by decide +kernel
theorem dX11_minute_43 : decode cX11_minute 43 = .ok (.iconst 0, 1) := by decide +kernel
theorem dX11_minute_44 : decode cX11_minute 44 = .ok (.istore_n 1, 1) := by decide +kernel
theorem dX11_minute_45 : decode cX11_minute 45 = .ok (.iload_n 1, 1) := by decide +kernel
theorem dX11_minute_46 : decode cX11_minute 46 = .ok (.aload_n 0, 1) := by decide +kernel
theorem dX11_minute_47 : decode cX11_minute 47 = .ok (.getfield 93, 3) := by decide +kernel
theorem dX11_minute_50 : decode cX11_minute 50 = .ok (.if_icmp .ge 45, 3) := by decide +kernel
theorem dX11_minute_53 : decode cX11_minute 53 = .ok (.iconst 0, 1) := by decide +kernel
theorem dX11_minute_54 : decode cX11_minute 54 = .ok (.istore_n 2, 1) := by decide +kernel
theorem dX11_minute_55 : decode cX11_minute 55 = .ok (.iload_n 2, 1) := by decide +kernel
theorem dX11_minute_56 : decode cX11_minute 56 = .ok (.bipush 8, 2) := by decide +kernel
theorem dX11_minute_58 : decode cX11_minute 58 = .ok (.if_icmp .ge 31, 3) := by decide +kernel
theorem dX11_minute_61 : decode cX11_minute 61 = .ok (.aload_n 0, 1) := by decide +kernel
theorem dX11_minute_62 : decode cX11_minute 62 = .ok (.getfield 9, 3) := by decide +kernel
theorem dX11_minute_65 : decode cX11_minute 65 = .ok (.iload_n 1, 1) := by decide +kernel
theorem dX11_minute_66 : decode cX11_minute 66 = .ok (.iaload, 1) := by decide +kernel
theorem dX11_minute_67 : decode cX11_minute 67 = .ok (.bipush 7, 2) := by decide +kernel
theorem dX11_minute_69 : decode cX11_minute 69 = .ok (.if_icmp .eq 20, 3) := by decide +kernel
theorem dX11_minute_72 : decode cX11_minute 72 = .ok (.aload_n 0, 1) := by decide +kernel
theorem dX11_minute_73 : decode cX11_minute 73 = .ok (.getfield 16, 3) := by decide +kernel
theorem dX11_minute_76 : decode cX11_minute 76 = .ok (.iload_n 1, 1) := by decide +kernel
theorem dX11_minute_77 : decode cX11_minute 77 = .ok (.iload_n 2, 1) := by decide +kernel
theorem dX11_minute_78 : decode cX11_minute 78 = .ok (.invokestatic 121, 3) := by decide +kernel
theorem dX11_minute_81 : decode cX11_minute 81 = .ok (.iconst 0, 1) := by decide +kernel
theorem dX11_minute_82 : decode cX11_minute 82 = .ok (.iastore, 1) := by decide +kernel
theorem dX11_minute_83 : decode cX11_minute 83 = .ok (.iinc 2 1, 3) := by decide +kernel
theorem dX11_minute_86 : decode cX11_minute 86 = .ok (.goto (-31), 3) := by decide +kernel
theorem dX11_minute_89 : decode cX11_minute 89 = .ok (.iinc 1 1, 3) := by decide +kernel
theorem dX11_minute_92 : decode cX11_minute 92 = .ok (.goto (-47), 3) := by decide +kernel
theorem dX11_minute_95 : decode cX11_minute 95 = .ok (.iconst 0, 1) := by decide +kernel
theorem dX11_minute_96 : decode cX11_minute 96 = .ok (.istore_n 1, 1) := by decide +kernel
theorem dX11_minute_97 : decode cX11_minute 97 = .ok (.iload_n 1, 1) := by decide +kernel
theorem dX11_minute_98 : decode cX11_minute 98 = .ok (.aload_n 0, 1) := by decide +kernel
theorem dX11_minute_99 : decode cX11_minute 99 = .ok (.getfield 93, 3) := by decide +kernel
theorem dX11_minute_102 : decode cX11_minute 102 = .ok (.if_icmp .ge 32, 3) := by decide +kernel
theorem dX11_minute_105 : decode cX11_minute 105 = .ok (.iconst 0, 1) := by decide +kernel
theorem dX11_minute_106 : decode cX11_minute 106 = .ok (.istore_n 2, 1) := by decide +kernel
theorem dX11_minute_107 : decode cX11_minute 107 = .ok (.iload_n 2, 1) := by decide +kernel
theorem dX11_minute_108 : decode cX11_minute 108 = .ok (.aload_n 0, 1) := by decide +kernel
theorem dX11_minute_109 : decode cX11_minute 109 = .ok (.iload_n 1, 1) := by decide +kernel
theorem dX11_minute_110 : decode cX11_minute 110 = .ok (.invokevirtual 105, 3) := by decide +kernel
theorem dX11_minute_113 : decode cX11_minute 113 = .ok (.if_icmp .ge 15, 3) := by decide +kernel
theorem dX11_minute_116 : decode cX11_minute 116 = .ok (.aload_n 0, 1) := by decide +kernel
theorem dX11_minute_117 : decode cX11_minute 117 = .ok (.iload_n 1, 1) := by decide +kernel
