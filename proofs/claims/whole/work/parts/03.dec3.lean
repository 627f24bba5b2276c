theorem dX9_state_37 : decode cX9_state 37 = .ok (.invokestatic 325, 3) := by decide +kernel
theorem dX9_state_40 : decode cX9_state 40 = .ok (.lstore_n 1, 1) := by decide +kernel
theorem dX9_state_41 : decode cX9_state 41 = .ok (.iinc 4 1, 3) := by decide +kernel
theorem dX9_state_44 : decode cX9_state 44 = .ok (.goto (-27), 3) := by decide +kernel
theorem dX9_state_47 : decode cX9_state 47 = .ok (.lload_n 1, 1) := by decide +kernel
theorem dX9_state_48 : decode cX9_state 48 = .ok (.aload_n 0, 1) := by decide +kernel
theorem dX9_state_49 : decode cX9_state 49 = .ok (.getfield 32, 3) := by decide +kernel
theorem dX9_state_52 : decode cX9_state 52 = .ok (.iload_n 3, 1) := by decide +kernel
theorem dX9_state_53 : decode cX9_state 53 = .ok (.laload, 1) := by decide +kernel
theorem dX9_state_54 : decode cX9_state 54 = .ok (.invokestatic 325, 3) := by decide +kernel
theorem dX9_state_57 : decode cX9_state 57 = .ok (.lstore_n 1, 1) := by decide +kernel
theorem dX9_state_58 : decode cX9_state 58 = .ok (.iinc 3 1, 3) := by decide +kernel
theorem dX9_state_61 : decode cX9_state 61 = .ok (.goto (-55), 3) := by decide +kernel
theorem dX9_state_64 : decode cX9_state 64 = .ok (.lload_n 1, 1) := by decide +kernel
theorem dX9_state_65 : decode cX9_state 65 = .ok (.lreturn, 1) := by decide +kernel
theorem dX9_back_0 : decode cX9_back 0 = .ok (.aload_n 0, 1) := by decide +kernel
theorem dX9_back_1 : decode cX9_back 1 = .ok (.iload_n 1, 1) := by decide +kernel
theorem dX9_back_2 : decode cX9_back 2 = .ok (.invokevirtual 312, 3) := by decide +kernel
theorem dX9_back_5 : decode cX9_back 5 = .ok (.ifCond .eq 19, 3) := by decide +kernel
theorem dX9_back_8 : decode cX9_back 8 = .ok (.iload_n 2, 1) := by decide +kernel
theorem dX9_back_9 : decode cX9_back 9 = .ok (.i2l, 1) := by decide +kernel
theorem dX9_back_10 : decode cX9_back 10 = .ok (.lconst 0, 1) := by decide +kernel
theorem dX9_back_11 : decode cX9_back 11 = .ok (.aload_n 0, 1) := by decide +kernel
theorem dX9_back_12 : decode cX9_back 12 = .ok (.getfield 53, 3) := by decide +kernel
theorem dX9_back_15 : decode cX9_back 15 = .ok (.iload_n 1, 1) := by decide +kernel
theorem dX9_back_16 : decode cX9_back 16 = .ok (.iaload, 1) := by decide +kernel
theorem dX9_back_17 : decode cX9_back 17 = .ok (.i2l, 1) := by decide +kernel
theorem dX9_back_18 : decode cX9_back 18 = .ok (.invokestatic 172, 3) := by decide +kernel
theorem dX9_back_21 : decode cX9_back 21 = .ok (.ifCond .ne 7, 3) := by decide +kernel
theorem dX9_back_24 : decode cX9_back 24 = .ok (.ldc2_w 192, 3) := by decide +kernel
theorem dX9_back_27 : decode cX9_back 27 = .ok (.lreturn, 1) := by decide +kernel
theorem dX9_back_28 : decode cX9_back 28 = .ok (.iconst 0, 1) := by decide +kernel
theorem dX9_back_29 : decode cX9_back 29 = .ok (.istore_n 3, 1) := by decide +kernel
theorem dX9_back_30 : decode cX9_back 30 = .ok (.iload_n 3, 1) := by decide +kernel
theorem dX9_back_31 : decode cX9_back 31 = .ok (.bipush 48, 2) := by decide +kernel
theorem dX9_back_33 : decode cX9_back 33 = .ok (.if_icmp .ge 38, 3) := by decide +kernel
theorem dX9_back_36 : decode cX9_back 36 = .ok (.aload_n 0, 1) := by decide +kernel
theorem dX9_back_37 : decode cX9_back 37 = .ok (.getfield 156, 3) := by decide +kernel
theorem dX9_back_40 : decode cX9_back 40 = .ok (.iload_n 3, 1) := by decide +kernel
theorem dX9_back_41 : decode cX9_back 41 = .ok (.aload_n 0, 1) := by decide +kernel
theorem dX9_back_42 : decode cX9_back 42 = .ok (.getfield 29, 3) := by decide +kernel
theorem dX9_back_45 : decode cX9_back 45 = .ok (.iload_n 3, 1) := by decide +kernel
theorem dX9_back_46 : decode cX9_back 46 = .ok (.laload, 1) := by decide +kernel
theorem dX9_back_47 : decode cX9_back 47 = .ok (.lastore, 1) := by decide +kernel
theorem dX9_back_48 : decode cX9_back 48 = .ok (.aload_n 0, 1) := by decide +kernel
theorem dX9_back_49 : decode cX9_back 49 = .ok (.getfield 29, 3) := by decide +kernel
theorem dX9_back_52 : decode cX9_back 52 = .ok (.iload_n 3, 1) := by decide +kernel
theorem dX9_back_53 : decode cX9_back 53 = .ok (.aload_n 0, 1) := by decide +kernel
theorem dX9_back_54 : decode cX9_back 54 = .ok (.getfield 47, 3) := by decide +kernel
theorem dX9_back_57 : decode cX9_back 57 = .ok (.bipush 48, 2) := by decide +kernel
theorem dX9_back_59 : decode cX9_back 59 = .ok (.iload_n 1, 1) := by decide +kernel
theorem dX9_back_60 : decode cX9_back 60 = .ok (.imul, 1) := by decide +kernel
theorem dX9_back_61 : decode cX9_back 61 = .ok (.iload_n 3, 1) := by decide +kernel
theorem dX9_back_62 : decode cX9_back 62 = .ok (.iadd, 1) := by decide +kernel
theorem dX9_back_63 : decode cX9_back 63 = .ok (.laload, 1) := by decide +kernel
theorem dX9_back_64 : decode cX9_back 64 = .ok (.lastore, 1) := by decide +kernel
theorem dX9_back_65 : decode cX9_back 65 = .ok (.iinc 3 1, 3) := by decide +kernel
theorem dX9_back_68 : decode cX9_back 68 = .ok (.goto (-38), 3) := by decide +kernel
theorem dX9_back_71 : decode cX9_back 71 = .ok (.iconst 0, 1) := by decide +kernel
theorem dX9_back_72 : decode cX9_back 72 = .ok (.istore_n 3, 1) := by decide +kernel
theorem dX9_back_73 : decode cX9_back 73 = .ok (.iload_n 3, 1) := by decide +kernel
theorem dX9_back_74 : decode cX9_back 74 = .ok (.bipush 6, 2) := by decide +kernel
theorem dX9_back_76 : decode cX9_back 76 = .ok (.if_icmp .ge 38, 3) := by decide +kernel
theorem dX9_back_79 : decode cX9_back 79 = .ok (.aload_n 0, 1) := by decide +kernel
theorem dX9_back_80 : decode cX9_back 80 = .ok (.getfield 159, 3) := by decide +kernel
theorem dX9_back_83 : decode cX9_back 83 = .ok (.iload_n 3, 1) := by decide +kernel
theorem dX9_back_84 : decode cX9_back 84 = .ok (.aload_n 0, 1) := by decide +kernel
theorem dX9_back_85 : decode cX9_back 85 = .ok (.getfield 32, 3) := by decide +kernel
theorem dX9_back_88 : decode cX9_back 88 = .ok (.iload_n 3, 1) := by decide +kernel
theorem dX9_back_89 : decode cX9_back 89 = .ok (.laload, 1) := by decide +kernel
theorem dX9_back_90 : decode cX9_back 90 = .ok (.lastore, 1) := by decide +kernel
theorem dX9_back_91 : decode cX9_back 91 = .ok (.aload_n 0, 1) := by decide +kernel
theorem dX9_back_92 : decode cX9_back 92 = .ok (.getfield 32, 3) := by decide +kernel
theorem dX9_back_95 : decode cX9_back 95 = .ok (.iload_n 3, 1) := by decide +kernel
theorem dX9_back_96 : decode cX9_back 96 = .ok (.aload_n 0, 1) := by decide +kernel
theorem dX9_back_97 : decode cX9_back 97 = .ok (.getfield 50, 3) := by decide +kernel
theorem dX9_back_100 : decode cX9_back 100 = .ok (.bipush 6, 2) := by decide +kernel
theorem dX9_back_102 : decode cX9_back 102 = .ok (.iload_n 1, 1) := by decide +kernel
theorem dX9_back_103 : decode cX9_back 103 = .ok (.imul, 1) := by decide +kernel
theorem dX9_back_104 : decode cX9_back 104 = .ok (.iload_n 3, 1) := by decide +kernel
theorem dX9_back_105 : decode cX9_back 105 = .ok (.iadd, 1) := by decide +kernel
theorem dX9_back_106 : decode cX9_back 106 = .ok (.laload, 1) := by decide +kernel
theorem dX9_back_107 : decode cX9_back 107 = .ok (.lastore, 1) := by decide +kernel
theorem dX9_back_108 : decode cX9_back 108 = .ok (.iinc 3 1, 3) := by decide +kernel
theorem dX9_back_111 : decode cX9_back 111 = .ok (.goto (-38), 3) := by decide +kernel
theorem dX9_back_114 : decode cX9_back 114 = .ok (.aload_n 0, 1) := by decide +kernel
theorem dX9_back_115 : decode cX9_back 115 = .ok (.iconst 0, 1) := by decide +kernel
theorem dX9_back_116 : decode cX9_back 116 = .ok (.putfield 206, 3) := by decide +kernel
theorem dX9_back_119 : decode cX9_back 119 = .ok (.aload_n 0, 1) := by decide +kernel
theorem dX9_back_120 : decode cX9_back 120 = .ok (.aload_n 0, 1) := by decide +kernel
theorem dX9_back_121 : decode cX9_back 121 = .ok (.getfield 35, 3) := by decide +kernel
theorem dX9_back_124 : decode cX9_back 124 = .ok (.iload_n 1, 1) := by decide +kernel
theorem dX9_back_125 : decode cX9_back 125 = .ok (.iaload, 1) := by decide +kernel
theorem dX9_back_126 : decode cX9_back 126 = .ok (.aload_n 0, 1) := by decide +kernel
theorem dX9_back_127 : decode cX9_back 127 = .ok (.getfield 38, 3) := by decide +kernel
theorem dX9_back_130 : decode cX9_back 130 = .ok (.iload_n 1, 1) := by decide +kernel
theorem dX9_back_131 : decode cX9_back 131 = .ok (.iaload, 1) := by decide +kernel
theorem dX9_back_132 : decode cX9_back 132 = .ok (.aload_n 0, 1) := by decide +kernel
theorem dX9_back_133 : decode cX9_back 133 = .ok (.getfield 41, 3) := by decide +kernel
theorem dX9_back_136 : decode cX9_back 136 = .ok (.iload_n 1, 1) := by decide +kernel
theorem dX9_back_137 : decode cX9_back 137 = .ok (.laload, 1) := by decide +kernel
theorem dX9_back_138 : decode cX9_back 138 = .ok (.aload_n 0, 1) := by decide +kernel
theorem dX9_back_139 : decode cX9_back 139 = .ok (.getfield 44, 3) := by decide +kernel
theorem dX9_back_142 : decode cX9_back 142 = .ok (.iload_n 1, 1) := by decide +kernel
theorem dX9_back_143 : decode cX9_back 143 = .ok (.iaload, 1) := by decide +kernel
theorem dX9_back_144 : decode cX9_back 144 = .ok (.iload_n 2, 1) := by decide +kernel
theorem dX9_back_145 : decode cX9_back 145 = .ok (.invokevirtual 308, 3) := by decide +kernel
theorem dX9_back_148 : decode cX9_back 148 = .ok (.aload_n 0, 1) := by decide +kernel
theorem dX9_back_149 : decode cX9_back 149 = .ok (.invokevirtual 329, 3) := by decide +kernel
theorem dX9_back_152 : decode cX9_back 152 = .ok (.lstore_n 3, 1) := by decide +kernel
theorem dX9_back_153 : decode cX9_back 153 = .ok (.iconst 0, 1) := by decide +kernel
theorem dX9_back_154 : decode cX9_back 154 = .ok (.istore 5, 2) := by decide +kernel
theorem dX9_back_156 : decode cX9_back 156 = .ok (.iload 5, 2) := by decide +kernel
theorem dX9_back_158 : decode cX9_back 158 = .ok (.bipush 48, 2) := by decide +kernel
theorem dX9_back_160 : decode cX9_back 160 = .ok (.if_icmp .ge 23, 3) := by decide +kernel
theorem dX9_back_163 : decode cX9_back 163 = .ok (.aload_n 0, 1) := by decide +kernel
theorem dX9_back_164 : decode cX9_back 164 = .ok (.getfield 29, 3) := by decide +kernel
theorem dX9_back_167 : decode cX9_back 167 = .ok (.iload 5, 2) := by decide +kernel
theorem dX9_back_169 : decode cX9_back 169 = .ok (.aload_n 0, 1) := by decide +kernel
theorem dX9_back_170 : decode cX9_back 170 = .ok (.getfield 156, 3) := by decide +kernel
theorem dX9_back_173 : decode cX9_back 173 = .ok (.iload 5, 2) := by decide +kernel
theorem dX9_back_175 : decode cX9_back 175 = .ok (.laload, 1) := by decide +kernel
theorem dX9_back_176 : decode cX9_back 176 = .ok (.lastore, 1) := by decide +kernel
theorem dX9_back_177 : decode cX9_back 177 = .ok (.iinc 5 1, 3) := by decide +kernel
theorem dX9_back_180 : decode cX9_back 180 = .ok (.goto (-24), 3) := by decide +kernel
theorem dX9_back_183 : decode cX9_back 183 = .ok (.iconst 0, 1) := by decide +kernel
theorem dX9_back_184 : decode cX9_back 184 = .ok (.istore 5, 2) := by decide +kernel
theorem dX9_back_186 : decode cX9_back 186 = .ok (.iload 5, 2) := by decide +kernel
theorem dX9_back_188 : decode cX9_back 188 = .ok (.bipush 6, 2) := by decide +kernel
theorem dX9_back_190 : decode cX9_back 190 = .ok (.if_icmp .ge 23, 3) := by decide +kernel
theorem dX9_back_193 : decode cX9_back 193 = .ok (.aload_n 0, 1) := by decide +kernel
theorem dX9_back_194 : decode cX9_back 194 = .ok (.getfield 32, 3) := by decide +kernel
theorem dX9_back_197 : decode cX9_back 197 = .ok (.iload 5, 2) := by decide +kernel
theorem dX9_back_199 : decode cX9_back 199 = .ok (.aload_n 0, 1) := by decide +kernel
theorem dX9_back_200 : decode cX9_back 200 = .ok (.getfield 159, 3) := by decide +kernel
theorem dX9_back_203 : decode cX9_back 203 = .ok (.iload 5, 2) := by decide +kernel
theorem dX9_back_205 : decode cX9_back 205 = .ok (.laload, 1) := by decide +kernel
theorem dX9_back_206 : decode cX9_back 206 = .ok (.lastore, 1) := by decide +kernel
theorem dX9_back_207 : decode cX9_back 207 = .ok (.iinc 5 1, 3) := by decide +kernel
theorem dX9_back_210 : decode cX9_back 210 = .ok (.goto (-24), 3) := by decide +kernel
theorem dX9_back_213 : decode cX9_back 213 = .ok (.lload_n 3, 1) := by decide +kernel
theorem dX9_back_214 : decode cX9_back 214 = .ok (.lreturn, 1) := by decide +kernel
theorem dX9_isUnlike_0 : decode cX9_isUnlike 0 = .ok (.aload_n 0, 1) := by decide +kernel
theorem dX9_isUnlike_1 : decode cX9_isUnlike 1 = .ok (.getfield 74, 3) := by decide +kernel
theorem dX9_isUnlike_4 : decode cX9_isUnlike 4 = .ok (.bipush 100, 2) := by decide +kernel
theorem dX9_isUnlike_6 : decode cX9_isUnlike 6 = .ok (.iload_n 1, 1) := by decide +kernel
theorem dX9_isUnlike_7 : decode cX9_isUnlike 7 = .ok (.imul, 1) := by decide +kernel
theorem dX9_isUnlike_8 : decode cX9_isUnlike 8 = .ok (.iload_n 3, 1) := by decide +kernel
theorem dX9_isUnlike_9 : decode cX9_isUnlike 9 = .ok (.iadd, 1) := by decide +kernel
theorem dX9_isUnlike_10 : decode cX9_isUnlike 10 = .ok (.laload, 1) := by decide +kernel
theorem dX9_isUnlike_11 : decode cX9_isUnlike 11 = .ok (.aload_n 0, 1) := by decide +kernel
theorem dX9_isUnlike_12 : decode cX9_isUnlike 12 = .ok (.getfield 74, 3) := by decide +kernel
theorem dX9_isUnlike_15 : decode cX9_isUnlike 15 = .ok (.bipush 100, 2) := by decide +kernel
theorem dX9_isUnlike_17 : decode cX9_isUnlike 17 = .ok (.iload_n 2, 1) := by decide +kernel
theorem dX9_isUnlike_18 : decode cX9_isUnlike 18 = .ok (.imul, 1) := by decide +kernel
theorem dX9_isUnlike_19 : decode cX9_isUnlike 19 = .ok (.iload_n 3, 1) := by decide +kernel
theorem dX9_isUnlike_20 : decode cX9_isUnlike 20 = .ok (.iadd, 1) := by decide +kernel
theorem dX9_isUnlike_21 : decode cX9_isUnlike 21 = .ok (.laload, 1) := by decide +kernel
theorem dX9_isUnlike_22 : decode cX9_isUnlike 22 = .ok (.lcmp, 1) := by decide +kernel
theorem dX9_isUnlike_23 : decode cX9_isUnlike 23 = .ok (.ifCond .eq 7, 3) := by decide +kernel
theorem dX9_isUnlike_26 : decode cX9_isUnlike 26 = .ok (.iconst 1, 1) := by decide +kernel
theorem dX9_isUnlike_27 : decode cX9_isUnlike 27 = .ok (.goto 4, 3) := by decide +kernel
theorem dX9_isUnlike_30 : decode cX9_isUnlike 30 = .ok (.iconst 0, 1) := by decide +kernel
theorem dX9_isUnlike_31 : decode cX9_isUnlike 31 = .ok (.istore 4, 2) := by decide +kernel
theorem dX9_isUnlike_33 : decode cX9_isUnlike 33 = .ok (.iconst 0, 1) := by decide +kernel
theorem dX9_isUnlike_34 : decode cX9_isUnlike 34 = .ok (.istore 5, 2) := by decide +kernel
theorem dX9_isUnlike_36 : decode cX9_isUnlike 36 = .ok (.iload 5, 2) := by decide +kernel
theorem dX9_isUnlike_38 : decode cX9_isUnlike 38 = .ok (.bipush 7, 2) := by decide +kernel
theorem dX9_isUnlike_40 : decode cX9_isUnlike 40 = .ok (.if_icmp .ge 58, 3) := by decide +kernel
theorem dX9_isUnlike_43 : decode cX9_isUnlike 43 = .ok (.iload 4, 2) := by decide +kernel
theorem dX9_isUnlike_45 : decode cX9_isUnlike 45 = .ok (.ifCond .ne 40, 3) := by decide +kernel
theorem dX9_isUnlike_48 : decode cX9_isUnlike 48 = .ok (.aload_n 0, 1) := by decide +kernel
theorem dX9_isUnlike_49 : decode cX9_isUnlike 49 = .ok (.getfield 71, 3) := by decide +kernel
theorem dX9_isUnlike_52 : decode cX9_isUnlike 52 = .ok (.bipush 7, 2) := by decide +kernel
theorem dX9_isUnlike_54 : decode cX9_isUnlike 54 = .ok (.bipush 100, 2) := by decide +kernel
theorem dX9_isUnlike_56 : decode cX9_isUnlike 56 = .ok (.iload_n 1, 1) := by decide +kernel
theorem dX9_isUnlike_57 : decode cX9_isUnlike 57 = .ok (.imul, 1) := by decide +kernel
theorem dX9_isUnlike_58 : decode cX9_isUnlike 58 = .ok (.iload_n 3, 1) := by decide +kernel
theorem dX9_isUnlike_59 : decode cX9_isUnlike 59 = .ok (.iadd, 1) := by decide +kernel
theorem dX9_isUnlike_60 : decode cX9_isUnlike 60 = .ok (.imul, 1) := by decide +kernel
theorem dX9_isUnlike_61 : decode cX9_isUnlike 61 = .ok (.iload 5, 2) := by decide +kernel
theorem dX9_isUnlike_63 : decode cX9_isUnlike 63 = .ok (.iadd, 1) := by decide +kernel
theorem dX9_isUnlike_64 : decode cX9_isUnlike 64 = .ok (.iaload, 1) := by decide +kernel
theorem dX9_isUnlike_65 : decode cX9_isUnlike 65 = .ok (.aload_n 0, 1) := by decide +kernel
theorem dX9_isUnlike_66 : decode cX9_isUnlike 66 = .ok (.getfield 71, 3) := by decide +kernel
theorem dX9_isUnlike_69 : decode cX9_isUnlike 69 = .ok (.bipush 7, 2) := by decide +kernel
theorem dX9_isUnlike_71 : decode cX9_isUnlike 71 = .ok (.bipush 100, 2) := by decide +kernel
theorem dX9_isUnlike_73 : decode cX9_isUnlike 73 = .ok (.iload_n 2, 1) := by decide +kernel
theorem dX9_isUnlike_74 : decode cX9_isUnlike 74 = .ok (.imul, 1) := by decide +kernel
theorem dX9_isUnlike_75 : decode cX9_isUnlike 75 = .ok (.iload_n 3, 1) := by decide +kernel
theorem dX9_isUnlike_76 : decode cX9_isUnlike 76 = .ok (.iadd, 1) := by decide +kernel
theorem dX9_isUnlike_77 : decode cX9_isUnlike 77 = .ok (.imul, 1) := by decide +kernel
theorem dX9_isUnlike_78 : decode cX9_isUnlike 78 = .ok (.iload 5, 2) := by decide +kernel
theorem dX9_isUnlike_80 : decode cX9_isUnlike 80 = .ok (.iadd, 1) := by decide +kernel
theorem dX9_isUnlike_81 : decode cX9_isUnlike 81 = .ok (.iaload, 1) := by decide +kernel
theorem dX9_isUnlike_82 : decode cX9_isUnlike 82 = .ok (.if_icmp .eq 7, 3) := by decide +kernel
theorem dX9_isUnlike_85 : decode cX9_isUnlike 85 = .ok (.iconst 1, 1) := by decide +kernel
theorem dX9_isUnlike_86 : decode cX9_isUnlike 86 = .ok (.goto 4, 3) := by decide +kernel
theorem dX9_isUnlike_89 : decode cX9_isUnlike 89 = .ok (.iconst 0, 1) := by decide +kernel
theorem dX9_isUnlike_90 : decode cX9_isUnlike 90 = .ok (.istore 4, 2) := by decide +kernel
theorem dX9_isUnlike_92 : decode cX9_isUnlike 92 = .ok (.iinc 5 1, 3) := by decide +kernel
theorem dX9_isUnlike_95 : decode cX9_isUnlike 95 = .ok (.goto (-59), 3) := by decide +kernel
theorem dX9_isUnlike_98 : decode cX9_isUnlike 98 = .ok (.iload 4, 2) := by decide +kernel
theorem dX9_isUnlike_100 : decode cX9_isUnlike 100 = .ok (.ireturn, 1) := by decide +kernel
theorem dX9_lesser_0 : decode cX9_lesser 0 = .ok (.aload_n 0, 1) := by decide +kernel
theorem dX9_lesser_1 : decode cX9_lesser 1 = .ok (.getfield 53, 3) := by decide +kernel
theorem dX9_lesser_4 : decode cX9_lesser 4 = .ok (.iload_n 1, 1) := by decide +kernel
theorem dX9_lesser_5 : decode cX9_lesser 5 = .ok (.iaload, 1) := by decide +kernel
theorem dX9_lesser_6 : decode cX9_lesser 6 = .ok (.aload_n 0, 1) := by decide +kernel
theorem dX9_lesser_7 : decode cX9_lesser 7 = .ok (.getfield 53, 3) := by decide +kernel
theorem dX9_lesser_10 : decode cX9_lesser 10 = .ok (.iload_n 2, 1) := by decide +kernel
theorem dX9_lesser_11 : decode cX9_lesser 11 = .ok (.iaload, 1) := by decide +kernel
theorem dX9_lesser_12 : decode cX9_lesser 12 = .ok (.if_icmp .ge 12, 3) := by decide +kernel
theorem dX9_lesser_15 : decode cX9_lesser 15 = .ok (.aload_n 0, 1) := by decide +kernel
theorem dX9_lesser_16 : decode cX9_lesser 16 = .ok (.getfield 53, 3) := by decide +kernel
theorem dX9_lesser_19 : decode cX9_lesser 19 = .ok (.iload_n 1, 1) := by decide +kernel
theorem dX9_lesser_20 : decode cX9_lesser 20 = .ok (.iaload, 1) := by decide +kernel
theorem dX9_lesser_21 : decode cX9_lesser 21 = .ok (.goto 9, 3) := by decide +kernel
theorem dX9_lesser_24 : decode cX9_lesser 24 = .ok (.aload_n 0, 1) := by decide +kernel
theorem dX9_lesser_25 : decode cX9_lesser 25 = .ok (.getfield 53, 3) := by decide +kernel
theorem dX9_lesser_28 : decode cX9_lesser 28 = .ok (.iload_n 2, 1) := by decide +kernel
theorem dX9_lesser_29 : decode cX9_lesser 29 = .ok (.iaload, 1) := by decide +kernel
theorem dX9_lesser_30 : decode cX9_lesser 30 = .ok (.ireturn, 1) := by decide +kernel
theorem dX9_compare_0 : decode cX9_compare 0 = .ok (.aload_n 0, 1) := by decide +kernel
theorem dX9_compare_1 : decode cX9_compare 1 = .ok (.iload_n 1, 1) := by decide +kernel
theorem dX9_compare_2 : decode cX9_compare 2 = .ok (.invokevirtual 312, 3) := by decide +kernel
theorem dX9_compare_5 : decode cX9_compare 5 = .ok (.ifCond .eq 11, 3) := by decide +kernel
theorem dX9_compare_8 : decode cX9_compare 8 = .ok (.aload_n 0, 1) := by decide +kernel
theorem dX9_compare_9 : decode cX9_compare 9 = .ok (.iload_n 2, 1) := by decide +kernel
theorem dX9_compare_10 : decode cX9_compare 10 = .ok (.invokevirtual 312, 3) := by decide +kernel
theorem dX9_compare_13 : decode cX9_compare 13 = .ok (.ifCond .ne 5, 3) := by decide +kernel
theorem dX9_compare_16 : decode cX9_compare 16 = .ok (.iconst (-1), 1) := by decide +kernel
theorem dX9_compare_17 : decode cX9_compare 17 = .ok (.ireturn, 1) := by decide +kernel
theorem dX9_compare_18 : decode cX9_compare 18 = .ok (.aload_n 0, 1) := by decide +kernel
theorem dX9_compare_19 : decode cX9_compare 19 = .ok (.iload_n 1, 1) := by decide +kernel
theorem dX9_compare_20 : decode cX9_compare 20 = .ok (.iload_n 2, 1) := by decide +kernel
theorem dX9_compare_21 : decode cX9_compare 21 = .ok (.invokevirtual 333, 3) := by decide +kernel
theorem dX9_compare_24 : decode cX9_compare 24 = .ok (.istore_n 3, 1) := by decide +kernel
theorem dX9_compare_25 : decode cX9_compare 25 = .ok (.iconst 0, 1) := by decide +kernel
theorem dX9_compare_26 : decode cX9_compare 26 = .ok (.istore 4, 2) := by decide +kernel
theorem dX9_compare_28 : decode cX9_compare 28 = .ok (.iload 4, 2) := by decide +kernel
theorem dX9_compare_30 : decode cX9_compare 30 = .ok (.iload_n 3, 1) := by decide +kernel
theorem dX9_compare_31 : decode cX9_compare 31 = .ok (.if_icmp .ge 20, 3) := by decide +kernel
theorem dX9_compare_34 : decode cX9_compare 34 = .ok (.aload_n 0, 1) := by decide +kernel
theorem dX9_compare_35 : decode cX9_compare 35 = .ok (.iload_n 1, 1) := by decide +kernel
theorem dX9_compare_36 : decode cX9_compare 36 = .ok (.iload_n 2, 1) := by decide +kernel
theorem dX9_compare_37 : decode cX9_compare 37 = .ok (.iload 4, 2) := by decide +kernel
theorem dX9_compare_39 : decode cX9_compare 39 = .ok (.invokevirtual 337, 3) := by decide +kernel
theorem dX9_compare_42 : decode cX9_compare 42 = .ok (.ifCond .ne 9, 3) := by decide +kernel
theorem dX9_compare_45 : decode cX9_compare 45 = .ok (.iinc 4 1, 3) := by decide +kernel
theorem dX9_compare_48 : decode cX9_compare 48 = .ok (.goto (-20), 3) := by decide +kernel
theorem dX9_compare_51 : decode cX9_compare 51 = .ok (.iload 4, 2) := by decide +kernel
theorem dX9_compare_53 : decode cX9_compare 53 = .ok (.iload_n 3, 1) := by decide +kernel
theorem dX9_compare_54 : decode cX9_compare 54 = .ok (.if_icmp .ne 23, 3) := by decide +kernel
theorem dX9_compare_57 : decode cX9_compare 57 = .ok (.aload_n 0, 1) := by decide +kernel
theorem dX9_compare_58 : decode cX9_compare 58 = .ok (.getfield 53, 3) := by decide +kernel
theorem dX9_compare_61 : decode cX9_compare 61 = .ok (.iload_n 1, 1) := by decide +kernel
theorem dX9_compare_62 : decode cX9_compare 62 = .ok (.iaload, 1) := by decide +kernel
theorem dX9_compare_63 : decode cX9_compare 63 = .ok (.aload_n 0, 1) := by decide +kernel
theorem dX9_compare_64 : decode cX9_compare 64 = .ok (.getfield 53, 3) := by decide +kernel
theorem dX9_compare_67 : decode cX9_compare 67 = .ok (.iload_n 2, 1) := by decide +kernel
theorem dX9_compare_68 : decode cX9_compare 68 = .ok (.iaload, 1) := by decide +kernel
theorem dX9_compare_69 : decode cX9_compare 69 = .ok (.if_icmp .ne 8, 3) := by decide +kernel
theorem dX9_compare_72 : decode cX9_compare 72 = .ok (.bipush (-5), 2) := by decide +kernel
theorem dX9_compare_74 : decode cX9_compare 74 = .ok (.goto 5, 3) := by decide +kernel
theorem dX9_compare_77 : decode cX9_compare 77 = .ok (.iload 4, 2) := by decide +kernel
theorem dX9_compare_79 : decode cX9_compare 79 = .ok (.ireturn, 1) := by decide +kernel
theorem dX9_digestOf_0 : decode cX9_digestOf 0 = .ok (.ldc2_w 323, 3) := by decide +kernel
theorem dX9_digestOf_3 : decode cX9_digestOf 3 = .ok (.lstore_n 3, 1) := by decide +kernel
theorem dX9_digestOf_4 : decode cX9_digestOf 4 = .ok (.iconst 0, 1) := by decide +kernel
theorem dX9_digestOf_5 : decode cX9_digestOf 5 = .ok (.istore 5, 2) := by decide +kernel
theorem dX9_digestOf_7 : decode cX9_digestOf 7 = .ok (.iload 5, 2) := by decide +kernel
theorem dX9_digestOf_9 : decode cX9_digestOf 9 = .ok (.iload_n 2, 1) := by decide +kernel
theorem dX9_digestOf_10 : decode cX9_digestOf 10 = .ok (.if_icmp .ge 66, 3) := by decide +kernel
theorem dX9_digestOf_13 : decode cX9_digestOf 13 = .ok (.iconst 0, 1) := by decide +kernel
theorem dX9_digestOf_14 : decode cX9_digestOf 14 = .ok (.istore 6, 2) := by decide +kernel
theorem dX9_digestOf_16 : decode cX9_digestOf 16 = .ok (.iload 6, 2) := by decide +kernel
theorem dX9_digestOf_18 : decode cX9_digestOf 18 = .ok (.bipush 7, 2) := by decide +kernel
theorem dX9_digestOf_20 : decode cX9_digestOf 20 = .ok (.if_icmp .ge 33, 3) := by decide +kernel
theorem dX9_digestOf_23 : decode cX9_digestOf 23 = .ok (.lload_n 3, 1) := by decide +kernel
theorem dX9_digestOf_24 : decode cX9_digestOf 24 = .ok (.aload_n 0, 1) := by decide +kernel
theorem dX9_digestOf_25 : decode cX9_digestOf 25 = .ok (.getfield 71, 3) := by decide +kernel
theorem dX9_digestOf_28 : decode cX9_digestOf 28 = .ok (.bipush 7, 2) := by decide +kernel
theorem dX9_digestOf_30 : decode cX9_digestOf 30 = .ok (.bipush 100, 2) := by decide +kernel
theorem dX9_digestOf_32 : decode cX9_digestOf 32 = .ok (.iload_n 1, 1) := by decide +kernel
theorem dX9_digestOf_33 : decode cX9_digestOf 33 = .ok (.imul, 1) := by decide +kernel
theorem dX9_digestOf_34 : decode cX9_digestOf 34 = .ok (.iload 5, 2) := by decide +kernel
theorem dX9_digestOf_36 : decode cX9_digestOf 36 = .ok (.iadd, 1) := by decide +kernel
theorem dX9_digestOf_37 : decode cX9_digestOf 37 = .ok (.imul, 1) := by decide +kernel
theorem dX9_digestOf_38 : decode cX9_digestOf 38 = .ok (.iload 6, 2) := by decide +kernel
theorem dX9_digestOf_40 : decode cX9_digestOf 40 = .ok (.iadd, 1) := by decide +kernel
theorem dX9_digestOf_41 : decode cX9_digestOf 41 = .ok (.iaload, 1) := by decide +kernel
theorem dX9_digestOf_42 : decode cX9_digestOf 42 = .ok (.i2l, 1) := by decide +kernel
theorem dX9_digestOf_43 : decode cX9_digestOf 43 = .ok (.invokestatic 325, 3) := by decide +kernel
theorem dX9_digestOf_46 : decode cX9_digestOf 46 = .ok (.lstore_n 3, 1) := by decide +kernel
theorem dX9_digestOf_47 : decode cX9_digestOf 47 = .ok (.iinc 6 1, 3) := by decide +kernel
theorem dX9_digestOf_50 : decode cX9_digestOf 50 = .ok (.goto (-34), 3) := by decide +kernel
theorem dX9_digestOf_53 : decode cX9_digestOf 53 = .ok (.lload_n 3, 1) := by decide +kernel
theorem dX9_digestOf_54 : decode cX9_digestOf 54 = .ok (.aload_n 0, 1) := by decide +kernel
theorem dX9_digestOf_55 : decode cX9_digestOf 55 = .ok (.getfield 74, 3) := by decide +kernel
theorem dX9_digestOf_58 : decode cX9_digestOf 58 = .ok (.bipush 100, 2) := by decide +kernel
theorem dX9_digestOf_60 : decode cX9_digestOf 60 = .ok (.iload_n 1, 1) := by decide +kernel
theorem dX9_digestOf_61 : decode cX9_digestOf 61 = .ok (.imul, 1) := by decide +kernel
theorem dX9_digestOf_62 : decode cX9_digestOf 62 = .ok (.iload 5, 2) := by decide +kernel
theorem dX9_digestOf_64 : decode cX9_digestOf 64 = .ok (.iadd, 1) := by decide +kernel
theorem dX9_digestOf_65 : decode cX9_digestOf 65 = .ok (.laload, 1) := by decide +kernel
theorem dX9_digestOf_66 : decode cX9_digestOf 66 = .ok (.invokestatic 325, 3) := by decide +kernel
theorem dX9_digestOf_69 : decode cX9_digestOf 69 = .ok (.lstore_n 3, 1) := by decide +kernel
theorem dX9_digestOf_70 : decode cX9_digestOf 70 = .ok (.iinc 5 1, 3) := by decide +kernel
theorem dX9_digestOf_73 : decode cX9_digestOf 73 = .ok (.goto (-66), 3) := by decide +kernel
theorem dX9_digestOf_76 : decode cX9_digestOf 76 = .ok (.lload_n 3, 1) := by decide +kernel
theorem dX9_digestOf_77 : decode cX9_digestOf 77 = .ok (.lreturn, 1) := by decide +kernel
theorem dX9_halves_0 : decode cX9_halves 0 = .ok (.aload_n 0, 1) := by decide +kernel
theorem dX9_halves_1 : decode cX9_halves 1 = .ok (.iload_n 1, 1) := by decide +kernel
theorem dX9_halves_2 : decode cX9_halves 2 = .ok (.invokevirtual 312, 3) := by decide +kernel
theorem dX9_halves_5 : decode cX9_halves 5 = .ok (.ifCond .eq 11, 3) := by decide +kernel
theorem dX9_halves_8 : decode cX9_halves 8 = .ok (.aload_n 0, 1) := by decide +kernel
theorem dX9_halves_9 : decode cX9_halves 9 = .ok (.iload_n 2, 1) := by decide +kernel
theorem dX9_halves_10 : decode cX9_halves 10 = .ok (.invokevirtual 312, 3) := by decide +kernel
theorem dX9_halves_13 : decode cX9_halves 13 = .ok (.ifCond .ne 5, 3) := by decide +kernel
theorem dX9_halves_16 : decode cX9_halves 16 = .ok (.iconst (-1), 1) := by decide +kernel
theorem dX9_halves_17 : decode cX9_halves 17 = .ok (.ireturn, 1) := by decide +kernel
theorem dX9_halves_18 : decode cX9_halves 18 = .ok (.iconst 0, 1) := by decide +kernel
theorem dX9_halves_19 : decode cX9_halves 19 = .ok (.istore_n 3, 1) := by decide +kernel
theorem dX9_halves_20 : decode cX9_halves 20 = .ok (.aload_n 0, 1) := by decide +kernel
theorem dX9_halves_21 : decode cX9_halves 21 = .ok (.iload_n 1, 1) := by decide +kernel
theorem dX9_halves_22 : decode cX9_halves 22 = .ok (.iload_n 2, 1) := by decide +kernel
theorem dX9_halves_23 : decode cX9_halves 23 = .ok (.invokevirtual 333, 3) := by decide +kernel
theorem dX9_halves_26 : decode cX9_halves 26 = .ok (.istore 4, 2) := by decide +kernel
theorem dX9_halves_28 : decode cX9_halves 28 = .ok (.iconst 0, 1) := by decide +kernel
theorem dX9_halves_29 : decode cX9_halves 29 = .ok (.istore 5, 2) := by decide +kernel
theorem dX9_halves_31 : decode cX9_halves 31 = .ok (.iload_n 3, 1) := by decide +kernel
theorem dX9_halves_32 : decode cX9_halves 32 = .ok (.iload 4, 2) := by decide +kernel
theorem dX9_halves_34 : decode cX9_halves 34 = .ok (.if_icmp .ge 72, 3) := by decide +kernel
theorem dX9_halves_37 : decode cX9_halves 37 = .ok (.iload_n 3, 1) := by decide +kernel
theorem dX9_halves_38 : decode cX9_halves 38 = .ok (.iload 4, 2) := by decide +kernel
theorem dX9_halves_40 : decode cX9_halves 40 = .ok (.iadd, 1) := by decide +kernel
theorem dX9_halves_41 : decode cX9_halves 41 = .ok (.iconst 1, 1) := by decide +kernel
theorem dX9_halves_42 : decode cX9_halves 42 = .ok (.iadd, 1) := by decide +kernel
theorem dX9_halves_43 : decode cX9_halves 43 = .ok (.iconst 2, 1) := by decide +kernel
theorem dX9_halves_44 : decode cX9_halves 44 = .ok (.idiv, 1) := by decide +kernel
theorem dX9_halves_45 : decode cX9_halves 45 = .ok (.istore 6, 2) := by decide +kernel
theorem dX9_halves_47 : decode cX9_halves 47 = .ok (.aload_n 0, 1) := by decide +kernel
theorem dX9_halves_48 : decode cX9_halves 48 = .ok (.iload_n 1, 1) := by decide +kernel
theorem dX9_halves_49 : decode cX9_halves 49 = .ok (.iload 6, 2) := by decide +kernel
theorem dX9_halves_51 : decode cX9_halves 51 = .ok (.invokevirtual 341, 3) := by decide +kernel
theorem dX9_halves_54 : decode cX9_halves 54 = .ok (.aload_n 0, 1) := by decide +kernel
theorem dX9_halves_55 : decode cX9_halves 55 = .ok (.iload_n 2, 1) := by decide +kernel
theorem dX9_halves_56 : decode cX9_halves 56 = .ok (.iload 6, 2) := by decide +kernel
theorem dX9_halves_58 : decode cX9_halves 58 = .ok (.invokevirtual 341, 3) := by decide +kernel
theorem dX9_halves_61 : decode cX9_halves 61 = .ok (.lcmp, 1) := by decide +kernel
theorem dX9_halves_62 : decode cX9_halves 62 = .ok (.ifCond .ne 7, 3) := by decide +kernel
theorem dX9_halves_65 : decode cX9_halves 65 = .ok (.iconst 1, 1) := by decide +kernel
theorem dX9_halves_66 : decode cX9_halves 66 = .ok (.goto 4, 3) := by decide +kernel
theorem dX9_halves_69 : decode cX9_halves 69 = .ok (.iconst 0, 1) := by decide +kernel
theorem dX9_halves_70 : decode cX9_halves 70 = .ok (.istore 7, 2) := by decide +kernel
theorem dX9_halves_72 : decode cX9_halves 72 = .ok (.iload 7, 2) := by decide +kernel
theorem dX9_halves_74 : decode cX9_halves 74 = .ok (.ifCond .eq 8, 3) := by decide +kernel
theorem dX9_halves_77 : decode cX9_halves 77 = .ok (.iload 6, 2) := by decide +kernel
theorem dX9_halves_79 : decode cX9_halves 79 = .ok (.goto 4, 3) := by decide +kernel
theorem dX9_halves_82 : decode cX9_halves 82 = .ok (.iload_n 3, 1) := by decide +kernel
theorem dX9_halves_83 : decode cX9_halves 83 = .ok (.istore_n 3, 1) := by decide +kernel
theorem dX9_halves_84 : decode cX9_halves 84 = .ok (.iload 7, 2) := by decide +kernel
theorem dX9_halves_86 : decode cX9_halves 86 = .ok (.ifCond .eq 8, 3) := by decide +kernel
theorem dX9_halves_89 : decode cX9_halves 89 = .ok (.iload 4, 2) := by decide +kernel
theorem dX9_halves_91 : decode cX9_halves 91 = .ok (.goto 7, 3) := by decide +kernel
theorem dX9_halves_94 : decode cX9_halves 94 = .ok (.iload 6, 2) := by decide +kernel
theorem dX9_halves_96 : decode cX9_halves 96 = .ok (.iconst 1, 1) := by decide +kernel
theorem dX9_halves_97 : decode cX9_halves 97 = .ok (.isub, 1) := by decide +kernel
theorem dX9_halves_98 : decode cX9_halves 98 = .ok (.istore 4, 2) := by decide +kernel
theorem dX9_halves_100 : decode cX9_halves 100 = .ok (.iinc 5 1, 3) := by decide +kernel
theorem dX9_halves_103 : decode cX9_halves 103 = .ok (.goto (-72), 3) := by decide +kernel
theorem dX9_halves_106 : decode cX9_halves 106 = .ok (.iload 5, 2) := by decide +kernel
theorem dX9_halves_108 : decode cX9_halves 108 = .ok (.ireturn, 1) := by decide +kernel
theorem dX9_put_0 : decode cX9_put 0 = .ok (.aload_n 0, 1) := by decide +kernel
theorem dX9_put_1 : decode cX9_put 1 = .ok (.getfield 162, 3) := by decide +kernel
theorem dX9_put_4 : decode cX9_put 4 = .ok (.aload_n 0, 1) := by decide +kernel
theorem dX9_put_5 : decode cX9_put 5 = .ok (.getfield 345, 3) := by decide +kernel
theorem dX9_put_8 : decode cX9_put 8 = .ok (.iload_n 1, 1) := by decide +kernel
theorem dX9_put_9 : decode cX9_put 9 = .ok (.iastore, 1) := by decide +kernel
theorem dX9_put_10 : decode cX9_put 10 = .ok (.aload_n 0, 1) := by decide +kernel
theorem dX9_put_11 : decode cX9_put 11 = .ok (.dup, 1) := by decide +kernel
theorem dX9_put_12 : decode cX9_put 12 = .ok (.getfield 345, 3) := by decide +kernel
theorem dX9_put_15 : decode cX9_put 15 = .ok (.iconst 1, 1) := by decide +kernel
theorem dX9_put_16 : decode cX9_put 16 = .ok (.iadd, 1) := by decide +kernel
theorem dX9_put_17 : decode cX9_put 17 = .ok (.putfield 345, 3) := by decide +kernel
theorem dX9_put_20 : decode cX9_put 20 = .ok (.return_, 1) := by decide +kernel
theorem dX9_putNumber_0 : decode cX9_putNumber 0 = .ok (.lload_n 1, 1) := by decide +kernel
theorem dX9_putNumber_1 : decode cX9_putNumber 1 = .ok (.lconst 0, 1) := by decide +kernel
theorem dX9_putNumber_2 : decode cX9_putNumber 2 = .ok (.lcmp, 1) := by decide +kernel
theorem dX9_putNumber_3 : decode cX9_putNumber 3 = .ok (.ifCond .ge 9, 3) := by decide +kernel
theorem dX9_putNumber_6 : decode cX9_putNumber 6 = .ok (.aload_n 0, 1) := by decide +kernel
theorem dX9_putNumber_7 : decode cX9_putNumber 7 = .ok (.bipush 45, 2) := by decide +kernel
theorem dX9_putNumber_9 : decode cX9_putNumber 9 = .ok (.invokevirtual 348, 3) := by decide +kernel
theorem dX9_putNumber_12 : decode cX9_putNumber 12 = .ok (.lload_n 1, 1) := by decide +kernel
theorem dX9_putNumber_13 : decode cX9_putNumber 13 = .ok (.lstore_n 3, 1) := by decide +kernel
theorem dX9_putNumber_14 : decode cX9_putNumber 14 = .ok (.iconst 0, 1) := by decide +kernel
theorem dX9_putNumber_15 : decode cX9_putNumber 15 = .ok (.istore 5, 2) := by decide +kernel
theorem dX9_putNumber_17 : decode cX9_putNumber 17 = .ok (.lload_n 3, 1) := by decide +kernel
theorem dX9_putNumber_18 : decode cX9_putNumber 18 = .ok (.lconst 0, 1) := by decide +kernel
theorem dX9_putNumber_19 : decode cX9_putNumber 19 = .ok (.lcmp, 1) := by decide +kernel
theorem dX9_putNumber_20 : decode cX9_putNumber 20 = .ok (.ifCond .ne 8, 3) := by decide +kernel
theorem dX9_putNumber_23 : decode cX9_putNumber 23 = .ok (.iload 5, 2) := by decide +kernel
theorem dX9_putNumber_25 : decode cX9_putNumber 25 = .ok (.ifCond .ne 43, 3) := by decide +kernel
theorem dX9_putNumber_28 : decode cX9_putNumber 28 = .ok (.lload_n 3, 1) := by decide +kernel
theorem dX9_putNumber_29 : decode cX9_putNumber 29 = .ok (.ldc2_w 351, 3) := by decide +kernel
theorem dX9_putNumber_32 : decode cX9_putNumber 32 = .ok (.lrem, 1) := by decide +kernel
theorem dX9_putNumber_33 : decode cX9_putNumber 33 = .ok (.l2i, 1) := by decide +kernel
theorem dX9_putNumber_34 : decode cX9_putNumber 34 = .ok (.istore 6, 2) := by decide +kernel
theorem dX9_putNumber_36 : decode cX9_putNumber 36 = .ok (.aload_n 0, 1) := by decide +kernel
theorem dX9_putNumber_37 : decode cX9_putNumber 37 = .ok (.getfield 165, 3) := by decide +kernel
theorem dX9_putNumber_40 : decode cX9_putNumber 40 = .ok (.iload 5, 2) := by decide +kernel
theorem dX9_putNumber_42 : decode cX9_putNumber 42 = .ok (.iload 6, 2) := by decide +kernel
theorem dX9_putNumber_44 : decode cX9_putNumber 44 = .ok (.ifCond .ge 9, 3) := by decide +kernel
theorem dX9_putNumber_47 : decode cX9_putNumber 47 = .ok (.iload 6, 2) := by decide +kernel
theorem dX9_putNumber_49 : decode cX9_putNumber 49 = .ok (.ineg, 1) := by decide +kernel
theorem dX9_putNumber_50 : decode cX9_putNumber 50 = .ok (.goto 5, 3) := by decide +kernel
theorem dX9_putNumber_53 : decode cX9_putNumber 53 = .ok (.iload 6, 2) := by decide +kernel
theorem dX9_putNumber_55 : decode cX9_putNumber 55 = .ok (.iastore, 1) := by decide +kernel
theorem dX9_putNumber_56 : decode cX9_putNumber 56 = .ok (.iinc 5 1, 3) := by decide +kernel
theorem dX9_putNumber_59 : decode cX9_putNumber 59 = .ok (.lload_n 3, 1) := by decide +kernel
theorem dX9_putNumber_60 : decode cX9_putNumber 60 = .ok (.ldc2_w 351, 3) := by decide +kernel
theorem dX9_putNumber_63 : decode cX9_putNumber 63 = .ok (.ldiv, 1) := by decide +kernel
theorem dX9_putNumber_64 : decode cX9_putNumber 64 = .ok (.lstore_n 3, 1) := by decide +kernel
theorem dX9_putNumber_65 : decode cX9_putNumber 65 = .ok (.goto (-48), 3) := by decide +kernel
theorem dX9_putNumber_68 : decode cX9_putNumber 68 = .ok (.iload 5, 2) := by decide +kernel
theorem dX9_putNumber_70 : decode cX9_putNumber 70 = .ok (.iconst 1, 1) := by decide +kernel
theorem dX9_putNumber_71 : decode cX9_putNumber 71 = .ok (.isub, 1) := by decide +kernel
theorem dX9_putNumber_72 : decode cX9_putNumber 72 = .ok (.istore 6, 2) := by decide +kernel
theorem dX9_putNumber_74 : decode cX9_putNumber 74 = .ok (.iload 6, 2) := by decide +kernel
theorem dX9_putNumber_76 : decode cX9_putNumber 76 = .ok (.ifCond .lt 23, 3) := by decide +kernel
theorem dX9_putNumber_79 : decode cX9_putNumber 79 = .ok (.aload_n 0, 1) := by decide +kernel
theorem dX9_putNumber_80 : decode cX9_putNumber 80 = .ok (.bipush 48, 2) := by decide +kernel
theorem dX9_putNumber_82 : decode cX9_putNumber 82 = .ok (.aload_n 0, 1) := by decide +kernel
theorem dX9_putNumber_83 : decode cX9_putNumber 83 = .ok (.getfield 165, 3) := by decide +kernel
theorem dX9_putNumber_86 : decode cX9_putNumber 86 = .ok (.iload 6, 2) := by decide +kernel
theorem dX9_putNumber_88 : decode cX9_putNumber 88 = .ok (.iaload, 1) := by decide +kernel
theorem dX9_putNumber_89 : decode cX9_putNumber 89 = .ok (.iadd, 1) := by decide +kernel
theorem dX9_putNumber_90 : decode cX9_putNumber 90 = .ok (.invokevirtual 348, 3) := by decide +kernel
theorem dX9_putNumber_93 : decode cX9_putNumber 93 = .ok (.iinc 6 (-1), 3) := by decide +kernel
theorem dX9_putNumber_96 : decode cX9_putNumber 96 = .ok (.goto (-22), 3) := by decide +kernel
theorem dX9_putNumber_99 : decode cX9_putNumber 99 = .ok (.return_, 1) := by decide +kernel
theorem dX9_write_0 : decode cX9_write 0 = .ok (.aload_n 0, 1) := by decide +kernel
theorem dX9_write_1 : decode cX9_write 1 = .ok (.iload_n 1, 1) := by decide +kernel
theorem dX9_write_2 : decode cX9_write 2 = .ok (.iload_n 2, 1) := by decide +kernel
theorem dX9_write_3 : decode cX9_write 3 = .ok (.invokevirtual 316, 3) := by decide +kernel
theorem dX9_write_6 : decode cX9_write 6 = .ok (.ifCond .ne 5, 3) := by decide +kernel
theorem dX9_write_9 : decode cX9_write 9 = .ok (.iconst (-1), 1) := by decide +kernel
theorem dX9_write_10 : decode cX9_write 10 = .ok (.ireturn, 1) := by decide +kernel
theorem dX9_write_11 : decode cX9_write 11 = .ok (.bipush 7, 2) := by decide +kernel
theorem dX9_write_13 : decode cX9_write 13 = .ok (.bipush 100, 2) := by decide +kernel
theorem dX9_write_15 : decode cX9_write 15 = .ok (.iload_n 1, 1) := by decide +kernel
theorem dX9_write_16 : decode cX9_write 16 = .ok (.imul, 1) := by decide +kernel
theorem dX9_write_17 : decode cX9_write 17 = .ok (.iload_n 2, 1) := by decide +kernel
theorem dX9_write_18 : decode cX9_write 18 = .ok (.iadd, 1) := by decide +kernel
theorem dX9_write_19 : decode cX9_write 19 = .ok (.imul, 1) := by decide +kernel
theorem dX9_write_20 : decode cX9_write 20 = .ok (.istore_n 3, 1) := by decide +kernel
theorem dX9_write_21 : decode cX9_write 21 = .ok (.aload_n 0, 1) := by decide +kernel
theorem dX9_write_22 : decode cX9_write 22 = .ok (.iconst 0, 1) := by decide +kernel
theorem dX9_write_23 : decode cX9_write 23 = .ok (.putfield 345, 3) := by decide +kernel
theorem dX9_write_26 : decode cX9_write 26 = .ok (.aload_n 0, 1) := by decide +kernel
theorem dX9_write_27 : decode cX9_write 27 = .ok (.aload_n 0, 1) := by decide +kernel
theorem dX9_write_28 : decode cX9_write 28 = .ok (.getfield 71, 3) := by decide +kernel
theorem dX9_write_31 : decode cX9_write 31 = .ok (.iload_n 3, 1) := by decide +kernel
theorem dX9_write_32 : decode cX9_write 32 = .ok (.iaload, 1) := by decide +kernel
theorem dX9_write_33 : decode cX9_write 33 = .ok (.i2l, 1) := by decide +kernel
theorem dX9_write_34 : decode cX9_write 34 = .ok (.invokevirtual 353, 3) := by decide +kernel
theorem dX9_write_37 : decode cX9_write 37 = .ok (.aload_n 0, 1) := by decide +kernel
theorem dX9_write_38 : decode cX9_write 38 = .ok (.bipush 32, 2) := by decide +kernel
theorem dX9_write_40 : decode cX9_write 40 = .ok (.invokevirtual 348, 3) := by decide +kernel
theorem dX9_write_43 : decode cX9_write 43 = .ok (.aload_n 0, 1) := by decide +kernel
theorem dX9_write_44 : decode cX9_write 44 = .ok (.aload_n 0, 1) := by decide +kernel
theorem dX9_write_45 : decode cX9_write 45 = .ok (.getfield 71, 3) := by decide +kernel
theorem dX9_write_48 : decode cX9_write 48 = .ok (.iload_n 3, 1) := by decide +kernel
theorem dX9_write_49 : decode cX9_write 49 = .ok (.iconst 1, 1) := by decide +kernel
theorem dX9_write_50 : decode cX9_write 50 = .ok (.iadd, 1) := by decide +kernel
theorem dX9_write_51 : decode cX9_write 51 = .ok (.iaload, 1) := by decide +kernel
theorem dX9_write_52 : decode cX9_write 52 = .ok (.i2l, 1) := by decide +kernel
theorem dX9_write_53 : decode cX9_write 53 = .ok (.invokevirtual 353, 3) := by decide +kernel
theorem dX9_write_56 : decode cX9_write 56 = .ok (.aload_n 0, 1) := by decide +kernel
theorem dX9_write_57 : decode cX9_write 57 = .ok (.bipush 46, 2) := by decide +kernel
theorem dX9_write_59 : decode cX9_write 59 = .ok (.invokevirtual 348, 3) := by decide +kernel
theorem dX9_write_62 : decode cX9_write 62 = .ok (.aload_n 0, 1) := by decide +kernel
theorem dX9_write_63 : decode cX9_write 63 = .ok (.aload_n 0, 1) := by decide +kernel
theorem dX9_write_64 : decode cX9_write 64 = .ok (.getfield 71, 3) := by decide +kernel
theorem dX9_write_67 : decode cX9_write 67 = .ok (.iload_n 3, 1) := by decide +kernel
theorem dX9_write_68 : decode cX9_write 68 = .ok (.iconst 2, 1) := by decide +kernel
theorem dX9_write_69 : decode cX9_write 69 = .ok (.iadd, 1) := by decide +kernel
theorem dX9_write_70 : decode cX9_write 70 = .ok (.iaload, 1) := by decide +kernel
theorem dX9_write_71 : decode cX9_write 71 = .ok (.i2l, 1) := by decide +kernel
theorem dX9_write_72 : decode cX9_write 72 = .ok (.invokevirtual 353, 3) := by decide +kernel
theorem dX9_write_75 : decode cX9_write 75 = .ok (.aload_n 0, 1) := by decide +kernel
theorem dX9_write_76 : decode cX9_write 76 = .ok (.bipush 58, 2) := by decide +kernel
theorem dX9_write_78 : decode cX9_write 78 = .ok (.invokevirtual 348, 3) := by decide +kernel
theorem dX9_write_81 : decode cX9_write 81 = .ok (.aload_n 0, 1) := by decide +kernel
theorem dX9_write_82 : decode cX9_write 82 = .ok (.aload_n 0, 1) := by decide +kernel
theorem dX9_write_83 : decode cX9_write 83 = .ok (.getfield 71, 3) := by decide +kernel
theorem dX9_write_86 : decode cX9_write 86 = .ok (.iload_n 3, 1) := by decide +kernel
theorem dX9_write_87 : decode cX9_write 87 = .ok (.iconst 3, 1) := by decide +kernel
theorem dX9_write_88 : decode cX9_write 88 = .ok (.iadd, 1) := by decide +kernel
theorem dX9_write_89 : decode cX9_write 89 = .ok (.iaload, 1) := by decide +kernel
theorem dX9_write_90 : decode cX9_write 90 = .ok (.i2l, 1) := by decide +kernel
theorem dX9_write_91 : decode cX9_write 91 = .ok (.invokevirtual 353, 3) := by decide +kernel
theorem dX9_write_94 : decode cX9_write 94 = .ok (.aload_n 0, 1) := by decide +kernel
theorem dX9_write_95 : decode cX9_write 95 = .ok (.bipush 32, 2) := by decide +kernel
theorem dX9_write_97 : decode cX9_write 97 = .ok (.invokevirtual 348, 3) := by decide +kernel
theorem dX9_write_100 : decode cX9_write 100 = .ok (.aload_n 0, 1) := by decide +kernel
theorem dX9_write_101 : decode cX9_write 101 = .ok (.aload_n 0, 1) := by decide +kernel
theorem dX9_write_102 : decode cX9_write 102 = .ok (.getfield 71, 3) := by decide +kernel
theorem dX9_write_105 : decode cX9_write 105 = .ok (.iload_n 3, 1) := by decide +kernel
theorem dX9_write_106 : decode cX9_write 106 = .ok (.iconst 4, 1) := by decide +kernel
theorem dX9_write_107 : decode cX9_write 107 = .ok (.iadd, 1) := by decide +kernel
theorem dX9_write_108 : decode cX9_write 108 = .ok (.iaload, 1) := by decide +kernel
theorem dX9_write_109 : decode cX9_write 109 = .ok (.i2l, 1) := by decide +kernel
theorem dX9_write_110 : decode cX9_write 110 = .ok (.invokevirtual 353, 3) := by decide +kernel
theorem dX9_write_113 : decode cX9_write 113 = .ok (.aload_n 0, 1) := by decide +kernel
theorem dX9_write_114 : decode cX9_write 114 = .ok (.bipush 32, 2) := by decide +kernel
theorem dX9_write_116 : decode cX9_write 116 = .ok (.invokevirtual 348, 3) := by decide +kernel
theorem dX9_write_119 : decode cX9_write 119 = .ok (.aload_n 0, 1) := by decide +kernel
theorem dX9_write_120 : decode cX9_write 120 = .ok (.aload_n 0, 1) := by decide +kernel
theorem dX9_write_121 : decode cX9_write 121 = .ok (.getfield 74, 3) := by decide +kernel
theorem dX9_write_124 : decode cX9_write 124 = .ok (.bipush 100, 2) := by decide +kernel
theorem dX9_write_126 : decode cX9_write 126 = .ok (.iload_n 1, 1) := by decide +kernel
theorem dX9_write_127 : decode cX9_write 127 = .ok (.imul, 1) := by decide +kernel
theorem dX9_write_128 : decode cX9_write 128 = .ok (.iload_n 2, 1) := by decide +kernel
theorem dX9_write_129 : decode cX9_write 129 = .ok (.iadd, 1) := by decide +kernel
theorem dX9_write_130 : decode cX9_write 130 = .ok (.laload, 1) := by decide +kernel
theorem dX9_write_131 : decode cX9_write 131 = .ok (.invokevirtual 353, 3) := by decide +kernel
theorem dX9_write_134 : decode cX9_write 134 = .ok (.aload_n 0, 1) := by decide +kernel
theorem dX9_write_135 : decode cX9_write 135 = .ok (.getfield 71, 3) := by decide +kernel
theorem dX9_write_138 : decode cX9_write 138 = .ok (.iload_n 3, 1) := by decide +kernel
theorem dX9_write_139 : decode cX9_write 139 = .ok (.bipush 6, 2) := by decide +kernel
theorem dX9_write_141 : decode cX9_write 141 = .ok (.iadd, 1) := by decide +kernel
theorem dX9_write_142 : decode cX9_write 142 = .ok (.iaload, 1) := by decide +kernel
theorem dX9_write_143 : decode cX9_write 143 = .ok (.ifCond .le 23, 3) := by decide +kernel
theorem dX9_write_146 : decode cX9_write 146 = .ok (.aload_n 0, 1) := by decide +kernel
theorem dX9_write_147 : decode cX9_write 147 = .ok (.bipush 33, 2) := by decide +kernel
theorem dX9_write_149 : decode cX9_write 149 = .ok (.invokevirtual 348, 3) := by decide +kernel
theorem dX9_write_152 : decode cX9_write 152 = .ok (.aload_n 0, 1) := by decide +kernel
theorem dX9_write_153 : decode cX9_write 153 = .ok (.aload_n 0, 1) := by decide +kernel
theorem dX9_write_154 : decode cX9_write 154 = .ok (.getfield 71, 3) := by decide +kernel
theorem dX9_write_157 : decode cX9_write 157 = .ok (.iload_n 3, 1) := by decide +kernel
theorem dX9_write_158 : decode cX9_write 158 = .ok (.bipush 6, 2) := by decide +kernel
theorem dX9_write_160 : decode cX9_write 160 = .ok (.iadd, 1) := by decide +kernel
theorem dX9_write_161 : decode cX9_write 161 = .ok (.iaload, 1) := by decide +kernel
theorem dX9_write_162 : decode cX9_write 162 = .ok (.i2l, 1) := by decide +kernel
theorem dX9_write_163 : decode cX9_write 163 = .ok (.invokevirtual 353, 3) := by decide +kernel
theorem dX9_write_166 : decode cX9_write 166 = .ok (.aload_n 0, 1) := by decide +kernel
theorem dX9_write_167 : decode cX9_write 167 = .ok (.getfield 345, 3) := by decide +kernel
theorem dX9_write_170 : decode cX9_write 170 = .ok (.ireturn, 1) := by decide +kernel
theorem dX9_out_0 : decode cX9_out 0 = .ok (.iload_n 1, 1) := by decide +kernel
theorem dX9_out_1 : decode cX9_out 1 = .ok (.i2l, 1) := by decide +kernel
theorem dX9_out_2 : decode cX9_out 2 = .ok (.lconst 0, 1) := by decide +kernel
theorem dX9_out_3 : decode cX9_out 3 = .ok (.aload_n 0, 1) := by decide +kernel
theorem dX9_out_4 : decode cX9_out 4 = .ok (.getfield 345, 3) := by decide +kernel
theorem dX9_out_7 : decode cX9_out 7 = .ok (.iconst 1, 1) := by decide +kernel
theorem dX9_out_8 : decode cX9_out 8 = .ok (.isub, 1) := by decide +kernel
theorem dX9_out_9 : decode cX9_out 9 = .ok (.i2l, 1) := by decide +kernel
theorem dX9_out_10 : decode cX9_out 10 = .ok (.invokestatic 172, 3) := by decide +kernel
theorem dX9_out_13 : decode cX9_out 13 = .ok (.ifCond .eq 12, 3) := by decide +kernel
theorem dX9_out_16 : decode cX9_out 16 = .ok (.aload_n 0, 1) := by decide +kernel
theorem dX9_out_17 : decode cX9_out 17 = .ok (.getfield 162, 3) := by decide +kernel
theorem dX9_out_20 : decode cX9_out 20 = .ok (.iload_n 1, 1) := by decide +kernel
theorem dX9_out_21 : decode cX9_out 21 = .ok (.iaload, 1) := by decide +kernel
theorem dX9_out_22 : decode cX9_out 22 = .ok (.goto 5, 3) := by decide +kernel
theorem dX9_out_25 : decode cX9_out 25 = .ok (.bipush (-5), 2) := by decide +kernel
theorem dX9_out_27 : decode cX9_out 27 = .ok (.ireturn, 1) := by decide +kernel
theorem dX9_count_0 : decode cX9_count 0 = .ok (.iload_n 1, 1) := by decide +kernel
theorem dX9_count_1 : decode cX9_count 1 = .ok (.ifCond .ne 10, 3) := by decide +kernel
theorem dX9_count_4 : decode cX9_count 4 = .ok (.aload_n 0, 1) := by decide +kernel
theorem dX9_count_5 : decode cX9_count 5 = .ok (.getfield 179, 3) := by decide +kernel
theorem dX9_count_8 : decode cX9_count 8 = .ok (.goto 41, 3) := by decide +kernel
theorem dX9_count_11 : decode cX9_count 11 = .ok (.iload_n 1, 1) := by decide +kernel
theorem dX9_count_12 : decode cX9_count 12 = .ok (.iconst 1, 1) := by decide +kernel
theorem dX9_count_13 : decode cX9_count 13 = .ok (.if_icmp .ne 10, 3) := by decide +kernel
theorem dX9_count_16 : decode cX9_count 16 = .ok (.aload_n 0, 1) := by decide +kernel
theorem dX9_count_17 : decode cX9_count 17 = .ok (.getfield 168, 3) := by decide +kernel
theorem dX9_count_20 : decode cX9_count 20 = .ok (.goto 29, 3) := by decide +kernel
theorem dX9_count_23 : decode cX9_count 23 = .ok (.iload_n 1, 1) := by decide +kernel
theorem dX9_count_24 : decode cX9_count 24 = .ok (.iconst 2, 1) := by decide +kernel
theorem dX9_count_25 : decode cX9_count 25 = .ok (.if_icmp .ne 10, 3) := by decide +kernel
theorem dX9_count_28 : decode cX9_count 28 = .ok (.aload_n 0, 1) := by decide +kernel
theorem dX9_count_29 : decode cX9_count 29 = .ok (.getfield 176, 3) := by decide +kernel
theorem dX9_count_32 : decode cX9_count 32 = .ok (.goto 17, 3) := by decide +kernel
theorem dX9_count_35 : decode cX9_count 35 = .ok (.iload_n 1, 1) := by decide +kernel
theorem dX9_count_36 : decode cX9_count 36 = .ok (.iconst 3, 1) := by decide +kernel
theorem dX9_count_37 : decode cX9_count 37 = .ok (.if_icmp .ne 10, 3) := by decide +kernel
theorem dX9_count_40 : decode cX9_count 40 = .ok (.aload_n 0, 1) := by decide +kernel
theorem dX9_count_41 : decode cX9_count 41 = .ok (.getfield 305, 3) := by decide +kernel
theorem dX9_count_44 : decode cX9_count 44 = .ok (.goto 5, 3) := by decide +kernel
theorem dX9_count_47 : decode cX9_count 47 = .ok (.bipush (-2), 2) := by decide +kernel
theorem dX9_count_49 : decode cX9_count 49 = .ok (.ireturn, 1) := by decide +kernel
theorem dJ9_max_7cf53_0 : decode cJ9_max_7cf53 0 = .ok (.iload_n 0, 1) := by decide +kernel
theorem dJ9_max_7cf53_1 : decode cJ9_max_7cf53 1 = .ok (.iload_n 1, 1) := by decide +kernel
theorem dJ9_max_7cf53_2 : decode cJ9_max_7cf53 2 = .ok (.if_icmp .lt 7, 3) := by decide +kernel
theorem dJ9_max_7cf53_5 : decode cJ9_max_7cf53 5 = .ok (.iload_n 0, 1) := by decide +kernel
theorem dJ9_max_7cf53_6 : decode cJ9_max_7cf53 6 = .ok (.goto 4, 3) := by decide +kernel
theorem dJ9_max_7cf53_9 : decode cJ9_max_7cf53 9 = .ok (.iload_n 1, 1) := by decide +kernel
theorem dJ9_max_7cf53_10 : decode cJ9_max_7cf53 10 = .ok (.ireturn, 1) := by decide +kernel
theorem dJ9_min_7cf53_0 : decode cJ9_min_7cf53 0 = .ok (.iload_n 0, 1) := by decide +kernel
theorem dJ9_min_7cf53_1 : decode cJ9_min_7cf53 1 = .ok (.iload_n 1, 1) := by decide +kernel
theorem dJ9_min_7cf53_2 : decode cJ9_min_7cf53 2 = .ok (.if_icmp .gt 7, 3) := by decide +kernel
theorem dJ9_min_7cf53_5 : decode cJ9_min_7cf53 5 = .ok (.iload_n 0, 1) := by decide +kernel
theorem dJ9_min_7cf53_6 : decode cJ9_min_7cf53 6 = .ok (.goto 4, 3) := by decide +kernel
theorem dJ9_min_7cf53_9 : decode cJ9_min_7cf53 9 = .ok (.iload_n 1, 1) := by decide +kernel
theorem dJ9_min_7cf53_10 : decode cJ9_min_7cf53 10 = .ok (.ireturn, 1) := by decide +kernel
theorem dJ7_fill_d0a16_0 : decode cJ7_fill_d0a16 0 = .ok (.iconst 0, 1) := by decide +kernel
theorem dJ7_fill_d0a16_1 : decode cJ7_fill_d0a16 1 = .ok (.istore_n 3, 1) := by decide +kernel
theorem dJ7_fill_d0a16_2 : decode cJ7_fill_d0a16 2 = .ok (.aload_n 0, 1) := by decide +kernel
theorem dJ7_fill_d0a16_3 : decode cJ7_fill_d0a16 3 = .ok (.arraylength, 1) := by decide +kernel
theorem dJ7_fill_d0a16_4 : decode cJ7_fill_d0a16 4 = .ok (.istore 4, 2) := by decide +kernel
theorem dJ7_fill_d0a16_6 : decode cJ7_fill_d0a16 6 = .ok (.iload_n 3, 1) := by decide +kernel
theorem dJ7_fill_d0a16_7 : decode cJ7_fill_d0a16 7 = .ok (.iload 4, 2) := by decide +kernel
theorem dJ7_fill_d0a16_9 : decode cJ7_fill_d0a16 9 = .ok (.if_icmp .ge 13, 3) := by decide +kernel
theorem dJ7_fill_d0a16_12 : decode cJ7_fill_d0a16 12 = .ok (.aload_n 0, 1) := by decide +kernel
theorem dJ7_fill_d0a16_13 : decode cJ7_fill_d0a16 13 = .ok (.iload_n 3, 1) := by decide +kernel
theorem dJ7_fill_d0a16_14 : decode cJ7_fill_d0a16 14 = .ok (.lload_n 1, 1) := by decide +kernel
theorem dJ7_fill_d0a16_15 : decode cJ7_fill_d0a16 15 = .ok (.lastore, 1) := by decide +kernel
theorem dJ7_fill_d0a16_16 : decode cJ7_fill_d0a16 16 = .ok (.iinc 3 1, 3) := by decide +kernel
theorem dJ7_fill_d0a16_19 : decode cJ7_fill_d0a16 19 = .ok (.goto (-13), 3) := by decide +kernel
theorem dJ7_fill_d0a16_22 : decode cJ7_fill_d0a16 22 = .ok (.return_, 1) := by decide +kernel
theorem dJ7_fill_53178_0 : decode cJ7_fill_53178 0 = .ok (.iconst 0, 1) := by decide +kernel
theorem dJ7_fill_53178_1 : decode cJ7_fill_53178 1 = .ok (.istore_n 2, 1) := by decide +kernel
theorem dJ7_fill_53178_2 : decode cJ7_fill_53178 2 = .ok (.aload_n 0, 1) := by decide +kernel
theorem dJ7_fill_53178_3 : decode cJ7_fill_53178 3 = .ok (.arraylength, 1) := by decide +kernel
theorem dJ7_fill_53178_4 : decode cJ7_fill_53178 4 = .ok (.istore_n 3, 1) := by decide +kernel
theorem dJ7_fill_53178_5 : decode cJ7_fill_53178 5 = .ok (.iload_n 2, 1) := by decide +kernel
theorem dJ7_fill_53178_6 : decode cJ7_fill_53178 6 = .ok (.iload_n 3, 1) := by decide +kernel
theorem dJ7_fill_53178_7 : decode cJ7_fill_53178 7 = .ok (.if_icmp .ge 13, 3) := by decide +kernel
theorem dJ7_fill_53178_10 : decode cJ7_fill_53178 10 = .ok (.aload_n 0, 1) := by decide +kernel
theorem dJ7_fill_53178_11 : decode cJ7_fill_53178 11 = .ok (.iload_n 2, 1) := by decide +kernel
theorem dJ7_fill_53178_12 : decode cJ7_fill_53178 12 = .ok (.iload_n 1, 1) := by decide +kernel
theorem dJ7_fill_53178_13 : decode cJ7_fill_53178 13 = .ok (.iastore, 1) := by decide +kernel
theorem dJ7_fill_53178_14 : decode cJ7_fill_53178 14 = .ok (.iinc 2 1, 3) := by decide +kernel
theorem dJ7_fill_53178_17 : decode cJ7_fill_53178 17 = .ok (.goto (-12), 3) := by decide +kernel
theorem dJ7_fill_53178_20 : decode cJ7_fill_53178 20 = .ok (.return_, 1) := by decide +kernel
theorem dL_law_0 : decode cL_law 0 = .ok (.new 7, 3) := by decide +kernel
theorem dL_law_3 : decode cL_law 3 = .ok (.dup, 1) := by decide +kernel
theorem dL_law_4 : decode cL_law 4 = .ok (.invokespecial 9, 3) := by decide +kernel
theorem dL_law_7 : decode cL_law 7 = .ok (.astore_n 1, 1) := by decide +kernel
theorem dL_law_8 : decode cL_law 8 = .ok (.new 10, 3) := by decide +kernel
theorem dL_law_11 : decode cL_law 11 = .ok (.dup, 1) := by decide +kernel
theorem dL_law_12 : decode cL_law 12 = .ok (.invokespecial 12, 3) := by decide +kernel
theorem dL_law_15 : decode cL_law 15 = .ok (.astore_n 2, 1) := by decide +kernel
theorem dL_law_16 : decode cL_law 16 = .ok (.iconst 0, 1) := by decide +kernel
theorem dL_law_17 : decode cL_law 17 = .ok (.istore_n 3, 1) := by decide +kernel
theorem dL_law_18 : decode cL_law 18 = .ok (.iload_n 3, 1) := by decide +kernel
theorem dL_law_19 : decode cL_law 19 = .ok (.aload_n 0, 1) := by decide +kernel
theorem dL_law_20 : decode cL_law 20 = .ok (.arraylength, 1) := by decide +kernel
theorem dL_law_21 : decode cL_law 21 = .ok (.bipush 6, 2) := by decide +kernel
theorem dL_law_23 : decode cL_law 23 = .ok (.isub, 1) := by decide +kernel
theorem dL_law_24 : decode cL_law 24 = .ok (.if_icmp .gt 1171, 3) := by decide +kernel
theorem dL_law_27 : decode cL_law 27 = .ok (.aload_n 0, 1) := by decide +kernel
theorem dL_law_28 : decode cL_law 28 = .ok (.iload_n 3, 1) := by decide +kernel
theorem dL_law_29 : decode cL_law 29 = .ok (.iaload, 1) := by decide +kernel
theorem dL_law_30 : decode cL_law 30 = .ok (.bipush 31, 2) := by decide +kernel
theorem dL_law_32 : decode cL_law 32 = .ok (.iand, 1) := by decide +kernel
theorem dL_law_33 : decode cL_law 33 = .ok (.tableswitch 1156 0 26 #[123, 136, 219, 232, 275, 308, 372, 406, 430, 513, 526, 559, 583, 626, 660, 703, 772, 815, 875, 929, 963, 997, 1011, 1044, 1077, 1110, 1133], 123) := by decide +kernel
theorem dL_law_156 : decode cL_law 156 = .ok (.aload_n 1, 1) := by decide +kernel
theorem dL_law_157 : decode cL_law 157 = .ok (.invokevirtual 13, 3) := by decide +kernel
theorem dL_law_160 : decode cL_law 160 = .ok (.aload_n 2, 1) := by decide +kernel
theorem dL_law_161 : decode cL_law 161 = .ok (.invokevirtual 17, 3) := by decide +kernel
theorem dL_law_164 : decode cL_law 164 = .ok (.if_icmp .eq 1025, 3) := by decide +kernel
theorem dL_law_167 : decode cL_law 167 = .ok (.iconst 0, 1) := by decide +kernel
theorem dL_law_168 : decode cL_law 168 = .ok (.ireturn, 1) := by decide +kernel
theorem dL_law_169 : decode cL_law 169 = .ok (.aload_n 1, 1) := by decide +kernel
theorem dL_law_170 : decode cL_law 170 = .ok (.aload_n 0, 1) := by decide +kernel
theorem dL_law_171 : decode cL_law 171 = .ok (.iload_n 3, 1) := by decide +kernel
theorem dL_law_172 : decode cL_law 172 = .ok (.iconst 1, 1) := by decide +kernel
theorem dL_law_173 : decode cL_law 173 = .ok (.iadd, 1) := by decide +kernel
theorem dL_law_174 : decode cL_law 174 = .ok (.iaload, 1) := by decide +kernel
theorem dL_law_175 : decode cL_law 175 = .ok (.aload_n 0, 1) := by decide +kernel
theorem dL_law_176 : decode cL_law 176 = .ok (.iload_n 3, 1) := by decide +kernel
theorem dL_law_177 : decode cL_law 177 = .ok (.iconst 2, 1) := by decide +kernel
theorem dL_law_178 : decode cL_law 178 = .ok (.iadd, 1) := by decide +kernel
theorem dL_law_179 : decode cL_law 179 = .ok (.iaload, 1) := by decide +kernel
theorem dL_law_180 : decode cL_law 180 = .ok (.aload_n 0, 1) := by decide +kernel
theorem dL_law_181 : decode cL_law 181 = .ok (.iload_n 3, 1) := by decide +kernel
theorem dL_law_182 : decode cL_law 182 = .ok (.iconst 3, 1) := by decide +kernel
theorem dL_law_183 : decode cL_law 183 = .ok (.iadd, 1) := by decide +kernel
theorem dL_law_184 : decode cL_law 184 = .ok (.iaload, 1) := by decide +kernel
theorem dL_law_185 : decode cL_law 185 = .ok (.i2l, 1) := by decide +kernel
theorem dL_law_186 : decode cL_law 186 = .ok (.bipush 32, 2) := by decide +kernel
theorem dL_law_188 : decode cL_law 188 = .ok (.lshl, 1) := by decide +kernel
theorem dL_law_189 : decode cL_law 189 = .ok (.aload_n 0, 1) := by decide +kernel
theorem dL_law_190 : decode cL_law 190 = .ok (.iload_n 3, 1) := by decide +kernel
theorem dL_law_191 : decode cL_law 191 = .ok (.iconst 4, 1) := by decide +kernel
theorem dL_law_192 : decode cL_law 192 = .ok (.iadd, 1) := by decide +kernel
theorem dL_law_193 : decode cL_law 193 = .ok (.iaload, 1) := by decide +kernel
theorem dL_law_194 : decode cL_law 194 = .ok (.i2l, 1) := by decide +kernel
theorem dL_law_195 : decode cL_law 195 = .ok (.ldc2_w 18, 3) := by decide +kernel
theorem dL_law_198 : decode cL_law 198 = .ok (.land, 1) := by decide +kernel
theorem dL_law_199 : decode cL_law 199 = .ok (.lor, 1) := by decide +kernel
theorem dL_law_200 : decode cL_law 200 = .ok (.aload_n 0, 1) := by decide +kernel
theorem dL_law_201 : decode cL_law 201 = .ok (.iload_n 3, 1) := by decide +kernel
theorem dL_law_202 : decode cL_law 202 = .ok (.iconst 5, 1) := by decide +kernel
theorem dL_law_203 : decode cL_law 203 = .ok (.iadd, 1) := by decide +kernel
theorem dL_law_204 : decode cL_law 204 = .ok (.iaload, 1) := by decide +kernel
theorem dL_law_205 : decode cL_law 205 = .ok (.invokevirtual 20, 3) := by decide +kernel
theorem dL_law_208 : decode cL_law 208 = .ok (.aload_n 2, 1) := by decide +kernel
theorem dL_law_209 : decode cL_law 209 = .ok (.aload_n 0, 1) := by decide +kernel
theorem dL_law_210 : decode cL_law 210 = .ok (.iload_n 3, 1) := by decide +kernel
theorem dL_law_211 : decode cL_law 211 = .ok (.iconst 1, 1) := by decide +kernel
theorem dL_law_212 : decode cL_law 212 = .ok (.iadd, 1) := by decide +kernel
theorem dL_law_213 : decode cL_law 213 = .ok (.iaload, 1) := by decide +kernel
theorem dL_law_214 : decode cL_law 214 = .ok (.aload_n 0, 1) := by decide +kernel
theorem dL_law_215 : decode cL_law 215 = .ok (.iload_n 3, 1) := by decide +kernel
theorem dL_law_216 : decode cL_law 216 = .ok (.iconst 2, 1) := by decide +kernel
theorem dL_law_217 : decode cL_law 217 = .ok (.iadd, 1) := by decide +kernel
theorem dL_law_218 : decode cL_law 218 = .ok (.iaload, 1) := by decide +kernel
theorem dL_law_219 : decode cL_law 219 = .ok (.aload_n 0, 1) := by decide +kernel
theorem dL_law_220 : decode cL_law 220 = .ok (.iload_n 3, 1) := by decide +kernel
theorem dL_law_221 : decode cL_law 221 = .ok (.iconst 3, 1) := by decide +kernel
theorem dL_law_222 : decode cL_law 222 = .ok (.iadd, 1) := by decide +kernel
theorem dL_law_223 : decode cL_law 223 = .ok (.iaload, 1) := by decide +kernel
theorem dL_law_224 : decode cL_law 224 = .ok (.i2l, 1) := by decide +kernel
theorem dL_law_225 : decode cL_law 225 = .ok (.bipush 32, 2) := by decide +kernel
theorem dL_law_227 : decode cL_law 227 = .ok (.lshl, 1) := by decide +kernel
theorem dL_law_228 : decode cL_law 228 = .ok (.aload_n 0, 1) := by decide +kernel
theorem dL_law_229 : decode cL_law 229 = .ok (.iload_n 3, 1) := by decide +kernel
theorem dL_law_230 : decode cL_law 230 = .ok (.iconst 4, 1) := by decide +kernel
theorem dL_law_231 : decode cL_law 231 = .ok (.iadd, 1) := by decide +kernel
theorem dL_law_232 : decode cL_law 232 = .ok (.iaload, 1) := by decide +kernel
theorem dL_law_233 : decode cL_law 233 = .ok (.i2l, 1) := by decide +kernel
theorem dL_law_234 : decode cL_law 234 = .ok (.ldc2_w 18, 3) := by decide +kernel
theorem dL_law_237 : decode cL_law 237 = .ok (.land, 1) := by decide +kernel
theorem dL_law_238 : decode cL_law 238 = .ok (.lor, 1) := by decide +kernel
theorem dL_law_239 : decode cL_law 239 = .ok (.aload_n 0, 1) := by decide +kernel
theorem dL_law_240 : decode cL_law 240 = .ok (.iload_n 3, 1) := by decide +kernel
theorem dL_law_241 : decode cL_law 241 = .ok (.iconst 5, 1) := by decide +kernel
theorem dL_law_242 : decode cL_law 242 = .ok (.iadd, 1) := by decide +kernel
theorem dL_law_243 : decode cL_law 243 = .ok (.iaload, 1) := by decide +kernel
theorem dL_law_244 : decode cL_law 244 = .ok (.invokevirtual 24, 3) := by decide +kernel
theorem dL_law_247 : decode cL_law 247 = .ok (.if_icmp .eq 942, 3) := by decide +kernel
theorem dL_law_250 : decode cL_law 250 = .ok (.iconst 0, 1) := by decide +kernel
theorem dL_law_251 : decode cL_law 251 = .ok (.ireturn, 1) := by decide +kernel
theorem dL_law_252 : decode cL_law 252 = .ok (.aload_n 1, 1) := by decide +kernel
theorem dL_law_253 : decode cL_law 253 = .ok (.invokevirtual 25, 3) := by decide +kernel
theorem dL_law_256 : decode cL_law 256 = .ok (.aload_n 2, 1) := by decide +kernel
theorem dL_law_257 : decode cL_law 257 = .ok (.invokevirtual 28, 3) := by decide +kernel
theorem dL_law_260 : decode cL_law 260 = .ok (.if_icmp .eq 929, 3) := by decide +kernel
theorem dL_law_263 : decode cL_law 263 = .ok (.iconst 0, 1) := by decide +kernel
theorem dL_law_264 : decode cL_law 264 = .ok (.ireturn, 1) := by decide +kernel
theorem dL_law_265 : decode cL_law 265 = .ok (.aload_n 1, 1) := by decide +kernel
theorem dL_law_266 : decode cL_law 266 = .ok (.aload_n 0, 1) := by decide +kernel
theorem dL_law_267 : decode cL_law 267 = .ok (.iload_n 3, 1) := by decide +kernel
theorem dL_law_268 : decode cL_law 268 = .ok (.iconst 1, 1) := by decide +kernel
theorem dL_law_269 : decode cL_law 269 = .ok (.iadd, 1) := by decide +kernel
theorem dL_law_270 : decode cL_law 270 = .ok (.iaload, 1) := by decide +kernel
theorem dL_law_271 : decode cL_law 271 = .ok (.aload_n 0, 1) := by decide +kernel
theorem dL_law_272 : decode cL_law 272 = .ok (.iload_n 3, 1) := by decide +kernel
theorem dL_law_273 : decode cL_law 273 = .ok (.iconst 2, 1) := by decide +kernel
theorem dL_law_274 : decode cL_law 274 = .ok (.iadd, 1) := by decide +kernel
theorem dL_law_275 : decode cL_law 275 = .ok (.iaload, 1) := by decide +kernel
theorem dL_law_276 : decode cL_law 276 = .ok (.aload_n 0, 1) := by decide +kernel
theorem dL_law_277 : decode cL_law 277 = .ok (.iload_n 3, 1) := by decide +kernel
theorem dL_law_278 : decode cL_law 278 = .ok (.iconst 3, 1) := by decide +kernel
theorem dL_law_279 : decode cL_law 279 = .ok (.iadd, 1) := by decide +kernel
theorem dL_law_280 : decode cL_law 280 = .ok (.iaload, 1) := by decide +kernel
theorem dL_law_281 : decode cL_law 281 = .ok (.invokevirtual 29, 3) := by decide +kernel
theorem dL_law_284 : decode cL_law 284 = .ok (.aload_n 2, 1) := by decide +kernel
theorem dL_law_285 : decode cL_law 285 = .ok (.aload_n 0, 1) := by decide +kernel
theorem dL_law_286 : decode cL_law 286 = .ok (.iload_n 3, 1) := by decide +kernel
theorem dL_law_287 : decode cL_law 287 = .ok (.iconst 1, 1) := by decide +kernel
theorem dL_law_288 : decode cL_law 288 = .ok (.iadd, 1) := by decide +kernel
theorem dL_law_289 : decode cL_law 289 = .ok (.iaload, 1) := by decide +kernel
theorem dL_law_290 : decode cL_law 290 = .ok (.aload_n 0, 1) := by decide +kernel
theorem dL_law_291 : decode cL_law 291 = .ok (.iload_n 3, 1) := by decide +kernel
theorem dL_law_292 : decode cL_law 292 = .ok (.iconst 2, 1) := by decide +kernel
theorem dL_law_293 : decode cL_law 293 = .ok (.iadd, 1) := by decide +kernel
theorem dL_law_294 : decode cL_law 294 = .ok (.iaload, 1) := by decide +kernel
theorem dL_law_295 : decode cL_law 295 = .ok (.aload_n 0, 1) := by decide +kernel
theorem dL_law_296 : decode cL_law 296 = .ok (.iload_n 3, 1) := by decide +kernel
theorem dL_law_297 : decode cL_law 297 = .ok (.iconst 3, 1) := by decide +kernel
theorem dL_law_298 : decode cL_law 298 = .ok (.iadd, 1) := by decide +kernel
theorem dL_law_299 : decode cL_law 299 = .ok (.iaload, 1) := by decide +kernel
theorem dL_law_300 : decode cL_law 300 = .ok (.invokevirtual 33, 3) := by decide +kernel
theorem dL_law_303 : decode cL_law 303 = .ok (.if_icmp .eq 886, 3) := by decide +kernel
theorem dL_law_306 : decode cL_law 306 = .ok (.iconst 0, 1) := by decide +kernel
theorem dL_law_307 : decode cL_law 307 = .ok (.ireturn, 1) := by decide +kernel
theorem dL_law_308 : decode cL_law 308 = .ok (.aload_n 1, 1) := by decide +kernel
theorem dL_law_309 : decode cL_law 309 = .ok (.aload_n 0, 1) := by decide +kernel
theorem dL_law_310 : decode cL_law 310 = .ok (.iload_n 3, 1) := by decide +kernel
theorem dL_law_311 : decode cL_law 311 = .ok (.iconst 1, 1) := by decide +kernel
theorem dL_law_312 : decode cL_law 312 = .ok (.iadd, 1) := by decide +kernel
theorem dL_law_313 : decode cL_law 313 = .ok (.iaload, 1) := by decide +kernel
theorem dL_law_314 : decode cL_law 314 = .ok (.aload_n 0, 1) := by decide +kernel
theorem dL_law_315 : decode cL_law 315 = .ok (.iload_n 3, 1) := by decide +kernel
theorem dL_law_316 : decode cL_law 316 = .ok (.iconst 2, 1) := by decide +kernel
theorem dL_law_317 : decode cL_law 317 = .ok (.iadd, 1) := by decide +kernel
theorem dL_law_318 : decode cL_law 318 = .ok (.iaload, 1) := by decide +kernel
theorem dL_law_319 : decode cL_law 319 = .ok (.invokevirtual 34, 3) := by decide +kernel
theorem dL_law_322 : decode cL_law 322 = .ok (.aload_n 2, 1) := by decide +kernel
theorem dL_law_323 : decode cL_law 323 = .ok (.aload_n 0, 1) := by decide +kernel
theorem dL_law_324 : decode cL_law 324 = .ok (.iload_n 3, 1) := by decide +kernel
theorem dL_law_325 : decode cL_law 325 = .ok (.iconst 1, 1) := by decide +kernel
theorem dL_law_326 : decode cL_law 326 = .ok (.iadd, 1) := by decide +kernel
theorem dL_law_327 : decode cL_law 327 = .ok (.iaload, 1) := by decide +kernel
theorem dL_law_328 : decode cL_law 328 = .ok (.aload_n 0, 1) := by decide +kernel
theorem dL_law_329 : decode cL_law 329 = .ok (.iload_n 3, 1) := by decide +kernel
theorem dL_law_330 : decode cL_law 330 = .ok (.iconst 2, 1) := by decide +kernel
theorem dL_law_331 : decode cL_law 331 = .ok (.iadd, 1) := by decide +kernel
theorem dL_law_332 : decode cL_law 332 = .ok (.iaload, 1) := by decide +kernel
theorem dL_law_333 : decode cL_law 333 = .ok (.invokevirtual 38, 3) := by decide +kernel
theorem dL_law_336 : decode cL_law 336 = .ok (.if_icmp .eq 853, 3) := by decide +kernel
theorem dL_law_339 : decode cL_law 339 = .ok (.iconst 0, 1) := by decide +kernel
theorem dL_law_340 : decode cL_law 340 = .ok (.ireturn, 1) := by decide +kernel
theorem dL_law_341 : decode cL_law 341 = .ok (.aload_n 1, 1) := by decide +kernel
theorem dL_law_342 : decode cL_law 342 = .ok (.aload_n 0, 1) := by decide +kernel
theorem dL_law_343 : decode cL_law 343 = .ok (.iload_n 3, 1) := by decide +kernel
theorem dL_law_344 : decode cL_law 344 = .ok (.iconst 1, 1) := by decide +kernel
theorem dL_law_345 : decode cL_law 345 = .ok (.iadd, 1) := by decide +kernel
theorem dL_law_346 : decode cL_law 346 = .ok (.iaload, 1) := by decide +kernel
theorem dL_law_347 : decode cL_law 347 = .ok (.aload_n 0, 1) := by decide +kernel
theorem dL_law_348 : decode cL_law 348 = .ok (.iload_n 3, 1) := by decide +kernel
theorem dL_law_349 : decode cL_law 349 = .ok (.iconst 2, 1) := by decide +kernel
theorem dL_law_350 : decode cL_law 350 = .ok (.iadd, 1) := by decide +kernel
theorem dL_law_351 : decode cL_law 351 = .ok (.iaload, 1) := by decide +kernel
theorem dL_law_352 : decode cL_law 352 = .ok (.i2l, 1) := by decide +kernel
theorem dL_law_353 : decode cL_law 353 = .ok (.bipush 32, 2) := by decide +kernel
theorem dL_law_355 : decode cL_law 355 = .ok (.lshl, 1) := by decide +kernel
theorem dL_law_356 : decode cL_law 356 = .ok (.aload_n 0, 1) := by decide +kernel
theorem dL_law_357 : decode cL_law 357 = .ok (.iload_n 3, 1) := by decide +kernel
theorem dL_law_358 : decode cL_law 358 = .ok (.iconst 3, 1) := by decide +kernel
theorem dL_law_359 : decode cL_law 359 = .ok (.iadd, 1) := by decide +kernel
theorem dL_law_360 : decode cL_law 360 = .ok (.iaload, 1) := by decide +kernel
theorem dL_law_361 : decode cL_law 361 = .ok (.i2l, 1) := by decide +kernel
theorem dL_law_362 : decode cL_law 362 = .ok (.ldc2_w 18, 3) := by decide +kernel
theorem dL_law_365 : decode cL_law 365 = .ok (.land, 1) := by decide +kernel
theorem dL_law_366 : decode cL_law 366 = .ok (.lor, 1) := by decide +kernel
theorem dL_law_367 : decode cL_law 367 = .ok (.invokevirtual 39, 3) := by decide +kernel
theorem dL_law_370 : decode cL_law 370 = .ok (.aload_n 2, 1) := by decide +kernel
theorem dL_law_371 : decode cL_law 371 = .ok (.aload_n 0, 1) := by decide +kernel
theorem dL_law_372 : decode cL_law 372 = .ok (.iload_n 3, 1) := by decide +kernel
theorem dL_law_373 : decode cL_law 373 = .ok (.iconst 1, 1) := by decide +kernel
theorem dL_law_374 : decode cL_law 374 = .ok (.iadd, 1) := by decide +kernel
theorem dL_law_375 : decode cL_law 375 = .ok (.iaload, 1) := by decide +kernel
theorem dL_law_376 : decode cL_law 376 = .ok (.aload_n 0, 1) := by decide +kernel
theorem dL_law_377 : decode cL_law 377 = .ok (.iload_n 3, 1) := by decide +kernel
theorem dL_law_378 : decode cL_law 378 = .ok (.iconst 2, 1) := by decide +kernel
theorem dL_law_379 : decode cL_law 379 = .ok (.iadd, 1) := by decide +kernel
theorem dL_law_380 : decode cL_law 380 = .ok (.iaload, 1) := by decide +kernel
theorem dL_law_381 : decode cL_law 381 = .ok (.i2l, 1) := by decide +kernel
theorem dL_law_382 : decode cL_law 382 = .ok (.bipush 32, 2) := by decide +kernel
theorem dL_law_384 : decode cL_law 384 = .ok (.lshl, 1) := by decide +kernel
theorem dL_law_385 : decode cL_law 385 = .ok (.aload_n 0, 1) := by decide +kernel
theorem dL_law_386 : decode cL_law 386 = .ok (.iload_n 3, 1) := by decide +kernel
theorem dL_law_387 : decode cL_law 387 = .ok (.iconst 3, 1) := by decide +kernel
theorem dL_law_388 : decode cL_law 388 = .ok (.iadd, 1) := by decide +kernel
theorem dL_law_389 : decode cL_law 389 = .ok (.iaload, 1) := by decide +kernel
theorem dL_law_390 : decode cL_law 390 = .ok (.i2l, 1) := by decide +kernel
theorem dL_law_391 : decode cL_law 391 = .ok (.ldc2_w 18, 3) := by decide +kernel
theorem dL_law_394 : decode cL_law 394 = .ok (.land, 1) := by decide +kernel
theorem dL_law_395 : decode cL_law 395 = .ok (.lor, 1) := by decide +kernel
theorem dL_law_396 : decode cL_law 396 = .ok (.invokevirtual 43, 3) := by decide +kernel
theorem dL_law_399 : decode cL_law 399 = .ok (.lcmp, 1) := by decide +kernel
theorem dL_law_400 : decode cL_law 400 = .ok (.ifCond .eq 789, 3) := by decide +kernel
theorem dL_law_403 : decode cL_law 403 = .ok (.iconst 0, 1) := by decide +kernel
theorem dL_law_404 : decode cL_law 404 = .ok (.ireturn, 1) := by decide +kernel
theorem dL_law_405 : decode cL_law 405 = .ok (.aload_n 1, 1) := by decide +kernel
theorem dL_law_406 : decode cL_law 406 = .ok (.aload_n 0, 1) := by decide +kernel
theorem dL_law_407 : decode cL_law 407 = .ok (.iload_n 3, 1) := by decide +kernel
theorem dL_law_408 : decode cL_law 408 = .ok (.iconst 1, 1) := by decide +kernel
theorem dL_law_409 : decode cL_law 409 = .ok (.iadd, 1) := by decide +kernel
theorem dL_law_410 : decode cL_law 410 = .ok (.iaload, 1) := by decide +kernel
theorem dL_law_411 : decode cL_law 411 = .ok (.aload_n 0, 1) := by decide +kernel
theorem dL_law_412 : decode cL_law 412 = .ok (.iload_n 3, 1) := by decide +kernel
theorem dL_law_413 : decode cL_law 413 = .ok (.iconst 2, 1) := by decide +kernel
theorem dL_law_414 : decode cL_law 414 = .ok (.iadd, 1) := by decide +kernel
theorem dL_law_415 : decode cL_law 415 = .ok (.iaload, 1) := by decide +kernel
theorem dL_law_416 : decode cL_law 416 = .ok (.invokevirtual 44, 3) := by decide +kernel
theorem dL_law_419 : decode cL_law 419 = .ok (.aload_n 2, 1) := by decide +kernel
theorem dL_law_420 : decode cL_law 420 = .ok (.aload_n 0, 1) := by decide +kernel
theorem dL_law_421 : decode cL_law 421 = .ok (.iload_n 3, 1) := by decide +kernel
theorem dL_law_422 : decode cL_law 422 = .ok (.iconst 1, 1) := by decide +kernel
theorem dL_law_423 : decode cL_law 423 = .ok (.iadd, 1) := by decide +kernel
theorem dL_law_424 : decode cL_law 424 = .ok (.iaload, 1) := by decide +kernel
theorem dL_law_425 : decode cL_law 425 = .ok (.aload_n 0, 1) := by decide +kernel
theorem dL_law_426 : decode cL_law 426 = .ok (.iload_n 3, 1) := by decide +kernel
theorem dL_law_427 : decode cL_law 427 = .ok (.iconst 2, 1) := by decide +kernel
theorem dL_law_428 : decode cL_law 428 = .ok (.iadd, 1) := by decide +kernel
theorem dL_law_429 : decode cL_law 429 = .ok (.iaload, 1) := by decide +kernel
theorem dL_law_430 : decode cL_law 430 = .ok (.invokevirtual 48, 3) := by decide +kernel
theorem dL_law_433 : decode cL_law 433 = .ok (.lcmp, 1) := by decide +kernel
theorem dL_law_434 : decode cL_law 434 = .ok (.ifCond .eq 755, 3) := by decide +kernel
theorem dL_law_437 : decode cL_law 437 = .ok (.iconst 0, 1) := by decide +kernel
theorem dL_law_438 : decode cL_law 438 = .ok (.ireturn, 1) := by decide +kernel
theorem dL_law_439 : decode cL_law 439 = .ok (.aload_n 1, 1) := by decide +kernel
theorem dL_law_440 : decode cL_law 440 = .ok (.aload_n 0, 1) := by decide +kernel
theorem dL_law_441 : decode cL_law 441 = .ok (.iload_n 3, 1) := by decide +kernel
theorem dL_law_442 : decode cL_law 442 = .ok (.iconst 1, 1) := by decide +kernel
theorem dL_law_443 : decode cL_law 443 = .ok (.iadd, 1) := by decide +kernel
theorem dL_law_444 : decode cL_law 444 = .ok (.iaload, 1) := by decide +kernel
theorem dL_law_445 : decode cL_law 445 = .ok (.invokevirtual 49, 3) := by decide +kernel
theorem dL_law_448 : decode cL_law 448 = .ok (.aload_n 2, 1) := by decide +kernel
theorem dL_law_449 : decode cL_law 449 = .ok (.aload_n 0, 1) := by decide +kernel
theorem dL_law_450 : decode cL_law 450 = .ok (.iload_n 3, 1) := by decide +kernel
theorem dL_law_451 : decode cL_law 451 = .ok (.iconst 1, 1) := by decide +kernel
theorem dL_law_452 : decode cL_law 452 = .ok (.iadd, 1) := by decide +kernel
theorem dL_law_453 : decode cL_law 453 = .ok (.iaload, 1) := by decide +kernel
theorem dL_law_454 : decode cL_law 454 = .ok (.invokevirtual 53, 3) := by decide +kernel
theorem dL_law_457 : decode cL_law 457 = .ok (.lcmp, 1) := by decide +kernel
theorem dL_law_458 : decode cL_law 458 = .ok (.ifCond .eq 731, 3) := by decide +kernel
theorem dL_law_461 : decode cL_law 461 = .ok (.iconst 0, 1) := by decide +kernel
theorem dL_law_462 : decode cL_law 462 = .ok (.ireturn, 1) := by decide +kernel
theorem dL_law_463 : decode cL_law 463 = .ok (.aload_n 1, 1) := by decide +kernel
theorem dL_law_464 : decode cL_law 464 = .ok (.aload_n 0, 1) := by decide +kernel
theorem dL_law_465 : decode cL_law 465 = .ok (.iload_n 3, 1) := by decide +kernel
theorem dL_law_466 : decode cL_law 466 = .ok (.iconst 1, 1) := by decide +kernel
theorem dL_law_467 : decode cL_law 467 = .ok (.iadd, 1) := by decide +kernel
theorem dL_law_468 : decode cL_law 468 = .ok (.iaload, 1) := by decide +kernel
theorem dL_law_469 : decode cL_law 469 = .ok (.aload_n 0, 1) := by decide +kernel
theorem dL_law_470 : decode cL_law 470 = .ok (.iload_n 3, 1) := by decide +kernel
theorem dL_law_471 : decode cL_law 471 = .ok (.iconst 2, 1) := by decide +kernel
theorem dL_law_472 : decode cL_law 472 = .ok (.iadd, 1) := by decide +kernel
theorem dL_law_473 : decode cL_law 473 = .ok (.iaload, 1) := by decide +kernel
theorem dL_law_474 : decode cL_law 474 = .ok (.aload_n 0, 1) := by decide +kernel
theorem dL_law_475 : decode cL_law 475 = .ok (.iload_n 3, 1) := by decide +kernel
theorem dL_law_476 : decode cL_law 476 = .ok (.iconst 3, 1) := by decide +kernel
theorem dL_law_477 : decode cL_law 477 = .ok (.iadd, 1) := by decide +kernel
theorem dL_law_478 : decode cL_law 478 = .ok (.iaload, 1) := by decide +kernel
theorem dL_law_479 : decode cL_law 479 = .ok (.i2l, 1) := by decide +kernel
theorem dL_law_480 : decode cL_law 480 = .ok (.bipush 32, 2) := by decide +kernel
theorem dL_law_482 : decode cL_law 482 = .ok (.lshl, 1) := by decide +kernel
theorem dL_law_483 : decode cL_law 483 = .ok (.aload_n 0, 1) := by decide +kernel
theorem dL_law_484 : decode cL_law 484 = .ok (.iload_n 3, 1) := by decide +kernel
theorem dL_law_485 : decode cL_law 485 = .ok (.iconst 4, 1) := by decide +kernel
theorem dL_law_486 : decode cL_law 486 = .ok (.iadd, 1) := by decide +kernel
theorem dL_law_487 : decode cL_law 487 = .ok (.iaload, 1) := by decide +kernel
theorem dL_law_488 : decode cL_law 488 = .ok (.i2l, 1) := by decide +kernel
theorem dL_law_489 : decode cL_law 489 = .ok (.ldc2_w 18, 3) := by decide +kernel
theorem dL_law_492 : decode cL_law 492 = .ok (.land, 1) := by decide +kernel
theorem dL_law_493 : decode cL_law 493 = .ok (.lor, 1) := by decide +kernel
theorem dL_law_494 : decode cL_law 494 = .ok (.aload_n 0, 1) := by decide +kernel
theorem dL_law_495 : decode cL_law 495 = .ok (.iload_n 3, 1) := by decide +kernel
theorem dL_law_496 : decode cL_law 496 = .ok (.iconst 5, 1) := by decide +kernel
theorem dL_law_497 : decode cL_law 497 = .ok (.iadd, 1) := by decide +kernel
theorem dL_law_498 : decode cL_law 498 = .ok (.iaload, 1) := by decide +kernel
theorem dL_law_499 : decode cL_law 499 = .ok (.invokevirtual 54, 3) := by decide +kernel
theorem dL_law_502 : decode cL_law 502 = .ok (.aload_n 2, 1) := by decide +kernel
theorem dL_law_503 : decode cL_law 503 = .ok (.aload_n 0, 1) := by decide +kernel
theorem dL_law_504 : decode cL_law 504 = .ok (.iload_n 3, 1) := by decide +kernel
theorem dL_law_505 : decode cL_law 505 = .ok (.iconst 1, 1) := by decide +kernel
theorem dL_law_506 : decode cL_law 506 = .ok (.iadd, 1) := by decide +kernel
theorem dL_law_507 : decode cL_law 507 = .ok (.iaload, 1) := by decide +kernel
theorem dL_law_508 : decode cL_law 508 = .ok (.aload_n 0, 1) := by decide +kernel
theorem dL_law_509 : decode cL_law 509 = .ok (.iload_n 3, 1) := by decide +kernel
theorem dL_law_510 : decode cL_law 510 = .ok (.iconst 2, 1) := by decide +kernel
theorem dL_law_511 : decode cL_law 511 = .ok (.iadd, 1) := by decide +kernel
theorem dL_law_512 : decode cL_law 512 = .ok (.iaload, 1) := by decide +kernel
theorem dL_law_513 : decode cL_law 513 = .ok (.aload_n 0, 1) := by decide +kernel
theorem dL_law_514 : decode cL_law 514 = .ok (.iload_n 3, 1) := by decide +kernel
theorem dL_law_515 : decode cL_law 515 = .ok (.iconst 3, 1) := by decide +kernel
theorem dL_law_516 : decode cL_law 516 = .ok (.iadd, 1) := by decide +kernel
theorem dL_law_517 : decode cL_law 517 = .ok (.iaload, 1) := by decide +kernel
theorem dL_law_518 : decode cL_law 518 = .ok (.i2l, 1) := by decide +kernel
theorem dL_law_519 : decode cL_law 519 = .ok (.bipush 32, 2) := by decide +kernel
theorem dL_law_521 : decode cL_law 521 = .ok (.lshl, 1) := by decide +kernel
theorem dL_law_522 : decode cL_law 522 = .ok (.aload_n 0, 1) := by decide +kernel
theorem dL_law_523 : decode cL_law 523 = .ok (.iload_n 3, 1) := by decide +kernel
theorem dL_law_524 : decode cL_law 524 = .ok (.iconst 4, 1) := by decide +kernel
theorem dL_law_525 : decode cL_law 525 = .ok (.iadd, 1) := by decide +kernel
theorem dL_law_526 : decode cL_law 526 = .ok (.iaload, 1) := by decide +kernel
theorem dL_law_527 : decode cL_law 527 = .ok (.i2l, 1) := by decide +kernel
theorem dL_law_528 : decode cL_law 528 = .ok (.ldc2_w 18, 3) := by decide +kernel
theorem dL_law_531 : decode cL_law 531 = .ok (.land, 1) := by decide +kernel
theorem dL_law_532 : decode cL_law 532 = .ok (.lor, 1) := by decide +kernel
theorem dL_law_533 : decode cL_law 533 = .ok (.aload_n 0, 1) := by decide +kernel
theorem dL_law_534 : decode cL_law 534 = .ok (.iload_n 3, 1) := by decide +kernel
theorem dL_law_535 : decode cL_law 535 = .ok (.iconst 5, 1) := by decide +kernel
theorem dL_law_536 : decode cL_law 536 = .ok (.iadd, 1) := by decide +kernel
theorem dL_law_537 : decode cL_law 537 = .ok (.iaload, 1) := by decide +kernel
theorem dL_law_538 : decode cL_law 538 = .ok (.invokevirtual 57, 3) := by decide +kernel
theorem dL_law_541 : decode cL_law 541 = .ok (.if_icmp .eq 648, 3) := by decide +kernel
theorem dL_law_544 : decode cL_law 544 = .ok (.iconst 0, 1) := by decide +kernel
theorem dL_law_545 : decode cL_law 545 = .ok (.ireturn, 1) := by decide +kernel
theorem dL_law_546 : decode cL_law 546 = .ok (.aload_n 1, 1) := by decide +kernel
theorem dL_law_547 : decode cL_law 547 = .ok (.invokevirtual 58, 3) := by decide +kernel
theorem dL_law_550 : decode cL_law 550 = .ok (.aload_n 2, 1) := by decide +kernel
theorem dL_law_551 : decode cL_law 551 = .ok (.invokevirtual 61, 3) := by decide +kernel
theorem dL_law_554 : decode cL_law 554 = .ok (.if_icmp .eq 635, 3) := by decide +kernel
theorem dL_law_557 : decode cL_law 557 = .ok (.iconst 0, 1) := by decide +kernel
theorem dL_law_558 : decode cL_law 558 = .ok (.ireturn, 1) := by decide +kernel
theorem dL_law_559 : decode cL_law 559 = .ok (.aload_n 1, 1) := by decide +kernel
theorem dL_law_560 : decode cL_law 560 = .ok (.aload_n 0, 1) := by decide +kernel
theorem dL_law_561 : decode cL_law 561 = .ok (.iload_n 3, 1) := by decide +kernel
theorem dL_law_562 : decode cL_law 562 = .ok (.iconst 1, 1) := by decide +kernel
theorem dL_law_563 : decode cL_law 563 = .ok (.iadd, 1) := by decide +kernel
theorem dL_law_564 : decode cL_law 564 = .ok (.iaload, 1) := by decide +kernel
theorem dL_law_565 : decode cL_law 565 = .ok (.aload_n 0, 1) := by decide +kernel
theorem dL_law_566 : decode cL_law 566 = .ok (.iload_n 3, 1) := by decide +kernel
theorem dL_law_567 : decode cL_law 567 = .ok (.iconst 2, 1) := by decide +kernel
theorem dL_law_568 : decode cL_law 568 = .ok (.iadd, 1) := by decide +kernel
theorem dL_law_569 : decode cL_law 569 = .ok (.iaload, 1) := by decide +kernel
theorem dL_law_570 : decode cL_law 570 = .ok (.invokevirtual 62, 3) := by decide +kernel
theorem dL_law_573 : decode cL_law 573 = .ok (.aload_n 2, 1) := by decide +kernel
theorem dL_law_574 : decode cL_law 574 = .ok (.aload_n 0, 1) := by decide +kernel
theorem dL_law_575 : decode cL_law 575 = .ok (.iload_n 3, 1) := by decide +kernel
theorem dL_law_576 : decode cL_law 576 = .ok (.iconst 1, 1) := by decide +kernel
theorem dL_law_577 : decode cL_law 577 = .ok (.iadd, 1) := by decide +kernel
theorem dL_law_578 : decode cL_law 578 = .ok (.iaload, 1) := by decide +kernel
theorem dL_law_579 : decode cL_law 579 = .ok (.aload_n 0, 1) := by decide +kernel
theorem dL_law_580 : decode cL_law 580 = .ok (.iload_n 3, 1) := by decide +kernel
theorem dL_law_581 : decode cL_law 581 = .ok (.iconst 2, 1) := by decide +kernel
theorem dL_law_582 : decode cL_law 582 = .ok (.iadd, 1) := by decide +kernel
theorem dL_law_583 : decode cL_law 583 = .ok (.iaload, 1) := by decide +kernel
theorem dL_law_584 : decode cL_law 584 = .ok (.invokevirtual 65, 3) := by decide +kernel
theorem dL_law_587 : decode cL_law 587 = .ok (.if_icmp .eq 602, 3) := by decide +kernel
theorem dL_law_590 : decode cL_law 590 = .ok (.iconst 0, 1) := by decide +kernel
theorem dL_law_591 : decode cL_law 591 = .ok (.ireturn, 1) := by decide +kernel
theorem dL_law_592 : decode cL_law 592 = .ok (.aload_n 1, 1) := by decide +kernel
theorem dL_law_593 : decode cL_law 593 = .ok (.aload_n 0, 1) := by decide +kernel
theorem dL_law_594 : decode cL_law 594 = .ok (.iload_n 3, 1) := by decide +kernel
theorem dL_law_595 : decode cL_law 595 = .ok (.iconst 1, 1) := by decide +kernel
theorem dL_law_596 : decode cL_law 596 = .ok (.iadd, 1) := by decide +kernel
theorem dL_law_597 : decode cL_law 597 = .ok (.iaload, 1) := by decide +kernel
theorem dL_law_598 : decode cL_law 598 = .ok (.invokevirtual 66, 3) := by decide +kernel
theorem dL_law_601 : decode cL_law 601 = .ok (.aload_n 2, 1) := by decide +kernel
theorem dL_law_602 : decode cL_law 602 = .ok (.aload_n 0, 1) := by decide +kernel
theorem dL_law_603 : decode cL_law 603 = .ok (.iload_n 3, 1) := by decide +kernel
theorem dL_law_604 : decode cL_law 604 = .ok (.iconst 1, 1) := by decide +kernel
theorem dL_law_605 : decode cL_law 605 = .ok (.iadd, 1) := by decide +kernel
theorem dL_law_606 : decode cL_law 606 = .ok (.iaload, 1) := by decide +kernel
theorem dL_law_607 : decode cL_law 607 = .ok (.invokevirtual 69, 3) := by decide +kernel
theorem dL_law_610 : decode cL_law 610 = .ok (.lcmp, 1) := by decide +kernel
theorem dL_law_611 : decode cL_law 611 = .ok (.ifCond .eq 578, 3) := by decide +kernel
theorem dL_law_614 : decode cL_law 614 = .ok (.iconst 0, 1) := by decide +kernel
theorem dL_law_615 : decode cL_law 615 = .ok (.ireturn, 1) := by decide +kernel
theorem dL_law_616 : decode cL_law 616 = .ok (.aload_n 1, 1) := by decide +kernel
theorem dL_law_617 : decode cL_law 617 = .ok (.aload_n 0, 1) := by decide +kernel
theorem dL_law_618 : decode cL_law 618 = .ok (.iload_n 3, 1) := by decide +kernel
theorem dL_law_619 : decode cL_law 619 = .ok (.iconst 1, 1) := by decide +kernel
theorem dL_law_620 : decode cL_law 620 = .ok (.iadd, 1) := by decide +kernel
theorem dL_law_621 : decode cL_law 621 = .ok (.iaload, 1) := by decide +kernel
theorem dL_law_622 : decode cL_law 622 = .ok (.aload_n 0, 1) := by decide +kernel
theorem dL_law_623 : decode cL_law 623 = .ok (.iload_n 3, 1) := by decide +kernel
theorem dL_law_624 : decode cL_law 624 = .ok (.iconst 2, 1) := by decide +kernel
theorem dL_law_625 : decode cL_law 625 = .ok (.iadd, 1) := by decide +kernel
theorem dL_law_626 : decode cL_law 626 = .ok (.iaload, 1) := by decide +kernel
theorem dL_law_627 : decode cL_law 627 = .ok (.aload_n 0, 1) := by decide +kernel
theorem dL_law_628 : decode cL_law 628 = .ok (.iload_n 3, 1) := by decide +kernel
theorem dL_law_629 : decode cL_law 629 = .ok (.iconst 3, 1) := by decide +kernel
theorem dL_law_630 : decode cL_law 630 = .ok (.iadd, 1) := by decide +kernel
theorem dL_law_631 : decode cL_law 631 = .ok (.iaload, 1) := by decide +kernel
theorem dL_law_632 : decode cL_law 632 = .ok (.invokevirtual 70, 3) := by decide +kernel
theorem dL_law_635 : decode cL_law 635 = .ok (.aload_n 2, 1) := by decide +kernel
theorem dL_law_636 : decode cL_law 636 = .ok (.aload_n 0, 1) := by decide +kernel
theorem dL_law_637 : decode cL_law 637 = .ok (.iload_n 3, 1) := by decide +kernel
theorem dL_law_638 : decode cL_law 638 = .ok (.iconst 1, 1) := by decide +kernel
theorem dL_law_639 : decode cL_law 639 = .ok (.iadd, 1) := by decide +kernel
theorem dL_law_640 : decode cL_law 640 = .ok (.iaload, 1) := by decide +kernel
theorem dL_law_641 : decode cL_law 641 = .ok (.aload_n 0, 1) := by decide +kernel
theorem dL_law_642 : decode cL_law 642 = .ok (.iload_n 3, 1) := by decide +kernel
theorem dL_law_643 : decode cL_law 643 = .ok (.iconst 2, 1) := by decide +kernel
theorem dL_law_644 : decode cL_law 644 = .ok (.iadd, 1) := by decide +kernel
theorem dL_law_645 : decode cL_law 645 = .ok (.iaload, 1) := by decide +kernel
theorem dL_law_646 : decode cL_law 646 = .ok (.aload_n 0, 1) := by decide +kernel
theorem dL_law_647 : decode cL_law 647 = .ok (.iload_n 3, 1) := by decide +kernel
theorem dL_law_648 : decode cL_law 648 = .ok (.iconst 3, 1) := by decide +kernel
theorem dL_law_649 : decode cL_law 649 = .ok (.iadd, 1) := by decide +kernel
theorem dL_law_650 : decode cL_law 650 = .ok (.iaload, 1) := by decide +kernel
theorem dL_law_651 : decode cL_law 651 = .ok (.invokevirtual 73, 3) := by decide +kernel
theorem dL_law_654 : decode cL_law 654 = .ok (.if_icmp .eq 535, 3) := by decide +kernel
theorem dL_law_657 : decode cL_law 657 = .ok (.iconst 0, 1) := by decide +kernel
theorem dL_law_658 : decode cL_law 658 = .ok (.ireturn, 1) := by decide +kernel
theorem dL_law_659 : decode cL_law 659 = .ok (.aload_n 1, 1) := by decide +kernel
theorem dL_law_660 : decode cL_law 660 = .ok (.aload_n 0, 1) := by decide +kernel
theorem dL_law_661 : decode cL_law 661 = .ok (.iload_n 3, 1) := by decide +kernel
theorem dL_law_662 : decode cL_law 662 = .ok (.iconst 1, 1) := by decide +kernel
theorem dL_law_663 : decode cL_law 663 = .ok (.iadd, 1) := by decide +kernel
theorem dL_law_664 : decode cL_law 664 = .ok (.iaload, 1) := by decide +kernel
theorem dL_law_665 : decode cL_law 665 = .ok (.aload_n 0, 1) := by decide +kernel
theorem dL_law_666 : decode cL_law 666 = .ok (.iload_n 3, 1) := by decide +kernel
theorem dL_law_667 : decode cL_law 667 = .ok (.iconst 2, 1) := by decide +kernel
theorem dL_law_668 : decode cL_law 668 = .ok (.iadd, 1) := by decide +kernel
theorem dL_law_669 : decode cL_law 669 = .ok (.iaload, 1) := by decide +kernel
theorem dL_law_670 : decode cL_law 670 = .ok (.invokevirtual 74, 3) := by decide +kernel
theorem dL_law_673 : decode cL_law 673 = .ok (.aload_n 2, 1) := by decide +kernel
theorem dL_law_674 : decode cL_law 674 = .ok (.aload_n 0, 1) := by decide +kernel
theorem dL_law_675 : decode cL_law 675 = .ok (.iload_n 3, 1) := by decide +kernel
theorem dL_law_676 : decode cL_law 676 = .ok (.iconst 1, 1) := by decide +kernel
theorem dL_law_677 : decode cL_law 677 = .ok (.iadd, 1) := by decide +kernel
theorem dL_law_678 : decode cL_law 678 = .ok (.iaload, 1) := by decide +kernel
theorem dL_law_679 : decode cL_law 679 = .ok (.aload_n 0, 1) := by decide +kernel
theorem dL_law_680 : decode cL_law 680 = .ok (.iload_n 3, 1) := by decide +kernel
theorem dL_law_681 : decode cL_law 681 = .ok (.iconst 2, 1) := by decide +kernel
theorem dL_law_682 : decode cL_law 682 = .ok (.iadd, 1) := by decide +kernel
theorem dL_law_683 : decode cL_law 683 = .ok (.iaload, 1) := by decide +kernel
theorem dL_law_684 : decode cL_law 684 = .ok (.invokevirtual 77, 3) := by decide +kernel
theorem dL_law_687 : decode cL_law 687 = .ok (.lcmp, 1) := by decide +kernel
theorem dL_law_688 : decode cL_law 688 = .ok (.ifCond .eq 501, 3) := by decide +kernel
theorem dL_law_691 : decode cL_law 691 = .ok (.iconst 0, 1) := by decide +kernel
theorem dL_law_692 : decode cL_law 692 = .ok (.ireturn, 1) := by decide +kernel
theorem dL_law_693 : decode cL_law 693 = .ok (.aload_n 1, 1) := by decide +kernel
theorem dL_law_694 : decode cL_law 694 = .ok (.aload_n 0, 1) := by decide +kernel
theorem dL_law_695 : decode cL_law 695 = .ok (.iload_n 3, 1) := by decide +kernel
theorem dL_law_696 : decode cL_law 696 = .ok (.iconst 1, 1) := by decide +kernel
theorem dL_law_697 : decode cL_law 697 = .ok (.iadd, 1) := by decide +kernel
theorem dL_law_698 : decode cL_law 698 = .ok (.iaload, 1) := by decide +kernel
theorem dL_law_699 : decode cL_law 699 = .ok (.aload_n 0, 1) := by decide +kernel
theorem dL_law_700 : decode cL_law 700 = .ok (.iload_n 3, 1) := by decide +kernel
theorem dL_law_701 : decode cL_law 701 = .ok (.iconst 2, 1) := by decide +kernel
theorem dL_law_702 : decode cL_law 702 = .ok (.iadd, 1) := by decide +kernel
theorem dL_law_703 : decode cL_law 703 = .ok (.iaload, 1) := by decide +kernel
theorem dL_law_704 : decode cL_law 704 = .ok (.aload_n 0, 1) := by decide +kernel
theorem dL_law_705 : decode cL_law 705 = .ok (.iload_n 3, 1) := by decide +kernel
theorem dL_law_706 : decode cL_law 706 = .ok (.iconst 3, 1) := by decide +kernel
theorem dL_law_707 : decode cL_law 707 = .ok (.iadd, 1) := by decide +kernel
theorem dL_law_708 : decode cL_law 708 = .ok (.iaload, 1) := by decide +kernel
theorem dL_law_709 : decode cL_law 709 = .ok (.invokevirtual 78, 3) := by decide +kernel
theorem dL_law_712 : decode cL_law 712 = .ok (.aload_n 2, 1) := by decide +kernel
theorem dL_law_713 : decode cL_law 713 = .ok (.aload_n 0, 1) := by decide +kernel
theorem dL_law_714 : decode cL_law 714 = .ok (.iload_n 3, 1) := by decide +kernel
theorem dL_law_715 : decode cL_law 715 = .ok (.iconst 1, 1) := by decide +kernel
theorem dL_law_716 : decode cL_law 716 = .ok (.iadd, 1) := by decide +kernel
theorem dL_law_717 : decode cL_law 717 = .ok (.iaload, 1) := by decide +kernel
theorem dL_law_718 : decode cL_law 718 = .ok (.aload_n 0, 1) := by decide +kernel
theorem dL_law_719 : decode cL_law 719 = .ok (.iload_n 3, 1) := by decide +kernel
theorem dL_law_720 : decode cL_law 720 = .ok (.iconst 2, 1) := by decide +kernel
theorem dL_law_721 : decode cL_law 721 = .ok (.iadd, 1) := by decide +kernel
theorem dL_law_722 : decode cL_law 722 = .ok (.iaload, 1) := by decide +kernel
theorem dL_law_723 : decode cL_law 723 = .ok (.aload_n 0, 1) := by decide +kernel
theorem dL_law_724 : decode cL_law 724 = .ok (.iload_n 3, 1) := by decide +kernel
theorem dL_law_725 : decode cL_law 725 = .ok (.iconst 3, 1) := by decide +kernel
theorem dL_law_726 : decode cL_law 726 = .ok (.iadd, 1) := by decide +kernel
theorem dL_law_727 : decode cL_law 727 = .ok (.iaload, 1) := by decide +kernel
theorem dL_law_728 : decode cL_law 728 = .ok (.invokevirtual 81, 3) := by decide +kernel
theorem dL_law_731 : decode cL_law 731 = .ok (.if_icmp .eq 458, 3) := by decide +kernel
theorem dL_law_734 : decode cL_law 734 = .ok (.iconst 0, 1) := by decide +kernel
theorem dL_law_735 : decode cL_law 735 = .ok (.ireturn, 1) := by decide +kernel
theorem dL_law_736 : decode cL_law 736 = .ok (.aload_n 1, 1) := by decide +kernel
theorem dL_law_737 : decode cL_law 737 = .ok (.aload_n 0, 1) := by decide +kernel
theorem dL_law_738 : decode cL_law 738 = .ok (.iload_n 3, 1) := by decide +kernel
theorem dL_law_739 : decode cL_law 739 = .ok (.iconst 1, 1) := by decide +kernel
theorem dL_law_740 : decode cL_law 740 = .ok (.iadd, 1) := by decide +kernel
theorem dL_law_741 : decode cL_law 741 = .ok (.iaload, 1) := by decide +kernel
theorem dL_law_742 : decode cL_law 742 = .ok (.aload_n 0, 1) := by decide +kernel
theorem dL_law_743 : decode cL_law 743 = .ok (.iload_n 3, 1) := by decide +kernel
theorem dL_law_744 : decode cL_law 744 = .ok (.iconst 2, 1) := by decide +kernel
theorem dL_law_745 : decode cL_law 745 = .ok (.iadd, 1) := by decide +kernel
theorem dL_law_746 : decode cL_law 746 = .ok (.iaload, 1) := by decide +kernel
theorem dL_law_747 : decode cL_law 747 = .ok (.aload_n 0, 1) := by decide +kernel
theorem dL_law_748 : decode cL_law 748 = .ok (.iload_n 3, 1) := by decide +kernel
theorem dL_law_749 : decode cL_law 749 = .ok (.iconst 3, 1) := by decide +kernel
theorem dL_law_750 : decode cL_law 750 = .ok (.iadd, 1) := by decide +kernel
theorem dL_law_751 : decode cL_law 751 = .ok (.iaload, 1) := by decide +kernel
theorem dL_law_752 : decode cL_law 752 = .ok (.aload_n 0, 1) := by decide +kernel
theorem dL_law_753 : decode cL_law 753 = .ok (.iload_n 3, 1) := by decide +kernel
theorem dL_law_754 : decode cL_law 754 = .ok (.iconst 4, 1) := by decide +kernel
theorem dL_law_755 : decode cL_law 755 = .ok (.iadd, 1) := by decide +kernel
theorem dL_law_756 : decode cL_law 756 = .ok (.iaload, 1) := by decide +kernel
theorem dL_law_757 : decode cL_law 757 = .ok (.ifCond .eq 7, 3) := by decide +kernel
theorem dL_law_760 : decode cL_law 760 = .ok (.iconst 1, 1) := by decide +kernel
theorem dL_law_761 : decode cL_law 761 = .ok (.goto 4, 3) := by decide +kernel
theorem dL_law_764 : decode cL_law 764 = .ok (.iconst 0, 1) := by decide +kernel
theorem dL_law_765 : decode cL_law 765 = .ok (.invokevirtual 82, 3) := by decide +kernel
theorem dL_law_768 : decode cL_law 768 = .ok (.aload_n 2, 1) := by decide +kernel
theorem dL_law_769 : decode cL_law 769 = .ok (.aload_n 0, 1) := by decide +kernel
theorem dL_law_770 : decode cL_law 770 = .ok (.iload_n 3, 1) := by decide +kernel
theorem dL_law_771 : decode cL_law 771 = .ok (.iconst 1, 1) := by decide +kernel
theorem dL_law_772 : decode cL_law 772 = .ok (.iadd, 1) := by decide +kernel
theorem dL_law_773 : decode cL_law 773 = .ok (.iaload, 1) := by decide +kernel
theorem dL_law_774 : decode cL_law 774 = .ok (.aload_n 0, 1) := by decide +kernel
theorem dL_law_775 : decode cL_law 775 = .ok (.iload_n 3, 1) := by decide +kernel
theorem dL_law_776 : decode cL_law 776 = .ok (.iconst 2, 1) := by decide +kernel
theorem dL_law_777 : decode cL_law 777 = .ok (.iadd, 1) := by decide +kernel
theorem dL_law_778 : decode cL_law 778 = .ok (.iaload, 1) := by decide +kernel
theorem dL_law_779 : decode cL_law 779 = .ok (.aload_n 0, 1) := by decide +kernel
theorem dL_law_780 : decode cL_law 780 = .ok (.iload_n 3, 1) := by decide +kernel
theorem dL_law_781 : decode cL_law 781 = .ok (.iconst 3, 1) := by decide +kernel
theorem dL_law_782 : decode cL_law 782 = .ok (.iadd, 1) := by decide +kernel
theorem dL_law_783 : decode cL_law 783 = .ok (.iaload, 1) := by decide +kernel
theorem dL_law_784 : decode cL_law 784 = .ok (.aload_n 0, 1) := by decide +kernel
theorem dL_law_785 : decode cL_law 785 = .ok (.iload_n 3, 1) := by decide +kernel
theorem dL_law_786 : decode cL_law 786 = .ok (.iconst 4, 1) := by decide +kernel
theorem dL_law_787 : decode cL_law 787 = .ok (.iadd, 1) := by decide +kernel
theorem dL_law_788 : decode cL_law 788 = .ok (.iaload, 1) := by decide +kernel
theorem dL_law_789 : decode cL_law 789 = .ok (.ifCond .eq 7, 3) := by decide +kernel
theorem dL_law_792 : decode cL_law 792 = .ok (.iconst 1, 1) := by decide +kernel
theorem dL_law_793 : decode cL_law 793 = .ok (.goto 4, 3) := by decide +kernel
theorem dL_law_796 : decode cL_law 796 = .ok (.iconst 0, 1) := by decide +kernel
theorem dL_law_797 : decode cL_law 797 = .ok (.invokevirtual 86, 3) := by decide +kernel
theorem dL_law_800 : decode cL_law 800 = .ok (.if_icmp .eq 389, 3) := by decide +kernel
theorem dL_law_803 : decode cL_law 803 = .ok (.iconst 0, 1) := by decide +kernel
theorem dL_law_804 : decode cL_law 804 = .ok (.ireturn, 1) := by decide +kernel
theorem dL_law_805 : decode cL_law 805 = .ok (.aload_n 1, 1) := by decide +kernel
theorem dL_law_806 : decode cL_law 806 = .ok (.aload_n 0, 1) := by decide +kernel
theorem dL_law_807 : decode cL_law 807 = .ok (.iload_n 3, 1) := by decide +kernel
theorem dL_law_808 : decode cL_law 808 = .ok (.iconst 1, 1) := by decide +kernel
theorem dL_law_809 : decode cL_law 809 = .ok (.iadd, 1) := by decide +kernel
theorem dL_law_810 : decode cL_law 810 = .ok (.iaload, 1) := by decide +kernel
theorem dL_law_811 : decode cL_law 811 = .ok (.aload_n 0, 1) := by decide +kernel
theorem dL_law_812 : decode cL_law 812 = .ok (.iload_n 3, 1) := by decide +kernel
theorem dL_law_813 : decode cL_law 813 = .ok (.iconst 2, 1) := by decide +kernel
theorem dL_law_814 : decode cL_law 814 = .ok (.iadd, 1) := by decide +kernel
theorem dL_law_815 : decode cL_law 815 = .ok (.iaload, 1) := by decide +kernel
theorem dL_law_816 : decode cL_law 816 = .ok (.aload_n 0, 1) := by decide +kernel
theorem dL_law_817 : decode cL_law 817 = .ok (.iload_n 3, 1) := by decide +kernel
theorem dL_law_818 : decode cL_law 818 = .ok (.iconst 3, 1) := by decide +kernel
theorem dL_law_819 : decode cL_law 819 = .ok (.iadd, 1) := by decide +kernel
theorem dL_law_820 : decode cL_law 820 = .ok (.iaload, 1) := by decide +kernel
theorem dL_law_821 : decode cL_law 821 = .ok (.invokevirtual 87, 3) := by decide +kernel
theorem dL_law_824 : decode cL_law 824 = .ok (.aload_n 2, 1) := by decide +kernel
theorem dL_law_825 : decode cL_law 825 = .ok (.aload_n 0, 1) := by decide +kernel
theorem dL_law_826 : decode cL_law 826 = .ok (.iload_n 3, 1) := by decide +kernel
theorem dL_law_827 : decode cL_law 827 = .ok (.iconst 1, 1) := by decide +kernel
theorem dL_law_828 : decode cL_law 828 = .ok (.iadd, 1) := by decide +kernel
theorem dL_law_829 : decode cL_law 829 = .ok (.iaload, 1) := by decide +kernel
theorem dL_law_830 : decode cL_law 830 = .ok (.aload_n 0, 1) := by decide +kernel
theorem dL_law_831 : decode cL_law 831 = .ok (.iload_n 3, 1) := by decide +kernel
theorem dL_law_832 : decode cL_law 832 = .ok (.iconst 2, 1) := by decide +kernel
theorem dL_law_833 : decode cL_law 833 = .ok (.iadd, 1) := by decide +kernel
theorem dL_law_834 : decode cL_law 834 = .ok (.iaload, 1) := by decide +kernel
theorem dL_law_835 : decode cL_law 835 = .ok (.aload_n 0, 1) := by decide +kernel
theorem dL_law_836 : decode cL_law 836 = .ok (.iload_n 3, 1) := by decide +kernel
theorem dL_law_837 : decode cL_law 837 = .ok (.iconst 3, 1) := by decide +kernel
theorem dL_law_838 : decode cL_law 838 = .ok (.iadd, 1) := by decide +kernel
theorem dL_law_839 : decode cL_law 839 = .ok (.iaload, 1) := by decide +kernel
theorem dL_law_840 : decode cL_law 840 = .ok (.invokevirtual 90, 3) := by decide +kernel
theorem dL_law_843 : decode cL_law 843 = .ok (.if_icmp .eq 346, 3) := by decide +kernel
theorem dL_law_846 : decode cL_law 846 = .ok (.iconst 0, 1) := by decide +kernel
theorem dL_law_847 : decode cL_law 847 = .ok (.ireturn, 1) := by decide +kernel
theorem dL_law_848 : decode cL_law 848 = .ok (.aload_n 1, 1) := by decide +kernel
theorem dL_law_849 : decode cL_law 849 = .ok (.aload_n 0, 1) := by decide +kernel
theorem dL_law_850 : decode cL_law 850 = .ok (.iload_n 3, 1) := by decide +kernel
theorem dL_law_851 : decode cL_law 851 = .ok (.iconst 1, 1) := by decide +kernel
theorem dL_law_852 : decode cL_law 852 = .ok (.iadd, 1) := by decide +kernel
theorem dL_law_853 : decode cL_law 853 = .ok (.iaload, 1) := by decide +kernel
theorem dL_law_854 : decode cL_law 854 = .ok (.aload_n 0, 1) := by decide +kernel
theorem dL_law_855 : decode cL_law 855 = .ok (.iload_n 3, 1) := by decide +kernel
theorem dL_law_856 : decode cL_law 856 = .ok (.iconst 2, 1) := by decide +kernel
theorem dL_law_857 : decode cL_law 857 = .ok (.iadd, 1) := by decide +kernel
theorem dL_law_858 : decode cL_law 858 = .ok (.iaload, 1) := by decide +kernel
theorem dL_law_859 : decode cL_law 859 = .ok (.aload_n 0, 1) := by decide +kernel
theorem dL_law_860 : decode cL_law 860 = .ok (.iload_n 3, 1) := by decide +kernel
theorem dL_law_861 : decode cL_law 861 = .ok (.iconst 3, 1) := by decide +kernel
theorem dL_law_862 : decode cL_law 862 = .ok (.iadd, 1) := by decide +kernel
theorem dL_law_863 : decode cL_law 863 = .ok (.iaload, 1) := by decide +kernel
theorem dL_law_864 : decode cL_law 864 = .ok (.ifCond .eq 7, 3) := by decide +kernel
theorem dL_law_867 : decode cL_law 867 = .ok (.iconst 1, 1) := by decide +kernel
theorem dL_law_868 : decode cL_law 868 = .ok (.goto 4, 3) := by decide +kernel
theorem dL_law_871 : decode cL_law 871 = .ok (.iconst 0, 1) := by decide +kernel
theorem dL_law_872 : decode cL_law 872 = .ok (.invokevirtual 91, 3) := by decide +kernel
theorem dL_law_875 : decode cL_law 875 = .ok (.aload_n 2, 1) := by decide +kernel
theorem dL_law_876 : decode cL_law 876 = .ok (.aload_n 0, 1) := by decide +kernel
theorem dL_law_877 : decode cL_law 877 = .ok (.iload_n 3, 1) := by decide +kernel
theorem dL_law_878 : decode cL_law 878 = .ok (.iconst 1, 1) := by decide +kernel
theorem dL_law_879 : decode cL_law 879 = .ok (.iadd, 1) := by decide +kernel
theorem dL_law_880 : decode cL_law 880 = .ok (.iaload, 1) := by decide +kernel
theorem dL_law_881 : decode cL_law 881 = .ok (.aload_n 0, 1) := by decide +kernel
theorem dL_law_882 : decode cL_law 882 = .ok (.iload_n 3, 1) := by decide +kernel
theorem dL_law_883 : decode cL_law 883 = .ok (.iconst 2, 1) := by decide +kernel
theorem dL_law_884 : decode cL_law 884 = .ok (.iadd, 1) := by decide +kernel
theorem dL_law_885 : decode cL_law 885 = .ok (.iaload, 1) := by decide +kernel
theorem dL_law_886 : decode cL_law 886 = .ok (.aload_n 0, 1) := by decide +kernel
theorem dL_law_887 : decode cL_law 887 = .ok (.iload_n 3, 1) := by decide +kernel
theorem dL_law_888 : decode cL_law 888 = .ok (.iconst 3, 1) := by decide +kernel
theorem dL_law_889 : decode cL_law 889 = .ok (.iadd, 1) := by decide +kernel
theorem dL_law_890 : decode cL_law 890 = .ok (.iaload, 1) := by decide +kernel
theorem dL_law_891 : decode cL_law 891 = .ok (.ifCond .eq 7, 3) := by decide +kernel
theorem dL_law_894 : decode cL_law 894 = .ok (.iconst 1, 1) := by decide +kernel
theorem dL_law_895 : decode cL_law 895 = .ok (.goto 4, 3) := by decide +kernel
theorem dL_law_898 : decode cL_law 898 = .ok (.iconst 0, 1) := by decide +kernel
theorem dL_law_899 : decode cL_law 899 = .ok (.invokevirtual 95, 3) := by decide +kernel
theorem dL_law_902 : decode cL_law 902 = .ok (.lcmp, 1) := by decide +kernel
theorem dL_law_903 : decode cL_law 903 = .ok (.ifCond .eq 286, 3) := by decide +kernel
theorem dL_law_906 : decode cL_law 906 = .ok (.iconst 0, 1) := by decide +kernel
theorem dL_law_907 : decode cL_law 907 = .ok (.ireturn, 1) := by decide +kernel
theorem dL_law_908 : decode cL_law 908 = .ok (.aload_n 1, 1) := by decide +kernel
theorem dL_law_909 : decode cL_law 909 = .ok (.aload_n 0, 1) := by decide +kernel
theorem dL_law_910 : decode cL_law 910 = .ok (.iload_n 3, 1) := by decide +kernel
theorem dL_law_911 : decode cL_law 911 = .ok (.iconst 1, 1) := by decide +kernel
theorem dL_law_912 : decode cL_law 912 = .ok (.iadd, 1) := by decide +kernel
theorem dL_law_913 : decode cL_law 913 = .ok (.iaload, 1) := by decide +kernel
theorem dL_law_914 : decode cL_law 914 = .ok (.aload_n 0, 1) := by decide +kernel
theorem dL_law_915 : decode cL_law 915 = .ok (.iload_n 3, 1) := by decide +kernel
theorem dL_law_916 : decode cL_law 916 = .ok (.iconst 2, 1) := by decide +kernel
theorem dL_law_917 : decode cL_law 917 = .ok (.iadd, 1) := by decide +kernel
theorem dL_law_918 : decode cL_law 918 = .ok (.iaload, 1) := by decide +kernel
theorem dL_law_919 : decode cL_law 919 = .ok (.aload_n 0, 1) := by decide +kernel
theorem dL_law_920 : decode cL_law 920 = .ok (.iload_n 3, 1) := by decide +kernel
theorem dL_law_921 : decode cL_law 921 = .ok (.iconst 3, 1) := by decide +kernel
theorem dL_law_922 : decode cL_law 922 = .ok (.iadd, 1) := by decide +kernel
theorem dL_law_923 : decode cL_law 923 = .ok (.iaload, 1) := by decide +kernel
theorem dL_law_924 : decode cL_law 924 = .ok (.aload_n 0, 1) := by decide +kernel
theorem dL_law_925 : decode cL_law 925 = .ok (.iload_n 3, 1) := by decide +kernel
theorem dL_law_926 : decode cL_law 926 = .ok (.iconst 4, 1) := by decide +kernel
theorem dL_law_927 : decode cL_law 927 = .ok (.iadd, 1) := by decide +kernel
theorem dL_law_928 : decode cL_law 928 = .ok (.iaload, 1) := by decide +kernel
theorem dL_law_929 : decode cL_law 929 = .ok (.invokevirtual 96, 3) := by decide +kernel
theorem dL_law_932 : decode cL_law 932 = .ok (.aload_n 2, 1) := by decide +kernel
theorem dL_law_933 : decode cL_law 933 = .ok (.aload_n 0, 1) := by decide +kernel
theorem dL_law_934 : decode cL_law 934 = .ok (.iload_n 3, 1) := by decide +kernel
theorem dL_law_935 : decode cL_law 935 = .ok (.iconst 1, 1) := by decide +kernel
theorem dL_law_936 : decode cL_law 936 = .ok (.iadd, 1) := by decide +kernel
theorem dL_law_937 : decode cL_law 937 = .ok (.iaload, 1) := by decide +kernel
theorem dL_law_938 : decode cL_law 938 = .ok (.aload_n 0, 1) := by decide +kernel
theorem dL_law_939 : decode cL_law 939 = .ok (.iload_n 3, 1) := by decide +kernel
theorem dL_law_940 : decode cL_law 940 = .ok (.iconst 2, 1) := by decide +kernel
theorem dL_law_941 : decode cL_law 941 = .ok (.iadd, 1) := by decide +kernel
theorem dL_law_942 : decode cL_law 942 = .ok (.iaload, 1) := by decide +kernel
theorem dL_law_943 : decode cL_law 943 = .ok (.aload_n 0, 1) := by decide +kernel
theorem dL_law_944 : decode cL_law 944 = .ok (.iload_n 3, 1) := by decide +kernel
theorem dL_law_945 : decode cL_law 945 = .ok (.iconst 3, 1) := by decide +kernel
theorem dL_law_946 : decode cL_law 946 = .ok (.iadd, 1) := by decide +kernel
theorem dL_law_947 : decode cL_law 947 = .ok (.iaload, 1) := by decide +kernel
theorem dL_law_948 : decode cL_law 948 = .ok (.aload_n 0, 1) := by decide +kernel
theorem dL_law_949 : decode cL_law 949 = .ok (.iload_n 3, 1) := by decide +kernel
theorem dL_law_950 : decode cL_law 950 = .ok (.iconst 4, 1) := by decide +kernel
theorem dL_law_951 : decode cL_law 951 = .ok (.iadd, 1) := by decide +kernel
theorem dL_law_952 : decode cL_law 952 = .ok (.iaload, 1) := by decide +kernel
theorem dL_law_953 : decode cL_law 953 = .ok (.invokevirtual 100, 3) := by decide +kernel
theorem dL_law_956 : decode cL_law 956 = .ok (.lcmp, 1) := by decide +kernel
theorem dL_law_957 : decode cL_law 957 = .ok (.ifCond .eq 232, 3) := by decide +kernel
theorem dL_law_960 : decode cL_law 960 = .ok (.iconst 0, 1) := by decide +kernel
theorem dL_law_961 : decode cL_law 961 = .ok (.ireturn, 1) := by decide +kernel
theorem dL_law_962 : decode cL_law 962 = .ok (.aload_n 1, 1) := by decide +kernel
theorem dL_law_963 : decode cL_law 963 = .ok (.aload_n 0, 1) := by decide +kernel
theorem dL_law_964 : decode cL_law 964 = .ok (.iload_n 3, 1) := by decide +kernel
theorem dL_law_965 : decode cL_law 965 = .ok (.iconst 1, 1) := by decide +kernel
theorem dL_law_966 : decode cL_law 966 = .ok (.iadd, 1) := by decide +kernel
theorem dL_law_967 : decode cL_law 967 = .ok (.iaload, 1) := by decide +kernel
theorem dL_law_968 : decode cL_law 968 = .ok (.aload_n 0, 1) := by decide +kernel
theorem dL_law_969 : decode cL_law 969 = .ok (.iload_n 3, 1) := by decide +kernel
theorem dL_law_970 : decode cL_law 970 = .ok (.iconst 2, 1) := by decide +kernel
theorem dL_law_971 : decode cL_law 971 = .ok (.iadd, 1) := by decide +kernel
theorem dL_law_972 : decode cL_law 972 = .ok (.iaload, 1) := by decide +kernel
theorem dL_law_973 : decode cL_law 973 = .ok (.invokevirtual 101, 3) := by decide +kernel
theorem dL_law_976 : decode cL_law 976 = .ok (.aload_n 2, 1) := by decide +kernel
theorem dL_law_977 : decode cL_law 977 = .ok (.aload_n 0, 1) := by decide +kernel
theorem dL_law_978 : decode cL_law 978 = .ok (.iload_n 3, 1) := by decide +kernel
theorem dL_law_979 : decode cL_law 979 = .ok (.iconst 1, 1) := by decide +kernel
theorem dL_law_980 : decode cL_law 980 = .ok (.iadd, 1) := by decide +kernel
theorem dL_law_981 : decode cL_law 981 = .ok (.iaload, 1) := by decide +kernel
theorem dL_law_982 : decode cL_law 982 = .ok (.aload_n 0, 1) := by decide +kernel
theorem dL_law_983 : decode cL_law 983 = .ok (.iload_n 3, 1) := by decide +kernel
theorem dL_law_984 : decode cL_law 984 = .ok (.iconst 2, 1) := by decide +kernel
theorem dL_law_985 : decode cL_law 985 = .ok (.iadd, 1) := by decide +kernel
theorem dL_law_986 : decode cL_law 986 = .ok (.iaload, 1) := by decide +kernel
theorem dL_law_987 : decode cL_law 987 = .ok (.invokevirtual 104, 3) := by decide +kernel
theorem dL_law_990 : decode cL_law 990 = .ok (.lcmp, 1) := by decide +kernel
theorem dL_law_991 : decode cL_law 991 = .ok (.ifCond .eq 198, 3) := by decide +kernel
theorem dL_law_994 : decode cL_law 994 = .ok (.iconst 0, 1) := by decide +kernel
theorem dL_law_995 : decode cL_law 995 = .ok (.ireturn, 1) := by decide +kernel
theorem dL_law_996 : decode cL_law 996 = .ok (.aload_n 1, 1) := by decide +kernel
theorem dL_law_997 : decode cL_law 997 = .ok (.aload_n 0, 1) := by decide +kernel
theorem dL_law_998 : decode cL_law 998 = .ok (.iload_n 3, 1) := by decide +kernel
theorem dL_law_999 : decode cL_law 999 = .ok (.iconst 1, 1) := by decide +kernel
theorem dL_law_1000 : decode cL_law 1000 = .ok (.iadd, 1) := by decide +kernel
theorem dL_law_1001 : decode cL_law 1001 = .ok (.iaload, 1) := by decide +kernel
theorem dL_law_1002 : decode cL_law 1002 = .ok (.aload_n 0, 1) := by decide +kernel
theorem dL_law_1003 : decode cL_law 1003 = .ok (.iload_n 3, 1) := by decide +kernel
theorem dL_law_1004 : decode cL_law 1004 = .ok (.iconst 2, 1) := by decide +kernel
theorem dL_law_1005 : decode cL_law 1005 = .ok (.iadd, 1) := by decide +kernel
theorem dL_law_1006 : decode cL_law 1006 = .ok (.iaload, 1) := by decide +kernel
theorem dL_law_1007 : decode cL_law 1007 = .ok (.invokevirtual 105, 3) := by decide +kernel
theorem dL_law_1010 : decode cL_law 1010 = .ok (.aload_n 2, 1) := by decide +kernel
theorem dL_law_1011 : decode cL_law 1011 = .ok (.aload_n 0, 1) := by decide +kernel
theorem dL_law_1012 : decode cL_law 1012 = .ok (.iload_n 3, 1) := by decide +kernel
theorem dL_law_1013 : decode cL_law 1013 = .ok (.iconst 1, 1) := by decide +kernel
theorem dL_law_1014 : decode cL_law 1014 = .ok (.iadd, 1) := by decide +kernel
theorem dL_law_1015 : decode cL_law 1015 = .ok (.iaload, 1) := by decide +kernel
theorem dL_law_1016 : decode cL_law 1016 = .ok (.aload_n 0, 1) := by decide +kernel
theorem dL_law_1017 : decode cL_law 1017 = .ok (.iload_n 3, 1) := by decide +kernel
theorem dL_law_1018 : decode cL_law 1018 = .ok (.iconst 2, 1) := by decide +kernel
theorem dL_law_1019 : decode cL_law 1019 = .ok (.iadd, 1) := by decide +kernel
theorem dL_law_1020 : decode cL_law 1020 = .ok (.iaload, 1) := by decide +kernel
theorem dL_law_1021 : decode cL_law 1021 = .ok (.invokevirtual 108, 3) := by decide +kernel
theorem dL_law_1024 : decode cL_law 1024 = .ok (.lcmp, 1) := by decide +kernel
theorem dL_law_1025 : decode cL_law 1025 = .ok (.ifCond .eq 164, 3) := by decide +kernel
theorem dL_law_1028 : decode cL_law 1028 = .ok (.iconst 0, 1) := by decide +kernel
theorem dL_law_1029 : decode cL_law 1029 = .ok (.ireturn, 1) := by decide +kernel
theorem dL_law_1030 : decode cL_law 1030 = .ok (.aload_n 1, 1) := by decide +kernel
theorem dL_law_1031 : decode cL_law 1031 = .ok (.invokevirtual 109, 3) := by decide +kernel
theorem dL_law_1034 : decode cL_law 1034 = .ok (.aload_n 2, 1) := by decide +kernel
theorem dL_law_1035 : decode cL_law 1035 = .ok (.invokevirtual 113, 3) := by decide +kernel
theorem dL_law_1038 : decode cL_law 1038 = .ok (.lcmp, 1) := by decide +kernel
theorem dL_law_1039 : decode cL_law 1039 = .ok (.ifCond .eq 150, 3) := by decide +kernel
theorem dL_law_1042 : decode cL_law 1042 = .ok (.iconst 0, 1) := by decide +kernel
theorem dL_law_1043 : decode cL_law 1043 = .ok (.ireturn, 1) := by decide +kernel
theorem dL_law_1044 : decode cL_law 1044 = .ok (.aload_n 1, 1) := by decide +kernel
theorem dL_law_1045 : decode cL_law 1045 = .ok (.aload_n 0, 1) := by decide +kernel
theorem dL_law_1046 : decode cL_law 1046 = .ok (.iload_n 3, 1) := by decide +kernel
theorem dL_law_1047 : decode cL_law 1047 = .ok (.iconst 1, 1) := by decide +kernel
theorem dL_law_1048 : decode cL_law 1048 = .ok (.iadd, 1) := by decide +kernel
theorem dL_law_1049 : decode cL_law 1049 = .ok (.iaload, 1) := by decide +kernel
theorem dL_law_1050 : decode cL_law 1050 = .ok (.aload_n 0, 1) := by decide +kernel
theorem dL_law_1051 : decode cL_law 1051 = .ok (.iload_n 3, 1) := by decide +kernel
theorem dL_law_1052 : decode cL_law 1052 = .ok (.iconst 2, 1) := by decide +kernel
theorem dL_law_1053 : decode cL_law 1053 = .ok (.iadd, 1) := by decide +kernel
theorem dL_law_1054 : decode cL_law 1054 = .ok (.iaload, 1) := by decide +kernel
theorem dL_law_1055 : decode cL_law 1055 = .ok (.invokevirtual 114, 3) := by decide +kernel
theorem dL_law_1058 : decode cL_law 1058 = .ok (.aload_n 2, 1) := by decide +kernel
theorem dL_law_1059 : decode cL_law 1059 = .ok (.aload_n 0, 1) := by decide +kernel
theorem dL_law_1060 : decode cL_law 1060 = .ok (.iload_n 3, 1) := by decide +kernel
theorem dL_law_1061 : decode cL_law 1061 = .ok (.iconst 1, 1) := by decide +kernel
theorem dL_law_1062 : decode cL_law 1062 = .ok (.iadd, 1) := by decide +kernel
theorem dL_law_1063 : decode cL_law 1063 = .ok (.iaload, 1) := by decide +kernel
theorem dL_law_1064 : decode cL_law 1064 = .ok (.aload_n 0, 1) := by decide +kernel
theorem dL_law_1065 : decode cL_law 1065 = .ok (.iload_n 3, 1) := by decide +kernel
theorem dL_law_1066 : decode cL_law 1066 = .ok (.iconst 2, 1) := by decide +kernel
theorem dL_law_1067 : decode cL_law 1067 = .ok (.iadd, 1) := by decide +kernel
theorem dL_law_1068 : decode cL_law 1068 = .ok (.iaload, 1) := by decide +kernel
theorem dL_law_1069 : decode cL_law 1069 = .ok (.invokevirtual 117, 3) := by decide +kernel
theorem dL_law_1072 : decode cL_law 1072 = .ok (.if_icmp .eq 117, 3) := by decide +kernel
theorem dL_law_1075 : decode cL_law 1075 = .ok (.iconst 0, 1) := by decide +kernel
theorem dL_law_1076 : decode cL_law 1076 = .ok (.ireturn, 1) := by decide +kernel
theorem dL_law_1077 : decode cL_law 1077 = .ok (.aload_n 1, 1) := by decide +kernel
theorem dL_law_1078 : decode cL_law 1078 = .ok (.aload_n 0, 1) := by decide +kernel
theorem dL_law_1079 : decode cL_law 1079 = .ok (.iload_n 3, 1) := by decide +kernel
theorem dL_law_1080 : decode cL_law 1080 = .ok (.iconst 1, 1) := by decide +kernel
theorem dL_law_1081 : decode cL_law 1081 = .ok (.iadd, 1) := by decide +kernel
theorem dL_law_1082 : decode cL_law 1082 = .ok (.iaload, 1) := by decide +kernel
theorem dL_law_1083 : decode cL_law 1083 = .ok (.aload_n 0, 1) := by decide +kernel
theorem dL_law_1084 : decode cL_law 1084 = .ok (.iload_n 3, 1) := by decide +kernel
theorem dL_law_1085 : decode cL_law 1085 = .ok (.iconst 2, 1) := by decide +kernel
theorem dL_law_1086 : decode cL_law 1086 = .ok (.iadd, 1) := by decide +kernel
theorem dL_law_1087 : decode cL_law 1087 = .ok (.iaload, 1) := by decide +kernel
theorem dL_law_1088 : decode cL_law 1088 = .ok (.invokevirtual 118, 3) := by decide +kernel
theorem dL_law_1091 : decode cL_law 1091 = .ok (.aload_n 2, 1) := by decide +kernel
theorem dL_law_1092 : decode cL_law 1092 = .ok (.aload_n 0, 1) := by decide +kernel
theorem dL_law_1093 : decode cL_law 1093 = .ok (.iload_n 3, 1) := by decide +kernel
theorem dL_law_1094 : decode cL_law 1094 = .ok (.iconst 1, 1) := by decide +kernel
theorem dL_law_1095 : decode cL_law 1095 = .ok (.iadd, 1) := by decide +kernel
theorem dL_law_1096 : decode cL_law 1096 = .ok (.iaload, 1) := by decide +kernel
theorem dL_law_1097 : decode cL_law 1097 = .ok (.aload_n 0, 1) := by decide +kernel
theorem dL_law_1098 : decode cL_law 1098 = .ok (.iload_n 3, 1) := by decide +kernel
theorem dL_law_1099 : decode cL_law 1099 = .ok (.iconst 2, 1) := by decide +kernel
theorem dL_law_1100 : decode cL_law 1100 = .ok (.iadd, 1) := by decide +kernel
theorem dL_law_1101 : decode cL_law 1101 = .ok (.iaload, 1) := by decide +kernel
theorem dL_law_1102 : decode cL_law 1102 = .ok (.invokevirtual 121, 3) := by decide +kernel
theorem dL_law_1105 : decode cL_law 1105 = .ok (.if_icmp .eq 84, 3) := by decide +kernel
theorem dL_law_1108 : decode cL_law 1108 = .ok (.iconst 0, 1) := by decide +kernel
theorem dL_law_1109 : decode cL_law 1109 = .ok (.ireturn, 1) := by decide +kernel
theorem dL_law_1110 : decode cL_law 1110 = .ok (.aload_n 1, 1) := by decide +kernel
theorem dL_law_1111 : decode cL_law 1111 = .ok (.aload_n 0, 1) := by decide +kernel
theorem dL_law_1112 : decode cL_law 1112 = .ok (.iload_n 3, 1) := by decide +kernel
theorem dL_law_1113 : decode cL_law 1113 = .ok (.iconst 1, 1) := by decide +kernel
theorem dL_law_1114 : decode cL_law 1114 = .ok (.iadd, 1) := by decide +kernel
theorem dL_law_1115 : decode cL_law 1115 = .ok (.iaload, 1) := by decide +kernel
theorem dL_law_1116 : decode cL_law 1116 = .ok (.aload_n 0, 1) := by decide +kernel
theorem dL_law_1117 : decode cL_law 1117 = .ok (.iload_n 3, 1) := by decide +kernel
theorem dL_law_1118 : decode cL_law 1118 = .ok (.iconst 2, 1) := by decide +kernel
theorem dL_law_1119 : decode cL_law 1119 = .ok (.iadd, 1) := by decide +kernel
theorem dL_law_1120 : decode cL_law 1120 = .ok (.iaload, 1) := by decide +kernel
theorem dL_law_1121 : decode cL_law 1121 = .ok (.invokevirtual 122, 3) := by decide +kernel
theorem dL_law_1124 : decode cL_law 1124 = .ok (.aload_n 2, 1) := by decide +kernel
theorem dL_law_1125 : decode cL_law 1125 = .ok (.aload_n 0, 1) := by decide +kernel
theorem dL_law_1126 : decode cL_law 1126 = .ok (.iload_n 3, 1) := by decide +kernel
theorem dL_law_1127 : decode cL_law 1127 = .ok (.iconst 1, 1) := by decide +kernel
theorem dL_law_1128 : decode cL_law 1128 = .ok (.iadd, 1) := by decide +kernel
theorem dL_law_1129 : decode cL_law 1129 = .ok (.iaload, 1) := by decide +kernel
theorem dL_law_1130 : decode cL_law 1130 = .ok (.aload_n 0, 1) := by decide +kernel
theorem dL_law_1131 : decode cL_law 1131 = .ok (.iload_n 3, 1) := by decide +kernel
theorem dL_law_1132 : decode cL_law 1132 = .ok (.iconst 2, 1) := by decide +kernel
theorem dL_law_1133 : decode cL_law 1133 = .ok (.iadd, 1) := by decide +kernel
theorem dL_law_1134 : decode cL_law 1134 = .ok (.iaload, 1) := by decide +kernel
theorem dL_law_1135 : decode cL_law 1135 = .ok (.invokevirtual 125, 3) := by decide +kernel
theorem dL_law_1138 : decode cL_law 1138 = .ok (.if_icmp .eq 51, 3) := by decide +kernel
theorem dL_law_1141 : decode cL_law 1141 = .ok (.iconst 0, 1) := by decide +kernel
theorem dL_law_1142 : decode cL_law 1142 = .ok (.ireturn, 1) := by decide +kernel
theorem dL_law_1143 : decode cL_law 1143 = .ok (.aload_n 1, 1) := by decide +kernel
theorem dL_law_1144 : decode cL_law 1144 = .ok (.aload_n 0, 1) := by decide +kernel
theorem dL_law_1145 : decode cL_law 1145 = .ok (.iload_n 3, 1) := by decide +kernel
theorem dL_law_1146 : decode cL_law 1146 = .ok (.iconst 1, 1) := by decide +kernel
theorem dL_law_1147 : decode cL_law 1147 = .ok (.iadd, 1) := by decide +kernel
theorem dL_law_1148 : decode cL_law 1148 = .ok (.iaload, 1) := by decide +kernel
theorem dL_law_1149 : decode cL_law 1149 = .ok (.invokevirtual 126, 3) := by decide +kernel
theorem dL_law_1152 : decode cL_law 1152 = .ok (.aload_n 2, 1) := by decide +kernel
theorem dL_law_1153 : decode cL_law 1153 = .ok (.aload_n 0, 1) := by decide +kernel
theorem dL_law_1154 : decode cL_law 1154 = .ok (.iload_n 3, 1) := by decide +kernel
theorem dL_law_1155 : decode cL_law 1155 = .ok (.iconst 1, 1) := by decide +kernel
theorem dL_law_1156 : decode cL_law 1156 = .ok (.iadd, 1) := by decide +kernel
theorem dL_law_1157 : decode cL_law 1157 = .ok (.iaload, 1) := by decide +kernel
theorem dL_law_1158 : decode cL_law 1158 = .ok (.invokevirtual 130, 3) := by decide +kernel
theorem dL_law_1161 : decode cL_law 1161 = .ok (.if_icmp .eq 28, 3) := by decide +kernel
theorem dL_law_1164 : decode cL_law 1164 = .ok (.iconst 0, 1) := by decide +kernel
theorem dL_law_1165 : decode cL_law 1165 = .ok (.ireturn, 1) := by decide +kernel
theorem dL_law_1166 : decode cL_law 1166 = .ok (.aload_n 1, 1) := by decide +kernel
theorem dL_law_1167 : decode cL_law 1167 = .ok (.aload_n 0, 1) := by decide +kernel
theorem dL_law_1168 : decode cL_law 1168 = .ok (.iload_n 3, 1) := by decide +kernel
theorem dL_law_1169 : decode cL_law 1169 = .ok (.iconst 1, 1) := by decide +kernel
theorem dL_law_1170 : decode cL_law 1170 = .ok (.iadd, 1) := by decide +kernel
theorem dL_law_1171 : decode cL_law 1171 = .ok (.iaload, 1) := by decide +kernel
theorem dL_law_1172 : decode cL_law 1172 = .ok (.invokevirtual 131, 3) := by decide +kernel
theorem dL_law_1175 : decode cL_law 1175 = .ok (.aload_n 2, 1) := by decide +kernel
theorem dL_law_1176 : decode cL_law 1176 = .ok (.aload_n 0, 1) := by decide +kernel
theorem dL_law_1177 : decode cL_law 1177 = .ok (.iload_n 3, 1) := by decide +kernel
theorem dL_law_1178 : decode cL_law 1178 = .ok (.iconst 1, 1) := by decide +kernel
theorem dL_law_1179 : decode cL_law 1179 = .ok (.iadd, 1) := by decide +kernel
theorem dL_law_1180 : decode cL_law 1180 = .ok (.iaload, 1) := by decide +kernel
theorem dL_law_1181 : decode cL_law 1181 = .ok (.invokevirtual 134, 3) := by decide +kernel
theorem dL_law_1184 : decode cL_law 1184 = .ok (.if_icmp .eq 5, 3) := by decide +kernel
theorem dL_law_1187 : decode cL_law 1187 = .ok (.iconst 0, 1) := by decide +kernel
theorem dL_law_1188 : decode cL_law 1188 = .ok (.ireturn, 1) := by decide +kernel
theorem dL_law_1189 : decode cL_law 1189 = .ok (.iinc 3 6, 3) := by decide +kernel
theorem dL_law_1192 : decode cL_law 1192 = .ok (.goto (-1174), 3) := by decide +kernel
theorem dL_law_1195 : decode cL_law 1195 = .ok (.iconst 1, 1) := by decide +kernel
theorem dL_law_1196 : decode cL_law 1196 = .ok (.ireturn, 1) := by decide +kernel
