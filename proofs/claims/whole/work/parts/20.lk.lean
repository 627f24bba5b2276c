/-! the links by number -/
theorem lf_3_9 : ip_lf 3 9 = some (3, 0) := by decide +kernel
theorem lf_7_138 : ip_lf 7 138 = some (3, 0) := by decide +kernel
theorem lf_3_15 : ip_lf 3 15 = some (3, 1) := by decide +kernel
theorem lf_7_154 : ip_lf 7 154 = some (3, 1) := by decide +kernel
theorem lf_3_19 : ip_lf 3 19 = some (3, 2) := by decide +kernel
theorem lf_7_157 : ip_lf 7 157 = some (3, 2) := by decide +kernel
theorem lf_3_22 : ip_lf 3 22 = some (3, 3) := by decide +kernel
theorem lf_8_69 : ip_lf 8 69 = some (3, 3) := by decide +kernel
theorem lf_7_129 : ip_lf 7 129 = some (3, 3) := by decide +kernel
theorem lf_0_11 : ip_lf 0 11 = some (0, 0) := by decide +kernel
theorem lf_8_59 : ip_lf 8 59 = some (0, 0) := by decide +kernel
theorem lf_7_113 : ip_lf 7 113 = some (0, 0) := by decide +kernel
theorem lf_0_17 : ip_lf 0 17 = some (0, 1) := by decide +kernel
theorem lf_8_79 : ip_lf 8 79 = some (0, 1) := by decide +kernel
theorem lf_0_21 : ip_lf 0 21 = some (0, 2) := by decide +kernel
theorem lf_7_141 : ip_lf 7 141 = some (0, 2) := by decide +kernel
theorem lf_8_83 : ip_lf 8 83 = some (0, 2) := by decide +kernel
theorem lf_0_24 : ip_lf 0 24 = some (0, 3) := by decide +kernel
theorem lf_8_46 : ip_lf 8 46 = some (0, 3) := by decide +kernel
theorem lf_0_28 : ip_lf 0 28 = some (0, 4) := by decide +kernel
theorem lf_8_72 : ip_lf 8 72 = some (0, 4) := by decide +kernel
theorem lf_5_9 : ip_lf 5 9 = some (5, 0) := by decide +kernel
theorem lf_8_161 : ip_lf 8 161 = some (5, 0) := by decide +kernel
theorem lf_5_15 : ip_lf 5 15 = some (5, 1) := by decide +kernel
theorem lf_8_164 : ip_lf 8 164 = some (5, 1) := by decide +kernel
theorem lf_5_18 : ip_lf 5 18 = some (5, 2) := by decide +kernel
theorem lf_8_167 : ip_lf 8 167 = some (5, 2) := by decide +kernel
theorem lf_5_21 : ip_lf 5 21 = some (5, 3) := by decide +kernel
theorem lf_6_104 : ip_lf 6 104 = some (5, 3) := by decide +kernel
theorem lf_8_156 : ip_lf 8 156 = some (5, 3) := by decide +kernel
theorem lf_4_9 : ip_lf 4 9 = some (4, 0) := by decide +kernel
theorem lf_4_15 : ip_lf 4 15 = some (4, 1) := by decide +kernel
theorem lf_8_185 : ip_lf 8 185 = some (4, 1) := by decide +kernel
theorem lf_4_19 : ip_lf 4 19 = some (4, 2) := by decide +kernel
theorem lf_8_189 : ip_lf 8 189 = some (4, 2) := by decide +kernel
theorem lf_4_22 : ip_lf 4 22 = some (4, 3) := by decide +kernel
theorem lf_6_84 : ip_lf 6 84 = some (4, 3) := by decide +kernel
theorem lf_7_203 : ip_lf 7 203 = some (4, 3) := by decide +kernel
theorem lf_8_188 : ip_lf 8 188 = some (4, 3) := by decide +kernel
theorem lf_6_9 : ip_lf 6 9 = some (6, 0) := by decide +kernel
theorem lf_7_71 : ip_lf 7 71 = some (6, 0) := by decide +kernel
theorem lf_6_15 : ip_lf 6 15 = some (6, 1) := by decide +kernel
theorem lf_7_74 : ip_lf 7 74 = some (6, 1) := by decide +kernel
theorem lf_6_18 : ip_lf 6 18 = some (6, 2) := by decide +kernel
theorem lf_7_77 : ip_lf 7 77 = some (6, 2) := by decide +kernel
theorem lf_6_22 : ip_lf 6 22 = some (6, 3) := by decide +kernel
theorem lf_6_25 : ip_lf 6 25 = some (6, 4) := by decide +kernel
theorem lf_7_62 : ip_lf 7 62 = some (6, 4) := by decide +kernel
theorem lf_6_31 : ip_lf 6 31 = some (6, 5) := by decide +kernel
theorem lf_2_23 : ip_lf 2 23 = some (6, 5) := by decide +kernel
theorem lf_8_138 : ip_lf 8 138 = some (6, 5) := by decide +kernel
theorem lf_6_34 : ip_lf 6 34 = some (6, 6) := by decide +kernel
theorem lf_2_37 : ip_lf 2 37 = some (6, 6) := by decide +kernel
theorem lf_8_142 : ip_lf 8 142 = some (6, 6) := by decide +kernel
theorem lf_6_37 : ip_lf 6 37 = some (6, 7) := by decide +kernel
theorem lf_7_144 : ip_lf 7 144 = some (6, 7) := by decide +kernel
theorem lf_8_192 : ip_lf 8 192 = some (6, 7) := by decide +kernel
theorem lf_6_40 : ip_lf 6 40 = some (6, 8) := by decide +kernel
theorem lf_6_43 : ip_lf 6 43 = some (6, 9) := by decide +kernel
theorem lf_7_117 : ip_lf 7 117 = some (6, 9) := by decide +kernel
theorem lf_6_46 : ip_lf 6 46 = some (6, 10) := by decide +kernel
theorem lf_8_112 : ip_lf 8 112 = some (6, 10) := by decide +kernel
theorem lf_6_49 : ip_lf 6 49 = some (6, 11) := by decide +kernel
theorem lf_6_52 : ip_lf 6 52 = some (6, 12) := by decide +kernel
theorem lf_8_130 : ip_lf 8 130 = some (6, 12) := by decide +kernel
theorem lf_6_58 : ip_lf 6 58 = some (6, 13) := by decide +kernel
theorem lf_7_246 : ip_lf 7 246 = some (6, 13) := by decide +kernel
theorem lf_8_152 : ip_lf 8 152 = some (6, 13) := by decide +kernel
theorem lf_6_65 : ip_lf 6 65 = some (6, 14) := by decide +kernel
theorem lf_7_199 : ip_lf 7 199 = some (6, 14) := by decide +kernel
theorem lf_8_176 : ip_lf 8 176 = some (6, 14) := by decide +kernel
theorem lf_6_69 : ip_lf 6 69 = some (6, 15) := by decide +kernel
theorem lf_8_173 : ip_lf 8 173 = some (6, 15) := by decide +kernel
theorem lf_6_72 : ip_lf 6 72 = some (6, 16) := by decide +kernel
theorem lf_8_170 : ip_lf 8 170 = some (6, 16) := by decide +kernel
theorem lf_1_9 : ip_lf 1 9 = some (1, 0) := by decide +kernel
theorem lf_1_15 : ip_lf 1 15 = some (1, 1) := by decide +kernel
theorem lf_7_164 : ip_lf 7 164 = some (1, 1) := by decide +kernel
theorem lf_1_19 : ip_lf 1 19 = some (1, 2) := by decide +kernel
theorem lf_7_103 : ip_lf 7 103 = some (1, 2) := by decide +kernel
theorem lf_6_97 : ip_lf 6 97 = some (1, 2) := by decide +kernel
theorem lf_1_22 : ip_lf 1 22 = some (1, 3) := by decide +kernel
theorem lf_7_104 : ip_lf 7 104 = some (1, 3) := by decide +kernel
theorem lf_6_100 : ip_lf 6 100 = some (1, 3) := by decide +kernel
theorem lf_1_25 : ip_lf 1 25 = some (1, 4) := by decide +kernel
theorem lf_7_237 : ip_lf 7 237 = some (1, 4) := by decide +kernel
theorem lf_1_28 : ip_lf 1 28 = some (1, 5) := by decide +kernel
theorem lf_7_224 : ip_lf 7 224 = some (1, 5) := by decide +kernel
theorem lf_1_32 : ip_lf 1 32 = some (1, 6) := by decide +kernel
theorem lf_7_126 : ip_lf 7 126 = some (1, 6) := by decide +kernel
theorem lf_6_101 : ip_lf 6 101 = some (1, 6) := by decide +kernel
theorem lf_1_35 : ip_lf 1 35 = some (1, 7) := by decide +kernel
theorem lf_7_88 : ip_lf 7 88 = some (1, 7) := by decide +kernel
theorem lf_7_12 : ip_lf 7 12 = some (7, 0) := by decide +kernel
theorem lf_8_16 : ip_lf 8 16 = some (7, 0) := by decide +kernel
theorem lf_7_18 : ip_lf 7 18 = some (7, 1) := by decide +kernel
theorem lf_8_115 : ip_lf 8 115 = some (7, 1) := by decide +kernel
theorem lf_7_24 : ip_lf 7 24 = some (7, 2) := by decide +kernel
theorem lf_7_27 : ip_lf 7 27 = some (7, 3) := by decide +kernel
theorem lf_7_33 : ip_lf 7 33 = some (7, 4) := by decide +kernel
theorem lf_7_40 : ip_lf 7 40 = some (7, 5) := by decide +kernel
theorem lf_8_195 : ip_lf 8 195 = some (7, 5) := by decide +kernel
theorem lf_7_44 : ip_lf 7 44 = some (7, 6) := by decide +kernel
theorem lf_7_47 : ip_lf 7 47 = some (7, 7) := by decide +kernel
theorem lf_7_51 : ip_lf 7 51 = some (7, 8) := by decide +kernel
theorem lf_2_9 : ip_lf 2 9 = some (2, 0) := by decide +kernel
theorem lf_8_226 : ip_lf 8 226 = some (2, 0) := by decide +kernel
theorem lf_2_15 : ip_lf 2 15 = some (2, 1) := by decide +kernel
theorem lf_2_19 : ip_lf 2 19 = some (2, 2) := by decide +kernel
theorem lf_8_223 : ip_lf 8 223 = some (2, 2) := by decide +kernel
theorem lf_8_12 : ip_lf 8 12 = some (8, 0) := by decide +kernel
theorem lf_8_20 : ip_lf 8 20 = some (8, 1) := by decide +kernel
theorem lf_8_21 : ip_lf 8 21 = some (8, 2) := by decide +kernel
theorem lf_8_27 : ip_lf 8 27 = some (8, 3) := by decide +kernel
theorem lf_8_34 : ip_lf 8 34 = some (8, 4) := by decide +kernel
theorem lf_8_38 : ip_lf 8 38 = some (8, 5) := by decide +kernel
theorem lf_8_42 : ip_lf 8 42 = some (8, 6) := by decide +kernel
theorem lf_9_179 : ip_lf 9 179 = some (9, 0) := by decide +kernel
theorem lf_9_7 : ip_lf 9 7 = some (9, 1) := by decide +kernel
theorem lf_9_13 : ip_lf 9 13 = some (9, 2) := by decide +kernel
theorem lf_9_16 : ip_lf 9 16 = some (9, 3) := by decide +kernel
theorem lf_9_20 : ip_lf 9 20 = some (9, 4) := by decide +kernel
theorem lf_9_168 : ip_lf 9 168 = some (9, 5) := by decide +kernel
theorem lf_9_23 : ip_lf 9 23 = some (9, 6) := by decide +kernel
theorem lf_9_26 : ip_lf 9 26 = some (9, 7) := by decide +kernel
theorem lf_9_29 : ip_lf 9 29 = some (9, 8) := by decide +kernel
theorem lf_9_32 : ip_lf 9 32 = some (9, 9) := by decide +kernel
theorem lf_9_176 : ip_lf 9 176 = some (9, 10) := by decide +kernel
theorem lf_9_305 : ip_lf 9 305 = some (9, 11) := by decide +kernel
theorem lf_9_35 : ip_lf 9 35 = some (9, 12) := by decide +kernel
theorem lf_9_38 : ip_lf 9 38 = some (9, 13) := by decide +kernel
theorem lf_9_41 : ip_lf 9 41 = some (9, 14) := by decide +kernel
theorem lf_9_44 : ip_lf 9 44 = some (9, 15) := by decide +kernel
theorem lf_9_47 : ip_lf 9 47 = some (9, 16) := by decide +kernel
theorem lf_9_50 : ip_lf 9 50 = some (9, 17) := by decide +kernel
theorem lf_9_53 : ip_lf 9 53 = some (9, 18) := by decide +kernel
theorem lf_9_56 : ip_lf 9 56 = some (9, 19) := by decide +kernel
theorem lf_9_59 : ip_lf 9 59 = some (9, 20) := by decide +kernel
theorem lf_9_62 : ip_lf 9 62 = some (9, 21) := by decide +kernel
theorem lf_9_65 : ip_lf 9 65 = some (9, 22) := by decide +kernel
theorem lf_9_68 : ip_lf 9 68 = some (9, 23) := by decide +kernel
theorem lf_9_71 : ip_lf 9 71 = some (9, 24) := by decide +kernel
theorem lf_9_74 : ip_lf 9 74 = some (9, 25) := by decide +kernel
theorem lf_9_77 : ip_lf 9 77 = some (9, 26) := by decide +kernel
theorem lf_9_80 : ip_lf 9 80 = some (9, 27) := by decide +kernel
theorem lf_9_83 : ip_lf 9 83 = some (9, 28) := by decide +kernel
theorem lf_9_86 : ip_lf 9 86 = some (9, 29) := by decide +kernel
theorem lf_9_89 : ip_lf 9 89 = some (9, 30) := by decide +kernel
theorem lf_9_92 : ip_lf 9 92 = some (9, 31) := by decide +kernel
theorem lf_9_95 : ip_lf 9 95 = some (9, 32) := by decide +kernel
theorem lf_9_98 : ip_lf 9 98 = some (9, 33) := by decide +kernel
theorem lf_9_101 : ip_lf 9 101 = some (9, 34) := by decide +kernel
theorem lf_9_104 : ip_lf 9 104 = some (9, 35) := by decide +kernel
theorem lf_9_107 : ip_lf 9 107 = some (9, 36) := by decide +kernel
theorem lf_9_110 : ip_lf 9 110 = some (9, 37) := by decide +kernel
theorem lf_9_206 : ip_lf 9 206 = some (9, 38) := by decide +kernel
theorem lf_9_210 : ip_lf 9 210 = some (9, 39) := by decide +kernel
theorem lf_9_268 : ip_lf 9 268 = some (9, 40) := by decide +kernel
theorem lf_9_271 : ip_lf 9 271 = some (9, 41) := by decide +kernel
theorem lf_9_265 : ip_lf 9 265 = some (9, 42) := by decide +kernel
theorem lf_9_262 : ip_lf 9 262 = some (9, 43) := by decide +kernel
theorem lf_9_259 : ip_lf 9 259 = some (9, 44) := by decide +kernel
theorem lf_9_216 : ip_lf 9 216 = some (9, 45) := by decide +kernel
theorem lf_9_231 : ip_lf 9 231 = some (9, 46) := by decide +kernel
theorem lf_9_219 : ip_lf 9 219 = some (9, 47) := by decide +kernel
theorem lf_9_203 : ip_lf 9 203 = some (9, 48) := by decide +kernel
theorem lf_9_213 : ip_lf 9 213 = some (9, 49) := by decide +kernel
theorem lf_9_200 : ip_lf 9 200 = some (9, 50) := by decide +kernel
theorem lf_9_113 : ip_lf 9 113 = some (9, 51) := by decide +kernel
theorem lf_9_116 : ip_lf 9 116 = some (9, 52) := by decide +kernel
theorem lf_9_119 : ip_lf 9 119 = some (9, 53) := by decide +kernel
theorem lf_9_122 : ip_lf 9 122 = some (9, 54) := by decide +kernel
theorem lf_9_125 : ip_lf 9 125 = some (9, 55) := by decide +kernel
theorem lf_9_128 : ip_lf 9 128 = some (9, 56) := by decide +kernel
theorem lf_9_131 : ip_lf 9 131 = some (9, 57) := by decide +kernel
theorem lf_9_135 : ip_lf 9 135 = some (9, 58) := by decide +kernel
theorem lf_9_138 : ip_lf 9 138 = some (9, 59) := by decide +kernel
theorem lf_9_141 : ip_lf 9 141 = some (9, 60) := by decide +kernel
theorem lf_9_144 : ip_lf 9 144 = some (9, 61) := by decide +kernel
theorem lf_9_147 : ip_lf 9 147 = some (9, 62) := by decide +kernel
theorem lf_9_150 : ip_lf 9 150 = some (9, 63) := by decide +kernel
theorem lf_9_153 : ip_lf 9 153 = some (9, 64) := by decide +kernel
theorem lf_9_156 : ip_lf 9 156 = some (9, 65) := by decide +kernel
theorem lf_9_159 : ip_lf 9 159 = some (9, 66) := by decide +kernel
theorem lf_9_345 : ip_lf 9 345 = some (9, 67) := by decide +kernel
theorem lf_9_162 : ip_lf 9 162 = some (9, 68) := by decide +kernel
theorem lf_9_165 : ip_lf 9 165 = some (9, 69) := by decide +kernel
theorem lm_10_9 : ip_lm 10 9 = some (2, 54, 0) := by decide +kernel
theorem ls_10_9 : ip_ls 10 9 = none := by decide +kernel
theorem lm_8_11 : ip_lm 8 11 = some (2, 39, 0) := by decide +kernel
theorem ls_8_11 : ip_ls 8 11 = none := by decide +kernel
theorem lm_7_11 : ip_lm 7 11 = some (2, 0, 0) := by decide +kernel
theorem ls_7_11 : ip_ls 7 11 = none := by decide +kernel
theorem lm_0_31 : ip_lm 0 31 = some (5, 17, 0) := by decide +kernel
theorem ls_0_31 : ip_ls 0 31 = none := by decide +kernel
theorem lm_0_32 : ip_lm 0 32 = some (1, 145, 2) := by decide +kernel
theorem ls_0_32 : ip_ls 0 32 = none := by decide +kernel
theorem lm_7_39 : ip_lm 7 39 = some (5, 25, 0) := by decide +kernel
theorem ls_7_39 : ip_ls 7 39 = none := by decide +kernel
theorem lm_6_57 : ip_lm 6 57 = some (5, 22, 0) := by decide +kernel
theorem ls_6_57 : ip_ls 6 57 = none := by decide +kernel
theorem lm_6_64 : ip_lm 6 64 = some (5, 19, 0) := by decide +kernel
theorem ls_6_64 : ip_ls 6 64 = none := by decide +kernel
theorem lm_7_55 : ip_lm 7 55 = some (5, 4, 0) := by decide +kernel
theorem ls_7_55 : ip_ls 7 55 = none := by decide +kernel
theorem lm_8_33 : ip_lm 8 33 = some (5, 13, 0) := by decide +kernel
theorem ls_8_33 : ip_ls 8 33 = none := by decide +kernel
theorem lm_8_45 : ip_lm 8 45 = some (5, 25, 0) := by decide +kernel
theorem ls_8_45 : ip_ls 8 45 = none := by decide +kernel
theorem lm_10_13 : ip_lm 10 13 = some (0, 55, 0) := by decide +kernel
theorem lm_10_20 : ip_lm 10 20 = some (0, 56, 4) := by decide +kernel
theorem lm_8_51 : ip_lm 8 51 = some (0, 1, 1) := by decide +kernel
theorem lm_0_38 : ip_lm 0 38 = some (4, 86, 2) := by decide +kernel
theorem ls_0_38 : ip_ls 0 38 = none := by decide +kernel
theorem lm_8_55 : ip_lm 8 55 = some (1, 86, 2) := by decide +kernel
theorem ls_8_55 : ip_ls 8 55 = none := by decide +kernel
theorem lm_8_63 : ip_lm 8 63 = some (0, 18, 3) := by decide +kernel
theorem lm_10_25 : ip_lm 10 25 = some (0, 57, 0) := by decide +kernel
theorem lm_10_29 : ip_lm 10 29 = some (0, 58, 3) := by decide +kernel
theorem lm_8_75 : ip_lm 8 75 = some (0, 2, 1) := by decide +kernel
theorem lm_10_34 : ip_lm 10 34 = some (0, 59, 2) := by decide +kernel
theorem lm_10_39 : ip_lm 10 39 = some (0, 60, 2) := by decide +kernel
theorem lm_8_92 : ip_lm 8 92 = some (1, 88, 1) := by decide +kernel
theorem ls_8_92 : ip_ls 8 92 = none := by decide +kernel
theorem lm_10_44 : ip_lm 10 44 = some (0, 61, 2) := by decide +kernel
theorem lm_8_96 : ip_lm 8 96 = some (1, 87, 2) := by decide +kernel
theorem ls_8_96 : ip_ls 8 96 = none := by decide +kernel
theorem lm_10_49 : ip_lm 10 49 = some (0, 62, 1) := by decide +kernel
theorem lm_10_54 : ip_lm 10 54 = some (0, 63, 4) := by decide +kernel
theorem lm_8_100 : ip_lm 8 100 = some (0, 3, 2) := by decide +kernel
theorem lm_8_104 : ip_lm 8 104 = some (0, 26, 5) := by decide +kernel
theorem lm_6_81 : ip_lm 6 81 = some (0, 23, 0) := by decide +kernel
theorem lm_5_25 : ip_lm 5 25 = some (1, 145, 2) := by decide +kernel
theorem ls_5_25 : ip_ls 5 25 = none := by decide +kernel
theorem lm_8_108 : ip_lm 8 108 = some (0, 40, 2) := by decide +kernel
theorem lm_7_56 : ip_lm 7 56 = some (1, 144, 2) := by decide +kernel
theorem ls_7_56 : ip_ls 7 56 = none := by decide +kernel
theorem lm_7_80 : ip_lm 7 80 = some (0, 5, 4) := by decide +kernel
theorem lm_7_84 : ip_lm 7 84 = some (0, 41, 1) := by decide +kernel
theorem lm_7_99 : ip_lm 7 99 = some (4, 86, 2) := by decide +kernel
theorem ls_7_99 : ip_ls 7 99 = none := by decide +kernel
theorem lm_7_105 : ip_lm 7 105 = some (0, 3, 2) := by decide +kernel
theorem lm_7_109 : ip_lm 7 109 = some (0, 1, 1) := by decide +kernel
theorem lm_7_134 : ip_lm 7 134 = some (0, 42, 3) := by decide +kernel
theorem lm_7_147 : ip_lm 7 147 = some (0, 30, 1) := by decide +kernel
theorem lm_7_150 : ip_lm 7 150 = some (0, 31, 4) := by decide +kernel
theorem lm_7_160 : ip_lm 7 160 = some (0, 43, 4) := by decide +kernel
theorem lm_7_181 : ip_lm 7 181 = some (0, 44, 3) := by decide +kernel
theorem lm_7_185 : ip_lm 7 185 = some (0, 7, 0) := by decide +kernel
theorem lm_7_178 : ip_lm 7 178 = some (0, 32, 2) := by decide +kernel
theorem lm_7_188 : ip_lm 7 188 = some (0, 45, 1) := by decide +kernel
theorem lm_7_192 : ip_lm 7 192 = some (0, 6, 1) := by decide +kernel
theorem lm_7_196 : ip_lm 7 196 = some (0, 46, 1) := by decide +kernel
theorem lm_7_170 : ip_lm 7 170 = some (0, 47, 4) := by decide +kernel
theorem lm_7_208 : ip_lm 7 208 = some (0, 48, 2) := by decide +kernel
theorem lm_7_243 : ip_lm 7 243 = some (4, 87, 2) := by decide +kernel
theorem ls_7_243 : ip_ls 7 243 = none := by decide +kernel
theorem lm_7_250 : ip_lm 7 250 = some (0, 24, 3) := by decide +kernel
theorem lm_5_31 : ip_lm 5 31 = some (4, 86, 2) := by decide +kernel
theorem ls_5_31 : ip_ls 5 31 = none := by decide +kernel
theorem lm_7_212 : ip_lm 7 212 = some (0, 49, 2) := by decide +kernel
theorem lm_7_215 : ip_lm 7 215 = some (0, 10, 1) := by decide +kernel
theorem lm_1_46 : ip_lm 1 46 = some (0, 7, 0) := by decide +kernel
theorem lm_1_38 : ip_lm 1 38 = some (4, 86, 2) := by decide +kernel
theorem ls_1_38 : ip_ls 1 38 = none := by decide +kernel
theorem lm_1_42 : ip_lm 1 42 = some (0, 6, 1) := by decide +kernel
theorem lm_7_218 : ip_lm 7 218 = some (0, 11, 2) := by decide +kernel
theorem lm_7_221 : ip_lm 7 221 = some (0, 50, 2) := by decide +kernel
theorem lm_7_256 : ip_lm 7 256 = some (0, 2, 1) := by decide +kernel
theorem lm_7_260 : ip_lm 7 260 = some (4, 88, 1) := by decide +kernel
theorem ls_7_260 : ip_ls 7 260 = none := by decide +kernel
theorem lm_7_225 : ip_lm 7 225 = some (0, 51, 2) := by decide +kernel
theorem lm_7_263 : ip_lm 7 263 = some (0, 20, 3) := by decide +kernel
theorem lm_7_228 : ip_lm 7 228 = some (0, 12, 1) := by decide +kernel
theorem lm_7_231 : ip_lm 7 231 = some (0, 52, 1) := by decide +kernel
theorem lm_7_234 : ip_lm 7 234 = some (0, 9, 1) := by decide +kernel
theorem lm_7_240 : ip_lm 7 240 = some (0, 53, 2) := by decide +kernel
theorem lm_7_174 : ip_lm 7 174 = some (0, 8, 0) := by decide +kernel
theorem lm_7_91 : ip_lm 7 91 = some (0, 28, 2) := by decide +kernel
theorem lm_7_95 : ip_lm 7 95 = some (0, 29, 2) := by decide +kernel
theorem lm_6_91 : ip_lm 6 91 = some (1, 144, 2) := by decide +kernel
theorem ls_6_91 : ip_ls 6 91 = none := by decide +kernel
theorem lm_10_58 : ip_lm 10 58 = some (0, 64, 0) := by decide +kernel
theorem lm_10_62 : ip_lm 10 62 = some (0, 65, 2) := by decide +kernel
theorem lm_8_124 : ip_lm 8 124 = some (0, 82, 1) := by decide +kernel
theorem lm_8_127 : ip_lm 8 127 = some (0, 33, 1) := by decide +kernel
theorem lm_10_66 : ip_lm 10 66 = some (0, 66, 1) := by decide +kernel
theorem lm_10_70 : ip_lm 10 70 = some (0, 67, 3) := by decide +kernel
theorem lm_8_134 : ip_lm 8 134 = some (0, 83, 2) := by decide +kernel
theorem lm_10_74 : ip_lm 10 74 = some (0, 68, 2) := by decide +kernel
theorem lm_10_78 : ip_lm 10 78 = some (0, 69, 3) := by decide +kernel
theorem lm_8_145 : ip_lm 8 145 = some (0, 34, 2) := by decide +kernel
theorem lm_10_82 : ip_lm 10 82 = some (0, 70, 4) := by decide +kernel
theorem lm_8_148 : ip_lm 8 148 = some (0, 35, 3) := by decide +kernel
theorem lm_10_87 : ip_lm 10 87 = some (0, 71, 3) := by decide +kernel
theorem lm_10_91 : ip_lm 10 91 = some (0, 72, 3) := by decide +kernel
theorem lm_10_96 : ip_lm 10 96 = some (0, 73, 4) := by decide +kernel
theorem lm_8_180 : ip_lm 8 180 = some (0, 21, 2) := by decide +kernel
theorem lm_10_101 : ip_lm 10 101 = some (0, 74, 2) := by decide +kernel
theorem lm_10_105 : ip_lm 10 105 = some (0, 75, 2) := by decide +kernel
theorem lm_8_199 : ip_lm 8 199 = some (0, 27, 1) := by decide +kernel
theorem lm_6_87 : ip_lm 6 87 = some (0, 26, 5) := by decide +kernel
theorem lm_8_203 : ip_lm 8 203 = some (0, 84, 1) := by decide +kernel
theorem lm_8_232 : ip_lm 8 232 = some (1, 85, 2) := by decide +kernel
theorem ls_8_232 : ip_ls 8 232 = none := by decide +kernel
theorem lm_10_109 : ip_lm 10 109 = some (0, 76, 0) := by decide +kernel
theorem lm_10_114 : ip_lm 10 114 = some (0, 77, 2) := by decide +kernel
theorem lm_8_207 : ip_lm 8 207 = some (0, 36, 1) := by decide +kernel
theorem lm_6_111 : ip_lm 6 111 = some (0, 37, 2) := by decide +kernel
theorem lm_10_118 : ip_lm 10 118 = some (0, 78, 2) := by decide +kernel
theorem lm_8_216 : ip_lm 8 216 = some (0, 38, 1) := by decide +kernel
theorem lm_6_117 : ip_lm 6 117 = some (4, 85, 2) := by decide +kernel
theorem ls_6_117 : ip_ls 6 117 = none := by decide +kernel
theorem lm_10_122 : ip_lm 10 122 = some (0, 79, 2) := by decide +kernel
theorem lm_8_220 : ip_lm 8 220 = some (0, 14, 2) := by decide +kernel
theorem lm_2_29 : ip_lm 2 29 = some (0, 16, 1) := by decide +kernel
theorem lm_2_33 : ip_lm 2 33 = some (0, 15, 1) := by decide +kernel
theorem lm_10_126 : ip_lm 10 126 = some (0, 80, 1) := by decide +kernel
theorem lm_10_131 : ip_lm 10 131 = some (0, 81, 1) := by decide +kernel
theorem lm_10_12 : ip_lm 10 12 = some (2, 89, 0) := by decide +kernel
theorem ls_10_12 : ip_ls 10 12 = none := by decide +kernel
theorem lm_10_17 : ip_lm 10 17 = some (0, 93, 0) := by decide +kernel
theorem lm_10_24 : ip_lm 10 24 = some (0, 94, 4) := by decide +kernel
theorem lm_9_172 : ip_lm 9 172 = some (1, 90, 3) := by decide +kernel
theorem ls_9_172 : ip_ls 9 172 = none := by decide +kernel
theorem lm_10_28 : ip_lm 10 28 = some (0, 95, 0) := by decide +kernel
theorem lm_10_33 : ip_lm 10 33 = some (0, 96, 3) := by decide +kernel
theorem lm_9_184 : ip_lm 9 184 = some (0, 91, 1) := by decide +kernel
theorem lm_10_38 : ip_lm 10 38 = some (0, 97, 2) := by decide +kernel
theorem lm_10_43 : ip_lm 10 43 = some (0, 98, 2) := by decide +kernel
theorem lm_10_48 : ip_lm 10 48 = some (0, 99, 2) := by decide +kernel
theorem lm_10_53 : ip_lm 10 53 = some (0, 100, 1) := by decide +kernel
theorem lm_10_57 : ip_lm 10 57 = some (0, 118, 4) := by decide +kernel
theorem lm_9_308 : ip_lm 9 308 = some (0, 117, 5) := by decide +kernel
theorem lm_9_282 : ip_lm 9 282 = some (0, 101, 4) := by decide +kernel
theorem lm_9_297 : ip_lm 9 297 = some (0, 106, 0) := by decide +kernel
theorem lm_9_227 : ip_lm 9 227 = some (0, 102, 1) := by decide +kernel
theorem lm_9_223 : ip_lm 9 223 = some (0, 103, 2) := by decide +kernel
theorem lm_9_289 : ip_lm 9 289 = some (0, 105, 1) := by decide +kernel
theorem lm_9_300 : ip_lm 9 300 = some (0, 116, 1) := by decide +kernel
theorem lm_9_234 : ip_lm 9 234 = some (0, 104, 1) := by decide +kernel
theorem lm_9_274 : ip_lm 9 274 = some (0, 112, 2) := by decide +kernel
theorem lm_9_278 : ip_lm 9 278 = some (0, 114, 4) := by decide +kernel
theorem lm_9_286 : ip_lm 9 286 = some (0, 115, 1) := by decide +kernel
theorem lm_9_293 : ip_lm 9 293 = some (0, 113, 2) := by decide +kernel
theorem lm_9_246 : ip_lm 9 246 = some (0, 111, 3) := by decide +kernel
theorem lm_9_242 : ip_lm 9 242 = some (0, 107, 3) := by decide +kernel
theorem lm_9_250 : ip_lm 9 250 = some (0, 108, 2) := by decide +kernel
theorem lm_9_253 : ip_lm 9 253 = some (0, 109, 2) := by decide +kernel
theorem lm_9_256 : ip_lm 9 256 = some (0, 110, 2) := by decide +kernel
theorem lm_10_61 : ip_lm 10 61 = some (0, 119, 0) := by decide +kernel
theorem lm_10_65 : ip_lm 10 65 = some (0, 120, 2) := by decide +kernel
theorem lm_9_312 : ip_lm 9 312 = some (0, 92, 1) := by decide +kernel
theorem lm_10_69 : ip_lm 10 69 = some (0, 121, 1) := by decide +kernel
theorem lm_10_73 : ip_lm 10 73 = some (0, 123, 3) := by decide +kernel
theorem lm_9_316 : ip_lm 9 316 = some (0, 122, 2) := by decide +kernel
theorem lm_10_77 : ip_lm 10 77 = some (0, 124, 2) := by decide +kernel
theorem lm_10_81 : ip_lm 10 81 = some (0, 125, 3) := by decide +kernel
theorem lm_10_86 : ip_lm 10 86 = some (0, 126, 4) := by decide +kernel
theorem lm_10_90 : ip_lm 10 90 = some (0, 127, 3) := by decide +kernel
theorem lm_10_95 : ip_lm 10 95 = some (0, 128, 3) := by decide +kernel
theorem lm_10_100 : ip_lm 10 100 = some (0, 129, 4) := by decide +kernel
theorem lm_10_104 : ip_lm 10 104 = some (0, 130, 2) := by decide +kernel
theorem lm_10_113 : ip_lm 10 113 = some (0, 132, 0) := by decide +kernel
theorem lm_9_325 : ip_lm 9 325 = some (1, 131, 2) := by decide +kernel
theorem ls_9_325 : ip_ls 9 325 = none := by decide +kernel
theorem lm_10_108 : ip_lm 10 108 = some (0, 133, 2) := by decide +kernel
theorem lm_9_329 : ip_lm 9 329 = some (0, 132, 0) := by decide +kernel
theorem lm_10_117 : ip_lm 10 117 = some (0, 136, 2) := by decide +kernel
theorem lm_9_333 : ip_lm 9 333 = some (0, 135, 2) := by decide +kernel
theorem lm_9_337 : ip_lm 9 337 = some (0, 134, 3) := by decide +kernel
theorem lm_10_121 : ip_lm 10 121 = some (0, 138, 2) := by decide +kernel
theorem lm_9_341 : ip_lm 9 341 = some (0, 137, 2) := by decide +kernel
theorem lm_10_125 : ip_lm 10 125 = some (0, 141, 2) := by decide +kernel
theorem lm_9_353 : ip_lm 9 353 = some (0, 140, 1) := by decide +kernel
theorem lm_9_348 : ip_lm 9 348 = some (0, 139, 1) := by decide +kernel
theorem lm_10_130 : ip_lm 10 130 = some (0, 142, 1) := by decide +kernel
theorem lm_10_134 : ip_lm 10 134 = some (0, 143, 1) := by decide +kernel
theorem ls_8_3 : ip_ls 8 3 = some 0 := by decide +kernel
theorem ls_7_3 : ip_ls 7 3 = some 0 := by decide +kernel
theorem ls_0_3 : ip_ls 0 3 = some 0 := by decide +kernel
theorem ls_3_3 : ip_ls 3 3 = some 0 := by decide +kernel
theorem ls_6_3 : ip_ls 6 3 = some 0 := by decide +kernel
theorem ls_5_3 : ip_ls 5 3 = some 0 := by decide +kernel
theorem ls_4_3 : ip_ls 4 3 = some 0 := by decide +kernel
theorem ls_1_3 : ip_ls 1 3 = some 0 := by decide +kernel
theorem ls_2_3 : ip_ls 2 3 = some 0 := by decide +kernel
theorem ls_6_75 : ip_ls 6 75 = some 1 := by decide +kernel
theorem ls_7_65 : ip_ls 7 65 = some 1 := by decide +kernel
theorem ls_7_120 : ip_ls 7 120 = some 2 := by decide +kernel
theorem ls_8_118 : ip_ls 8 118 = some 1 := by decide +kernel
theorem ls_8_211 : ip_ls 8 211 = some 3 := by decide +kernel
theorem ls_6_105 : ip_ls 6 105 = some 3 := by decide +kernel
theorem ls_9_1 : ip_ls 9 1 = some 0 := by decide +kernel
theorem lc_8_86 : ip_lc 8 86 = some (-1) := by decide +kernel
theorem lc_8_88 : ip_lc 8 88 = some (1000000000) := by decide +kernel
theorem lc_8_90 : ip_lc 8 90 = some (-2) := by decide +kernel
theorem lc_8_230 : ip_lc 8 230 = some (17) := by decide +kernel
theorem lc_8_236 : ip_lc 8 236 = some (-7046029254386353131) := by decide +kernel
theorem lc_6_115 : ip_lc 6 115 = some (17) := by decide +kernel
theorem lc_2_41 : ip_lc 2 41 = some (10) := by decide +kernel
theorem lc_9_182 : ip_lc 9 182 = some (15) := by decide +kernel
theorem lc_9_188 : ip_lc 9 188 = some (3) := by decide +kernel
theorem lc_9_190 : ip_lc 9 190 = some (50) := by decide +kernel
theorem lc_9_192 : ip_lc 9 192 = some (-1) := by decide +kernel
theorem lc_9_194 : ip_lc 9 194 = some (1000000000) := by decide +kernel
theorem lc_9_196 : ip_lc 9 196 = some (-2) := by decide +kernel
theorem lc_9_198 : ip_lc 9 198 = some (7) := by decide +kernel
theorem lc_9_303 : ip_lc 9 303 = some (100) := by decide +kernel
theorem lc_9_238 : ip_lc 9 238 = some (4) := by decide +kernel
theorem lc_9_240 : ip_lc 9 240 = some (2) := by decide +kernel
theorem lc_9_319 : ip_lc 9 319 = some (6) := by decide +kernel
theorem lc_9_323 : ip_lc 9 323 = some (17) := by decide +kernel
theorem lc_9_321 : ip_lc 9 321 = some (-7046029254386353131) := by decide +kernel
theorem lc_9_351 : ip_lc 9 351 = some (10) := by decide +kernel
theorem lc_10_18 : ip_lc 10 18 = some (4294967295) := by decide +kernel
theorem ln_10_7 : ip_ln 10 7 = some 8 := by decide +kernel
theorem ln_8_9 : ip_ln 8 9 = some 7 := by decide +kernel
theorem ln_7_9 : ip_ln 7 9 = some 0 := by decide +kernel
theorem ln_0_9 : ip_ln 0 9 = some 3 := by decide +kernel
theorem ln_7_31 : ip_ln 7 31 = some 1 := by decide +kernel
theorem ln_7_37 : ip_ln 7 37 = some 6 := by decide +kernel
theorem ln_6_55 : ip_ln 6 55 = some 5 := by decide +kernel
theorem ln_6_62 : ip_ln 6 62 = some 4 := by decide +kernel
theorem ln_8_25 : ip_ln 8 25 = some 6 := by decide +kernel
theorem ln_8_31 : ip_ln 8 31 = some 2 := by decide +kernel
theorem ln_10_10 : ip_ln 10 10 = some 9 := by decide +kernel
theorem la_0_9 : ip_la 0 9 = some 5 := by decide +kernel
theorem la_7_31 : ip_la 7 31 = some 4 := by decide +kernel
theorem la_7_37 : ip_la 7 37 = some 6 := by decide +kernel
theorem la_8_25 : ip_la 8 25 = some 6 := by decide +kernel
theorem lu_7_22 : ip_lu 7 22 = some (8, 2) := by decide +kernel
theorem lu_6_29 : ip_lu 6 29 = some (7, 1) := by decide +kernel
set_option maxRecDepth 20000 in
theorem mq0 : ip_M[(0 : Nat)]? = some (0, yX0_init, cX0_init, 2, none) := rfl
set_option maxRecDepth 20000 in
theorem mq1 : ip_M[(1 : Nat)]? = some (0, yX0_hasProgram, cX0_hasProgram, 2, (some .boolean)) := rfl
set_option maxRecDepth 20000 in
theorem mq2 : ip_M[(2 : Nat)]? = some (0, yX0_hasAccount, cX0_hasAccount, 3, (some .boolean)) := rfl
set_option maxRecDepth 20000 in
theorem mq3 : ip_M[(3 : Nat)]? = some (0, yX0_programOf, cX0_programOf, 4, (some .int)) := rfl
set_option maxRecDepth 20000 in
theorem mq4 : ip_M[(4 : Nat)]? = some (1, yX1_init, cX1_init, 1, none) := rfl
set_option maxRecDepth 20000 in
theorem mq5 : ip_M[(5 : Nat)]? = some (1, yX1_open, cX1_open, 6, none) := rfl
set_option maxRecDepth 20000 in
theorem mq6 : ip_M[(6 : Nat)]? = some (1, yX1_push, cX1_push, 3, (some .int)) := rfl
set_option maxRecDepth 20000 in
theorem mq7 : ip_M[(7 : Nat)]? = some (1, yX1_pop, cX1_pop, 1, (some .long)) := rfl
set_option maxRecDepth 20000 in
theorem mq8 : ip_M[(8 : Nat)]? = some (1, yX1_top, cX1_top, 1, (some .long)) := rfl
set_option maxRecDepth 20000 in
theorem mq9 : ip_M[(9 : Nat)]? = some (1, yX1_pushCopy, cX1_pushCopy, 3, (some .int)) := rfl
set_option maxRecDepth 20000 in
theorem mq10 : ip_M[(10 : Nat)]? = some (1, yX1_pushMath, cX1_pushMath, 7, (some .int)) := rfl
set_option maxRecDepth 20000 in
theorem mq11 : ip_M[(11 : Nat)]? = some (1, yX1_jump, cX1_jump, 4, (some .int)) := rfl
set_option maxRecDepth 20000 in
theorem mq12 : ip_M[(12 : Nat)]? = some (1, yX1_end, cX1_end, 2, (some .int)) := rfl
set_option maxRecDepth 20000 in
theorem mq13 : ip_M[(13 : Nat)]? = some (2, yX2_init, cX2_init, 1, none) := rfl
set_option maxRecDepth 20000 in
theorem mq14 : ip_M[(14 : Nat)]? = some (2, yX2_writeStep, cX2_writeStep, 4, none) := rfl
set_option maxRecDepth 20000 in
theorem mq15 : ip_M[(15 : Nat)]? = some (2, yX2_addSign, cX2_addSign, 2, none) := rfl
set_option maxRecDepth 20000 in
theorem mq16 : ip_M[(16 : Nat)]? = some (2, yX2_addNumber, cX2_addNumber, 7, none) := rfl
set_option maxRecDepth 20000 in
theorem mq17 : ip_M[(17 : Nat)]? = some (3, yX3_init, cX3_init, 1, none) := rfl
set_option maxRecDepth 20000 in
theorem mq18 : ip_M[(18 : Nat)]? = some (3, yX3_add, cX3_add, 5, (some .boolean)) := rfl
set_option maxRecDepth 20000 in
theorem mq19 : ip_M[(19 : Nat)]? = some (4, yX4_init, cX4_init, 1, none) := rfl
set_option maxRecDepth 20000 in
theorem mq20 : ip_M[(20 : Nat)]? = some (4, yX4_add, cX4_add, 6, none) := rfl
set_option maxRecDepth 20000 in
theorem mq21 : ip_M[(21 : Nat)]? = some (4, yX4_numberOf, cX4_numberOf, 5, (some .int)) := rfl
set_option maxRecDepth 20000 in
theorem mq22 : ip_M[(22 : Nat)]? = some (5, yX5_init, cX5_init, 1, none) := rfl
set_option maxRecDepth 20000 in
theorem mq23 : ip_M[(23 : Nat)]? = some (5, yX5_clear, cX5_clear, 1, none) := rfl
set_option maxRecDepth 20000 in
theorem mq24 : ip_M[(24 : Nat)]? = some (5, yX5_add, cX5_add, 5, none) := rfl
set_option maxRecDepth 20000 in
theorem mq25 : ip_M[(25 : Nat)]? = some (6, yX6_init, cX6_init, 1, none) := rfl
set_option maxRecDepth 20000 in
theorem mq26 : ip_M[(26 : Nat)]? = some (6, yX6_ask, cX6_ask, 7, none) := rfl
set_option maxRecDepth 20000 in
theorem mq27 : ip_M[(27 : Nat)]? = some (6, yX6_askAgain, cX6_askAgain, 2, none) := rfl
set_option maxRecDepth 20000 in
theorem mq28 : ip_M[(28 : Nat)]? = some (6, yX6_endWell, cX6_endWell, 4, none) := rfl
set_option maxRecDepth 20000 in
theorem mq29 : ip_M[(29 : Nat)]? = some (6, yX6_endBadly, cX6_endBadly, 4, none) := rfl
set_option maxRecDepth 20000 in
theorem mq30 : ip_M[(30 : Nat)]? = some (6, yX6_canPay, cX6_canPay, 2, (some .boolean)) := rfl
set_option maxRecDepth 20000 in
theorem mq31 : ip_M[(31 : Nat)]? = some (6, yX6_beginStep, cX6_beginStep, 5, none) := rfl
set_option maxRecDepth 20000 in
theorem mq32 : ip_M[(32 : Nat)]? = some (6, yX6_endStep, cX6_endStep, 4, none) := rfl
set_option maxRecDepth 20000 in
theorem mq33 : ip_M[(33 : Nat)]? = some (6, yX6_amount, cX6_amount, 2, (some .int)) := rfl
set_option maxRecDepth 20000 in
theorem mq34 : ip_M[(34 : Nat)]? = some (6, yX6_firstOfKind, cX6_firstOfKind, 4, (some .int)) := rfl
set_option maxRecDepth 20000 in
theorem mq35 : ip_M[(35 : Nat)]? = some (6, yX6_pricesOf, cX6_pricesOf, 9, (some .int)) := rfl
set_option maxRecDepth 20000 in
theorem mq36 : ip_M[(36 : Nat)]? = some (6, yX6_firstUnlike, cX6_firstUnlike, 4, (some .int)) := rfl
set_option maxRecDepth 20000 in
theorem mq37 : ip_M[(37 : Nat)]? = some (6, yX6_isLike, cX6_isLike, 4, (some .boolean)) := rfl
set_option maxRecDepth 20000 in
theorem mq38 : ip_M[(38 : Nat)]? = some (6, yX6_digestOfFirst, cX6_digestOfFirst, 7, (some .long)) := rfl
set_option maxRecDepth 20000 in
theorem mq39 : ip_M[(39 : Nat)]? = some (7, yX7_init, cX7_init, 2, none) := rfl
set_option maxRecDepth 20000 in
theorem mq40 : ip_M[(40 : Nat)]? = some (7, yX7_walk, cX7_walk, 4, none) := rfl
set_option maxRecDepth 20000 in
theorem mq41 : ip_M[(41 : Nat)]? = some (7, yX7_walkFrame, cX7_walkFrame, 7, (some .int)) := rfl
set_option maxRecDepth 20000 in
theorem mq42 : ip_M[(42 : Nat)]? = some (7, yX7_walkOp, cX7_walkOp, 8, (some .int)) := rfl
set_option maxRecDepth 20000 in
theorem mq43 : ip_M[(43 : Nat)]? = some (7, yX7_walkWithin, cX7_walkWithin, 12, (some .int)) := rfl
set_option maxRecDepth 20000 in
theorem mq44 : ip_M[(44 : Nat)]? = some (7, yX7_lookWithin, cX7_lookWithin, 5, (some .int)) := rfl
set_option maxRecDepth 20000 in
theorem mq45 : ip_M[(45 : Nat)]? = some (7, yX7_save, cX7_save, 2, none) := rfl
set_option maxRecDepth 20000 in
theorem mq46 : ip_M[(46 : Nat)]? = some (7, yX7_undo, cX7_undo, 2, none) := rfl
set_option maxRecDepth 20000 in
theorem mq47 : ip_M[(47 : Nat)]? = some (7, yX7_act, cX7_act, 6, (some .int)) := rfl
set_option maxRecDepth 20000 in
theorem mq48 : ip_M[(48 : Nat)]? = some (7, yX7_readCell, cX7_readCell, 6, (some .int)) := rfl
set_option maxRecDepth 20000 in
theorem mq49 : ip_M[(49 : Nat)]? = some (7, yX7_writeCell, cX7_writeCell, 7, (some .int)) := rfl
set_option maxRecDepth 20000 in
theorem mq50 : ip_M[(50 : Nat)]? = some (7, yX7_send, cX7_send, 7, (some .int)) := rfl
set_option maxRecDepth 20000 in
theorem mq51 : ip_M[(51 : Nat)]? = some (7, yX7_addTell, cX7_addTell, 4, (some .int)) := rfl
set_option maxRecDepth 20000 in
theorem mq52 : ip_M[(52 : Nat)]? = some (7, yX7_failWith, cX7_failWith, 3, (some .int)) := rfl
set_option maxRecDepth 20000 in
theorem mq53 : ip_M[(53 : Nat)]? = some (7, yX7_pushFunds, cX7_pushFunds, 4, (some .int)) := rfl
set_option maxRecDepth 20000 in
theorem mq54 : ip_M[(54 : Nat)]? = some (8, yX8_init, cX8_init, 2, none) := rfl
set_option maxRecDepth 20000 in
theorem mq55 : ip_M[(55 : Nat)]? = some (8, yX8_program, cX8_program, 1, (some .int)) := rfl
set_option maxRecDepth 20000 in
theorem mq56 : ip_M[(56 : Nat)]? = some (8, yX8_op, cX8_op, 7, (some .int)) := rfl
set_option maxRecDepth 20000 in
theorem mq57 : ip_M[(57 : Nat)]? = some (8, yX8_account, cX8_account, 1, (some .int)) := rfl
set_option maxRecDepth 20000 in
theorem mq58 : ip_M[(58 : Nat)]? = some (8, yX8_member, cX8_member, 4, (some .int)) := rfl
set_option maxRecDepth 20000 in
theorem mq59 : ip_M[(59 : Nat)]? = some (8, yX8_price, cX8_price, 4, (some .int)) := rfl
set_option maxRecDepth 20000 in
theorem mq60 : ip_M[(60 : Nat)]? = some (8, yX8_fund, cX8_fund, 6, (some .long)) := rfl
set_option maxRecDepth 20000 in
theorem mq61 : ip_M[(61 : Nat)]? = some (8, yX8_cell, cX8_cell, 3, (some .long)) := rfl
set_option maxRecDepth 20000 in
theorem mq62 : ip_M[(62 : Nat)]? = some (8, yX8_balance, cX8_balance, 2, (some .long)) := rfl
set_option maxRecDepth 20000 in
theorem mq63 : ip_M[(63 : Nat)]? = some (8, yX8_call, cX8_call, 7, (some .int)) := rfl
set_option maxRecDepth 20000 in
theorem mq64 : ip_M[(64 : Nat)]? = some (8, yX8_drop, cX8_drop, 2, (some .int)) := rfl
set_option maxRecDepth 20000 in
theorem mq65 : ip_M[(65 : Nat)]? = some (8, yX8_trace, cX8_trace, 3, (some .int)) := rfl
set_option maxRecDepth 20000 in
theorem mq66 : ip_M[(66 : Nat)]? = some (8, yX8_result, cX8_result, 2, (some .long)) := rfl
set_option maxRecDepth 20000 in
theorem mq67 : ip_M[(67 : Nat)]? = some (8, yX8_step, cX8_step, 4, (some .int)) := rfl
set_option maxRecDepth 20000 in
theorem mq68 : ip_M[(68 : Nat)]? = some (8, yX8_value, cX8_value, 3, (some .long)) := rfl
set_option maxRecDepth 20000 in
theorem mq69 : ip_M[(69 : Nat)]? = some (8, yX8_search, cX8_search, 4, (some .int)) := rfl
set_option maxRecDepth 20000 in
theorem mq70 : ip_M[(70 : Nat)]? = some (8, yX8_flame, cX8_flame, 5, (some .int)) := rfl
set_option maxRecDepth 20000 in
theorem mq71 : ip_M[(71 : Nat)]? = some (8, yX8_touch, cX8_touch, 6, (some .int)) := rfl
set_option maxRecDepth 20000 in
theorem mq72 : ip_M[(72 : Nat)]? = some (8, yX8_flow, cX8_flow, 4, (some .long)) := rfl
set_option maxRecDepth 20000 in
theorem mq73 : ip_M[(73 : Nat)]? = some (8, yX8_tell, cX8_tell, 7, (some .long)) := rfl
set_option maxRecDepth 20000 in
theorem mq74 : ip_M[(74 : Nat)]? = some (8, yX8_told, cX8_told, 3, (some .long)) := rfl
set_option maxRecDepth 20000 in
theorem mq75 : ip_M[(75 : Nat)]? = some (8, yX8_back, cX8_back, 3, (some .long)) := rfl
set_option maxRecDepth 20000 in
theorem mq76 : ip_M[(76 : Nat)]? = some (8, yX8_state, cX8_state, 1, (some .long)) := rfl
set_option maxRecDepth 20000 in
theorem mq77 : ip_M[(77 : Nat)]? = some (8, yX8_compare, cX8_compare, 3, (some .int)) := rfl
set_option maxRecDepth 20000 in
theorem mq78 : ip_M[(78 : Nat)]? = some (8, yX8_halves, cX8_halves, 8, (some .int)) := rfl
set_option maxRecDepth 20000 in
theorem mq79 : ip_M[(79 : Nat)]? = some (8, yX8_write, cX8_write, 3, (some .int)) := rfl
set_option maxRecDepth 20000 in
theorem mq80 : ip_M[(80 : Nat)]? = some (8, yX8_out, cX8_out, 2, (some .int)) := rfl
set_option maxRecDepth 20000 in
theorem mq81 : ip_M[(81 : Nat)]? = some (8, yX8_count, cX8_count, 2, (some .int)) := rfl
set_option maxRecDepth 20000 in
theorem mq82 : ip_M[(82 : Nat)]? = some (8, yX8_isKept, cX8_isKept, 2, (some .boolean)) := rfl
set_option maxRecDepth 20000 in
theorem mq83 : ip_M[(83 : Nat)]? = some (8, yX8_hasStep, cX8_hasStep, 3, (some .boolean)) := rfl
set_option maxRecDepth 20000 in
theorem mq84 : ip_M[(84 : Nat)]? = some (8, yX8_digestOfState, cX8_digestOfState, 6, (some .long)) := rfl
set_option maxRecDepth 20000 in
theorem mq85 : ip_M[(85 : Nat)]? = some (8, yX8_digestWith, cX8_digestWith, 6, (some .long)) := rfl
set_option maxRecDepth 20000 in
theorem mq86 : ip_M[(86 : Nat)]? = some (8, yX8_isWithin, cX8_isWithin, 3, (some .boolean)) := rfl
set_option maxRecDepth 20000 in
theorem mq87 : ip_M[(87 : Nat)]? = some (8, yX8_cellPlace, cX8_cellPlace, 2, (some .int)) := rfl
set_option maxRecDepth 20000 in
theorem mq88 : ip_M[(88 : Nat)]? = some (8, yX8_balancePlace, cX8_balancePlace, 1, (some .int)) := rfl
set_option maxRecDepth 20000 in
theorem mq89 : ip_M[(89 : Nat)]? = some (9, yX9_init, cX9_init, 1, none) := rfl
set_option maxRecDepth 20000 in
theorem mq90 : ip_M[(90 : Nat)]? = some (9, yX9_in, cX9_in, 6, (some .boolean)) := rfl
set_option maxRecDepth 20000 in
theorem mq91 : ip_M[(91 : Nat)]? = some (9, yX9_isAccount, cX9_isAccount, 3, (some .boolean)) := rfl
set_option maxRecDepth 20000 in
theorem mq92 : ip_M[(92 : Nat)]? = some (9, yX9_isTrace, cX9_isTrace, 2, (some .boolean)) := rfl
set_option maxRecDepth 20000 in
theorem mq93 : ip_M[(93 : Nat)]? = some (9, yX9_program, cX9_program, 1, (some .int)) := rfl
set_option maxRecDepth 20000 in
theorem mq94 : ip_M[(94 : Nat)]? = some (9, yX9_op, cX9_op, 7, (some .int)) := rfl
set_option maxRecDepth 20000 in
theorem mq95 : ip_M[(95 : Nat)]? = some (9, yX9_account, cX9_account, 2, (some .int)) := rfl
set_option maxRecDepth 20000 in
theorem mq96 : ip_M[(96 : Nat)]? = some (9, yX9_member, cX9_member, 4, (some .int)) := rfl
set_option maxRecDepth 20000 in
theorem mq97 : ip_M[(97 : Nat)]? = some (9, yX9_price, cX9_price, 4, (some .int)) := rfl
set_option maxRecDepth 20000 in
theorem mq98 : ip_M[(98 : Nat)]? = some (9, yX9_fund, cX9_fund, 6, (some .long)) := rfl
set_option maxRecDepth 20000 in
theorem mq99 : ip_M[(99 : Nat)]? = some (9, yX9_cell, cX9_cell, 3, (some .long)) := rfl
set_option maxRecDepth 20000 in
theorem mq100 : ip_M[(100 : Nat)]? = some (9, yX9_balance, cX9_balance, 2, (some .long)) := rfl
set_option maxRecDepth 20000 in
theorem mq101 : ip_M[(101 : Nat)]? = some (9, yX9_enters, cX9_enters, 8, none) := rfl
set_option maxRecDepth 20000 in
theorem mq102 : ip_M[(102 : Nat)]? = some (9, yX9_undoes, cX9_undoes, 3, none) := rfl
set_option maxRecDepth 20000 in
theorem mq103 : ip_M[(103 : Nat)]? = some (9, yX9_push, cX9_push, 4, none) := rfl
set_option maxRecDepth 20000 in
theorem mq104 : ip_M[(104 : Nat)]? = some (9, yX9_pop, cX9_pop, 2, (some .long)) := rfl
set_option maxRecDepth 20000 in
theorem mq105 : ip_M[(105 : Nat)]? = some (9, yX9_leaves, cX9_leaves, 3, none) := rfl
set_option maxRecDepth 20000 in
theorem mq106 : ip_M[(106 : Nat)]? = some (9, yX9_fails, cX9_fails, 2, none) := rfl
set_option maxRecDepth 20000 in
theorem mq107 : ip_M[(107 : Nat)]? = some (9, yX9_marks, cX9_marks, 6, none) := rfl
set_option maxRecDepth 20000 in
theorem mq108 : ip_M[(108 : Nat)]? = some (9, yX9_maths, cX9_maths, 8, none) := rfl
set_option maxRecDepth 20000 in
theorem mq109 : ip_M[(109 : Nat)]? = some (9, yX9_sends, cX9_sends, 8, none) := rfl
set_option maxRecDepth 20000 in
theorem mq110 : ip_M[(110 : Nat)]? = some (9, yX9_says, cX9_says, 7, none) := rfl
set_option maxRecDepth 20000 in
theorem mq111 : ip_M[(111 : Nat)]? = some (9, yX9_reads, cX9_reads, 8, none) := rfl
set_option maxRecDepth 20000 in
theorem mq112 : ip_M[(112 : Nat)]? = some (9, yX9_isWalked, cX9_isWalked, 5, (some .boolean)) := rfl
set_option maxRecDepth 20000 in
theorem mq113 : ip_M[(113 : Nat)]? = some (9, yX9_does, cX9_does, 7, none) := rfl
set_option maxRecDepth 20000 in
theorem mq114 : ip_M[(114 : Nat)]? = some (9, yX9_notes, cX9_notes, 7, none) := rfl
set_option maxRecDepth 20000 in
theorem mq115 : ip_M[(115 : Nat)]? = some (9, yX9_top, cX9_top, 2, (some .long)) := rfl
set_option maxRecDepth 20000 in
theorem mq116 : ip_M[(116 : Nat)]? = some (9, yX9_begins, cX9_begins, 8, none) := rfl
set_option maxRecDepth 20000 in
theorem mq117 : ip_M[(117 : Nat)]? = some (9, yX9_walk, cX9_walk, 8, none) := rfl
set_option maxRecDepth 20000 in
theorem mq118 : ip_M[(118 : Nat)]? = some (9, yX9_call, cX9_call, 7, (some .int)) := rfl
set_option maxRecDepth 20000 in
theorem mq119 : ip_M[(119 : Nat)]? = some (9, yX9_drop, cX9_drop, 2, (some .int)) := rfl
set_option maxRecDepth 20000 in
theorem mq120 : ip_M[(120 : Nat)]? = some (9, yX9_trace, cX9_trace, 3, (some .int)) := rfl
set_option maxRecDepth 20000 in
theorem mq121 : ip_M[(121 : Nat)]? = some (9, yX9_result, cX9_result, 2, (some .long)) := rfl
set_option maxRecDepth 20000 in
theorem mq122 : ip_M[(122 : Nat)]? = some (9, yX9_isStep, cX9_isStep, 3, (some .boolean)) := rfl
set_option maxRecDepth 20000 in
theorem mq123 : ip_M[(123 : Nat)]? = some (9, yX9_step, cX9_step, 4, (some .int)) := rfl
set_option maxRecDepth 20000 in
theorem mq124 : ip_M[(124 : Nat)]? = some (9, yX9_value, cX9_value, 3, (some .long)) := rfl
set_option maxRecDepth 20000 in
theorem mq125 : ip_M[(125 : Nat)]? = some (9, yX9_search, cX9_search, 5, (some .int)) := rfl
set_option maxRecDepth 20000 in
theorem mq126 : ip_M[(126 : Nat)]? = some (9, yX9_flame, cX9_flame, 10, (some .int)) := rfl
set_option maxRecDepth 20000 in
theorem mq127 : ip_M[(127 : Nat)]? = some (9, yX9_touch, cX9_touch, 4, (some .int)) := rfl
set_option maxRecDepth 20000 in
theorem mq128 : ip_M[(128 : Nat)]? = some (9, yX9_flow, cX9_flow, 4, (some .long)) := rfl
set_option maxRecDepth 20000 in
theorem mq129 : ip_M[(129 : Nat)]? = some (9, yX9_tell, cX9_tell, 7, (some .long)) := rfl
set_option maxRecDepth 20000 in
theorem mq130 : ip_M[(130 : Nat)]? = some (9, yX9_told, cX9_told, 3, (some .long)) := rfl
set_option maxRecDepth 20000 in
theorem mq131 : ip_M[(131 : Nat)]? = some (9, yX9_mixed, cX9_mixed, 6, (some .long)) := rfl
set_option maxRecDepth 20000 in
theorem mq132 : ip_M[(132 : Nat)]? = some (9, yX9_state, cX9_state, 5, (some .long)) := rfl
set_option maxRecDepth 20000 in
theorem mq133 : ip_M[(133 : Nat)]? = some (9, yX9_back, cX9_back, 6, (some .long)) := rfl
set_option maxRecDepth 20000 in
theorem mq134 : ip_M[(134 : Nat)]? = some (9, yX9_isUnlike, cX9_isUnlike, 6, (some .boolean)) := rfl
set_option maxRecDepth 20000 in
theorem mq135 : ip_M[(135 : Nat)]? = some (9, yX9_lesser, cX9_lesser, 3, (some .int)) := rfl
set_option maxRecDepth 20000 in
theorem mq136 : ip_M[(136 : Nat)]? = some (9, yX9_compare, cX9_compare, 5, (some .int)) := rfl
set_option maxRecDepth 20000 in
theorem mq137 : ip_M[(137 : Nat)]? = some (9, yX9_digestOf, cX9_digestOf, 7, (some .long)) := rfl
set_option maxRecDepth 20000 in
theorem mq138 : ip_M[(138 : Nat)]? = some (9, yX9_halves, cX9_halves, 8, (some .int)) := rfl
set_option maxRecDepth 20000 in
theorem mq139 : ip_M[(139 : Nat)]? = some (9, yX9_put, cX9_put, 2, none) := rfl
set_option maxRecDepth 20000 in
theorem mq140 : ip_M[(140 : Nat)]? = some (9, yX9_putNumber, cX9_putNumber, 7, none) := rfl
set_option maxRecDepth 20000 in
theorem mq141 : ip_M[(141 : Nat)]? = some (9, yX9_write, cX9_write, 4, (some .int)) := rfl
set_option maxRecDepth 20000 in
theorem mq142 : ip_M[(142 : Nat)]? = some (9, yX9_out, cX9_out, 2, (some .int)) := rfl
set_option maxRecDepth 20000 in
theorem mq143 : ip_M[(143 : Nat)]? = some (9, yX9_count, cX9_count, 2, (some .int)) := rfl
set_option maxRecDepth 20000 in
theorem mq144 : ip_M[(144 : Nat)]? = some (12, yJ7_fill_d0a16, cJ7_fill_d0a16, 5, none) := rfl
set_option maxRecDepth 20000 in
theorem mq145 : ip_M[(145 : Nat)]? = some (12, yJ7_fill_53178, cJ7_fill_53178, 4, none) := rfl
set_option maxRecDepth 20000 in
theorem mq146 : ip_M[(146 : Nat)]? = some (10, yL_law, cL_law, 4, (some .boolean)) := rfl
