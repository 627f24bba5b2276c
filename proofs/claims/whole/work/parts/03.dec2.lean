theorem dX9_push_1 : decode cX9_push 1 = .ok (.getfield 135, 3) := by decide +kernel
theorem dX9_push_4 : decode cX9_push 4 = .ok (.iload_n 1, 1) := by decide +kernel
theorem dX9_push_5 : decode cX9_push 5 = .ok (.iaload, 1) := by decide +kernel
theorem dX9_push_6 : decode cX9_push 6 = .ok (.bipush 12, 2) := by decide +kernel
theorem dX9_push_8 : decode cX9_push 8 = .ok (.if_icmp .ne 11, 3) := by decide +kernel
theorem dX9_push_11 : decode cX9_push 11 = .ok (.aload_n 0, 1) := by decide +kernel
theorem dX9_push_12 : decode cX9_push 12 = .ok (.iconst 2, 1) := by decide +kernel
theorem dX9_push_13 : decode cX9_push 13 = .ok (.putfield 216, 3) := by decide +kernel
theorem dX9_push_16 : decode cX9_push 16 = .ok (.goto 30, 3) := by decide +kernel
theorem dX9_push_19 : decode cX9_push 19 = .ok (.aload_n 0, 1) := by decide +kernel
theorem dX9_push_20 : decode cX9_push 20 = .ok (.getfield 138, 3) := by decide +kernel
theorem dX9_push_23 : decode cX9_push 23 = .ok (.bipush 12, 2) := by decide +kernel
theorem dX9_push_25 : decode cX9_push 25 = .ok (.iload_n 1, 1) := by decide +kernel
theorem dX9_push_26 : decode cX9_push 26 = .ok (.imul, 1) := by decide +kernel
theorem dX9_push_27 : decode cX9_push 27 = .ok (.aload_n 0, 1) := by decide +kernel
theorem dX9_push_28 : decode cX9_push 28 = .ok (.getfield 135, 3) := by decide +kernel
theorem dX9_push_31 : decode cX9_push 31 = .ok (.iload_n 1, 1) := by decide +kernel
theorem dX9_push_32 : decode cX9_push 32 = .ok (.iaload, 1) := by decide +kernel
theorem dX9_push_33 : decode cX9_push 33 = .ok (.iadd, 1) := by decide +kernel
theorem dX9_push_34 : decode cX9_push 34 = .ok (.lload_n 2, 1) := by decide +kernel
theorem dX9_push_35 : decode cX9_push 35 = .ok (.lastore, 1) := by decide +kernel
theorem dX9_push_36 : decode cX9_push 36 = .ok (.aload_n 0, 1) := by decide +kernel
theorem dX9_push_37 : decode cX9_push 37 = .ok (.getfield 135, 3) := by decide +kernel
theorem dX9_push_40 : decode cX9_push 40 = .ok (.iload_n 1, 1) := by decide +kernel
theorem dX9_push_41 : decode cX9_push 41 = .ok (.dup2, 1) := by decide +kernel
theorem dX9_push_42 : decode cX9_push 42 = .ok (.iaload, 1) := by decide +kernel
theorem dX9_push_43 : decode cX9_push 43 = .ok (.iconst 1, 1) := by decide +kernel
theorem dX9_push_44 : decode cX9_push 44 = .ok (.iadd, 1) := by decide +kernel
theorem dX9_push_45 : decode cX9_push 45 = .ok (.iastore, 1) := by decide +kernel
theorem dX9_push_46 : decode cX9_push 46 = .ok (.return_, 1) := by decide +kernel
theorem dX9_pop_0 : decode cX9_pop 0 = .ok (.aload_n 0, 1) := by decide +kernel
theorem dX9_pop_1 : decode cX9_pop 1 = .ok (.getfield 216, 3) := by decide +kernel
theorem dX9_pop_4 : decode cX9_pop 4 = .ok (.ifCond .gt 12, 3) := by decide +kernel
theorem dX9_pop_7 : decode cX9_pop 7 = .ok (.aload_n 0, 1) := by decide +kernel
theorem dX9_pop_8 : decode cX9_pop 8 = .ok (.getfield 135, 3) := by decide +kernel
theorem dX9_pop_11 : decode cX9_pop 11 = .ok (.iload_n 1, 1) := by decide +kernel
theorem dX9_pop_12 : decode cX9_pop 12 = .ok (.iaload, 1) := by decide +kernel
theorem dX9_pop_13 : decode cX9_pop 13 = .ok (.ifCond .ne 10, 3) := by decide +kernel
theorem dX9_pop_16 : decode cX9_pop 16 = .ok (.aload_n 0, 1) := by decide +kernel
theorem dX9_pop_17 : decode cX9_pop 17 = .ok (.iconst 2, 1) := by decide +kernel
theorem dX9_pop_18 : decode cX9_pop 18 = .ok (.putfield 216, 3) := by decide +kernel
theorem dX9_pop_21 : decode cX9_pop 21 = .ok (.lconst 0, 1) := by decide +kernel
theorem dX9_pop_22 : decode cX9_pop 22 = .ok (.lreturn, 1) := by decide +kernel
theorem dX9_pop_23 : decode cX9_pop 23 = .ok (.aload_n 0, 1) := by decide +kernel
theorem dX9_pop_24 : decode cX9_pop 24 = .ok (.getfield 135, 3) := by decide +kernel
theorem dX9_pop_27 : decode cX9_pop 27 = .ok (.iload_n 1, 1) := by decide +kernel
theorem dX9_pop_28 : decode cX9_pop 28 = .ok (.dup2, 1) := by decide +kernel
theorem dX9_pop_29 : decode cX9_pop 29 = .ok (.iaload, 1) := by decide +kernel
theorem dX9_pop_30 : decode cX9_pop 30 = .ok (.iconst 1, 1) := by decide +kernel
theorem dX9_pop_31 : decode cX9_pop 31 = .ok (.isub, 1) := by decide +kernel
theorem dX9_pop_32 : decode cX9_pop 32 = .ok (.iastore, 1) := by decide +kernel
theorem dX9_pop_33 : decode cX9_pop 33 = .ok (.aload_n 0, 1) := by decide +kernel
theorem dX9_pop_34 : decode cX9_pop 34 = .ok (.getfield 138, 3) := by decide +kernel
theorem dX9_pop_37 : decode cX9_pop 37 = .ok (.bipush 12, 2) := by decide +kernel
theorem dX9_pop_39 : decode cX9_pop 39 = .ok (.iload_n 1, 1) := by decide +kernel
theorem dX9_pop_40 : decode cX9_pop 40 = .ok (.imul, 1) := by decide +kernel
theorem dX9_pop_41 : decode cX9_pop 41 = .ok (.aload_n 0, 1) := by decide +kernel
theorem dX9_pop_42 : decode cX9_pop 42 = .ok (.getfield 135, 3) := by decide +kernel
theorem dX9_pop_45 : decode cX9_pop 45 = .ok (.iload_n 1, 1) := by decide +kernel
theorem dX9_pop_46 : decode cX9_pop 46 = .ok (.iaload, 1) := by decide +kernel
theorem dX9_pop_47 : decode cX9_pop 47 = .ok (.iadd, 1) := by decide +kernel
theorem dX9_pop_48 : decode cX9_pop 48 = .ok (.laload, 1) := by decide +kernel
theorem dX9_pop_49 : decode cX9_pop 49 = .ok (.lreturn, 1) := by decide +kernel
theorem dX9_leaves_0 : decode cX9_leaves 0 = .ok (.aload_n 0, 1) := by decide +kernel
theorem dX9_leaves_1 : decode cX9_leaves 1 = .ok (.dup, 1) := by decide +kernel
theorem dX9_leaves_2 : decode cX9_leaves 2 = .ok (.getfield 200, 3) := by decide +kernel
theorem dX9_leaves_5 : decode cX9_leaves 5 = .ok (.iconst 1, 1) := by decide +kernel
theorem dX9_leaves_6 : decode cX9_leaves 6 = .ok (.isub, 1) := by decide +kernel
theorem dX9_leaves_7 : decode cX9_leaves 7 = .ok (.putfield 200, 3) := by decide +kernel
theorem dX9_leaves_10 : decode cX9_leaves 10 = .ok (.aload_n 0, 1) := by decide +kernel
theorem dX9_leaves_11 : decode cX9_leaves 11 = .ok (.getfield 200, 3) := by decide +kernel
theorem dX9_leaves_14 : decode cX9_leaves 14 = .ok (.ifCond .ne 11, 3) := by decide +kernel
theorem dX9_leaves_17 : decode cX9_leaves 17 = .ok (.aload_n 0, 1) := by decide +kernel
theorem dX9_leaves_18 : decode cX9_leaves 18 = .ok (.lload_n 1, 1) := by decide +kernel
theorem dX9_leaves_19 : decode cX9_leaves 19 = .ok (.putfield 219, 3) := by decide +kernel
theorem dX9_leaves_22 : decode cX9_leaves 22 = .ok (.goto 14, 3) := by decide +kernel
theorem dX9_leaves_25 : decode cX9_leaves 25 = .ok (.aload_n 0, 1) := by decide +kernel
theorem dX9_leaves_26 : decode cX9_leaves 26 = .ok (.aload_n 0, 1) := by decide +kernel
theorem dX9_leaves_27 : decode cX9_leaves 27 = .ok (.getfield 200, 3) := by decide +kernel
theorem dX9_leaves_30 : decode cX9_leaves 30 = .ok (.iconst 1, 1) := by decide +kernel
theorem dX9_leaves_31 : decode cX9_leaves 31 = .ok (.isub, 1) := by decide +kernel
theorem dX9_leaves_32 : decode cX9_leaves 32 = .ok (.lload_n 1, 1) := by decide +kernel
theorem dX9_leaves_33 : decode cX9_leaves 33 = .ok (.invokevirtual 223, 3) := by decide +kernel
theorem dX9_leaves_36 : decode cX9_leaves 36 = .ok (.return_, 1) := by decide +kernel
theorem dX9_fails_0 : decode cX9_fails 0 = .ok (.aload_n 0, 1) := by decide +kernel
theorem dX9_fails_1 : decode cX9_fails 1 = .ok (.dup, 1) := by decide +kernel
theorem dX9_fails_2 : decode cX9_fails 2 = .ok (.getfield 200, 3) := by decide +kernel
theorem dX9_fails_5 : decode cX9_fails 5 = .ok (.iconst 1, 1) := by decide +kernel
theorem dX9_fails_6 : decode cX9_fails 6 = .ok (.isub, 1) := by decide +kernel
theorem dX9_fails_7 : decode cX9_fails 7 = .ok (.putfield 200, 3) := by decide +kernel
theorem dX9_fails_10 : decode cX9_fails 10 = .ok (.aload_n 0, 1) := by decide +kernel
theorem dX9_fails_11 : decode cX9_fails 11 = .ok (.getfield 200, 3) := by decide +kernel
theorem dX9_fails_14 : decode cX9_fails 14 = .ok (.ifCond .le 60, 3) := by decide +kernel
theorem dX9_fails_17 : decode cX9_fails 17 = .ok (.aload_n 0, 1) := by decide +kernel
theorem dX9_fails_18 : decode cX9_fails 18 = .ok (.getfield 131, 3) := by decide +kernel
theorem dX9_fails_21 : decode cX9_fails 21 = .ok (.aload_n 0, 1) := by decide +kernel
theorem dX9_fails_22 : decode cX9_fails 22 = .ok (.getfield 200, 3) := by decide +kernel
theorem dX9_fails_25 : decode cX9_fails 25 = .ok (.baload, 1) := by decide +kernel
theorem dX9_fails_26 : decode cX9_fails 26 = .ok (.ifCond .eq 48, 3) := by decide +kernel
theorem dX9_fails_29 : decode cX9_fails 29 = .ok (.aload_n 0, 1) := by decide +kernel
theorem dX9_fails_30 : decode cX9_fails 30 = .ok (.getfield 216, 3) := by decide +kernel
theorem dX9_fails_33 : decode cX9_fails 33 = .ok (.bipush 6, 2) := by decide +kernel
theorem dX9_fails_35 : decode cX9_fails 35 = .ok (.if_icmp .eq 39, 3) := by decide +kernel
theorem dX9_fails_38 : decode cX9_fails 38 = .ok (.aload_n 0, 1) := by decide +kernel
theorem dX9_fails_39 : decode cX9_fails 39 = .ok (.getfield 216, 3) := by decide +kernel
theorem dX9_fails_42 : decode cX9_fails 42 = .ok (.istore_n 1, 1) := by decide +kernel
theorem dX9_fails_43 : decode cX9_fails 43 = .ok (.aload_n 0, 1) := by decide +kernel
theorem dX9_fails_44 : decode cX9_fails 44 = .ok (.aload_n 0, 1) := by decide +kernel
theorem dX9_fails_45 : decode cX9_fails 45 = .ok (.getfield 200, 3) := by decide +kernel
theorem dX9_fails_48 : decode cX9_fails 48 = .ok (.invokevirtual 227, 3) := by decide +kernel
theorem dX9_fails_51 : decode cX9_fails 51 = .ok (.aload_n 0, 1) := by decide +kernel
theorem dX9_fails_52 : decode cX9_fails 52 = .ok (.iconst 0, 1) := by decide +kernel
theorem dX9_fails_53 : decode cX9_fails 53 = .ok (.putfield 216, 3) := by decide +kernel
theorem dX9_fails_56 : decode cX9_fails 56 = .ok (.aload_n 0, 1) := by decide +kernel
theorem dX9_fails_57 : decode cX9_fails 57 = .ok (.lconst 0, 1) := by decide +kernel
theorem dX9_fails_58 : decode cX9_fails 58 = .ok (.putfield 231, 3) := by decide +kernel
theorem dX9_fails_61 : decode cX9_fails 61 = .ok (.aload_n 0, 1) := by decide +kernel
theorem dX9_fails_62 : decode cX9_fails 62 = .ok (.aload_n 0, 1) := by decide +kernel
theorem dX9_fails_63 : decode cX9_fails 63 = .ok (.getfield 200, 3) := by decide +kernel
theorem dX9_fails_66 : decode cX9_fails 66 = .ok (.iconst 1, 1) := by decide +kernel
theorem dX9_fails_67 : decode cX9_fails 67 = .ok (.isub, 1) := by decide +kernel
theorem dX9_fails_68 : decode cX9_fails 68 = .ok (.iload_n 1, 1) := by decide +kernel
theorem dX9_fails_69 : decode cX9_fails 69 = .ok (.ineg, 1) := by decide +kernel
theorem dX9_fails_70 : decode cX9_fails 70 = .ok (.i2l, 1) := by decide +kernel
theorem dX9_fails_71 : decode cX9_fails 71 = .ok (.invokevirtual 223, 3) := by decide +kernel
theorem dX9_fails_74 : decode cX9_fails 74 = .ok (.return_, 1) := by decide +kernel
theorem dX9_marks_0 : decode cX9_marks 0 = .ok (.aload_n 0, 1) := by decide +kernel
theorem dX9_marks_1 : decode cX9_marks 1 = .ok (.getfield 206, 3) := by decide +kernel
theorem dX9_marks_4 : decode cX9_marks 4 = .ok (.ifCond .ne 4, 3) := by decide +kernel
theorem dX9_marks_7 : decode cX9_marks 7 = .ok (.return_, 1) := by decide +kernel
theorem dX9_marks_8 : decode cX9_marks 8 = .ok (.iconst 0, 1) := by decide +kernel
theorem dX9_marks_9 : decode cX9_marks 9 = .ok (.istore 4, 2) := by decide +kernel
theorem dX9_marks_11 : decode cX9_marks 11 = .ok (.iload 4, 2) := by decide +kernel
theorem dX9_marks_13 : decode cX9_marks 13 = .ok (.aload_n 0, 1) := by decide +kernel
theorem dX9_marks_14 : decode cX9_marks 14 = .ok (.getfield 89, 3) := by decide +kernel
theorem dX9_marks_17 : decode cX9_marks 17 = .ok (.aload_n 0, 1) := by decide +kernel
theorem dX9_marks_18 : decode cX9_marks 18 = .ok (.getfield 210, 3) := by decide +kernel
theorem dX9_marks_21 : decode cX9_marks 21 = .ok (.iaload, 1) := by decide +kernel
theorem dX9_marks_22 : decode cX9_marks 22 = .ok (.if_icmp .ge 53, 3) := by decide +kernel
theorem dX9_marks_25 : decode cX9_marks 25 = .ok (.aload_n 0, 1) := by decide +kernel
theorem dX9_marks_26 : decode cX9_marks 26 = .ok (.getfield 92, 3) := by decide +kernel
theorem dX9_marks_29 : decode cX9_marks 29 = .ok (.iconst 4, 1) := by decide +kernel
theorem dX9_marks_30 : decode cX9_marks 30 = .ok (.bipush 48, 2) := by decide +kernel
theorem dX9_marks_32 : decode cX9_marks 32 = .ok (.aload_n 0, 1) := by decide +kernel
theorem dX9_marks_33 : decode cX9_marks 33 = .ok (.getfield 210, 3) := by decide +kernel
theorem dX9_marks_36 : decode cX9_marks 36 = .ok (.imul, 1) := by decide +kernel
theorem dX9_marks_37 : decode cX9_marks 37 = .ok (.iload 4, 2) := by decide +kernel
theorem dX9_marks_39 : decode cX9_marks 39 = .ok (.iadd, 1) := by decide +kernel
theorem dX9_marks_40 : decode cX9_marks 40 = .ok (.imul, 1) := by decide +kernel
theorem dX9_marks_41 : decode cX9_marks 41 = .ok (.iaload, 1) := by decide +kernel
theorem dX9_marks_42 : decode cX9_marks 42 = .ok (.iload_n 1, 1) := by decide +kernel
theorem dX9_marks_43 : decode cX9_marks 43 = .ok (.if_icmp .ne 26, 3) := by decide +kernel
theorem dX9_marks_46 : decode cX9_marks 46 = .ok (.aload_n 0, 1) := by decide +kernel
theorem dX9_marks_47 : decode cX9_marks 47 = .ok (.getfield 92, 3) := by decide +kernel
theorem dX9_marks_50 : decode cX9_marks 50 = .ok (.iconst 4, 1) := by decide +kernel
theorem dX9_marks_51 : decode cX9_marks 51 = .ok (.bipush 48, 2) := by decide +kernel
theorem dX9_marks_53 : decode cX9_marks 53 = .ok (.aload_n 0, 1) := by decide +kernel
theorem dX9_marks_54 : decode cX9_marks 54 = .ok (.getfield 210, 3) := by decide +kernel
theorem dX9_marks_57 : decode cX9_marks 57 = .ok (.imul, 1) := by decide +kernel
theorem dX9_marks_58 : decode cX9_marks 58 = .ok (.iload 4, 2) := by decide +kernel
theorem dX9_marks_60 : decode cX9_marks 60 = .ok (.iadd, 1) := by decide +kernel
theorem dX9_marks_61 : decode cX9_marks 61 = .ok (.imul, 1) := by decide +kernel
theorem dX9_marks_62 : decode cX9_marks 62 = .ok (.iconst 1, 1) := by decide +kernel
theorem dX9_marks_63 : decode cX9_marks 63 = .ok (.iadd, 1) := by decide +kernel
theorem dX9_marks_64 : decode cX9_marks 64 = .ok (.iaload, 1) := by decide +kernel
theorem dX9_marks_65 : decode cX9_marks 65 = .ok (.iload_n 2, 1) := by decide +kernel
theorem dX9_marks_66 : decode cX9_marks 66 = .ok (.if_icmp .eq 9, 3) := by decide +kernel
theorem dX9_marks_69 : decode cX9_marks 69 = .ok (.iinc 4 1, 3) := by decide +kernel
theorem dX9_marks_72 : decode cX9_marks 72 = .ok (.goto (-61), 3) := by decide +kernel
theorem dX9_marks_75 : decode cX9_marks 75 = .ok (.iconst 4, 1) := by decide +kernel
theorem dX9_marks_76 : decode cX9_marks 76 = .ok (.bipush 48, 2) := by decide +kernel
theorem dX9_marks_78 : decode cX9_marks 78 = .ok (.aload_n 0, 1) := by decide +kernel
theorem dX9_marks_79 : decode cX9_marks 79 = .ok (.getfield 210, 3) := by decide +kernel
theorem dX9_marks_82 : decode cX9_marks 82 = .ok (.imul, 1) := by decide +kernel
theorem dX9_marks_83 : decode cX9_marks 83 = .ok (.iload 4, 2) := by decide +kernel
theorem dX9_marks_85 : decode cX9_marks 85 = .ok (.iadd, 1) := by decide +kernel
theorem dX9_marks_86 : decode cX9_marks 86 = .ok (.imul, 1) := by decide +kernel
theorem dX9_marks_87 : decode cX9_marks 87 = .ok (.istore 5, 2) := by decide +kernel
theorem dX9_marks_89 : decode cX9_marks 89 = .ok (.iload 4, 2) := by decide +kernel
theorem dX9_marks_91 : decode cX9_marks 91 = .ok (.aload_n 0, 1) := by decide +kernel
theorem dX9_marks_92 : decode cX9_marks 92 = .ok (.getfield 89, 3) := by decide +kernel
theorem dX9_marks_95 : decode cX9_marks 95 = .ok (.aload_n 0, 1) := by decide +kernel
theorem dX9_marks_96 : decode cX9_marks 96 = .ok (.getfield 210, 3) := by decide +kernel
theorem dX9_marks_99 : decode cX9_marks 99 = .ok (.iaload, 1) := by decide +kernel
theorem dX9_marks_100 : decode cX9_marks 100 = .ok (.if_icmp .ne 54, 3) := by decide +kernel
theorem dX9_marks_103 : decode cX9_marks 103 = .ok (.aload_n 0, 1) := by decide +kernel
theorem dX9_marks_104 : decode cX9_marks 104 = .ok (.getfield 92, 3) := by decide +kernel
theorem dX9_marks_107 : decode cX9_marks 107 = .ok (.iload 5, 2) := by decide +kernel
theorem dX9_marks_109 : decode cX9_marks 109 = .ok (.iload_n 1, 1) := by decide +kernel
theorem dX9_marks_110 : decode cX9_marks 110 = .ok (.iastore, 1) := by decide +kernel
theorem dX9_marks_111 : decode cX9_marks 111 = .ok (.aload_n 0, 1) := by decide +kernel
theorem dX9_marks_112 : decode cX9_marks 112 = .ok (.getfield 92, 3) := by decide +kernel
theorem dX9_marks_115 : decode cX9_marks 115 = .ok (.iload 5, 2) := by decide +kernel
theorem dX9_marks_117 : decode cX9_marks 117 = .ok (.iconst 1, 1) := by decide +kernel
theorem dX9_marks_118 : decode cX9_marks 118 = .ok (.iadd, 1) := by decide +kernel
theorem dX9_marks_119 : decode cX9_marks 119 = .ok (.iload_n 2, 1) := by decide +kernel
theorem dX9_marks_120 : decode cX9_marks 120 = .ok (.iastore, 1) := by decide +kernel
theorem dX9_marks_121 : decode cX9_marks 121 = .ok (.aload_n 0, 1) := by decide +kernel
theorem dX9_marks_122 : decode cX9_marks 122 = .ok (.getfield 92, 3) := by decide +kernel
theorem dX9_marks_125 : decode cX9_marks 125 = .ok (.iload 5, 2) := by decide +kernel
theorem dX9_marks_127 : decode cX9_marks 127 = .ok (.iconst 2, 1) := by decide +kernel
theorem dX9_marks_128 : decode cX9_marks 128 = .ok (.iadd, 1) := by decide +kernel
theorem dX9_marks_129 : decode cX9_marks 129 = .ok (.iconst 0, 1) := by decide +kernel
theorem dX9_marks_130 : decode cX9_marks 130 = .ok (.iastore, 1) := by decide +kernel
theorem dX9_marks_131 : decode cX9_marks 131 = .ok (.aload_n 0, 1) := by decide +kernel
theorem dX9_marks_132 : decode cX9_marks 132 = .ok (.getfield 92, 3) := by decide +kernel
theorem dX9_marks_135 : decode cX9_marks 135 = .ok (.iload 5, 2) := by decide +kernel
theorem dX9_marks_137 : decode cX9_marks 137 = .ok (.iconst 3, 1) := by decide +kernel
theorem dX9_marks_138 : decode cX9_marks 138 = .ok (.iadd, 1) := by decide +kernel
theorem dX9_marks_139 : decode cX9_marks 139 = .ok (.iconst 0, 1) := by decide +kernel
theorem dX9_marks_140 : decode cX9_marks 140 = .ok (.iastore, 1) := by decide +kernel
theorem dX9_marks_141 : decode cX9_marks 141 = .ok (.aload_n 0, 1) := by decide +kernel
theorem dX9_marks_142 : decode cX9_marks 142 = .ok (.getfield 89, 3) := by decide +kernel
theorem dX9_marks_145 : decode cX9_marks 145 = .ok (.aload_n 0, 1) := by decide +kernel
theorem dX9_marks_146 : decode cX9_marks 146 = .ok (.getfield 210, 3) := by decide +kernel
theorem dX9_marks_149 : decode cX9_marks 149 = .ok (.dup2, 1) := by decide +kernel
theorem dX9_marks_150 : decode cX9_marks 150 = .ok (.iaload, 1) := by decide +kernel
theorem dX9_marks_151 : decode cX9_marks 151 = .ok (.iconst 1, 1) := by decide +kernel
theorem dX9_marks_152 : decode cX9_marks 152 = .ok (.iadd, 1) := by decide +kernel
theorem dX9_marks_153 : decode cX9_marks 153 = .ok (.iastore, 1) := by decide +kernel
theorem dX9_marks_154 : decode cX9_marks 154 = .ok (.aload_n 0, 1) := by decide +kernel
theorem dX9_marks_155 : decode cX9_marks 155 = .ok (.getfield 92, 3) := by decide +kernel
theorem dX9_marks_158 : decode cX9_marks 158 = .ok (.iload 5, 2) := by decide +kernel
theorem dX9_marks_160 : decode cX9_marks 160 = .ok (.iload_n 3, 1) := by decide +kernel
theorem dX9_marks_161 : decode cX9_marks 161 = .ok (.iadd, 1) := by decide +kernel
theorem dX9_marks_162 : decode cX9_marks 162 = .ok (.dup2, 1) := by decide +kernel
theorem dX9_marks_163 : decode cX9_marks 163 = .ok (.iaload, 1) := by decide +kernel
theorem dX9_marks_164 : decode cX9_marks 164 = .ok (.iconst 1, 1) := by decide +kernel
theorem dX9_marks_165 : decode cX9_marks 165 = .ok (.iadd, 1) := by decide +kernel
theorem dX9_marks_166 : decode cX9_marks 166 = .ok (.iastore, 1) := by decide +kernel
theorem dX9_marks_167 : decode cX9_marks 167 = .ok (.return_, 1) := by decide +kernel
theorem dX9_maths_0 : decode cX9_maths 0 = .ok (.aload_n 0, 1) := by decide +kernel
theorem dX9_maths_1 : decode cX9_maths 1 = .ok (.iload_n 1, 1) := by decide +kernel
theorem dX9_maths_2 : decode cX9_maths 2 = .ok (.invokevirtual 234, 3) := by decide +kernel
theorem dX9_maths_5 : decode cX9_maths 5 = .ok (.lstore 4, 2) := by decide +kernel
theorem dX9_maths_7 : decode cX9_maths 7 = .ok (.aload_n 0, 1) := by decide +kernel
theorem dX9_maths_8 : decode cX9_maths 8 = .ok (.iload_n 1, 1) := by decide +kernel
theorem dX9_maths_9 : decode cX9_maths 9 = .ok (.invokevirtual 234, 3) := by decide +kernel
theorem dX9_maths_12 : decode cX9_maths 12 = .ok (.lstore 6, 2) := by decide +kernel
theorem dX9_maths_14 : decode cX9_maths 14 = .ok (.aload_n 0, 1) := by decide +kernel
theorem dX9_maths_15 : decode cX9_maths 15 = .ok (.getfield 216, 3) := by decide +kernel
theorem dX9_maths_18 : decode cX9_maths 18 = .ok (.ifCond .le 4, 3) := by decide +kernel
theorem dX9_maths_21 : decode cX9_maths 21 = .ok (.return_, 1) := by decide +kernel
theorem dX9_maths_22 : decode cX9_maths 22 = .ok (.lload_n 2, 1) := by decide +kernel
theorem dX9_maths_23 : decode cX9_maths 23 = .ok (.lconst 0, 1) := by decide +kernel
theorem dX9_maths_24 : decode cX9_maths 24 = .ok (.ldc2_w 238, 3) := by decide +kernel
theorem dX9_maths_27 : decode cX9_maths 27 = .ok (.invokestatic 172, 3) := by decide +kernel
theorem dX9_maths_30 : decode cX9_maths 30 = .ok (.ifCond .ne 11, 3) := by decide +kernel
theorem dX9_maths_33 : decode cX9_maths 33 = .ok (.aload_n 0, 1) := by decide +kernel
theorem dX9_maths_34 : decode cX9_maths 34 = .ok (.iconst 2, 1) := by decide +kernel
theorem dX9_maths_35 : decode cX9_maths 35 = .ok (.putfield 216, 3) := by decide +kernel
theorem dX9_maths_38 : decode cX9_maths 38 = .ok (.goto 96, 3) := by decide +kernel
theorem dX9_maths_41 : decode cX9_maths 41 = .ok (.lload_n 2, 1) := by decide +kernel
theorem dX9_maths_42 : decode cX9_maths 42 = .ok (.ldc2_w 240, 3) := by decide +kernel
theorem dX9_maths_45 : decode cX9_maths 45 = .ok (.lcmp, 1) := by decide +kernel
theorem dX9_maths_46 : decode cX9_maths 46 = .ok (.ifCond .le 18, 3) := by decide +kernel
theorem dX9_maths_49 : decode cX9_maths 49 = .ok (.lload 4, 2) := by decide +kernel
theorem dX9_maths_51 : decode cX9_maths 51 = .ok (.lconst 0, 1) := by decide +kernel
theorem dX9_maths_52 : decode cX9_maths 52 = .ok (.lcmp, 1) := by decide +kernel
theorem dX9_maths_53 : decode cX9_maths 53 = .ok (.ifCond .ne 11, 3) := by decide +kernel
theorem dX9_maths_56 : decode cX9_maths 56 = .ok (.aload_n 0, 1) := by decide +kernel
theorem dX9_maths_57 : decode cX9_maths 57 = .ok (.iconst 3, 1) := by decide +kernel
theorem dX9_maths_58 : decode cX9_maths 58 = .ok (.putfield 216, 3) := by decide +kernel
theorem dX9_maths_61 : decode cX9_maths 61 = .ok (.goto 73, 3) := by decide +kernel
theorem dX9_maths_64 : decode cX9_maths 64 = .ok (.aload_n 0, 1) := by decide +kernel
theorem dX9_maths_65 : decode cX9_maths 65 = .ok (.iload_n 1, 1) := by decide +kernel
theorem dX9_maths_66 : decode cX9_maths 66 = .ok (.lload_n 2, 1) := by decide +kernel
theorem dX9_maths_67 : decode cX9_maths 67 = .ok (.lconst 0, 1) := by decide +kernel
theorem dX9_maths_68 : decode cX9_maths 68 = .ok (.lcmp, 1) := by decide +kernel
theorem dX9_maths_69 : decode cX9_maths 69 = .ok (.ifCond .ne 11, 3) := by decide +kernel
theorem dX9_maths_72 : decode cX9_maths 72 = .ok (.lload 6, 2) := by decide +kernel
theorem dX9_maths_74 : decode cX9_maths 74 = .ok (.lload 4, 2) := by decide +kernel
theorem dX9_maths_76 : decode cX9_maths 76 = .ok (.ladd, 1) := by decide +kernel
theorem dX9_maths_77 : decode cX9_maths 77 = .ok (.goto 54, 3) := by decide +kernel
theorem dX9_maths_80 : decode cX9_maths 80 = .ok (.lload_n 2, 1) := by decide +kernel
theorem dX9_maths_81 : decode cX9_maths 81 = .ok (.lconst 1, 1) := by decide +kernel
theorem dX9_maths_82 : decode cX9_maths 82 = .ok (.lcmp, 1) := by decide +kernel
theorem dX9_maths_83 : decode cX9_maths 83 = .ok (.ifCond .ne 11, 3) := by decide +kernel
theorem dX9_maths_86 : decode cX9_maths 86 = .ok (.lload 6, 2) := by decide +kernel
theorem dX9_maths_88 : decode cX9_maths 88 = .ok (.lload 4, 2) := by decide +kernel
theorem dX9_maths_90 : decode cX9_maths 90 = .ok (.lsub, 1) := by decide +kernel
theorem dX9_maths_91 : decode cX9_maths 91 = .ok (.goto 40, 3) := by decide +kernel
theorem dX9_maths_94 : decode cX9_maths 94 = .ok (.lload_n 2, 1) := by decide +kernel
theorem dX9_maths_95 : decode cX9_maths 95 = .ok (.ldc2_w 240, 3) := by decide +kernel
theorem dX9_maths_98 : decode cX9_maths 98 = .ok (.lcmp, 1) := by decide +kernel
theorem dX9_maths_99 : decode cX9_maths 99 = .ok (.ifCond .ne 11, 3) := by decide +kernel
theorem dX9_maths_102 : decode cX9_maths 102 = .ok (.lload 6, 2) := by decide +kernel
theorem dX9_maths_104 : decode cX9_maths 104 = .ok (.lload 4, 2) := by decide +kernel
theorem dX9_maths_106 : decode cX9_maths 106 = .ok (.lmul, 1) := by decide +kernel
theorem dX9_maths_107 : decode cX9_maths 107 = .ok (.goto 24, 3) := by decide +kernel
theorem dX9_maths_110 : decode cX9_maths 110 = .ok (.lload_n 2, 1) := by decide +kernel
theorem dX9_maths_111 : decode cX9_maths 111 = .ok (.ldc2_w 188, 3) := by decide +kernel
theorem dX9_maths_114 : decode cX9_maths 114 = .ok (.lcmp, 1) := by decide +kernel
theorem dX9_maths_115 : decode cX9_maths 115 = .ok (.ifCond .ne 11, 3) := by decide +kernel
theorem dX9_maths_118 : decode cX9_maths 118 = .ok (.lload 6, 2) := by decide +kernel
theorem dX9_maths_120 : decode cX9_maths 120 = .ok (.lload 4, 2) := by decide +kernel
theorem dX9_maths_122 : decode cX9_maths 122 = .ok (.ldiv, 1) := by decide +kernel
theorem dX9_maths_123 : decode cX9_maths 123 = .ok (.goto 8, 3) := by decide +kernel
theorem dX9_maths_126 : decode cX9_maths 126 = .ok (.lload 6, 2) := by decide +kernel
theorem dX9_maths_128 : decode cX9_maths 128 = .ok (.lload 4, 2) := by decide +kernel
theorem dX9_maths_130 : decode cX9_maths 130 = .ok (.lrem, 1) := by decide +kernel
theorem dX9_maths_131 : decode cX9_maths 131 = .ok (.invokevirtual 223, 3) := by decide +kernel
theorem dX9_maths_134 : decode cX9_maths 134 = .ok (.return_, 1) := by decide +kernel
theorem dX9_sends_0 : decode cX9_sends 0 = .ok (.aload_n 0, 1) := by decide +kernel
theorem dX9_sends_1 : decode cX9_sends 1 = .ok (.iload_n 1, 1) := by decide +kernel
theorem dX9_sends_2 : decode cX9_sends 2 = .ok (.invokevirtual 234, 3) := by decide +kernel
theorem dX9_sends_5 : decode cX9_sends 5 = .ok (.lstore 4, 2) := by decide +kernel
theorem dX9_sends_7 : decode cX9_sends 7 = .ok (.aload_n 0, 1) := by decide +kernel
theorem dX9_sends_8 : decode cX9_sends 8 = .ok (.getfield 216, 3) := by decide +kernel
theorem dX9_sends_11 : decode cX9_sends 11 = .ok (.ifCond .le 4, 3) := by decide +kernel
theorem dX9_sends_14 : decode cX9_sends 14 = .ok (.return_, 1) := by decide +kernel
theorem dX9_sends_15 : decode cX9_sends 15 = .ok (.aload_n 0, 1) := by decide +kernel
theorem dX9_sends_16 : decode cX9_sends 16 = .ok (.getfield 113, 3) := by decide +kernel
theorem dX9_sends_19 : decode cX9_sends 19 = .ok (.iload_n 1, 1) := by decide +kernel
theorem dX9_sends_20 : decode cX9_sends 20 = .ok (.iaload, 1) := by decide +kernel
theorem dX9_sends_21 : decode cX9_sends 21 = .ok (.istore 6, 2) := by decide +kernel
theorem dX9_sends_23 : decode cX9_sends 23 = .ok (.aload_n 0, 1) := by decide +kernel
theorem dX9_sends_24 : decode cX9_sends 24 = .ok (.lload_n 2, 1) := by decide +kernel
theorem dX9_sends_25 : decode cX9_sends 25 = .ok (.invokevirtual 184, 3) := by decide +kernel
theorem dX9_sends_28 : decode cX9_sends 28 = .ok (.ifCond .ne 11, 3) := by decide +kernel
theorem dX9_sends_31 : decode cX9_sends 31 = .ok (.aload_n 0, 1) := by decide +kernel
theorem dX9_sends_32 : decode cX9_sends 32 = .ok (.iconst 1, 1) := by decide +kernel
theorem dX9_sends_33 : decode cX9_sends 33 = .ok (.putfield 216, 3) := by decide +kernel
theorem dX9_sends_36 : decode cX9_sends 36 = .ok (.goto 106, 3) := by decide +kernel
theorem dX9_sends_39 : decode cX9_sends 39 = .ok (.lload 4, 2) := by decide +kernel
theorem dX9_sends_41 : decode cX9_sends 41 = .ok (.lconst 0, 1) := by decide +kernel
theorem dX9_sends_42 : decode cX9_sends 42 = .ok (.lcmp, 1) := by decide +kernel
theorem dX9_sends_43 : decode cX9_sends 43 = .ok (.ifCond .lt 16, 3) := by decide +kernel
theorem dX9_sends_46 : decode cX9_sends 46 = .ok (.lload 4, 2) := by decide +kernel
theorem dX9_sends_48 : decode cX9_sends 48 = .ok (.aload_n 0, 1) := by decide +kernel
theorem dX9_sends_49 : decode cX9_sends 49 = .ok (.getfield 32, 3) := by decide +kernel
theorem dX9_sends_52 : decode cX9_sends 52 = .ok (.iload 6, 2) := by decide +kernel
theorem dX9_sends_54 : decode cX9_sends 54 = .ok (.laload, 1) := by decide +kernel
theorem dX9_sends_55 : decode cX9_sends 55 = .ok (.lcmp, 1) := by decide +kernel
theorem dX9_sends_56 : decode cX9_sends 56 = .ok (.ifCond .le 11, 3) := by decide +kernel
theorem dX9_sends_59 : decode cX9_sends 59 = .ok (.aload_n 0, 1) := by decide +kernel
theorem dX9_sends_60 : decode cX9_sends 60 = .ok (.iconst 4, 1) := by decide +kernel
theorem dX9_sends_61 : decode cX9_sends 61 = .ok (.putfield 216, 3) := by decide +kernel
theorem dX9_sends_64 : decode cX9_sends 64 = .ok (.goto 78, 3) := by decide +kernel
theorem dX9_sends_67 : decode cX9_sends 67 = .ok (.lload_n 2, 1) := by decide +kernel
theorem dX9_sends_68 : decode cX9_sends 68 = .ok (.l2i, 1) := by decide +kernel
theorem dX9_sends_69 : decode cX9_sends 69 = .ok (.istore 7, 2) := by decide +kernel
theorem dX9_sends_71 : decode cX9_sends 71 = .ok (.aload_n 0, 1) := by decide +kernel
theorem dX9_sends_72 : decode cX9_sends 72 = .ok (.getfield 32, 3) := by decide +kernel
theorem dX9_sends_75 : decode cX9_sends 75 = .ok (.iload 6, 2) := by decide +kernel
theorem dX9_sends_77 : decode cX9_sends 77 = .ok (.dup2, 1) := by decide +kernel
theorem dX9_sends_78 : decode cX9_sends 78 = .ok (.laload, 1) := by decide +kernel
theorem dX9_sends_79 : decode cX9_sends 79 = .ok (.lload 4, 2) := by decide +kernel
theorem dX9_sends_81 : decode cX9_sends 81 = .ok (.lsub, 1) := by decide +kernel
theorem dX9_sends_82 : decode cX9_sends 82 = .ok (.lastore, 1) := by decide +kernel
theorem dX9_sends_83 : decode cX9_sends 83 = .ok (.aload_n 0, 1) := by decide +kernel
theorem dX9_sends_84 : decode cX9_sends 84 = .ok (.getfield 32, 3) := by decide +kernel
theorem dX9_sends_87 : decode cX9_sends 87 = .ok (.iload 7, 2) := by decide +kernel
theorem dX9_sends_89 : decode cX9_sends 89 = .ok (.dup2, 1) := by decide +kernel
theorem dX9_sends_90 : decode cX9_sends 90 = .ok (.laload, 1) := by decide +kernel
theorem dX9_sends_91 : decode cX9_sends 91 = .ok (.lload 4, 2) := by decide +kernel
theorem dX9_sends_93 : decode cX9_sends 93 = .ok (.ladd, 1) := by decide +kernel
theorem dX9_sends_94 : decode cX9_sends 94 = .ok (.lastore, 1) := by decide +kernel
theorem dX9_sends_95 : decode cX9_sends 95 = .ok (.aload_n 0, 1) := by decide +kernel
theorem dX9_sends_96 : decode cX9_sends 96 = .ok (.getfield 206, 3) := by decide +kernel
theorem dX9_sends_99 : decode cX9_sends 99 = .ok (.ifCond .eq 43, 3) := by decide +kernel
theorem dX9_sends_102 : decode cX9_sends 102 = .ok (.aload_n 0, 1) := by decide +kernel
theorem dX9_sends_103 : decode cX9_sends 103 = .ok (.getfield 107, 3) := by decide +kernel
theorem dX9_sends_106 : decode cX9_sends 106 = .ok (.bipush 6, 2) := by decide +kernel
theorem dX9_sends_108 : decode cX9_sends 108 = .ok (.aload_n 0, 1) := by decide +kernel
theorem dX9_sends_109 : decode cX9_sends 109 = .ok (.getfield 210, 3) := by decide +kernel
theorem dX9_sends_112 : decode cX9_sends 112 = .ok (.imul, 1) := by decide +kernel
theorem dX9_sends_113 : decode cX9_sends 113 = .ok (.iload 6, 2) := by decide +kernel
theorem dX9_sends_115 : decode cX9_sends 115 = .ok (.iadd, 1) := by decide +kernel
theorem dX9_sends_116 : decode cX9_sends 116 = .ok (.dup2, 1) := by decide +kernel
theorem dX9_sends_117 : decode cX9_sends 117 = .ok (.laload, 1) := by decide +kernel
theorem dX9_sends_118 : decode cX9_sends 118 = .ok (.lload 4, 2) := by decide +kernel
theorem dX9_sends_120 : decode cX9_sends 120 = .ok (.ladd, 1) := by decide +kernel
theorem dX9_sends_121 : decode cX9_sends 121 = .ok (.lastore, 1) := by decide +kernel
theorem dX9_sends_122 : decode cX9_sends 122 = .ok (.aload_n 0, 1) := by decide +kernel
theorem dX9_sends_123 : decode cX9_sends 123 = .ok (.getfield 110, 3) := by decide +kernel
theorem dX9_sends_126 : decode cX9_sends 126 = .ok (.bipush 6, 2) := by decide +kernel
theorem dX9_sends_128 : decode cX9_sends 128 = .ok (.aload_n 0, 1) := by decide +kernel
theorem dX9_sends_129 : decode cX9_sends 129 = .ok (.getfield 210, 3) := by decide +kernel
theorem dX9_sends_132 : decode cX9_sends 132 = .ok (.imul, 1) := by decide +kernel
theorem dX9_sends_133 : decode cX9_sends 133 = .ok (.iload 7, 2) := by decide +kernel
theorem dX9_sends_135 : decode cX9_sends 135 = .ok (.iadd, 1) := by decide +kernel
theorem dX9_sends_136 : decode cX9_sends 136 = .ok (.dup2, 1) := by decide +kernel
theorem dX9_sends_137 : decode cX9_sends 137 = .ok (.laload, 1) := by decide +kernel
theorem dX9_sends_138 : decode cX9_sends 138 = .ok (.lload 4, 2) := by decide +kernel
theorem dX9_sends_140 : decode cX9_sends 140 = .ok (.ladd, 1) := by decide +kernel
theorem dX9_sends_141 : decode cX9_sends 141 = .ok (.lastore, 1) := by decide +kernel
theorem dX9_sends_142 : decode cX9_sends 142 = .ok (.return_, 1) := by decide +kernel
theorem dX9_says_0 : decode cX9_says 0 = .ok (.aload_n 0, 1) := by decide +kernel
theorem dX9_says_1 : decode cX9_says 1 = .ok (.iload_n 1, 1) := by decide +kernel
theorem dX9_says_2 : decode cX9_says 2 = .ok (.invokevirtual 234, 3) := by decide +kernel
theorem dX9_says_5 : decode cX9_says 5 = .ok (.lstore 4, 2) := by decide +kernel
theorem dX9_says_7 : decode cX9_says 7 = .ok (.aload_n 0, 1) := by decide +kernel
theorem dX9_says_8 : decode cX9_says 8 = .ok (.getfield 216, 3) := by decide +kernel
theorem dX9_says_11 : decode cX9_says 11 = .ok (.ifCond .ne 86, 3) := by decide +kernel
theorem dX9_says_14 : decode cX9_says 14 = .ok (.aload_n 0, 1) := by decide +kernel
theorem dX9_says_15 : decode cX9_says 15 = .ok (.getfield 206, 3) := by decide +kernel
theorem dX9_says_18 : decode cX9_says 18 = .ok (.ifCond .eq 79, 3) := by decide +kernel
theorem dX9_says_21 : decode cX9_says 21 = .ok (.aload_n 0, 1) := by decide +kernel
theorem dX9_says_22 : decode cX9_says 22 = .ok (.getfield 95, 3) := by decide +kernel
theorem dX9_says_25 : decode cX9_says 25 = .ok (.aload_n 0, 1) := by decide +kernel
theorem dX9_says_26 : decode cX9_says 26 = .ok (.getfield 210, 3) := by decide +kernel
theorem dX9_says_29 : decode cX9_says 29 = .ok (.iaload, 1) := by decide +kernel
theorem dX9_says_30 : decode cX9_says 30 = .ok (.bipush 40, 2) := by decide +kernel
theorem dX9_says_32 : decode cX9_says 32 = .ok (.if_icmp .ge 65, 3) := by decide +kernel
theorem dX9_says_35 : decode cX9_says 35 = .ok (.bipush 40, 2) := by decide +kernel
theorem dX9_says_37 : decode cX9_says 37 = .ok (.aload_n 0, 1) := by decide +kernel
theorem dX9_says_38 : decode cX9_says 38 = .ok (.getfield 210, 3) := by decide +kernel
theorem dX9_says_41 : decode cX9_says 41 = .ok (.imul, 1) := by decide +kernel
theorem dX9_says_42 : decode cX9_says 42 = .ok (.aload_n 0, 1) := by decide +kernel
theorem dX9_says_43 : decode cX9_says 43 = .ok (.getfield 95, 3) := by decide +kernel
theorem dX9_says_46 : decode cX9_says 46 = .ok (.aload_n 0, 1) := by decide +kernel
theorem dX9_says_47 : decode cX9_says 47 = .ok (.getfield 210, 3) := by decide +kernel
theorem dX9_says_50 : decode cX9_says 50 = .ok (.iaload, 1) := by decide +kernel
theorem dX9_says_51 : decode cX9_says 51 = .ok (.iadd, 1) := by decide +kernel
theorem dX9_says_52 : decode cX9_says 52 = .ok (.istore 6, 2) := by decide +kernel
theorem dX9_says_54 : decode cX9_says 54 = .ok (.aload_n 0, 1) := by decide +kernel
theorem dX9_says_55 : decode cX9_says 55 = .ok (.getfield 98, 3) := by decide +kernel
theorem dX9_says_58 : decode cX9_says 58 = .ok (.iload 6, 2) := by decide +kernel
theorem dX9_says_60 : decode cX9_says 60 = .ok (.aload_n 0, 1) := by decide +kernel
theorem dX9_says_61 : decode cX9_says 61 = .ok (.getfield 113, 3) := by decide +kernel
theorem dX9_says_64 : decode cX9_says 64 = .ok (.iload_n 1, 1) := by decide +kernel
theorem dX9_says_65 : decode cX9_says 65 = .ok (.iaload, 1) := by decide +kernel
theorem dX9_says_66 : decode cX9_says 66 = .ok (.iastore, 1) := by decide +kernel
theorem dX9_says_67 : decode cX9_says 67 = .ok (.aload_n 0, 1) := by decide +kernel
theorem dX9_says_68 : decode cX9_says 68 = .ok (.getfield 101, 3) := by decide +kernel
theorem dX9_says_71 : decode cX9_says 71 = .ok (.iload 6, 2) := by decide +kernel
theorem dX9_says_73 : decode cX9_says 73 = .ok (.lload_n 2, 1) := by decide +kernel
theorem dX9_says_74 : decode cX9_says 74 = .ok (.lastore, 1) := by decide +kernel
theorem dX9_says_75 : decode cX9_says 75 = .ok (.aload_n 0, 1) := by decide +kernel
theorem dX9_says_76 : decode cX9_says 76 = .ok (.getfield 104, 3) := by decide +kernel
theorem dX9_says_79 : decode cX9_says 79 = .ok (.iload 6, 2) := by decide +kernel
theorem dX9_says_81 : decode cX9_says 81 = .ok (.lload 4, 2) := by decide +kernel
theorem dX9_says_83 : decode cX9_says 83 = .ok (.lastore, 1) := by decide +kernel
theorem dX9_says_84 : decode cX9_says 84 = .ok (.aload_n 0, 1) := by decide +kernel
theorem dX9_says_85 : decode cX9_says 85 = .ok (.getfield 95, 3) := by decide +kernel
theorem dX9_says_88 : decode cX9_says 88 = .ok (.aload_n 0, 1) := by decide +kernel
theorem dX9_says_89 : decode cX9_says 89 = .ok (.getfield 210, 3) := by decide +kernel
theorem dX9_says_92 : decode cX9_says 92 = .ok (.dup2, 1) := by decide +kernel
theorem dX9_says_93 : decode cX9_says 93 = .ok (.iaload, 1) := by decide +kernel
theorem dX9_says_94 : decode cX9_says 94 = .ok (.iconst 1, 1) := by decide +kernel
theorem dX9_says_95 : decode cX9_says 95 = .ok (.iadd, 1) := by decide +kernel
theorem dX9_says_96 : decode cX9_says 96 = .ok (.iastore, 1) := by decide +kernel
theorem dX9_says_97 : decode cX9_says 97 = .ok (.return_, 1) := by decide +kernel
theorem dX9_reads_0 : decode cX9_reads 0 = .ok (.iload 4, 2) := by decide +kernel
theorem dX9_reads_2 : decode cX9_reads 2 = .ok (.ifCond .eq 11, 3) := by decide +kernel
theorem dX9_reads_5 : decode cX9_reads 5 = .ok (.aload_n 0, 1) := by decide +kernel
theorem dX9_reads_6 : decode cX9_reads 6 = .ok (.iload_n 1, 1) := by decide +kernel
theorem dX9_reads_7 : decode cX9_reads 7 = .ok (.invokevirtual 234, 3) := by decide +kernel
theorem dX9_reads_10 : decode cX9_reads 10 = .ok (.goto 4, 3) := by decide +kernel
theorem dX9_reads_13 : decode cX9_reads 13 = .ok (.lconst 0, 1) := by decide +kernel
theorem dX9_reads_14 : decode cX9_reads 14 = .ok (.lstore 5, 2) := by decide +kernel
theorem dX9_reads_16 : decode cX9_reads 16 = .ok (.aload_n 0, 1) := by decide +kernel
theorem dX9_reads_17 : decode cX9_reads 17 = .ok (.getfield 216, 3) := by decide +kernel
theorem dX9_reads_20 : decode cX9_reads 20 = .ok (.ifCond .le 4, 3) := by decide +kernel
theorem dX9_reads_23 : decode cX9_reads 23 = .ok (.return_, 1) := by decide +kernel
theorem dX9_reads_24 : decode cX9_reads 24 = .ok (.lload_n 2, 1) := by decide +kernel
theorem dX9_reads_25 : decode cX9_reads 25 = .ok (.lconst 0, 1) := by decide +kernel
theorem dX9_reads_26 : decode cX9_reads 26 = .ok (.ldc2_w 198, 3) := by decide +kernel
theorem dX9_reads_29 : decode cX9_reads 29 = .ok (.invokestatic 172, 3) := by decide +kernel
theorem dX9_reads_32 : decode cX9_reads 32 = .ok (.ifCond .eq 19, 3) := by decide +kernel
theorem dX9_reads_35 : decode cX9_reads 35 = .ok (.iload 4, 2) := by decide +kernel
theorem dX9_reads_37 : decode cX9_reads 37 = .ok (.ifCond .ne 20, 3) := by decide +kernel
theorem dX9_reads_40 : decode cX9_reads 40 = .ok (.aload_n 0, 1) := by decide +kernel
theorem dX9_reads_41 : decode cX9_reads 41 = .ok (.getfield 135, 3) := by decide +kernel
theorem dX9_reads_44 : decode cX9_reads 44 = .ok (.iload_n 1, 1) := by decide +kernel
theorem dX9_reads_45 : decode cX9_reads 45 = .ok (.iaload, 1) := by decide +kernel
theorem dX9_reads_46 : decode cX9_reads 46 = .ok (.bipush 12, 2) := by decide +kernel
theorem dX9_reads_48 : decode cX9_reads 48 = .ok (.if_icmp .ne 9, 3) := by decide +kernel
theorem dX9_reads_51 : decode cX9_reads 51 = .ok (.aload_n 0, 1) := by decide +kernel
theorem dX9_reads_52 : decode cX9_reads 52 = .ok (.iconst 2, 1) := by decide +kernel
theorem dX9_reads_53 : decode cX9_reads 53 = .ok (.putfield 216, 3) := by decide +kernel
theorem dX9_reads_56 : decode cX9_reads 56 = .ok (.return_, 1) := by decide +kernel
theorem dX9_reads_57 : decode cX9_reads 57 = .ok (.bipush 8, 2) := by decide +kernel
theorem dX9_reads_59 : decode cX9_reads 59 = .ok (.aload_n 0, 1) := by decide +kernel
theorem dX9_reads_60 : decode cX9_reads 60 = .ok (.getfield 113, 3) := by decide +kernel
theorem dX9_reads_63 : decode cX9_reads 63 = .ok (.iload_n 1, 1) := by decide +kernel
theorem dX9_reads_64 : decode cX9_reads 64 = .ok (.iaload, 1) := by decide +kernel
theorem dX9_reads_65 : decode cX9_reads 65 = .ok (.imul, 1) := by decide +kernel
theorem dX9_reads_66 : decode cX9_reads 66 = .ok (.lload_n 2, 1) := by decide +kernel
theorem dX9_reads_67 : decode cX9_reads 67 = .ok (.l2i, 1) := by decide +kernel
theorem dX9_reads_68 : decode cX9_reads 68 = .ok (.iadd, 1) := by decide +kernel
theorem dX9_reads_69 : decode cX9_reads 69 = .ok (.istore 7, 2) := by decide +kernel
theorem dX9_reads_71 : decode cX9_reads 71 = .ok (.aload_n 0, 1) := by decide +kernel
theorem dX9_reads_72 : decode cX9_reads 72 = .ok (.aload_n 0, 1) := by decide +kernel
theorem dX9_reads_73 : decode cX9_reads 73 = .ok (.getfield 113, 3) := by decide +kernel
theorem dX9_reads_76 : decode cX9_reads 76 = .ok (.iload_n 1, 1) := by decide +kernel
theorem dX9_reads_77 : decode cX9_reads 77 = .ok (.iaload, 1) := by decide +kernel
theorem dX9_reads_78 : decode cX9_reads 78 = .ok (.lload_n 2, 1) := by decide +kernel
theorem dX9_reads_79 : decode cX9_reads 79 = .ok (.l2i, 1) := by decide +kernel
theorem dX9_reads_80 : decode cX9_reads 80 = .ok (.iload 4, 2) := by decide +kernel
theorem dX9_reads_82 : decode cX9_reads 82 = .ok (.ifCond .eq 7, 3) := by decide +kernel
theorem dX9_reads_85 : decode cX9_reads 85 = .ok (.iconst 3, 1) := by decide +kernel
theorem dX9_reads_86 : decode cX9_reads 86 = .ok (.goto 4, 3) := by decide +kernel
theorem dX9_reads_89 : decode cX9_reads 89 = .ok (.iconst 2, 1) := by decide +kernel
theorem dX9_reads_90 : decode cX9_reads 90 = .ok (.invokevirtual 242, 3) := by decide +kernel
theorem dX9_reads_93 : decode cX9_reads 93 = .ok (.iload 4, 2) := by decide +kernel
theorem dX9_reads_95 : decode cX9_reads 95 = .ok (.ifCond .eq 15, 3) := by decide +kernel
theorem dX9_reads_98 : decode cX9_reads 98 = .ok (.aload_n 0, 1) := by decide +kernel
theorem dX9_reads_99 : decode cX9_reads 99 = .ok (.getfield 29, 3) := by decide +kernel
theorem dX9_reads_102 : decode cX9_reads 102 = .ok (.iload 7, 2) := by decide +kernel
theorem dX9_reads_104 : decode cX9_reads 104 = .ok (.lload 5, 2) := by decide +kernel
theorem dX9_reads_106 : decode cX9_reads 106 = .ok (.lastore, 1) := by decide +kernel
theorem dX9_reads_107 : decode cX9_reads 107 = .ok (.goto 15, 3) := by decide +kernel
theorem dX9_reads_110 : decode cX9_reads 110 = .ok (.aload_n 0, 1) := by decide +kernel
theorem dX9_reads_111 : decode cX9_reads 111 = .ok (.iload_n 1, 1) := by decide +kernel
theorem dX9_reads_112 : decode cX9_reads 112 = .ok (.aload_n 0, 1) := by decide +kernel
theorem dX9_reads_113 : decode cX9_reads 113 = .ok (.getfield 29, 3) := by decide +kernel
theorem dX9_reads_116 : decode cX9_reads 116 = .ok (.iload 7, 2) := by decide +kernel
theorem dX9_reads_118 : decode cX9_reads 118 = .ok (.laload, 1) := by decide +kernel
theorem dX9_reads_119 : decode cX9_reads 119 = .ok (.invokevirtual 223, 3) := by decide +kernel
theorem dX9_reads_122 : decode cX9_reads 122 = .ok (.return_, 1) := by decide +kernel
theorem dX9_isWalked_0 : decode cX9_isWalked 0 = .ok (.aload_n 0, 1) := by decide +kernel
theorem dX9_isWalked_1 : decode cX9_isWalked 1 = .ok (.getfield 216, 3) := by decide +kernel
theorem dX9_isWalked_4 : decode cX9_isWalked 4 = .ok (.ifCond .le 5, 3) := by decide +kernel
theorem dX9_isWalked_7 : decode cX9_isWalked 7 = .ok (.iconst 0, 1) := by decide +kernel
theorem dX9_isWalked_8 : decode cX9_isWalked 8 = .ok (.ireturn, 1) := by decide +kernel
theorem dX9_isWalked_9 : decode cX9_isWalked 9 = .ok (.aload_n 0, 1) := by decide +kernel
theorem dX9_isWalked_10 : decode cX9_isWalked 10 = .ok (.getfield 16, 3) := by decide +kernel
theorem dX9_isWalked_13 : decode cX9_isWalked 13 = .ok (.iload_n 2, 1) := by decide +kernel
theorem dX9_isWalked_14 : decode cX9_isWalked 14 = .ok (.laload, 1) := by decide +kernel
theorem dX9_isWalked_15 : decode cX9_isWalked 15 = .ok (.lstore_n 3, 1) := by decide +kernel
theorem dX9_isWalked_16 : decode cX9_isWalked 16 = .ok (.aload_n 0, 1) := by decide +kernel
theorem dX9_isWalked_17 : decode cX9_isWalked 17 = .ok (.lload_n 3, 1) := by decide +kernel
theorem dX9_isWalked_18 : decode cX9_isWalked 18 = .ok (.invokevirtual 184, 3) := by decide +kernel
theorem dX9_isWalked_21 : decode cX9_isWalked 21 = .ok (.ifCond .eq 39, 3) := by decide +kernel
theorem dX9_isWalked_24 : decode cX9_isWalked 24 = .ok (.aload_n 0, 1) := by decide +kernel
theorem dX9_isWalked_25 : decode cX9_isWalked 25 = .ok (.getfield 20, 3) := by decide +kernel
theorem dX9_isWalked_28 : decode cX9_isWalked 28 = .ok (.iload_n 2, 1) := by decide +kernel
theorem dX9_isWalked_29 : decode cX9_isWalked 29 = .ok (.iaload, 1) := by decide +kernel
theorem dX9_isWalked_30 : decode cX9_isWalked 30 = .ok (.i2l, 1) := by decide +kernel
theorem dX9_isWalked_31 : decode cX9_isWalked 31 = .ok (.lconst 0, 1) := by decide +kernel
theorem dX9_isWalked_32 : decode cX9_isWalked 32 = .ok (.ldc2_w 188, 3) := by decide +kernel
theorem dX9_isWalked_35 : decode cX9_isWalked 35 = .ok (.invokestatic 172, 3) := by decide +kernel
theorem dX9_isWalked_38 : decode cX9_isWalked 38 = .ok (.ifCond .eq 22, 3) := by decide +kernel
theorem dX9_isWalked_41 : decode cX9_isWalked 41 = .ok (.aload_n 0, 1) := by decide +kernel
theorem dX9_isWalked_42 : decode cX9_isWalked 42 = .ok (.getfield 23, 3) := by decide +kernel
theorem dX9_isWalked_45 : decode cX9_isWalked 45 = .ok (.iconst 4, 1) := by decide +kernel
theorem dX9_isWalked_46 : decode cX9_isWalked 46 = .ok (.lload_n 3, 1) := by decide +kernel
theorem dX9_isWalked_47 : decode cX9_isWalked 47 = .ok (.l2i, 1) := by decide +kernel
theorem dX9_isWalked_48 : decode cX9_isWalked 48 = .ok (.imul, 1) := by decide +kernel
theorem dX9_isWalked_49 : decode cX9_isWalked 49 = .ok (.aload_n 0, 1) := by decide +kernel
theorem dX9_isWalked_50 : decode cX9_isWalked 50 = .ok (.getfield 20, 3) := by decide +kernel
theorem dX9_isWalked_53 : decode cX9_isWalked 53 = .ok (.iload_n 2, 1) := by decide +kernel
theorem dX9_isWalked_54 : decode cX9_isWalked 54 = .ok (.iaload, 1) := by decide +kernel
theorem dX9_isWalked_55 : decode cX9_isWalked 55 = .ok (.iadd, 1) := by decide +kernel
theorem dX9_isWalked_56 : decode cX9_isWalked 56 = .ok (.iaload, 1) := by decide +kernel
theorem dX9_isWalked_57 : decode cX9_isWalked 57 = .ok (.ifCond .ge 11, 3) := by decide +kernel
theorem dX9_isWalked_60 : decode cX9_isWalked 60 = .ok (.aload_n 0, 1) := by decide +kernel
theorem dX9_isWalked_61 : decode cX9_isWalked 61 = .ok (.iconst 1, 1) := by decide +kernel
theorem dX9_isWalked_62 : decode cX9_isWalked 62 = .ok (.putfield 216, 3) := by decide +kernel
theorem dX9_isWalked_65 : decode cX9_isWalked 65 = .ok (.goto 18, 3) := by decide +kernel
theorem dX9_isWalked_68 : decode cX9_isWalked 68 = .ok (.aload_n 0, 1) := by decide +kernel
theorem dX9_isWalked_69 : decode cX9_isWalked 69 = .ok (.getfield 200, 3) := by decide +kernel
theorem dX9_isWalked_72 : decode cX9_isWalked 72 = .ok (.bipush 6, 2) := by decide +kernel
theorem dX9_isWalked_74 : decode cX9_isWalked 74 = .ok (.if_icmp .ne 9, 3) := by decide +kernel
theorem dX9_isWalked_77 : decode cX9_isWalked 77 = .ok (.aload_n 0, 1) := by decide +kernel
theorem dX9_isWalked_78 : decode cX9_isWalked 78 = .ok (.bipush 7, 2) := by decide +kernel
theorem dX9_isWalked_80 : decode cX9_isWalked 80 = .ok (.putfield 216, 3) := by decide +kernel
theorem dX9_isWalked_83 : decode cX9_isWalked 83 = .ok (.aload_n 0, 1) := by decide +kernel
theorem dX9_isWalked_84 : decode cX9_isWalked 84 = .ok (.getfield 216, 3) := by decide +kernel
theorem dX9_isWalked_87 : decode cX9_isWalked 87 = .ok (.ifCond .ne 7, 3) := by decide +kernel
theorem dX9_isWalked_90 : decode cX9_isWalked 90 = .ok (.iconst 1, 1) := by decide +kernel
theorem dX9_isWalked_91 : decode cX9_isWalked 91 = .ok (.goto 4, 3) := by decide +kernel
theorem dX9_isWalked_94 : decode cX9_isWalked 94 = .ok (.iconst 0, 1) := by decide +kernel
theorem dX9_isWalked_95 : decode cX9_isWalked 95 = .ok (.ireturn, 1) := by decide +kernel
theorem dX9_does_0 : decode cX9_does 0 = .ok (.aload_n 0, 1) := by decide +kernel
theorem dX9_does_1 : decode cX9_does 1 = .ok (.getfield 16, 3) := by decide +kernel
theorem dX9_does_4 : decode cX9_does 4 = .ok (.iload_n 2, 1) := by decide +kernel
theorem dX9_does_5 : decode cX9_does 5 = .ok (.laload, 1) := by decide +kernel
theorem dX9_does_6 : decode cX9_does 6 = .ok (.lstore_n 3, 1) := by decide +kernel
theorem dX9_does_7 : decode cX9_does 7 = .ok (.aload_n 0, 1) := by decide +kernel
theorem dX9_does_8 : decode cX9_does 8 = .ok (.getfield 122, 3) := by decide +kernel
theorem dX9_does_11 : decode cX9_does 11 = .ok (.iload_n 1, 1) := by decide +kernel
theorem dX9_does_12 : decode cX9_does 12 = .ok (.dup2, 1) := by decide +kernel
theorem dX9_does_13 : decode cX9_does 13 = .ok (.iaload, 1) := by decide +kernel
theorem dX9_does_14 : decode cX9_does 14 = .ok (.iconst 1, 1) := by decide +kernel
theorem dX9_does_15 : decode cX9_does 15 = .ok (.iadd, 1) := by decide +kernel
theorem dX9_does_16 : decode cX9_does 16 = .ok (.iastore, 1) := by decide +kernel
theorem dX9_does_17 : decode cX9_does 17 = .ok (.aload_n 0, 1) := by decide +kernel
theorem dX9_does_18 : decode cX9_does 18 = .ok (.getfield 13, 3) := by decide +kernel
theorem dX9_does_21 : decode cX9_does 21 = .ok (.iload_n 2, 1) := by decide +kernel
theorem dX9_does_22 : decode cX9_does 22 = .ok (.iaload, 1) := by decide +kernel
theorem dX9_does_23 : decode cX9_does 23 = .ok (.tableswitch 331 0 14 #[73, 82, 92, 102, 111, 190, 331, 331, 199, 213, 331, 222, 235, 289, 304], 73) := by decide +kernel
theorem dX9_does_96 : decode cX9_does 96 = .ok (.aload_n 0, 1) := by decide +kernel
theorem dX9_does_97 : decode cX9_does 97 = .ok (.iload_n 1, 1) := by decide +kernel
theorem dX9_does_98 : decode cX9_does 98 = .ok (.lload_n 3, 1) := by decide +kernel
theorem dX9_does_99 : decode cX9_does 99 = .ok (.invokevirtual 223, 3) := by decide +kernel
theorem dX9_does_102 : decode cX9_does 102 = .ok (.goto 280, 3) := by decide +kernel
theorem dX9_does_105 : decode cX9_does 105 = .ok (.aload_n 0, 1) := by decide +kernel
theorem dX9_does_106 : decode cX9_does 106 = .ok (.iload_n 1, 1) := by decide +kernel
theorem dX9_does_107 : decode cX9_does 107 = .ok (.lload_n 3, 1) := by decide +kernel
theorem dX9_does_108 : decode cX9_does 108 = .ok (.iconst 0, 1) := by decide +kernel
theorem dX9_does_109 : decode cX9_does 109 = .ok (.invokevirtual 246, 3) := by decide +kernel
theorem dX9_does_112 : decode cX9_does 112 = .ok (.goto 270, 3) := by decide +kernel
theorem dX9_does_115 : decode cX9_does 115 = .ok (.aload_n 0, 1) := by decide +kernel
theorem dX9_does_116 : decode cX9_does 116 = .ok (.iload_n 1, 1) := by decide +kernel
theorem dX9_does_117 : decode cX9_does 117 = .ok (.lload_n 3, 1) := by decide +kernel
theorem dX9_does_118 : decode cX9_does 118 = .ok (.iconst 1, 1) := by decide +kernel
theorem dX9_does_119 : decode cX9_does 119 = .ok (.invokevirtual 246, 3) := by decide +kernel
theorem dX9_does_122 : decode cX9_does 122 = .ok (.goto 260, 3) := by decide +kernel
theorem dX9_does_125 : decode cX9_does 125 = .ok (.aload_n 0, 1) := by decide +kernel
theorem dX9_does_126 : decode cX9_does 126 = .ok (.iload_n 1, 1) := by decide +kernel
theorem dX9_does_127 : decode cX9_does 127 = .ok (.lload_n 3, 1) := by decide +kernel
theorem dX9_does_128 : decode cX9_does 128 = .ok (.invokevirtual 250, 3) := by decide +kernel
theorem dX9_does_131 : decode cX9_does 131 = .ok (.goto 251, 3) := by decide +kernel
theorem dX9_does_134 : decode cX9_does 134 = .ok (.aload_n 0, 1) := by decide +kernel
theorem dX9_does_135 : decode cX9_does 135 = .ok (.iload_n 1, 1) := by decide +kernel
theorem dX9_does_136 : decode cX9_does 136 = .ok (.invokevirtual 234, 3) := by decide +kernel
theorem dX9_does_139 : decode cX9_does 139 = .ok (.lstore 5, 2) := by decide +kernel
theorem dX9_does_141 : decode cX9_does 141 = .ok (.aload_n 0, 1) := by decide +kernel
theorem dX9_does_142 : decode cX9_does 142 = .ok (.getfield 216, 3) := by decide +kernel
theorem dX9_does_145 : decode cX9_does 145 = .ok (.ifCond .ne 237, 3) := by decide +kernel
theorem dX9_does_148 : decode cX9_does 148 = .ok (.lload 5, 2) := by decide +kernel
theorem dX9_does_150 : decode cX9_does 150 = .ok (.lconst 0, 1) := by decide +kernel
theorem dX9_does_151 : decode cX9_does 151 = .ok (.lcmp, 1) := by decide +kernel
theorem dX9_does_152 : decode cX9_does 152 = .ok (.ifCond .eq 230, 3) := by decide +kernel
theorem dX9_does_155 : decode cX9_does 155 = .ok (.aload_n 0, 1) := by decide +kernel
theorem dX9_does_156 : decode cX9_does 156 = .ok (.lload_n 3, 1) := by decide +kernel
theorem dX9_does_157 : decode cX9_does 157 = .ok (.lconst 0, 1) := by decide +kernel
theorem dX9_does_158 : decode cX9_does 158 = .ok (.aload_n 0, 1) := by decide +kernel
theorem dX9_does_159 : decode cX9_does 159 = .ok (.getfield 7, 3) := by decide +kernel
theorem dX9_does_162 : decode cX9_does 162 = .ok (.aload_n 0, 1) := by decide +kernel
theorem dX9_does_163 : decode cX9_does 163 = .ok (.getfield 119, 3) := by decide +kernel
theorem dX9_does_166 : decode cX9_does 166 = .ok (.iload_n 1, 1) := by decide +kernel
theorem dX9_does_167 : decode cX9_does 167 = .ok (.iaload, 1) := by decide +kernel
theorem dX9_does_168 : decode cX9_does 168 = .ok (.iaload, 1) := by decide +kernel
theorem dX9_does_169 : decode cX9_does 169 = .ok (.iconst 1, 1) := by decide +kernel
theorem dX9_does_170 : decode cX9_does 170 = .ok (.isub, 1) := by decide +kernel
theorem dX9_does_171 : decode cX9_does 171 = .ok (.i2l, 1) := by decide +kernel
theorem dX9_does_172 : decode cX9_does 172 = .ok (.invokestatic 172, 3) := by decide +kernel
theorem dX9_does_175 : decode cX9_does 175 = .ok (.ifCond .eq 7, 3) := by decide +kernel
theorem dX9_does_178 : decode cX9_does 178 = .ok (.iconst 0, 1) := by decide +kernel
theorem dX9_does_179 : decode cX9_does 179 = .ok (.goto 4, 3) := by decide +kernel
theorem dX9_does_182 : decode cX9_does 182 = .ok (.iconst 2, 1) := by decide +kernel
theorem dX9_does_183 : decode cX9_does 183 = .ok (.putfield 216, 3) := by decide +kernel
theorem dX9_does_186 : decode cX9_does 186 = .ok (.aload_n 0, 1) := by decide +kernel
theorem dX9_does_187 : decode cX9_does 187 = .ok (.getfield 122, 3) := by decide +kernel
theorem dX9_does_190 : decode cX9_does 190 = .ok (.iload_n 1, 1) := by decide +kernel
theorem dX9_does_191 : decode cX9_does 191 = .ok (.aload_n 0, 1) := by decide +kernel
theorem dX9_does_192 : decode cX9_does 192 = .ok (.getfield 216, 3) := by decide +kernel
theorem dX9_does_195 : decode cX9_does 195 = .ok (.ifCond .ne 8, 3) := by decide +kernel
theorem dX9_does_198 : decode cX9_does 198 = .ok (.lload_n 3, 1) := by decide +kernel
theorem dX9_does_199 : decode cX9_does 199 = .ok (.l2i, 1) := by decide +kernel
theorem dX9_does_200 : decode cX9_does 200 = .ok (.goto 9, 3) := by decide +kernel
theorem dX9_does_203 : decode cX9_does 203 = .ok (.aload_n 0, 1) := by decide +kernel
theorem dX9_does_204 : decode cX9_does 204 = .ok (.getfield 122, 3) := by decide +kernel
theorem dX9_does_207 : decode cX9_does 207 = .ok (.iload_n 1, 1) := by decide +kernel
theorem dX9_does_208 : decode cX9_does 208 = .ok (.iaload, 1) := by decide +kernel
theorem dX9_does_209 : decode cX9_does 209 = .ok (.iastore, 1) := by decide +kernel
theorem dX9_does_210 : decode cX9_does 210 = .ok (.goto 172, 3) := by decide +kernel
theorem dX9_does_213 : decode cX9_does 213 = .ok (.aload_n 0, 1) := by decide +kernel
theorem dX9_does_214 : decode cX9_does 214 = .ok (.iload_n 1, 1) := by decide +kernel
theorem dX9_does_215 : decode cX9_does 215 = .ok (.lload_n 3, 1) := by decide +kernel
theorem dX9_does_216 : decode cX9_does 216 = .ok (.invokevirtual 253, 3) := by decide +kernel
theorem dX9_does_219 : decode cX9_does 219 = .ok (.goto 163, 3) := by decide +kernel
theorem dX9_does_222 : decode cX9_does 222 = .ok (.aload_n 0, 1) := by decide +kernel
theorem dX9_does_223 : decode cX9_does 223 = .ok (.iload_n 1, 1) := by decide +kernel
theorem dX9_does_224 : decode cX9_does 224 = .ok (.aload_n 0, 1) := by decide +kernel
theorem dX9_does_225 : decode cX9_does 225 = .ok (.getfield 125, 3) := by decide +kernel
theorem dX9_does_228 : decode cX9_does 228 = .ok (.iload_n 1, 1) := by decide +kernel
theorem dX9_does_229 : decode cX9_does 229 = .ok (.laload, 1) := by decide +kernel
theorem dX9_does_230 : decode cX9_does 230 = .ok (.invokevirtual 223, 3) := by decide +kernel
theorem dX9_does_233 : decode cX9_does 233 = .ok (.goto 149, 3) := by decide +kernel
theorem dX9_does_236 : decode cX9_does 236 = .ok (.aload_n 0, 1) := by decide +kernel
theorem dX9_does_237 : decode cX9_does 237 = .ok (.iload_n 1, 1) := by decide +kernel
theorem dX9_does_238 : decode cX9_does 238 = .ok (.lload_n 3, 1) := by decide +kernel
theorem dX9_does_239 : decode cX9_does 239 = .ok (.invokevirtual 256, 3) := by decide +kernel
theorem dX9_does_242 : decode cX9_does 242 = .ok (.goto 140, 3) := by decide +kernel
theorem dX9_does_245 : decode cX9_does 245 = .ok (.aload_n 0, 1) := by decide +kernel
theorem dX9_does_246 : decode cX9_does 246 = .ok (.iconst 5, 1) := by decide +kernel
theorem dX9_does_247 : decode cX9_does 247 = .ok (.putfield 216, 3) := by decide +kernel
theorem dX9_does_250 : decode cX9_does 250 = .ok (.aload_n 0, 1) := by decide +kernel
theorem dX9_does_251 : decode cX9_does 251 = .ok (.lload_n 3, 1) := by decide +kernel
theorem dX9_does_252 : decode cX9_does 252 = .ok (.putfield 231, 3) := by decide +kernel
theorem dX9_does_255 : decode cX9_does 255 = .ok (.goto 127, 3) := by decide +kernel
theorem dX9_does_258 : decode cX9_does 258 = .ok (.lload_n 3, 1) := by decide +kernel
theorem dX9_does_259 : decode cX9_does 259 = .ok (.lconst 0, 1) := by decide +kernel
theorem dX9_does_260 : decode cX9_does 260 = .ok (.aload_n 0, 1) := by decide +kernel
theorem dX9_does_261 : decode cX9_does 261 = .ok (.getfield 135, 3) := by decide +kernel
theorem dX9_does_264 : decode cX9_does 264 = .ok (.iload_n 1, 1) := by decide +kernel
theorem dX9_does_265 : decode cX9_does 265 = .ok (.iaload, 1) := by decide +kernel
theorem dX9_does_266 : decode cX9_does 266 = .ok (.iconst 1, 1) := by decide +kernel
theorem dX9_does_267 : decode cX9_does 267 = .ok (.isub, 1) := by decide +kernel
theorem dX9_does_268 : decode cX9_does 268 = .ok (.i2l, 1) := by decide +kernel
theorem dX9_does_269 : decode cX9_does 269 = .ok (.invokestatic 172, 3) := by decide +kernel
theorem dX9_does_272 : decode cX9_does 272 = .ok (.ifCond .ne 11, 3) := by decide +kernel
theorem dX9_does_275 : decode cX9_does 275 = .ok (.aload_n 0, 1) := by decide +kernel
theorem dX9_does_276 : decode cX9_does 276 = .ok (.iconst 2, 1) := by decide +kernel
theorem dX9_does_277 : decode cX9_does 277 = .ok (.putfield 216, 3) := by decide +kernel
theorem dX9_does_280 : decode cX9_does 280 = .ok (.goto 102, 3) := by decide +kernel
theorem dX9_does_283 : decode cX9_does 283 = .ok (.aload_n 0, 1) := by decide +kernel
theorem dX9_does_284 : decode cX9_does 284 = .ok (.iload_n 1, 1) := by decide +kernel
theorem dX9_does_285 : decode cX9_does 285 = .ok (.aload_n 0, 1) := by decide +kernel
theorem dX9_does_286 : decode cX9_does 286 = .ok (.getfield 138, 3) := by decide +kernel
theorem dX9_does_289 : decode cX9_does 289 = .ok (.bipush 12, 2) := by decide +kernel
theorem dX9_does_291 : decode cX9_does 291 = .ok (.iload_n 1, 1) := by decide +kernel
theorem dX9_does_292 : decode cX9_does 292 = .ok (.imul, 1) := by decide +kernel
theorem dX9_does_293 : decode cX9_does 293 = .ok (.aload_n 0, 1) := by decide +kernel
theorem dX9_does_294 : decode cX9_does 294 = .ok (.getfield 135, 3) := by decide +kernel
theorem dX9_does_297 : decode cX9_does 297 = .ok (.iload_n 1, 1) := by decide +kernel
theorem dX9_does_298 : decode cX9_does 298 = .ok (.iaload, 1) := by decide +kernel
theorem dX9_does_299 : decode cX9_does 299 = .ok (.iadd, 1) := by decide +kernel
theorem dX9_does_300 : decode cX9_does 300 = .ok (.iconst 1, 1) := by decide +kernel
theorem dX9_does_301 : decode cX9_does 301 = .ok (.isub, 1) := by decide +kernel
theorem dX9_does_302 : decode cX9_does 302 = .ok (.lload_n 3, 1) := by decide +kernel
theorem dX9_does_303 : decode cX9_does 303 = .ok (.l2i, 1) := by decide +kernel
theorem dX9_does_304 : decode cX9_does 304 = .ok (.isub, 1) := by decide +kernel
theorem dX9_does_305 : decode cX9_does 305 = .ok (.laload, 1) := by decide +kernel
theorem dX9_does_306 : decode cX9_does 306 = .ok (.invokevirtual 223, 3) := by decide +kernel
theorem dX9_does_309 : decode cX9_does 309 = .ok (.goto 73, 3) := by decide +kernel
theorem dX9_does_312 : decode cX9_does 312 = .ok (.aload_n 0, 1) := by decide +kernel
theorem dX9_does_313 : decode cX9_does 313 = .ok (.iload_n 1, 1) := by decide +kernel
theorem dX9_does_314 : decode cX9_does 314 = .ok (.aload_n 0, 1) := by decide +kernel
theorem dX9_does_315 : decode cX9_does 315 = .ok (.getfield 113, 3) := by decide +kernel
theorem dX9_does_318 : decode cX9_does 318 = .ok (.iload_n 1, 1) := by decide +kernel
theorem dX9_does_319 : decode cX9_does 319 = .ok (.iaload, 1) := by decide +kernel
theorem dX9_does_320 : decode cX9_does 320 = .ok (.i2l, 1) := by decide +kernel
theorem dX9_does_321 : decode cX9_does 321 = .ok (.invokevirtual 223, 3) := by decide +kernel
theorem dX9_does_324 : decode cX9_does 324 = .ok (.goto 58, 3) := by decide +kernel
theorem dX9_does_327 : decode cX9_does 327 = .ok (.aload_n 0, 1) := by decide +kernel
theorem dX9_does_328 : decode cX9_does 328 = .ok (.iload_n 1, 1) := by decide +kernel
theorem dX9_does_329 : decode cX9_does 329 = .ok (.iload_n 1, 1) := by decide +kernel
theorem dX9_does_330 : decode cX9_does 330 = .ok (.ifCond .ne 9, 3) := by decide +kernel
theorem dX9_does_333 : decode cX9_does 333 = .ok (.ldc2_w 192, 3) := by decide +kernel
theorem dX9_does_336 : decode cX9_does 336 = .ok (.goto 12, 3) := by decide +kernel
theorem dX9_does_339 : decode cX9_does 339 = .ok (.aload_n 0, 1) := by decide +kernel
theorem dX9_does_340 : decode cX9_does 340 = .ok (.getfield 113, 3) := by decide +kernel
theorem dX9_does_343 : decode cX9_does 343 = .ok (.iload_n 1, 1) := by decide +kernel
theorem dX9_does_344 : decode cX9_does 344 = .ok (.iconst 1, 1) := by decide +kernel
theorem dX9_does_345 : decode cX9_does 345 = .ok (.isub, 1) := by decide +kernel
theorem dX9_does_346 : decode cX9_does 346 = .ok (.iaload, 1) := by decide +kernel
theorem dX9_does_347 : decode cX9_does 347 = .ok (.i2l, 1) := by decide +kernel
theorem dX9_does_348 : decode cX9_does 348 = .ok (.invokevirtual 223, 3) := by decide +kernel
theorem dX9_does_351 : decode cX9_does 351 = .ok (.goto 31, 3) := by decide +kernel
theorem dX9_does_354 : decode cX9_does 354 = .ok (.aload_n 0, 1) := by decide +kernel
theorem dX9_does_355 : decode cX9_does 355 = .ok (.lload_n 3, 1) := by decide +kernel
theorem dX9_does_356 : decode cX9_does 356 = .ok (.invokevirtual 184, 3) := by decide +kernel
theorem dX9_does_359 : decode cX9_does 359 = .ok (.ifCond .eq 18, 3) := by decide +kernel
theorem dX9_does_362 : decode cX9_does 362 = .ok (.aload_n 0, 1) := by decide +kernel
theorem dX9_does_363 : decode cX9_does 363 = .ok (.iload_n 1, 1) := by decide +kernel
theorem dX9_does_364 : decode cX9_does 364 = .ok (.aload_n 0, 1) := by decide +kernel
theorem dX9_does_365 : decode cX9_does 365 = .ok (.getfield 32, 3) := by decide +kernel
theorem dX9_does_368 : decode cX9_does 368 = .ok (.lload_n 3, 1) := by decide +kernel
theorem dX9_does_369 : decode cX9_does 369 = .ok (.l2i, 1) := by decide +kernel
theorem dX9_does_370 : decode cX9_does 370 = .ok (.laload, 1) := by decide +kernel
theorem dX9_does_371 : decode cX9_does 371 = .ok (.invokevirtual 223, 3) := by decide +kernel
theorem dX9_does_374 : decode cX9_does 374 = .ok (.goto 8, 3) := by decide +kernel
theorem dX9_does_377 : decode cX9_does 377 = .ok (.aload_n 0, 1) := by decide +kernel
theorem dX9_does_378 : decode cX9_does 378 = .ok (.iconst 1, 1) := by decide +kernel
theorem dX9_does_379 : decode cX9_does 379 = .ok (.putfield 216, 3) := by decide +kernel
theorem dX9_does_382 : decode cX9_does 382 = .ok (.return_, 1) := by decide +kernel
theorem dX9_notes_0 : decode cX9_notes 0 = .ok (.aload_n 0, 1) := by decide +kernel
theorem dX9_notes_1 : decode cX9_notes 1 = .ok (.getfield 206, 3) := by decide +kernel
theorem dX9_notes_4 : decode cX9_notes 4 = .ok (.ifCond .ne 4, 3) := by decide +kernel
theorem dX9_notes_7 : decode cX9_notes 7 = .ok (.return_, 1) := by decide +kernel
theorem dX9_notes_8 : decode cX9_notes 8 = .ok (.bipush 100, 2) := by decide +kernel
theorem dX9_notes_10 : decode cX9_notes 10 = .ok (.aload_n 0, 1) := by decide +kernel
theorem dX9_notes_11 : decode cX9_notes 11 = .ok (.getfield 210, 3) := by decide +kernel
theorem dX9_notes_14 : decode cX9_notes 14 = .ok (.imul, 1) := by decide +kernel
theorem dX9_notes_15 : decode cX9_notes 15 = .ok (.aload_n 0, 1) := by decide +kernel
theorem dX9_notes_16 : decode cX9_notes 16 = .ok (.getfield 259, 3) := by decide +kernel
theorem dX9_notes_19 : decode cX9_notes 19 = .ok (.iadd, 1) := by decide +kernel
theorem dX9_notes_20 : decode cX9_notes 20 = .ok (.iconst 1, 1) := by decide +kernel
theorem dX9_notes_21 : decode cX9_notes 21 = .ok (.isub, 1) := by decide +kernel
theorem dX9_notes_22 : decode cX9_notes 22 = .ok (.istore 6, 2) := by decide +kernel
theorem dX9_notes_24 : decode cX9_notes 24 = .ok (.aload_n 0, 1) := by decide +kernel
theorem dX9_notes_25 : decode cX9_notes 25 = .ok (.getfield 71, 3) := by decide +kernel
theorem dX9_notes_28 : decode cX9_notes 28 = .ok (.bipush 7, 2) := by decide +kernel
theorem dX9_notes_30 : decode cX9_notes 30 = .ok (.iload 6, 2) := by decide +kernel
theorem dX9_notes_32 : decode cX9_notes 32 = .ok (.imul, 1) := by decide +kernel
theorem dX9_notes_33 : decode cX9_notes 33 = .ok (.iload_n 1, 1) := by decide +kernel
theorem dX9_notes_34 : decode cX9_notes 34 = .ok (.iconst 1, 1) := by decide +kernel
theorem dX9_notes_35 : decode cX9_notes 35 = .ok (.iadd, 1) := by decide +kernel
theorem dX9_notes_36 : decode cX9_notes 36 = .ok (.iastore, 1) := by decide +kernel
theorem dX9_notes_37 : decode cX9_notes 37 = .ok (.aload_n 0, 1) := by decide +kernel
theorem dX9_notes_38 : decode cX9_notes 38 = .ok (.getfield 71, 3) := by decide +kernel
theorem dX9_notes_41 : decode cX9_notes 41 = .ok (.bipush 7, 2) := by decide +kernel
theorem dX9_notes_43 : decode cX9_notes 43 = .ok (.iload 6, 2) := by decide +kernel
theorem dX9_notes_45 : decode cX9_notes 45 = .ok (.imul, 1) := by decide +kernel
theorem dX9_notes_46 : decode cX9_notes 46 = .ok (.iconst 1, 1) := by decide +kernel
theorem dX9_notes_47 : decode cX9_notes 47 = .ok (.iadd, 1) := by decide +kernel
theorem dX9_notes_48 : decode cX9_notes 48 = .ok (.aload_n 0, 1) := by decide +kernel
theorem dX9_notes_49 : decode cX9_notes 49 = .ok (.getfield 113, 3) := by decide +kernel
theorem dX9_notes_52 : decode cX9_notes 52 = .ok (.iload_n 1, 1) := by decide +kernel
theorem dX9_notes_53 : decode cX9_notes 53 = .ok (.iaload, 1) := by decide +kernel
theorem dX9_notes_54 : decode cX9_notes 54 = .ok (.iastore, 1) := by decide +kernel
theorem dX9_notes_55 : decode cX9_notes 55 = .ok (.aload_n 0, 1) := by decide +kernel
theorem dX9_notes_56 : decode cX9_notes 56 = .ok (.getfield 71, 3) := by decide +kernel
theorem dX9_notes_59 : decode cX9_notes 59 = .ok (.bipush 7, 2) := by decide +kernel
theorem dX9_notes_61 : decode cX9_notes 61 = .ok (.iload 6, 2) := by decide +kernel
theorem dX9_notes_63 : decode cX9_notes 63 = .ok (.imul, 1) := by decide +kernel
theorem dX9_notes_64 : decode cX9_notes 64 = .ok (.iconst 2, 1) := by decide +kernel
theorem dX9_notes_65 : decode cX9_notes 65 = .ok (.iadd, 1) := by decide +kernel
theorem dX9_notes_66 : decode cX9_notes 66 = .ok (.aload_n 0, 1) := by decide +kernel
theorem dX9_notes_67 : decode cX9_notes 67 = .ok (.getfield 116, 3) := by decide +kernel
theorem dX9_notes_70 : decode cX9_notes 70 = .ok (.iload_n 1, 1) := by decide +kernel
theorem dX9_notes_71 : decode cX9_notes 71 = .ok (.iaload, 1) := by decide +kernel
theorem dX9_notes_72 : decode cX9_notes 72 = .ok (.iastore, 1) := by decide +kernel
theorem dX9_notes_73 : decode cX9_notes 73 = .ok (.aload_n 0, 1) := by decide +kernel
theorem dX9_notes_74 : decode cX9_notes 74 = .ok (.getfield 71, 3) := by decide +kernel
theorem dX9_notes_77 : decode cX9_notes 77 = .ok (.bipush 7, 2) := by decide +kernel
theorem dX9_notes_79 : decode cX9_notes 79 = .ok (.iload 6, 2) := by decide +kernel
theorem dX9_notes_81 : decode cX9_notes 81 = .ok (.imul, 1) := by decide +kernel
theorem dX9_notes_82 : decode cX9_notes 82 = .ok (.iconst 3, 1) := by decide +kernel
theorem dX9_notes_83 : decode cX9_notes 83 = .ok (.iadd, 1) := by decide +kernel
theorem dX9_notes_84 : decode cX9_notes 84 = .ok (.iload_n 3, 1) := by decide +kernel
theorem dX9_notes_85 : decode cX9_notes 85 = .ok (.iastore, 1) := by decide +kernel
theorem dX9_notes_86 : decode cX9_notes 86 = .ok (.aload_n 0, 1) := by decide +kernel
theorem dX9_notes_87 : decode cX9_notes 87 = .ok (.getfield 71, 3) := by decide +kernel
theorem dX9_notes_90 : decode cX9_notes 90 = .ok (.bipush 7, 2) := by decide +kernel
theorem dX9_notes_92 : decode cX9_notes 92 = .ok (.iload 6, 2) := by decide +kernel
theorem dX9_notes_94 : decode cX9_notes 94 = .ok (.imul, 1) := by decide +kernel
theorem dX9_notes_95 : decode cX9_notes 95 = .ok (.iconst 4, 1) := by decide +kernel
theorem dX9_notes_96 : decode cX9_notes 96 = .ok (.iadd, 1) := by decide +kernel
theorem dX9_notes_97 : decode cX9_notes 97 = .ok (.aload_n 0, 1) := by decide +kernel
theorem dX9_notes_98 : decode cX9_notes 98 = .ok (.getfield 13, 3) := by decide +kernel
theorem dX9_notes_101 : decode cX9_notes 101 = .ok (.iload_n 2, 1) := by decide +kernel
theorem dX9_notes_102 : decode cX9_notes 102 = .ok (.iaload, 1) := by decide +kernel
theorem dX9_notes_103 : decode cX9_notes 103 = .ok (.iastore, 1) := by decide +kernel
theorem dX9_notes_104 : decode cX9_notes 104 = .ok (.aload_n 0, 1) := by decide +kernel
theorem dX9_notes_105 : decode cX9_notes 105 = .ok (.getfield 71, 3) := by decide +kernel
theorem dX9_notes_108 : decode cX9_notes 108 = .ok (.bipush 7, 2) := by decide +kernel
theorem dX9_notes_110 : decode cX9_notes 110 = .ok (.iload 6, 2) := by decide +kernel
theorem dX9_notes_112 : decode cX9_notes 112 = .ok (.imul, 1) := by decide +kernel
theorem dX9_notes_113 : decode cX9_notes 113 = .ok (.iconst 5, 1) := by decide +kernel
theorem dX9_notes_114 : decode cX9_notes 114 = .ok (.iadd, 1) := by decide +kernel
theorem dX9_notes_115 : decode cX9_notes 115 = .ok (.aload_n 0, 1) := by decide +kernel
theorem dX9_notes_116 : decode cX9_notes 116 = .ok (.getfield 26, 3) := by decide +kernel
theorem dX9_notes_119 : decode cX9_notes 119 = .ok (.aload_n 0, 1) := by decide +kernel
theorem dX9_notes_120 : decode cX9_notes 120 = .ok (.getfield 13, 3) := by decide +kernel
theorem dX9_notes_123 : decode cX9_notes 123 = .ok (.iload_n 2, 1) := by decide +kernel
theorem dX9_notes_124 : decode cX9_notes 124 = .ok (.iaload, 1) := by decide +kernel
theorem dX9_notes_125 : decode cX9_notes 125 = .ok (.iaload, 1) := by decide +kernel
theorem dX9_notes_126 : decode cX9_notes 126 = .ok (.iastore, 1) := by decide +kernel
theorem dX9_notes_127 : decode cX9_notes 127 = .ok (.aload_n 0, 1) := by decide +kernel
theorem dX9_notes_128 : decode cX9_notes 128 = .ok (.getfield 71, 3) := by decide +kernel
theorem dX9_notes_131 : decode cX9_notes 131 = .ok (.bipush 7, 2) := by decide +kernel
theorem dX9_notes_133 : decode cX9_notes 133 = .ok (.iload 6, 2) := by decide +kernel
theorem dX9_notes_135 : decode cX9_notes 135 = .ok (.imul, 1) := by decide +kernel
theorem dX9_notes_136 : decode cX9_notes 136 = .ok (.bipush 6, 2) := by decide +kernel
theorem dX9_notes_138 : decode cX9_notes 138 = .ok (.iadd, 1) := by decide +kernel
theorem dX9_notes_139 : decode cX9_notes 139 = .ok (.aload_n 0, 1) := by decide +kernel
theorem dX9_notes_140 : decode cX9_notes 140 = .ok (.getfield 216, 3) := by decide +kernel
theorem dX9_notes_143 : decode cX9_notes 143 = .ok (.iastore, 1) := by decide +kernel
theorem dX9_notes_144 : decode cX9_notes 144 = .ok (.aload_n 0, 1) := by decide +kernel
theorem dX9_notes_145 : decode cX9_notes 145 = .ok (.getfield 74, 3) := by decide +kernel
theorem dX9_notes_148 : decode cX9_notes 148 = .ok (.iload 6, 2) := by decide +kernel
theorem dX9_notes_150 : decode cX9_notes 150 = .ok (.aload_n 0, 1) := by decide +kernel
theorem dX9_notes_151 : decode cX9_notes 151 = .ok (.getfield 216, 3) := by decide +kernel
theorem dX9_notes_154 : decode cX9_notes 154 = .ok (.ifCond .le 7, 3) := by decide +kernel
theorem dX9_notes_157 : decode cX9_notes 157 = .ok (.lconst 0, 1) := by decide +kernel
theorem dX9_notes_158 : decode cX9_notes 158 = .ok (.goto 5, 3) := by decide +kernel
theorem dX9_notes_161 : decode cX9_notes 161 = .ok (.lload 4, 2) := by decide +kernel
theorem dX9_notes_163 : decode cX9_notes 163 = .ok (.lastore, 1) := by decide +kernel
theorem dX9_notes_164 : decode cX9_notes 164 = .ok (.aload_n 0, 1) := by decide +kernel
theorem dX9_notes_165 : decode cX9_notes 165 = .ok (.getfield 77, 3) := by decide +kernel
theorem dX9_notes_168 : decode cX9_notes 168 = .ok (.iload 6, 2) := by decide +kernel
theorem dX9_notes_170 : decode cX9_notes 170 = .ok (.aload_n 0, 1) := by decide +kernel
theorem dX9_notes_171 : decode cX9_notes 171 = .ok (.getfield 128, 3) := by decide +kernel
theorem dX9_notes_174 : decode cX9_notes 174 = .ok (.iload_n 1, 1) := by decide +kernel
theorem dX9_notes_175 : decode cX9_notes 175 = .ok (.iaload, 1) := by decide +kernel
theorem dX9_notes_176 : decode cX9_notes 176 = .ok (.iastore, 1) := by decide +kernel
theorem dX9_notes_177 : decode cX9_notes 177 = .ok (.return_, 1) := by decide +kernel
theorem dX9_top_0 : decode cX9_top 0 = .ok (.aload_n 0, 1) := by decide +kernel
theorem dX9_top_1 : decode cX9_top 1 = .ok (.getfield 135, 3) := by decide +kernel
theorem dX9_top_4 : decode cX9_top 4 = .ok (.iload_n 1, 1) := by decide +kernel
theorem dX9_top_5 : decode cX9_top 5 = .ok (.iaload, 1) := by decide +kernel
theorem dX9_top_6 : decode cX9_top 6 = .ok (.ifCond .ne 7, 3) := by decide +kernel
theorem dX9_top_9 : decode cX9_top 9 = .ok (.lconst 0, 1) := by decide +kernel
theorem dX9_top_10 : decode cX9_top 10 = .ok (.goto 21, 3) := by decide +kernel
theorem dX9_top_13 : decode cX9_top 13 = .ok (.aload_n 0, 1) := by decide +kernel
theorem dX9_top_14 : decode cX9_top 14 = .ok (.getfield 138, 3) := by decide +kernel
theorem dX9_top_17 : decode cX9_top 17 = .ok (.bipush 12, 2) := by decide +kernel
theorem dX9_top_19 : decode cX9_top 19 = .ok (.iload_n 1, 1) := by decide +kernel
theorem dX9_top_20 : decode cX9_top 20 = .ok (.imul, 1) := by decide +kernel
theorem dX9_top_21 : decode cX9_top 21 = .ok (.aload_n 0, 1) := by decide +kernel
theorem dX9_top_22 : decode cX9_top 22 = .ok (.getfield 135, 3) := by decide +kernel
theorem dX9_top_25 : decode cX9_top 25 = .ok (.iload_n 1, 1) := by decide +kernel
theorem dX9_top_26 : decode cX9_top 26 = .ok (.iaload, 1) := by decide +kernel
theorem dX9_top_27 : decode cX9_top 27 = .ok (.iadd, 1) := by decide +kernel
theorem dX9_top_28 : decode cX9_top 28 = .ok (.iconst 1, 1) := by decide +kernel
theorem dX9_top_29 : decode cX9_top 29 = .ok (.isub, 1) := by decide +kernel
theorem dX9_top_30 : decode cX9_top 30 = .ok (.laload, 1) := by decide +kernel
theorem dX9_top_31 : decode cX9_top 31 = .ok (.lreturn, 1) := by decide +kernel
theorem dX9_begins_0 : decode cX9_begins 0 = .ok (.bipush 20, 2) := by decide +kernel
theorem dX9_begins_2 : decode cX9_begins 2 = .ok (.aload_n 0, 1) := by decide +kernel
theorem dX9_begins_3 : decode cX9_begins 3 = .ok (.getfield 119, 3) := by decide +kernel
theorem dX9_begins_6 : decode cX9_begins 6 = .ok (.iload_n 1, 1) := by decide +kernel
theorem dX9_begins_7 : decode cX9_begins 7 = .ok (.iaload, 1) := by decide +kernel
theorem dX9_begins_8 : decode cX9_begins 8 = .ok (.imul, 1) := by decide +kernel
theorem dX9_begins_9 : decode cX9_begins 9 = .ok (.aload_n 0, 1) := by decide +kernel
theorem dX9_begins_10 : decode cX9_begins 10 = .ok (.getfield 122, 3) := by decide +kernel
theorem dX9_begins_13 : decode cX9_begins 13 = .ok (.iload_n 1, 1) := by decide +kernel
theorem dX9_begins_14 : decode cX9_begins 14 = .ok (.iaload, 1) := by decide +kernel
theorem dX9_begins_15 : decode cX9_begins 15 = .ok (.iadd, 1) := by decide +kernel
theorem dX9_begins_16 : decode cX9_begins 16 = .ok (.istore_n 2, 1) := by decide +kernel
theorem dX9_begins_17 : decode cX9_begins 17 = .ok (.aload_n 0, 1) := by decide +kernel
theorem dX9_begins_18 : decode cX9_begins 18 = .ok (.getfield 122, 3) := by decide +kernel
theorem dX9_begins_21 : decode cX9_begins 21 = .ok (.iload_n 1, 1) := by decide +kernel
theorem dX9_begins_22 : decode cX9_begins 22 = .ok (.iaload, 1) := by decide +kernel
theorem dX9_begins_23 : decode cX9_begins 23 = .ok (.istore_n 3, 1) := by decide +kernel
theorem dX9_begins_24 : decode cX9_begins 24 = .ok (.aload_n 0, 1) := by decide +kernel
theorem dX9_begins_25 : decode cX9_begins 25 = .ok (.getfield 13, 3) := by decide +kernel
theorem dX9_begins_28 : decode cX9_begins 28 = .ok (.iload_n 2, 1) := by decide +kernel
theorem dX9_begins_29 : decode cX9_begins 29 = .ok (.iaload, 1) := by decide +kernel
theorem dX9_begins_30 : decode cX9_begins 30 = .ok (.istore 4, 2) := by decide +kernel
theorem dX9_begins_32 : decode cX9_begins 32 = .ok (.aload_n 0, 1) := by decide +kernel
theorem dX9_begins_33 : decode cX9_begins 33 = .ok (.getfield 262, 3) := by decide +kernel
theorem dX9_begins_36 : decode cX9_begins 36 = .ok (.aload_n 0, 1) := by decide +kernel
theorem dX9_begins_37 : decode cX9_begins 37 = .ok (.getfield 26, 3) := by decide +kernel
theorem dX9_begins_40 : decode cX9_begins 40 = .ok (.iload 4, 2) := by decide +kernel
theorem dX9_begins_42 : decode cX9_begins 42 = .ok (.iaload, 1) := by decide +kernel
theorem dX9_begins_43 : decode cX9_begins 43 = .ok (.iadd, 1) := by decide +kernel
theorem dX9_begins_44 : decode cX9_begins 44 = .ok (.aload_n 0, 1) := by decide +kernel
theorem dX9_begins_45 : decode cX9_begins 45 = .ok (.getfield 265, 3) := by decide +kernel
theorem dX9_begins_48 : decode cX9_begins 48 = .ok (.if_icmp .le 10, 3) := by decide +kernel
theorem dX9_begins_51 : decode cX9_begins 51 = .ok (.aload_n 0, 1) := by decide +kernel
theorem dX9_begins_52 : decode cX9_begins 52 = .ok (.bipush 6, 2) := by decide +kernel
theorem dX9_begins_54 : decode cX9_begins 54 = .ok (.putfield 216, 3) := by decide +kernel
theorem dX9_begins_57 : decode cX9_begins 57 = .ok (.return_, 1) := by decide +kernel
theorem dX9_begins_58 : decode cX9_begins 58 = .ok (.aload_n 0, 1) := by decide +kernel
theorem dX9_begins_59 : decode cX9_begins 59 = .ok (.getfield 259, 3) := by decide +kernel
theorem dX9_begins_62 : decode cX9_begins 62 = .ok (.aload_n 0, 1) := by decide +kernel
theorem dX9_begins_63 : decode cX9_begins 63 = .ok (.getfield 268, 3) := by decide +kernel
theorem dX9_begins_66 : decode cX9_begins 66 = .ok (.if_icmp .ne 9, 3) := by decide +kernel
theorem dX9_begins_69 : decode cX9_begins 69 = .ok (.aload_n 0, 1) := by decide +kernel
theorem dX9_begins_70 : decode cX9_begins 70 = .ok (.iconst 1, 1) := by decide +kernel
theorem dX9_begins_71 : decode cX9_begins 71 = .ok (.putfield 271, 3) := by decide +kernel
theorem dX9_begins_74 : decode cX9_begins 74 = .ok (.return_, 1) := by decide +kernel
theorem dX9_begins_75 : decode cX9_begins 75 = .ok (.aload_n 0, 1) := by decide +kernel
theorem dX9_begins_76 : decode cX9_begins 76 = .ok (.dup, 1) := by decide +kernel
theorem dX9_begins_77 : decode cX9_begins 77 = .ok (.getfield 262, 3) := by decide +kernel
theorem dX9_begins_80 : decode cX9_begins 80 = .ok (.aload_n 0, 1) := by decide +kernel
theorem dX9_begins_81 : decode cX9_begins 81 = .ok (.getfield 26, 3) := by decide +kernel
theorem dX9_begins_84 : decode cX9_begins 84 = .ok (.iload 4, 2) := by decide +kernel
theorem dX9_begins_86 : decode cX9_begins 86 = .ok (.iaload, 1) := by decide +kernel
theorem dX9_begins_87 : decode cX9_begins 87 = .ok (.iadd, 1) := by decide +kernel
theorem dX9_begins_88 : decode cX9_begins 88 = .ok (.putfield 262, 3) := by decide +kernel
theorem dX9_begins_91 : decode cX9_begins 91 = .ok (.aload_n 0, 1) := by decide +kernel
theorem dX9_begins_92 : decode cX9_begins 92 = .ok (.dup, 1) := by decide +kernel
theorem dX9_begins_93 : decode cX9_begins 93 = .ok (.getfield 259, 3) := by decide +kernel
theorem dX9_begins_96 : decode cX9_begins 96 = .ok (.iconst 1, 1) := by decide +kernel
theorem dX9_begins_97 : decode cX9_begins 97 = .ok (.iadd, 1) := by decide +kernel
theorem dX9_begins_98 : decode cX9_begins 98 = .ok (.putfield 259, 3) := by decide +kernel
theorem dX9_begins_101 : decode cX9_begins 101 = .ok (.iload 4, 2) := by decide +kernel
theorem dX9_begins_103 : decode cX9_begins 103 = .ok (.bipush 6, 2) := by decide +kernel
theorem dX9_begins_105 : decode cX9_begins 105 = .ok (.if_icmp .eq 10, 3) := by decide +kernel
theorem dX9_begins_108 : decode cX9_begins 108 = .ok (.iload 4, 2) := by decide +kernel
theorem dX9_begins_110 : decode cX9_begins 110 = .ok (.bipush 7, 2) := by decide +kernel
theorem dX9_begins_112 : decode cX9_begins 112 = .ok (.if_icmp .ne 76, 3) := by decide +kernel
theorem dX9_begins_115 : decode cX9_begins 115 = .ok (.aload_n 0, 1) := by decide +kernel
theorem dX9_begins_116 : decode cX9_begins 116 = .ok (.getfield 122, 3) := by decide +kernel
theorem dX9_begins_119 : decode cX9_begins 119 = .ok (.iload_n 1, 1) := by decide +kernel
theorem dX9_begins_120 : decode cX9_begins 120 = .ok (.dup2, 1) := by decide +kernel
theorem dX9_begins_121 : decode cX9_begins 121 = .ok (.iaload, 1) := by decide +kernel
theorem dX9_begins_122 : decode cX9_begins 122 = .ok (.iconst 1, 1) := by decide +kernel
theorem dX9_begins_123 : decode cX9_begins 123 = .ok (.iadd, 1) := by decide +kernel
theorem dX9_begins_124 : decode cX9_begins 124 = .ok (.iastore, 1) := by decide +kernel
theorem dX9_begins_125 : decode cX9_begins 125 = .ok (.aload_n 0, 1) := by decide +kernel
theorem dX9_begins_126 : decode cX9_begins 126 = .ok (.iload_n 1, 1) := by decide +kernel
theorem dX9_begins_127 : decode cX9_begins 127 = .ok (.invokevirtual 234, 3) := by decide +kernel
theorem dX9_begins_130 : decode cX9_begins 130 = .ok (.lstore 5, 2) := by decide +kernel
theorem dX9_begins_132 : decode cX9_begins 132 = .ok (.aload_n 0, 1) := by decide +kernel
theorem dX9_begins_133 : decode cX9_begins 133 = .ok (.iload_n 1, 1) := by decide +kernel
theorem dX9_begins_134 : decode cX9_begins 134 = .ok (.iload_n 2, 1) := by decide +kernel
theorem dX9_begins_135 : decode cX9_begins 135 = .ok (.invokevirtual 274, 3) := by decide +kernel
theorem dX9_begins_138 : decode cX9_begins 138 = .ok (.istore 7, 2) := by decide +kernel
theorem dX9_begins_140 : decode cX9_begins 140 = .ok (.aload_n 0, 1) := by decide +kernel
theorem dX9_begins_141 : decode cX9_begins 141 = .ok (.iload_n 1, 1) := by decide +kernel
theorem dX9_begins_142 : decode cX9_begins 142 = .ok (.iload_n 2, 1) := by decide +kernel
theorem dX9_begins_143 : decode cX9_begins 143 = .ok (.iload_n 3, 1) := by decide +kernel
theorem dX9_begins_144 : decode cX9_begins 144 = .ok (.lload 5, 2) := by decide +kernel
theorem dX9_begins_146 : decode cX9_begins 146 = .ok (.invokevirtual 278, 3) := by decide +kernel
theorem dX9_begins_149 : decode cX9_begins 149 = .ok (.iload 7, 2) := by decide +kernel
theorem dX9_begins_151 : decode cX9_begins 151 = .ok (.ifCond .eq 34, 3) := by decide +kernel
theorem dX9_begins_154 : decode cX9_begins 154 = .ok (.aload_n 0, 1) := by decide +kernel
theorem dX9_begins_155 : decode cX9_begins 155 = .ok (.aload_n 0, 1) := by decide +kernel
theorem dX9_begins_156 : decode cX9_begins 156 = .ok (.getfield 16, 3) := by decide +kernel
theorem dX9_begins_159 : decode cX9_begins 159 = .ok (.iload_n 2, 1) := by decide +kernel
theorem dX9_begins_160 : decode cX9_begins 160 = .ok (.laload, 1) := by decide +kernel
theorem dX9_begins_161 : decode cX9_begins 161 = .ok (.l2i, 1) := by decide +kernel
theorem dX9_begins_162 : decode cX9_begins 162 = .ok (.aload_n 0, 1) := by decide +kernel
theorem dX9_begins_163 : decode cX9_begins 163 = .ok (.getfield 20, 3) := by decide +kernel
theorem dX9_begins_166 : decode cX9_begins 166 = .ok (.iload_n 2, 1) := by decide +kernel
theorem dX9_begins_167 : decode cX9_begins 167 = .ok (.iaload, 1) := by decide +kernel
theorem dX9_begins_168 : decode cX9_begins 168 = .ok (.lload 5, 2) := by decide +kernel
theorem dX9_begins_170 : decode cX9_begins 170 = .ok (.iload 4, 2) := by decide +kernel
theorem dX9_begins_172 : decode cX9_begins 172 = .ok (.bipush 7, 2) := by decide +kernel
theorem dX9_begins_174 : decode cX9_begins 174 = .ok (.if_icmp .ne 7, 3) := by decide +kernel
theorem dX9_begins_177 : decode cX9_begins 177 = .ok (.iconst 1, 1) := by decide +kernel
theorem dX9_begins_178 : decode cX9_begins 178 = .ok (.goto 4, 3) := by decide +kernel
theorem dX9_begins_181 : decode cX9_begins 181 = .ok (.iconst 0, 1) := by decide +kernel
theorem dX9_begins_182 : decode cX9_begins 182 = .ok (.invokevirtual 282, 3) := by decide +kernel
theorem dX9_begins_185 : decode cX9_begins 185 = .ok (.goto 63, 3) := by decide +kernel
theorem dX9_begins_188 : decode cX9_begins 188 = .ok (.iload 4, 2) := by decide +kernel
theorem dX9_begins_190 : decode cX9_begins 190 = .ok (.bipush 10, 2) := by decide +kernel
theorem dX9_begins_192 : decode cX9_begins 192 = .ok (.if_icmp .ne 38, 3) := by decide +kernel
theorem dX9_begins_195 : decode cX9_begins 195 = .ok (.aload_n 0, 1) := by decide +kernel
theorem dX9_begins_196 : decode cX9_begins 196 = .ok (.iload_n 1, 1) := by decide +kernel
theorem dX9_begins_197 : decode cX9_begins 197 = .ok (.invokevirtual 234, 3) := by decide +kernel
theorem dX9_begins_200 : decode cX9_begins 200 = .ok (.lstore 5, 2) := by decide +kernel
theorem dX9_begins_202 : decode cX9_begins 202 = .ok (.aload_n 0, 1) := by decide +kernel
theorem dX9_begins_203 : decode cX9_begins 203 = .ok (.iload_n 1, 1) := by decide +kernel
theorem dX9_begins_204 : decode cX9_begins 204 = .ok (.iload_n 2, 1) := by decide +kernel
theorem dX9_begins_205 : decode cX9_begins 205 = .ok (.iload_n 3, 1) := by decide +kernel
theorem dX9_begins_206 : decode cX9_begins 206 = .ok (.aload_n 0, 1) := by decide +kernel
theorem dX9_begins_207 : decode cX9_begins 207 = .ok (.iload_n 1, 1) := by decide +kernel
theorem dX9_begins_208 : decode cX9_begins 208 = .ok (.invokevirtual 286, 3) := by decide +kernel
theorem dX9_begins_211 : decode cX9_begins 211 = .ok (.invokevirtual 278, 3) := by decide +kernel
theorem dX9_begins_214 : decode cX9_begins 214 = .ok (.aload_n 0, 1) := by decide +kernel
theorem dX9_begins_215 : decode cX9_begins 215 = .ok (.getfield 216, 3) := by decide +kernel
theorem dX9_begins_218 : decode cX9_begins 218 = .ok (.ifCond .ne 9, 3) := by decide +kernel
theorem dX9_begins_221 : decode cX9_begins 221 = .ok (.aload_n 0, 1) := by decide +kernel
theorem dX9_begins_222 : decode cX9_begins 222 = .ok (.lload 5, 2) := by decide +kernel
theorem dX9_begins_224 : decode cX9_begins 224 = .ok (.invokevirtual 289, 3) := by decide +kernel
theorem dX9_begins_227 : decode cX9_begins 227 = .ok (.goto 21, 3) := by decide +kernel
theorem dX9_begins_230 : decode cX9_begins 230 = .ok (.aload_n 0, 1) := by decide +kernel
theorem dX9_begins_231 : decode cX9_begins 231 = .ok (.iload_n 1, 1) := by decide +kernel
theorem dX9_begins_232 : decode cX9_begins 232 = .ok (.iload_n 2, 1) := by decide +kernel
theorem dX9_begins_233 : decode cX9_begins 233 = .ok (.invokevirtual 293, 3) := by decide +kernel
theorem dX9_begins_236 : decode cX9_begins 236 = .ok (.aload_n 0, 1) := by decide +kernel
theorem dX9_begins_237 : decode cX9_begins 237 = .ok (.iload_n 1, 1) := by decide +kernel
theorem dX9_begins_238 : decode cX9_begins 238 = .ok (.iload_n 2, 1) := by decide +kernel
theorem dX9_begins_239 : decode cX9_begins 239 = .ok (.iload_n 3, 1) := by decide +kernel
theorem dX9_begins_240 : decode cX9_begins 240 = .ok (.aload_n 0, 1) := by decide +kernel
theorem dX9_begins_241 : decode cX9_begins 241 = .ok (.iload_n 1, 1) := by decide +kernel
theorem dX9_begins_242 : decode cX9_begins 242 = .ok (.invokevirtual 286, 3) := by decide +kernel
theorem dX9_begins_245 : decode cX9_begins 245 = .ok (.invokevirtual 278, 3) := by decide +kernel
theorem dX9_begins_248 : decode cX9_begins 248 = .ok (.return_, 1) := by decide +kernel
theorem dX9_walk_0 : decode cX9_walk 0 = .ok (.aload_n 0, 1) := by decide +kernel
theorem dX9_walk_1 : decode cX9_walk 1 = .ok (.iload 5, 2) := by decide +kernel
theorem dX9_walk_3 : decode cX9_walk 3 = .ok (.putfield 265, 3) := by decide +kernel
theorem dX9_walk_6 : decode cX9_walk 6 = .ok (.aload_n 0, 1) := by decide +kernel
theorem dX9_walk_7 : decode cX9_walk 7 = .ok (.iload 6, 2) := by decide +kernel
theorem dX9_walk_9 : decode cX9_walk 9 = .ok (.putfield 268, 3) := by decide +kernel
theorem dX9_walk_12 : decode cX9_walk 12 = .ok (.aload_n 0, 1) := by decide +kernel
theorem dX9_walk_13 : decode cX9_walk 13 = .ok (.iconst 0, 1) := by decide +kernel
theorem dX9_walk_14 : decode cX9_walk 14 = .ok (.putfield 271, 3) := by decide +kernel
theorem dX9_walk_17 : decode cX9_walk 17 = .ok (.aload_n 0, 1) := by decide +kernel
theorem dX9_walk_18 : decode cX9_walk 18 = .ok (.iconst 0, 1) := by decide +kernel
theorem dX9_walk_19 : decode cX9_walk 19 = .ok (.putfield 262, 3) := by decide +kernel
theorem dX9_walk_22 : decode cX9_walk 22 = .ok (.aload_n 0, 1) := by decide +kernel
theorem dX9_walk_23 : decode cX9_walk 23 = .ok (.iconst 0, 1) := by decide +kernel
theorem dX9_walk_24 : decode cX9_walk 24 = .ok (.putfield 259, 3) := by decide +kernel
theorem dX9_walk_27 : decode cX9_walk 27 = .ok (.aload_n 0, 1) := by decide +kernel
theorem dX9_walk_28 : decode cX9_walk 28 = .ok (.iconst 0, 1) := by decide +kernel
theorem dX9_walk_29 : decode cX9_walk 29 = .ok (.putfield 216, 3) := by decide +kernel
theorem dX9_walk_32 : decode cX9_walk 32 = .ok (.aload_n 0, 1) := by decide +kernel
theorem dX9_walk_33 : decode cX9_walk 33 = .ok (.lconst 0, 1) := by decide +kernel
theorem dX9_walk_34 : decode cX9_walk 34 = .ok (.putfield 231, 3) := by decide +kernel
theorem dX9_walk_37 : decode cX9_walk 37 = .ok (.aload_n 0, 1) := by decide +kernel
theorem dX9_walk_38 : decode cX9_walk 38 = .ok (.lconst 0, 1) := by decide +kernel
theorem dX9_walk_39 : decode cX9_walk 39 = .ok (.putfield 219, 3) := by decide +kernel
theorem dX9_walk_42 : decode cX9_walk 42 = .ok (.aload_n 0, 1) := by decide +kernel
theorem dX9_walk_43 : decode cX9_walk 43 = .ok (.iconst 0, 1) := by decide +kernel
theorem dX9_walk_44 : decode cX9_walk 44 = .ok (.putfield 203, 3) := by decide +kernel
theorem dX9_walk_47 : decode cX9_walk 47 = .ok (.aload_n 0, 1) := by decide +kernel
theorem dX9_walk_48 : decode cX9_walk 48 = .ok (.iconst 0, 1) := by decide +kernel
theorem dX9_walk_49 : decode cX9_walk 49 = .ok (.putfield 213, 3) := by decide +kernel
theorem dX9_walk_52 : decode cX9_walk 52 = .ok (.aload_n 0, 1) := by decide +kernel
theorem dX9_walk_53 : decode cX9_walk 53 = .ok (.iconst 0, 1) := by decide +kernel
theorem dX9_walk_54 : decode cX9_walk 54 = .ok (.putfield 200, 3) := by decide +kernel
theorem dX9_walk_57 : decode cX9_walk 57 = .ok (.aload_n 0, 1) := by decide +kernel
theorem dX9_walk_58 : decode cX9_walk 58 = .ok (.iload_n 1, 1) := by decide +kernel
theorem dX9_walk_59 : decode cX9_walk 59 = .ok (.iload_n 2, 1) := by decide +kernel
theorem dX9_walk_60 : decode cX9_walk 60 = .ok (.lload_n 3, 1) := by decide +kernel
theorem dX9_walk_61 : decode cX9_walk 61 = .ok (.iconst 0, 1) := by decide +kernel
theorem dX9_walk_62 : decode cX9_walk 62 = .ok (.invokevirtual 282, 3) := by decide +kernel
theorem dX9_walk_65 : decode cX9_walk 65 = .ok (.aload_n 0, 1) := by decide +kernel
theorem dX9_walk_66 : decode cX9_walk 66 = .ok (.getfield 200, 3) := by decide +kernel
theorem dX9_walk_69 : decode cX9_walk 69 = .ok (.ifCond .le 71, 3) := by decide +kernel
theorem dX9_walk_72 : decode cX9_walk 72 = .ok (.aload_n 0, 1) := by decide +kernel
theorem dX9_walk_73 : decode cX9_walk 73 = .ok (.getfield 271, 3) := by decide +kernel
theorem dX9_walk_76 : decode cX9_walk 76 = .ok (.ifCond .ne 64, 3) := by decide +kernel
theorem dX9_walk_79 : decode cX9_walk 79 = .ok (.aload_n 0, 1) := by decide +kernel
theorem dX9_walk_80 : decode cX9_walk 80 = .ok (.getfield 200, 3) := by decide +kernel
theorem dX9_walk_83 : decode cX9_walk 83 = .ok (.iconst 1, 1) := by decide +kernel
theorem dX9_walk_84 : decode cX9_walk 84 = .ok (.isub, 1) := by decide +kernel
theorem dX9_walk_85 : decode cX9_walk 85 = .ok (.istore 7, 2) := by decide +kernel
theorem dX9_walk_87 : decode cX9_walk 87 = .ok (.aload_n 0, 1) := by decide +kernel
theorem dX9_walk_88 : decode cX9_walk 88 = .ok (.getfield 216, 3) := by decide +kernel
theorem dX9_walk_91 : decode cX9_walk 91 = .ok (.ifCond .le 10, 3) := by decide +kernel
theorem dX9_walk_94 : decode cX9_walk 94 = .ok (.aload_n 0, 1) := by decide +kernel
theorem dX9_walk_95 : decode cX9_walk 95 = .ok (.invokevirtual 297, 3) := by decide +kernel
theorem dX9_walk_98 : decode cX9_walk 98 = .ok (.goto 39, 3) := by decide +kernel
theorem dX9_walk_101 : decode cX9_walk 101 = .ok (.aload_n 0, 1) := by decide +kernel
theorem dX9_walk_102 : decode cX9_walk 102 = .ok (.getfield 122, 3) := by decide +kernel
theorem dX9_walk_105 : decode cX9_walk 105 = .ok (.iload 7, 2) := by decide +kernel
theorem dX9_walk_107 : decode cX9_walk 107 = .ok (.iaload, 1) := by decide +kernel
theorem dX9_walk_108 : decode cX9_walk 108 = .ok (.aload_n 0, 1) := by decide +kernel
theorem dX9_walk_109 : decode cX9_walk 109 = .ok (.getfield 7, 3) := by decide +kernel
theorem dX9_walk_112 : decode cX9_walk 112 = .ok (.aload_n 0, 1) := by decide +kernel
theorem dX9_walk_113 : decode cX9_walk 113 = .ok (.getfield 119, 3) := by decide +kernel
theorem dX9_walk_116 : decode cX9_walk 116 = .ok (.iload 7, 2) := by decide +kernel
theorem dX9_walk_118 : decode cX9_walk 118 = .ok (.iaload, 1) := by decide +kernel
theorem dX9_walk_119 : decode cX9_walk 119 = .ok (.iaload, 1) := by decide +kernel
theorem dX9_walk_120 : decode cX9_walk 120 = .ok (.if_icmp .ne 11, 3) := by decide +kernel
theorem dX9_walk_123 : decode cX9_walk 123 = .ok (.aload_n 0, 1) := by decide +kernel
theorem dX9_walk_124 : decode cX9_walk 124 = .ok (.lconst 0, 1) := by decide +kernel
theorem dX9_walk_125 : decode cX9_walk 125 = .ok (.invokevirtual 289, 3) := by decide +kernel
theorem dX9_walk_128 : decode cX9_walk 128 = .ok (.goto 9, 3) := by decide +kernel
theorem dX9_walk_131 : decode cX9_walk 131 = .ok (.aload_n 0, 1) := by decide +kernel
theorem dX9_walk_132 : decode cX9_walk 132 = .ok (.iload 7, 2) := by decide +kernel
theorem dX9_walk_134 : decode cX9_walk 134 = .ok (.invokevirtual 300, 3) := by decide +kernel
theorem dX9_walk_137 : decode cX9_walk 137 = .ok (.goto (-72), 3) := by decide +kernel
theorem dX9_walk_140 : decode cX9_walk 140 = .ok (.return_, 1) := by decide +kernel
theorem dX9_call_0 : decode cX9_call 0 = .ok (.aload_n 0, 1) := by decide +kernel
theorem dX9_call_1 : decode cX9_call 1 = .ok (.iload_n 1, 1) := by decide +kernel
theorem dX9_call_2 : decode cX9_call 2 = .ok (.i2l, 1) := by decide +kernel
theorem dX9_call_3 : decode cX9_call 3 = .ok (.invokevirtual 184, 3) := by decide +kernel
theorem dX9_call_6 : decode cX9_call 6 = .ok (.ifCond .ne 5, 3) := by decide +kernel
theorem dX9_call_9 : decode cX9_call 9 = .ok (.iconst (-1), 1) := by decide +kernel
theorem dX9_call_10 : decode cX9_call 10 = .ok (.ireturn, 1) := by decide +kernel
theorem dX9_call_11 : decode cX9_call 11 = .ok (.iload_n 2, 1) := by decide +kernel
theorem dX9_call_12 : decode cX9_call 12 = .ok (.i2l, 1) := by decide +kernel
theorem dX9_call_13 : decode cX9_call 13 = .ok (.lconst 0, 1) := by decide +kernel
theorem dX9_call_14 : decode cX9_call 14 = .ok (.ldc2_w 188, 3) := by decide +kernel
theorem dX9_call_17 : decode cX9_call 17 = .ok (.invokestatic 172, 3) := by decide +kernel
theorem dX9_call_20 : decode cX9_call 20 = .ok (.ifCond .eq 16, 3) := by decide +kernel
theorem dX9_call_23 : decode cX9_call 23 = .ok (.iload 5, 2) := by decide +kernel
theorem dX9_call_25 : decode cX9_call 25 = .ok (.i2l, 1) := by decide +kernel
theorem dX9_call_26 : decode cX9_call 26 = .ok (.lconst 1, 1) := by decide +kernel
theorem dX9_call_27 : decode cX9_call 27 = .ok (.ldc2_w 303, 3) := by decide +kernel
theorem dX9_call_30 : decode cX9_call 30 = .ok (.invokestatic 172, 3) := by decide +kernel
theorem dX9_call_33 : decode cX9_call 33 = .ok (.ifCond .ne 6, 3) := by decide +kernel
theorem dX9_call_36 : decode cX9_call 36 = .ok (.bipush (-2), 2) := by decide +kernel
theorem dX9_call_38 : decode cX9_call 38 = .ok (.ireturn, 1) := by decide +kernel
theorem dX9_call_39 : decode cX9_call 39 = .ok (.aload_n 0, 1) := by decide +kernel
theorem dX9_call_40 : decode cX9_call 40 = .ok (.getfield 23, 3) := by decide +kernel
theorem dX9_call_43 : decode cX9_call 43 = .ok (.iconst 4, 1) := by decide +kernel
theorem dX9_call_44 : decode cX9_call 44 = .ok (.iload_n 1, 1) := by decide +kernel
theorem dX9_call_45 : decode cX9_call 45 = .ok (.imul, 1) := by decide +kernel
theorem dX9_call_46 : decode cX9_call 46 = .ok (.iload_n 2, 1) := by decide +kernel
theorem dX9_call_47 : decode cX9_call 47 = .ok (.iadd, 1) := by decide +kernel
theorem dX9_call_48 : decode cX9_call 48 = .ok (.iaload, 1) := by decide +kernel
theorem dX9_call_49 : decode cX9_call 49 = .ok (.ifCond .ge 6, 3) := by decide +kernel
theorem dX9_call_52 : decode cX9_call 52 = .ok (.bipush (-3), 2) := by decide +kernel
theorem dX9_call_54 : decode cX9_call 54 = .ok (.ireturn, 1) := by decide +kernel
theorem dX9_call_55 : decode cX9_call 55 = .ok (.aload_n 0, 1) := by decide +kernel
theorem dX9_call_56 : decode cX9_call 56 = .ok (.getfield 176, 3) := by decide +kernel
theorem dX9_call_59 : decode cX9_call 59 = .ok (.bipush 8, 2) := by decide +kernel
theorem dX9_call_61 : decode cX9_call 61 = .ok (.if_icmp .eq 13, 3) := by decide +kernel
theorem dX9_call_64 : decode cX9_call 64 = .ok (.aload_n 0, 1) := by decide +kernel
theorem dX9_call_65 : decode cX9_call 65 = .ok (.getfield 305, 3) := by decide +kernel
theorem dX9_call_68 : decode cX9_call 68 = .ok (.sipush 150, 3) := by decide +kernel
theorem dX9_call_71 : decode cX9_call 71 = .ok (.if_icmp .ne 6, 3) := by decide +kernel
theorem dX9_call_74 : decode cX9_call 74 = .ok (.bipush (-4), 2) := by decide +kernel
theorem dX9_call_76 : decode cX9_call 76 = .ok (.ireturn, 1) := by decide +kernel
theorem dX9_call_77 : decode cX9_call 77 = .ok (.aload_n 0, 1) := by decide +kernel
theorem dX9_call_78 : decode cX9_call 78 = .ok (.aload_n 0, 1) := by decide +kernel
theorem dX9_call_79 : decode cX9_call 79 = .ok (.getfield 176, 3) := by decide +kernel
theorem dX9_call_82 : decode cX9_call 82 = .ok (.putfield 210, 3) := by decide +kernel
theorem dX9_call_85 : decode cX9_call 85 = .ok (.iconst 0, 1) := by decide +kernel
theorem dX9_call_86 : decode cX9_call 86 = .ok (.istore 6, 2) := by decide +kernel
theorem dX9_call_88 : decode cX9_call 88 = .ok (.iload 6, 2) := by decide +kernel
theorem dX9_call_90 : decode cX9_call 90 = .ok (.bipush 48, 2) := by decide +kernel
theorem dX9_call_92 : decode cX9_call 92 = .ok (.if_icmp .ge 31, 3) := by decide +kernel
theorem dX9_call_95 : decode cX9_call 95 = .ok (.aload_n 0, 1) := by decide +kernel
theorem dX9_call_96 : decode cX9_call 96 = .ok (.getfield 47, 3) := by decide +kernel
theorem dX9_call_99 : decode cX9_call 99 = .ok (.bipush 48, 2) := by decide +kernel
theorem dX9_call_101 : decode cX9_call 101 = .ok (.aload_n 0, 1) := by decide +kernel
theorem dX9_call_102 : decode cX9_call 102 = .ok (.getfield 210, 3) := by decide +kernel
theorem dX9_call_105 : decode cX9_call 105 = .ok (.imul, 1) := by decide +kernel
theorem dX9_call_106 : decode cX9_call 106 = .ok (.iload 6, 2) := by decide +kernel
theorem dX9_call_108 : decode cX9_call 108 = .ok (.iadd, 1) := by decide +kernel
theorem dX9_call_109 : decode cX9_call 109 = .ok (.aload_n 0, 1) := by decide +kernel
theorem dX9_call_110 : decode cX9_call 110 = .ok (.getfield 29, 3) := by decide +kernel
theorem dX9_call_113 : decode cX9_call 113 = .ok (.iload 6, 2) := by decide +kernel
theorem dX9_call_115 : decode cX9_call 115 = .ok (.laload, 1) := by decide +kernel
theorem dX9_call_116 : decode cX9_call 116 = .ok (.lastore, 1) := by decide +kernel
theorem dX9_call_117 : decode cX9_call 117 = .ok (.iinc 6 1, 3) := by decide +kernel
theorem dX9_call_120 : decode cX9_call 120 = .ok (.goto (-32), 3) := by decide +kernel
theorem dX9_call_123 : decode cX9_call 123 = .ok (.iconst 0, 1) := by decide +kernel
theorem dX9_call_124 : decode cX9_call 124 = .ok (.istore 6, 2) := by decide +kernel
theorem dX9_call_126 : decode cX9_call 126 = .ok (.iload 6, 2) := by decide +kernel
theorem dX9_call_128 : decode cX9_call 128 = .ok (.bipush 6, 2) := by decide +kernel
theorem dX9_call_130 : decode cX9_call 130 = .ok (.if_icmp .ge 63, 3) := by decide +kernel
theorem dX9_call_133 : decode cX9_call 133 = .ok (.aload_n 0, 1) := by decide +kernel
theorem dX9_call_134 : decode cX9_call 134 = .ok (.getfield 50, 3) := by decide +kernel
theorem dX9_call_137 : decode cX9_call 137 = .ok (.bipush 6, 2) := by decide +kernel
theorem dX9_call_139 : decode cX9_call 139 = .ok (.aload_n 0, 1) := by decide +kernel
theorem dX9_call_140 : decode cX9_call 140 = .ok (.getfield 210, 3) := by decide +kernel
theorem dX9_call_143 : decode cX9_call 143 = .ok (.imul, 1) := by decide +kernel
theorem dX9_call_144 : decode cX9_call 144 = .ok (.iload 6, 2) := by decide +kernel
theorem dX9_call_146 : decode cX9_call 146 = .ok (.iadd, 1) := by decide +kernel
theorem dX9_call_147 : decode cX9_call 147 = .ok (.aload_n 0, 1) := by decide +kernel
theorem dX9_call_148 : decode cX9_call 148 = .ok (.getfield 32, 3) := by decide +kernel
theorem dX9_call_151 : decode cX9_call 151 = .ok (.iload 6, 2) := by decide +kernel
theorem dX9_call_153 : decode cX9_call 153 = .ok (.laload, 1) := by decide +kernel
theorem dX9_call_154 : decode cX9_call 154 = .ok (.lastore, 1) := by decide +kernel
theorem dX9_call_155 : decode cX9_call 155 = .ok (.aload_n 0, 1) := by decide +kernel
theorem dX9_call_156 : decode cX9_call 156 = .ok (.getfield 107, 3) := by decide +kernel
theorem dX9_call_159 : decode cX9_call 159 = .ok (.bipush 6, 2) := by decide +kernel
theorem dX9_call_161 : decode cX9_call 161 = .ok (.aload_n 0, 1) := by decide +kernel
theorem dX9_call_162 : decode cX9_call 162 = .ok (.getfield 210, 3) := by decide +kernel
theorem dX9_call_165 : decode cX9_call 165 = .ok (.imul, 1) := by decide +kernel
theorem dX9_call_166 : decode cX9_call 166 = .ok (.iload 6, 2) := by decide +kernel
theorem dX9_call_168 : decode cX9_call 168 = .ok (.iadd, 1) := by decide +kernel
theorem dX9_call_169 : decode cX9_call 169 = .ok (.lconst 0, 1) := by decide +kernel
theorem dX9_call_170 : decode cX9_call 170 = .ok (.lastore, 1) := by decide +kernel
theorem dX9_call_171 : decode cX9_call 171 = .ok (.aload_n 0, 1) := by decide +kernel
theorem dX9_call_172 : decode cX9_call 172 = .ok (.getfield 110, 3) := by decide +kernel
theorem dX9_call_175 : decode cX9_call 175 = .ok (.bipush 6, 2) := by decide +kernel
theorem dX9_call_177 : decode cX9_call 177 = .ok (.aload_n 0, 1) := by decide +kernel
theorem dX9_call_178 : decode cX9_call 178 = .ok (.getfield 210, 3) := by decide +kernel
theorem dX9_call_181 : decode cX9_call 181 = .ok (.imul, 1) := by decide +kernel
theorem dX9_call_182 : decode cX9_call 182 = .ok (.iload 6, 2) := by decide +kernel
theorem dX9_call_184 : decode cX9_call 184 = .ok (.iadd, 1) := by decide +kernel
theorem dX9_call_185 : decode cX9_call 185 = .ok (.lconst 0, 1) := by decide +kernel
theorem dX9_call_186 : decode cX9_call 186 = .ok (.lastore, 1) := by decide +kernel
theorem dX9_call_187 : decode cX9_call 187 = .ok (.iinc 6 1, 3) := by decide +kernel
theorem dX9_call_190 : decode cX9_call 190 = .ok (.goto (-64), 3) := by decide +kernel
theorem dX9_call_193 : decode cX9_call 193 = .ok (.aload_n 0, 1) := by decide +kernel
theorem dX9_call_194 : decode cX9_call 194 = .ok (.getfield 35, 3) := by decide +kernel
theorem dX9_call_197 : decode cX9_call 197 = .ok (.aload_n 0, 1) := by decide +kernel
theorem dX9_call_198 : decode cX9_call 198 = .ok (.getfield 210, 3) := by decide +kernel
theorem dX9_call_201 : decode cX9_call 201 = .ok (.iload_n 1, 1) := by decide +kernel
theorem dX9_call_202 : decode cX9_call 202 = .ok (.iastore, 1) := by decide +kernel
theorem dX9_call_203 : decode cX9_call 203 = .ok (.aload_n 0, 1) := by decide +kernel
theorem dX9_call_204 : decode cX9_call 204 = .ok (.getfield 38, 3) := by decide +kernel
theorem dX9_call_207 : decode cX9_call 207 = .ok (.aload_n 0, 1) := by decide +kernel
theorem dX9_call_208 : decode cX9_call 208 = .ok (.getfield 210, 3) := by decide +kernel
theorem dX9_call_211 : decode cX9_call 211 = .ok (.iload_n 2, 1) := by decide +kernel
theorem dX9_call_212 : decode cX9_call 212 = .ok (.iastore, 1) := by decide +kernel
theorem dX9_call_213 : decode cX9_call 213 = .ok (.aload_n 0, 1) := by decide +kernel
theorem dX9_call_214 : decode cX9_call 214 = .ok (.getfield 41, 3) := by decide +kernel
theorem dX9_call_217 : decode cX9_call 217 = .ok (.aload_n 0, 1) := by decide +kernel
theorem dX9_call_218 : decode cX9_call 218 = .ok (.getfield 210, 3) := by decide +kernel
theorem dX9_call_221 : decode cX9_call 221 = .ok (.lload_n 3, 1) := by decide +kernel
theorem dX9_call_222 : decode cX9_call 222 = .ok (.lastore, 1) := by decide +kernel
theorem dX9_call_223 : decode cX9_call 223 = .ok (.aload_n 0, 1) := by decide +kernel
theorem dX9_call_224 : decode cX9_call 224 = .ok (.getfield 44, 3) := by decide +kernel
theorem dX9_call_227 : decode cX9_call 227 = .ok (.aload_n 0, 1) := by decide +kernel
theorem dX9_call_228 : decode cX9_call 228 = .ok (.getfield 210, 3) := by decide +kernel
theorem dX9_call_231 : decode cX9_call 231 = .ok (.iload 5, 2) := by decide +kernel
theorem dX9_call_233 : decode cX9_call 233 = .ok (.iastore, 1) := by decide +kernel
theorem dX9_call_234 : decode cX9_call 234 = .ok (.aload_n 0, 1) := by decide +kernel
theorem dX9_call_235 : decode cX9_call 235 = .ok (.getfield 89, 3) := by decide +kernel
theorem dX9_call_238 : decode cX9_call 238 = .ok (.aload_n 0, 1) := by decide +kernel
theorem dX9_call_239 : decode cX9_call 239 = .ok (.getfield 210, 3) := by decide +kernel
theorem dX9_call_242 : decode cX9_call 242 = .ok (.iconst 0, 1) := by decide +kernel
theorem dX9_call_243 : decode cX9_call 243 = .ok (.iastore, 1) := by decide +kernel
theorem dX9_call_244 : decode cX9_call 244 = .ok (.aload_n 0, 1) := by decide +kernel
theorem dX9_call_245 : decode cX9_call 245 = .ok (.getfield 95, 3) := by decide +kernel
theorem dX9_call_248 : decode cX9_call 248 = .ok (.aload_n 0, 1) := by decide +kernel
theorem dX9_call_249 : decode cX9_call 249 = .ok (.getfield 210, 3) := by decide +kernel
theorem dX9_call_252 : decode cX9_call 252 = .ok (.iconst 0, 1) := by decide +kernel
theorem dX9_call_253 : decode cX9_call 253 = .ok (.iastore, 1) := by decide +kernel
theorem dX9_call_254 : decode cX9_call 254 = .ok (.aload_n 0, 1) := by decide +kernel
theorem dX9_call_255 : decode cX9_call 255 = .ok (.iconst 1, 1) := by decide +kernel
theorem dX9_call_256 : decode cX9_call 256 = .ok (.putfield 206, 3) := by decide +kernel
theorem dX9_call_259 : decode cX9_call 259 = .ok (.aload_n 0, 1) := by decide +kernel
theorem dX9_call_260 : decode cX9_call 260 = .ok (.iload_n 1, 1) := by decide +kernel
theorem dX9_call_261 : decode cX9_call 261 = .ok (.iload_n 2, 1) := by decide +kernel
theorem dX9_call_262 : decode cX9_call 262 = .ok (.lload_n 3, 1) := by decide +kernel
theorem dX9_call_263 : decode cX9_call 263 = .ok (.iload 5, 2) := by decide +kernel
theorem dX9_call_265 : decode cX9_call 265 = .ok (.iconst (-1), 1) := by decide +kernel
theorem dX9_call_266 : decode cX9_call 266 = .ok (.invokevirtual 308, 3) := by decide +kernel
theorem dX9_call_269 : decode cX9_call 269 = .ok (.aload_n 0, 1) := by decide +kernel
theorem dX9_call_270 : decode cX9_call 270 = .ok (.getfield 216, 3) := by decide +kernel
theorem dX9_call_273 : decode cX9_call 273 = .ok (.ifCond .le 8, 3) := by decide +kernel
theorem dX9_call_276 : decode cX9_call 276 = .ok (.aload_n 0, 1) := by decide +kernel
theorem dX9_call_277 : decode cX9_call 277 = .ok (.iconst 0, 1) := by decide +kernel
theorem dX9_call_278 : decode cX9_call 278 = .ok (.invokevirtual 227, 3) := by decide +kernel
theorem dX9_call_281 : decode cX9_call 281 = .ok (.aload_n 0, 1) := by decide +kernel
theorem dX9_call_282 : decode cX9_call 282 = .ok (.iconst 0, 1) := by decide +kernel
theorem dX9_call_283 : decode cX9_call 283 = .ok (.putfield 206, 3) := by decide +kernel
theorem dX9_call_286 : decode cX9_call 286 = .ok (.aload_n 0, 1) := by decide +kernel
theorem dX9_call_287 : decode cX9_call 287 = .ok (.getfield 53, 3) := by decide +kernel
theorem dX9_call_290 : decode cX9_call 290 = .ok (.aload_n 0, 1) := by decide +kernel
theorem dX9_call_291 : decode cX9_call 291 = .ok (.getfield 210, 3) := by decide +kernel
theorem dX9_call_294 : decode cX9_call 294 = .ok (.aload_n 0, 1) := by decide +kernel
theorem dX9_call_295 : decode cX9_call 295 = .ok (.getfield 259, 3) := by decide +kernel
theorem dX9_call_298 : decode cX9_call 298 = .ok (.iastore, 1) := by decide +kernel
theorem dX9_call_299 : decode cX9_call 299 = .ok (.aload_n 0, 1) := by decide +kernel
theorem dX9_call_300 : decode cX9_call 300 = .ok (.getfield 56, 3) := by decide +kernel
theorem dX9_call_303 : decode cX9_call 303 = .ok (.aload_n 0, 1) := by decide +kernel
theorem dX9_call_304 : decode cX9_call 304 = .ok (.getfield 210, 3) := by decide +kernel
theorem dX9_call_307 : decode cX9_call 307 = .ok (.aload_n 0, 1) := by decide +kernel
theorem dX9_call_308 : decode cX9_call 308 = .ok (.getfield 216, 3) := by decide +kernel
theorem dX9_call_311 : decode cX9_call 311 = .ok (.iastore, 1) := by decide +kernel
theorem dX9_call_312 : decode cX9_call 312 = .ok (.aload_n 0, 1) := by decide +kernel
theorem dX9_call_313 : decode cX9_call 313 = .ok (.getfield 59, 3) := by decide +kernel
theorem dX9_call_316 : decode cX9_call 316 = .ok (.aload_n 0, 1) := by decide +kernel
theorem dX9_call_317 : decode cX9_call 317 = .ok (.getfield 210, 3) := by decide +kernel
theorem dX9_call_320 : decode cX9_call 320 = .ok (.aload_n 0, 1) := by decide +kernel
theorem dX9_call_321 : decode cX9_call 321 = .ok (.getfield 216, 3) := by decide +kernel
theorem dX9_call_324 : decode cX9_call 324 = .ok (.iconst 5, 1) := by decide +kernel
theorem dX9_call_325 : decode cX9_call 325 = .ok (.if_icmp .ne 11, 3) := by decide +kernel
theorem dX9_call_328 : decode cX9_call 328 = .ok (.aload_n 0, 1) := by decide +kernel
theorem dX9_call_329 : decode cX9_call 329 = .ok (.getfield 231, 3) := by decide +kernel
theorem dX9_call_332 : decode cX9_call 332 = .ok (.l2i, 1) := by decide +kernel
theorem dX9_call_333 : decode cX9_call 333 = .ok (.goto 4, 3) := by decide +kernel
theorem dX9_call_336 : decode cX9_call 336 = .ok (.iconst 0, 1) := by decide +kernel
theorem dX9_call_337 : decode cX9_call 337 = .ok (.iastore, 1) := by decide +kernel
theorem dX9_call_338 : decode cX9_call 338 = .ok (.aload_n 0, 1) := by decide +kernel
theorem dX9_call_339 : decode cX9_call 339 = .ok (.getfield 62, 3) := by decide +kernel
theorem dX9_call_342 : decode cX9_call 342 = .ok (.aload_n 0, 1) := by decide +kernel
theorem dX9_call_343 : decode cX9_call 343 = .ok (.getfield 210, 3) := by decide +kernel
theorem dX9_call_346 : decode cX9_call 346 = .ok (.aload_n 0, 1) := by decide +kernel
theorem dX9_call_347 : decode cX9_call 347 = .ok (.getfield 216, 3) := by decide +kernel
theorem dX9_call_350 : decode cX9_call 350 = .ok (.ifCond .le 7, 3) := by decide +kernel
theorem dX9_call_353 : decode cX9_call 353 = .ok (.lconst 0, 1) := by decide +kernel
theorem dX9_call_354 : decode cX9_call 354 = .ok (.goto 7, 3) := by decide +kernel
theorem dX9_call_357 : decode cX9_call 357 = .ok (.aload_n 0, 1) := by decide +kernel
theorem dX9_call_358 : decode cX9_call 358 = .ok (.getfield 219, 3) := by decide +kernel
theorem dX9_call_361 : decode cX9_call 361 = .ok (.lastore, 1) := by decide +kernel
theorem dX9_call_362 : decode cX9_call 362 = .ok (.aload_n 0, 1) := by decide +kernel
theorem dX9_call_363 : decode cX9_call 363 = .ok (.getfield 65, 3) := by decide +kernel
theorem dX9_call_366 : decode cX9_call 366 = .ok (.aload_n 0, 1) := by decide +kernel
theorem dX9_call_367 : decode cX9_call 367 = .ok (.getfield 210, 3) := by decide +kernel
theorem dX9_call_370 : decode cX9_call 370 = .ok (.aload_n 0, 1) := by decide +kernel
theorem dX9_call_371 : decode cX9_call 371 = .ok (.getfield 213, 3) := by decide +kernel
theorem dX9_call_374 : decode cX9_call 374 = .ok (.iastore, 1) := by decide +kernel
theorem dX9_call_375 : decode cX9_call 375 = .ok (.aload_n 0, 1) := by decide +kernel
theorem dX9_call_376 : decode cX9_call 376 = .ok (.getfield 68, 3) := by decide +kernel
theorem dX9_call_379 : decode cX9_call 379 = .ok (.aload_n 0, 1) := by decide +kernel
theorem dX9_call_380 : decode cX9_call 380 = .ok (.getfield 210, 3) := by decide +kernel
theorem dX9_call_383 : decode cX9_call 383 = .ok (.aload_n 0, 1) := by decide +kernel
theorem dX9_call_384 : decode cX9_call 384 = .ok (.getfield 262, 3) := by decide +kernel
theorem dX9_call_387 : decode cX9_call 387 = .ok (.iastore, 1) := by decide +kernel
theorem dX9_call_388 : decode cX9_call 388 = .ok (.aload_n 0, 1) := by decide +kernel
theorem dX9_call_389 : decode cX9_call 389 = .ok (.dup, 1) := by decide +kernel
theorem dX9_call_390 : decode cX9_call 390 = .ok (.getfield 176, 3) := by decide +kernel
theorem dX9_call_393 : decode cX9_call 393 = .ok (.iconst 1, 1) := by decide +kernel
theorem dX9_call_394 : decode cX9_call 394 = .ok (.iadd, 1) := by decide +kernel
theorem dX9_call_395 : decode cX9_call 395 = .ok (.putfield 176, 3) := by decide +kernel
theorem dX9_call_398 : decode cX9_call 398 = .ok (.aload_n 0, 1) := by decide +kernel
theorem dX9_call_399 : decode cX9_call 399 = .ok (.dup, 1) := by decide +kernel
theorem dX9_call_400 : decode cX9_call 400 = .ok (.getfield 305, 3) := by decide +kernel
theorem dX9_call_403 : decode cX9_call 403 = .ok (.iconst 1, 1) := by decide +kernel
theorem dX9_call_404 : decode cX9_call 404 = .ok (.iadd, 1) := by decide +kernel
theorem dX9_call_405 : decode cX9_call 405 = .ok (.putfield 305, 3) := by decide +kernel
theorem dX9_call_408 : decode cX9_call 408 = .ok (.aload_n 0, 1) := by decide +kernel
theorem dX9_call_409 : decode cX9_call 409 = .ok (.getfield 210, 3) := by decide +kernel
theorem dX9_call_412 : decode cX9_call 412 = .ok (.ireturn, 1) := by decide +kernel
theorem dX9_drop_0 : decode cX9_drop 0 = .ok (.aload_n 0, 1) := by decide +kernel
theorem dX9_drop_1 : decode cX9_drop 1 = .ok (.getfield 176, 3) := by decide +kernel
theorem dX9_drop_4 : decode cX9_drop 4 = .ok (.istore_n 1, 1) := by decide +kernel
theorem dX9_drop_5 : decode cX9_drop 5 = .ok (.aload_n 0, 1) := by decide +kernel
theorem dX9_drop_6 : decode cX9_drop 6 = .ok (.iconst 0, 1) := by decide +kernel
theorem dX9_drop_7 : decode cX9_drop 7 = .ok (.putfield 176, 3) := by decide +kernel
theorem dX9_drop_10 : decode cX9_drop 10 = .ok (.iload_n 1, 1) := by decide +kernel
theorem dX9_drop_11 : decode cX9_drop 11 = .ok (.ireturn, 1) := by decide +kernel
theorem dX9_trace_0 : decode cX9_trace 0 = .ok (.aload_n 0, 1) := by decide +kernel
theorem dX9_trace_1 : decode cX9_trace 1 = .ok (.iload_n 1, 1) := by decide +kernel
theorem dX9_trace_2 : decode cX9_trace 2 = .ok (.invokevirtual 312, 3) := by decide +kernel
theorem dX9_trace_5 : decode cX9_trace 5 = .ok (.ifCond .ne 5, 3) := by decide +kernel
theorem dX9_trace_8 : decode cX9_trace 8 = .ok (.iconst (-1), 1) := by decide +kernel
theorem dX9_trace_9 : decode cX9_trace 9 = .ok (.ireturn, 1) := by decide +kernel
theorem dX9_trace_10 : decode cX9_trace 10 = .ok (.iload_n 2, 1) := by decide +kernel
theorem dX9_trace_11 : decode cX9_trace 11 = .ok (.tableswitch 90 0 6 #[41, 48, 55, 62, 69, 76, 83], 41) := by decide +kernel
theorem dX9_trace_52 : decode cX9_trace 52 = .ok (.aload_n 0, 1) := by decide +kernel
theorem dX9_trace_53 : decode cX9_trace 53 = .ok (.getfield 53, 3) := by decide +kernel
theorem dX9_trace_56 : decode cX9_trace 56 = .ok (.iload_n 1, 1) := by decide +kernel
theorem dX9_trace_57 : decode cX9_trace 57 = .ok (.iaload, 1) := by decide +kernel
theorem dX9_trace_58 : decode cX9_trace 58 = .ok (.ireturn, 1) := by decide +kernel
theorem dX9_trace_59 : decode cX9_trace 59 = .ok (.aload_n 0, 1) := by decide +kernel
theorem dX9_trace_60 : decode cX9_trace 60 = .ok (.getfield 56, 3) := by decide +kernel
theorem dX9_trace_63 : decode cX9_trace 63 = .ok (.iload_n 1, 1) := by decide +kernel
theorem dX9_trace_64 : decode cX9_trace 64 = .ok (.iaload, 1) := by decide +kernel
theorem dX9_trace_65 : decode cX9_trace 65 = .ok (.ireturn, 1) := by decide +kernel
theorem dX9_trace_66 : decode cX9_trace 66 = .ok (.aload_n 0, 1) := by decide +kernel
theorem dX9_trace_67 : decode cX9_trace 67 = .ok (.getfield 59, 3) := by decide +kernel
theorem dX9_trace_70 : decode cX9_trace 70 = .ok (.iload_n 1, 1) := by decide +kernel
theorem dX9_trace_71 : decode cX9_trace 71 = .ok (.iaload, 1) := by decide +kernel
theorem dX9_trace_72 : decode cX9_trace 72 = .ok (.ireturn, 1) := by decide +kernel
theorem dX9_trace_73 : decode cX9_trace 73 = .ok (.aload_n 0, 1) := by decide +kernel
theorem dX9_trace_74 : decode cX9_trace 74 = .ok (.getfield 68, 3) := by decide +kernel
theorem dX9_trace_77 : decode cX9_trace 77 = .ok (.iload_n 1, 1) := by decide +kernel
theorem dX9_trace_78 : decode cX9_trace 78 = .ok (.iaload, 1) := by decide +kernel
theorem dX9_trace_79 : decode cX9_trace 79 = .ok (.ireturn, 1) := by decide +kernel
theorem dX9_trace_80 : decode cX9_trace 80 = .ok (.aload_n 0, 1) := by decide +kernel
theorem dX9_trace_81 : decode cX9_trace 81 = .ok (.getfield 65, 3) := by decide +kernel
theorem dX9_trace_84 : decode cX9_trace 84 = .ok (.iload_n 1, 1) := by decide +kernel
theorem dX9_trace_85 : decode cX9_trace 85 = .ok (.iaload, 1) := by decide +kernel
theorem dX9_trace_86 : decode cX9_trace 86 = .ok (.ireturn, 1) := by decide +kernel
theorem dX9_trace_87 : decode cX9_trace 87 = .ok (.aload_n 0, 1) := by decide +kernel
theorem dX9_trace_88 : decode cX9_trace 88 = .ok (.getfield 95, 3) := by decide +kernel
theorem dX9_trace_91 : decode cX9_trace 91 = .ok (.iload_n 1, 1) := by decide +kernel
theorem dX9_trace_92 : decode cX9_trace 92 = .ok (.iaload, 1) := by decide +kernel
theorem dX9_trace_93 : decode cX9_trace 93 = .ok (.ireturn, 1) := by decide +kernel
theorem dX9_trace_94 : decode cX9_trace 94 = .ok (.aload_n 0, 1) := by decide +kernel
theorem dX9_trace_95 : decode cX9_trace 95 = .ok (.getfield 89, 3) := by decide +kernel
theorem dX9_trace_98 : decode cX9_trace 98 = .ok (.iload_n 1, 1) := by decide +kernel
theorem dX9_trace_99 : decode cX9_trace 99 = .ok (.iaload, 1) := by decide +kernel
theorem dX9_trace_100 : decode cX9_trace 100 = .ok (.ireturn, 1) := by decide +kernel
theorem dX9_trace_101 : decode cX9_trace 101 = .ok (.bipush (-2), 2) := by decide +kernel
theorem dX9_trace_103 : decode cX9_trace 103 = .ok (.ireturn, 1) := by decide +kernel
theorem dX9_result_0 : decode cX9_result 0 = .ok (.aload_n 0, 1) := by decide +kernel
theorem dX9_result_1 : decode cX9_result 1 = .ok (.iload_n 1, 1) := by decide +kernel
theorem dX9_result_2 : decode cX9_result 2 = .ok (.invokevirtual 312, 3) := by decide +kernel
theorem dX9_result_5 : decode cX9_result 5 = .ok (.ifCond .eq 12, 3) := by decide +kernel
theorem dX9_result_8 : decode cX9_result 8 = .ok (.aload_n 0, 1) := by decide +kernel
theorem dX9_result_9 : decode cX9_result 9 = .ok (.getfield 62, 3) := by decide +kernel
theorem dX9_result_12 : decode cX9_result 12 = .ok (.iload_n 1, 1) := by decide +kernel
theorem dX9_result_13 : decode cX9_result 13 = .ok (.laload, 1) := by decide +kernel
theorem dX9_result_14 : decode cX9_result 14 = .ok (.goto 6, 3) := by decide +kernel
theorem dX9_result_17 : decode cX9_result 17 = .ok (.ldc2_w 192, 3) := by decide +kernel
theorem dX9_result_20 : decode cX9_result 20 = .ok (.lreturn, 1) := by decide +kernel
theorem dX9_isStep_0 : decode cX9_isStep 0 = .ok (.aload_n 0, 1) := by decide +kernel
theorem dX9_isStep_1 : decode cX9_isStep 1 = .ok (.iload_n 1, 1) := by decide +kernel
theorem dX9_isStep_2 : decode cX9_isStep 2 = .ok (.invokevirtual 312, 3) := by decide +kernel
theorem dX9_isStep_5 : decode cX9_isStep 5 = .ok (.ifCond .eq 25, 3) := by decide +kernel
theorem dX9_isStep_8 : decode cX9_isStep 8 = .ok (.iload_n 2, 1) := by decide +kernel
theorem dX9_isStep_9 : decode cX9_isStep 9 = .ok (.i2l, 1) := by decide +kernel
theorem dX9_isStep_10 : decode cX9_isStep 10 = .ok (.lconst 0, 1) := by decide +kernel
theorem dX9_isStep_11 : decode cX9_isStep 11 = .ok (.aload_n 0, 1) := by decide +kernel
theorem dX9_isStep_12 : decode cX9_isStep 12 = .ok (.getfield 53, 3) := by decide +kernel
theorem dX9_isStep_15 : decode cX9_isStep 15 = .ok (.iload_n 1, 1) := by decide +kernel
theorem dX9_isStep_16 : decode cX9_isStep 16 = .ok (.iaload, 1) := by decide +kernel
theorem dX9_isStep_17 : decode cX9_isStep 17 = .ok (.iconst 1, 1) := by decide +kernel
theorem dX9_isStep_18 : decode cX9_isStep 18 = .ok (.isub, 1) := by decide +kernel
theorem dX9_isStep_19 : decode cX9_isStep 19 = .ok (.i2l, 1) := by decide +kernel
theorem dX9_isStep_20 : decode cX9_isStep 20 = .ok (.invokestatic 172, 3) := by decide +kernel
theorem dX9_isStep_23 : decode cX9_isStep 23 = .ok (.ifCond .eq 7, 3) := by decide +kernel
theorem dX9_isStep_26 : decode cX9_isStep 26 = .ok (.iconst 1, 1) := by decide +kernel
theorem dX9_isStep_27 : decode cX9_isStep 27 = .ok (.goto 4, 3) := by decide +kernel
theorem dX9_isStep_30 : decode cX9_isStep 30 = .ok (.iconst 0, 1) := by decide +kernel
theorem dX9_isStep_31 : decode cX9_isStep 31 = .ok (.ireturn, 1) := by decide +kernel
theorem dX9_step_0 : decode cX9_step 0 = .ok (.aload_n 0, 1) := by decide +kernel
theorem dX9_step_1 : decode cX9_step 1 = .ok (.iload_n 1, 1) := by decide +kernel
theorem dX9_step_2 : decode cX9_step 2 = .ok (.iload_n 2, 1) := by decide +kernel
theorem dX9_step_3 : decode cX9_step 3 = .ok (.invokevirtual 316, 3) := by decide +kernel
theorem dX9_step_6 : decode cX9_step 6 = .ok (.ifCond .ne 5, 3) := by decide +kernel
theorem dX9_step_9 : decode cX9_step 9 = .ok (.iconst (-1), 1) := by decide +kernel
theorem dX9_step_10 : decode cX9_step 10 = .ok (.ireturn, 1) := by decide +kernel
theorem dX9_step_11 : decode cX9_step 11 = .ok (.iload_n 3, 1) := by decide +kernel
theorem dX9_step_12 : decode cX9_step 12 = .ok (.i2l, 1) := by decide +kernel
theorem dX9_step_13 : decode cX9_step 13 = .ok (.lconst 0, 1) := by decide +kernel
theorem dX9_step_14 : decode cX9_step 14 = .ok (.ldc2_w 319, 3) := by decide +kernel
theorem dX9_step_17 : decode cX9_step 17 = .ok (.invokestatic 172, 3) := by decide +kernel
theorem dX9_step_20 : decode cX9_step 20 = .ok (.ifCond .eq 22, 3) := by decide +kernel
theorem dX9_step_23 : decode cX9_step 23 = .ok (.aload_n 0, 1) := by decide +kernel
theorem dX9_step_24 : decode cX9_step 24 = .ok (.getfield 71, 3) := by decide +kernel
theorem dX9_step_27 : decode cX9_step 27 = .ok (.bipush 7, 2) := by decide +kernel
theorem dX9_step_29 : decode cX9_step 29 = .ok (.bipush 100, 2) := by decide +kernel
theorem dX9_step_31 : decode cX9_step 31 = .ok (.iload_n 1, 1) := by decide +kernel
theorem dX9_step_32 : decode cX9_step 32 = .ok (.imul, 1) := by decide +kernel
theorem dX9_step_33 : decode cX9_step 33 = .ok (.iload_n 2, 1) := by decide +kernel
theorem dX9_step_34 : decode cX9_step 34 = .ok (.iadd, 1) := by decide +kernel
theorem dX9_step_35 : decode cX9_step 35 = .ok (.imul, 1) := by decide +kernel
theorem dX9_step_36 : decode cX9_step 36 = .ok (.iload_n 3, 1) := by decide +kernel
theorem dX9_step_37 : decode cX9_step 37 = .ok (.iadd, 1) := by decide +kernel
theorem dX9_step_38 : decode cX9_step 38 = .ok (.iaload, 1) := by decide +kernel
theorem dX9_step_39 : decode cX9_step 39 = .ok (.goto 5, 3) := by decide +kernel
theorem dX9_step_42 : decode cX9_step 42 = .ok (.bipush (-2), 2) := by decide +kernel
theorem dX9_step_44 : decode cX9_step 44 = .ok (.ireturn, 1) := by decide +kernel
theorem dX9_value_0 : decode cX9_value 0 = .ok (.aload_n 0, 1) := by decide +kernel
theorem dX9_value_1 : decode cX9_value 1 = .ok (.iload_n 1, 1) := by decide +kernel
theorem dX9_value_2 : decode cX9_value 2 = .ok (.iload_n 2, 1) := by decide +kernel
theorem dX9_value_3 : decode cX9_value 3 = .ok (.invokevirtual 316, 3) := by decide +kernel
theorem dX9_value_6 : decode cX9_value 6 = .ok (.ifCond .eq 17, 3) := by decide +kernel
theorem dX9_value_9 : decode cX9_value 9 = .ok (.aload_n 0, 1) := by decide +kernel
theorem dX9_value_10 : decode cX9_value 10 = .ok (.getfield 74, 3) := by decide +kernel
theorem dX9_value_13 : decode cX9_value 13 = .ok (.bipush 100, 2) := by decide +kernel
theorem dX9_value_15 : decode cX9_value 15 = .ok (.iload_n 1, 1) := by decide +kernel
theorem dX9_value_16 : decode cX9_value 16 = .ok (.imul, 1) := by decide +kernel
theorem dX9_value_17 : decode cX9_value 17 = .ok (.iload_n 2, 1) := by decide +kernel
theorem dX9_value_18 : decode cX9_value 18 = .ok (.iadd, 1) := by decide +kernel
theorem dX9_value_19 : decode cX9_value 19 = .ok (.laload, 1) := by decide +kernel
theorem dX9_value_20 : decode cX9_value 20 = .ok (.goto 6, 3) := by decide +kernel
theorem dX9_value_23 : decode cX9_value 23 = .ok (.ldc2_w 192, 3) := by decide +kernel
theorem dX9_value_26 : decode cX9_value 26 = .ok (.lreturn, 1) := by decide +kernel
theorem dX9_search_0 : decode cX9_search 0 = .ok (.aload_n 0, 1) := by decide +kernel
theorem dX9_search_1 : decode cX9_search 1 = .ok (.iload_n 1, 1) := by decide +kernel
theorem dX9_search_2 : decode cX9_search 2 = .ok (.invokevirtual 312, 3) := by decide +kernel
theorem dX9_search_5 : decode cX9_search 5 = .ok (.ifCond .ne 5, 3) := by decide +kernel
theorem dX9_search_8 : decode cX9_search 8 = .ok (.iconst (-1), 1) := by decide +kernel
theorem dX9_search_9 : decode cX9_search 9 = .ok (.ireturn, 1) := by decide +kernel
theorem dX9_search_10 : decode cX9_search 10 = .ok (.iload_n 3, 1) := by decide +kernel
theorem dX9_search_11 : decode cX9_search 11 = .ok (.ifCond .ge 6, 3) := by decide +kernel
theorem dX9_search_14 : decode cX9_search 14 = .ok (.bipush (-2), 2) := by decide +kernel
theorem dX9_search_16 : decode cX9_search 16 = .ok (.ireturn, 1) := by decide +kernel
theorem dX9_search_17 : decode cX9_search 17 = .ok (.iload_n 3, 1) := by decide +kernel
theorem dX9_search_18 : decode cX9_search 18 = .ok (.istore 4, 2) := by decide +kernel
theorem dX9_search_20 : decode cX9_search 20 = .ok (.iload 4, 2) := by decide +kernel
theorem dX9_search_22 : decode cX9_search 22 = .ok (.aload_n 0, 1) := by decide +kernel
theorem dX9_search_23 : decode cX9_search 23 = .ok (.getfield 53, 3) := by decide +kernel
theorem dX9_search_26 : decode cX9_search 26 = .ok (.iload_n 1, 1) := by decide +kernel
theorem dX9_search_27 : decode cX9_search 27 = .ok (.iaload, 1) := by decide +kernel
theorem dX9_search_28 : decode cX9_search 28 = .ok (.if_icmp .ge 33, 3) := by decide +kernel
theorem dX9_search_31 : decode cX9_search 31 = .ok (.aload_n 0, 1) := by decide +kernel
theorem dX9_search_32 : decode cX9_search 32 = .ok (.getfield 71, 3) := by decide +kernel
theorem dX9_search_35 : decode cX9_search 35 = .ok (.bipush 7, 2) := by decide +kernel
theorem dX9_search_37 : decode cX9_search 37 = .ok (.bipush 100, 2) := by decide +kernel
theorem dX9_search_39 : decode cX9_search 39 = .ok (.iload_n 1, 1) := by decide +kernel
theorem dX9_search_40 : decode cX9_search 40 = .ok (.imul, 1) := by decide +kernel
theorem dX9_search_41 : decode cX9_search 41 = .ok (.iload 4, 2) := by decide +kernel
theorem dX9_search_43 : decode cX9_search 43 = .ok (.iadd, 1) := by decide +kernel
theorem dX9_search_44 : decode cX9_search 44 = .ok (.imul, 1) := by decide +kernel
theorem dX9_search_45 : decode cX9_search 45 = .ok (.iconst 4, 1) := by decide +kernel
theorem dX9_search_46 : decode cX9_search 46 = .ok (.iadd, 1) := by decide +kernel
theorem dX9_search_47 : decode cX9_search 47 = .ok (.iaload, 1) := by decide +kernel
theorem dX9_search_48 : decode cX9_search 48 = .ok (.iload_n 2, 1) := by decide +kernel
theorem dX9_search_49 : decode cX9_search 49 = .ok (.if_icmp .ne 6, 3) := by decide +kernel
theorem dX9_search_52 : decode cX9_search 52 = .ok (.iload 4, 2) := by decide +kernel
theorem dX9_search_54 : decode cX9_search 54 = .ok (.ireturn, 1) := by decide +kernel
theorem dX9_search_55 : decode cX9_search 55 = .ok (.iinc 4 1, 3) := by decide +kernel
theorem dX9_search_58 : decode cX9_search 58 = .ok (.goto (-38), 3) := by decide +kernel
theorem dX9_search_61 : decode cX9_search 61 = .ok (.bipush (-5), 2) := by decide +kernel
theorem dX9_search_63 : decode cX9_search 63 = .ok (.ireturn, 1) := by decide +kernel
theorem dX9_flame_0 : decode cX9_flame 0 = .ok (.aload_n 0, 1) := by decide +kernel
theorem dX9_flame_1 : decode cX9_flame 1 = .ok (.iload_n 1, 1) := by decide +kernel
theorem dX9_flame_2 : decode cX9_flame 2 = .ok (.invokevirtual 312, 3) := by decide +kernel
theorem dX9_flame_5 : decode cX9_flame 5 = .ok (.ifCond .eq 12, 3) := by decide +kernel
theorem dX9_flame_8 : decode cX9_flame 8 = .ok (.aload_n 0, 1) := by decide +kernel
theorem dX9_flame_9 : decode cX9_flame 9 = .ok (.iload_n 2, 1) := by decide +kernel
theorem dX9_flame_10 : decode cX9_flame 10 = .ok (.i2l, 1) := by decide +kernel
theorem dX9_flame_11 : decode cX9_flame 11 = .ok (.invokevirtual 184, 3) := by decide +kernel
theorem dX9_flame_14 : decode cX9_flame 14 = .ok (.ifCond .ne 5, 3) := by decide +kernel
theorem dX9_flame_17 : decode cX9_flame 17 = .ok (.iconst (-1), 1) := by decide +kernel
theorem dX9_flame_18 : decode cX9_flame 18 = .ok (.ireturn, 1) := by decide +kernel
theorem dX9_flame_19 : decode cX9_flame 19 = .ok (.iload_n 3, 1) := by decide +kernel
theorem dX9_flame_20 : decode cX9_flame 20 = .ok (.i2l, 1) := by decide +kernel
theorem dX9_flame_21 : decode cX9_flame 21 = .ok (.lconst 0, 1) := by decide +kernel
theorem dX9_flame_22 : decode cX9_flame 22 = .ok (.ldc2_w 188, 3) := by decide +kernel
theorem dX9_flame_25 : decode cX9_flame 25 = .ok (.invokestatic 172, 3) := by decide +kernel
theorem dX9_flame_28 : decode cX9_flame 28 = .ok (.ifCond .ne 6, 3) := by decide +kernel
theorem dX9_flame_31 : decode cX9_flame 31 = .ok (.bipush (-2), 2) := by decide +kernel
theorem dX9_flame_33 : decode cX9_flame 33 = .ok (.ireturn, 1) := by decide +kernel
theorem dX9_flame_34 : decode cX9_flame 34 = .ok (.iconst 0, 1) := by decide +kernel
theorem dX9_flame_35 : decode cX9_flame 35 = .ok (.istore 5, 2) := by decide +kernel
theorem dX9_flame_37 : decode cX9_flame 37 = .ok (.iconst 0, 1) := by decide +kernel
theorem dX9_flame_38 : decode cX9_flame 38 = .ok (.istore 6, 2) := by decide +kernel
theorem dX9_flame_40 : decode cX9_flame 40 = .ok (.iload 6, 2) := by decide +kernel
theorem dX9_flame_42 : decode cX9_flame 42 = .ok (.aload_n 0, 1) := by decide +kernel
theorem dX9_flame_43 : decode cX9_flame 43 = .ok (.getfield 53, 3) := by decide +kernel
theorem dX9_flame_46 : decode cX9_flame 46 = .ok (.iload_n 1, 1) := by decide +kernel
theorem dX9_flame_47 : decode cX9_flame 47 = .ok (.iaload, 1) := by decide +kernel
theorem dX9_flame_48 : decode cX9_flame 48 = .ok (.if_icmp .ge 135, 3) := by decide +kernel
theorem dX9_flame_51 : decode cX9_flame 51 = .ok (.aload_n 0, 1) := by decide +kernel
theorem dX9_flame_52 : decode cX9_flame 52 = .ok (.getfield 77, 3) := by decide +kernel
theorem dX9_flame_55 : decode cX9_flame 55 = .ok (.bipush 100, 2) := by decide +kernel
theorem dX9_flame_57 : decode cX9_flame 57 = .ok (.iload_n 1, 1) := by decide +kernel
theorem dX9_flame_58 : decode cX9_flame 58 = .ok (.imul, 1) := by decide +kernel
theorem dX9_flame_59 : decode cX9_flame 59 = .ok (.iload 6, 2) := by decide +kernel
theorem dX9_flame_61 : decode cX9_flame 61 = .ok (.iadd, 1) := by decide +kernel
theorem dX9_flame_62 : decode cX9_flame 62 = .ok (.iaload, 1) := by decide +kernel
theorem dX9_flame_63 : decode cX9_flame 63 = .ok (.istore 7, 2) := by decide +kernel
theorem dX9_flame_65 : decode cX9_flame 65 = .ok (.iconst 0, 1) := by decide +kernel
theorem dX9_flame_66 : decode cX9_flame 66 = .ok (.istore 8, 2) := by decide +kernel
theorem dX9_flame_68 : decode cX9_flame 68 = .ok (.iconst 1, 1) := by decide +kernel
theorem dX9_flame_69 : decode cX9_flame 69 = .ok (.istore 9, 2) := by decide +kernel
theorem dX9_flame_71 : decode cX9_flame 71 = .ok (.iload 7, 2) := by decide +kernel
theorem dX9_flame_73 : decode cX9_flame 73 = .ok (.ifCond .lt 73, 3) := by decide +kernel
theorem dX9_flame_76 : decode cX9_flame 76 = .ok (.iload 9, 2) := by decide +kernel
theorem dX9_flame_78 : decode cX9_flame 78 = .ok (.ifCond .eq 68, 3) := by decide +kernel
theorem dX9_flame_81 : decode cX9_flame 81 = .ok (.iload 8, 2) := by decide +kernel
theorem dX9_flame_83 : decode cX9_flame 83 = .ok (.ifCond .ne 35, 3) := by decide +kernel
theorem dX9_flame_86 : decode cX9_flame 86 = .ok (.aload_n 0, 1) := by decide +kernel
theorem dX9_flame_87 : decode cX9_flame 87 = .ok (.getfield 80, 3) := by decide +kernel
theorem dX9_flame_90 : decode cX9_flame 90 = .ok (.bipush 101, 2) := by decide +kernel
theorem dX9_flame_92 : decode cX9_flame 92 = .ok (.iload_n 1, 1) := by decide +kernel
theorem dX9_flame_93 : decode cX9_flame 93 = .ok (.imul, 1) := by decide +kernel
theorem dX9_flame_94 : decode cX9_flame 94 = .ok (.iload 7, 2) := by decide +kernel
theorem dX9_flame_96 : decode cX9_flame 96 = .ok (.iadd, 1) := by decide +kernel
theorem dX9_flame_97 : decode cX9_flame 97 = .ok (.iaload, 1) := by decide +kernel
theorem dX9_flame_98 : decode cX9_flame 98 = .ok (.iload_n 2, 1) := by decide +kernel
theorem dX9_flame_99 : decode cX9_flame 99 = .ok (.if_icmp .ne 23, 3) := by decide +kernel
theorem dX9_flame_102 : decode cX9_flame 102 = .ok (.aload_n 0, 1) := by decide +kernel
theorem dX9_flame_103 : decode cX9_flame 103 = .ok (.getfield 83, 3) := by decide +kernel
theorem dX9_flame_106 : decode cX9_flame 106 = .ok (.bipush 101, 2) := by decide +kernel
theorem dX9_flame_108 : decode cX9_flame 108 = .ok (.iload_n 1, 1) := by decide +kernel
theorem dX9_flame_109 : decode cX9_flame 109 = .ok (.imul, 1) := by decide +kernel
theorem dX9_flame_110 : decode cX9_flame 110 = .ok (.iload 7, 2) := by decide +kernel
theorem dX9_flame_112 : decode cX9_flame 112 = .ok (.iadd, 1) := by decide +kernel
theorem dX9_flame_113 : decode cX9_flame 113 = .ok (.iaload, 1) := by decide +kernel
theorem dX9_flame_114 : decode cX9_flame 114 = .ok (.iload_n 3, 1) := by decide +kernel
theorem dX9_flame_115 : decode cX9_flame 115 = .ok (.if_icmp .ne 7, 3) := by decide +kernel
theorem dX9_flame_118 : decode cX9_flame 118 = .ok (.iconst 1, 1) := by decide +kernel
theorem dX9_flame_119 : decode cX9_flame 119 = .ok (.goto 4, 3) := by decide +kernel
theorem dX9_flame_122 : decode cX9_flame 122 = .ok (.iconst 0, 1) := by decide +kernel
theorem dX9_flame_123 : decode cX9_flame 123 = .ok (.istore 8, 2) := by decide +kernel
theorem dX9_flame_125 : decode cX9_flame 125 = .ok (.aload_n 0, 1) := by decide +kernel
theorem dX9_flame_126 : decode cX9_flame 126 = .ok (.getfield 86, 3) := by decide +kernel
theorem dX9_flame_129 : decode cX9_flame 129 = .ok (.bipush 101, 2) := by decide +kernel
theorem dX9_flame_131 : decode cX9_flame 131 = .ok (.iload_n 1, 1) := by decide +kernel
theorem dX9_flame_132 : decode cX9_flame 132 = .ok (.imul, 1) := by decide +kernel
theorem dX9_flame_133 : decode cX9_flame 133 = .ok (.iload 7, 2) := by decide +kernel
theorem dX9_flame_135 : decode cX9_flame 135 = .ok (.iadd, 1) := by decide +kernel
theorem dX9_flame_136 : decode cX9_flame 136 = .ok (.iaload, 1) := by decide +kernel
theorem dX9_flame_137 : decode cX9_flame 137 = .ok (.istore 7, 2) := by decide +kernel
theorem dX9_flame_139 : decode cX9_flame 139 = .ok (.iload 4, 2) := by decide +kernel
theorem dX9_flame_141 : decode cX9_flame 141 = .ok (.istore 9, 2) := by decide +kernel
theorem dX9_flame_143 : decode cX9_flame 143 = .ok (.goto (-72), 3) := by decide +kernel
theorem dX9_flame_146 : decode cX9_flame 146 = .ok (.iload 5, 2) := by decide +kernel
theorem dX9_flame_148 : decode cX9_flame 148 = .ok (.iload 8, 2) := by decide +kernel
theorem dX9_flame_150 : decode cX9_flame 150 = .ok (.ifCond .eq 23, 3) := by decide +kernel
theorem dX9_flame_153 : decode cX9_flame 153 = .ok (.aload_n 0, 1) := by decide +kernel
theorem dX9_flame_154 : decode cX9_flame 154 = .ok (.getfield 71, 3) := by decide +kernel
theorem dX9_flame_157 : decode cX9_flame 157 = .ok (.bipush 7, 2) := by decide +kernel
theorem dX9_flame_159 : decode cX9_flame 159 = .ok (.bipush 100, 2) := by decide +kernel
theorem dX9_flame_161 : decode cX9_flame 161 = .ok (.iload_n 1, 1) := by decide +kernel
theorem dX9_flame_162 : decode cX9_flame 162 = .ok (.imul, 1) := by decide +kernel
theorem dX9_flame_163 : decode cX9_flame 163 = .ok (.iload 6, 2) := by decide +kernel
theorem dX9_flame_165 : decode cX9_flame 165 = .ok (.iadd, 1) := by decide +kernel
theorem dX9_flame_166 : decode cX9_flame 166 = .ok (.imul, 1) := by decide +kernel
theorem dX9_flame_167 : decode cX9_flame 167 = .ok (.iconst 5, 1) := by decide +kernel
theorem dX9_flame_168 : decode cX9_flame 168 = .ok (.iadd, 1) := by decide +kernel
theorem dX9_flame_169 : decode cX9_flame 169 = .ok (.iaload, 1) := by decide +kernel
theorem dX9_flame_170 : decode cX9_flame 170 = .ok (.goto 4, 3) := by decide +kernel
theorem dX9_flame_173 : decode cX9_flame 173 = .ok (.iconst 0, 1) := by decide +kernel
theorem dX9_flame_174 : decode cX9_flame 174 = .ok (.iadd, 1) := by decide +kernel
theorem dX9_flame_175 : decode cX9_flame 175 = .ok (.istore 5, 2) := by decide +kernel
theorem dX9_flame_177 : decode cX9_flame 177 = .ok (.iinc 6 1, 3) := by decide +kernel
theorem dX9_flame_180 : decode cX9_flame 180 = .ok (.goto (-140), 3) := by decide +kernel
theorem dX9_flame_183 : decode cX9_flame 183 = .ok (.iload 5, 2) := by decide +kernel
theorem dX9_flame_185 : decode cX9_flame 185 = .ok (.ireturn, 1) := by decide +kernel
theorem dX9_touch_0 : decode cX9_touch 0 = .ok (.aload_n 0, 1) := by decide +kernel
theorem dX9_touch_1 : decode cX9_touch 1 = .ok (.iload_n 1, 1) := by decide +kernel
theorem dX9_touch_2 : decode cX9_touch 2 = .ok (.invokevirtual 312, 3) := by decide +kernel
theorem dX9_touch_5 : decode cX9_touch 5 = .ok (.ifCond .eq 21, 3) := by decide +kernel
theorem dX9_touch_8 : decode cX9_touch 8 = .ok (.iload_n 2, 1) := by decide +kernel
theorem dX9_touch_9 : decode cX9_touch 9 = .ok (.i2l, 1) := by decide +kernel
theorem dX9_touch_10 : decode cX9_touch 10 = .ok (.lconst 0, 1) := by decide +kernel
theorem dX9_touch_11 : decode cX9_touch 11 = .ok (.aload_n 0, 1) := by decide +kernel
theorem dX9_touch_12 : decode cX9_touch 12 = .ok (.getfield 89, 3) := by decide +kernel
theorem dX9_touch_15 : decode cX9_touch 15 = .ok (.iload_n 1, 1) := by decide +kernel
theorem dX9_touch_16 : decode cX9_touch 16 = .ok (.iaload, 1) := by decide +kernel
theorem dX9_touch_17 : decode cX9_touch 17 = .ok (.iconst 1, 1) := by decide +kernel
theorem dX9_touch_18 : decode cX9_touch 18 = .ok (.isub, 1) := by decide +kernel
theorem dX9_touch_19 : decode cX9_touch 19 = .ok (.i2l, 1) := by decide +kernel
theorem dX9_touch_20 : decode cX9_touch 20 = .ok (.invokestatic 172, 3) := by decide +kernel
theorem dX9_touch_23 : decode cX9_touch 23 = .ok (.ifCond .ne 5, 3) := by decide +kernel
theorem dX9_touch_26 : decode cX9_touch 26 = .ok (.iconst (-1), 1) := by decide +kernel
theorem dX9_touch_27 : decode cX9_touch 27 = .ok (.ireturn, 1) := by decide +kernel
theorem dX9_touch_28 : decode cX9_touch 28 = .ok (.iload_n 3, 1) := by decide +kernel
theorem dX9_touch_29 : decode cX9_touch 29 = .ok (.i2l, 1) := by decide +kernel
theorem dX9_touch_30 : decode cX9_touch 30 = .ok (.lconst 0, 1) := by decide +kernel
theorem dX9_touch_31 : decode cX9_touch 31 = .ok (.ldc2_w 188, 3) := by decide +kernel
theorem dX9_touch_34 : decode cX9_touch 34 = .ok (.invokestatic 172, 3) := by decide +kernel
theorem dX9_touch_37 : decode cX9_touch 37 = .ok (.ifCond .eq 21, 3) := by decide +kernel
theorem dX9_touch_40 : decode cX9_touch 40 = .ok (.aload_n 0, 1) := by decide +kernel
theorem dX9_touch_41 : decode cX9_touch 41 = .ok (.getfield 92, 3) := by decide +kernel
theorem dX9_touch_44 : decode cX9_touch 44 = .ok (.iconst 4, 1) := by decide +kernel
theorem dX9_touch_45 : decode cX9_touch 45 = .ok (.bipush 48, 2) := by decide +kernel
theorem dX9_touch_47 : decode cX9_touch 47 = .ok (.iload_n 1, 1) := by decide +kernel
theorem dX9_touch_48 : decode cX9_touch 48 = .ok (.imul, 1) := by decide +kernel
theorem dX9_touch_49 : decode cX9_touch 49 = .ok (.iload_n 2, 1) := by decide +kernel
theorem dX9_touch_50 : decode cX9_touch 50 = .ok (.iadd, 1) := by decide +kernel
theorem dX9_touch_51 : decode cX9_touch 51 = .ok (.imul, 1) := by decide +kernel
theorem dX9_touch_52 : decode cX9_touch 52 = .ok (.iload_n 3, 1) := by decide +kernel
theorem dX9_touch_53 : decode cX9_touch 53 = .ok (.iadd, 1) := by decide +kernel
theorem dX9_touch_54 : decode cX9_touch 54 = .ok (.iaload, 1) := by decide +kernel
theorem dX9_touch_55 : decode cX9_touch 55 = .ok (.goto 5, 3) := by decide +kernel
theorem dX9_touch_58 : decode cX9_touch 58 = .ok (.bipush (-2), 2) := by decide +kernel
theorem dX9_touch_60 : decode cX9_touch 60 = .ok (.ireturn, 1) := by decide +kernel
theorem dX9_flow_0 : decode cX9_flow 0 = .ok (.aload_n 0, 1) := by decide +kernel
theorem dX9_flow_1 : decode cX9_flow 1 = .ok (.iload_n 1, 1) := by decide +kernel
theorem dX9_flow_2 : decode cX9_flow 2 = .ok (.invokevirtual 312, 3) := by decide +kernel
theorem dX9_flow_5 : decode cX9_flow 5 = .ok (.ifCond .eq 12, 3) := by decide +kernel
theorem dX9_flow_8 : decode cX9_flow 8 = .ok (.aload_n 0, 1) := by decide +kernel
theorem dX9_flow_9 : decode cX9_flow 9 = .ok (.iload_n 2, 1) := by decide +kernel
theorem dX9_flow_10 : decode cX9_flow 10 = .ok (.i2l, 1) := by decide +kernel
theorem dX9_flow_11 : decode cX9_flow 11 = .ok (.invokevirtual 184, 3) := by decide +kernel
theorem dX9_flow_14 : decode cX9_flow 14 = .ok (.ifCond .ne 7, 3) := by decide +kernel
theorem dX9_flow_17 : decode cX9_flow 17 = .ok (.ldc2_w 192, 3) := by decide +kernel
theorem dX9_flow_20 : decode cX9_flow 20 = .ok (.lreturn, 1) := by decide +kernel
theorem dX9_flow_21 : decode cX9_flow 21 = .ok (.iload_n 3, 1) := by decide +kernel
theorem dX9_flow_22 : decode cX9_flow 22 = .ok (.ifCond .eq 17, 3) := by decide +kernel
theorem dX9_flow_25 : decode cX9_flow 25 = .ok (.aload_n 0, 1) := by decide +kernel
theorem dX9_flow_26 : decode cX9_flow 26 = .ok (.getfield 110, 3) := by decide +kernel
theorem dX9_flow_29 : decode cX9_flow 29 = .ok (.bipush 6, 2) := by decide +kernel
theorem dX9_flow_31 : decode cX9_flow 31 = .ok (.iload_n 1, 1) := by decide +kernel
theorem dX9_flow_32 : decode cX9_flow 32 = .ok (.imul, 1) := by decide +kernel
theorem dX9_flow_33 : decode cX9_flow 33 = .ok (.iload_n 2, 1) := by decide +kernel
theorem dX9_flow_34 : decode cX9_flow 34 = .ok (.iadd, 1) := by decide +kernel
theorem dX9_flow_35 : decode cX9_flow 35 = .ok (.laload, 1) := by decide +kernel
theorem dX9_flow_36 : decode cX9_flow 36 = .ok (.goto 14, 3) := by decide +kernel
theorem dX9_flow_39 : decode cX9_flow 39 = .ok (.aload_n 0, 1) := by decide +kernel
theorem dX9_flow_40 : decode cX9_flow 40 = .ok (.getfield 107, 3) := by decide +kernel
theorem dX9_flow_43 : decode cX9_flow 43 = .ok (.bipush 6, 2) := by decide +kernel
theorem dX9_flow_45 : decode cX9_flow 45 = .ok (.iload_n 1, 1) := by decide +kernel
theorem dX9_flow_46 : decode cX9_flow 46 = .ok (.imul, 1) := by decide +kernel
theorem dX9_flow_47 : decode cX9_flow 47 = .ok (.iload_n 2, 1) := by decide +kernel
theorem dX9_flow_48 : decode cX9_flow 48 = .ok (.iadd, 1) := by decide +kernel
theorem dX9_flow_49 : decode cX9_flow 49 = .ok (.laload, 1) := by decide +kernel
theorem dX9_flow_50 : decode cX9_flow 50 = .ok (.lreturn, 1) := by decide +kernel
theorem dX9_tell_0 : decode cX9_tell 0 = .ok (.aload_n 0, 1) := by decide +kernel
theorem dX9_tell_1 : decode cX9_tell 1 = .ok (.iload_n 1, 1) := by decide +kernel
theorem dX9_tell_2 : decode cX9_tell 2 = .ok (.invokevirtual 312, 3) := by decide +kernel
theorem dX9_tell_5 : decode cX9_tell 5 = .ok (.ifCond .eq 12, 3) := by decide +kernel
theorem dX9_tell_8 : decode cX9_tell 8 = .ok (.aload_n 0, 1) := by decide +kernel
theorem dX9_tell_9 : decode cX9_tell 9 = .ok (.iload_n 2, 1) := by decide +kernel
theorem dX9_tell_10 : decode cX9_tell 10 = .ok (.i2l, 1) := by decide +kernel
theorem dX9_tell_11 : decode cX9_tell 11 = .ok (.invokevirtual 184, 3) := by decide +kernel
theorem dX9_tell_14 : decode cX9_tell 14 = .ok (.ifCond .ne 7, 3) := by decide +kernel
theorem dX9_tell_17 : decode cX9_tell 17 = .ok (.ldc2_w 192, 3) := by decide +kernel
theorem dX9_tell_20 : decode cX9_tell 20 = .ok (.lreturn, 1) := by decide +kernel
theorem dX9_tell_21 : decode cX9_tell 21 = .ok (.iload_n 3, 1) := by decide +kernel
theorem dX9_tell_22 : decode cX9_tell 22 = .ok (.istore 5, 2) := by decide +kernel
theorem dX9_tell_24 : decode cX9_tell 24 = .ok (.iconst 0, 1) := by decide +kernel
theorem dX9_tell_25 : decode cX9_tell 25 = .ok (.istore 6, 2) := by decide +kernel
theorem dX9_tell_27 : decode cX9_tell 27 = .ok (.iload 6, 2) := by decide +kernel
theorem dX9_tell_29 : decode cX9_tell 29 = .ok (.aload_n 0, 1) := by decide +kernel
theorem dX9_tell_30 : decode cX9_tell 30 = .ok (.getfield 95, 3) := by decide +kernel
theorem dX9_tell_33 : decode cX9_tell 33 = .ok (.iload_n 1, 1) := by decide +kernel
theorem dX9_tell_34 : decode cX9_tell 34 = .ok (.iaload, 1) := by decide +kernel
theorem dX9_tell_35 : decode cX9_tell 35 = .ok (.if_icmp .ge 73, 3) := by decide +kernel
theorem dX9_tell_38 : decode cX9_tell 38 = .ok (.iload_n 3, 1) := by decide +kernel
theorem dX9_tell_39 : decode cX9_tell 39 = .ok (.ifCond .lt 69, 3) := by decide +kernel
theorem dX9_tell_42 : decode cX9_tell 42 = .ok (.aload_n 0, 1) := by decide +kernel
theorem dX9_tell_43 : decode cX9_tell 43 = .ok (.getfield 98, 3) := by decide +kernel
theorem dX9_tell_46 : decode cX9_tell 46 = .ok (.bipush 40, 2) := by decide +kernel
theorem dX9_tell_48 : decode cX9_tell 48 = .ok (.iload_n 1, 1) := by decide +kernel
theorem dX9_tell_49 : decode cX9_tell 49 = .ok (.imul, 1) := by decide +kernel
theorem dX9_tell_50 : decode cX9_tell 50 = .ok (.iload 6, 2) := by decide +kernel
theorem dX9_tell_52 : decode cX9_tell 52 = .ok (.iadd, 1) := by decide +kernel
theorem dX9_tell_53 : decode cX9_tell 53 = .ok (.iaload, 1) := by decide +kernel
theorem dX9_tell_54 : decode cX9_tell 54 = .ok (.iload_n 2, 1) := by decide +kernel
theorem dX9_tell_55 : decode cX9_tell 55 = .ok (.if_icmp .ne 47, 3) := by decide +kernel
theorem dX9_tell_58 : decode cX9_tell 58 = .ok (.iload 5, 2) := by decide +kernel
theorem dX9_tell_60 : decode cX9_tell 60 = .ok (.ifCond .ne 39, 3) := by decide +kernel
theorem dX9_tell_63 : decode cX9_tell 63 = .ok (.iload 4, 2) := by decide +kernel
theorem dX9_tell_65 : decode cX9_tell 65 = .ok (.ifCond .ne 18, 3) := by decide +kernel
theorem dX9_tell_68 : decode cX9_tell 68 = .ok (.aload_n 0, 1) := by decide +kernel
theorem dX9_tell_69 : decode cX9_tell 69 = .ok (.getfield 101, 3) := by decide +kernel
theorem dX9_tell_72 : decode cX9_tell 72 = .ok (.bipush 40, 2) := by decide +kernel
theorem dX9_tell_74 : decode cX9_tell 74 = .ok (.iload_n 1, 1) := by decide +kernel
theorem dX9_tell_75 : decode cX9_tell 75 = .ok (.imul, 1) := by decide +kernel
theorem dX9_tell_76 : decode cX9_tell 76 = .ok (.iload 6, 2) := by decide +kernel
theorem dX9_tell_78 : decode cX9_tell 78 = .ok (.iadd, 1) := by decide +kernel
theorem dX9_tell_79 : decode cX9_tell 79 = .ok (.laload, 1) := by decide +kernel
theorem dX9_tell_80 : decode cX9_tell 80 = .ok (.goto 18, 3) := by decide +kernel
theorem dX9_tell_83 : decode cX9_tell 83 = .ok (.iload 4, 2) := by decide +kernel
theorem dX9_tell_85 : decode cX9_tell 85 = .ok (.iconst 1, 1) := by decide +kernel
theorem dX9_tell_86 : decode cX9_tell 86 = .ok (.if_icmp .ne 9, 3) := by decide +kernel
theorem dX9_tell_89 : decode cX9_tell 89 = .ok (.iload 6, 2) := by decide +kernel
theorem dX9_tell_91 : decode cX9_tell 91 = .ok (.i2l, 1) := by decide +kernel
theorem dX9_tell_92 : decode cX9_tell 92 = .ok (.goto 6, 3) := by decide +kernel
theorem dX9_tell_95 : decode cX9_tell 95 = .ok (.ldc2_w 196, 3) := by decide +kernel
theorem dX9_tell_98 : decode cX9_tell 98 = .ok (.lreturn, 1) := by decide +kernel
theorem dX9_tell_99 : decode cX9_tell 99 = .ok (.iinc 5 (-1), 3) := by decide +kernel
theorem dX9_tell_102 : decode cX9_tell 102 = .ok (.iinc 6 1, 3) := by decide +kernel
theorem dX9_tell_105 : decode cX9_tell 105 = .ok (.goto (-78), 3) := by decide +kernel
theorem dX9_tell_108 : decode cX9_tell 108 = .ok (.ldc2_w 192, 3) := by decide +kernel
theorem dX9_tell_111 : decode cX9_tell 111 = .ok (.lreturn, 1) := by decide +kernel
theorem dX9_told_0 : decode cX9_told 0 = .ok (.aload_n 0, 1) := by decide +kernel
theorem dX9_told_1 : decode cX9_told 1 = .ok (.iload_n 1, 1) := by decide +kernel
theorem dX9_told_2 : decode cX9_told 2 = .ok (.invokevirtual 312, 3) := by decide +kernel
theorem dX9_told_5 : decode cX9_told 5 = .ok (.ifCond .eq 35, 3) := by decide +kernel
theorem dX9_told_8 : decode cX9_told 8 = .ok (.iload_n 2, 1) := by decide +kernel
theorem dX9_told_9 : decode cX9_told 9 = .ok (.i2l, 1) := by decide +kernel
theorem dX9_told_10 : decode cX9_told 10 = .ok (.lconst 0, 1) := by decide +kernel
theorem dX9_told_11 : decode cX9_told 11 = .ok (.aload_n 0, 1) := by decide +kernel
theorem dX9_told_12 : decode cX9_told 12 = .ok (.getfield 95, 3) := by decide +kernel
theorem dX9_told_15 : decode cX9_told 15 = .ok (.iload_n 1, 1) := by decide +kernel
theorem dX9_told_16 : decode cX9_told 16 = .ok (.iaload, 1) := by decide +kernel
theorem dX9_told_17 : decode cX9_told 17 = .ok (.iconst 1, 1) := by decide +kernel
theorem dX9_told_18 : decode cX9_told 18 = .ok (.isub, 1) := by decide +kernel
theorem dX9_told_19 : decode cX9_told 19 = .ok (.i2l, 1) := by decide +kernel
theorem dX9_told_20 : decode cX9_told 20 = .ok (.invokestatic 172, 3) := by decide +kernel
theorem dX9_told_23 : decode cX9_told 23 = .ok (.ifCond .eq 17, 3) := by decide +kernel
theorem dX9_told_26 : decode cX9_told 26 = .ok (.aload_n 0, 1) := by decide +kernel
theorem dX9_told_27 : decode cX9_told 27 = .ok (.getfield 104, 3) := by decide +kernel
theorem dX9_told_30 : decode cX9_told 30 = .ok (.bipush 40, 2) := by decide +kernel
theorem dX9_told_32 : decode cX9_told 32 = .ok (.iload_n 1, 1) := by decide +kernel
theorem dX9_told_33 : decode cX9_told 33 = .ok (.imul, 1) := by decide +kernel
theorem dX9_told_34 : decode cX9_told 34 = .ok (.iload_n 2, 1) := by decide +kernel
theorem dX9_told_35 : decode cX9_told 35 = .ok (.iadd, 1) := by decide +kernel
theorem dX9_told_36 : decode cX9_told 36 = .ok (.laload, 1) := by decide +kernel
theorem dX9_told_37 : decode cX9_told 37 = .ok (.goto 6, 3) := by decide +kernel
theorem dX9_told_40 : decode cX9_told 40 = .ok (.ldc2_w 192, 3) := by decide +kernel
theorem dX9_told_43 : decode cX9_told 43 = .ok (.lreturn, 1) := by decide +kernel
theorem dX9_mixed_0 : decode cX9_mixed 0 = .ok (.lload_n 0, 1) := by decide +kernel
theorem dX9_mixed_1 : decode cX9_mixed 1 = .ok (.lload_n 2, 1) := by decide +kernel
theorem dX9_mixed_2 : decode cX9_mixed 2 = .ok (.lxor, 1) := by decide +kernel
theorem dX9_mixed_3 : decode cX9_mixed 3 = .ok (.ldc2_w 321, 3) := by decide +kernel
theorem dX9_mixed_6 : decode cX9_mixed 6 = .ok (.lmul, 1) := by decide +kernel
theorem dX9_mixed_7 : decode cX9_mixed 7 = .ok (.lstore 4, 2) := by decide +kernel
theorem dX9_mixed_9 : decode cX9_mixed 9 = .ok (.lload 4, 2) := by decide +kernel
theorem dX9_mixed_11 : decode cX9_mixed 11 = .ok (.lload 4, 2) := by decide +kernel
theorem dX9_mixed_13 : decode cX9_mixed 13 = .ok (.bipush 29, 2) := by decide +kernel
theorem dX9_mixed_15 : decode cX9_mixed 15 = .ok (.lushr, 1) := by decide +kernel
theorem dX9_mixed_16 : decode cX9_mixed 16 = .ok (.lxor, 1) := by decide +kernel
theorem dX9_mixed_17 : decode cX9_mixed 17 = .ok (.lreturn, 1) := by decide +kernel
theorem dX9_state_0 : decode cX9_state 0 = .ok (.ldc2_w 323, 3) := by decide +kernel
theorem dX9_state_3 : decode cX9_state 3 = .ok (.lstore_n 1, 1) := by decide +kernel
theorem dX9_state_4 : decode cX9_state 4 = .ok (.iconst 0, 1) := by decide +kernel
theorem dX9_state_5 : decode cX9_state 5 = .ok (.istore_n 3, 1) := by decide +kernel
theorem dX9_state_6 : decode cX9_state 6 = .ok (.iload_n 3, 1) := by decide +kernel
theorem dX9_state_7 : decode cX9_state 7 = .ok (.aload_n 0, 1) := by decide +kernel
theorem dX9_state_8 : decode cX9_state 8 = .ok (.getfield 168, 3) := by decide +kernel
theorem dX9_state_11 : decode cX9_state 11 = .ok (.if_icmp .ge 53, 3) := by decide +kernel
theorem dX9_state_14 : decode cX9_state 14 = .ok (.iconst 0, 1) := by decide +kernel
theorem dX9_state_15 : decode cX9_state 15 = .ok (.istore 4, 2) := by decide +kernel
theorem dX9_state_17 : decode cX9_state 17 = .ok (.iload 4, 2) := by decide +kernel
theorem dX9_state_19 : decode cX9_state 19 = .ok (.bipush 8, 2) := by decide +kernel
theorem dX9_state_21 : decode cX9_state 21 = .ok (.if_icmp .ge 26, 3) := by decide +kernel
theorem dX9_state_24 : decode cX9_state 24 = .ok (.lload_n 1, 1) := by decide +kernel
theorem dX9_state_25 : decode cX9_state 25 = .ok (.aload_n 0, 1) := by decide +kernel
theorem dX9_state_26 : decode cX9_state 26 = .ok (.getfield 29, 3) := by decide +kernel
theorem dX9_state_29 : decode cX9_state 29 = .ok (.bipush 8, 2) := by decide +kernel
theorem dX9_state_31 : decode cX9_state 31 = .ok (.iload_n 3, 1) := by decide +kernel
theorem dX9_state_32 : decode cX9_state 32 = .ok (.imul, 1) := by decide +kernel
theorem dX9_state_33 : decode cX9_state 33 = .ok (.iload 4, 2) := by decide +kernel
theorem dX9_state_35 : decode cX9_state 35 = .ok (.iadd, 1) := by decide +kernel
theorem dX9_state_36 : decode cX9_state 36 = .ok (.laload, 1) := by decide +kernel
