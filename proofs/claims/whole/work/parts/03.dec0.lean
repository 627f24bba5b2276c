theorem dX0_init_0 : decode cX0_init 0 = .ok (.aload_n 0, 1) := by decide +kernel
theorem dX0_init_1 : decode cX0_init 1 = .ok (.invokespecial 3, 3) := by decide +kernel
theorem dX0_init_4 : decode cX0_init 4 = .ok (.aload_n 0, 1) := by decide +kernel
theorem dX0_init_5 : decode cX0_init 5 = .ok (.bipush 8, 2) := by decide +kernel
theorem dX0_init_7 : decode cX0_init 7 = .ok (.anewarray 9, 3) := by decide +kernel
theorem dX0_init_10 : decode cX0_init 10 = .ok (.putfield 11, 3) := by decide +kernel
theorem dX0_init_13 : decode cX0_init 13 = .ok (.aload_n 0, 1) := by decide +kernel
theorem dX0_init_14 : decode cX0_init 14 = .ok (.bipush 24, 2) := by decide +kernel
theorem dX0_init_16 : decode cX0_init 16 = .ok (.newarray .int, 2) := by decide +kernel
theorem dX0_init_18 : decode cX0_init 18 = .ok (.putfield 17, 3) := by decide +kernel
theorem dX0_init_21 : decode cX0_init 21 = .ok (.aload_n 0, 1) := by decide +kernel
theorem dX0_init_22 : decode cX0_init 22 = .ok (.bipush 16, 2) := by decide +kernel
theorem dX0_init_24 : decode cX0_init 24 = .ok (.newarray .int, 2) := by decide +kernel
theorem dX0_init_26 : decode cX0_init 26 = .ok (.putfield 21, 3) := by decide +kernel
theorem dX0_init_29 : decode cX0_init 29 = .ok (.aload_n 0, 1) := by decide +kernel
theorem dX0_init_30 : decode cX0_init 30 = .ok (.iconst 0, 1) := by decide +kernel
theorem dX0_init_31 : decode cX0_init 31 = .ok (.putfield 24, 3) := by decide +kernel
theorem dX0_init_34 : decode cX0_init 34 = .ok (.aload_n 0, 1) := by decide +kernel
theorem dX0_init_35 : decode cX0_init 35 = .ok (.iconst 0, 1) := by decide +kernel
theorem dX0_init_36 : decode cX0_init 36 = .ok (.putfield 28, 3) := by decide +kernel
theorem dX0_init_39 : decode cX0_init 39 = .ok (.iconst 0, 1) := by decide +kernel
theorem dX0_init_40 : decode cX0_init 40 = .ok (.istore_n 1, 1) := by decide +kernel
theorem dX0_init_41 : decode cX0_init 41 = .ok (.iload_n 1, 1) := by decide +kernel
theorem dX0_init_42 : decode cX0_init 42 = .ok (.bipush 8, 2) := by decide +kernel
theorem dX0_init_44 : decode cX0_init 44 = .ok (.if_icmp .ge 22, 3) := by decide +kernel
theorem dX0_init_47 : decode cX0_init 47 = .ok (.aload_n 0, 1) := by decide +kernel
theorem dX0_init_48 : decode cX0_init 48 = .ok (.getfield 11, 3) := by decide +kernel
theorem dX0_init_51 : decode cX0_init 51 = .ok (.iload_n 1, 1) := by decide +kernel
theorem dX0_init_52 : decode cX0_init 52 = .ok (.new 9, 3) := by decide +kernel
theorem dX0_init_55 : decode cX0_init 55 = .ok (.dup, 1) := by decide +kernel
theorem dX0_init_56 : decode cX0_init 56 = .ok (.invokespecial 31, 3) := by decide +kernel
theorem dX0_init_59 : decode cX0_init 59 = .ok (.aastore, 1) := by decide +kernel
theorem dX0_init_60 : decode cX0_init 60 = .ok (.iinc 1 1, 3) := by decide +kernel
theorem dX0_init_63 : decode cX0_init 63 = .ok (.goto (-22), 3) := by decide +kernel
theorem dX0_init_66 : decode cX0_init 66 = .ok (.aload_n 0, 1) := by decide +kernel
theorem dX0_init_67 : decode cX0_init 67 = .ok (.getfield 17, 3) := by decide +kernel
theorem dX0_init_70 : decode cX0_init 70 = .ok (.iconst (-1), 1) := by decide +kernel
theorem dX0_init_71 : decode cX0_init 71 = .ok (.invokestatic 32, 3) := by decide +kernel
theorem dX0_init_74 : decode cX0_init 74 = .ok (.aload_n 0, 1) := by decide +kernel
theorem dX0_init_75 : decode cX0_init 75 = .ok (.getfield 21, 3) := by decide +kernel
theorem dX0_init_78 : decode cX0_init 78 = .ok (.iconst 1, 1) := by decide +kernel
theorem dX0_init_79 : decode cX0_init 79 = .ok (.invokestatic 32, 3) := by decide +kernel
theorem dX0_init_82 : decode cX0_init 82 = .ok (.return_, 1) := by decide +kernel
theorem dX0_hasProgram_0 : decode cX0_hasProgram 0 = .ok (.iload_n 1, 1) := by decide +kernel
theorem dX0_hasProgram_1 : decode cX0_hasProgram 1 = .ok (.i2l, 1) := by decide +kernel
theorem dX0_hasProgram_2 : decode cX0_hasProgram 2 = .ok (.aload_n 0, 1) := by decide +kernel
theorem dX0_hasProgram_3 : decode cX0_hasProgram 3 = .ok (.getfield 24, 3) := by decide +kernel
theorem dX0_hasProgram_6 : decode cX0_hasProgram 6 = .ok (.invokestatic 38, 3) := by decide +kernel
theorem dX0_hasProgram_9 : decode cX0_hasProgram 9 = .ok (.ireturn, 1) := by decide +kernel
theorem dX0_hasAccount_0 : decode cX0_hasAccount 0 = .ok (.lload_n 1, 1) := by decide +kernel
theorem dX0_hasAccount_1 : decode cX0_hasAccount 1 = .ok (.lconst 0, 1) := by decide +kernel
theorem dX0_hasAccount_2 : decode cX0_hasAccount 2 = .ok (.lcmp, 1) := by decide +kernel
theorem dX0_hasAccount_3 : decode cX0_hasAccount 3 = .ok (.ifCond .lt 17, 3) := by decide +kernel
theorem dX0_hasAccount_6 : decode cX0_hasAccount 6 = .ok (.lload_n 1, 1) := by decide +kernel
theorem dX0_hasAccount_7 : decode cX0_hasAccount 7 = .ok (.aload_n 0, 1) := by decide +kernel
theorem dX0_hasAccount_8 : decode cX0_hasAccount 8 = .ok (.getfield 28, 3) := by decide +kernel
theorem dX0_hasAccount_11 : decode cX0_hasAccount 11 = .ok (.i2l, 1) := by decide +kernel
theorem dX0_hasAccount_12 : decode cX0_hasAccount 12 = .ok (.lcmp, 1) := by decide +kernel
theorem dX0_hasAccount_13 : decode cX0_hasAccount 13 = .ok (.ifCond .ge 7, 3) := by decide +kernel
theorem dX0_hasAccount_16 : decode cX0_hasAccount 16 = .ok (.iconst 1, 1) := by decide +kernel
theorem dX0_hasAccount_17 : decode cX0_hasAccount 17 = .ok (.goto 4, 3) := by decide +kernel
theorem dX0_hasAccount_20 : decode cX0_hasAccount 20 = .ok (.iconst 0, 1) := by decide +kernel
theorem dX0_hasAccount_21 : decode cX0_hasAccount 21 = .ok (.ireturn, 1) := by decide +kernel
theorem dX0_programOf_0 : decode cX0_programOf 0 = .ok (.lload_n 1, 1) := by decide +kernel
theorem dX0_programOf_1 : decode cX0_programOf 1 = .ok (.lconst 0, 1) := by decide +kernel
theorem dX0_programOf_2 : decode cX0_programOf 2 = .ok (.lcmp, 1) := by decide +kernel
theorem dX0_programOf_3 : decode cX0_programOf 3 = .ok (.ifCond .lt 22, 3) := by decide +kernel
theorem dX0_programOf_6 : decode cX0_programOf 6 = .ok (.lload_n 1, 1) := by decide +kernel
theorem dX0_programOf_7 : decode cX0_programOf 7 = .ok (.aload_n 0, 1) := by decide +kernel
theorem dX0_programOf_8 : decode cX0_programOf 8 = .ok (.getfield 28, 3) := by decide +kernel
theorem dX0_programOf_11 : decode cX0_programOf 11 = .ok (.i2l, 1) := by decide +kernel
theorem dX0_programOf_12 : decode cX0_programOf 12 = .ok (.lcmp, 1) := by decide +kernel
theorem dX0_programOf_13 : decode cX0_programOf 13 = .ok (.ifCond .ge 12, 3) := by decide +kernel
theorem dX0_programOf_16 : decode cX0_programOf 16 = .ok (.iload_n 3, 1) := by decide +kernel
theorem dX0_programOf_17 : decode cX0_programOf 17 = .ok (.ifCond .lt 8, 3) := by decide +kernel
theorem dX0_programOf_20 : decode cX0_programOf 20 = .ok (.iload_n 3, 1) := by decide +kernel
theorem dX0_programOf_21 : decode cX0_programOf 21 = .ok (.iconst 4, 1) := by decide +kernel
theorem dX0_programOf_22 : decode cX0_programOf 22 = .ok (.if_icmp .lt 5, 3) := by decide +kernel
theorem dX0_programOf_25 : decode cX0_programOf 25 = .ok (.iconst (-1), 1) := by decide +kernel
theorem dX0_programOf_26 : decode cX0_programOf 26 = .ok (.ireturn, 1) := by decide +kernel
theorem dX0_programOf_27 : decode cX0_programOf 27 = .ok (.aload_n 0, 1) := by decide +kernel
theorem dX0_programOf_28 : decode cX0_programOf 28 = .ok (.getfield 17, 3) := by decide +kernel
theorem dX0_programOf_31 : decode cX0_programOf 31 = .ok (.lload_n 1, 1) := by decide +kernel
theorem dX0_programOf_32 : decode cX0_programOf 32 = .ok (.l2i, 1) := by decide +kernel
theorem dX0_programOf_33 : decode cX0_programOf 33 = .ok (.iconst 4, 1) := by decide +kernel
theorem dX0_programOf_34 : decode cX0_programOf 34 = .ok (.imul, 1) := by decide +kernel
theorem dX0_programOf_35 : decode cX0_programOf 35 = .ok (.iload_n 3, 1) := by decide +kernel
theorem dX0_programOf_36 : decode cX0_programOf 36 = .ok (.iadd, 1) := by decide +kernel
theorem dX0_programOf_37 : decode cX0_programOf 37 = .ok (.iaload, 1) := by decide +kernel
theorem dX0_programOf_38 : decode cX0_programOf 38 = .ok (.ireturn, 1) := by decide +kernel
theorem dX1_init_0 : decode cX1_init 0 = .ok (.aload_n 0, 1) := by decide +kernel
theorem dX1_init_1 : decode cX1_init 1 = .ok (.invokespecial 3, 3) := by decide +kernel
theorem dX1_init_4 : decode cX1_init 4 = .ok (.aload_n 0, 1) := by decide +kernel
theorem dX1_init_5 : decode cX1_init 5 = .ok (.bipush 12, 2) := by decide +kernel
theorem dX1_init_7 : decode cX1_init 7 = .ok (.newarray .long, 2) := by decide +kernel
theorem dX1_init_9 : decode cX1_init 9 = .ok (.putfield 9, 3) := by decide +kernel
theorem dX1_init_12 : decode cX1_init 12 = .ok (.aload_n 0, 1) := by decide +kernel
theorem dX1_init_13 : decode cX1_init 13 = .ok (.iconst 0, 1) := by decide +kernel
theorem dX1_init_14 : decode cX1_init 14 = .ok (.putfield 15, 3) := by decide +kernel
theorem dX1_init_17 : decode cX1_init 17 = .ok (.aload_n 0, 1) := by decide +kernel
theorem dX1_init_18 : decode cX1_init 18 = .ok (.iconst 0, 1) := by decide +kernel
theorem dX1_init_19 : decode cX1_init 19 = .ok (.putfield 19, 3) := by decide +kernel
theorem dX1_init_22 : decode cX1_init 22 = .ok (.aload_n 0, 1) := by decide +kernel
theorem dX1_init_23 : decode cX1_init 23 = .ok (.iconst 0, 1) := by decide +kernel
theorem dX1_init_24 : decode cX1_init 24 = .ok (.putfield 22, 3) := by decide +kernel
theorem dX1_init_27 : decode cX1_init 27 = .ok (.aload_n 0, 1) := by decide +kernel
theorem dX1_init_28 : decode cX1_init 28 = .ok (.iconst (-1), 1) := by decide +kernel
theorem dX1_init_29 : decode cX1_init 29 = .ok (.putfield 25, 3) := by decide +kernel
theorem dX1_init_32 : decode cX1_init 32 = .ok (.aload_n 0, 1) := by decide +kernel
theorem dX1_init_33 : decode cX1_init 33 = .ok (.lconst 0, 1) := by decide +kernel
theorem dX1_init_34 : decode cX1_init 34 = .ok (.putfield 28, 3) := by decide +kernel
theorem dX1_init_37 : decode cX1_init 37 = .ok (.aload_n 0, 1) := by decide +kernel
theorem dX1_init_38 : decode cX1_init 38 = .ok (.iconst 0, 1) := by decide +kernel
theorem dX1_init_39 : decode cX1_init 39 = .ok (.putfield 32, 3) := by decide +kernel
theorem dX1_init_42 : decode cX1_init 42 = .ok (.aload_n 0, 1) := by decide +kernel
theorem dX1_init_43 : decode cX1_init 43 = .ok (.lconst 0, 1) := by decide +kernel
theorem dX1_init_44 : decode cX1_init 44 = .ok (.putfield 35, 3) := by decide +kernel
theorem dX1_init_47 : decode cX1_init 47 = .ok (.return_, 1) := by decide +kernel
theorem dX1_open_0 : decode cX1_open 0 = .ok (.aload_n 0, 1) := by decide +kernel
theorem dX1_open_1 : decode cX1_open 1 = .ok (.iconst 0, 1) := by decide +kernel
theorem dX1_open_2 : decode cX1_open 2 = .ok (.putfield 15, 3) := by decide +kernel
theorem dX1_open_5 : decode cX1_open 5 = .ok (.aload_n 0, 1) := by decide +kernel
theorem dX1_open_6 : decode cX1_open 6 = .ok (.iload_n 1, 1) := by decide +kernel
theorem dX1_open_7 : decode cX1_open 7 = .ok (.putfield 19, 3) := by decide +kernel
theorem dX1_open_10 : decode cX1_open 10 = .ok (.aload_n 0, 1) := by decide +kernel
theorem dX1_open_11 : decode cX1_open 11 = .ok (.iload_n 2, 1) := by decide +kernel
theorem dX1_open_12 : decode cX1_open 12 = .ok (.putfield 22, 3) := by decide +kernel
theorem dX1_open_15 : decode cX1_open 15 = .ok (.aload_n 0, 1) := by decide +kernel
theorem dX1_open_16 : decode cX1_open 16 = .ok (.iload 5, 2) := by decide +kernel
theorem dX1_open_18 : decode cX1_open 18 = .ok (.putfield 25, 3) := by decide +kernel
theorem dX1_open_21 : decode cX1_open 21 = .ok (.aload_n 0, 1) := by decide +kernel
theorem dX1_open_22 : decode cX1_open 22 = .ok (.lload_n 3, 1) := by decide +kernel
theorem dX1_open_23 : decode cX1_open 23 = .ok (.putfield 28, 3) := by decide +kernel
theorem dX1_open_26 : decode cX1_open 26 = .ok (.aload_n 0, 1) := by decide +kernel
theorem dX1_open_27 : decode cX1_open 27 = .ok (.iconst 0, 1) := by decide +kernel
theorem dX1_open_28 : decode cX1_open 28 = .ok (.putfield 32, 3) := by decide +kernel
theorem dX1_open_31 : decode cX1_open 31 = .ok (.aload_n 0, 1) := by decide +kernel
theorem dX1_open_32 : decode cX1_open 32 = .ok (.lconst 0, 1) := by decide +kernel
theorem dX1_open_33 : decode cX1_open 33 = .ok (.putfield 35, 3) := by decide +kernel
theorem dX1_open_36 : decode cX1_open 36 = .ok (.return_, 1) := by decide +kernel
theorem dX1_push_0 : decode cX1_push 0 = .ok (.aload_n 0, 1) := by decide +kernel
theorem dX1_push_1 : decode cX1_push 1 = .ok (.getfield 15, 3) := by decide +kernel
theorem dX1_push_4 : decode cX1_push 4 = .ok (.bipush 12, 2) := by decide +kernel
theorem dX1_push_6 : decode cX1_push 6 = .ok (.if_icmp .lt 5, 3) := by decide +kernel
theorem dX1_push_9 : decode cX1_push 9 = .ok (.iconst 2, 1) := by decide +kernel
theorem dX1_push_10 : decode cX1_push 10 = .ok (.ireturn, 1) := by decide +kernel
theorem dX1_push_11 : decode cX1_push 11 = .ok (.aload_n 0, 1) := by decide +kernel
theorem dX1_push_12 : decode cX1_push 12 = .ok (.getfield 9, 3) := by decide +kernel
theorem dX1_push_15 : decode cX1_push 15 = .ok (.aload_n 0, 1) := by decide +kernel
theorem dX1_push_16 : decode cX1_push 16 = .ok (.getfield 15, 3) := by decide +kernel
theorem dX1_push_19 : decode cX1_push 19 = .ok (.lload_n 1, 1) := by decide +kernel
theorem dX1_push_20 : decode cX1_push 20 = .ok (.lastore, 1) := by decide +kernel
theorem dX1_push_21 : decode cX1_push 21 = .ok (.aload_n 0, 1) := by decide +kernel
theorem dX1_push_22 : decode cX1_push 22 = .ok (.dup, 1) := by decide +kernel
theorem dX1_push_23 : decode cX1_push 23 = .ok (.getfield 15, 3) := by decide +kernel
theorem dX1_push_26 : decode cX1_push 26 = .ok (.iconst 1, 1) := by decide +kernel
theorem dX1_push_27 : decode cX1_push 27 = .ok (.iadd, 1) := by decide +kernel
theorem dX1_push_28 : decode cX1_push 28 = .ok (.putfield 15, 3) := by decide +kernel
theorem dX1_push_31 : decode cX1_push 31 = .ok (.iconst 0, 1) := by decide +kernel
theorem dX1_push_32 : decode cX1_push 32 = .ok (.ireturn, 1) := by decide +kernel
theorem dX1_pop_0 : decode cX1_pop 0 = .ok (.aload_n 0, 1) := by decide +kernel
theorem dX1_pop_1 : decode cX1_pop 1 = .ok (.getfield 15, 3) := by decide +kernel
theorem dX1_pop_4 : decode cX1_pop 4 = .ok (.iconst 1, 1) := by decide +kernel
theorem dX1_pop_5 : decode cX1_pop 5 = .ok (.if_icmp .ge 5, 3) := by decide +kernel
theorem dX1_pop_8 : decode cX1_pop 8 = .ok (.lconst 0, 1) := by decide +kernel
theorem dX1_pop_9 : decode cX1_pop 9 = .ok (.lreturn, 1) := by decide +kernel
theorem dX1_pop_10 : decode cX1_pop 10 = .ok (.aload_n 0, 1) := by decide +kernel
theorem dX1_pop_11 : decode cX1_pop 11 = .ok (.dup, 1) := by decide +kernel
theorem dX1_pop_12 : decode cX1_pop 12 = .ok (.getfield 15, 3) := by decide +kernel
theorem dX1_pop_15 : decode cX1_pop 15 = .ok (.iconst 1, 1) := by decide +kernel
theorem dX1_pop_16 : decode cX1_pop 16 = .ok (.isub, 1) := by decide +kernel
theorem dX1_pop_17 : decode cX1_pop 17 = .ok (.putfield 15, 3) := by decide +kernel
theorem dX1_pop_20 : decode cX1_pop 20 = .ok (.aload_n 0, 1) := by decide +kernel
theorem dX1_pop_21 : decode cX1_pop 21 = .ok (.getfield 9, 3) := by decide +kernel
theorem dX1_pop_24 : decode cX1_pop 24 = .ok (.aload_n 0, 1) := by decide +kernel
theorem dX1_pop_25 : decode cX1_pop 25 = .ok (.getfield 15, 3) := by decide +kernel
theorem dX1_pop_28 : decode cX1_pop 28 = .ok (.laload, 1) := by decide +kernel
theorem dX1_pop_29 : decode cX1_pop 29 = .ok (.lreturn, 1) := by decide +kernel
theorem dX1_top_0 : decode cX1_top 0 = .ok (.aload_n 0, 1) := by decide +kernel
theorem dX1_top_1 : decode cX1_top 1 = .ok (.getfield 15, 3) := by decide +kernel
theorem dX1_top_4 : decode cX1_top 4 = .ok (.iconst 1, 1) := by decide +kernel
theorem dX1_top_5 : decode cX1_top 5 = .ok (.if_icmp .ge 7, 3) := by decide +kernel
theorem dX1_top_8 : decode cX1_top 8 = .ok (.lconst 0, 1) := by decide +kernel
theorem dX1_top_9 : decode cX1_top 9 = .ok (.goto 14, 3) := by decide +kernel
theorem dX1_top_12 : decode cX1_top 12 = .ok (.aload_n 0, 1) := by decide +kernel
theorem dX1_top_13 : decode cX1_top 13 = .ok (.getfield 9, 3) := by decide +kernel
theorem dX1_top_16 : decode cX1_top 16 = .ok (.aload_n 0, 1) := by decide +kernel
theorem dX1_top_17 : decode cX1_top 17 = .ok (.getfield 15, 3) := by decide +kernel
theorem dX1_top_20 : decode cX1_top 20 = .ok (.iconst 1, 1) := by decide +kernel
theorem dX1_top_21 : decode cX1_top 21 = .ok (.isub, 1) := by decide +kernel
theorem dX1_top_22 : decode cX1_top 22 = .ok (.laload, 1) := by decide +kernel
theorem dX1_top_23 : decode cX1_top 23 = .ok (.lreturn, 1) := by decide +kernel
theorem dX1_pushCopy_0 : decode cX1_pushCopy 0 = .ok (.lload_n 1, 1) := by decide +kernel
theorem dX1_pushCopy_1 : decode cX1_pushCopy 1 = .ok (.aload_n 0, 1) := by decide +kernel
theorem dX1_pushCopy_2 : decode cX1_pushCopy 2 = .ok (.getfield 15, 3) := by decide +kernel
theorem dX1_pushCopy_5 : decode cX1_pushCopy 5 = .ok (.invokestatic 38, 3) := by decide +kernel
theorem dX1_pushCopy_8 : decode cX1_pushCopy 8 = .ok (.ifCond .ne 5, 3) := by decide +kernel
theorem dX1_pushCopy_11 : decode cX1_pushCopy 11 = .ok (.iconst 2, 1) := by decide +kernel
theorem dX1_pushCopy_12 : decode cX1_pushCopy 12 = .ok (.ireturn, 1) := by decide +kernel
theorem dX1_pushCopy_13 : decode cX1_pushCopy 13 = .ok (.aload_n 0, 1) := by decide +kernel
theorem dX1_pushCopy_14 : decode cX1_pushCopy 14 = .ok (.aload_n 0, 1) := by decide +kernel
theorem dX1_pushCopy_15 : decode cX1_pushCopy 15 = .ok (.getfield 9, 3) := by decide +kernel
theorem dX1_pushCopy_18 : decode cX1_pushCopy 18 = .ok (.aload_n 0, 1) := by decide +kernel
theorem dX1_pushCopy_19 : decode cX1_pushCopy 19 = .ok (.getfield 15, 3) := by decide +kernel
theorem dX1_pushCopy_22 : decode cX1_pushCopy 22 = .ok (.iconst 1, 1) := by decide +kernel
theorem dX1_pushCopy_23 : decode cX1_pushCopy 23 = .ok (.isub, 1) := by decide +kernel
theorem dX1_pushCopy_24 : decode cX1_pushCopy 24 = .ok (.lload_n 1, 1) := by decide +kernel
theorem dX1_pushCopy_25 : decode cX1_pushCopy 25 = .ok (.l2i, 1) := by decide +kernel
theorem dX1_pushCopy_26 : decode cX1_pushCopy 26 = .ok (.isub, 1) := by decide +kernel
theorem dX1_pushCopy_27 : decode cX1_pushCopy 27 = .ok (.laload, 1) := by decide +kernel
theorem dX1_pushCopy_28 : decode cX1_pushCopy 28 = .ok (.invokevirtual 42, 3) := by decide +kernel
theorem dX1_pushCopy_31 : decode cX1_pushCopy 31 = .ok (.ireturn, 1) := by decide +kernel
theorem dX1_pushMath_0 : decode cX1_pushMath 0 = .ok (.aload_n 0, 1) := by decide +kernel
theorem dX1_pushMath_1 : decode cX1_pushMath 1 = .ok (.invokevirtual 46, 3) := by decide +kernel
theorem dX1_pushMath_4 : decode cX1_pushMath 4 = .ok (.lstore_n 3, 1) := by decide +kernel
theorem dX1_pushMath_5 : decode cX1_pushMath 5 = .ok (.aload_n 0, 1) := by decide +kernel
theorem dX1_pushMath_6 : decode cX1_pushMath 6 = .ok (.invokevirtual 46, 3) := by decide +kernel
theorem dX1_pushMath_9 : decode cX1_pushMath 9 = .ok (.lstore 5, 2) := by decide +kernel
theorem dX1_pushMath_11 : decode cX1_pushMath 11 = .ok (.lload_n 1, 1) := by decide +kernel
theorem dX1_pushMath_12 : decode cX1_pushMath 12 = .ok (.iconst 5, 1) := by decide +kernel
theorem dX1_pushMath_13 : decode cX1_pushMath 13 = .ok (.invokestatic 38, 3) := by decide +kernel
theorem dX1_pushMath_16 : decode cX1_pushMath 16 = .ok (.ifCond .ne 5, 3) := by decide +kernel
theorem dX1_pushMath_19 : decode cX1_pushMath 19 = .ok (.iconst 2, 1) := by decide +kernel
theorem dX1_pushMath_20 : decode cX1_pushMath 20 = .ok (.ireturn, 1) := by decide +kernel
theorem dX1_pushMath_21 : decode cX1_pushMath 21 = .ok (.lload_n 1, 1) := by decide +kernel
theorem dX1_pushMath_22 : decode cX1_pushMath 22 = .ok (.l2i, 1) := by decide +kernel
theorem dX1_pushMath_23 : decode cX1_pushMath 23 = .ok (.tableswitch 75 0 3 #[29, 38, 47, 56], 29) := by decide +kernel
theorem dX1_pushMath_52 : decode cX1_pushMath 52 = .ok (.aload_n 0, 1) := by decide +kernel
theorem dX1_pushMath_53 : decode cX1_pushMath 53 = .ok (.lload 5, 2) := by decide +kernel
theorem dX1_pushMath_55 : decode cX1_pushMath 55 = .ok (.lload_n 3, 1) := by decide +kernel
theorem dX1_pushMath_56 : decode cX1_pushMath 56 = .ok (.ladd, 1) := by decide +kernel
theorem dX1_pushMath_57 : decode cX1_pushMath 57 = .ok (.invokevirtual 42, 3) := by decide +kernel
theorem dX1_pushMath_60 : decode cX1_pushMath 60 = .ok (.ireturn, 1) := by decide +kernel
theorem dX1_pushMath_61 : decode cX1_pushMath 61 = .ok (.aload_n 0, 1) := by decide +kernel
theorem dX1_pushMath_62 : decode cX1_pushMath 62 = .ok (.lload 5, 2) := by decide +kernel
theorem dX1_pushMath_64 : decode cX1_pushMath 64 = .ok (.lload_n 3, 1) := by decide +kernel
theorem dX1_pushMath_65 : decode cX1_pushMath 65 = .ok (.lsub, 1) := by decide +kernel
theorem dX1_pushMath_66 : decode cX1_pushMath 66 = .ok (.invokevirtual 42, 3) := by decide +kernel
theorem dX1_pushMath_69 : decode cX1_pushMath 69 = .ok (.ireturn, 1) := by decide +kernel
theorem dX1_pushMath_70 : decode cX1_pushMath 70 = .ok (.aload_n 0, 1) := by decide +kernel
theorem dX1_pushMath_71 : decode cX1_pushMath 71 = .ok (.lload 5, 2) := by decide +kernel
theorem dX1_pushMath_73 : decode cX1_pushMath 73 = .ok (.lload_n 3, 1) := by decide +kernel
theorem dX1_pushMath_74 : decode cX1_pushMath 74 = .ok (.lmul, 1) := by decide +kernel
theorem dX1_pushMath_75 : decode cX1_pushMath 75 = .ok (.invokevirtual 42, 3) := by decide +kernel
theorem dX1_pushMath_78 : decode cX1_pushMath 78 = .ok (.ireturn, 1) := by decide +kernel
theorem dX1_pushMath_79 : decode cX1_pushMath 79 = .ok (.lload_n 3, 1) := by decide +kernel
theorem dX1_pushMath_80 : decode cX1_pushMath 80 = .ok (.lconst 0, 1) := by decide +kernel
theorem dX1_pushMath_81 : decode cX1_pushMath 81 = .ok (.lcmp, 1) := by decide +kernel
theorem dX1_pushMath_82 : decode cX1_pushMath 82 = .ok (.ifCond .ne 7, 3) := by decide +kernel
theorem dX1_pushMath_85 : decode cX1_pushMath 85 = .ok (.iconst 3, 1) := by decide +kernel
theorem dX1_pushMath_86 : decode cX1_pushMath 86 = .ok (.goto 11, 3) := by decide +kernel
theorem dX1_pushMath_89 : decode cX1_pushMath 89 = .ok (.aload_n 0, 1) := by decide +kernel
theorem dX1_pushMath_90 : decode cX1_pushMath 90 = .ok (.lload 5, 2) := by decide +kernel
theorem dX1_pushMath_92 : decode cX1_pushMath 92 = .ok (.lload_n 3, 1) := by decide +kernel
theorem dX1_pushMath_93 : decode cX1_pushMath 93 = .ok (.ldiv, 1) := by decide +kernel
theorem dX1_pushMath_94 : decode cX1_pushMath 94 = .ok (.invokevirtual 42, 3) := by decide +kernel
theorem dX1_pushMath_97 : decode cX1_pushMath 97 = .ok (.ireturn, 1) := by decide +kernel
theorem dX1_pushMath_98 : decode cX1_pushMath 98 = .ok (.lload_n 3, 1) := by decide +kernel
theorem dX1_pushMath_99 : decode cX1_pushMath 99 = .ok (.lconst 0, 1) := by decide +kernel
theorem dX1_pushMath_100 : decode cX1_pushMath 100 = .ok (.lcmp, 1) := by decide +kernel
theorem dX1_pushMath_101 : decode cX1_pushMath 101 = .ok (.ifCond .ne 7, 3) := by decide +kernel
theorem dX1_pushMath_104 : decode cX1_pushMath 104 = .ok (.iconst 3, 1) := by decide +kernel
theorem dX1_pushMath_105 : decode cX1_pushMath 105 = .ok (.goto 11, 3) := by decide +kernel
theorem dX1_pushMath_108 : decode cX1_pushMath 108 = .ok (.aload_n 0, 1) := by decide +kernel
theorem dX1_pushMath_109 : decode cX1_pushMath 109 = .ok (.lload 5, 2) := by decide +kernel
theorem dX1_pushMath_111 : decode cX1_pushMath 111 = .ok (.lload_n 3, 1) := by decide +kernel
theorem dX1_pushMath_112 : decode cX1_pushMath 112 = .ok (.lrem, 1) := by decide +kernel
theorem dX1_pushMath_113 : decode cX1_pushMath 113 = .ok (.invokevirtual 42, 3) := by decide +kernel
theorem dX1_pushMath_116 : decode cX1_pushMath 116 = .ok (.ireturn, 1) := by decide +kernel
theorem dX1_jump_0 : decode cX1_jump 0 = .ok (.aload_n 0, 1) := by decide +kernel
theorem dX1_jump_1 : decode cX1_jump 1 = .ok (.invokevirtual 46, 3) := by decide +kernel
theorem dX1_jump_4 : decode cX1_jump 4 = .ok (.lconst 0, 1) := by decide +kernel
theorem dX1_jump_5 : decode cX1_jump 5 = .ok (.lcmp, 1) := by decide +kernel
theorem dX1_jump_6 : decode cX1_jump 6 = .ok (.ifCond .ne 5, 3) := by decide +kernel
theorem dX1_jump_9 : decode cX1_jump 9 = .ok (.iconst 0, 1) := by decide +kernel
theorem dX1_jump_10 : decode cX1_jump 10 = .ok (.ireturn, 1) := by decide +kernel
theorem dX1_jump_11 : decode cX1_jump 11 = .ok (.lload_n 1, 1) := by decide +kernel
theorem dX1_jump_12 : decode cX1_jump 12 = .ok (.iload_n 3, 1) := by decide +kernel
theorem dX1_jump_13 : decode cX1_jump 13 = .ok (.invokestatic 38, 3) := by decide +kernel
theorem dX1_jump_16 : decode cX1_jump 16 = .ok (.ifCond .ne 5, 3) := by decide +kernel
theorem dX1_jump_19 : decode cX1_jump 19 = .ok (.iconst 2, 1) := by decide +kernel
theorem dX1_jump_20 : decode cX1_jump 20 = .ok (.ireturn, 1) := by decide +kernel
theorem dX1_jump_21 : decode cX1_jump 21 = .ok (.aload_n 0, 1) := by decide +kernel
theorem dX1_jump_22 : decode cX1_jump 22 = .ok (.lload_n 1, 1) := by decide +kernel
theorem dX1_jump_23 : decode cX1_jump 23 = .ok (.l2i, 1) := by decide +kernel
theorem dX1_jump_24 : decode cX1_jump 24 = .ok (.putfield 32, 3) := by decide +kernel
theorem dX1_jump_27 : decode cX1_jump 27 = .ok (.iconst 0, 1) := by decide +kernel
theorem dX1_jump_28 : decode cX1_jump 28 = .ok (.ireturn, 1) := by decide +kernel
theorem dX1_end_0 : decode cX1_end 0 = .ok (.aload_n 0, 1) := by decide +kernel
theorem dX1_end_1 : decode cX1_end 1 = .ok (.aload_n 0, 1) := by decide +kernel
theorem dX1_end_2 : decode cX1_end 2 = .ok (.invokevirtual 46, 3) := by decide +kernel
theorem dX1_end_5 : decode cX1_end 5 = .ok (.putfield 35, 3) := by decide +kernel
theorem dX1_end_8 : decode cX1_end 8 = .ok (.aload_n 0, 1) := by decide +kernel
theorem dX1_end_9 : decode cX1_end 9 = .ok (.iload_n 1, 1) := by decide +kernel
theorem dX1_end_10 : decode cX1_end 10 = .ok (.putfield 32, 3) := by decide +kernel
theorem dX1_end_13 : decode cX1_end 13 = .ok (.iconst 0, 1) := by decide +kernel
theorem dX1_end_14 : decode cX1_end 14 = .ok (.ireturn, 1) := by decide +kernel
theorem dX2_init_0 : decode cX2_init 0 = .ok (.aload_n 0, 1) := by decide +kernel
theorem dX2_init_1 : decode cX2_init 1 = .ok (.invokespecial 3, 3) := by decide +kernel
theorem dX2_init_4 : decode cX2_init 4 = .ok (.aload_n 0, 1) := by decide +kernel
theorem dX2_init_5 : decode cX2_init 5 = .ok (.bipush 64, 2) := by decide +kernel
theorem dX2_init_7 : decode cX2_init 7 = .ok (.newarray .byte, 2) := by decide +kernel
theorem dX2_init_9 : decode cX2_init 9 = .ok (.putfield 9, 3) := by decide +kernel
theorem dX2_init_12 : decode cX2_init 12 = .ok (.aload_n 0, 1) := by decide +kernel
theorem dX2_init_13 : decode cX2_init 13 = .ok (.bipush 19, 2) := by decide +kernel
theorem dX2_init_15 : decode cX2_init 15 = .ok (.newarray .int, 2) := by decide +kernel
theorem dX2_init_17 : decode cX2_init 17 = .ok (.putfield 15, 3) := by decide +kernel
theorem dX2_init_20 : decode cX2_init 20 = .ok (.aload_n 0, 1) := by decide +kernel
theorem dX2_init_21 : decode cX2_init 21 = .ok (.iconst 0, 1) := by decide +kernel
theorem dX2_init_22 : decode cX2_init 22 = .ok (.putfield 19, 3) := by decide +kernel
theorem dX2_init_25 : decode cX2_init 25 = .ok (.return_, 1) := by decide +kernel
theorem dX2_writeStep_0 : decode cX2_writeStep 0 = .ok (.aload_n 1, 1) := by decide +kernel
theorem dX2_writeStep_1 : decode cX2_writeStep 1 = .ok (.getfield 23, 3) := by decide +kernel
theorem dX2_writeStep_4 : decode cX2_writeStep 4 = .ok (.bipush 6, 2) := by decide +kernel
theorem dX2_writeStep_6 : decode cX2_writeStep 6 = .ok (.aaload, 1) := by decide +kernel
theorem dX2_writeStep_7 : decode cX2_writeStep 7 = .ok (.iload_n 2, 1) := by decide +kernel
theorem dX2_writeStep_8 : decode cX2_writeStep 8 = .ok (.iaload, 1) := by decide +kernel
theorem dX2_writeStep_9 : decode cX2_writeStep 9 = .ok (.istore_n 3, 1) := by decide +kernel
theorem dX2_writeStep_10 : decode cX2_writeStep 10 = .ok (.aload_n 0, 1) := by decide +kernel
theorem dX2_writeStep_11 : decode cX2_writeStep 11 = .ok (.iconst 0, 1) := by decide +kernel
theorem dX2_writeStep_12 : decode cX2_writeStep 12 = .ok (.putfield 19, 3) := by decide +kernel
theorem dX2_writeStep_15 : decode cX2_writeStep 15 = .ok (.aload_n 0, 1) := by decide +kernel
theorem dX2_writeStep_16 : decode cX2_writeStep 16 = .ok (.aload_n 1, 1) := by decide +kernel
theorem dX2_writeStep_17 : decode cX2_writeStep 17 = .ok (.getfield 23, 3) := by decide +kernel
theorem dX2_writeStep_20 : decode cX2_writeStep 20 = .ok (.iconst 0, 1) := by decide +kernel
theorem dX2_writeStep_21 : decode cX2_writeStep 21 = .ok (.aaload, 1) := by decide +kernel
theorem dX2_writeStep_22 : decode cX2_writeStep 22 = .ok (.iload_n 2, 1) := by decide +kernel
theorem dX2_writeStep_23 : decode cX2_writeStep 23 = .ok (.iaload, 1) := by decide +kernel
theorem dX2_writeStep_24 : decode cX2_writeStep 24 = .ok (.i2l, 1) := by decide +kernel
theorem dX2_writeStep_25 : decode cX2_writeStep 25 = .ok (.invokevirtual 29, 3) := by decide +kernel
theorem dX2_writeStep_28 : decode cX2_writeStep 28 = .ok (.aload_n 0, 1) := by decide +kernel
theorem dX2_writeStep_29 : decode cX2_writeStep 29 = .ok (.bipush 32, 2) := by decide +kernel
theorem dX2_writeStep_31 : decode cX2_writeStep 31 = .ok (.invokevirtual 33, 3) := by decide +kernel
theorem dX2_writeStep_34 : decode cX2_writeStep 34 = .ok (.aload_n 0, 1) := by decide +kernel
theorem dX2_writeStep_35 : decode cX2_writeStep 35 = .ok (.aload_n 1, 1) := by decide +kernel
theorem dX2_writeStep_36 : decode cX2_writeStep 36 = .ok (.getfield 23, 3) := by decide +kernel
theorem dX2_writeStep_39 : decode cX2_writeStep 39 = .ok (.iconst 1, 1) := by decide +kernel
theorem dX2_writeStep_40 : decode cX2_writeStep 40 = .ok (.aaload, 1) := by decide +kernel
theorem dX2_writeStep_41 : decode cX2_writeStep 41 = .ok (.iload_n 2, 1) := by decide +kernel
theorem dX2_writeStep_42 : decode cX2_writeStep 42 = .ok (.iaload, 1) := by decide +kernel
theorem dX2_writeStep_43 : decode cX2_writeStep 43 = .ok (.i2l, 1) := by decide +kernel
theorem dX2_writeStep_44 : decode cX2_writeStep 44 = .ok (.invokevirtual 29, 3) := by decide +kernel
theorem dX2_writeStep_47 : decode cX2_writeStep 47 = .ok (.aload_n 0, 1) := by decide +kernel
theorem dX2_writeStep_48 : decode cX2_writeStep 48 = .ok (.bipush 46, 2) := by decide +kernel
theorem dX2_writeStep_50 : decode cX2_writeStep 50 = .ok (.invokevirtual 33, 3) := by decide +kernel
theorem dX2_writeStep_53 : decode cX2_writeStep 53 = .ok (.aload_n 0, 1) := by decide +kernel
theorem dX2_writeStep_54 : decode cX2_writeStep 54 = .ok (.aload_n 1, 1) := by decide +kernel
theorem dX2_writeStep_55 : decode cX2_writeStep 55 = .ok (.getfield 23, 3) := by decide +kernel
theorem dX2_writeStep_58 : decode cX2_writeStep 58 = .ok (.iconst 2, 1) := by decide +kernel
theorem dX2_writeStep_59 : decode cX2_writeStep 59 = .ok (.aaload, 1) := by decide +kernel
theorem dX2_writeStep_60 : decode cX2_writeStep 60 = .ok (.iload_n 2, 1) := by decide +kernel
theorem dX2_writeStep_61 : decode cX2_writeStep 61 = .ok (.iaload, 1) := by decide +kernel
theorem dX2_writeStep_62 : decode cX2_writeStep 62 = .ok (.i2l, 1) := by decide +kernel
theorem dX2_writeStep_63 : decode cX2_writeStep 63 = .ok (.invokevirtual 29, 3) := by decide +kernel
theorem dX2_writeStep_66 : decode cX2_writeStep 66 = .ok (.aload_n 0, 1) := by decide +kernel
theorem dX2_writeStep_67 : decode cX2_writeStep 67 = .ok (.bipush 58, 2) := by decide +kernel
theorem dX2_writeStep_69 : decode cX2_writeStep 69 = .ok (.invokevirtual 33, 3) := by decide +kernel
theorem dX2_writeStep_72 : decode cX2_writeStep 72 = .ok (.aload_n 0, 1) := by decide +kernel
theorem dX2_writeStep_73 : decode cX2_writeStep 73 = .ok (.aload_n 1, 1) := by decide +kernel
theorem dX2_writeStep_74 : decode cX2_writeStep 74 = .ok (.getfield 23, 3) := by decide +kernel
theorem dX2_writeStep_77 : decode cX2_writeStep 77 = .ok (.iconst 3, 1) := by decide +kernel
theorem dX2_writeStep_78 : decode cX2_writeStep 78 = .ok (.aaload, 1) := by decide +kernel
theorem dX2_writeStep_79 : decode cX2_writeStep 79 = .ok (.iload_n 2, 1) := by decide +kernel
theorem dX2_writeStep_80 : decode cX2_writeStep 80 = .ok (.iaload, 1) := by decide +kernel
theorem dX2_writeStep_81 : decode cX2_writeStep 81 = .ok (.i2l, 1) := by decide +kernel
theorem dX2_writeStep_82 : decode cX2_writeStep 82 = .ok (.invokevirtual 29, 3) := by decide +kernel
theorem dX2_writeStep_85 : decode cX2_writeStep 85 = .ok (.aload_n 0, 1) := by decide +kernel
theorem dX2_writeStep_86 : decode cX2_writeStep 86 = .ok (.bipush 32, 2) := by decide +kernel
theorem dX2_writeStep_88 : decode cX2_writeStep 88 = .ok (.invokevirtual 33, 3) := by decide +kernel
theorem dX2_writeStep_91 : decode cX2_writeStep 91 = .ok (.aload_n 0, 1) := by decide +kernel
theorem dX2_writeStep_92 : decode cX2_writeStep 92 = .ok (.aload_n 1, 1) := by decide +kernel
theorem dX2_writeStep_93 : decode cX2_writeStep 93 = .ok (.getfield 23, 3) := by decide +kernel
theorem dX2_writeStep_96 : decode cX2_writeStep 96 = .ok (.iconst 4, 1) := by decide +kernel
theorem dX2_writeStep_97 : decode cX2_writeStep 97 = .ok (.aaload, 1) := by decide +kernel
theorem dX2_writeStep_98 : decode cX2_writeStep 98 = .ok (.iload_n 2, 1) := by decide +kernel
theorem dX2_writeStep_99 : decode cX2_writeStep 99 = .ok (.iaload, 1) := by decide +kernel
theorem dX2_writeStep_100 : decode cX2_writeStep 100 = .ok (.i2l, 1) := by decide +kernel
theorem dX2_writeStep_101 : decode cX2_writeStep 101 = .ok (.invokevirtual 29, 3) := by decide +kernel
theorem dX2_writeStep_104 : decode cX2_writeStep 104 = .ok (.aload_n 0, 1) := by decide +kernel
theorem dX2_writeStep_105 : decode cX2_writeStep 105 = .ok (.bipush 32, 2) := by decide +kernel
theorem dX2_writeStep_107 : decode cX2_writeStep 107 = .ok (.invokevirtual 33, 3) := by decide +kernel
theorem dX2_writeStep_110 : decode cX2_writeStep 110 = .ok (.aload_n 0, 1) := by decide +kernel
theorem dX2_writeStep_111 : decode cX2_writeStep 111 = .ok (.aload_n 1, 1) := by decide +kernel
theorem dX2_writeStep_112 : decode cX2_writeStep 112 = .ok (.getfield 37, 3) := by decide +kernel
theorem dX2_writeStep_115 : decode cX2_writeStep 115 = .ok (.iload_n 2, 1) := by decide +kernel
theorem dX2_writeStep_116 : decode cX2_writeStep 116 = .ok (.laload, 1) := by decide +kernel
theorem dX2_writeStep_117 : decode cX2_writeStep 117 = .ok (.invokevirtual 29, 3) := by decide +kernel
theorem dX2_writeStep_120 : decode cX2_writeStep 120 = .ok (.iload_n 3, 1) := by decide +kernel
theorem dX2_writeStep_121 : decode cX2_writeStep 121 = .ok (.ifCond .eq 15, 3) := by decide +kernel
theorem dX2_writeStep_124 : decode cX2_writeStep 124 = .ok (.aload_n 0, 1) := by decide +kernel
theorem dX2_writeStep_125 : decode cX2_writeStep 125 = .ok (.bipush 33, 2) := by decide +kernel
theorem dX2_writeStep_127 : decode cX2_writeStep 127 = .ok (.invokevirtual 33, 3) := by decide +kernel
theorem dX2_writeStep_130 : decode cX2_writeStep 130 = .ok (.aload_n 0, 1) := by decide +kernel
theorem dX2_writeStep_131 : decode cX2_writeStep 131 = .ok (.iload_n 3, 1) := by decide +kernel
theorem dX2_writeStep_132 : decode cX2_writeStep 132 = .ok (.i2l, 1) := by decide +kernel
theorem dX2_writeStep_133 : decode cX2_writeStep 133 = .ok (.invokevirtual 29, 3) := by decide +kernel
theorem dX2_writeStep_136 : decode cX2_writeStep 136 = .ok (.return_, 1) := by decide +kernel
theorem dX2_addSign_0 : decode cX2_addSign 0 = .ok (.aload_n 0, 1) := by decide +kernel
theorem dX2_addSign_1 : decode cX2_addSign 1 = .ok (.getfield 19, 3) := by decide +kernel
theorem dX2_addSign_4 : decode cX2_addSign 4 = .ok (.bipush 64, 2) := by decide +kernel
theorem dX2_addSign_6 : decode cX2_addSign 6 = .ok (.if_icmp .ge 24, 3) := by decide +kernel
theorem dX2_addSign_9 : decode cX2_addSign 9 = .ok (.aload_n 0, 1) := by decide +kernel
theorem dX2_addSign_10 : decode cX2_addSign 10 = .ok (.getfield 9, 3) := by decide +kernel
theorem dX2_addSign_13 : decode cX2_addSign 13 = .ok (.aload_n 0, 1) := by decide +kernel
theorem dX2_addSign_14 : decode cX2_addSign 14 = .ok (.getfield 19, 3) := by decide +kernel
theorem dX2_addSign_17 : decode cX2_addSign 17 = .ok (.iload_n 1, 1) := by decide +kernel
theorem dX2_addSign_18 : decode cX2_addSign 18 = .ok (.i2b, 1) := by decide +kernel
theorem dX2_addSign_19 : decode cX2_addSign 19 = .ok (.bastore, 1) := by decide +kernel
theorem dX2_addSign_20 : decode cX2_addSign 20 = .ok (.aload_n 0, 1) := by decide +kernel
theorem dX2_addSign_21 : decode cX2_addSign 21 = .ok (.dup, 1) := by decide +kernel
theorem dX2_addSign_22 : decode cX2_addSign 22 = .ok (.getfield 19, 3) := by decide +kernel
theorem dX2_addSign_25 : decode cX2_addSign 25 = .ok (.iconst 1, 1) := by decide +kernel
theorem dX2_addSign_26 : decode cX2_addSign 26 = .ok (.iadd, 1) := by decide +kernel
theorem dX2_addSign_27 : decode cX2_addSign 27 = .ok (.putfield 19, 3) := by decide +kernel
theorem dX2_addSign_30 : decode cX2_addSign 30 = .ok (.return_, 1) := by decide +kernel
theorem dX2_addNumber_0 : decode cX2_addNumber 0 = .ok (.lload_n 1, 1) := by decide +kernel
theorem dX2_addNumber_1 : decode cX2_addNumber 1 = .ok (.lconst 0, 1) := by decide +kernel
theorem dX2_addNumber_2 : decode cX2_addNumber 2 = .ok (.lcmp, 1) := by decide +kernel
theorem dX2_addNumber_3 : decode cX2_addNumber 3 = .ok (.ifCond .ge 9, 3) := by decide +kernel
theorem dX2_addNumber_6 : decode cX2_addNumber 6 = .ok (.aload_n 0, 1) := by decide +kernel
theorem dX2_addNumber_7 : decode cX2_addNumber 7 = .ok (.bipush 45, 2) := by decide +kernel
theorem dX2_addNumber_9 : decode cX2_addNumber 9 = .ok (.invokevirtual 33, 3) := by decide +kernel
theorem dX2_addNumber_12 : decode cX2_addNumber 12 = .ok (.lload_n 1, 1) := by decide +kernel
theorem dX2_addNumber_13 : decode cX2_addNumber 13 = .ok (.lconst 0, 1) := by decide +kernel
theorem dX2_addNumber_14 : decode cX2_addNumber 14 = .ok (.lcmp, 1) := by decide +kernel
theorem dX2_addNumber_15 : decode cX2_addNumber 15 = .ok (.ifCond .ge 7, 3) := by decide +kernel
theorem dX2_addNumber_18 : decode cX2_addNumber 18 = .ok (.lload_n 1, 1) := by decide +kernel
theorem dX2_addNumber_19 : decode cX2_addNumber 19 = .ok (.goto 5, 3) := by decide +kernel
theorem dX2_addNumber_22 : decode cX2_addNumber 22 = .ok (.lload_n 1, 1) := by decide +kernel
theorem dX2_addNumber_23 : decode cX2_addNumber 23 = .ok (.lneg, 1) := by decide +kernel
theorem dX2_addNumber_24 : decode cX2_addNumber 24 = .ok (.lstore_n 3, 1) := by decide +kernel
theorem dX2_addNumber_25 : decode cX2_addNumber 25 = .ok (.iconst 0, 1) := by decide +kernel
theorem dX2_addNumber_26 : decode cX2_addNumber 26 = .ok (.istore 5, 2) := by decide +kernel
theorem dX2_addNumber_28 : decode cX2_addNumber 28 = .ok (.aload_n 0, 1) := by decide +kernel
theorem dX2_addNumber_29 : decode cX2_addNumber 29 = .ok (.getfield 15, 3) := by decide +kernel
theorem dX2_addNumber_32 : decode cX2_addNumber 32 = .ok (.iload 5, 2) := by decide +kernel
theorem dX2_addNumber_34 : decode cX2_addNumber 34 = .ok (.bipush 48, 2) := by decide +kernel
theorem dX2_addNumber_36 : decode cX2_addNumber 36 = .ok (.lload_n 3, 1) := by decide +kernel
theorem dX2_addNumber_37 : decode cX2_addNumber 37 = .ok (.ldc2_w 41, 3) := by decide +kernel
theorem dX2_addNumber_40 : decode cX2_addNumber 40 = .ok (.lrem, 1) := by decide +kernel
theorem dX2_addNumber_41 : decode cX2_addNumber 41 = .ok (.l2i, 1) := by decide +kernel
theorem dX2_addNumber_42 : decode cX2_addNumber 42 = .ok (.isub, 1) := by decide +kernel
theorem dX2_addNumber_43 : decode cX2_addNumber 43 = .ok (.iastore, 1) := by decide +kernel
theorem dX2_addNumber_44 : decode cX2_addNumber 44 = .ok (.lload_n 3, 1) := by decide +kernel
theorem dX2_addNumber_45 : decode cX2_addNumber 45 = .ok (.ldc2_w 41, 3) := by decide +kernel
theorem dX2_addNumber_48 : decode cX2_addNumber 48 = .ok (.ldiv, 1) := by decide +kernel
theorem dX2_addNumber_49 : decode cX2_addNumber 49 = .ok (.lstore_n 3, 1) := by decide +kernel
theorem dX2_addNumber_50 : decode cX2_addNumber 50 = .ok (.iinc 5 1, 3) := by decide +kernel
theorem dX2_addNumber_53 : decode cX2_addNumber 53 = .ok (.lload_n 3, 1) := by decide +kernel
theorem dX2_addNumber_54 : decode cX2_addNumber 54 = .ok (.lconst 0, 1) := by decide +kernel
theorem dX2_addNumber_55 : decode cX2_addNumber 55 = .ok (.lcmp, 1) := by decide +kernel
theorem dX2_addNumber_56 : decode cX2_addNumber 56 = .ok (.ifCond .eq 10, 3) := by decide +kernel
theorem dX2_addNumber_59 : decode cX2_addNumber 59 = .ok (.iload 5, 2) := by decide +kernel
theorem dX2_addNumber_61 : decode cX2_addNumber 61 = .ok (.bipush 19, 2) := by decide +kernel
theorem dX2_addNumber_63 : decode cX2_addNumber 63 = .ok (.if_icmp .lt (-35), 3) := by decide +kernel
theorem dX2_addNumber_66 : decode cX2_addNumber 66 = .ok (.iload 5, 2) := by decide +kernel
theorem dX2_addNumber_68 : decode cX2_addNumber 68 = .ok (.iconst 1, 1) := by decide +kernel
theorem dX2_addNumber_69 : decode cX2_addNumber 69 = .ok (.isub, 1) := by decide +kernel
theorem dX2_addNumber_70 : decode cX2_addNumber 70 = .ok (.istore 6, 2) := by decide +kernel
theorem dX2_addNumber_72 : decode cX2_addNumber 72 = .ok (.iload 6, 2) := by decide +kernel
theorem dX2_addNumber_74 : decode cX2_addNumber 74 = .ok (.ifCond .lt 20, 3) := by decide +kernel
theorem dX2_addNumber_77 : decode cX2_addNumber 77 = .ok (.aload_n 0, 1) := by decide +kernel
theorem dX2_addNumber_78 : decode cX2_addNumber 78 = .ok (.aload_n 0, 1) := by decide +kernel
theorem dX2_addNumber_79 : decode cX2_addNumber 79 = .ok (.getfield 15, 3) := by decide +kernel
theorem dX2_addNumber_82 : decode cX2_addNumber 82 = .ok (.iload 6, 2) := by decide +kernel
theorem dX2_addNumber_84 : decode cX2_addNumber 84 = .ok (.iaload, 1) := by decide +kernel
theorem dX2_addNumber_85 : decode cX2_addNumber 85 = .ok (.invokevirtual 33, 3) := by decide +kernel
theorem dX2_addNumber_88 : decode cX2_addNumber 88 = .ok (.iinc 6 (-1), 3) := by decide +kernel
theorem dX2_addNumber_91 : decode cX2_addNumber 91 = .ok (.goto (-19), 3) := by decide +kernel
theorem dX2_addNumber_94 : decode cX2_addNumber 94 = .ok (.return_, 1) := by decide +kernel
theorem dX3_init_0 : decode cX3_init 0 = .ok (.aload_n 0, 1) := by decide +kernel
theorem dX3_init_1 : decode cX3_init 1 = .ok (.invokespecial 3, 3) := by decide +kernel
theorem dX3_init_4 : decode cX3_init 4 = .ok (.aload_n 0, 1) := by decide +kernel
theorem dX3_init_5 : decode cX3_init 5 = .ok (.bipush 20, 2) := by decide +kernel
theorem dX3_init_7 : decode cX3_init 7 = .ok (.newarray .int, 2) := by decide +kernel
theorem dX3_init_9 : decode cX3_init 9 = .ok (.putfield 9, 3) := by decide +kernel
theorem dX3_init_12 : decode cX3_init 12 = .ok (.aload_n 0, 1) := by decide +kernel
theorem dX3_init_13 : decode cX3_init 13 = .ok (.bipush 20, 2) := by decide +kernel
theorem dX3_init_15 : decode cX3_init 15 = .ok (.newarray .long, 2) := by decide +kernel
theorem dX3_init_17 : decode cX3_init 17 = .ok (.putfield 15, 3) := by decide +kernel
theorem dX3_init_20 : decode cX3_init 20 = .ok (.aload_n 0, 1) := by decide +kernel
theorem dX3_init_21 : decode cX3_init 21 = .ok (.bipush 20, 2) := by decide +kernel
theorem dX3_init_23 : decode cX3_init 23 = .ok (.newarray .int, 2) := by decide +kernel
theorem dX3_init_25 : decode cX3_init 25 = .ok (.putfield 19, 3) := by decide +kernel
theorem dX3_init_28 : decode cX3_init 28 = .ok (.aload_n 0, 1) := by decide +kernel
theorem dX3_init_29 : decode cX3_init 29 = .ok (.iconst 0, 1) := by decide +kernel
theorem dX3_init_30 : decode cX3_init 30 = .ok (.putfield 22, 3) := by decide +kernel
theorem dX3_init_33 : decode cX3_init 33 = .ok (.return_, 1) := by decide +kernel
theorem dX3_add_0 : decode cX3_add 0 = .ok (.aload_n 0, 1) := by decide +kernel
theorem dX3_add_1 : decode cX3_add 1 = .ok (.getfield 22, 3) := by decide +kernel
theorem dX3_add_4 : decode cX3_add 4 = .ok (.bipush 20, 2) := by decide +kernel
theorem dX3_add_6 : decode cX3_add 6 = .ok (.if_icmp .lt 5, 3) := by decide +kernel
theorem dX3_add_9 : decode cX3_add 9 = .ok (.iconst 0, 1) := by decide +kernel
theorem dX3_add_10 : decode cX3_add 10 = .ok (.ireturn, 1) := by decide +kernel
theorem dX3_add_11 : decode cX3_add 11 = .ok (.aload_n 0, 1) := by decide +kernel
theorem dX3_add_12 : decode cX3_add 12 = .ok (.getfield 9, 3) := by decide +kernel
theorem dX3_add_15 : decode cX3_add 15 = .ok (.aload_n 0, 1) := by decide +kernel
theorem dX3_add_16 : decode cX3_add 16 = .ok (.getfield 22, 3) := by decide +kernel
theorem dX3_add_19 : decode cX3_add 19 = .ok (.iload_n 1, 1) := by decide +kernel
theorem dX3_add_20 : decode cX3_add 20 = .ok (.iastore, 1) := by decide +kernel
theorem dX3_add_21 : decode cX3_add 21 = .ok (.aload_n 0, 1) := by decide +kernel
theorem dX3_add_22 : decode cX3_add 22 = .ok (.getfield 15, 3) := by decide +kernel
theorem dX3_add_25 : decode cX3_add 25 = .ok (.aload_n 0, 1) := by decide +kernel
theorem dX3_add_26 : decode cX3_add 26 = .ok (.getfield 22, 3) := by decide +kernel
theorem dX3_add_29 : decode cX3_add 29 = .ok (.lload_n 2, 1) := by decide +kernel
theorem dX3_add_30 : decode cX3_add 30 = .ok (.lastore, 1) := by decide +kernel
theorem dX3_add_31 : decode cX3_add 31 = .ok (.aload_n 0, 1) := by decide +kernel
theorem dX3_add_32 : decode cX3_add 32 = .ok (.getfield 19, 3) := by decide +kernel
theorem dX3_add_35 : decode cX3_add 35 = .ok (.aload_n 0, 1) := by decide +kernel
theorem dX3_add_36 : decode cX3_add 36 = .ok (.getfield 22, 3) := by decide +kernel
theorem dX3_add_39 : decode cX3_add 39 = .ok (.iload 4, 2) := by decide +kernel
theorem dX3_add_41 : decode cX3_add 41 = .ok (.iastore, 1) := by decide +kernel
theorem dX3_add_42 : decode cX3_add 42 = .ok (.aload_n 0, 1) := by decide +kernel
theorem dX3_add_43 : decode cX3_add 43 = .ok (.dup, 1) := by decide +kernel
theorem dX3_add_44 : decode cX3_add 44 = .ok (.getfield 22, 3) := by decide +kernel
theorem dX3_add_47 : decode cX3_add 47 = .ok (.iconst 1, 1) := by decide +kernel
theorem dX3_add_48 : decode cX3_add 48 = .ok (.iadd, 1) := by decide +kernel
theorem dX3_add_49 : decode cX3_add 49 = .ok (.putfield 22, 3) := by decide +kernel
theorem dX3_add_52 : decode cX3_add 52 = .ok (.iconst 1, 1) := by decide +kernel
theorem dX3_add_53 : decode cX3_add 53 = .ok (.ireturn, 1) := by decide +kernel
theorem dX4_init_0 : decode cX4_init 0 = .ok (.aload_n 0, 1) := by decide +kernel
theorem dX4_init_1 : decode cX4_init 1 = .ok (.invokespecial 3, 3) := by decide +kernel
theorem dX4_init_4 : decode cX4_init 4 = .ok (.aload_n 0, 1) := by decide +kernel
theorem dX4_init_5 : decode cX4_init 5 = .ok (.bipush 40, 2) := by decide +kernel
theorem dX4_init_7 : decode cX4_init 7 = .ok (.newarray .int, 2) := by decide +kernel
theorem dX4_init_9 : decode cX4_init 9 = .ok (.putfield 9, 3) := by decide +kernel
theorem dX4_init_12 : decode cX4_init 12 = .ok (.aload_n 0, 1) := by decide +kernel
theorem dX4_init_13 : decode cX4_init 13 = .ok (.bipush 40, 2) := by decide +kernel
theorem dX4_init_15 : decode cX4_init 15 = .ok (.newarray .long, 2) := by decide +kernel
theorem dX4_init_17 : decode cX4_init 17 = .ok (.putfield 15, 3) := by decide +kernel
theorem dX4_init_20 : decode cX4_init 20 = .ok (.aload_n 0, 1) := by decide +kernel
theorem dX4_init_21 : decode cX4_init 21 = .ok (.bipush 40, 2) := by decide +kernel
theorem dX4_init_23 : decode cX4_init 23 = .ok (.newarray .long, 2) := by decide +kernel
theorem dX4_init_25 : decode cX4_init 25 = .ok (.putfield 19, 3) := by decide +kernel
theorem dX4_init_28 : decode cX4_init 28 = .ok (.aload_n 0, 1) := by decide +kernel
theorem dX4_init_29 : decode cX4_init 29 = .ok (.iconst 0, 1) := by decide +kernel
theorem dX4_init_30 : decode cX4_init 30 = .ok (.putfield 22, 3) := by decide +kernel
theorem dX4_init_33 : decode cX4_init 33 = .ok (.return_, 1) := by decide +kernel
theorem dX4_add_0 : decode cX4_add 0 = .ok (.aload_n 0, 1) := by decide +kernel
theorem dX4_add_1 : decode cX4_add 1 = .ok (.getfield 22, 3) := by decide +kernel
theorem dX4_add_4 : decode cX4_add 4 = .ok (.bipush 40, 2) := by decide +kernel
theorem dX4_add_6 : decode cX4_add 6 = .ok (.if_icmp .lt 4, 3) := by decide +kernel
theorem dX4_add_9 : decode cX4_add 9 = .ok (.return_, 1) := by decide +kernel
theorem dX4_add_10 : decode cX4_add 10 = .ok (.aload_n 0, 1) := by decide +kernel
theorem dX4_add_11 : decode cX4_add 11 = .ok (.getfield 9, 3) := by decide +kernel
theorem dX4_add_14 : decode cX4_add 14 = .ok (.aload_n 0, 1) := by decide +kernel
theorem dX4_add_15 : decode cX4_add 15 = .ok (.getfield 22, 3) := by decide +kernel
theorem dX4_add_18 : decode cX4_add 18 = .ok (.iload_n 1, 1) := by decide +kernel
theorem dX4_add_19 : decode cX4_add 19 = .ok (.iastore, 1) := by decide +kernel
theorem dX4_add_20 : decode cX4_add 20 = .ok (.aload_n 0, 1) := by decide +kernel
theorem dX4_add_21 : decode cX4_add 21 = .ok (.getfield 15, 3) := by decide +kernel
theorem dX4_add_24 : decode cX4_add 24 = .ok (.aload_n 0, 1) := by decide +kernel
theorem dX4_add_25 : decode cX4_add 25 = .ok (.getfield 22, 3) := by decide +kernel
theorem dX4_add_28 : decode cX4_add 28 = .ok (.lload_n 2, 1) := by decide +kernel
theorem dX4_add_29 : decode cX4_add 29 = .ok (.lastore, 1) := by decide +kernel
theorem dX4_add_30 : decode cX4_add 30 = .ok (.aload_n 0, 1) := by decide +kernel
theorem dX4_add_31 : decode cX4_add 31 = .ok (.getfield 19, 3) := by decide +kernel
theorem dX4_add_34 : decode cX4_add 34 = .ok (.aload_n 0, 1) := by decide +kernel
theorem dX4_add_35 : decode cX4_add 35 = .ok (.getfield 22, 3) := by decide +kernel
theorem dX4_add_38 : decode cX4_add 38 = .ok (.lload 4, 2) := by decide +kernel
theorem dX4_add_40 : decode cX4_add 40 = .ok (.lastore, 1) := by decide +kernel
theorem dX4_add_41 : decode cX4_add 41 = .ok (.aload_n 0, 1) := by decide +kernel
theorem dX4_add_42 : decode cX4_add 42 = .ok (.dup, 1) := by decide +kernel
theorem dX4_add_43 : decode cX4_add 43 = .ok (.getfield 22, 3) := by decide +kernel
theorem dX4_add_46 : decode cX4_add 46 = .ok (.iconst 1, 1) := by decide +kernel
theorem dX4_add_47 : decode cX4_add 47 = .ok (.iadd, 1) := by decide +kernel
theorem dX4_add_48 : decode cX4_add 48 = .ok (.putfield 22, 3) := by decide +kernel
theorem dX4_add_51 : decode cX4_add 51 = .ok (.return_, 1) := by decide +kernel
theorem dX4_numberOf_0 : decode cX4_numberOf 0 = .ok (.iconst 0, 1) := by decide +kernel
theorem dX4_numberOf_1 : decode cX4_numberOf 1 = .ok (.istore_n 3, 1) := by decide +kernel
theorem dX4_numberOf_2 : decode cX4_numberOf 2 = .ok (.iconst 0, 1) := by decide +kernel
theorem dX4_numberOf_3 : decode cX4_numberOf 3 = .ok (.istore 4, 2) := by decide +kernel
theorem dX4_numberOf_5 : decode cX4_numberOf 5 = .ok (.iload 4, 2) := by decide +kernel
theorem dX4_numberOf_7 : decode cX4_numberOf 7 = .ok (.aload_n 0, 1) := by decide +kernel
theorem dX4_numberOf_8 : decode cX4_numberOf 8 = .ok (.getfield 22, 3) := by decide +kernel
theorem dX4_numberOf_11 : decode cX4_numberOf 11 = .ok (.if_icmp .ge 31, 3) := by decide +kernel
theorem dX4_numberOf_14 : decode cX4_numberOf 14 = .ok (.aload_n 0, 1) := by decide +kernel
theorem dX4_numberOf_15 : decode cX4_numberOf 15 = .ok (.getfield 9, 3) := by decide +kernel
theorem dX4_numberOf_18 : decode cX4_numberOf 18 = .ok (.iload 4, 2) := by decide +kernel
theorem dX4_numberOf_20 : decode cX4_numberOf 20 = .ok (.iaload, 1) := by decide +kernel
theorem dX4_numberOf_21 : decode cX4_numberOf 21 = .ok (.iload_n 1, 1) := by decide +kernel
theorem dX4_numberOf_22 : decode cX4_numberOf 22 = .ok (.if_icmp .ne 14, 3) := by decide +kernel
theorem dX4_numberOf_25 : decode cX4_numberOf 25 = .ok (.iload_n 3, 1) := by decide +kernel
theorem dX4_numberOf_26 : decode cX4_numberOf 26 = .ok (.iload_n 2, 1) := by decide +kernel
theorem dX4_numberOf_27 : decode cX4_numberOf 27 = .ok (.if_icmp .ne 6, 3) := by decide +kernel
theorem dX4_numberOf_30 : decode cX4_numberOf 30 = .ok (.iload 4, 2) := by decide +kernel
theorem dX4_numberOf_32 : decode cX4_numberOf 32 = .ok (.ireturn, 1) := by decide +kernel
theorem dX4_numberOf_33 : decode cX4_numberOf 33 = .ok (.iinc 3 1, 3) := by decide +kernel
theorem dX4_numberOf_36 : decode cX4_numberOf 36 = .ok (.iinc 4 1, 3) := by decide +kernel
theorem dX4_numberOf_39 : decode cX4_numberOf 39 = .ok (.goto (-34), 3) := by decide +kernel
theorem dX4_numberOf_42 : decode cX4_numberOf 42 = .ok (.bipush (-5), 2) := by decide +kernel
theorem dX4_numberOf_44 : decode cX4_numberOf 44 = .ok (.ireturn, 1) := by decide +kernel
theorem dX5_init_0 : decode cX5_init 0 = .ok (.aload_n 0, 1) := by decide +kernel
theorem dX5_init_1 : decode cX5_init 1 = .ok (.invokespecial 3, 3) := by decide +kernel
theorem dX5_init_4 : decode cX5_init 4 = .ok (.aload_n 0, 1) := by decide +kernel
theorem dX5_init_5 : decode cX5_init 5 = .ok (.bipush 48, 2) := by decide +kernel
theorem dX5_init_7 : decode cX5_init 7 = .ok (.newarray .int, 2) := by decide +kernel
theorem dX5_init_9 : decode cX5_init 9 = .ok (.putfield 9, 3) := by decide +kernel
theorem dX5_init_12 : decode cX5_init 12 = .ok (.aload_n 0, 1) := by decide +kernel
theorem dX5_init_13 : decode cX5_init 13 = .ok (.bipush 48, 2) := by decide +kernel
theorem dX5_init_15 : decode cX5_init 15 = .ok (.newarray .int, 2) := by decide +kernel
theorem dX5_init_17 : decode cX5_init 17 = .ok (.putfield 15, 3) := by decide +kernel
theorem dX5_init_20 : decode cX5_init 20 = .ok (.aload_n 0, 1) := by decide +kernel
theorem dX5_init_21 : decode cX5_init 21 = .ok (.bipush 48, 2) := by decide +kernel
theorem dX5_init_23 : decode cX5_init 23 = .ok (.newarray .int, 2) := by decide +kernel
theorem dX5_init_25 : decode cX5_init 25 = .ok (.putfield 18, 3) := by decide +kernel
theorem dX5_init_28 : decode cX5_init 28 = .ok (.aload_n 0, 1) := by decide +kernel
theorem dX5_init_29 : decode cX5_init 29 = .ok (.iconst 0, 1) := by decide +kernel
theorem dX5_init_30 : decode cX5_init 30 = .ok (.putfield 21, 3) := by decide +kernel
theorem dX5_init_33 : decode cX5_init 33 = .ok (.return_, 1) := by decide +kernel
theorem dX5_clear_0 : decode cX5_clear 0 = .ok (.aload_n 0, 1) := by decide +kernel
theorem dX5_clear_1 : decode cX5_clear 1 = .ok (.getfield 15, 3) := by decide +kernel
theorem dX5_clear_4 : decode cX5_clear 4 = .ok (.iconst 0, 1) := by decide +kernel
theorem dX5_clear_5 : decode cX5_clear 5 = .ok (.invokestatic 25, 3) := by decide +kernel
theorem dX5_clear_8 : decode cX5_clear 8 = .ok (.aload_n 0, 1) := by decide +kernel
theorem dX5_clear_9 : decode cX5_clear 9 = .ok (.getfield 18, 3) := by decide +kernel
theorem dX5_clear_12 : decode cX5_clear 12 = .ok (.iconst 0, 1) := by decide +kernel
theorem dX5_clear_13 : decode cX5_clear 13 = .ok (.invokestatic 25, 3) := by decide +kernel
theorem dX5_clear_16 : decode cX5_clear 16 = .ok (.aload_n 0, 1) := by decide +kernel
theorem dX5_clear_17 : decode cX5_clear 17 = .ok (.iconst 0, 1) := by decide +kernel
theorem dX5_clear_18 : decode cX5_clear 18 = .ok (.putfield 21, 3) := by decide +kernel
theorem dX5_clear_21 : decode cX5_clear 21 = .ok (.return_, 1) := by decide +kernel
theorem dX5_add_0 : decode cX5_add 0 = .ok (.iload_n 1, 1) := by decide +kernel
theorem dX5_add_1 : decode cX5_add 1 = .ok (.bipush 8, 2) := by decide +kernel
theorem dX5_add_3 : decode cX5_add 3 = .ok (.imul, 1) := by decide +kernel
theorem dX5_add_4 : decode cX5_add 4 = .ok (.iload_n 2, 1) := by decide +kernel
theorem dX5_add_5 : decode cX5_add 5 = .ok (.iadd, 1) := by decide +kernel
theorem dX5_add_6 : decode cX5_add 6 = .ok (.istore 4, 2) := by decide +kernel
theorem dX5_add_8 : decode cX5_add 8 = .ok (.iload 4, 2) := by decide +kernel
theorem dX5_add_10 : decode cX5_add 10 = .ok (.i2l, 1) := by decide +kernel
theorem dX5_add_11 : decode cX5_add 11 = .ok (.aload_n 0, 1) := by decide +kernel
theorem dX5_add_12 : decode cX5_add 12 = .ok (.getfield 9, 3) := by decide +kernel
theorem dX5_add_15 : decode cX5_add 15 = .ok (.arraylength, 1) := by decide +kernel
theorem dX5_add_16 : decode cX5_add 16 = .ok (.invokestatic 31, 3) := by decide +kernel
theorem dX5_add_19 : decode cX5_add 19 = .ok (.ifCond .ne 4, 3) := by decide +kernel
theorem dX5_add_22 : decode cX5_add 22 = .ok (.return_, 1) := by decide +kernel
theorem dX5_add_23 : decode cX5_add 23 = .ok (.aload_n 0, 1) := by decide +kernel
theorem dX5_add_24 : decode cX5_add 24 = .ok (.getfield 15, 3) := by decide +kernel
theorem dX5_add_27 : decode cX5_add 27 = .ok (.iload 4, 2) := by decide +kernel
theorem dX5_add_29 : decode cX5_add 29 = .ok (.iaload, 1) := by decide +kernel
theorem dX5_add_30 : decode cX5_add 30 = .ok (.ifCond .ne 46, 3) := by decide +kernel
theorem dX5_add_33 : decode cX5_add 33 = .ok (.aload_n 0, 1) := by decide +kernel
theorem dX5_add_34 : decode cX5_add 34 = .ok (.getfield 18, 3) := by decide +kernel
theorem dX5_add_37 : decode cX5_add 37 = .ok (.iload 4, 2) := by decide +kernel
theorem dX5_add_39 : decode cX5_add 39 = .ok (.iaload, 1) := by decide +kernel
theorem dX5_add_40 : decode cX5_add 40 = .ok (.ifCond .ne 36, 3) := by decide +kernel
theorem dX5_add_43 : decode cX5_add 43 = .ok (.aload_n 0, 1) := by decide +kernel
theorem dX5_add_44 : decode cX5_add 44 = .ok (.getfield 21, 3) := by decide +kernel
theorem dX5_add_47 : decode cX5_add 47 = .ok (.aload_n 0, 1) := by decide +kernel
theorem dX5_add_48 : decode cX5_add 48 = .ok (.getfield 9, 3) := by decide +kernel
theorem dX5_add_51 : decode cX5_add 51 = .ok (.arraylength, 1) := by decide +kernel
theorem dX5_add_52 : decode cX5_add 52 = .ok (.if_icmp .ge 24, 3) := by decide +kernel
theorem dX5_add_55 : decode cX5_add 55 = .ok (.aload_n 0, 1) := by decide +kernel
theorem dX5_add_56 : decode cX5_add 56 = .ok (.getfield 9, 3) := by decide +kernel
theorem dX5_add_59 : decode cX5_add 59 = .ok (.aload_n 0, 1) := by decide +kernel
theorem dX5_add_60 : decode cX5_add 60 = .ok (.getfield 21, 3) := by decide +kernel
theorem dX5_add_63 : decode cX5_add 63 = .ok (.iload 4, 2) := by decide +kernel
theorem dX5_add_65 : decode cX5_add 65 = .ok (.iastore, 1) := by decide +kernel
theorem dX5_add_66 : decode cX5_add 66 = .ok (.aload_n 0, 1) := by decide +kernel
theorem dX5_add_67 : decode cX5_add 67 = .ok (.dup, 1) := by decide +kernel
theorem dX5_add_68 : decode cX5_add 68 = .ok (.getfield 21, 3) := by decide +kernel
theorem dX5_add_71 : decode cX5_add 71 = .ok (.iconst 1, 1) := by decide +kernel
theorem dX5_add_72 : decode cX5_add 72 = .ok (.iadd, 1) := by decide +kernel
theorem dX5_add_73 : decode cX5_add 73 = .ok (.putfield 21, 3) := by decide +kernel
theorem dX5_add_76 : decode cX5_add 76 = .ok (.iload_n 3, 1) := by decide +kernel
theorem dX5_add_77 : decode cX5_add 77 = .ok (.ifCond .eq 17, 3) := by decide +kernel
theorem dX5_add_80 : decode cX5_add 80 = .ok (.aload_n 0, 1) := by decide +kernel
theorem dX5_add_81 : decode cX5_add 81 = .ok (.getfield 18, 3) := by decide +kernel
theorem dX5_add_84 : decode cX5_add 84 = .ok (.iload 4, 2) := by decide +kernel
theorem dX5_add_86 : decode cX5_add 86 = .ok (.dup2, 1) := by decide +kernel
theorem dX5_add_87 : decode cX5_add 87 = .ok (.iaload, 1) := by decide +kernel
theorem dX5_add_88 : decode cX5_add 88 = .ok (.iconst 1, 1) := by decide +kernel
theorem dX5_add_89 : decode cX5_add 89 = .ok (.iadd, 1) := by decide +kernel
theorem dX5_add_90 : decode cX5_add 90 = .ok (.iastore, 1) := by decide +kernel
theorem dX5_add_91 : decode cX5_add 91 = .ok (.goto 14, 3) := by decide +kernel
theorem dX5_add_94 : decode cX5_add 94 = .ok (.aload_n 0, 1) := by decide +kernel
theorem dX5_add_95 : decode cX5_add 95 = .ok (.getfield 15, 3) := by decide +kernel
theorem dX5_add_98 : decode cX5_add 98 = .ok (.iload 4, 2) := by decide +kernel
theorem dX5_add_100 : decode cX5_add 100 = .ok (.dup2, 1) := by decide +kernel
theorem dX5_add_101 : decode cX5_add 101 = .ok (.iaload, 1) := by decide +kernel
theorem dX5_add_102 : decode cX5_add 102 = .ok (.iconst 1, 1) := by decide +kernel
theorem dX5_add_103 : decode cX5_add 103 = .ok (.iadd, 1) := by decide +kernel
theorem dX5_add_104 : decode cX5_add 104 = .ok (.iastore, 1) := by decide +kernel
theorem dX5_add_105 : decode cX5_add 105 = .ok (.return_, 1) := by decide +kernel
theorem dX6_init_0 : decode cX6_init 0 = .ok (.aload_n 0, 1) := by decide +kernel
theorem dX6_init_1 : decode cX6_init 1 = .ok (.invokespecial 3, 3) := by decide +kernel
theorem dX6_init_4 : decode cX6_init 4 = .ok (.aload_n 0, 1) := by decide +kernel
theorem dX6_init_5 : decode cX6_init 5 = .ok (.iconst 0, 1) := by decide +kernel
theorem dX6_init_6 : decode cX6_init 6 = .ok (.putfield 9, 3) := by decide +kernel
theorem dX6_init_9 : decode cX6_init 9 = .ok (.aload_n 0, 1) := by decide +kernel
theorem dX6_init_10 : decode cX6_init 10 = .ok (.iconst 0, 1) := by decide +kernel
theorem dX6_init_11 : decode cX6_init 11 = .ok (.putfield 15, 3) := by decide +kernel
theorem dX6_init_14 : decode cX6_init 14 = .ok (.aload_n 0, 1) := by decide +kernel
theorem dX6_init_15 : decode cX6_init 15 = .ok (.lconst 0, 1) := by decide +kernel
theorem dX6_init_16 : decode cX6_init 16 = .ok (.putfield 18, 3) := by decide +kernel
theorem dX6_init_19 : decode cX6_init 19 = .ok (.aload_n 0, 1) := by decide +kernel
theorem dX6_init_20 : decode cX6_init 20 = .ok (.iconst 0, 1) := by decide +kernel
theorem dX6_init_21 : decode cX6_init 21 = .ok (.putfield 22, 3) := by decide +kernel
theorem dX6_init_24 : decode cX6_init 24 = .ok (.aload_n 0, 1) := by decide +kernel
theorem dX6_init_25 : decode cX6_init 25 = .ok (.bipush 54, 2) := by decide +kernel
theorem dX6_init_27 : decode cX6_init 27 = .ok (.newarray .long, 2) := by decide +kernel
theorem dX6_init_29 : decode cX6_init 29 = .ok (.putfield 25, 3) := by decide +kernel
theorem dX6_init_32 : decode cX6_init 32 = .ok (.aload_n 0, 1) := by decide +kernel
theorem dX6_init_33 : decode cX6_init 33 = .ok (.bipush 7, 2) := by decide +kernel
theorem dX6_init_35 : decode cX6_init 35 = .ok (.bipush 100, 2) := by decide +kernel
theorem dX6_init_37 : decode cX6_init 37 = .ok (.multianewarray 29 2, 4) := by decide +kernel
theorem dX6_init_41 : decode cX6_init 41 = .ok (.putfield 31, 3) := by decide +kernel
theorem dX6_init_44 : decode cX6_init 44 = .ok (.aload_n 0, 1) := by decide +kernel
theorem dX6_init_45 : decode cX6_init 45 = .ok (.bipush 100, 2) := by decide +kernel
theorem dX6_init_47 : decode cX6_init 47 = .ok (.newarray .long, 2) := by decide +kernel
theorem dX6_init_49 : decode cX6_init 49 = .ok (.putfield 34, 3) := by decide +kernel
theorem dX6_init_52 : decode cX6_init 52 = .ok (.aload_n 0, 1) := by decide +kernel
theorem dX6_init_53 : decode cX6_init 53 = .ok (.iconst 0, 1) := by decide +kernel
theorem dX6_init_54 : decode cX6_init 54 = .ok (.putfield 37, 3) := by decide +kernel
theorem dX6_init_57 : decode cX6_init 57 = .ok (.aload_n 0, 1) := by decide +kernel
theorem dX6_init_58 : decode cX6_init 58 = .ok (.iconst 0, 1) := by decide +kernel
theorem dX6_init_59 : decode cX6_init 59 = .ok (.putfield 40, 3) := by decide +kernel
theorem dX6_init_62 : decode cX6_init 62 = .ok (.aload_n 0, 1) := by decide +kernel
theorem dX6_init_63 : decode cX6_init 63 = .ok (.iconst 0, 1) := by decide +kernel
theorem dX6_init_64 : decode cX6_init 64 = .ok (.putfield 43, 3) := by decide +kernel
theorem dX6_init_67 : decode cX6_init 67 = .ok (.aload_n 0, 1) := by decide +kernel
theorem dX6_init_68 : decode cX6_init 68 = .ok (.iconst 0, 1) := by decide +kernel
theorem dX6_init_69 : decode cX6_init 69 = .ok (.putfield 46, 3) := by decide +kernel
theorem dX6_init_72 : decode cX6_init 72 = .ok (.aload_n 0, 1) := by decide +kernel
theorem dX6_init_73 : decode cX6_init 73 = .ok (.iconst 0, 1) := by decide +kernel
theorem dX6_init_74 : decode cX6_init 74 = .ok (.putfield 49, 3) := by decide +kernel
theorem dX6_init_77 : decode cX6_init 77 = .ok (.aload_n 0, 1) := by decide +kernel
theorem dX6_init_78 : decode cX6_init 78 = .ok (.lconst 0, 1) := by decide +kernel
theorem dX6_init_79 : decode cX6_init 79 = .ok (.putfield 52, 3) := by decide +kernel
theorem dX6_init_82 : decode cX6_init 82 = .ok (.aload_n 0, 1) := by decide +kernel
theorem dX6_init_83 : decode cX6_init 83 = .ok (.new 55, 3) := by decide +kernel
theorem dX6_init_86 : decode cX6_init 86 = .ok (.dup, 1) := by decide +kernel
theorem dX6_init_87 : decode cX6_init 87 = .ok (.invokespecial 57, 3) := by decide +kernel
theorem dX6_init_90 : decode cX6_init 90 = .ok (.putfield 58, 3) := by decide +kernel
theorem dX6_init_93 : decode cX6_init 93 = .ok (.aload_n 0, 1) := by decide +kernel
theorem dX6_init_94 : decode cX6_init 94 = .ok (.new 62, 3) := by decide +kernel
theorem dX6_init_97 : decode cX6_init 97 = .ok (.dup, 1) := by decide +kernel
theorem dX6_init_98 : decode cX6_init 98 = .ok (.invokespecial 64, 3) := by decide +kernel
theorem dX6_init_101 : decode cX6_init 101 = .ok (.putfield 65, 3) := by decide +kernel
theorem dX6_init_104 : decode cX6_init 104 = .ok (.aload_n 0, 1) := by decide +kernel
theorem dX6_init_105 : decode cX6_init 105 = .ok (.bipush 6, 2) := by decide +kernel
theorem dX6_init_107 : decode cX6_init 107 = .ok (.newarray .long, 2) := by decide +kernel
theorem dX6_init_109 : decode cX6_init 109 = .ok (.putfield 69, 3) := by decide +kernel
theorem dX6_init_112 : decode cX6_init 112 = .ok (.aload_n 0, 1) := by decide +kernel
theorem dX6_init_113 : decode cX6_init 113 = .ok (.bipush 6, 2) := by decide +kernel
theorem dX6_init_115 : decode cX6_init 115 = .ok (.newarray .long, 2) := by decide +kernel
theorem dX6_init_117 : decode cX6_init 117 = .ok (.putfield 72, 3) := by decide +kernel
theorem dX6_init_120 : decode cX6_init 120 = .ok (.return_, 1) := by decide +kernel
theorem dX6_ask_0 : decode cX6_ask 0 = .ok (.aload_n 0, 1) := by decide +kernel
theorem dX6_ask_1 : decode cX6_ask 1 = .ok (.iload_n 1, 1) := by decide +kernel
theorem dX6_ask_2 : decode cX6_ask 2 = .ok (.putfield 9, 3) := by decide +kernel
theorem dX6_ask_5 : decode cX6_ask 5 = .ok (.aload_n 0, 1) := by decide +kernel
theorem dX6_ask_6 : decode cX6_ask 6 = .ok (.iload_n 2, 1) := by decide +kernel
theorem dX6_ask_7 : decode cX6_ask 7 = .ok (.putfield 15, 3) := by decide +kernel
theorem dX6_ask_10 : decode cX6_ask 10 = .ok (.aload_n 0, 1) := by decide +kernel
theorem dX6_ask_11 : decode cX6_ask 11 = .ok (.lload_n 3, 1) := by decide +kernel
theorem dX6_ask_12 : decode cX6_ask 12 = .ok (.putfield 18, 3) := by decide +kernel
theorem dX6_ask_15 : decode cX6_ask 15 = .ok (.aload_n 0, 1) := by decide +kernel
theorem dX6_ask_16 : decode cX6_ask 16 = .ok (.iload 5, 2) := by decide +kernel
theorem dX6_ask_18 : decode cX6_ask 18 = .ok (.putfield 22, 3) := by decide +kernel
theorem dX6_ask_21 : decode cX6_ask 21 = .ok (.aload 6, 2) := by decide +kernel
theorem dX6_ask_23 : decode cX6_ask 23 = .ok (.iconst 0, 1) := by decide +kernel
theorem dX6_ask_24 : decode cX6_ask 24 = .ok (.aload_n 0, 1) := by decide +kernel
theorem dX6_ask_25 : decode cX6_ask 25 = .ok (.getfield 25, 3) := by decide +kernel
theorem dX6_ask_28 : decode cX6_ask 28 = .ok (.iconst 0, 1) := by decide +kernel
theorem dX6_ask_29 : decode cX6_ask 29 = .ok (.bipush 54, 2) := by decide +kernel
theorem dX6_ask_31 : decode cX6_ask 31 = .ok (.invokestatic 75, 3) := by decide +kernel
theorem dX6_ask_34 : decode cX6_ask 34 = .ok (.aload_n 0, 1) := by decide +kernel
theorem dX6_ask_35 : decode cX6_ask 35 = .ok (.iconst 0, 1) := by decide +kernel
theorem dX6_ask_36 : decode cX6_ask 36 = .ok (.putfield 37, 3) := by decide +kernel
theorem dX6_ask_39 : decode cX6_ask 39 = .ok (.aload_n 0, 1) := by decide +kernel
theorem dX6_ask_40 : decode cX6_ask 40 = .ok (.iconst 0, 1) := by decide +kernel
theorem dX6_ask_41 : decode cX6_ask 41 = .ok (.putfield 40, 3) := by decide +kernel
theorem dX6_ask_44 : decode cX6_ask 44 = .ok (.aload_n 0, 1) := by decide +kernel
theorem dX6_ask_45 : decode cX6_ask 45 = .ok (.iconst 0, 1) := by decide +kernel
theorem dX6_ask_46 : decode cX6_ask 46 = .ok (.putfield 43, 3) := by decide +kernel
theorem dX6_ask_49 : decode cX6_ask 49 = .ok (.aload_n 0, 1) := by decide +kernel
theorem dX6_ask_50 : decode cX6_ask 50 = .ok (.getfield 58, 3) := by decide +kernel
theorem dX6_ask_53 : decode cX6_ask 53 = .ok (.invokevirtual 81, 3) := by decide +kernel
theorem dX6_ask_56 : decode cX6_ask 56 = .ok (.aload_n 0, 1) := by decide +kernel
theorem dX6_ask_57 : decode cX6_ask 57 = .ok (.getfield 65, 3) := by decide +kernel
theorem dX6_ask_60 : decode cX6_ask 60 = .ok (.iconst 0, 1) := by decide +kernel
theorem dX6_ask_61 : decode cX6_ask 61 = .ok (.putfield 84, 3) := by decide +kernel
theorem dX6_ask_64 : decode cX6_ask 64 = .ok (.return_, 1) := by decide +kernel
theorem dX6_askAgain_0 : decode cX6_askAgain 0 = .ok (.aload_n 0, 1) := by decide +kernel
theorem dX6_askAgain_1 : decode cX6_askAgain 1 = .ok (.aload_n 1, 1) := by decide +kernel
theorem dX6_askAgain_2 : decode cX6_askAgain 2 = .ok (.getfield 9, 3) := by decide +kernel
theorem dX6_askAgain_5 : decode cX6_askAgain 5 = .ok (.aload_n 1, 1) := by decide +kernel
theorem dX6_askAgain_6 : decode cX6_askAgain 6 = .ok (.getfield 15, 3) := by decide +kernel
theorem dX6_askAgain_9 : decode cX6_askAgain 9 = .ok (.aload_n 1, 1) := by decide +kernel
theorem dX6_askAgain_10 : decode cX6_askAgain 10 = .ok (.getfield 18, 3) := by decide +kernel
theorem dX6_askAgain_13 : decode cX6_askAgain 13 = .ok (.aload_n 1, 1) := by decide +kernel
theorem dX6_askAgain_14 : decode cX6_askAgain 14 = .ok (.getfield 22, 3) := by decide +kernel
theorem dX6_askAgain_17 : decode cX6_askAgain 17 = .ok (.aload_n 1, 1) := by decide +kernel
theorem dX6_askAgain_18 : decode cX6_askAgain 18 = .ok (.getfield 25, 3) := by decide +kernel
theorem dX6_askAgain_21 : decode cX6_askAgain 21 = .ok (.invokevirtual 87, 3) := by decide +kernel
theorem dX6_askAgain_24 : decode cX6_askAgain 24 = .ok (.return_, 1) := by decide +kernel
theorem dX6_endWell_0 : decode cX6_endWell 0 = .ok (.aload_n 0, 1) := by decide +kernel
theorem dX6_endWell_1 : decode cX6_endWell 1 = .ok (.iconst 0, 1) := by decide +kernel
theorem dX6_endWell_2 : decode cX6_endWell 2 = .ok (.putfield 46, 3) := by decide +kernel
theorem dX6_endWell_5 : decode cX6_endWell 5 = .ok (.aload_n 0, 1) := by decide +kernel
theorem dX6_endWell_6 : decode cX6_endWell 6 = .ok (.iconst 0, 1) := by decide +kernel
theorem dX6_endWell_7 : decode cX6_endWell 7 = .ok (.putfield 49, 3) := by decide +kernel
theorem dX6_endWell_10 : decode cX6_endWell 10 = .ok (.aload_n 0, 1) := by decide +kernel
theorem dX6_endWell_11 : decode cX6_endWell 11 = .ok (.lload_n 1, 1) := by decide +kernel
theorem dX6_endWell_12 : decode cX6_endWell 12 = .ok (.putfield 52, 3) := by decide +kernel
theorem dX6_endWell_15 : decode cX6_endWell 15 = .ok (.aload_n 3, 1) := by decide +kernel
theorem dX6_endWell_16 : decode cX6_endWell 16 = .ok (.bipush 54, 2) := by decide +kernel
theorem dX6_endWell_18 : decode cX6_endWell 18 = .ok (.aload_n 0, 1) := by decide +kernel
theorem dX6_endWell_19 : decode cX6_endWell 19 = .ok (.getfield 69, 3) := by decide +kernel
theorem dX6_endWell_22 : decode cX6_endWell 22 = .ok (.iconst 0, 1) := by decide +kernel
theorem dX6_endWell_23 : decode cX6_endWell 23 = .ok (.bipush 6, 2) := by decide +kernel
theorem dX6_endWell_25 : decode cX6_endWell 25 = .ok (.invokestatic 75, 3) := by decide +kernel
theorem dX6_endWell_28 : decode cX6_endWell 28 = .ok (.aload_n 3, 1) := by decide +kernel
theorem dX6_endWell_29 : decode cX6_endWell 29 = .ok (.bipush 60, 2) := by decide +kernel
theorem dX6_endWell_31 : decode cX6_endWell 31 = .ok (.aload_n 0, 1) := by decide +kernel
theorem dX6_endWell_32 : decode cX6_endWell 32 = .ok (.getfield 72, 3) := by decide +kernel
theorem dX6_endWell_35 : decode cX6_endWell 35 = .ok (.iconst 0, 1) := by decide +kernel
theorem dX6_endWell_36 : decode cX6_endWell 36 = .ok (.bipush 6, 2) := by decide +kernel
theorem dX6_endWell_38 : decode cX6_endWell 38 = .ok (.invokestatic 75, 3) := by decide +kernel
theorem dX6_endWell_41 : decode cX6_endWell 41 = .ok (.return_, 1) := by decide +kernel
theorem dX6_endBadly_0 : decode cX6_endBadly 0 = .ok (.aload_n 0, 1) := by decide +kernel
theorem dX6_endBadly_1 : decode cX6_endBadly 1 = .ok (.iload_n 1, 1) := by decide +kernel
theorem dX6_endBadly_2 : decode cX6_endBadly 2 = .ok (.putfield 46, 3) := by decide +kernel
theorem dX6_endBadly_5 : decode cX6_endBadly 5 = .ok (.aload_n 0, 1) := by decide +kernel
theorem dX6_endBadly_6 : decode cX6_endBadly 6 = .ok (.iload_n 1, 1) := by decide +kernel
theorem dX6_endBadly_7 : decode cX6_endBadly 7 = .ok (.iconst 5, 1) := by decide +kernel
theorem dX6_endBadly_8 : decode cX6_endBadly 8 = .ok (.if_icmp .ne 8, 3) := by decide +kernel
theorem dX6_endBadly_11 : decode cX6_endBadly 11 = .ok (.lload_n 2, 1) := by decide +kernel
theorem dX6_endBadly_12 : decode cX6_endBadly 12 = .ok (.l2i, 1) := by decide +kernel
theorem dX6_endBadly_13 : decode cX6_endBadly 13 = .ok (.goto 4, 3) := by decide +kernel
theorem dX6_endBadly_16 : decode cX6_endBadly 16 = .ok (.iconst 0, 1) := by decide +kernel
theorem dX6_endBadly_17 : decode cX6_endBadly 17 = .ok (.putfield 49, 3) := by decide +kernel
theorem dX6_endBadly_20 : decode cX6_endBadly 20 = .ok (.aload_n 0, 1) := by decide +kernel
theorem dX6_endBadly_21 : decode cX6_endBadly 21 = .ok (.lconst 0, 1) := by decide +kernel
theorem dX6_endBadly_22 : decode cX6_endBadly 22 = .ok (.putfield 52, 3) := by decide +kernel
theorem dX6_endBadly_25 : decode cX6_endBadly 25 = .ok (.aload_n 0, 1) := by decide +kernel
theorem dX6_endBadly_26 : decode cX6_endBadly 26 = .ok (.getfield 65, 3) := by decide +kernel
theorem dX6_endBadly_29 : decode cX6_endBadly 29 = .ok (.iconst 0, 1) := by decide +kernel
theorem dX6_endBadly_30 : decode cX6_endBadly 30 = .ok (.putfield 84, 3) := by decide +kernel
theorem dX6_endBadly_33 : decode cX6_endBadly 33 = .ok (.aload_n 0, 1) := by decide +kernel
theorem dX6_endBadly_34 : decode cX6_endBadly 34 = .ok (.getfield 69, 3) := by decide +kernel
theorem dX6_endBadly_37 : decode cX6_endBadly 37 = .ok (.lconst 0, 1) := by decide +kernel
theorem dX6_endBadly_38 : decode cX6_endBadly 38 = .ok (.invokestatic 91, 3) := by decide +kernel
theorem dX6_endBadly_41 : decode cX6_endBadly 41 = .ok (.aload_n 0, 1) := by decide +kernel
theorem dX6_endBadly_42 : decode cX6_endBadly 42 = .ok (.getfield 72, 3) := by decide +kernel
theorem dX6_endBadly_45 : decode cX6_endBadly 45 = .ok (.lconst 0, 1) := by decide +kernel
theorem dX6_endBadly_46 : decode cX6_endBadly 46 = .ok (.invokestatic 91, 3) := by decide +kernel
theorem dX6_endBadly_49 : decode cX6_endBadly 49 = .ok (.return_, 1) := by decide +kernel
theorem dX6_canPay_0 : decode cX6_canPay 0 = .ok (.aload_n 0, 1) := by decide +kernel
theorem dX6_canPay_1 : decode cX6_canPay 1 = .ok (.getfield 37, 3) := by decide +kernel
theorem dX6_canPay_4 : decode cX6_canPay 4 = .ok (.bipush 100, 2) := by decide +kernel
theorem dX6_canPay_6 : decode cX6_canPay 6 = .ok (.if_icmp .ge 20, 3) := by decide +kernel
theorem dX6_canPay_9 : decode cX6_canPay 9 = .ok (.aload_n 0, 1) := by decide +kernel
theorem dX6_canPay_10 : decode cX6_canPay 10 = .ok (.getfield 40, 3) := by decide +kernel
theorem dX6_canPay_13 : decode cX6_canPay 13 = .ok (.iload_n 1, 1) := by decide +kernel
theorem dX6_canPay_14 : decode cX6_canPay 14 = .ok (.iadd, 1) := by decide +kernel
theorem dX6_canPay_15 : decode cX6_canPay 15 = .ok (.aload_n 0, 1) := by decide +kernel
theorem dX6_canPay_16 : decode cX6_canPay 16 = .ok (.getfield 22, 3) := by decide +kernel
theorem dX6_canPay_19 : decode cX6_canPay 19 = .ok (.if_icmp .gt 7, 3) := by decide +kernel
theorem dX6_canPay_22 : decode cX6_canPay 22 = .ok (.iconst 1, 1) := by decide +kernel
theorem dX6_canPay_23 : decode cX6_canPay 23 = .ok (.goto 4, 3) := by decide +kernel
theorem dX6_canPay_26 : decode cX6_canPay 26 = .ok (.iconst 0, 1) := by decide +kernel
theorem dX6_canPay_27 : decode cX6_canPay 27 = .ok (.ireturn, 1) := by decide +kernel
theorem dX6_beginStep_0 : decode cX6_beginStep 0 = .ok (.aload_n 0, 1) := by decide +kernel
theorem dX6_beginStep_1 : decode cX6_beginStep 1 = .ok (.getfield 37, 3) := by decide +kernel
theorem dX6_beginStep_4 : decode cX6_beginStep 4 = .ok (.bipush 100, 2) := by decide +kernel
theorem dX6_beginStep_6 : decode cX6_beginStep 6 = .ok (.if_icmp .lt 4, 3) := by decide +kernel
theorem dX6_beginStep_9 : decode cX6_beginStep 9 = .ok (.return_, 1) := by decide +kernel
theorem dX6_beginStep_10 : decode cX6_beginStep 10 = .ok (.aload_n 0, 1) := by decide +kernel
theorem dX6_beginStep_11 : decode cX6_beginStep 11 = .ok (.getfield 31, 3) := by decide +kernel
theorem dX6_beginStep_14 : decode cX6_beginStep 14 = .ok (.iconst 0, 1) := by decide +kernel
theorem dX6_beginStep_15 : decode cX6_beginStep 15 = .ok (.aaload, 1) := by decide +kernel
theorem dX6_beginStep_16 : decode cX6_beginStep 16 = .ok (.aload_n 0, 1) := by decide +kernel
theorem dX6_beginStep_17 : decode cX6_beginStep 17 = .ok (.getfield 37, 3) := by decide +kernel
theorem dX6_beginStep_20 : decode cX6_beginStep 20 = .ok (.iload_n 2, 1) := by decide +kernel
theorem dX6_beginStep_21 : decode cX6_beginStep 21 = .ok (.iastore, 1) := by decide +kernel
theorem dX6_beginStep_22 : decode cX6_beginStep 22 = .ok (.aload_n 0, 1) := by decide +kernel
theorem dX6_beginStep_23 : decode cX6_beginStep 23 = .ok (.getfield 31, 3) := by decide +kernel
theorem dX6_beginStep_26 : decode cX6_beginStep 26 = .ok (.iconst 1, 1) := by decide +kernel
theorem dX6_beginStep_27 : decode cX6_beginStep 27 = .ok (.aaload, 1) := by decide +kernel
theorem dX6_beginStep_28 : decode cX6_beginStep 28 = .ok (.aload_n 0, 1) := by decide +kernel
theorem dX6_beginStep_29 : decode cX6_beginStep 29 = .ok (.getfield 37, 3) := by decide +kernel
theorem dX6_beginStep_32 : decode cX6_beginStep 32 = .ok (.aload_n 1, 1) := by decide +kernel
theorem dX6_beginStep_33 : decode cX6_beginStep 33 = .ok (.getfield 97, 3) := by decide +kernel
theorem dX6_beginStep_36 : decode cX6_beginStep 36 = .ok (.iastore, 1) := by decide +kernel
theorem dX6_beginStep_37 : decode cX6_beginStep 37 = .ok (.aload_n 0, 1) := by decide +kernel
theorem dX6_beginStep_38 : decode cX6_beginStep 38 = .ok (.getfield 31, 3) := by decide +kernel
theorem dX6_beginStep_41 : decode cX6_beginStep 41 = .ok (.iconst 2, 1) := by decide +kernel
theorem dX6_beginStep_42 : decode cX6_beginStep 42 = .ok (.aaload, 1) := by decide +kernel
theorem dX6_beginStep_43 : decode cX6_beginStep 43 = .ok (.aload_n 0, 1) := by decide +kernel
theorem dX6_beginStep_44 : decode cX6_beginStep 44 = .ok (.getfield 37, 3) := by decide +kernel
theorem dX6_beginStep_47 : decode cX6_beginStep 47 = .ok (.aload_n 1, 1) := by decide +kernel
theorem dX6_beginStep_48 : decode cX6_beginStep 48 = .ok (.getfield 100, 3) := by decide +kernel
theorem dX6_beginStep_51 : decode cX6_beginStep 51 = .ok (.iastore, 1) := by decide +kernel
theorem dX6_beginStep_52 : decode cX6_beginStep 52 = .ok (.aload_n 0, 1) := by decide +kernel
theorem dX6_beginStep_53 : decode cX6_beginStep 53 = .ok (.getfield 31, 3) := by decide +kernel
theorem dX6_beginStep_56 : decode cX6_beginStep 56 = .ok (.iconst 3, 1) := by decide +kernel
theorem dX6_beginStep_57 : decode cX6_beginStep 57 = .ok (.aaload, 1) := by decide +kernel
theorem dX6_beginStep_58 : decode cX6_beginStep 58 = .ok (.aload_n 0, 1) := by decide +kernel
theorem dX6_beginStep_59 : decode cX6_beginStep 59 = .ok (.getfield 37, 3) := by decide +kernel
theorem dX6_beginStep_62 : decode cX6_beginStep 62 = .ok (.aload_n 1, 1) := by decide +kernel
theorem dX6_beginStep_63 : decode cX6_beginStep 63 = .ok (.getfield 101, 3) := by decide +kernel
theorem dX6_beginStep_66 : decode cX6_beginStep 66 = .ok (.iastore, 1) := by decide +kernel
theorem dX6_beginStep_67 : decode cX6_beginStep 67 = .ok (.aload_n 0, 1) := by decide +kernel
theorem dX6_beginStep_68 : decode cX6_beginStep 68 = .ok (.getfield 31, 3) := by decide +kernel
theorem dX6_beginStep_71 : decode cX6_beginStep 71 = .ok (.iconst 4, 1) := by decide +kernel
theorem dX6_beginStep_72 : decode cX6_beginStep 72 = .ok (.aaload, 1) := by decide +kernel
theorem dX6_beginStep_73 : decode cX6_beginStep 73 = .ok (.aload_n 0, 1) := by decide +kernel
theorem dX6_beginStep_74 : decode cX6_beginStep 74 = .ok (.getfield 37, 3) := by decide +kernel
theorem dX6_beginStep_77 : decode cX6_beginStep 77 = .ok (.iload_n 3, 1) := by decide +kernel
theorem dX6_beginStep_78 : decode cX6_beginStep 78 = .ok (.iastore, 1) := by decide +kernel
theorem dX6_beginStep_79 : decode cX6_beginStep 79 = .ok (.aload_n 0, 1) := by decide +kernel
theorem dX6_beginStep_80 : decode cX6_beginStep 80 = .ok (.getfield 31, 3) := by decide +kernel
theorem dX6_beginStep_83 : decode cX6_beginStep 83 = .ok (.iconst 5, 1) := by decide +kernel
theorem dX6_beginStep_84 : decode cX6_beginStep 84 = .ok (.aaload, 1) := by decide +kernel
theorem dX6_beginStep_85 : decode cX6_beginStep 85 = .ok (.aload_n 0, 1) := by decide +kernel
theorem dX6_beginStep_86 : decode cX6_beginStep 86 = .ok (.getfield 37, 3) := by decide +kernel
theorem dX6_beginStep_89 : decode cX6_beginStep 89 = .ok (.iload 4, 2) := by decide +kernel
theorem dX6_beginStep_91 : decode cX6_beginStep 91 = .ok (.iastore, 1) := by decide +kernel
theorem dX6_beginStep_92 : decode cX6_beginStep 92 = .ok (.aload_n 0, 1) := by decide +kernel
theorem dX6_beginStep_93 : decode cX6_beginStep 93 = .ok (.dup, 1) := by decide +kernel
theorem dX6_beginStep_94 : decode cX6_beginStep 94 = .ok (.getfield 37, 3) := by decide +kernel
theorem dX6_beginStep_97 : decode cX6_beginStep 97 = .ok (.iconst 1, 1) := by decide +kernel
theorem dX6_beginStep_98 : decode cX6_beginStep 98 = .ok (.iadd, 1) := by decide +kernel
theorem dX6_beginStep_99 : decode cX6_beginStep 99 = .ok (.putfield 37, 3) := by decide +kernel
theorem dX6_beginStep_102 : decode cX6_beginStep 102 = .ok (.aload_n 0, 1) := by decide +kernel
theorem dX6_beginStep_103 : decode cX6_beginStep 103 = .ok (.dup, 1) := by decide +kernel
theorem dX6_beginStep_104 : decode cX6_beginStep 104 = .ok (.getfield 40, 3) := by decide +kernel
theorem dX6_beginStep_107 : decode cX6_beginStep 107 = .ok (.iload 4, 2) := by decide +kernel
theorem dX6_beginStep_109 : decode cX6_beginStep 109 = .ok (.iadd, 1) := by decide +kernel
theorem dX6_beginStep_110 : decode cX6_beginStep 110 = .ok (.putfield 40, 3) := by decide +kernel
theorem dX6_beginStep_113 : decode cX6_beginStep 113 = .ok (.return_, 1) := by decide +kernel
theorem dX6_endStep_0 : decode cX6_endStep 0 = .ok (.aload_n 0, 1) := by decide +kernel
theorem dX6_endStep_1 : decode cX6_endStep 1 = .ok (.getfield 37, 3) := by decide +kernel
theorem dX6_endStep_4 : decode cX6_endStep 4 = .ok (.iconst 1, 1) := by decide +kernel
theorem dX6_endStep_5 : decode cX6_endStep 5 = .ok (.if_icmp .ge 4, 3) := by decide +kernel
theorem dX6_endStep_8 : decode cX6_endStep 8 = .ok (.return_, 1) := by decide +kernel
theorem dX6_endStep_9 : decode cX6_endStep 9 = .ok (.aload_n 0, 1) := by decide +kernel
theorem dX6_endStep_10 : decode cX6_endStep 10 = .ok (.getfield 31, 3) := by decide +kernel
theorem dX6_endStep_13 : decode cX6_endStep 13 = .ok (.bipush 6, 2) := by decide +kernel
theorem dX6_endStep_15 : decode cX6_endStep 15 = .ok (.aaload, 1) := by decide +kernel
theorem dX6_endStep_16 : decode cX6_endStep 16 = .ok (.aload_n 0, 1) := by decide +kernel
theorem dX6_endStep_17 : decode cX6_endStep 17 = .ok (.getfield 37, 3) := by decide +kernel
theorem dX6_endStep_20 : decode cX6_endStep 20 = .ok (.iconst 1, 1) := by decide +kernel
theorem dX6_endStep_21 : decode cX6_endStep 21 = .ok (.isub, 1) := by decide +kernel
theorem dX6_endStep_22 : decode cX6_endStep 22 = .ok (.iload_n 1, 1) := by decide +kernel
theorem dX6_endStep_23 : decode cX6_endStep 23 = .ok (.iastore, 1) := by decide +kernel
theorem dX6_endStep_24 : decode cX6_endStep 24 = .ok (.aload_n 0, 1) := by decide +kernel
theorem dX6_endStep_25 : decode cX6_endStep 25 = .ok (.getfield 34, 3) := by decide +kernel
theorem dX6_endStep_28 : decode cX6_endStep 28 = .ok (.aload_n 0, 1) := by decide +kernel
theorem dX6_endStep_29 : decode cX6_endStep 29 = .ok (.getfield 37, 3) := by decide +kernel
theorem dX6_endStep_32 : decode cX6_endStep 32 = .ok (.iconst 1, 1) := by decide +kernel
theorem dX6_endStep_33 : decode cX6_endStep 33 = .ok (.isub, 1) := by decide +kernel
theorem dX6_endStep_34 : decode cX6_endStep 34 = .ok (.iload_n 1, 1) := by decide +kernel
theorem dX6_endStep_35 : decode cX6_endStep 35 = .ok (.ifCond .ne 7, 3) := by decide +kernel
theorem dX6_endStep_38 : decode cX6_endStep 38 = .ok (.lload_n 2, 1) := by decide +kernel
theorem dX6_endStep_39 : decode cX6_endStep 39 = .ok (.goto 4, 3) := by decide +kernel
theorem dX6_endStep_42 : decode cX6_endStep 42 = .ok (.lconst 0, 1) := by decide +kernel
theorem dX6_endStep_43 : decode cX6_endStep 43 = .ok (.lastore, 1) := by decide +kernel
theorem dX6_endStep_44 : decode cX6_endStep 44 = .ok (.return_, 1) := by decide +kernel
theorem dX6_amount_0 : decode cX6_amount 0 = .ok (.iload_n 1, 1) := by decide +kernel
theorem dX6_amount_1 : decode cX6_amount 1 = .ok (.tableswitch 84 0 6 #[43, 48, 53, 58, 63, 68, 76], 43) := by decide +kernel
theorem dX6_amount_44 : decode cX6_amount 44 = .ok (.aload_n 0, 1) := by decide +kernel
theorem dX6_amount_45 : decode cX6_amount 45 = .ok (.getfield 37, 3) := by decide +kernel
theorem dX6_amount_48 : decode cX6_amount 48 = .ok (.ireturn, 1) := by decide +kernel
theorem dX6_amount_49 : decode cX6_amount 49 = .ok (.aload_n 0, 1) := by decide +kernel
theorem dX6_amount_50 : decode cX6_amount 50 = .ok (.getfield 46, 3) := by decide +kernel
theorem dX6_amount_53 : decode cX6_amount 53 = .ok (.ireturn, 1) := by decide +kernel
theorem dX6_amount_54 : decode cX6_amount 54 = .ok (.aload_n 0, 1) := by decide +kernel
theorem dX6_amount_55 : decode cX6_amount 55 = .ok (.getfield 49, 3) := by decide +kernel
theorem dX6_amount_58 : decode cX6_amount 58 = .ok (.ireturn, 1) := by decide +kernel
theorem dX6_amount_59 : decode cX6_amount 59 = .ok (.aload_n 0, 1) := by decide +kernel
theorem dX6_amount_60 : decode cX6_amount 60 = .ok (.getfield 40, 3) := by decide +kernel
theorem dX6_amount_63 : decode cX6_amount 63 = .ok (.ireturn, 1) := by decide +kernel
theorem dX6_amount_64 : decode cX6_amount 64 = .ok (.aload_n 0, 1) := by decide +kernel
theorem dX6_amount_65 : decode cX6_amount 65 = .ok (.getfield 43, 3) := by decide +kernel
theorem dX6_amount_68 : decode cX6_amount 68 = .ok (.ireturn, 1) := by decide +kernel
theorem dX6_amount_69 : decode cX6_amount 69 = .ok (.aload_n 0, 1) := by decide +kernel
theorem dX6_amount_70 : decode cX6_amount 70 = .ok (.getfield 65, 3) := by decide +kernel
theorem dX6_amount_73 : decode cX6_amount 73 = .ok (.getfield 84, 3) := by decide +kernel
theorem dX6_amount_76 : decode cX6_amount 76 = .ok (.ireturn, 1) := by decide +kernel
theorem dX6_amount_77 : decode cX6_amount 77 = .ok (.aload_n 0, 1) := by decide +kernel
theorem dX6_amount_78 : decode cX6_amount 78 = .ok (.getfield 58, 3) := by decide +kernel
theorem dX6_amount_81 : decode cX6_amount 81 = .ok (.getfield 104, 3) := by decide +kernel
theorem dX6_amount_84 : decode cX6_amount 84 = .ok (.ireturn, 1) := by decide +kernel
theorem dX6_amount_85 : decode cX6_amount 85 = .ok (.bipush (-2), 2) := by decide +kernel
theorem dX6_amount_87 : decode cX6_amount 87 = .ok (.ireturn, 1) := by decide +kernel
theorem dX6_firstOfKind_0 : decode cX6_firstOfKind 0 = .ok (.iload_n 2, 1) := by decide +kernel
theorem dX6_firstOfKind_1 : decode cX6_firstOfKind 1 = .ok (.ifCond .ge 6, 3) := by decide +kernel
theorem dX6_firstOfKind_4 : decode cX6_firstOfKind 4 = .ok (.bipush (-5), 2) := by decide +kernel
theorem dX6_firstOfKind_6 : decode cX6_firstOfKind 6 = .ok (.ireturn, 1) := by decide +kernel
theorem dX6_firstOfKind_7 : decode cX6_firstOfKind 7 = .ok (.iload_n 2, 1) := by decide +kernel
theorem dX6_firstOfKind_8 : decode cX6_firstOfKind 8 = .ok (.istore_n 3, 1) := by decide +kernel
theorem dX6_firstOfKind_9 : decode cX6_firstOfKind 9 = .ok (.iload_n 3, 1) := by decide +kernel
theorem dX6_firstOfKind_10 : decode cX6_firstOfKind 10 = .ok (.aload_n 0, 1) := by decide +kernel
theorem dX6_firstOfKind_11 : decode cX6_firstOfKind 11 = .ok (.getfield 37, 3) := by decide +kernel
theorem dX6_firstOfKind_14 : decode cX6_firstOfKind 14 = .ok (.if_icmp .ge 23, 3) := by decide +kernel
theorem dX6_firstOfKind_17 : decode cX6_firstOfKind 17 = .ok (.aload_n 0, 1) := by decide +kernel
theorem dX6_firstOfKind_18 : decode cX6_firstOfKind 18 = .ok (.getfield 31, 3) := by decide +kernel
theorem dX6_firstOfKind_21 : decode cX6_firstOfKind 21 = .ok (.iconst 4, 1) := by decide +kernel
theorem dX6_firstOfKind_22 : decode cX6_firstOfKind 22 = .ok (.aaload, 1) := by decide +kernel
theorem dX6_firstOfKind_23 : decode cX6_firstOfKind 23 = .ok (.iload_n 3, 1) := by decide +kernel
theorem dX6_firstOfKind_24 : decode cX6_firstOfKind 24 = .ok (.iaload, 1) := by decide +kernel
theorem dX6_firstOfKind_25 : decode cX6_firstOfKind 25 = .ok (.iload_n 1, 1) := by decide +kernel
theorem dX6_firstOfKind_26 : decode cX6_firstOfKind 26 = .ok (.if_icmp .ne 5, 3) := by decide +kernel
theorem dX6_firstOfKind_29 : decode cX6_firstOfKind 29 = .ok (.iload_n 3, 1) := by decide +kernel
theorem dX6_firstOfKind_30 : decode cX6_firstOfKind 30 = .ok (.ireturn, 1) := by decide +kernel
theorem dX6_firstOfKind_31 : decode cX6_firstOfKind 31 = .ok (.iinc 3 1, 3) := by decide +kernel
theorem dX6_firstOfKind_34 : decode cX6_firstOfKind 34 = .ok (.goto (-25), 3) := by decide +kernel
theorem dX6_firstOfKind_37 : decode cX6_firstOfKind 37 = .ok (.bipush (-5), 2) := by decide +kernel
theorem dX6_firstOfKind_39 : decode cX6_firstOfKind 39 = .ok (.ireturn, 1) := by decide +kernel
theorem dX6_pricesOf_0 : decode cX6_pricesOf 0 = .ok (.iconst 0, 1) := by decide +kernel
theorem dX6_pricesOf_1 : decode cX6_pricesOf 1 = .ok (.istore 4, 2) := by decide +kernel
theorem dX6_pricesOf_3 : decode cX6_pricesOf 3 = .ok (.iconst 0, 1) := by decide +kernel
theorem dX6_pricesOf_4 : decode cX6_pricesOf 4 = .ok (.istore 5, 2) := by decide +kernel
theorem dX6_pricesOf_6 : decode cX6_pricesOf 6 = .ok (.iconst 0, 1) := by decide +kernel
theorem dX6_pricesOf_7 : decode cX6_pricesOf 7 = .ok (.istore 6, 2) := by decide +kernel
theorem dX6_pricesOf_9 : decode cX6_pricesOf 9 = .ok (.iload 6, 2) := by decide +kernel
theorem dX6_pricesOf_11 : decode cX6_pricesOf 11 = .ok (.aload_n 0, 1) := by decide +kernel
theorem dX6_pricesOf_12 : decode cX6_pricesOf 12 = .ok (.getfield 37, 3) := by decide +kernel
theorem dX6_pricesOf_15 : decode cX6_pricesOf 15 = .ok (.if_icmp .ge 106, 3) := by decide +kernel
theorem dX6_pricesOf_18 : decode cX6_pricesOf 18 = .ok (.aload_n 0, 1) := by decide +kernel
theorem dX6_pricesOf_19 : decode cX6_pricesOf 19 = .ok (.getfield 31, 3) := by decide +kernel
theorem dX6_pricesOf_22 : decode cX6_pricesOf 22 = .ok (.iconst 0, 1) := by decide +kernel
theorem dX6_pricesOf_23 : decode cX6_pricesOf 23 = .ok (.aaload, 1) := by decide +kernel
theorem dX6_pricesOf_24 : decode cX6_pricesOf 24 = .ok (.iload 6, 2) := by decide +kernel
theorem dX6_pricesOf_26 : decode cX6_pricesOf 26 = .ok (.iaload, 1) := by decide +kernel
theorem dX6_pricesOf_27 : decode cX6_pricesOf 27 = .ok (.istore 7, 2) := by decide +kernel
theorem dX6_pricesOf_29 : decode cX6_pricesOf 29 = .ok (.aload_n 0, 1) := by decide +kernel
theorem dX6_pricesOf_30 : decode cX6_pricesOf 30 = .ok (.getfield 31, 3) := by decide +kernel
theorem dX6_pricesOf_33 : decode cX6_pricesOf 33 = .ok (.iconst 1, 1) := by decide +kernel
theorem dX6_pricesOf_34 : decode cX6_pricesOf 34 = .ok (.aaload, 1) := by decide +kernel
theorem dX6_pricesOf_35 : decode cX6_pricesOf 35 = .ok (.iload 6, 2) := by decide +kernel
theorem dX6_pricesOf_37 : decode cX6_pricesOf 37 = .ok (.iaload, 1) := by decide +kernel
theorem dX6_pricesOf_38 : decode cX6_pricesOf 38 = .ok (.iload_n 1, 1) := by decide +kernel
theorem dX6_pricesOf_39 : decode cX6_pricesOf 39 = .ok (.if_icmp .ne 20, 3) := by decide +kernel
theorem dX6_pricesOf_42 : decode cX6_pricesOf 42 = .ok (.aload_n 0, 1) := by decide +kernel
theorem dX6_pricesOf_43 : decode cX6_pricesOf 43 = .ok (.getfield 31, 3) := by decide +kernel
theorem dX6_pricesOf_46 : decode cX6_pricesOf 46 = .ok (.iconst 2, 1) := by decide +kernel
theorem dX6_pricesOf_47 : decode cX6_pricesOf 47 = .ok (.aaload, 1) := by decide +kernel
theorem dX6_pricesOf_48 : decode cX6_pricesOf 48 = .ok (.iload 6, 2) := by decide +kernel
theorem dX6_pricesOf_50 : decode cX6_pricesOf 50 = .ok (.iaload, 1) := by decide +kernel
theorem dX6_pricesOf_51 : decode cX6_pricesOf 51 = .ok (.iload_n 2, 1) := by decide +kernel
theorem dX6_pricesOf_52 : decode cX6_pricesOf 52 = .ok (.if_icmp .ne 7, 3) := by decide +kernel
theorem dX6_pricesOf_55 : decode cX6_pricesOf 55 = .ok (.iconst 1, 1) := by decide +kernel
theorem dX6_pricesOf_56 : decode cX6_pricesOf 56 = .ok (.goto 4, 3) := by decide +kernel
theorem dX6_pricesOf_59 : decode cX6_pricesOf 59 = .ok (.iconst 0, 1) := by decide +kernel
theorem dX6_pricesOf_60 : decode cX6_pricesOf 60 = .ok (.istore 8, 2) := by decide +kernel
theorem dX6_pricesOf_62 : decode cX6_pricesOf 62 = .ok (.iload 4, 2) := by decide +kernel
theorem dX6_pricesOf_64 : decode cX6_pricesOf 64 = .ok (.ifCond .eq 10, 3) := by decide +kernel
theorem dX6_pricesOf_67 : decode cX6_pricesOf 67 = .ok (.iload 7, 2) := by decide +kernel
theorem dX6_pricesOf_69 : decode cX6_pricesOf 69 = .ok (.iload 4, 2) := by decide +kernel
theorem dX6_pricesOf_71 : decode cX6_pricesOf 71 = .ok (.if_icmp .gt 16, 3) := by decide +kernel
theorem dX6_pricesOf_74 : decode cX6_pricesOf 74 = .ok (.iload 8, 2) := by decide +kernel
theorem dX6_pricesOf_76 : decode cX6_pricesOf 76 = .ok (.ifCond .eq 8, 3) := by decide +kernel
theorem dX6_pricesOf_79 : decode cX6_pricesOf 79 = .ok (.iload 7, 2) := by decide +kernel
theorem dX6_pricesOf_81 : decode cX6_pricesOf 81 = .ok (.goto 4, 3) := by decide +kernel
theorem dX6_pricesOf_84 : decode cX6_pricesOf 84 = .ok (.iconst 0, 1) := by decide +kernel
theorem dX6_pricesOf_85 : decode cX6_pricesOf 85 = .ok (.istore 4, 2) := by decide +kernel
theorem dX6_pricesOf_87 : decode cX6_pricesOf 87 = .ok (.iload 8, 2) := by decide +kernel
theorem dX6_pricesOf_89 : decode cX6_pricesOf 89 = .ok (.ifCond .ne 12, 3) := by decide +kernel
theorem dX6_pricesOf_92 : decode cX6_pricesOf 92 = .ok (.iload_n 3, 1) := by decide +kernel
theorem dX6_pricesOf_93 : decode cX6_pricesOf 93 = .ok (.ifCond .eq 22, 3) := by decide +kernel
theorem dX6_pricesOf_96 : decode cX6_pricesOf 96 = .ok (.iload 4, 2) := by decide +kernel
theorem dX6_pricesOf_98 : decode cX6_pricesOf 98 = .ok (.ifCond .le 17, 3) := by decide +kernel
theorem dX6_pricesOf_101 : decode cX6_pricesOf 101 = .ok (.iload 5, 2) := by decide +kernel
theorem dX6_pricesOf_103 : decode cX6_pricesOf 103 = .ok (.aload_n 0, 1) := by decide +kernel
theorem dX6_pricesOf_104 : decode cX6_pricesOf 104 = .ok (.getfield 31, 3) := by decide +kernel
theorem dX6_pricesOf_107 : decode cX6_pricesOf 107 = .ok (.iconst 5, 1) := by decide +kernel
theorem dX6_pricesOf_108 : decode cX6_pricesOf 108 = .ok (.aaload, 1) := by decide +kernel
theorem dX6_pricesOf_109 : decode cX6_pricesOf 109 = .ok (.iload 6, 2) := by decide +kernel
theorem dX6_pricesOf_111 : decode cX6_pricesOf 111 = .ok (.iaload, 1) := by decide +kernel
theorem dX6_pricesOf_112 : decode cX6_pricesOf 112 = .ok (.iadd, 1) := by decide +kernel
theorem dX6_pricesOf_113 : decode cX6_pricesOf 113 = .ok (.istore 5, 2) := by decide +kernel
theorem dX6_pricesOf_115 : decode cX6_pricesOf 115 = .ok (.iinc 6 1, 3) := by decide +kernel
theorem dX6_pricesOf_118 : decode cX6_pricesOf 118 = .ok (.goto (-109), 3) := by decide +kernel
theorem dX6_pricesOf_121 : decode cX6_pricesOf 121 = .ok (.iload 5, 2) := by decide +kernel
theorem dX6_pricesOf_123 : decode cX6_pricesOf 123 = .ok (.ireturn, 1) := by decide +kernel
theorem dX6_firstUnlike_0 : decode cX6_firstUnlike 0 = .ok (.aload_n 0, 1) := by decide +kernel
theorem dX6_firstUnlike_1 : decode cX6_firstUnlike 1 = .ok (.getfield 37, 3) := by decide +kernel
theorem dX6_firstUnlike_4 : decode cX6_firstUnlike 4 = .ok (.aload_n 1, 1) := by decide +kernel
theorem dX6_firstUnlike_5 : decode cX6_firstUnlike 5 = .ok (.getfield 37, 3) := by decide +kernel
theorem dX6_firstUnlike_8 : decode cX6_firstUnlike 8 = .ok (.invokestatic 105, 3) := by decide +kernel
theorem dX6_firstUnlike_11 : decode cX6_firstUnlike 11 = .ok (.istore_n 2, 1) := by decide +kernel
theorem dX6_firstUnlike_12 : decode cX6_firstUnlike 12 = .ok (.iconst 0, 1) := by decide +kernel
theorem dX6_firstUnlike_13 : decode cX6_firstUnlike 13 = .ok (.istore_n 3, 1) := by decide +kernel
theorem dX6_firstUnlike_14 : decode cX6_firstUnlike 14 = .ok (.iload_n 3, 1) := by decide +kernel
theorem dX6_firstUnlike_15 : decode cX6_firstUnlike 15 = .ok (.iload_n 2, 1) := by decide +kernel
theorem dX6_firstUnlike_16 : decode cX6_firstUnlike 16 = .ok (.if_icmp .ge 20, 3) := by decide +kernel
theorem dX6_firstUnlike_19 : decode cX6_firstUnlike 19 = .ok (.aload_n 0, 1) := by decide +kernel
theorem dX6_firstUnlike_20 : decode cX6_firstUnlike 20 = .ok (.aload_n 1, 1) := by decide +kernel
theorem dX6_firstUnlike_21 : decode cX6_firstUnlike 21 = .ok (.iload_n 3, 1) := by decide +kernel
theorem dX6_firstUnlike_22 : decode cX6_firstUnlike 22 = .ok (.invokevirtual 111, 3) := by decide +kernel
theorem dX6_firstUnlike_25 : decode cX6_firstUnlike 25 = .ok (.ifCond .ne 5, 3) := by decide +kernel
theorem dX6_firstUnlike_28 : decode cX6_firstUnlike 28 = .ok (.iload_n 3, 1) := by decide +kernel
theorem dX6_firstUnlike_29 : decode cX6_firstUnlike 29 = .ok (.ireturn, 1) := by decide +kernel
theorem dX6_firstUnlike_30 : decode cX6_firstUnlike 30 = .ok (.iinc 3 1, 3) := by decide +kernel
theorem dX6_firstUnlike_33 : decode cX6_firstUnlike 33 = .ok (.goto (-19), 3) := by decide +kernel
theorem dX6_firstUnlike_36 : decode cX6_firstUnlike 36 = .ok (.aload_n 0, 1) := by decide +kernel
theorem dX6_firstUnlike_37 : decode cX6_firstUnlike 37 = .ok (.getfield 37, 3) := by decide +kernel
theorem dX6_firstUnlike_40 : decode cX6_firstUnlike 40 = .ok (.aload_n 1, 1) := by decide +kernel
theorem dX6_firstUnlike_41 : decode cX6_firstUnlike 41 = .ok (.getfield 37, 3) := by decide +kernel
theorem dX6_firstUnlike_44 : decode cX6_firstUnlike 44 = .ok (.if_icmp .ne 8, 3) := by decide +kernel
theorem dX6_firstUnlike_47 : decode cX6_firstUnlike 47 = .ok (.bipush (-5), 2) := by decide +kernel
theorem dX6_firstUnlike_49 : decode cX6_firstUnlike 49 = .ok (.goto 4, 3) := by decide +kernel
theorem dX6_firstUnlike_52 : decode cX6_firstUnlike 52 = .ok (.iload_n 2, 1) := by decide +kernel
theorem dX6_firstUnlike_53 : decode cX6_firstUnlike 53 = .ok (.ireturn, 1) := by decide +kernel
theorem dX6_isLike_0 : decode cX6_isLike 0 = .ok (.iconst 0, 1) := by decide +kernel
theorem dX6_isLike_1 : decode cX6_isLike 1 = .ok (.istore_n 3, 1) := by decide +kernel
theorem dX6_isLike_2 : decode cX6_isLike 2 = .ok (.iload_n 3, 1) := by decide +kernel
theorem dX6_isLike_3 : decode cX6_isLike 3 = .ok (.bipush 7, 2) := by decide +kernel
theorem dX6_isLike_5 : decode cX6_isLike 5 = .ok (.if_icmp .ge 30, 3) := by decide +kernel
theorem dX6_isLike_8 : decode cX6_isLike 8 = .ok (.aload_n 0, 1) := by decide +kernel
theorem dX6_isLike_9 : decode cX6_isLike 9 = .ok (.getfield 31, 3) := by decide +kernel
theorem dX6_isLike_12 : decode cX6_isLike 12 = .ok (.iload_n 3, 1) := by decide +kernel
theorem dX6_isLike_13 : decode cX6_isLike 13 = .ok (.aaload, 1) := by decide +kernel
theorem dX6_isLike_14 : decode cX6_isLike 14 = .ok (.iload_n 2, 1) := by decide +kernel
theorem dX6_isLike_15 : decode cX6_isLike 15 = .ok (.iaload, 1) := by decide +kernel
theorem dX6_isLike_16 : decode cX6_isLike 16 = .ok (.aload_n 1, 1) := by decide +kernel
theorem dX6_isLike_17 : decode cX6_isLike 17 = .ok (.getfield 31, 3) := by decide +kernel
theorem dX6_isLike_20 : decode cX6_isLike 20 = .ok (.iload_n 3, 1) := by decide +kernel
theorem dX6_isLike_21 : decode cX6_isLike 21 = .ok (.aaload, 1) := by decide +kernel
theorem dX6_isLike_22 : decode cX6_isLike 22 = .ok (.iload_n 2, 1) := by decide +kernel
theorem dX6_isLike_23 : decode cX6_isLike 23 = .ok (.iaload, 1) := by decide +kernel
theorem dX6_isLike_24 : decode cX6_isLike 24 = .ok (.if_icmp .eq 5, 3) := by decide +kernel
theorem dX6_isLike_27 : decode cX6_isLike 27 = .ok (.iconst 0, 1) := by decide +kernel
theorem dX6_isLike_28 : decode cX6_isLike 28 = .ok (.ireturn, 1) := by decide +kernel
theorem dX6_isLike_29 : decode cX6_isLike 29 = .ok (.iinc 3 1, 3) := by decide +kernel
theorem dX6_isLike_32 : decode cX6_isLike 32 = .ok (.goto (-30), 3) := by decide +kernel
theorem dX6_isLike_35 : decode cX6_isLike 35 = .ok (.aload_n 0, 1) := by decide +kernel
theorem dX6_isLike_36 : decode cX6_isLike 36 = .ok (.getfield 34, 3) := by decide +kernel
theorem dX6_isLike_39 : decode cX6_isLike 39 = .ok (.iload_n 2, 1) := by decide +kernel
theorem dX6_isLike_40 : decode cX6_isLike 40 = .ok (.laload, 1) := by decide +kernel
theorem dX6_isLike_41 : decode cX6_isLike 41 = .ok (.aload_n 1, 1) := by decide +kernel
theorem dX6_isLike_42 : decode cX6_isLike 42 = .ok (.getfield 34, 3) := by decide +kernel
theorem dX6_isLike_45 : decode cX6_isLike 45 = .ok (.iload_n 2, 1) := by decide +kernel
theorem dX6_isLike_46 : decode cX6_isLike 46 = .ok (.laload, 1) := by decide +kernel
theorem dX6_isLike_47 : decode cX6_isLike 47 = .ok (.lcmp, 1) := by decide +kernel
theorem dX6_isLike_48 : decode cX6_isLike 48 = .ok (.ifCond .ne 7, 3) := by decide +kernel
theorem dX6_isLike_51 : decode cX6_isLike 51 = .ok (.iconst 1, 1) := by decide +kernel
theorem dX6_isLike_52 : decode cX6_isLike 52 = .ok (.goto 4, 3) := by decide +kernel
theorem dX6_isLike_55 : decode cX6_isLike 55 = .ok (.iconst 0, 1) := by decide +kernel
theorem dX6_isLike_56 : decode cX6_isLike 56 = .ok (.ireturn, 1) := by decide +kernel
theorem dX6_digestOfFirst_0 : decode cX6_digestOfFirst 0 = .ok (.iload_n 1, 1) := by decide +kernel
theorem dX6_digestOfFirst_1 : decode cX6_digestOfFirst 1 = .ok (.aload_n 0, 1) := by decide +kernel
theorem dX6_digestOfFirst_2 : decode cX6_digestOfFirst 2 = .ok (.getfield 37, 3) := by decide +kernel
theorem dX6_digestOfFirst_5 : decode cX6_digestOfFirst 5 = .ok (.invokestatic 105, 3) := by decide +kernel
theorem dX6_digestOfFirst_8 : decode cX6_digestOfFirst 8 = .ok (.istore_n 2, 1) := by decide +kernel
theorem dX6_digestOfFirst_9 : decode cX6_digestOfFirst 9 = .ok (.ldc2_w 115, 3) := by decide +kernel
theorem dX6_digestOfFirst_12 : decode cX6_digestOfFirst 12 = .ok (.lstore_n 3, 1) := by decide +kernel
theorem dX6_digestOfFirst_13 : decode cX6_digestOfFirst 13 = .ok (.iconst 0, 1) := by decide +kernel
theorem dX6_digestOfFirst_14 : decode cX6_digestOfFirst 14 = .ok (.istore 5, 2) := by decide +kernel
theorem dX6_digestOfFirst_16 : decode cX6_digestOfFirst 16 = .ok (.iload 5, 2) := by decide +kernel
theorem dX6_digestOfFirst_18 : decode cX6_digestOfFirst 18 = .ok (.iload_n 2, 1) := by decide +kernel
theorem dX6_digestOfFirst_19 : decode cX6_digestOfFirst 19 = .ok (.if_icmp .ge 53, 3) := by decide +kernel
theorem dX6_digestOfFirst_22 : decode cX6_digestOfFirst 22 = .ok (.iconst 0, 1) := by decide +kernel
theorem dX6_digestOfFirst_23 : decode cX6_digestOfFirst 23 = .ok (.istore 6, 2) := by decide +kernel
theorem dX6_digestOfFirst_25 : decode cX6_digestOfFirst 25 = .ok (.iload 6, 2) := by decide +kernel
theorem dX6_digestOfFirst_27 : decode cX6_digestOfFirst 27 = .ok (.bipush 7, 2) := by decide +kernel
theorem dX6_digestOfFirst_29 : decode cX6_digestOfFirst 29 = .ok (.if_icmp .ge 25, 3) := by decide +kernel
theorem dX6_digestOfFirst_32 : decode cX6_digestOfFirst 32 = .ok (.lload_n 3, 1) := by decide +kernel
theorem dX6_digestOfFirst_33 : decode cX6_digestOfFirst 33 = .ok (.aload_n 0, 1) := by decide +kernel
theorem dX6_digestOfFirst_34 : decode cX6_digestOfFirst 34 = .ok (.getfield 31, 3) := by decide +kernel
theorem dX6_digestOfFirst_37 : decode cX6_digestOfFirst 37 = .ok (.iload 6, 2) := by decide +kernel
theorem dX6_digestOfFirst_39 : decode cX6_digestOfFirst 39 = .ok (.aaload, 1) := by decide +kernel
theorem dX6_digestOfFirst_40 : decode cX6_digestOfFirst 40 = .ok (.iload 5, 2) := by decide +kernel
theorem dX6_digestOfFirst_42 : decode cX6_digestOfFirst 42 = .ok (.iaload, 1) := by decide +kernel
theorem dX6_digestOfFirst_43 : decode cX6_digestOfFirst 43 = .ok (.i2l, 1) := by decide +kernel
theorem dX6_digestOfFirst_44 : decode cX6_digestOfFirst 44 = .ok (.invokestatic 117, 3) := by decide +kernel
theorem dX6_digestOfFirst_47 : decode cX6_digestOfFirst 47 = .ok (.lstore_n 3, 1) := by decide +kernel
theorem dX6_digestOfFirst_48 : decode cX6_digestOfFirst 48 = .ok (.iinc 6 1, 3) := by decide +kernel
theorem dX6_digestOfFirst_51 : decode cX6_digestOfFirst 51 = .ok (.goto (-26), 3) := by decide +kernel
theorem dX6_digestOfFirst_54 : decode cX6_digestOfFirst 54 = .ok (.lload_n 3, 1) := by decide +kernel
theorem dX6_digestOfFirst_55 : decode cX6_digestOfFirst 55 = .ok (.aload_n 0, 1) := by decide +kernel
theorem dX6_digestOfFirst_56 : decode cX6_digestOfFirst 56 = .ok (.getfield 34, 3) := by decide +kernel
theorem dX6_digestOfFirst_59 : decode cX6_digestOfFirst 59 = .ok (.iload 5, 2) := by decide +kernel
theorem dX6_digestOfFirst_61 : decode cX6_digestOfFirst 61 = .ok (.laload, 1) := by decide +kernel
theorem dX6_digestOfFirst_62 : decode cX6_digestOfFirst 62 = .ok (.invokestatic 117, 3) := by decide +kernel
theorem dX6_digestOfFirst_65 : decode cX6_digestOfFirst 65 = .ok (.lstore_n 3, 1) := by decide +kernel
theorem dX6_digestOfFirst_66 : decode cX6_digestOfFirst 66 = .ok (.iinc 5 1, 3) := by decide +kernel
theorem dX6_digestOfFirst_69 : decode cX6_digestOfFirst 69 = .ok (.goto (-53), 3) := by decide +kernel
theorem dX6_digestOfFirst_72 : decode cX6_digestOfFirst 72 = .ok (.lload_n 3, 1) := by decide +kernel
theorem dX6_digestOfFirst_73 : decode cX6_digestOfFirst 73 = .ok (.lreturn, 1) := by decide +kernel
theorem dX7_init_0 : decode cX7_init 0 = .ok (.aload_n 0, 1) := by decide +kernel
theorem dX7_init_1 : decode cX7_init 1 = .ok (.invokespecial 3, 3) := by decide +kernel
theorem dX7_init_4 : decode cX7_init 4 = .ok (.aload_n 0, 1) := by decide +kernel
theorem dX7_init_5 : decode cX7_init 5 = .ok (.new 9, 3) := by decide +kernel
theorem dX7_init_8 : decode cX7_init 8 = .ok (.dup, 1) := by decide +kernel
theorem dX7_init_9 : decode cX7_init 9 = .ok (.invokespecial 11, 3) := by decide +kernel
theorem dX7_init_12 : decode cX7_init 12 = .ok (.putfield 12, 3) := by decide +kernel
theorem dX7_init_15 : decode cX7_init 15 = .ok (.aload_n 0, 1) := by decide +kernel
theorem dX7_init_16 : decode cX7_init 16 = .ok (.bipush 66, 2) := by decide +kernel
theorem dX7_init_18 : decode cX7_init 18 = .ok (.newarray .long, 2) := by decide +kernel
theorem dX7_init_20 : decode cX7_init 20 = .ok (.putfield 18, 3) := by decide +kernel
theorem dX7_init_23 : decode cX7_init 23 = .ok (.aload_n 0, 1) := by decide +kernel
theorem dX7_init_24 : decode cX7_init 24 = .ok (.bipush 6, 2) := by decide +kernel
theorem dX7_init_26 : decode cX7_init 26 = .ok (.bipush 66, 2) := by decide +kernel
theorem dX7_init_28 : decode cX7_init 28 = .ok (.multianewarray 22 2, 4) := by decide +kernel
theorem dX7_init_32 : decode cX7_init 32 = .ok (.putfield 24, 3) := by decide +kernel
theorem dX7_init_35 : decode cX7_init 35 = .ok (.aload_n 0, 1) := by decide +kernel
theorem dX7_init_36 : decode cX7_init 36 = .ok (.bipush 6, 2) := by decide +kernel
theorem dX7_init_38 : decode cX7_init 38 = .ok (.newarray .int, 2) := by decide +kernel
theorem dX7_init_40 : decode cX7_init 40 = .ok (.putfield 27, 3) := by decide +kernel
theorem dX7_init_43 : decode cX7_init 43 = .ok (.aload_n 0, 1) := by decide +kernel
theorem dX7_init_44 : decode cX7_init 44 = .ok (.bipush 6, 2) := by decide +kernel
theorem dX7_init_46 : decode cX7_init 46 = .ok (.anewarray 31, 3) := by decide +kernel
theorem dX7_init_49 : decode cX7_init 49 = .ok (.putfield 33, 3) := by decide +kernel
theorem dX7_init_52 : decode cX7_init 52 = .ok (.aload_n 0, 1) := by decide +kernel
theorem dX7_init_53 : decode cX7_init 53 = .ok (.new 37, 3) := by decide +kernel
theorem dX7_init_56 : decode cX7_init 56 = .ok (.dup, 1) := by decide +kernel
theorem dX7_init_57 : decode cX7_init 57 = .ok (.invokespecial 39, 3) := by decide +kernel
theorem dX7_init_60 : decode cX7_init 60 = .ok (.putfield 40, 3) := by decide +kernel
theorem dX7_init_63 : decode cX7_init 63 = .ok (.aload_n 0, 1) := by decide +kernel
theorem dX7_init_64 : decode cX7_init 64 = .ok (.aload_n 0, 1) := by decide +kernel
theorem dX7_init_65 : decode cX7_init 65 = .ok (.getfield 40, 3) := by decide +kernel
theorem dX7_init_68 : decode cX7_init 68 = .ok (.putfield 44, 3) := by decide +kernel
theorem dX7_init_71 : decode cX7_init 71 = .ok (.aload_n 0, 1) := by decide +kernel
theorem dX7_init_72 : decode cX7_init 72 = .ok (.iconst (-1), 1) := by decide +kernel
theorem dX7_init_73 : decode cX7_init 73 = .ok (.putfield 47, 3) := by decide +kernel
theorem dX7_init_76 : decode cX7_init 76 = .ok (.aload_n 0, 1) := by decide +kernel
theorem dX7_init_77 : decode cX7_init 77 = .ok (.lconst 0, 1) := by decide +kernel
theorem dX7_init_78 : decode cX7_init 78 = .ok (.putfield 51, 3) := by decide +kernel
theorem dX7_init_81 : decode cX7_init 81 = .ok (.iconst 0, 1) := by decide +kernel
theorem dX7_init_82 : decode cX7_init 82 = .ok (.istore_n 1, 1) := by decide +kernel
theorem dX7_init_83 : decode cX7_init 83 = .ok (.iload_n 1, 1) := by decide +kernel
theorem dX7_init_84 : decode cX7_init 84 = .ok (.bipush 6, 2) := by decide +kernel
theorem dX7_init_86 : decode cX7_init 86 = .ok (.if_icmp .ge 22, 3) := by decide +kernel
theorem dX7_init_89 : decode cX7_init 89 = .ok (.aload_n 0, 1) := by decide +kernel
theorem dX7_init_90 : decode cX7_init 90 = .ok (.getfield 33, 3) := by decide +kernel
theorem dX7_init_93 : decode cX7_init 93 = .ok (.iload_n 1, 1) := by decide +kernel
theorem dX7_init_94 : decode cX7_init 94 = .ok (.new 31, 3) := by decide +kernel
theorem dX7_init_97 : decode cX7_init 97 = .ok (.dup, 1) := by decide +kernel
theorem dX7_init_98 : decode cX7_init 98 = .ok (.invokespecial 55, 3) := by decide +kernel
theorem dX7_init_101 : decode cX7_init 101 = .ok (.aastore, 1) := by decide +kernel
theorem dX7_init_102 : decode cX7_init 102 = .ok (.iinc 1 1, 3) := by decide +kernel
theorem dX7_init_105 : decode cX7_init 105 = .ok (.goto (-22), 3) := by decide +kernel
theorem dX7_init_108 : decode cX7_init 108 = .ok (.return_, 1) := by decide +kernel
theorem dX7_walk_0 : decode cX7_walk 0 = .ok (.aload_n 0, 1) := by decide +kernel
theorem dX7_walk_1 : decode cX7_walk 1 = .ok (.aload_n 1, 1) := by decide +kernel
theorem dX7_walk_2 : decode cX7_walk 2 = .ok (.putfield 44, 3) := by decide +kernel
theorem dX7_walk_5 : decode cX7_walk 5 = .ok (.aload_n 0, 1) := by decide +kernel
theorem dX7_walk_6 : decode cX7_walk 6 = .ok (.iload_n 2, 1) := by decide +kernel
theorem dX7_walk_7 : decode cX7_walk 7 = .ok (.putfield 47, 3) := by decide +kernel
theorem dX7_walk_10 : decode cX7_walk 10 = .ok (.aload_n 0, 1) := by decide +kernel
theorem dX7_walk_11 : decode cX7_walk 11 = .ok (.getfield 18, 3) := by decide +kernel
theorem dX7_walk_14 : decode cX7_walk 14 = .ok (.lconst 0, 1) := by decide +kernel
theorem dX7_walk_15 : decode cX7_walk 15 = .ok (.invokestatic 56, 3) := by decide +kernel
theorem dX7_walk_18 : decode cX7_walk 18 = .ok (.aload_n 1, 1) := by decide +kernel
theorem dX7_walk_19 : decode cX7_walk 19 = .ok (.getfield 62, 3) := by decide +kernel
theorem dX7_walk_22 : decode cX7_walk 22 = .ok (.iconst 0, 1) := by decide +kernel
theorem dX7_walk_23 : decode cX7_walk 23 = .ok (.aload_n 0, 1) := by decide +kernel
theorem dX7_walk_24 : decode cX7_walk 24 = .ok (.getfield 18, 3) := by decide +kernel
theorem dX7_walk_27 : decode cX7_walk 27 = .ok (.iconst 0, 1) := by decide +kernel
theorem dX7_walk_28 : decode cX7_walk 28 = .ok (.bipush 54, 2) := by decide +kernel
theorem dX7_walk_30 : decode cX7_walk 30 = .ok (.invokestatic 65, 3) := by decide +kernel
theorem dX7_walk_33 : decode cX7_walk 33 = .ok (.aload_n 0, 1) := by decide +kernel
theorem dX7_walk_34 : decode cX7_walk 34 = .ok (.getfield 33, 3) := by decide +kernel
theorem dX7_walk_37 : decode cX7_walk 37 = .ok (.iconst 0, 1) := by decide +kernel
theorem dX7_walk_38 : decode cX7_walk 38 = .ok (.aaload, 1) := by decide +kernel
theorem dX7_walk_39 : decode cX7_walk 39 = .ok (.aload_n 1, 1) := by decide +kernel
theorem dX7_walk_40 : decode cX7_walk 40 = .ok (.getfield 71, 3) := by decide +kernel
theorem dX7_walk_43 : decode cX7_walk 43 = .ok (.aload_n 1, 1) := by decide +kernel
theorem dX7_walk_44 : decode cX7_walk 44 = .ok (.getfield 74, 3) := by decide +kernel
theorem dX7_walk_47 : decode cX7_walk 47 = .ok (.aload_n 1, 1) := by decide +kernel
theorem dX7_walk_48 : decode cX7_walk 48 = .ok (.getfield 77, 3) := by decide +kernel
theorem dX7_walk_51 : decode cX7_walk 51 = .ok (.iconst (-1), 1) := by decide +kernel
theorem dX7_walk_52 : decode cX7_walk 52 = .ok (.invokevirtual 80, 3) := by decide +kernel
theorem dX7_walk_55 : decode cX7_walk 55 = .ok (.aload_n 0, 1) := by decide +kernel
theorem dX7_walk_56 : decode cX7_walk 56 = .ok (.iconst 0, 1) := by decide +kernel
theorem dX7_walk_57 : decode cX7_walk 57 = .ok (.invokevirtual 84, 3) := by decide +kernel
theorem dX7_walk_60 : decode cX7_walk 60 = .ok (.istore_n 3, 1) := by decide +kernel
theorem dX7_walk_61 : decode cX7_walk 61 = .ok (.iload_n 3, 1) := by decide +kernel
theorem dX7_walk_62 : decode cX7_walk 62 = .ok (.ifCond .ne 23, 3) := by decide +kernel
theorem dX7_walk_65 : decode cX7_walk 65 = .ok (.aload_n 1, 1) := by decide +kernel
theorem dX7_walk_66 : decode cX7_walk 66 = .ok (.aload_n 0, 1) := by decide +kernel
theorem dX7_walk_67 : decode cX7_walk 67 = .ok (.getfield 33, 3) := by decide +kernel
theorem dX7_walk_70 : decode cX7_walk 70 = .ok (.iconst 0, 1) := by decide +kernel
theorem dX7_walk_71 : decode cX7_walk 71 = .ok (.aaload, 1) := by decide +kernel
theorem dX7_walk_72 : decode cX7_walk 72 = .ok (.getfield 88, 3) := by decide +kernel
theorem dX7_walk_75 : decode cX7_walk 75 = .ok (.aload_n 0, 1) := by decide +kernel
theorem dX7_walk_76 : decode cX7_walk 76 = .ok (.getfield 18, 3) := by decide +kernel
theorem dX7_walk_79 : decode cX7_walk 79 = .ok (.invokevirtual 91, 3) := by decide +kernel
theorem dX7_walk_82 : decode cX7_walk 82 = .ok (.goto 12, 3) := by decide +kernel
theorem dX7_walk_85 : decode cX7_walk 85 = .ok (.aload_n 1, 1) := by decide +kernel
theorem dX7_walk_86 : decode cX7_walk 86 = .ok (.iload_n 3, 1) := by decide +kernel
theorem dX7_walk_87 : decode cX7_walk 87 = .ok (.aload_n 0, 1) := by decide +kernel
theorem dX7_walk_88 : decode cX7_walk 88 = .ok (.getfield 51, 3) := by decide +kernel
theorem dX7_walk_91 : decode cX7_walk 91 = .ok (.invokevirtual 95, 3) := by decide +kernel
theorem dX7_walk_94 : decode cX7_walk 94 = .ok (.return_, 1) := by decide +kernel
theorem dX7_walkFrame_0 : decode cX7_walkFrame 0 = .ok (.iload_n 1, 1) := by decide +kernel
theorem dX7_walkFrame_1 : decode cX7_walkFrame 1 = .ok (.i2l, 1) := by decide +kernel
theorem dX7_walkFrame_2 : decode cX7_walkFrame 2 = .ok (.bipush 6, 2) := by decide +kernel
theorem dX7_walkFrame_4 : decode cX7_walkFrame 4 = .ok (.invokestatic 99, 3) := by decide +kernel
theorem dX7_walkFrame_7 : decode cX7_walkFrame 7 = .ok (.ifCond .ne 6, 3) := by decide +kernel
theorem dX7_walkFrame_10 : decode cX7_walkFrame 10 = .ok (.bipush 7, 2) := by decide +kernel
theorem dX7_walkFrame_12 : decode cX7_walkFrame 12 = .ok (.ireturn, 1) := by decide +kernel
theorem dX7_walkFrame_13 : decode cX7_walkFrame 13 = .ok (.aload_n 0, 1) := by decide +kernel
theorem dX7_walkFrame_14 : decode cX7_walkFrame 14 = .ok (.getfield 33, 3) := by decide +kernel
theorem dX7_walkFrame_17 : decode cX7_walkFrame 17 = .ok (.iload_n 1, 1) := by decide +kernel
theorem dX7_walkFrame_18 : decode cX7_walkFrame 18 = .ok (.aaload, 1) := by decide +kernel
theorem dX7_walkFrame_19 : decode cX7_walkFrame 19 = .ok (.astore_n 2, 1) := by decide +kernel
theorem dX7_walkFrame_20 : decode cX7_walkFrame 20 = .ok (.aload_n 0, 1) := by decide +kernel
theorem dX7_walkFrame_21 : decode cX7_walkFrame 21 = .ok (.getfield 12, 3) := by decide +kernel
theorem dX7_walkFrame_24 : decode cX7_walkFrame 24 = .ok (.aload_n 2, 1) := by decide +kernel
theorem dX7_walkFrame_25 : decode cX7_walkFrame 25 = .ok (.getfield 103, 3) := by decide +kernel
theorem dX7_walkFrame_28 : decode cX7_walkFrame 28 = .ok (.i2l, 1) := by decide +kernel
theorem dX7_walkFrame_29 : decode cX7_walkFrame 29 = .ok (.aload_n 2, 1) := by decide +kernel
theorem dX7_walkFrame_30 : decode cX7_walkFrame 30 = .ok (.getfield 104, 3) := by decide +kernel
theorem dX7_walkFrame_33 : decode cX7_walkFrame 33 = .ok (.invokevirtual 105, 3) := by decide +kernel
theorem dX7_walkFrame_36 : decode cX7_walkFrame 36 = .ok (.istore_n 3, 1) := by decide +kernel
theorem dX7_walkFrame_37 : decode cX7_walkFrame 37 = .ok (.aload_n 0, 1) := by decide +kernel
theorem dX7_walkFrame_38 : decode cX7_walkFrame 38 = .ok (.getfield 12, 3) := by decide +kernel
theorem dX7_walkFrame_41 : decode cX7_walkFrame 41 = .ok (.iload_n 3, 1) := by decide +kernel
theorem dX7_walkFrame_42 : decode cX7_walkFrame 42 = .ok (.invokevirtual 109, 3) := by decide +kernel
theorem dX7_walkFrame_45 : decode cX7_walkFrame 45 = .ok (.ifCond .ne 5, 3) := by decide +kernel
theorem dX7_walkFrame_48 : decode cX7_walkFrame 48 = .ok (.iconst 1, 1) := by decide +kernel
theorem dX7_walkFrame_49 : decode cX7_walkFrame 49 = .ok (.ireturn, 1) := by decide +kernel
theorem dX7_walkFrame_50 : decode cX7_walkFrame 50 = .ok (.aload_n 0, 1) := by decide +kernel
theorem dX7_walkFrame_51 : decode cX7_walkFrame 51 = .ok (.getfield 12, 3) := by decide +kernel
theorem dX7_walkFrame_54 : decode cX7_walkFrame 54 = .ok (.getfield 113, 3) := by decide +kernel
theorem dX7_walkFrame_57 : decode cX7_walkFrame 57 = .ok (.iload_n 3, 1) := by decide +kernel
theorem dX7_walkFrame_58 : decode cX7_walkFrame 58 = .ok (.aaload, 1) := by decide +kernel
theorem dX7_walkFrame_59 : decode cX7_walkFrame 59 = .ok (.astore 4, 2) := by decide +kernel
theorem dX7_walkFrame_61 : decode cX7_walkFrame 61 = .ok (.aload_n 0, 1) := by decide +kernel
theorem dX7_walkFrame_62 : decode cX7_walkFrame 62 = .ok (.getfield 44, 3) := by decide +kernel
theorem dX7_walkFrame_65 : decode cX7_walkFrame 65 = .ok (.aload_n 0, 1) := by decide +kernel
theorem dX7_walkFrame_66 : decode cX7_walkFrame 66 = .ok (.getfield 44, 3) := by decide +kernel
theorem dX7_walkFrame_69 : decode cX7_walkFrame 69 = .ok (.getfield 117, 3) := by decide +kernel
theorem dX7_walkFrame_72 : decode cX7_walkFrame 72 = .ok (.iload_n 1, 1) := by decide +kernel
theorem dX7_walkFrame_73 : decode cX7_walkFrame 73 = .ok (.iconst 1, 1) := by decide +kernel
theorem dX7_walkFrame_74 : decode cX7_walkFrame 74 = .ok (.iadd, 1) := by decide +kernel
theorem dX7_walkFrame_75 : decode cX7_walkFrame 75 = .ok (.invokestatic 120, 3) := by decide +kernel
theorem dX7_walkFrame_78 : decode cX7_walkFrame 78 = .ok (.putfield 117, 3) := by decide +kernel
theorem dX7_walkFrame_81 : decode cX7_walkFrame 81 = .ok (.iconst 0, 1) := by decide +kernel
theorem dX7_walkFrame_82 : decode cX7_walkFrame 82 = .ok (.istore 5, 2) := by decide +kernel
theorem dX7_walkFrame_84 : decode cX7_walkFrame 84 = .ok (.iload 5, 2) := by decide +kernel
theorem dX7_walkFrame_86 : decode cX7_walkFrame 86 = .ok (.bipush 100, 2) := by decide +kernel
theorem dX7_walkFrame_88 : decode cX7_walkFrame 88 = .ok (.if_icmp .gt 39, 3) := by decide +kernel
theorem dX7_walkFrame_91 : decode cX7_walkFrame 91 = .ok (.aload_n 2, 1) := by decide +kernel
theorem dX7_walkFrame_92 : decode cX7_walkFrame 92 = .ok (.getfield 126, 3) := by decide +kernel
theorem dX7_walkFrame_95 : decode cX7_walkFrame 95 = .ok (.aload 4, 2) := by decide +kernel
theorem dX7_walkFrame_97 : decode cX7_walkFrame 97 = .ok (.getfield 129, 3) := by decide +kernel
theorem dX7_walkFrame_100 : decode cX7_walkFrame 100 = .ok (.if_icmp .ge 27, 3) := by decide +kernel
theorem dX7_walkFrame_103 : decode cX7_walkFrame 103 = .ok (.aload_n 0, 1) := by decide +kernel
theorem dX7_walkFrame_104 : decode cX7_walkFrame 104 = .ok (.aload_n 2, 1) := by decide +kernel
theorem dX7_walkFrame_105 : decode cX7_walkFrame 105 = .ok (.aload 4, 2) := by decide +kernel
theorem dX7_walkFrame_107 : decode cX7_walkFrame 107 = .ok (.iload_n 1, 1) := by decide +kernel
theorem dX7_walkFrame_108 : decode cX7_walkFrame 108 = .ok (.invokevirtual 134, 3) := by decide +kernel
theorem dX7_walkFrame_111 : decode cX7_walkFrame 111 = .ok (.istore 6, 2) := by decide +kernel
theorem dX7_walkFrame_113 : decode cX7_walkFrame 113 = .ok (.iload 6, 2) := by decide +kernel
theorem dX7_walkFrame_115 : decode cX7_walkFrame 115 = .ok (.ifCond .eq 6, 3) := by decide +kernel
theorem dX7_walkFrame_118 : decode cX7_walkFrame 118 = .ok (.iload 6, 2) := by decide +kernel
theorem dX7_walkFrame_120 : decode cX7_walkFrame 120 = .ok (.ireturn, 1) := by decide +kernel
theorem dX7_walkFrame_121 : decode cX7_walkFrame 121 = .ok (.iinc 5 1, 3) := by decide +kernel
theorem dX7_walkFrame_124 : decode cX7_walkFrame 124 = .ok (.goto (-40), 3) := by decide +kernel
theorem dX7_walkFrame_127 : decode cX7_walkFrame 127 = .ok (.iconst 0, 1) := by decide +kernel
theorem dX7_walkFrame_128 : decode cX7_walkFrame 128 = .ok (.ireturn, 1) := by decide +kernel
theorem dX7_walkOp_0 : decode cX7_walkOp 0 = .ok (.aload_n 1, 1) := by decide +kernel
theorem dX7_walkOp_1 : decode cX7_walkOp 1 = .ok (.getfield 126, 3) := by decide +kernel
theorem dX7_walkOp_4 : decode cX7_walkOp 4 = .ok (.istore 4, 2) := by decide +kernel
theorem dX7_walkOp_6 : decode cX7_walkOp 6 = .ok (.aload_n 2, 1) := by decide +kernel
theorem dX7_walkOp_7 : decode cX7_walkOp 7 = .ok (.getfield 138, 3) := by decide +kernel
theorem dX7_walkOp_10 : decode cX7_walkOp 10 = .ok (.iload 4, 2) := by decide +kernel
theorem dX7_walkOp_12 : decode cX7_walkOp 12 = .ok (.iaload, 1) := by decide +kernel
theorem dX7_walkOp_13 : decode cX7_walkOp 13 = .ok (.istore 5, 2) := by decide +kernel
theorem dX7_walkOp_15 : decode cX7_walkOp 15 = .ok (.aload_n 0, 1) := by decide +kernel
theorem dX7_walkOp_16 : decode cX7_walkOp 16 = .ok (.getfield 12, 3) := by decide +kernel
theorem dX7_walkOp_19 : decode cX7_walkOp 19 = .ok (.getfield 141, 3) := by decide +kernel
theorem dX7_walkOp_22 : decode cX7_walkOp 22 = .ok (.iload 5, 2) := by decide +kernel
theorem dX7_walkOp_24 : decode cX7_walkOp 24 = .ok (.iaload, 1) := by decide +kernel
theorem dX7_walkOp_25 : decode cX7_walkOp 25 = .ok (.istore 6, 2) := by decide +kernel
theorem dX7_walkOp_27 : decode cX7_walkOp 27 = .ok (.aload_n 0, 1) := by decide +kernel
theorem dX7_walkOp_28 : decode cX7_walkOp 28 = .ok (.getfield 44, 3) := by decide +kernel
theorem dX7_walkOp_31 : decode cX7_walkOp 31 = .ok (.getfield 144, 3) := by decide +kernel
theorem dX7_walkOp_34 : decode cX7_walkOp 34 = .ok (.aload_n 0, 1) := by decide +kernel
theorem dX7_walkOp_35 : decode cX7_walkOp 35 = .ok (.getfield 47, 3) := by decide +kernel
theorem dX7_walkOp_38 : decode cX7_walkOp 38 = .ok (.if_icmp .ne 6, 3) := by decide +kernel
theorem dX7_walkOp_41 : decode cX7_walkOp 41 = .ok (.bipush 8, 2) := by decide +kernel
theorem dX7_walkOp_43 : decode cX7_walkOp 43 = .ok (.ireturn, 1) := by decide +kernel
theorem dX7_walkOp_44 : decode cX7_walkOp 44 = .ok (.aload_n 0, 1) := by decide +kernel
theorem dX7_walkOp_45 : decode cX7_walkOp 45 = .ok (.getfield 44, 3) := by decide +kernel
theorem dX7_walkOp_48 : decode cX7_walkOp 48 = .ok (.iload 6, 2) := by decide +kernel
theorem dX7_walkOp_50 : decode cX7_walkOp 50 = .ok (.invokevirtual 147, 3) := by decide +kernel
theorem dX7_walkOp_53 : decode cX7_walkOp 53 = .ok (.ifCond .ne 6, 3) := by decide +kernel
theorem dX7_walkOp_56 : decode cX7_walkOp 56 = .ok (.bipush 6, 2) := by decide +kernel
theorem dX7_walkOp_58 : decode cX7_walkOp 58 = .ok (.ireturn, 1) := by decide +kernel
theorem dX7_walkOp_59 : decode cX7_walkOp 59 = .ok (.aload_n 0, 1) := by decide +kernel
theorem dX7_walkOp_60 : decode cX7_walkOp 60 = .ok (.getfield 44, 3) := by decide +kernel
theorem dX7_walkOp_63 : decode cX7_walkOp 63 = .ok (.aload_n 1, 1) := by decide +kernel
theorem dX7_walkOp_64 : decode cX7_walkOp 64 = .ok (.iload_n 3, 1) := by decide +kernel
theorem dX7_walkOp_65 : decode cX7_walkOp 65 = .ok (.iconst 1, 1) := by decide +kernel
theorem dX7_walkOp_66 : decode cX7_walkOp 66 = .ok (.iadd, 1) := by decide +kernel
theorem dX7_walkOp_67 : decode cX7_walkOp 67 = .ok (.iload 5, 2) := by decide +kernel
theorem dX7_walkOp_69 : decode cX7_walkOp 69 = .ok (.iload 6, 2) := by decide +kernel
theorem dX7_walkOp_71 : decode cX7_walkOp 71 = .ok (.invokevirtual 150, 3) := by decide +kernel
theorem dX7_walkOp_74 : decode cX7_walkOp 74 = .ok (.aload_n 1, 1) := by decide +kernel
theorem dX7_walkOp_75 : decode cX7_walkOp 75 = .ok (.iload 4, 2) := by decide +kernel
theorem dX7_walkOp_77 : decode cX7_walkOp 77 = .ok (.iconst 1, 1) := by decide +kernel
theorem dX7_walkOp_78 : decode cX7_walkOp 78 = .ok (.iadd, 1) := by decide +kernel
theorem dX7_walkOp_79 : decode cX7_walkOp 79 = .ok (.putfield 126, 3) := by decide +kernel
theorem dX7_walkOp_82 : decode cX7_walkOp 82 = .ok (.iload 5, 2) := by decide +kernel
theorem dX7_walkOp_84 : decode cX7_walkOp 84 = .ok (.bipush 6, 2) := by decide +kernel
theorem dX7_walkOp_86 : decode cX7_walkOp 86 = .ok (.if_icmp .eq 10, 3) := by decide +kernel
theorem dX7_walkOp_89 : decode cX7_walkOp 89 = .ok (.iload 5, 2) := by decide +kernel
theorem dX7_walkOp_91 : decode cX7_walkOp 91 = .ok (.bipush 7, 2) := by decide +kernel
theorem dX7_walkOp_93 : decode cX7_walkOp 93 = .ok (.if_icmp .ne 35, 3) := by decide +kernel
theorem dX7_walkOp_96 : decode cX7_walkOp 96 = .ok (.aload_n 0, 1) := by decide +kernel
theorem dX7_walkOp_97 : decode cX7_walkOp 97 = .ok (.iload_n 3, 1) := by decide +kernel
theorem dX7_walkOp_98 : decode cX7_walkOp 98 = .ok (.iload 5, 2) := by decide +kernel
theorem dX7_walkOp_100 : decode cX7_walkOp 100 = .ok (.bipush 7, 2) := by decide +kernel
theorem dX7_walkOp_102 : decode cX7_walkOp 102 = .ok (.if_icmp .ne 7, 3) := by decide +kernel
theorem dX7_walkOp_105 : decode cX7_walkOp 105 = .ok (.iconst 1, 1) := by decide +kernel
theorem dX7_walkOp_106 : decode cX7_walkOp 106 = .ok (.goto 4, 3) := by decide +kernel
theorem dX7_walkOp_109 : decode cX7_walkOp 109 = .ok (.iconst 0, 1) := by decide +kernel
theorem dX7_walkOp_110 : decode cX7_walkOp 110 = .ok (.aload_n 2, 1) := by decide +kernel
theorem dX7_walkOp_111 : decode cX7_walkOp 111 = .ok (.getfield 154, 3) := by decide +kernel
theorem dX7_walkOp_114 : decode cX7_walkOp 114 = .ok (.iload 4, 2) := by decide +kernel
theorem dX7_walkOp_116 : decode cX7_walkOp 116 = .ok (.laload, 1) := by decide +kernel
theorem dX7_walkOp_117 : decode cX7_walkOp 117 = .ok (.aload_n 2, 1) := by decide +kernel
theorem dX7_walkOp_118 : decode cX7_walkOp 118 = .ok (.getfield 157, 3) := by decide +kernel
theorem dX7_walkOp_121 : decode cX7_walkOp 121 = .ok (.iload 4, 2) := by decide +kernel
theorem dX7_walkOp_123 : decode cX7_walkOp 123 = .ok (.iaload, 1) := by decide +kernel
theorem dX7_walkOp_124 : decode cX7_walkOp 124 = .ok (.invokevirtual 160, 3) := by decide +kernel
theorem dX7_walkOp_127 : decode cX7_walkOp 127 = .ok (.ireturn, 1) := by decide +kernel
theorem dX7_walkOp_128 : decode cX7_walkOp 128 = .ok (.aload_n 1, 1) := by decide +kernel
theorem dX7_walkOp_129 : decode cX7_walkOp 129 = .ok (.getfield 164, 3) := by decide +kernel
theorem dX7_walkOp_132 : decode cX7_walkOp 132 = .ok (.getstatic 167, 3) := by decide +kernel
theorem dX7_walkOp_135 : decode cX7_walkOp 135 = .ok (.iload 5, 2) := by decide +kernel
theorem dX7_walkOp_137 : decode cX7_walkOp 137 = .ok (.iaload, 1) := by decide +kernel
theorem dX7_walkOp_138 : decode cX7_walkOp 138 = .ok (.if_icmp .ge 7, 3) := by decide +kernel
theorem dX7_walkOp_141 : decode cX7_walkOp 141 = .ok (.iconst 2, 1) := by decide +kernel
theorem dX7_walkOp_142 : decode cX7_walkOp 142 = .ok (.goto 18, 3) := by decide +kernel
theorem dX7_walkOp_145 : decode cX7_walkOp 145 = .ok (.aload_n 0, 1) := by decide +kernel
theorem dX7_walkOp_146 : decode cX7_walkOp 146 = .ok (.aload_n 1, 1) := by decide +kernel
theorem dX7_walkOp_147 : decode cX7_walkOp 147 = .ok (.aload_n 2, 1) := by decide +kernel
theorem dX7_walkOp_148 : decode cX7_walkOp 148 = .ok (.iload 5, 2) := by decide +kernel
theorem dX7_walkOp_150 : decode cX7_walkOp 150 = .ok (.aload_n 2, 1) := by decide +kernel
theorem dX7_walkOp_151 : decode cX7_walkOp 151 = .ok (.getfield 154, 3) := by decide +kernel
theorem dX7_walkOp_154 : decode cX7_walkOp 154 = .ok (.iload 4, 2) := by decide +kernel
theorem dX7_walkOp_156 : decode cX7_walkOp 156 = .ok (.laload, 1) := by decide +kernel
theorem dX7_walkOp_157 : decode cX7_walkOp 157 = .ok (.invokevirtual 170, 3) := by decide +kernel
theorem dX7_walkOp_160 : decode cX7_walkOp 160 = .ok (.istore 7, 2) := by decide +kernel
theorem dX7_walkOp_162 : decode cX7_walkOp 162 = .ok (.aload_n 0, 1) := by decide +kernel
theorem dX7_walkOp_163 : decode cX7_walkOp 163 = .ok (.getfield 44, 3) := by decide +kernel
theorem dX7_walkOp_166 : decode cX7_walkOp 166 = .ok (.iload 7, 2) := by decide +kernel
theorem dX7_walkOp_168 : decode cX7_walkOp 168 = .ok (.aload_n 1, 1) := by decide +kernel
theorem dX7_walkOp_169 : decode cX7_walkOp 169 = .ok (.invokevirtual 174, 3) := by decide +kernel
theorem dX7_walkOp_172 : decode cX7_walkOp 172 = .ok (.invokevirtual 178, 3) := by decide +kernel
theorem dX7_walkOp_175 : decode cX7_walkOp 175 = .ok (.iload 7, 2) := by decide +kernel
theorem dX7_walkOp_177 : decode cX7_walkOp 177 = .ok (.ireturn, 1) := by decide +kernel
theorem dX7_walkWithin_0 : decode cX7_walkWithin 0 = .ok (.aload_n 0, 1) := by decide +kernel
theorem dX7_walkWithin_1 : decode cX7_walkWithin 1 = .ok (.getfield 33, 3) := by decide +kernel
theorem dX7_walkWithin_4 : decode cX7_walkWithin 4 = .ok (.iload_n 1, 1) := by decide +kernel
theorem dX7_walkWithin_5 : decode cX7_walkWithin 5 = .ok (.aaload, 1) := by decide +kernel
theorem dX7_walkWithin_6 : decode cX7_walkWithin 6 = .ok (.astore 6, 2) := by decide +kernel
theorem dX7_walkWithin_8 : decode cX7_walkWithin 8 = .ok (.aload_n 0, 1) := by decide +kernel
theorem dX7_walkWithin_9 : decode cX7_walkWithin 9 = .ok (.iload_n 1, 1) := by decide +kernel
theorem dX7_walkWithin_10 : decode cX7_walkWithin 10 = .ok (.lload_n 3, 1) := by decide +kernel
theorem dX7_walkWithin_11 : decode cX7_walkWithin 11 = .ok (.iload 5, 2) := by decide +kernel
theorem dX7_walkWithin_13 : decode cX7_walkWithin 13 = .ok (.invokevirtual 181, 3) := by decide +kernel
theorem dX7_walkWithin_16 : decode cX7_walkWithin 16 = .ok (.istore 7, 2) := by decide +kernel
theorem dX7_walkWithin_18 : decode cX7_walkWithin 18 = .ok (.aload 6, 2) := by decide +kernel
theorem dX7_walkWithin_20 : decode cX7_walkWithin 20 = .ok (.invokevirtual 185, 3) := by decide +kernel
theorem dX7_walkWithin_23 : decode cX7_walkWithin 23 = .ok (.lstore 8, 2) := by decide +kernel
theorem dX7_walkWithin_25 : decode cX7_walkWithin 25 = .ok (.aload_n 0, 1) := by decide +kernel
theorem dX7_walkWithin_26 : decode cX7_walkWithin 26 = .ok (.getfield 44, 3) := by decide +kernel
theorem dX7_walkWithin_29 : decode cX7_walkWithin 29 = .ok (.iload 7, 2) := by decide +kernel
theorem dX7_walkWithin_31 : decode cX7_walkWithin 31 = .ok (.lload 8, 2) := by decide +kernel
theorem dX7_walkWithin_33 : decode cX7_walkWithin 33 = .ok (.invokevirtual 178, 3) := by decide +kernel
theorem dX7_walkWithin_36 : decode cX7_walkWithin 36 = .ok (.iload 7, 2) := by decide +kernel
theorem dX7_walkWithin_38 : decode cX7_walkWithin 38 = .ok (.ifCond .eq 6, 3) := by decide +kernel
theorem dX7_walkWithin_41 : decode cX7_walkWithin 41 = .ok (.iload 7, 2) := by decide +kernel
theorem dX7_walkWithin_43 : decode cX7_walkWithin 43 = .ok (.ireturn, 1) := by decide +kernel
theorem dX7_walkWithin_44 : decode cX7_walkWithin 44 = .ok (.aload_n 0, 1) := by decide +kernel
theorem dX7_walkWithin_45 : decode cX7_walkWithin 45 = .ok (.getfield 33, 3) := by decide +kernel
theorem dX7_walkWithin_48 : decode cX7_walkWithin 48 = .ok (.iload_n 1, 1) := by decide +kernel
theorem dX7_walkWithin_49 : decode cX7_walkWithin 49 = .ok (.iconst 1, 1) := by decide +kernel
theorem dX7_walkWithin_50 : decode cX7_walkWithin 50 = .ok (.iadd, 1) := by decide +kernel
theorem dX7_walkWithin_51 : decode cX7_walkWithin 51 = .ok (.aaload, 1) := by decide +kernel
theorem dX7_walkWithin_52 : decode cX7_walkWithin 52 = .ok (.astore 10, 2) := by decide +kernel
theorem dX7_walkWithin_54 : decode cX7_walkWithin 54 = .ok (.aload 10, 2) := by decide +kernel
theorem dX7_walkWithin_56 : decode cX7_walkWithin 56 = .ok (.lload_n 3, 1) := by decide +kernel
theorem dX7_walkWithin_57 : decode cX7_walkWithin 57 = .ok (.l2i, 1) := by decide +kernel
theorem dX7_walkWithin_58 : decode cX7_walkWithin 58 = .ok (.iload 5, 2) := by decide +kernel
theorem dX7_walkWithin_60 : decode cX7_walkWithin 60 = .ok (.lload 8, 2) := by decide +kernel
theorem dX7_walkWithin_62 : decode cX7_walkWithin 62 = .ok (.aload 6, 2) := by decide +kernel
theorem dX7_walkWithin_64 : decode cX7_walkWithin 64 = .ok (.getfield 103, 3) := by decide +kernel
theorem dX7_walkWithin_67 : decode cX7_walkWithin 67 = .ok (.invokevirtual 80, 3) := by decide +kernel
theorem dX7_walkWithin_70 : decode cX7_walkWithin 70 = .ok (.iload_n 2, 1) := by decide +kernel
theorem dX7_walkWithin_71 : decode cX7_walkWithin 71 = .ok (.ifCond .eq 8, 3) := by decide +kernel
theorem dX7_walkWithin_74 : decode cX7_walkWithin 74 = .ok (.aload_n 0, 1) := by decide +kernel
theorem dX7_walkWithin_75 : decode cX7_walkWithin 75 = .ok (.iload_n 1, 1) := by decide +kernel
theorem dX7_walkWithin_76 : decode cX7_walkWithin 76 = .ok (.invokevirtual 188, 3) := by decide +kernel
theorem dX7_walkWithin_79 : decode cX7_walkWithin 79 = .ok (.aload_n 0, 1) := by decide +kernel
theorem dX7_walkWithin_80 : decode cX7_walkWithin 80 = .ok (.iload_n 1, 1) := by decide +kernel
theorem dX7_walkWithin_81 : decode cX7_walkWithin 81 = .ok (.iconst 1, 1) := by decide +kernel
theorem dX7_walkWithin_82 : decode cX7_walkWithin 82 = .ok (.iadd, 1) := by decide +kernel
theorem dX7_walkWithin_83 : decode cX7_walkWithin 83 = .ok (.invokevirtual 84, 3) := by decide +kernel
theorem dX7_walkWithin_86 : decode cX7_walkWithin 86 = .ok (.istore 11, 2) := by decide +kernel
theorem dX7_walkWithin_88 : decode cX7_walkWithin 88 = .ok (.iload 11, 2) := by decide +kernel
theorem dX7_walkWithin_90 : decode cX7_walkWithin 90 = .ok (.ifCond .ne 14, 3) := by decide +kernel
theorem dX7_walkWithin_93 : decode cX7_walkWithin 93 = .ok (.aload 6, 2) := by decide +kernel
theorem dX7_walkWithin_95 : decode cX7_walkWithin 95 = .ok (.aload 10, 2) := by decide +kernel
theorem dX7_walkWithin_97 : decode cX7_walkWithin 97 = .ok (.getfield 88, 3) := by decide +kernel
theorem dX7_walkWithin_100 : decode cX7_walkWithin 100 = .ok (.invokevirtual 192, 3) := by decide +kernel
theorem dX7_walkWithin_103 : decode cX7_walkWithin 103 = .ok (.ireturn, 1) := by decide +kernel
theorem dX7_walkWithin_104 : decode cX7_walkWithin 104 = .ok (.iload_n 2, 1) := by decide +kernel
theorem dX7_walkWithin_105 : decode cX7_walkWithin 105 = .ok (.ifCond .eq 17, 3) := by decide +kernel
theorem dX7_walkWithin_108 : decode cX7_walkWithin 108 = .ok (.iload 11, 2) := by decide +kernel
theorem dX7_walkWithin_110 : decode cX7_walkWithin 110 = .ok (.bipush 6, 2) := by decide +kernel
theorem dX7_walkWithin_112 : decode cX7_walkWithin 112 = .ok (.if_icmp .eq 10, 3) := by decide +kernel
theorem dX7_walkWithin_115 : decode cX7_walkWithin 115 = .ok (.iload 11, 2) := by decide +kernel
theorem dX7_walkWithin_117 : decode cX7_walkWithin 117 = .ok (.bipush 8, 2) := by decide +kernel
theorem dX7_walkWithin_119 : decode cX7_walkWithin 119 = .ok (.if_icmp .ne 6, 3) := by decide +kernel
theorem dX7_walkWithin_122 : decode cX7_walkWithin 122 = .ok (.iload 11, 2) := by decide +kernel
theorem dX7_walkWithin_124 : decode cX7_walkWithin 124 = .ok (.ireturn, 1) := by decide +kernel
theorem dX7_walkWithin_125 : decode cX7_walkWithin 125 = .ok (.aload_n 0, 1) := by decide +kernel
theorem dX7_walkWithin_126 : decode cX7_walkWithin 126 = .ok (.iload_n 1, 1) := by decide +kernel
theorem dX7_walkWithin_127 : decode cX7_walkWithin 127 = .ok (.invokevirtual 196, 3) := by decide +kernel
theorem dX7_walkWithin_130 : decode cX7_walkWithin 130 = .ok (.aload 6, 2) := by decide +kernel
theorem dX7_walkWithin_132 : decode cX7_walkWithin 132 = .ok (.iload 11, 2) := by decide +kernel
theorem dX7_walkWithin_134 : decode cX7_walkWithin 134 = .ok (.ineg, 1) := by decide +kernel
theorem dX7_walkWithin_135 : decode cX7_walkWithin 135 = .ok (.i2l, 1) := by decide +kernel
theorem dX7_walkWithin_136 : decode cX7_walkWithin 136 = .ok (.invokevirtual 192, 3) := by decide +kernel
theorem dX7_walkWithin_139 : decode cX7_walkWithin 139 = .ok (.ireturn, 1) := by decide +kernel
theorem dX7_lookWithin_0 : decode cX7_lookWithin 0 = .ok (.aload_n 0, 1) := by decide +kernel
theorem dX7_lookWithin_1 : decode cX7_lookWithin 1 = .ok (.getfield 33, 3) := by decide +kernel
theorem dX7_lookWithin_4 : decode cX7_lookWithin 4 = .ok (.iload_n 1, 1) := by decide +kernel
theorem dX7_lookWithin_5 : decode cX7_lookWithin 5 = .ok (.aaload, 1) := by decide +kernel
theorem dX7_lookWithin_6 : decode cX7_lookWithin 6 = .ok (.getfield 164, 3) := by decide +kernel
theorem dX7_lookWithin_9 : decode cX7_lookWithin 9 = .ok (.getstatic 167, 3) := by decide +kernel
theorem dX7_lookWithin_12 : decode cX7_lookWithin 12 = .ok (.bipush 6, 2) := by decide +kernel
theorem dX7_lookWithin_14 : decode cX7_lookWithin 14 = .ok (.iaload, 1) := by decide +kernel
theorem dX7_lookWithin_15 : decode cX7_lookWithin 15 = .ok (.if_icmp .ge 5, 3) := by decide +kernel
theorem dX7_lookWithin_18 : decode cX7_lookWithin 18 = .ok (.iconst 2, 1) := by decide +kernel
theorem dX7_lookWithin_19 : decode cX7_lookWithin 19 = .ok (.ireturn, 1) := by decide +kernel
theorem dX7_lookWithin_20 : decode cX7_lookWithin 20 = .ok (.aload_n 0, 1) := by decide +kernel
theorem dX7_lookWithin_21 : decode cX7_lookWithin 21 = .ok (.getfield 12, 3) := by decide +kernel
theorem dX7_lookWithin_24 : decode cX7_lookWithin 24 = .ok (.lload_n 2, 1) := by decide +kernel
theorem dX7_lookWithin_25 : decode cX7_lookWithin 25 = .ok (.iload 4, 2) := by decide +kernel
theorem dX7_lookWithin_27 : decode cX7_lookWithin 27 = .ok (.invokevirtual 105, 3) := by decide +kernel
theorem dX7_lookWithin_30 : decode cX7_lookWithin 30 = .ok (.iconst (-1), 1) := by decide +kernel
theorem dX7_lookWithin_31 : decode cX7_lookWithin 31 = .ok (.if_icmp .ne 5, 3) := by decide +kernel
theorem dX7_lookWithin_34 : decode cX7_lookWithin 34 = .ok (.iconst 1, 1) := by decide +kernel
theorem dX7_lookWithin_35 : decode cX7_lookWithin 35 = .ok (.ireturn, 1) := by decide +kernel
theorem dX7_lookWithin_36 : decode cX7_lookWithin 36 = .ok (.iload_n 1, 1) := by decide +kernel
theorem dX7_lookWithin_37 : decode cX7_lookWithin 37 = .ok (.iconst 1, 1) := by decide +kernel
theorem dX7_lookWithin_38 : decode cX7_lookWithin 38 = .ok (.iadd, 1) := by decide +kernel
theorem dX7_lookWithin_39 : decode cX7_lookWithin 39 = .ok (.bipush 6, 2) := by decide +kernel
theorem dX7_lookWithin_41 : decode cX7_lookWithin 41 = .ok (.if_icmp .lt 8, 3) := by decide +kernel
theorem dX7_lookWithin_44 : decode cX7_lookWithin 44 = .ok (.bipush 7, 2) := by decide +kernel
theorem dX7_lookWithin_46 : decode cX7_lookWithin 46 = .ok (.goto 4, 3) := by decide +kernel
theorem dX7_lookWithin_49 : decode cX7_lookWithin 49 = .ok (.iconst 0, 1) := by decide +kernel
theorem dX7_lookWithin_50 : decode cX7_lookWithin 50 = .ok (.ireturn, 1) := by decide +kernel
theorem dX7_save_0 : decode cX7_save 0 = .ok (.aload_n 0, 1) := by decide +kernel
theorem dX7_save_1 : decode cX7_save 1 = .ok (.getfield 18, 3) := by decide +kernel
theorem dX7_save_4 : decode cX7_save 4 = .ok (.iconst 0, 1) := by decide +kernel
theorem dX7_save_5 : decode cX7_save 5 = .ok (.aload_n 0, 1) := by decide +kernel
theorem dX7_save_6 : decode cX7_save 6 = .ok (.getfield 24, 3) := by decide +kernel
theorem dX7_save_9 : decode cX7_save 9 = .ok (.iload_n 1, 1) := by decide +kernel
theorem dX7_save_10 : decode cX7_save 10 = .ok (.aaload, 1) := by decide +kernel
theorem dX7_save_11 : decode cX7_save 11 = .ok (.iconst 0, 1) := by decide +kernel
theorem dX7_save_12 : decode cX7_save 12 = .ok (.bipush 66, 2) := by decide +kernel
theorem dX7_save_14 : decode cX7_save 14 = .ok (.invokestatic 65, 3) := by decide +kernel
theorem dX7_save_17 : decode cX7_save 17 = .ok (.aload_n 0, 1) := by decide +kernel
theorem dX7_save_18 : decode cX7_save 18 = .ok (.getfield 27, 3) := by decide +kernel
theorem dX7_save_21 : decode cX7_save 21 = .ok (.iload_n 1, 1) := by decide +kernel
theorem dX7_save_22 : decode cX7_save 22 = .ok (.aload_n 0, 1) := by decide +kernel
theorem dX7_save_23 : decode cX7_save 23 = .ok (.getfield 44, 3) := by decide +kernel
theorem dX7_save_26 : decode cX7_save 26 = .ok (.getfield 199, 3) := by decide +kernel
theorem dX7_save_29 : decode cX7_save 29 = .ok (.getfield 203, 3) := by decide +kernel
theorem dX7_save_32 : decode cX7_save 32 = .ok (.iastore, 1) := by decide +kernel
theorem dX7_save_33 : decode cX7_save 33 = .ok (.return_, 1) := by decide +kernel
theorem dX7_undo_0 : decode cX7_undo 0 = .ok (.aload_n 0, 1) := by decide +kernel
theorem dX7_undo_1 : decode cX7_undo 1 = .ok (.getfield 24, 3) := by decide +kernel
theorem dX7_undo_4 : decode cX7_undo 4 = .ok (.iload_n 1, 1) := by decide +kernel
theorem dX7_undo_5 : decode cX7_undo 5 = .ok (.aaload, 1) := by decide +kernel
theorem dX7_undo_6 : decode cX7_undo 6 = .ok (.iconst 0, 1) := by decide +kernel
theorem dX7_undo_7 : decode cX7_undo 7 = .ok (.aload_n 0, 1) := by decide +kernel
theorem dX7_undo_8 : decode cX7_undo 8 = .ok (.getfield 18, 3) := by decide +kernel
theorem dX7_undo_11 : decode cX7_undo 11 = .ok (.iconst 0, 1) := by decide +kernel
theorem dX7_undo_12 : decode cX7_undo 12 = .ok (.bipush 66, 2) := by decide +kernel
theorem dX7_undo_14 : decode cX7_undo 14 = .ok (.invokestatic 65, 3) := by decide +kernel
theorem dX7_undo_17 : decode cX7_undo 17 = .ok (.aload_n 0, 1) := by decide +kernel
theorem dX7_undo_18 : decode cX7_undo 18 = .ok (.getfield 44, 3) := by decide +kernel
theorem dX7_undo_21 : decode cX7_undo 21 = .ok (.getfield 199, 3) := by decide +kernel
theorem dX7_undo_24 : decode cX7_undo 24 = .ok (.aload_n 0, 1) := by decide +kernel
theorem dX7_undo_25 : decode cX7_undo 25 = .ok (.getfield 27, 3) := by decide +kernel
theorem dX7_undo_28 : decode cX7_undo 28 = .ok (.iload_n 1, 1) := by decide +kernel
theorem dX7_undo_29 : decode cX7_undo 29 = .ok (.iaload, 1) := by decide +kernel
theorem dX7_undo_30 : decode cX7_undo 30 = .ok (.putfield 203, 3) := by decide +kernel
theorem dX7_undo_33 : decode cX7_undo 33 = .ok (.return_, 1) := by decide +kernel
theorem dX7_act_0 : decode cX7_act 0 = .ok (.iload_n 3, 1) := by decide +kernel
theorem dX7_act_1 : decode cX7_act 1 = .ok (.tableswitch 196 0 15 #[79, 86, 94, 102, 109, 120, 196, 196, 128, 137, 145, 154, 161, 168, 178, 188], 79) := by decide +kernel
theorem dX7_act_80 : decode cX7_act 80 = .ok (.aload_n 1, 1) := by decide +kernel
theorem dX7_act_81 : decode cX7_act 81 = .ok (.lload 4, 2) := by decide +kernel
theorem dX7_act_83 : decode cX7_act 83 = .ok (.invokevirtual 192, 3) := by decide +kernel
theorem dX7_act_86 : decode cX7_act 86 = .ok (.ireturn, 1) := by decide +kernel
theorem dX7_act_87 : decode cX7_act 87 = .ok (.aload_n 0, 1) := by decide +kernel
theorem dX7_act_88 : decode cX7_act 88 = .ok (.aload_n 1, 1) := by decide +kernel
theorem dX7_act_89 : decode cX7_act 89 = .ok (.lload 4, 2) := by decide +kernel
theorem dX7_act_91 : decode cX7_act 91 = .ok (.invokevirtual 208, 3) := by decide +kernel
theorem dX7_act_94 : decode cX7_act 94 = .ok (.ireturn, 1) := by decide +kernel
theorem dX7_act_95 : decode cX7_act 95 = .ok (.aload_n 0, 1) := by decide +kernel
theorem dX7_act_96 : decode cX7_act 96 = .ok (.aload_n 1, 1) := by decide +kernel
theorem dX7_act_97 : decode cX7_act 97 = .ok (.lload 4, 2) := by decide +kernel
theorem dX7_act_99 : decode cX7_act 99 = .ok (.invokevirtual 212, 3) := by decide +kernel
theorem dX7_act_102 : decode cX7_act 102 = .ok (.ireturn, 1) := by decide +kernel
theorem dX7_act_103 : decode cX7_act 103 = .ok (.aload_n 1, 1) := by decide +kernel
theorem dX7_act_104 : decode cX7_act 104 = .ok (.lload 4, 2) := by decide +kernel
theorem dX7_act_106 : decode cX7_act 106 = .ok (.invokevirtual 215, 3) := by decide +kernel
theorem dX7_act_109 : decode cX7_act 109 = .ok (.ireturn, 1) := by decide +kernel
theorem dX7_act_110 : decode cX7_act 110 = .ok (.aload_n 1, 1) := by decide +kernel
theorem dX7_act_111 : decode cX7_act 111 = .ok (.lload 4, 2) := by decide +kernel
theorem dX7_act_113 : decode cX7_act 113 = .ok (.aload_n 2, 1) := by decide +kernel
theorem dX7_act_114 : decode cX7_act 114 = .ok (.getfield 129, 3) := by decide +kernel
theorem dX7_act_117 : decode cX7_act 117 = .ok (.invokevirtual 218, 3) := by decide +kernel
theorem dX7_act_120 : decode cX7_act 120 = .ok (.ireturn, 1) := by decide +kernel
theorem dX7_act_121 : decode cX7_act 121 = .ok (.aload_n 0, 1) := by decide +kernel
theorem dX7_act_122 : decode cX7_act 122 = .ok (.aload_n 1, 1) := by decide +kernel
theorem dX7_act_123 : decode cX7_act 123 = .ok (.lload 4, 2) := by decide +kernel
theorem dX7_act_125 : decode cX7_act 125 = .ok (.invokevirtual 221, 3) := by decide +kernel
theorem dX7_act_128 : decode cX7_act 128 = .ok (.ireturn, 1) := by decide +kernel
theorem dX7_act_129 : decode cX7_act 129 = .ok (.aload_n 1, 1) := by decide +kernel
theorem dX7_act_130 : decode cX7_act 130 = .ok (.aload_n 1, 1) := by decide +kernel
theorem dX7_act_131 : decode cX7_act 131 = .ok (.getfield 224, 3) := by decide +kernel
theorem dX7_act_134 : decode cX7_act 134 = .ok (.invokevirtual 192, 3) := by decide +kernel
theorem dX7_act_137 : decode cX7_act 137 = .ok (.ireturn, 1) := by decide +kernel
theorem dX7_act_138 : decode cX7_act 138 = .ok (.aload_n 0, 1) := by decide +kernel
theorem dX7_act_139 : decode cX7_act 139 = .ok (.aload_n 1, 1) := by decide +kernel
theorem dX7_act_140 : decode cX7_act 140 = .ok (.lload 4, 2) := by decide +kernel
theorem dX7_act_142 : decode cX7_act 142 = .ok (.invokevirtual 225, 3) := by decide +kernel
theorem dX7_act_145 : decode cX7_act 145 = .ok (.ireturn, 1) := by decide +kernel
theorem dX7_act_146 : decode cX7_act 146 = .ok (.aload_n 1, 1) := by decide +kernel
theorem dX7_act_147 : decode cX7_act 147 = .ok (.aload_n 2, 1) := by decide +kernel
theorem dX7_act_148 : decode cX7_act 148 = .ok (.getfield 129, 3) := by decide +kernel
theorem dX7_act_151 : decode cX7_act 151 = .ok (.invokevirtual 228, 3) := by decide +kernel
theorem dX7_act_154 : decode cX7_act 154 = .ok (.ireturn, 1) := by decide +kernel
theorem dX7_act_155 : decode cX7_act 155 = .ok (.aload_n 0, 1) := by decide +kernel
theorem dX7_act_156 : decode cX7_act 156 = .ok (.lload 4, 2) := by decide +kernel
theorem dX7_act_158 : decode cX7_act 158 = .ok (.invokevirtual 231, 3) := by decide +kernel
theorem dX7_act_161 : decode cX7_act 161 = .ok (.ireturn, 1) := by decide +kernel
theorem dX7_act_162 : decode cX7_act 162 = .ok (.aload_n 1, 1) := by decide +kernel
theorem dX7_act_163 : decode cX7_act 163 = .ok (.lload 4, 2) := by decide +kernel
theorem dX7_act_165 : decode cX7_act 165 = .ok (.invokevirtual 234, 3) := by decide +kernel
theorem dX7_act_168 : decode cX7_act 168 = .ok (.ireturn, 1) := by decide +kernel
theorem dX7_act_169 : decode cX7_act 169 = .ok (.aload_n 1, 1) := by decide +kernel
theorem dX7_act_170 : decode cX7_act 170 = .ok (.aload_n 1, 1) := by decide +kernel
theorem dX7_act_171 : decode cX7_act 171 = .ok (.getfield 103, 3) := by decide +kernel
theorem dX7_act_174 : decode cX7_act 174 = .ok (.i2l, 1) := by decide +kernel
theorem dX7_act_175 : decode cX7_act 175 = .ok (.invokevirtual 192, 3) := by decide +kernel
theorem dX7_act_178 : decode cX7_act 178 = .ok (.ireturn, 1) := by decide +kernel
theorem dX7_act_179 : decode cX7_act 179 = .ok (.aload_n 1, 1) := by decide +kernel
theorem dX7_act_180 : decode cX7_act 180 = .ok (.aload_n 1, 1) := by decide +kernel
theorem dX7_act_181 : decode cX7_act 181 = .ok (.getfield 237, 3) := by decide +kernel
theorem dX7_act_184 : decode cX7_act 184 = .ok (.i2l, 1) := by decide +kernel
theorem dX7_act_185 : decode cX7_act 185 = .ok (.invokevirtual 192, 3) := by decide +kernel
theorem dX7_act_188 : decode cX7_act 188 = .ok (.ireturn, 1) := by decide +kernel
theorem dX7_act_189 : decode cX7_act 189 = .ok (.aload_n 0, 1) := by decide +kernel
theorem dX7_act_190 : decode cX7_act 190 = .ok (.aload_n 1, 1) := by decide +kernel
theorem dX7_act_191 : decode cX7_act 191 = .ok (.lload 4, 2) := by decide +kernel
theorem dX7_act_193 : decode cX7_act 193 = .ok (.invokevirtual 240, 3) := by decide +kernel
theorem dX7_act_196 : decode cX7_act 196 = .ok (.ireturn, 1) := by decide +kernel
theorem dX7_act_197 : decode cX7_act 197 = .ok (.iconst 1, 1) := by decide +kernel
theorem dX7_act_198 : decode cX7_act 198 = .ok (.ireturn, 1) := by decide +kernel
theorem dX7_readCell_0 : decode cX7_readCell 0 = .ok (.lload_n 2, 1) := by decide +kernel
theorem dX7_readCell_1 : decode cX7_readCell 1 = .ok (.bipush 8, 2) := by decide +kernel
theorem dX7_readCell_3 : decode cX7_readCell 3 = .ok (.invokestatic 99, 3) := by decide +kernel
theorem dX7_readCell_6 : decode cX7_readCell 6 = .ok (.ifCond .ne 5, 3) := by decide +kernel
theorem dX7_readCell_9 : decode cX7_readCell 9 = .ok (.iconst 2, 1) := by decide +kernel
theorem dX7_readCell_10 : decode cX7_readCell 10 = .ok (.ireturn, 1) := by decide +kernel
theorem dX7_readCell_11 : decode cX7_readCell 11 = .ok (.lload_n 2, 1) := by decide +kernel
theorem dX7_readCell_12 : decode cX7_readCell 12 = .ok (.l2i, 1) := by decide +kernel
theorem dX7_readCell_13 : decode cX7_readCell 13 = .ok (.istore 4, 2) := by decide +kernel
theorem dX7_readCell_15 : decode cX7_readCell 15 = .ok (.aload_n 1, 1) := by decide +kernel
theorem dX7_readCell_16 : decode cX7_readCell 16 = .ok (.aload_n 0, 1) := by decide +kernel
theorem dX7_readCell_17 : decode cX7_readCell 17 = .ok (.getfield 18, 3) := by decide +kernel
theorem dX7_readCell_20 : decode cX7_readCell 20 = .ok (.aload_n 1, 1) := by decide +kernel
theorem dX7_readCell_21 : decode cX7_readCell 21 = .ok (.getfield 103, 3) := by decide +kernel
theorem dX7_readCell_24 : decode cX7_readCell 24 = .ok (.iload 4, 2) := by decide +kernel
theorem dX7_readCell_26 : decode cX7_readCell 26 = .ok (.invokestatic 243, 3) := by decide +kernel
theorem dX7_readCell_29 : decode cX7_readCell 29 = .ok (.laload, 1) := by decide +kernel
theorem dX7_readCell_30 : decode cX7_readCell 30 = .ok (.invokevirtual 192, 3) := by decide +kernel
theorem dX7_readCell_33 : decode cX7_readCell 33 = .ok (.istore 5, 2) := by decide +kernel
theorem dX7_readCell_35 : decode cX7_readCell 35 = .ok (.iload 5, 2) := by decide +kernel
theorem dX7_readCell_37 : decode cX7_readCell 37 = .ok (.ifCond .ne 20, 3) := by decide +kernel
theorem dX7_readCell_40 : decode cX7_readCell 40 = .ok (.aload_n 0, 1) := by decide +kernel
theorem dX7_readCell_41 : decode cX7_readCell 41 = .ok (.getfield 44, 3) := by decide +kernel
theorem dX7_readCell_44 : decode cX7_readCell 44 = .ok (.getfield 246, 3) := by decide +kernel
theorem dX7_readCell_47 : decode cX7_readCell 47 = .ok (.aload_n 1, 1) := by decide +kernel
theorem dX7_readCell_48 : decode cX7_readCell 48 = .ok (.getfield 103, 3) := by decide +kernel
theorem dX7_readCell_51 : decode cX7_readCell 51 = .ok (.iload 4, 2) := by decide +kernel
theorem dX7_readCell_53 : decode cX7_readCell 53 = .ok (.iconst 0, 1) := by decide +kernel
theorem dX7_readCell_54 : decode cX7_readCell 54 = .ok (.invokevirtual 250, 3) := by decide +kernel
theorem dX7_readCell_57 : decode cX7_readCell 57 = .ok (.iload 5, 2) := by decide +kernel
theorem dX7_readCell_59 : decode cX7_readCell 59 = .ok (.ireturn, 1) := by decide +kernel
theorem dX7_writeCell_0 : decode cX7_writeCell 0 = .ok (.aload_n 1, 1) := by decide +kernel
theorem dX7_writeCell_1 : decode cX7_writeCell 1 = .ok (.invokevirtual 185, 3) := by decide +kernel
theorem dX7_writeCell_4 : decode cX7_writeCell 4 = .ok (.lstore 4, 2) := by decide +kernel
theorem dX7_writeCell_6 : decode cX7_writeCell 6 = .ok (.lload_n 2, 1) := by decide +kernel
theorem dX7_writeCell_7 : decode cX7_writeCell 7 = .ok (.bipush 8, 2) := by decide +kernel
theorem dX7_writeCell_9 : decode cX7_writeCell 9 = .ok (.invokestatic 99, 3) := by decide +kernel
theorem dX7_writeCell_12 : decode cX7_writeCell 12 = .ok (.ifCond .ne 5, 3) := by decide +kernel
theorem dX7_writeCell_15 : decode cX7_writeCell 15 = .ok (.iconst 2, 1) := by decide +kernel
theorem dX7_writeCell_16 : decode cX7_writeCell 16 = .ok (.ireturn, 1) := by decide +kernel
theorem dX7_writeCell_17 : decode cX7_writeCell 17 = .ok (.lload_n 2, 1) := by decide +kernel
theorem dX7_writeCell_18 : decode cX7_writeCell 18 = .ok (.l2i, 1) := by decide +kernel
theorem dX7_writeCell_19 : decode cX7_writeCell 19 = .ok (.istore 6, 2) := by decide +kernel
theorem dX7_writeCell_21 : decode cX7_writeCell 21 = .ok (.aload_n 0, 1) := by decide +kernel
theorem dX7_writeCell_22 : decode cX7_writeCell 22 = .ok (.getfield 18, 3) := by decide +kernel
theorem dX7_writeCell_25 : decode cX7_writeCell 25 = .ok (.aload_n 1, 1) := by decide +kernel
theorem dX7_writeCell_26 : decode cX7_writeCell 26 = .ok (.getfield 103, 3) := by decide +kernel
theorem dX7_writeCell_29 : decode cX7_writeCell 29 = .ok (.iload 6, 2) := by decide +kernel
theorem dX7_writeCell_31 : decode cX7_writeCell 31 = .ok (.invokestatic 243, 3) := by decide +kernel
theorem dX7_writeCell_34 : decode cX7_writeCell 34 = .ok (.lload 4, 2) := by decide +kernel
theorem dX7_writeCell_36 : decode cX7_writeCell 36 = .ok (.lastore, 1) := by decide +kernel
theorem dX7_writeCell_37 : decode cX7_writeCell 37 = .ok (.aload_n 0, 1) := by decide +kernel
theorem dX7_writeCell_38 : decode cX7_writeCell 38 = .ok (.getfield 44, 3) := by decide +kernel
theorem dX7_writeCell_41 : decode cX7_writeCell 41 = .ok (.getfield 246, 3) := by decide +kernel
theorem dX7_writeCell_44 : decode cX7_writeCell 44 = .ok (.aload_n 1, 1) := by decide +kernel
theorem dX7_writeCell_45 : decode cX7_writeCell 45 = .ok (.getfield 103, 3) := by decide +kernel
theorem dX7_writeCell_48 : decode cX7_writeCell 48 = .ok (.iload 6, 2) := by decide +kernel
theorem dX7_writeCell_50 : decode cX7_writeCell 50 = .ok (.iconst 1, 1) := by decide +kernel
theorem dX7_writeCell_51 : decode cX7_writeCell 51 = .ok (.invokevirtual 250, 3) := by decide +kernel
theorem dX7_writeCell_54 : decode cX7_writeCell 54 = .ok (.iconst 0, 1) := by decide +kernel
theorem dX7_writeCell_55 : decode cX7_writeCell 55 = .ok (.ireturn, 1) := by decide +kernel
theorem dX7_send_0 : decode cX7_send 0 = .ok (.aload_n 1, 1) := by decide +kernel
theorem dX7_send_1 : decode cX7_send 1 = .ok (.invokevirtual 185, 3) := by decide +kernel
theorem dX7_send_4 : decode cX7_send 4 = .ok (.lstore 4, 2) := by decide +kernel
theorem dX7_send_6 : decode cX7_send 6 = .ok (.aload_n 0, 1) := by decide +kernel
theorem dX7_send_7 : decode cX7_send 7 = .ok (.getfield 12, 3) := by decide +kernel
theorem dX7_send_10 : decode cX7_send 10 = .ok (.lload_n 2, 1) := by decide +kernel
theorem dX7_send_11 : decode cX7_send 11 = .ok (.invokevirtual 256, 3) := by decide +kernel
theorem dX7_send_14 : decode cX7_send 14 = .ok (.ifCond .ne 5, 3) := by decide +kernel
theorem dX7_send_17 : decode cX7_send 17 = .ok (.iconst 1, 1) := by decide +kernel
theorem dX7_send_18 : decode cX7_send 18 = .ok (.ireturn, 1) := by decide +kernel
theorem dX7_send_19 : decode cX7_send 19 = .ok (.lload_n 2, 1) := by decide +kernel
theorem dX7_send_20 : decode cX7_send 20 = .ok (.l2i, 1) := by decide +kernel
theorem dX7_send_21 : decode cX7_send 21 = .ok (.istore 6, 2) := by decide +kernel
theorem dX7_send_23 : decode cX7_send 23 = .ok (.lload 4, 2) := by decide +kernel
theorem dX7_send_25 : decode cX7_send 25 = .ok (.lconst 0, 1) := by decide +kernel
theorem dX7_send_26 : decode cX7_send 26 = .ok (.lcmp, 1) := by decide +kernel
theorem dX7_send_27 : decode cX7_send 27 = .ok (.ifCond .lt 21, 3) := by decide +kernel
theorem dX7_send_30 : decode cX7_send 30 = .ok (.lload 4, 2) := by decide +kernel
theorem dX7_send_32 : decode cX7_send 32 = .ok (.aload_n 0, 1) := by decide +kernel
theorem dX7_send_33 : decode cX7_send 33 = .ok (.getfield 18, 3) := by decide +kernel
theorem dX7_send_36 : decode cX7_send 36 = .ok (.aload_n 1, 1) := by decide +kernel
theorem dX7_send_37 : decode cX7_send 37 = .ok (.getfield 103, 3) := by decide +kernel
theorem dX7_send_40 : decode cX7_send 40 = .ok (.invokestatic 260, 3) := by decide +kernel
theorem dX7_send_43 : decode cX7_send 43 = .ok (.laload, 1) := by decide +kernel
theorem dX7_send_44 : decode cX7_send 44 = .ok (.lcmp, 1) := by decide +kernel
theorem dX7_send_45 : decode cX7_send 45 = .ok (.ifCond .le 5, 3) := by decide +kernel
theorem dX7_send_48 : decode cX7_send 48 = .ok (.iconst 4, 1) := by decide +kernel
theorem dX7_send_49 : decode cX7_send 49 = .ok (.ireturn, 1) := by decide +kernel
theorem dX7_send_50 : decode cX7_send 50 = .ok (.aload_n 0, 1) := by decide +kernel
theorem dX7_send_51 : decode cX7_send 51 = .ok (.getfield 18, 3) := by decide +kernel
theorem dX7_send_54 : decode cX7_send 54 = .ok (.aload_n 1, 1) := by decide +kernel
theorem dX7_send_55 : decode cX7_send 55 = .ok (.getfield 103, 3) := by decide +kernel
theorem dX7_send_58 : decode cX7_send 58 = .ok (.invokestatic 260, 3) := by decide +kernel
theorem dX7_send_61 : decode cX7_send 61 = .ok (.dup2, 1) := by decide +kernel
theorem dX7_send_62 : decode cX7_send 62 = .ok (.laload, 1) := by decide +kernel
theorem dX7_send_63 : decode cX7_send 63 = .ok (.lload 4, 2) := by decide +kernel
theorem dX7_send_65 : decode cX7_send 65 = .ok (.lsub, 1) := by decide +kernel
theorem dX7_send_66 : decode cX7_send 66 = .ok (.lastore, 1) := by decide +kernel
theorem dX7_send_67 : decode cX7_send 67 = .ok (.aload_n 0, 1) := by decide +kernel
theorem dX7_send_68 : decode cX7_send 68 = .ok (.getfield 18, 3) := by decide +kernel
theorem dX7_send_71 : decode cX7_send 71 = .ok (.iload 6, 2) := by decide +kernel
theorem dX7_send_73 : decode cX7_send 73 = .ok (.invokestatic 260, 3) := by decide +kernel
theorem dX7_send_76 : decode cX7_send 76 = .ok (.dup2, 1) := by decide +kernel
theorem dX7_send_77 : decode cX7_send 77 = .ok (.laload, 1) := by decide +kernel
theorem dX7_send_78 : decode cX7_send 78 = .ok (.lload 4, 2) := by decide +kernel
theorem dX7_send_80 : decode cX7_send 80 = .ok (.ladd, 1) := by decide +kernel
theorem dX7_send_81 : decode cX7_send 81 = .ok (.lastore, 1) := by decide +kernel
theorem dX7_send_82 : decode cX7_send 82 = .ok (.aload_n 0, 1) := by decide +kernel
theorem dX7_send_83 : decode cX7_send 83 = .ok (.getfield 18, 3) := by decide +kernel
theorem dX7_send_86 : decode cX7_send 86 = .ok (.bipush 54, 2) := by decide +kernel
theorem dX7_send_88 : decode cX7_send 88 = .ok (.aload_n 1, 1) := by decide +kernel
theorem dX7_send_89 : decode cX7_send 89 = .ok (.getfield 103, 3) := by decide +kernel
theorem dX7_send_92 : decode cX7_send 92 = .ok (.iadd, 1) := by decide +kernel
theorem dX7_send_93 : decode cX7_send 93 = .ok (.dup2, 1) := by decide +kernel
theorem dX7_send_94 : decode cX7_send 94 = .ok (.laload, 1) := by decide +kernel
theorem dX7_send_95 : decode cX7_send 95 = .ok (.lload 4, 2) := by decide +kernel
theorem dX7_send_97 : decode cX7_send 97 = .ok (.ladd, 1) := by decide +kernel
theorem dX7_send_98 : decode cX7_send 98 = .ok (.lastore, 1) := by decide +kernel
theorem dX7_send_99 : decode cX7_send 99 = .ok (.aload_n 0, 1) := by decide +kernel
theorem dX7_send_100 : decode cX7_send 100 = .ok (.getfield 18, 3) := by decide +kernel
theorem dX7_send_103 : decode cX7_send 103 = .ok (.bipush 60, 2) := by decide +kernel
theorem dX7_send_105 : decode cX7_send 105 = .ok (.iload 6, 2) := by decide +kernel
theorem dX7_send_107 : decode cX7_send 107 = .ok (.iadd, 1) := by decide +kernel
theorem dX7_send_108 : decode cX7_send 108 = .ok (.dup2, 1) := by decide +kernel
theorem dX7_send_109 : decode cX7_send 109 = .ok (.laload, 1) := by decide +kernel
theorem dX7_send_110 : decode cX7_send 110 = .ok (.lload 4, 2) := by decide +kernel
theorem dX7_send_112 : decode cX7_send 112 = .ok (.ladd, 1) := by decide +kernel
theorem dX7_send_113 : decode cX7_send 113 = .ok (.lastore, 1) := by decide +kernel
theorem dX7_send_114 : decode cX7_send 114 = .ok (.iconst 0, 1) := by decide +kernel
theorem dX7_send_115 : decode cX7_send 115 = .ok (.ireturn, 1) := by decide +kernel
theorem dX7_addTell_0 : decode cX7_addTell 0 = .ok (.aload_n 0, 1) := by decide +kernel
theorem dX7_addTell_1 : decode cX7_addTell 1 = .ok (.getfield 44, 3) := by decide +kernel
theorem dX7_addTell_4 : decode cX7_addTell 4 = .ok (.getfield 199, 3) := by decide +kernel
